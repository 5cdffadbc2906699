/-! THE REFERENCE'S statement and load -/
section M1
variable {Γ : GG} {P : MP} {I : MM} {R : Int → MM → Prop} {Rv : MM → Prop} {T : Nat → Int} {L p : Nat} {D : Nat → Int} {cs : List Int}
def SS (I : MM) (T : Nat → Int) (L p : Nat) (D : Nat → Int) : Prop := JS I T L p D ∧ I 1 14 = 0 ∧ I 1 15 = D 3
theorem emW_cd {l : List Int} : emW (setD D 3 1) (encL l) = cdW D l := by
  funext i
  unfold emW cdW setD
  by_cases e3 : i = 3
  · rw [if_pos e3, if_neg (by omega), if_neg (by omega), if_pos e3]
  · simp only [e3, if_false]
theorem GS.m1 {I : MM} (h : GS I T L p) : I 1 6 = -1 := by obtain ⟨_, _, _, _, _, _, _, _, _, g⟩ := h; exact g
theorem c_statement (hM : LM Γ P) (G : SS I T L p D) (h : RDx D 6) (hc : RCx D cs) (h1 : ∀ K r, stmS T L D cs p = .ok r → rdF I K → SS K T L r.1 r.2.1 → Rv K) (h0 : ∀ K e, stmS T L D cs p = .error e → rdF I K → bad K e → zbD (K 4) → Rv K) : Cl Γ m_X6_statement [vR 1] P I (rv P Rv) := by
  have hz := h.2.2.2.2.2
  have hd := h.1
  have hs := G.1.1.sp
  have hL := G.1.1.2.2.2.1
  have hge := spc_ge (T := T) (L := L) (k := p)
  have e7 : up2 (up2 I 1 4 (spc T L p : Int)) 1 4 (spc T L p : Int) = up2 I 1 4 (spc T L p : Int) := up22
  have G7 : JS (up2 I 1 4 (spc T L p : Int)) T L p D := ⟨(G.1.1.at_ hs).eq eqp.spc, by rw [up2_ne (by decide)]; exact G.1.2⟩
  have c7 : rkF I (up2 I 1 4 (spc T L p : Int)) := (tkF.f (Or.inl rfl)).rk
  have Gi : ∀ i, i < 9 → WD T L i (spc T L p) → JS (up2 I 1 4 ((spc T L p + lenS.getD i 0 : Nat) : Int)) T L (spc T L p + lenS.getD i 0) D := fun i hi w => ⟨G.1.1.at_ (WD_end hi w).2, by rw [up2_ne (by decide)]; exact G.1.2⟩
  have ci : ∀ i : Nat, rkF I (up2 I 1 4 ((spc T L p + lenS.getD i 0 : Nat) : Int)) := fun i => (tkF.f (Or.inl rfl)).rk
  -- behind a part: the semicolon
  have semi : ∀ (K : MM) (q : Nat) (E : Nat → Int) (ce : List Int), (∀ x : Except Er (Nat × (Nat → Int) × List Int), x = bnd (expS T L q 59) (fun e => .ok (e, E, ce)) → x = stmS T L D cs p) → rdF I K → JS K T L q E → K 1 14 = 0 → K 1 15 = E 3 → zbD E → Cl Γ m_X6_expect [vR 1, vI 59] P K (rv P (fun I28 => Rv I28)) := by
    intro K q E ce hst hk GK k14 k15 zE
    refine c_expect hM GK.1 ⟨by decide, by decide⟩ (by decide) (fun M e he hm => ?_) (fun M e he hm => ?_)
    · refine h1 M (e, E, ce) (by rw [← hst _ rfl, he]; rfl) (hk.trans hm.1.rk.rd) ⟨hm.js GK, ?_, ?_⟩
      · rw [hm.1.2 14 (by decide) (by decide) (by decide) (by decide)]; exact k14
      · rw [hm.1.2 15 (by decide) (by decide) (by decide) (by decide)]; exact k15
    · exact h0 M e (by rw [← hst _ rfl, he]; rfl) (hk.trans hm.1.rk.rd) hm.2 (hm.z GK zE)
  refine cl_of n_X6_statement (Nat.le_of_ble_eq_true rfl) (t_X6_statement_0 hM (c_next hM G.1.1 ?_))
  intro u hu
  rw [up2_eq] at hu
  rw [hu]
  refine c_takeWord hM G7.1 (by decide) (fun w3 => ⟨⟨by decide, by decide⟩, fun z => absurd z (by decide), fun _ => ?_⟩) (fun w3 => ⟨⟨by decide, by decide⟩, fun _ => ?_, fun z => absurd rfl z⟩)
  · rw [up22]
    refine c_readJob hM (Gi 3 (by decide) w3) h (by omega) (fun K r hr k GK => ?_) (fun K e he k b z => ?_)
    · have kk := (ci 3).trans k
      obtain ⟨j1, j2, -, -⟩ := jobS_ok h hr
      refine semi K r.1 r.2 cs (fun x hx => ?_) kk.rd GK (by rw [kk.2 14 (by decide) (by decide) (by decide) (by decide)]; exact G.2.1) (by rw [kk.2 15 (by decide) (by decide) (by decide) (by decide), j2 3 (by decide) (Or.inl (by decide))]; exact G.2.2) j1.2.2.2.2.2
      rw [hx]; unfold stmS; rw [pIf_t w3, hr]; rfl
    · refine c_expect0 hM b.n (h0 K e ?_ ((ci 3).trans k).rd b z)
      unfold stmS; rw [pIf_t w3, he]; rfl
  · rw [e7]
    refine c_takeWord hM G7.1 (by decide) (fun w4 => ⟨⟨by decide, by decide⟩, fun z => absurd z (by decide), fun _ => ?_⟩) (fun w4 => ⟨⟨by decide, by decide⟩, fun _ => ?_, fun z => absurd rfl z⟩)
    · rw [up22]
      refine c_readMachine hM (Gi 4 (by decide) w4) h (fun K r hr k GK => ?_) (fun K e he k b z => ?_)
      · have kk := (ci 4).trans k
        obtain ⟨j1, j2, -, -⟩ := machS_ok h hr
        refine semi K r.1 r.2 cs (fun x hx => ?_) kk.rd GK (by rw [kk.2 14 (by decide) (by decide) (by decide) (by decide)]; exact G.2.1) (by rw [kk.2 15 (by decide) (by decide) (by decide) (by decide), j2 3 (Or.inl (by decide))]; exact G.2.2) j1.2.2.2.2.2
        rw [hx]; unfold stmS; rw [pIf_f w3, pIf_t w4, hr]; rfl
      · refine c_expect0 hM b.n (h0 K e ?_ ((ci 4).trans k).rd b z)
        unfold stmS; rw [pIf_f w3, pIf_t w4, he]; rfl
    · rw [e7]
      refine c_takeWord hM G7.1 (by decide) (fun w1 => ⟨⟨by decide, by decide⟩, fun z => absurd z (by decide), fun _ => ?_⟩) (fun w1 => ⟨⟨by decide, by decide⟩, fun _ => ?_, fun z => absurd rfl z⟩)
      · rw [up22]
        have G1 := Gi 1 (by decide) w1
        have s15 : (up2 I 1 4 ((spc T L p + lenS.getD 1 0 : Nat) : Int)) 1 15 = D 3 := by rw [up2_nj (by decide)]; exact G.2.2
        have s14 : (up2 I 1 4 ((spc T L p + lenS.getD 1 0 : Nat) : Int)) 1 14 = 0 := by rw [up2_nj (by decide)]; exact G.2.1
        refine cl_of n_X6_once (Nat.le_of_ble_eq_true rfl) (t_X6_once_0 hM (by rw [s15]; omega) (fun y => ?_) (fun y => ?_))
        · rw [s15] at y
          refine c_report1 hM G1.1.2.2.1 ⟨by decide, by decide, by decide⟩ (fun K hK _ => ⟨by rw [hK.1.2 15 (by decide) (by decide) (by decide) (by decide), s15]; exact y, ?_⟩)
          intro A hA
          have bA : bad A (-2, spc T L p) := by
            have := hK.2
            unfold bad at this ⊢
            rw [hA, up2_ne (by decide), up2_nj (by decide), up2_nj (by decide)]
            exact this
          have rA : rdF K A := by rw [hA]; exact ⟨fun r a b => by rw [up2_ne b, up2_ne a], fun i _ _ _ _ _ f => by rw [up2_ne (by decide), up2_nj f]⟩
          refine e_sum hM 5 A _ bA.n (c_expect0 hM bA.n (h0 A _ ?_ (((ci 1).trans hK.1.rk).rd.trans rA) bA ?_))
          · unfold stmS; rw [pIf_f w3, pIf_f w4, pIf_f (fun q => by have := q.2; omega)]; rfl
          · rw [hA, up2_row, up2_ne (by decide), hK.1.1 4 (by decide), G1.2]
            intro i hi
            rw [setF_ne (by omega)]
            exact hz i hi
        · rw [s15] at y
          intro A hA
          have rA : rdF (up2 I 1 4 ((spc T L p + lenS.getD 1 0 : Nat) : Int)) A := by rw [hA]; exact ⟨fun r a b => by rw [up2_ne b, up2_ne a], fun i _ _ _ _ _ f => by rw [up2_ne (by decide), up2_nj f]⟩
          have z1 : zbD (setD D 3 1) := fun i hi => by rw [setD_ne (by omega)]; exact hz i hi
          have GA : CG A T L (spc T L p + lenS.getD 1 0) (setD D 3 1) (encL []) := by
            refine ⟨G1.1.keep (by rw [hA, up2_ne (by decide), up2_ne (by decide)]) (fun i hi => by rw [hA, up2_ne (by decide), up2_nj (by omega)]), ?_⟩
            rw [show encL [] = [] from rfl, emW_nil (by rw [setD_ne (by decide)]; exact (hc.2.2.2.1 y).2), hA, up2_row, up2_ne (by decide), G1.2]
            rfl
          have a14 : A 1 14 = 0 := by rw [hA, up2_ne (by decide), up2_nj (by decide)]; exact s14
          have a15 : A 1 15 = 1 := by rw [hA, up2_ne (by decide), up2_eq]
          refine c_sum6 hM z1 A _ [] _ GA a14 (by rw [show encL [] = [] from rfl]; exact Nat.zero_le _) (fun K r hr k GK k14 => ?_) (fun K e he k b z => ?_)
          · have q := sumS_q (facS_q 4) hr
            have eK : K 4 = cdW D r.2 := by rw [GK.2, List.nil_append, emW_cd]
            refine semi K r.1 (cdW D r.2) r.2 (fun x hx => ?_) (((ci 1).rd.trans rA).trans k.rd) ⟨GK.1, eK⟩ k14 ?_ (cdW_ok h hL q).1.2.2.2.2.2
            · rw [hx]; unfold stmS; rw [pIf_f w3, pIf_f w4, pIf_t ⟨w1, y⟩, hr]; rfl
            · rw [k.2 15 (by decide) (by decide) (by decide) (by decide) (by decide), a15]
              rfl
          · refine c_expect0 hM b.n (h0 K e ?_ (((ci 1).rd.trans rA).trans k.rd) b z)
            unfold stmS; rw [pIf_f w3, pIf_f w4, pIf_t ⟨w1, y⟩, he]; rfl
      · rw [e7]
        refine c_report1 hM G7.1.2.2.1 ⟨by decide, by decide, by decide⟩ (fun K hK _ => c_expect0 hM hK.2.n (h0 K _ ?_ (c7.trans hK.1.rk).rd hK.2 (hK.z G7 hz)))
        unfold stmS; rw [pIf_f w3, pIf_f w4, pIf_f (fun q => w1 q.1)]; rfl
end M1
