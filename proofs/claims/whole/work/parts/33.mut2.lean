/-! THE REFERENCE'S place, setDuration, improve -/
theorem sameD.z {D E : Nat → Int} (h : sameD D E) (hz : zbD D) : zbD E := fun i hi => by rw [h.hi (by omega)]; exact hz i hi
theorem duF_z {D : Nat → Int} {o : Nat} {d : Int} (ho : o < 36) (hz : zbD D) : zbD (duF D o d) := fun i hi => by rw [duF_o (by omega)]; exact hz i hi
/-- steps of improve: the plan and how many -/
noncomputable def impX (cs : List Int) : Nat → (Nat → Int) → (Nat → Int) × Nat
  | 0, D => (D, 0)
  | f + 1, D => pIf ((bestX D cs).1 ≠ -1 ∧ betF (bestX D cs).2.1 (bestX D cs).2.2 (spanX D) (costX D cs)) ((impX cs f (exF D ((bestX D cs).1 / 100).toNat ((bestX D cs).1 % 100).toNat)).1, (impX cs f (exF D ((bestX D cs).1 / 100).toNat ((bestX D cs).1 % 100).toNat)).2 + 1) (D, 0)
section M1
variable {Γ : GG} {P : MP} {I : MM} {R : Int → MM → Prop} {Rv : MM → Prop} {cs : List Int} {D : Nat → Int} {n : Nat} {H : Nat → (Nat → Int) × List Int}
theorem q_improve (hM : LM Γ P) (r : RF I D cs n H) {x : Int} (hx : inR x) (hy : 1 ≤ x → x ≤ 20 → ∀ J, KM I 0 J → RF J (impX cs x.toNat D).1 cs (rmN n) (rmH (D, cs) n H) → R ((impX cs x.toNat D).2 : Int) J) (hn : ¬ (1 ≤ x ∧ x ≤ 20) → ∀ J, K0 I 1 J → R 0 J) : Cl Γ m_X6_improve [vR 1, vI x] P I (ri P R) := by
  have lp : ∀ (f k : Nat) (E : Nat → Int) (J : MM), x = (k : Int) + f → x ≤ 20 → k ≤ 20 → KM I 0 J → RF J E cs (rmN n) (rmH (D, cs) n H) → (∀ K, KM I 0 K → RF K (impX cs f E).1 cs (rmN n) (rmH (D, cs) n H) → R ((k : Int) + (impX cs f E).2) K) → XM Γ m_X6_improve 0 0 36 [(0, vR 1), (1, vI x), (2, vI (k : Int))] [] P J (ri P R) := by
    intro f
    induction f with
    | zero =>
      intro k E J hk hf hk2 hJ rJ hR
      refine t_X6_improve_36 hM ⟨⟨by omega, by omega⟩, hx, fun _ => ?_, fun q => absurd (by omega) q⟩
      have := hR J hJ rJ
      simp only [impX] at this
      rw [show (k : Int) + ((0 : Nat) : Int) = x by omega] at this
      exact this
    | succ f ih =>
      intro k E J hk hf hk2 hJ rJ hR
      have hg := rJ.gd
      refine t_X6_improve_36 hM ⟨⟨by omega, by omega⟩, hx, fun q => absurd q (by omega), fun _ => k_spanNow hM hg.1 hg.2.1 hg.2.2.2.1 (fun K k1 k2 k3 => ?_)⟩
      have rK := rJ.q k1.kp
      have gK := rK.gd
      rw [rJ.d] at k2 ⊢
      have hTB := td_TBv k2 k3
      refine c_costOfPlan hM gK.1 (by rw [rK.d]; exact k3.v) gK.2.2.1 (fun L l1 => ?_)
      rw [rK.d, sumF_same rK.g.1.1 k2.td]
      have rL := rK.q l1.kp
      refine c_findBest hM (cs := cs) rL.gd (fun M m1 m2 m3 => ?_)
      rw [rL.d] at m2 m3 ⊢
      have rM := rL.q m1.kp
      have e1 : M 1 0 = J 1 0 := by rw [m1.2 0 (by decide) (by decide), l1 1 (by decide), k1 1 (by decide) (by decide) (by decide)]
      have kM : KM I 0 M := hJ.go (((k1.kp.trans l1.kp).trans m1.kp).m) e1
      have fin := hR
      unfold impX at fin
      refine ⟨⟨by have := m2.1; omega, by have := m2.2.1; omega⟩, fun q => ?_, fun q => ?_⟩
      · rw [pIf_f (fun z => z.1 q)] at fin
        have := fin M kM rM
        simpa using this
      · obtain ⟨v1, v2⟩ := m3 q
        rw [v1, v2]
        refine c_isBetter m2.2.2.1 m2.2.2.2.1 (spanF_r rK.g.1.1 hTB) (sumF_r rK.g.1.1 rK.g.1.2.2.1 hTB) (fun z => ?_) (fun z => ?_)
        · rw [pIf_t ⟨q, z⟩] at fin
          obtain ⟨a, b, h1, h2, h3, h4⟩ := m2.2.2.2.2 q
          have pre := exF_pre rK.g.1.1 h2 h3
          rw [h1] at fin ⊢
          have ea : (100 * (a : Int) + (b : Int)) / 100 = (a : Int) := by omega
          have eb : (100 * (a : Int) + (b : Int)) % 100 = (b : Int) := by omega
          rw [ea, eb] at fin ⊢
          rw [Int.toNat_natCast, Int.toNat_natCast] at fin
          refine ⟨⟨by decide, by decide⟩, fun _ => ⟨by omega, c_exchange hM pre.1 (by omega) ?_⟩, fun y => absurd y (by decide)⟩
          refine ih (k + 1) _ _ (by omega) (by omega) (by omega) (kM.go exD_dt.m (by rw [exD_q (by decide)])) (rM.ex h2 h3 h4) (fun K2 a1 a2 => ?_)
          have := fin K2 a1 a2
          push_cast at this ⊢
          rw [show (k : Int) + 1 + ((impX cs f (exF E a b)).2 : Int) = (k : Int) + (((impX cs f (exF E a b)).2 : Int) + 1) by omega]
          exact this
        · rw [pIf_f (fun y => z y.2)] at fin
          refine ⟨⟨by decide, by decide⟩, fun y => absurd rfl y, fun _ => ?_⟩
          have := fin M kM rM
          simpa using this
  refine cl_of n_X6_improve (Nat.le_of_ble_eq_true rfl) (t_X6_improve_0 hM (by
    intro A hA
    rw [hA]
    have kA := (K0.mk (I := I) (t := 0))
    refine c_in hx ⟨by decide, by decide⟩ ⟨by decide, by decide⟩ (fun a b => ?_) (fun a => ?_)
    · refine ⟨⟨by decide, by decide⟩, fun _ => c_fails0 hM th0 ⟨⟨by decide, by decide⟩, fun _ => c_remember hM (r.q kA.1) (fun J j1 j2 j3 => ?_), fun z => absurd rfl z⟩, fun z => absurd z (by decide)⟩
      refine lp x.toNat 0 D J (by omega) (by omega) (by omega) (kA.m.go j2 j3) j1 (fun K k1 k2 => ?_)
      have := hy a b K k1 k2
      simpa using this
    · exact ⟨⟨by decide, by decide⟩, fun z => absurd rfl z, fun _ => c_fails1 hM th0 (Or.inl rfl) ⟨⟨by decide, by decide⟩, fun z => absurd z (by decide), fun _ => hn (fun z => by omega) _ K0.mk2⟩⟩))
theorem q_setDuration (hM : LM Γ P) (r : RF I D cs n H) {j k d : Int} (hj : inR j) (hk : inR k) (hd : inR d) (hy : oOk D j k → 1 ≤ d → d ≤ 99 → ∀ J, KM I 0 J → RF J (duF D (6 * j + k).toNat d) cs (rmN n) (rmH (D, cs) n H) → R (D (83 + 2 * (6 * j + k).toNat + 1)) J)
    (hn : ¬ oOk D j k → ∀ J, K0 I 1 J → R 0 J) (hn2 : oOk D j k → ¬ (1 ≤ d ∧ d ≤ 99) → ∀ J, K0 I 2 J → R 0 J) : Cl Γ m_X6_setDuration [vR 1, vI j, vI k, vI d] P I (ri P R) := by
  have hW := r.gd.1
  refine cl_of n_X6_setDuration (Nat.le_of_ble_eq_true rfl) (t_X6_setDuration_0 hM (by
    intro A hA
    rw [hA]
    have kA := (K0.mk (I := I) (t := 0))
    refine c_noOperation hM (by rw [th3]; exact hW) th0 hj hk (fun q => ?_) (fun q => ?_)
    · rw [th3, r.d] at q
      obtain ⟨o, ho, eo, -, -⟩ := q.nat r.g.1.1
      have h36 := ho.1
      have hy1 := hy q
      have hn21 := hn2 q
      rw [eo] at hy1 ⊢
      rw [Int.toNat_natCast] at hy1
      refine ⟨⟨by decide, by decide⟩, fun z => absurd rfl z, fun _ => c_in hd ⟨by decide, by decide⟩ ⟨by decide, by decide⟩ (fun a b => ?_) (fun a => ?_)⟩
      · refine ⟨⟨by decide, by decide⟩, fun _ => c_fails0 hM th0 ⟨⟨by decide, by decide⟩, fun _ => c_remember hM (r.q kA.1) (fun J j1 j2 j3 => ?_), fun z => absurd rfl z⟩, fun z => absurd z (by decide)⟩
        refine c_operationAt ?_
        intro u hu
        refine ⟨by omega, by omega, ?_⟩
        rw [show u.toNat = 83 + 2 * o + 1 by omega]
        intro w hw B hB
        rw [hw, j1.d]
        have dB : dtOnly J B := fun q hq => by rw [hB, up2_ne hq]
        refine hy1 a b B ((kA.m.go j2 j3).go dB.m (by rw [dB 1 (by decide)])) (j1.dt dB ?_ (duF_gn r.g h36 ⟨a, b⟩) ?_)
        · rw [hB]
          funext i
          unfold duF up2
          simp only [if_true]
          rw [j1.d]
        · have := j1.z 3 (Or.inl rfl)
          rw [j1.d] at this
          exact duF_z h36 this
      · exact ⟨⟨by decide, by decide⟩, fun z => absurd rfl z, fun _ => c_fails1 hM th0 (Or.inr rfl) ⟨⟨by decide, by decide⟩, fun z => absurd z (by decide), fun _ => hn21 (fun z => by omega) _ K0.mk2⟩⟩
    · rw [th3, r.d] at q
      exact ⟨⟨by decide, by decide⟩, fun _ => hn q _ K0.mk2, fun z => absurd z (by decide)⟩))
theorem q_place (hM : LM Γ P) (r : RF I D cs n H) {j k p : Int} (hj : inR j) (hk : inR k) (hp : inR p)
    (hy : ∀ o : Nat, oOk D j k → vO D o → 6 * j + k = (o : Int) → 0 ≤ p → p < D (5 + 9 * mcO D o + 2) → Fr (mvF D (mcO D o) (plD D o) p.toNat) → ∀ J, KM I 0 J → RF J (mvF D (mcO D o) (plD D o) p.toNat) cs (rmN n) (rmH (D, cs) n H) → R (spanX (mvF D (mcO D o) (plD D o) p.toNat)) J)
    (hd : ∀ o : Nat, oOk D j k → vO D o → 6 * j + k = (o : Int) → 0 ≤ p → p < D (5 + 9 * mcO D o + 2) → ¬ Fr (mvF D (mcO D o) (plD D o) p.toNat) → ∀ J, KM I 2 J → RF J D cs n H → R 0 J)
    (hn : ¬ oOk D j k → ∀ J, K0 I 1 J → R 0 J) (hn2 : ∀ o : Nat, oOk D j k → vO D o → 6 * j + k = (o : Int) → ¬ (0 ≤ p ∧ p < D (5 + 9 * mcO D o + 2)) → ∀ J, K0 I 1 J → R 0 J) : Cl Γ m_X6_place [vR 1, vI j, vI k, vI p] P I (ri P R) := by
  have hW := r.gd.1
  refine cl_of n_X6_place (Nat.le_of_ble_eq_true rfl) (t_X6_place_0 hM (by
    intro A hA
    rw [hA]
    have kA := (K0.mk (I := I) (t := 0))
    refine c_noOperation hM (by rw [th3]; exact hW) th0 hj hk (fun q => ?_) (fun q => ?_)
    · rw [th3, r.d] at q
      obtain ⟨o, ho, eo, -, -⟩ := q.nat r.g.1.1
      have h36 := ho.1
      have hy1 := hy o q ho eo
      have hd1 := hd o q ho eo
      have hn21 := hn2 o q ho eo
      rw [eo]
      obtain ⟨m1, m2⟩ := mcO_lt r.g.1.1 h36
      obtain ⟨p1, p2, p3⟩ := plD_at r.g.1.1 r.g.1.2.1 ho
      have hmm := r.g.1.1.2.2.2 _ m1
      refine ⟨⟨by decide, by decide⟩, fun _ => ?_, fun z => absurd rfl z⟩
      intro u hu
      rw [hu]
      refine c_machineOf hM h36 (c_machine ?_)
      rw [th3, r.d, m2]
      rw [show (5 + 9 * (mcO D o : Int) + 2).toNat = 5 + 9 * mcO D o + 2 by omega]
      refine ⟨by omega, by omega, ?_⟩
      refine c_in hp ⟨by decide, by decide⟩ ⟨by omega, by omega⟩ (fun a b => ?_) (fun a => ?_)
      · have ok := mvF_ok (m := mcO D o) (f := plD D o) (t := p.toNat) m1 r.g.1.1 r.g.1.2.1 p1 p2 (by omega)
        have hy2 := hy1 a (by omega)
        have hd2 := hd1 a (by omega)
        rw [show p = ((p.toNat : Nat) : Int) by omega]
        have hpt : ((p.toNat : Nat) : Int) < D (5 + 9 * mcO D o + 2) := by omega
        generalize p.toNat = t at *
        refine ⟨⟨by decide, by decide⟩, fun _ => c_fails0 hM th0 ⟨⟨by decide, by decide⟩, fun _ => c_copy (LM_a8 hM) (LM_a10 hM) ?_, fun z => absurd rfl z⟩, fun z => absurd z (by decide)⟩
        have rA := r.q kA.1
        have z3 := rA.z 3 (Or.inl rfl)
        have z5 := rA.z 5 (Or.inr (Or.inr (Or.inl rfl)))
        have zC := rA.z.cp z3 z5
        have c3 : cp2 (up2 I 1 0 0) 3 5 1655 3 = D := by rw [cp2_ne (by decide)]; exact rA.d
        have c5 : cp2 (up2 I 1 0 0) 3 5 1655 5 = D := by rw [cp2_row z3 z5]; exact rA.d
        have cq : ∀ q, q ≠ 5 → cp2 (up2 I 1 0 0) 3 5 1655 q = up2 I 1 0 0 q := fun q hq => cp2_ne hq
        generalize cp2 (up2 I 1 0 0) 3 5 1655 = C at *
        refine c_bring hM (by rw [c3]; exact r.g.1.1) (by rw [c3]; exact r.g.1.2.1) (o := o) (t := t) (by rw [c3]; exact ho) (by rw [c3]; exact hpt) (fun J j1 j2 => ?_)
        rw [c3] at j2
        have back : ∀ K, trOnly J K → ∃ B, B = cp2 K 5 3 1655 ∧ B 3 = D ∧ (∀ q, q ≠ 5 → q ≠ 7 → q ≠ 8 → q ≠ 9 → q ≠ 10 → B q = up2 I 1 0 0 q) ∧ zbR B := by
          intro K hK
          have zK : zbR K := fun q hq => by
            by_cases e : q = 3
            · rw [e, hK 3 (by decide) (by decide) (by decide) (by decide), j2]
              have := zC 3 (Or.inl rfl)
              rw [c3] at this
              exact ok.1.z this
            · rw [hK q (by omega) (by omega) (by omega) (by omega), j1 q e]; exact zC q hq
          have y5 := zK 5 (Or.inr (Or.inr (Or.inl rfl)))
          have y3 := zK 3 (Or.inl rfl)
          have e3 : cp2 K 5 3 1655 3 = D := by rw [cp2_row y5 y3, hK 5 (by decide) (by decide) (by decide) (by decide), j1 5 (by decide), c5]
          refine ⟨_, rfl, e3, fun q q5 q7 q8 q9 q10 => ?_, zK.cp y5 y3⟩
          by_cases e : q = 3
          · rw [e, e3]; exact rA.d.symm
          · rw [cp2_ne e, hK q q7 q8 q9 q10, j1 q e, cq q q5]
        have rB : ∀ B : MM, B 3 = D → (∀ q, q ≠ 5 → q ≠ 7 → q ≠ 8 → q ≠ 9 → q ≠ 10 → B q = up2 I 1 0 0 q) → zbR B → RF B D cs n H ∧ KM I 0 B := by
          intro B b1 b2 b3
          have e1 : B 1 = up2 I 1 0 0 1 := b2 1 (by decide) (by decide) (by decide) (by decide) (by decide)
          refine ⟨⟨b1, r.g, r.n8, by rw [e1]; exact rA.c, fun k hk => by rw [b2 (13 + k) (by omega) (by omega) (by omega) (by omega) (by omega)]; exact rA.h k hk, b3⟩, ⟨fun q q1 q3 q5 q7 q8 q9 q10 q11 q12 q13 => ?_, fun i i0 i12 _ _ _ => ?_⟩, by rw [e1, up2_eq]⟩
          · rw [b2 q q5 q7 q8 q9 q10, up2_ne q1]
          · rw [e1, up2_nj i0]
        refine k_isDeadlocked hM (by rw [j2]; exact ok.2.1) (by rw [j2]; exact ok.2.2) (fun K k1 _ _ k4 => ?_) (fun K k1 k2 => ?_)
        · rw [j2] at k4
          refine c_copy (LM_a10 hM) (LM_a8 hM) ?_
          obtain ⟨B, b0, b1, b2, b3⟩ := back K k1
          rw [← b0]
          obtain ⟨r1, r2⟩ := rB B b1 b2 b3
          refine c_fails0 hM r2.2 ⟨⟨by decide, by decide⟩, fun _ => c_remember hM r1 (fun L l1 l2 l3 => ?_), fun z => absurd rfl z⟩
          refine c_bring hM (by rw [l1.d]; exact r.g.1.1) (by rw [l1.d]; exact r.g.1.2.1) (o := o) (t := t) (by rw [l1.d]; exact ho) (by rw [l1.d]; exact hpt) (fun M n1 n2 => ?_)
          rw [l1.d] at n2
          have zD := l1.z 3 (Or.inl rfl)
          rw [l1.d] at zD
          refine e_span hM (l1.dt n1 n2 (ok.1.gn r.g ok.2.1 ok.2.2 k4) (ok.1.z zD)) (fun K2 a1 a2 => ?_)
          exact hy2 k4 K2 (((r2.go l2 l3).go n1.m (by rw [n1 1 (by decide)])).as a1) a2
        · rw [j2] at k2
          refine c_copy (LM_a10 hM) (LM_a8 hM) ?_
          obtain ⟨B, b0, b1, b2, b3⟩ := back K k1
          rw [← b0]
          obtain ⟨r1, r2⟩ := rB B b1 b2 b3
          refine c_fails1 hM r2.2 (Or.inr rfl) ⟨⟨by decide, by decide⟩, fun z => absurd z (by decide), fun _ => ?_⟩
          have kp : kpQ B (up2 B 1 0 2) := kpQ.f (Or.inl rfl)
          exact hd2 k2 _ ⟨r2.1.trans kp.m, up2_eq⟩ (r1.q kp)
      · exact ⟨⟨by decide, by decide⟩, fun z => absurd rfl z, fun _ => c_fails1 hM th0 (Or.inl rfl) ⟨⟨by decide, by decide⟩, fun z => absurd z (by decide), fun _ => hn21 (fun z => by omega) _ K0.mk2⟩⟩
    · rw [th3, r.d] at q
      exact ⟨⟨by decide, by decide⟩, fun z => absurd z (by decide), fun _ => hn q _ K0.mk2⟩))
end M1
