/-! THE CLASS: its objects as the data D says; its arcs -/
def SHr (I : MM) (σ : Nat) (D : Nat → Int) : Prop :=
  I σ 0 = D 0 ∧ I σ 1 = D 2 ∧ I σ 2 = D 1 ∧ (∀ m : Nat, (m : Int) < D 0 → I (σ + 1) m = D (5 + 9 * m) ∧ I (σ + 2) m = D (5 + 9 * m + 1) ∧ I (σ + 3) m = D (5 + 9 * m + 2)) ∧
  (∀ j : Nat, (j : Int) < D 2 → I (σ + 4) j = D (59 + 4 * j) ∧ I (σ + 5) j = D (59 + 4 * j + 1) ∧ I (σ + 6) j = D (59 + 4 * j + 2) ∧ I (σ + 7) j = D (59 + 4 * j + 3)) ∧ (∀ o : Nat, vO D o → I (σ + 8) o = D (83 + 2 * o))
def PLr (I : MM) (p : Nat) (D : Nat → Int) : Prop :=
  (∀ o : Nat, vO D o → I (p + 1) o = D (83 + 2 * o + 1)) ∧ (∀ m k : Nat, (m : Int) < D 0 → (k : Int) < D (5 + 9 * m + 2) → I (p + 2) (6 * m + k) = (oN D m k : Int))
def CSr (I : MM) (κ N : Nat) (cs : List Int) : Prop := cs.length = N ∧ ∀ i : Nat, i < N → cs[i]? = some (I κ i)
def DN (D : Nat → Int) : Prop := WR D ∧ WO D ∧ ND D
def CR (Γ : GG) (P : MP) (I : MM) (q σ κ N : Nat) (D : Nat → Int) (cs : List Int) : Prop :=
  LSch Γ P q σ κ N ∧ (q + 20 < σ ∧ q + 20 < κ) ∧ DN D ∧ SHr I σ D ∧ PLr I (q + 8) D ∧ CSr I κ N cs
section M2
variable {Γ : GG} {P : MP} {I : MM} {R : Int → MM → Prop} {Rv : MM → Prop} {cs : List Int} {D : Nat → Int} {q σ κ N : Nat}
theorem CR.s (h : CR Γ P I q σ κ N D cs) : LSch Γ P q σ κ N := h.1
theorem CR.hσ (h : CR Γ P I q σ κ N D cs) : q + 20 < σ := h.2.1.1
theorem CR.hκ (h : CR Γ P I q σ κ N D cs) : q + 20 < κ := h.2.1.2
theorem CR.dn (h : CR Γ P I q σ κ N D cs) : DN D := h.2.2.1
theorem CR.wr (h : CR Γ P I q σ κ N D cs) : WR D := h.2.2.1.1
theorem CR.wo (h : CR Γ P I q σ κ N D cs) : WO D := h.2.2.1.2.1
theorem CR.nd (h : CR Γ P I q σ κ N D cs) : ND D := h.2.2.1.2.2
theorem CR.sh (h : CR Γ P I q σ κ N D cs) : SHr I σ D := h.2.2.2.1
theorem CR.pl (h : CR Γ P I q σ κ N D cs) : PLr I (q + 8) D := h.2.2.2.2.1
theorem CR.cs' (h : CR Γ P I q σ κ N D cs) : CSr I κ N cs := h.2.2.2.2.2
theorem SHr.keep {J : MM} (h : SHr I σ D) (k : ∀ r : Nat, σ ≤ r → r < σ + 10 → J r = I r) : SHr J σ D := by
  unfold SHr
  rw [k σ (by omega) (by omega), k (σ + 1) (by omega) (by omega), k (σ + 2) (by omega) (by omega), k (σ + 3) (by omega) (by omega), k (σ + 4) (by omega) (by omega), k (σ + 5) (by omega) (by omega), k (σ + 6) (by omega) (by omega), k (σ + 7) (by omega) (by omega), k (σ + 8) (by omega) (by omega)]
  exact h
theorem PLr.keep {J : MM} {p : Nat} (h : PLr I p D) (k1 : J (p + 1) = I (p + 1)) (k2 : J (p + 2) = I (p + 2)) : PLr J p D := by
  unfold PLr; rw [k1, k2]; exact h
theorem CSr.keep {J : MM} (h : CSr I κ N cs) (k : J κ = I κ) : CSr J κ N cs := by unfold CSr; rw [k]; exact h
theorem CR.keep {J : MM} (h : CR Γ P I q σ κ N D cs) (k : ∀ r : Nat, q + 8 < r → J r = I r) : CR Γ P J q σ κ N D cs := by
  have h1 := h.hσ
  have h2 := h.hκ
  exact ⟨h.s, h.2.1, h.dn, h.sh.keep (fun r a b => k r (by omega)), h.pl.keep (k _ (by omega)) (k _ (by omega)), h.cs'.keep (k _ (by omega))⟩
theorem SHr.ops (h : SHr I σ D) {j : Nat} (hj : (j : Int) < D 2) : I (σ + 7) j = D (59 + 4 * j + 3) := (h.2.2.2.2.1 j hj).2.2.2
theorem d_idOf {j k : Nat} (h : R ((6 * j + k : Nat) : Int) I) : Cl Γ m_X5_idOf [vI (j : Int), vI (k : Int)] P I (ri P R) :=
  cl_of n_X5_idOf (Nat.le_of_ble_eq_true rfl) (t_X5_idOf_0 (by rw [show (j : Int) * 6 + (k : Int) = ((6 * j + k : Nat) : Int) by push_cast; omega]; exact h))
theorem d_isLast (hh : LShop Γ P σ κ N) (hS : SHr I σ D) (hW : WR D) {o : Nat} (ho : vO D o) (h1 : lastO D o → R 1 I) (h0 : ¬ lastO D o → R 0 I) : Cl Γ m_X4_isLast [vR σ, vI (o : Int)] P I (ri P R) := by
  have ha := hW.a
  have h36 := ho.1
  have hj := hW.2.1 (o / 6) (by omega)
  have e := hS.ops ho.2.1
  refine cl_of n_X4_isLast (Nat.le_of_ble_eq_true rfl) (t_X4_isLast_0 hh ⟨⟨by omega, by omega⟩, by omega, by omega, by omega, ⟨by omega, by omega⟩, ?_⟩)
  rw [show ((o : Int) / 6).toNat = o / 6 by omega, e]
  unfold lastO at h1 h0
  exact ⟨⟨by omega, by omega⟩, fun z => h0 (by omega), fun z => h1 (by omega)⟩
/-- the arcs of a machine's order are there -/
def arcO (I : MM) (q : Nat) (D : Nat → Int) (o : Nat) : Prop := I (q + 2) o = sD D o ∧ (sD D o ≠ -1 → I (q + 3) o = lD D o)
def arF (q : Nat) (I J : MM) : Prop := ∀ r : Nat, r ≠ q + 2 → r ≠ q + 3 → J r = I r
theorem c_setArcs (hR : CR Γ P I q σ κ N D cs) {m : Nat} (hm : (m : Int) < D 0) (h : ∀ J, arF q I J → (∀ o : Nat, vO D o → mcO D o = m → arcO J q D o) → (∀ o : Nat, vO D o → mcO D o ≠ m → J (q + 2) o = I (q + 2) o ∧ J (q + 3) o = I (q + 3) o) → Rv J) : Cl Γ m_X2_setArcs [vR q, vI (m : Int)] P I (rv P Rv) := by
  have hW := hR.wr
  have hO := hR.wo
  have hσ := hR.hσ
  have ha := hW.a
  have hm6 : m < 6 := by omega
  have hmm := hW.2.2.2 m hm6
  have lp : ∀ (n k : Nat) (J : MM), (k : Int) + n = D (5 + 9 * m + 2) → arF q I J → (∀ k2 : Nat, k2 < k → arcO J q D (oN D m k2)) → (∀ o : Nat, vO D o → mcO D o ≠ m → J (q + 2) o = I (q + 2) o ∧ J (q + 3) o = I (q + 3) o) →
      XM Γ m_X2_setArcs 0 0 21 [(0, vR q), (1, vI (m : Int)), (2, vR σ), (3, vI (D (5 + 9 * m + 1))), (4, vI (if k = 0 then -1 else (oN D m (k - 1) : Int))), (5, vI (k : Int))] [] P J (rv P Rv) := by
    intro n
    induction n with
    | zero =>
      intro k J hk hF hd hn
      have hC := hR.keep (J := J) (fun r hr => hF r (by omega) (by omega))
      have e3 := (hC.sh.2.2.2.1 m hm).2.2
      refine t_X2_setArcs_21 hR.s ⟨by omega, by omega, ⟨by omega, by omega⟩, ?_⟩
      rw [Int.toNat_natCast, e3]
      refine ⟨⟨by omega, by omega⟩, fun _ => h J hF (fun o ho hmo => ?_) hn, fun z => absurd (by omega) z⟩
      obtain ⟨-, p2, p3⟩ := plD_at hW hO ho
      rw [hmo] at p2 p3
      have := hd (plD D o) (by omega)
      rwa [p3] at this
    | succ n ih =>
      intro k J hk hF hd hn
      have hC := hR.keep (J := J) (fun r hr => hF r (by omega) (by omega))
      obtain ⟨e1, e2, e3⟩ := hC.sh.2.2.2.1 m hm
      have hk6 : k < 6 := by omega
      obtain ⟨hv, hmo⟩ := hO.1 m k hm (by omega)
      have ho := hC.pl.2 m k hm (by omega)
      have hpl := plD_oN hW hO hm (k := k) (by omega)
      have h36 := hv.1
      refine t_X2_setArcs_21 hR.s ⟨by omega, by omega, ⟨by omega, by omega⟩, ?_⟩
      rw [Int.toNat_natCast, e3]
      refine ⟨⟨by omega, by omega⟩, fun z => absurd z (by omega), fun _ => ⟨by omega, by omega, ?_⟩⟩
      rw [show ((m : Int) * 6 + (k : Int)).toNat = 6 * m + k by omega, ho]
      intro u hu
      rw [hu, e1]
      have nxt : ∀ J2 : MM, arF q J J2 → (∀ o : Nat, o ≠ oN D m k → J2 (q + 2) o = J (q + 2) o ∧ J2 (q + 3) o = J (q + 3) o) → arcO J2 q D (oN D m k) → XM Γ m_X2_setArcs 0 0 21 [(0, vR q), (1, vI (m : Int)), (2, vR σ), (3, vI (D (5 + 9 * m + 1))), (4, vI (oN D m k : Int)), (5, vI ((k : Int) + 1))] [] P J2 (rv P Rv) := by
        intro J2 g1 g2 g3
        have := ih (k + 1) J2 (by omega) (fun r a b => (g1 r a b).trans (hF r a b)) (fun k2 hk2 => ?_) (fun o hvo hne => ?_)
        · rw [if_neg (by omega), Nat.add_sub_cancel] at this
          exact this
        · by_cases e : k2 = k
          · rw [e]; exact g3
          · have hne : oN D m k2 ≠ oN D m k := fun z => e (hO.2.1 m k2 k hm (by omega) (by omega) z)
            unfold arcO
            rw [(g2 _ hne).1, (g2 _ hne).2]
            exact hd k2 (by omega)
        · have hne2 : o ≠ oN D m k := fun z => hne (by rw [z]; exact hmo)
          rw [(g2 o hne2).1, (g2 o hne2).2]
          exact hn o hvo hne
      by_cases hk0 : k = 0
      · rw [if_pos hk0]
        refine ⟨⟨by decide, by decide⟩, fun z => absurd z (by decide), fun _ => ⟨by omega, by omega, ?_⟩⟩
        intro A hA
        rw [Int.toNat_natCast] at hA
        refine nxt A (fun r a _ => by rw [hA, up2_ne a]) (fun o hne => by rw [hA, up2_nj hne, up2_ne (by omega)]; exact ⟨rfl, rfl⟩) ?_
        have es : sD D (oN D m k) = -1 := by unfold sD; rw [hpl, if_pos hk0]
        exact ⟨by rw [hA, up2_eq, es], fun z => absurd es z⟩
      · rw [if_neg hk0]
        obtain ⟨hvb, hmb⟩ := hO.1 m (k - 1) hm (by omega)
        have hb36 := hvb.1
        have hdur := hC.pl.1 _ hvb
        have es : sD D (oN D m k) = srcv D m k := by unfold sD; rw [hpl, if_neg hk0, hmo]
        have el : lD D (oN D m k) = lngv D m k := by unfold lD; rw [hpl, hmo]
        have wide : blB D (oN D m (k - 1)) = false → ∀ A : MM, A = up2 J (q + 2) (oN D m k) (oN D m (k - 1) : Int) → ∀ B : MM, B = up2 A (q + 3) (oN D m k) (A (q + 8 + 1) (oN D m (k - 1)) + D (5 + 9 * m + 1)) → XM Γ m_X2_setArcs 0 0 21 [(0, vR q), (1, vI (m : Int)), (2, vR σ), (3, vI (D (5 + 9 * m + 1))), (4, vI (oN D m k : Int)), (5, vI ((k : Int) + 1))] [] P B (rv P Rv) := by
          intro hb A hA B hB
          refine nxt B (fun r a b => by rw [hB, up2_ne b, hA, up2_ne a]) (fun o hne => by rw [hB, up2_ne (by omega), up2_nj hne, hA, up2_nj hne, up2_ne (by omega)]; exact ⟨rfl, rfl⟩) ⟨?_, fun _ => ?_⟩
          · rw [hB, up2_ne (by omega), hA, up2_eq, es]
            unfold srcv
            rw [hb, cond_false]
          · rw [hB, up2_eq, hA, up2_ne (by omega), hdur, el]
            unfold lngv
            rw [hb, cond_false]
            omega
        refine ⟨⟨by omega, by omega⟩, fun _ => ⟨⟨by omega, by omega⟩, fun z => ⟨by omega, by omega, ?_⟩, fun z => ?_⟩, fun z => absurd (by omega) z⟩
        · have hb : blB D (oN D m (k - 1)) = false := blB_f.mpr (fun y => by have := y.1; rw [hmb] at this; exact z this)
          intro A hA
          refine ⟨by omega, by omega, ?_⟩
          rw [Int.toNat_natCast] at hA ⊢
          rw [Int.toNat_natCast]
          exact wide hb A hA
        · refine d_isLast (LPlan_s (LSch_p hR.s)) hC.sh hW hvb (fun y => ?_) (fun y => ?_)
          · have hb : blB D (oN D m (k - 1)) = false := blB_f.mpr (fun x => x.2 y)
            refine ⟨⟨by decide, by decide⟩, fun x => absurd x (by decide), fun _ => ⟨by omega, by omega, ?_⟩⟩
            intro A hA
            refine ⟨by omega, by omega, ?_⟩
            rw [Int.toNat_natCast] at hA ⊢
            rw [Int.toNat_natCast]
            exact wide hb A hA
          · have hb : blB D (oN D m (k - 1)) = true := blB_t.mpr ⟨by rw [hmb]; exact z, y⟩
            refine ⟨⟨by decide, by decide⟩, fun _ => ⟨by omega, by omega, ?_⟩, fun x => absurd rfl x⟩
            intro A hA B hB
            rw [Int.toNat_natCast] at hA hB
            refine nxt B (fun r a b => by rw [hB, up2_ne b, hA, up2_ne a]) (fun o hne => by rw [hB, up2_ne (by omega), up2_nj hne, hA, up2_nj hne, up2_ne (by omega)]; exact ⟨rfl, rfl⟩) ⟨?_, fun _ => ?_⟩
            · rw [hB, up2_ne (by omega), hA, up2_eq, es]
              unfold srcv
              rw [hb, cond_true]
            · rw [hB, up2_eq, el]
              unfold lngv
              rw [hb, cond_true]
              omega
  refine cl_of n_X2_setArcs (Nat.le_of_ble_eq_true rfl) (t_X2_setArcs_0 hR.s ⟨by omega, by omega, ?_⟩)
  rw [Int.toNat_natCast, (hR.sh.2.2.2.1 m hm).2.1]
  intro u hu
  rw [hu]
  exact lp (D (5 + 9 * m + 2)).toNat 0 I (by omega) (fun _ _ _ => rfl) (fun k2 h2 => absurd h2 (Nat.not_lt_zero _)) (fun _ _ _ => ⟨rfl, rfl⟩)
end M2
