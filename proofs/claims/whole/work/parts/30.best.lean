/-! THE REFERENCE'S QUESTIONS ABOUT SWAPS; the checksum -/
theorem spanF_r {D T : Nat → Int} (hW : WR D) (hT : TBv D T) : inR (spanF D T) := by
  have := spanF_b hW hT
  exact ⟨by omega, by omega⟩
theorem sumF_r {D T : Nat → Int} {cs : List Int} (hW : WR D) (hC : RC D cs) (hT : TBv D T) : inR (sumF D cs T) := by
  have := sumF_b hW hC hT
  exact ⟨by omega, by omega⟩
def betF (s c s0 c0 : Int) : Prop := s < s0 ∨ (s = s0 ∧ c < c0)
/-- a swap's turn in the search of the best -/
noncomputable def bstS (D : Nat → Int) (cs : List Int) (m p : Nat) (a : Int × Int × Int) : Int × Int × Int :=
  pIf (Fr (exF D m p)) (pIf (a.1 = -1 ∨ betF (spanX (exF D m p)) (costX (exF D m p) cs) a.2.1 a.2.2) ((100 * m + p : Int), spanX (exF D m p), costX (exF D m p) cs) a) a
noncomputable def bstP (D : Nat → Int) (cs : List Int) (m : Nat) : Nat → Int × Int × Int → Int × Int × Int
  | 0, a => a
  | p + 1, a => bstS D cs m p (bstP D cs m p a)
noncomputable def bstM (D : Nat → Int) (cs : List Int) : Nat → Int × Int × Int
  | 0 => (-1, 0, 0)
  | m + 1 => bstP D cs m ((D (5 + 9 * m + 2)).toNat - 1) (bstM D cs m)
noncomputable def bestX (D : Nat → Int) (cs : List Int) : Int × Int × Int := bstM D cs (D 0).toNat
/-- what the search holds -/
def bstO (D : Nat → Int) (a : Int × Int × Int) : Prop :=
  -1 ≤ a.1 ∧ a.1 ≤ 1000 ∧ inR a.2.1 ∧ inR a.2.2 ∧ (a.1 ≠ -1 → ∃ m p : Nat, a.1 = 100 * m + p ∧ (m : Int) < D 0 ∧ (p : Int) + 1 < D (5 + 9 * m + 2) ∧ Fr (exF D m p))
theorem bstO0 {D : Nat → Int} : bstO D (-1, 0, 0) := ⟨by decide, by decide, ⟨by decide, by decide⟩, ⟨by decide, by decide⟩, fun q => absurd rfl q⟩
section M1
variable {Γ : GG} {P : MP} {I : MM} {R : Int → MM → Prop} {Rv : MM → Prop} {cs : List Int}
theorem c_isBetter {a b x y : Int} (ha : inR a) (hb : inR b) (hx : inR x) (hy : inR y) (h1 : betF a b x y → R 1 I) (h0 : ¬ betF a b x y → R 0 I) : Cl Γ m_X6_isBetter [vI a, vI b, vI x, vI y] P I (ri P R) := by
  unfold betF at h1 h0
  refine cl_of n_X6_isBetter (Nat.le_of_ble_eq_true rfl) (t_X6_isBetter_0 ⟨ha, hx, fun q => ⟨hb, hy, fun z => h0 (by omega), fun z => h1 (by omega)⟩, fun q => ⟨fun z => h0 (by omega), fun z => h1 (by omega)⟩⟩)
theorem exF_pre {D : Nat → Int} (hW : WR D) {m p : Nat} (hm : (m : Int) < D 0) (hp : (p : Int) + 1 < D (5 + 9 * m + 2)) : m < 6 ∧ p + 1 < 6 := by
  have ha := hW.a
  have hmm := hW.2.2.2 m (by omega)
  omega
theorem td_TBv {D T : Nat → Int} (hs : Stt D T) (hb : TB T) : TBv D (TD D) := fun o ho => by
  rw [← hs.td o ho]
  exact hb o ho.1
theorem exF_RC {D : Nat → Int} {m p : Nat} (hm : m < 6) (hp : p + 1 < 6) (h : RC D cs) : RC (exF D m p) cs := (exF_same (D := D) hm hp).rc h
def frB (I J : MM) : Prop := (∀ q : Nat, q ≠ 1 → q ≠ 7 → q ≠ 8 → q ≠ 9 → q ≠ 10 → q ≠ 11 → J q = I q) ∧ (∀ i : Nat, i ≠ 21 → i ≠ 22 → J 1 i = I 1 i)
theorem frB.refl (I : MM) : frB I I := ⟨fun _ _ _ _ _ _ _ => rfl, fun _ _ _ => rfl⟩
theorem frB.trans {A B C : MM} (h : frB A B) (k : frB B C) : frB A C := ⟨fun q a b c d e f => (k.1 q a b c d e f).trans (h.1 q a b c d e f), fun i a b => (k.2 i a b).trans (h.2 i a b)⟩
theorem frB.of {I J : MM} (h : ∀ q : Nat, q ≠ 7 → q ≠ 8 → q ≠ 9 → q ≠ 10 → q ≠ 11 → J q = I q) : frB I J := ⟨fun q _ b c d e f => h q b c d e f, fun i _ _ => by rw [h 1 (by decide) (by decide) (by decide) (by decide) (by decide)]⟩
theorem frB.f {I : MM} {i : Nat} {v : Int} (h : i = 21 ∨ i = 22) : frB I (up2 I 1 i v) := ⟨fun q a _ _ _ _ _ => up2_ne a, fun j a b => up2_nj (by rcases h with rfl | rfl <;> assumption)⟩
theorem frB.d {I J : MM} (h : frB I J) : J 3 = I 3 := h.1 3 (by decide) (by decide) (by decide) (by decide) (by decide) (by decide)
theorem frB.kp {I J : MM} (h : frB I J) : kpQ I J := ⟨fun q a b c d e f _ => h.1 q a b c d e f, fun i _ a b _ => h.2 i a b⟩
theorem exD_back {I J : MM} {m p : Nat} (h : frB (exD I m p) J) : frB I (exD J m p) := by
  refine ⟨fun q h1 h7 h8 h9 h10 h11 => ?_, fun i a b => ?_⟩
  · by_cases e : q = 3
    · subst e
      rw [exD_3, h.d, exD_3, exF_2]
    · rw [exD_q e, h.1 q h1 h7 h8 h9 h10 h11, exD_q e]
  · rw [exD_q (by decide), h.2 i a b, exD_q (by decide)]
theorem c_findBest (hM : LM Γ P) (hG : GD (I 3) cs) (h : ∀ J, frB I J → bstO (I 3) (bestX (I 3) cs) → ((bestX (I 3) cs).1 ≠ -1 → J 1 21 = (bestX (I 3) cs).2.1 ∧ J 1 22 = (bestX (I 3) cs).2.2) → R (bestX (I 3) cs).1 J) : Cl Γ m_X6_findBest [vR 1] P I (ri P R) := by
  obtain ⟨hW, hO, hC, hF⟩ := hG
  have ha := hW.a
  have key2 : ∀ (m : Nat) (A : MM), (m : Int) < I 3 0 → ∀ (n p : Nat) (J : MM) (a : Int × Int × Int), frB I J → p + n = ((I 3 (5 + 9 * m + 2)).toNat - 1) → bstO (I 3) a → (a.1 ≠ -1 → J 1 21 = a.2.1 ∧ J 1 22 = a.2.2) → a = bstP (I 3) cs m p (bstM (I 3) cs m) →
      (∀ J2, frB I J2 → bstO (I 3) (bstM (I 3) cs (m + 1)) → ((bstM (I 3) cs (m + 1)).1 ≠ -1 → J2 1 21 = (bstM (I 3) cs (m + 1)).2.1 ∧ J2 1 22 = (bstM (I 3) cs (m + 1)).2.2) → XM Γ m_X6_findBest 0 0 4 [(0, vR 1), (1, vI (bstM (I 3) cs (m + 1)).1), (2, vI ((m : Int) + 1))] [] P J2 (ri P R)) →
      XM Γ m_X6_findBest 0 0 16 [(0, vR 1), (1, vI a.1), (2, vI (m : Int)), (3, vI (p : Int))] [] P J (ri P R) := by
    intro m A hm n
    have hm6 : m < 6 := by omega
    have hmm := hW.2.2.2 m hm6
    induction n with
    | zero =>
      intro p J a hJ hp hb hk ha2 fin
      have hd := hJ.d
      refine t_X6_findBest_16 hM (c_machine ⟨by omega, by omega, ⟨by omega, by omega⟩, ?_⟩)
      rw [hd, show (5 + 9 * (m : Int) + 2).toNat = 5 + 9 * m + 2 by omega]
      refine ⟨⟨by omega, by omega⟩, fun _ => ?_, fun q => absurd (by omega) q⟩
      have e : a = bstM (I 3) cs (m + 1) := by
        rw [ha2, show p = (I 3 (5 + 9 * m + 2)).toNat - 1 by omega]
        rfl
      rw [e] at hb hk ⊢
      exact fin J hJ hb hk
    | succ n ih =>
      intro p J a hJ hp hb hk ha2 fin
      have hd := hJ.d
      have hpp : (p : Int) + 1 < I 3 (5 + 9 * m + 2) := by omega
      have hp6 : p + 1 < 6 := by omega
      have hW2 := exF_WR hW hm6 hp6
      have hO2 := exF_WO hW hO hm hpp
      have hC2 := exF_RC hm6 hp6 hC
      have nx := fun J2 a2 => ih (p + 1) J2 a2
      have nxt : ∀ (J2 : MM) (a2 : Int × Int × Int), a2 = bstS (I 3) cs m p a → frB I J2 → bstO (I 3) a2 → (a2.1 ≠ -1 → J2 1 21 = a2.2.1 ∧ J2 1 22 = a2.2.2) → XM Γ m_X6_findBest 0 0 16 [(0, vR 1), (1, vI a2.1), (2, vI (m : Int)), (3, vI ((p : Int) + 1))] [] P J2 (ri P R) := by
        intro J2 a2 e1 e2 e3 e4
        refine nx J2 a2 e2 (by omega) e3 e4 ?_ fin
        rw [e1, ha2]
        rfl
      refine t_X6_findBest_16 hM (c_machine ⟨by omega, by omega, ⟨by omega, by omega⟩, ?_⟩)
      rw [hd, show (5 + 9 * (m : Int) + 2).toNat = 5 + 9 * m + 2 by omega]
      refine ⟨⟨by omega, by omega⟩, fun q => absurd q (by omega), fun _ => c_exchange hM hm6 (by omega) ?_⟩
      have hx3 : (exD J m p) 3 = exF (I 3) m p := by rw [exD_3, hd]
      refine k_isDeadlocked hM (by rw [hx3]; exact hW2) (by rw [hx3]; exact hO2) (fun K k1 k2 k3 k4 => ?_) (fun K k1 k2 => ?_)
      · rw [hx3] at k2 k4
        have hK3 : K 3 = exF (I 3) m p := by rw [k1 3 (by decide) (by decide) (by decide) (by decide), hx3]
        have hTB := td_TBv k2 k3
        have fK : frB (exD J m p) K := frB.of (fun q a b c d _ => k1 q a b c d)
        refine ⟨⟨by decide, by decide⟩, fun q => absurd rfl q, fun _ => c_makespanOf hM (by rw [hK3]; exact hW2) (by rw [hK3]; exact k3.v) (c_costOfPlan hM (by rw [hK3]; exact hW2) (by rw [hK3]; exact k3.v) (cs := cs) (by rw [hK3]; exact hC2) (fun L hL => ?_))⟩
        rw [hK3, spanF_same hW2 k2.td, sumF_same hW2 k2.td]
        have fL : frB (exD J m p) L := fK.trans (frB.of (fun q _ _ _ _ e => hL q e))
        have r1 := spanF_r hW2 hTB
        have r2 := sumF_r hW2 hC2 hTB
        have L21 : L 1 21 = J 1 21 := by rw [hL 1 (by decide), k1 1 (by decide) (by decide) (by decide) (by decide), exD_q (by decide)]
        have L22 : L 1 22 = J 1 22 := by rw [hL 1 (by decide), k1 1 (by decide) (by decide) (by decide) (by decide), exD_q (by decide)]
        have take : a.1 = -1 ∨ betF (spanX (exF (I 3) m p)) (costX (exF (I 3) m p) cs) a.2.1 a.2.2 → ∀ u23 : Int, u23 = ((100 * (m : Int)) + (p : Int)) → (∀ I24 : MM, I24 = up2 L 1 21 (spanF (exF (I 3) m p) (TD (exF (I 3) m p))) → (∀ I25 : MM, I25 = up2 I24 1 22 (sumF (exF (I 3) m p) cs (TD (exF (I 3) m p))) → (Cl Γ m_X6_exchange [vR 1, vI (m : Int), vI (p : Int)] P I25 (rv P (fun (I26 : MM) => XM Γ m_X6_findBest 0 0 16 [(0, vR 1), (1, vI u23), (2, vI (m : Int)), (3, vI ((p : Int) + 1))] [] P I26 (ri P R)))))) := by
          intro hq u hu I24 h24 I25 h25
          refine c_exchange hM hm6 (by omega) ?_
          have := nxt (exD I25 m p) ((100 * m + p : Int), spanX (exF (I 3) m p), costX (exF (I 3) m p) cs) (by unfold bstS; rw [pIf_t k4, pIf_t hq])
            (hJ.trans (exD_back (fL.trans (by rw [h25, h24]; exact (frB.f (Or.inl rfl)).trans (frB.f (Or.inr rfl))))))
            ⟨by simp only; omega, by simp only; omega, r1, r2, fun _ => ⟨m, p, rfl, hm, hpp, k4⟩⟩
            (fun _ => ⟨by rw [exD_q (by decide), h25, up2_nj (by decide), h24, up2_eq]; rfl, by rw [exD_q (by decide), h25, up2_eq]; rfl⟩)
          rw [hu]
          exact this
        have skip : ¬ (a.1 = -1 ∨ betF (spanX (exF (I 3) m p)) (costX (exF (I 3) m p) cs) a.2.1 a.2.2) → XM Γ m_X6_findBest 0 0 16 [(0, vR 1), (1, vI a.1), (2, vI (m : Int)), (3, vI ((p : Int) + 1))] [] P (exD L m p) (ri P R) := fun hq =>
          nxt (exD L m p) a (by unfold bstS; rw [pIf_t k4, pIf_f hq]) (hJ.trans (exD_back fL)) hb (fun q => by rw [exD_q (by decide), L21, L22]; exact hk q)
        refine ⟨⟨by have := hb.1; omega, by have := hb.2.1; omega⟩, fun q => take (Or.inl q), fun q => ?_⟩
        have hkk := hk q
        rw [L21, L22, hkk.1, hkk.2]
        refine c_isBetter r1 r2 hb.2.2.1 hb.2.2.2.1 (fun z => ⟨⟨by decide, by decide⟩, fun y => absurd y (by decide), fun _ => take (Or.inr z)⟩) (fun z => ⟨⟨by decide, by decide⟩, fun _ => c_exchange hM hm6 (by omega) (skip (fun y => y.elim q z)), fun y => absurd rfl y⟩)
      · rw [hx3] at k2
        have fK : frB (exD J m p) K := frB.of (fun q a b c d _ => k1 q a b c d)
        refine ⟨⟨by decide, by decide⟩, fun _ => c_exchange hM hm6 (by omega) ?_, fun q => absurd q (by decide)⟩
        refine nxt (exD K m p) a (by unfold bstS; rw [pIf_f k2]) (hJ.trans (exD_back fK)) hb (fun q => ?_)
        rw [exD_q (by decide), k1 1 (by decide) (by decide) (by decide) (by decide), exD_q (by decide)]
        exact hk q
  have key1 : ∀ (n m : Nat) (J : MM), frB I J → (m : Int) + n = I 3 0 → bstO (I 3) (bstM (I 3) cs m) → ((bstM (I 3) cs m).1 ≠ -1 → J 1 21 = (bstM (I 3) cs m).2.1 ∧ J 1 22 = (bstM (I 3) cs m).2.2) → XM Γ m_X6_findBest 0 0 4 [(0, vR 1), (1, vI (bstM (I 3) cs m).1), (2, vI (m : Int))] [] P J (ri P R) := by
    intro n
    induction n with
    | zero =>
      intro m J hJ hm hb hk
      refine t_X6_findBest_4 hM ⟨⟨by omega, by omega⟩, by rw [hJ.d]; exact ⟨by omega, by omega⟩, fun _ => ?_, fun q => absurd (by rw [hJ.d]; omega) q⟩
      unfold bestX at h
      rw [show (I 3 0).toNat = m by omega] at h
      exact h J hJ hb hk
    | succ n ih =>
      intro m J hJ hm hb hk
      refine t_X6_findBest_4 hM ⟨⟨by omega, by omega⟩, by rw [hJ.d]; exact ⟨by omega, by omega⟩, fun q => absurd q (by rw [hJ.d]; omega), fun _ => ?_⟩
      refine key2 m I (by omega) ((I 3 (5 + 9 * m + 2)).toNat - 1) 0 J (bstM (I 3) cs m) hJ (Nat.zero_add _) hb hk rfl (fun J2 a b c => ?_)
      exact ih (m + 1) J2 a (by omega) b c
  refine cl_of n_X6_findBest (Nat.le_of_ble_eq_true rfl) (t_X6_findBest_0 hM ?_)
  exact key1 (I 3 0).toNat 0 I (frB.refl I) (by omega) bstO0 (fun q => absurd rfl q)
theorem q_bestSwap (hM : LM Γ P) (hG : GD (I 3) cs) (hy : ∀ J, K0 I 0 J → R (bestX (I 3) cs).1 J) : Cl Γ m_X6_bestSwap [vR 1] P I (ri P R) := by
  refine cl_of n_X6_bestSwap (Nat.le_of_ble_eq_true rfl) (t_X6_bestSwap_0 hM (by
    intro A hA
    rw [hA]
    refine c_findBest hM (cs := cs) (by rw [th3]; exact hG) (fun J a _ _ => ?_)
    rw [th3]
    exact hy J (K0.mk.go a.kp (a.2 0 (by decide) (by decide)))))
theorem q_deadlocks (hM : LM Γ P) (hG : GD (I 3) cs) {m p : Int} (hm : inR m) (hp : inR p) (hy : sOk (I 3) m p → ∀ J, K0 I 0 J → R (pIf (Fr (exF (I 3) m.toNat p.toNat)) 0 1) J) (hn : ¬ sOk (I 3) m p → ∀ J, K0 I 1 J → R 0 J) : Cl Γ m_X6_deadlocks [vR 1, vI m, vI p] P I (ri P R) := by
  have hW := hG.1
  refine cl_of n_X6_deadlocks (Nat.le_of_ble_eq_true rfl) (t_X6_deadlocks_0 hM (by
    intro A hA
    rw [hA]
    refine c_noSwap hM (by rw [th3]; exact hW) th0 hm hp (fun q => ?_) (fun q => ?_)
    · rw [th3] at q
      have em : m = (m.toNat : Int) := by have := q.1.1; omega
      have ep : p = (p.toNat : Int) := by have := q.2.1; omega
      have q1 : (m.toNat : Int) < I 3 0 := by have := q.1.2; omega
      have q2 : (p.toNat : Int) + 1 < I 3 (5 + 9 * m.toNat + 2) := by have := q.2.2; omega
      have pre := exF_pre hW q1 q2
      have hW2 := exF_WR hW pre.1 pre.2
      have hO2 := exF_WO hW hG.2.1 q1 q2
      refine ⟨⟨by decide, by decide⟩, fun z => absurd rfl z, fun _ => ?_⟩
      rw [em, ep]
      refine k_spanAfter hM (by rw [th3]; exact hW) (by rw [th3]; exact hG.2.1) (by rw [th3]; exact q1) (by rw [th3]; exact q2) (fun J a ab => ?_)
      rw [th3] at ab ⊢
      have fin := hy q J (K0.mk.tr a)
      by_cases hf : Fr (exF (I 3) m.toNat p.toNat)
      · rw [pIf_t hf] at fin
        rcases ab with ⟨-, b1, b2⟩ | ⟨b1, -⟩
        · exact ⟨⟨by omega, by omega⟩, fun _ => fin, fun z => by omega⟩
        · exact absurd hf b1
      · rw [pIf_f hf] at fin
        rcases ab with ⟨b1, -⟩ | ⟨-, b2⟩
        · exact absurd b1 hf
        · rw [b2]
          exact ⟨⟨by decide, by decide⟩, fun z => absurd rfl z, fun _ => fin⟩
    · rw [th3] at q
      exact ⟨⟨by decide, by decide⟩, fun _ => hn q _ K0.mk2, fun z => absurd z (by decide)⟩))
theorem q_makespanAfter (hM : LM Γ P) (hG : GD (I 3) cs) {m p : Int} (hm : inR m) (hp : inR p) (hy : sOk (I 3) m p → ∀ J, K0 I 0 J → R (aftX (I 3) m.toNat p.toNat) J) (hn : ¬ sOk (I 3) m p → ∀ J, K0 I 1 J → R 0 J) : Cl Γ m_X6_makespanAfter [vR 1, vI m, vI p] P I (ri P R) := by
  have hW := hG.1
  refine cl_of n_X6_makespanAfter (Nat.le_of_ble_eq_true rfl) (t_X6_makespanAfter_0 hM (by
    intro A hA
    rw [hA]
    refine c_noSwap hM (by rw [th3]; exact hW) th0 hm hp (fun q => ?_) (fun q => ?_)
    · rw [th3] at q
      have em : m = (m.toNat : Int) := by have := q.1.1; omega
      have ep : p = (p.toNat : Int) := by have := q.2.1; omega
      have q1 : (m.toNat : Int) < I 3 0 := by have := q.1.2; omega
      have q2 : (p.toNat : Int) + 1 < I 3 (5 + 9 * m.toNat + 2) := by have := q.2.2; omega
      refine ⟨⟨by decide, by decide⟩, fun _ => ?_, fun z => absurd rfl z⟩
      rw [em, ep]
      refine k_spanAfter hM (by rw [th3]; exact hW) (by rw [th3]; exact hG.2.1) (by rw [th3]; exact q1) (by rw [th3]; exact q2) (fun J a _ => ?_)
      rw [th3]
      exact hy q J (K0.mk.tr a)
    · rw [th3] at q
      exact ⟨⟨by decide, by decide⟩, fun z => absurd z (by decide), fun _ => hn q _ K0.mk2⟩))
theorem q_checksum (hM : LM Γ P) (hG : GD (I 3) cs) (hy : ∀ J, K0 I 0 J → R (ckF (I 3) cs (TD (I 3))) J) : Cl Γ m_X6_checksum [vR 1] P I (rl P R) := by
  obtain ⟨hW, hO, hC, hF⟩ := hG
  have ha := hW.a
  refine cl_of n_X6_checksum (Nat.le_of_ble_eq_true rfl) (t_X6_checksum_0 hM (by
    intro A hA
    rw [hA]
    refine k_spanNow hM (by rw [th3]; exact hW) (by rw [th3]; exact hO) (by rw [th3]; exact hF.1) (fun J j1 j2 j3 => ?_)
    rw [th3] at j2 ⊢
    have hJ3 : J 3 = I 3 := by rw [j1 3 (by decide) (by decide) (by decide), th3]
    have hTB := td_TBv j2 j3
    refine ⟨spanF_r hW hTB, c_costOfPlan hM (by rw [hJ3]; exact hW) (by rw [hJ3]; exact j3.v) (cs := cs) (by rw [hJ3]; exact hC) (fun K k1 => ?_)⟩
    have hK3 : K 3 = I 3 := by rw [k1 3 (by decide), hJ3]
    have hK9 : K 9 = J 9 := k1 9 (by decide)
    have fin := hy K ((K0.mk.as j1).sk k1)
    rw [hJ3, sumF_same hW j2.td]
    refine ⟨sumF_r hW hC hTB, fun w hw => ?_⟩
    rw [hw]
    have lp93 : ∀ (n o : Nat) (v : Int), o + n = 36 → R (stN (I 3) (TD (I 3)) 36 v) K → XM Γ m_X6_checksum 0 0 93 [(0, vR 1), (1, vL (stN (I 3) (TD (I 3)) o v)), (3, vI (o : Int))] [] P K (rl P R) := by
      intro n
      induction n with
      | zero =>
        intro o v ho hR
        refine t_X6_checksum_93 hM ⟨⟨by omega, by omega⟩, fun _ => ?_, fun q => absurd (by omega) q⟩
        rw [show o = 36 by omega]
        exact hR
      | succ n ih =>
        intro o v ho hR
        refine t_X6_checksum_93 hM ⟨⟨by omega, by omega⟩, fun q => absurd q (by omega), fun _ => c_isThere hM (by rw [hK3]; exact hW) (by omega) (fun q => ?_) (fun q => ?_)⟩
        · rw [hK3] at q
          have hv := j3 o (by omega)
          refine ⟨⟨by decide, by decide⟩, fun z => absurd z (by decide), fun _ => ⟨by omega, by omega, ?_⟩⟩
          rw [Int.toNat_natCast, hK9]
          refine ⟨⟨by omega, by omega⟩, fun w hw => ?_⟩
          have := ih (o + 1) v (by omega) hR
          rw [hw, j2.td o q]
          simp only [stN, (vB_t (by omega)).mpr q, if_true] at this
          exact this
        · rw [hK3] at q
          refine ⟨⟨by decide, by decide⟩, fun _ => ?_, fun z => absurd rfl z⟩
          have := ih (o + 1) v (by omega) hR
          have hb : vB (I 3) o = false := by
            cases hb : vB (I 3) o with
            | false => rfl
            | true => exact absurd ((vB_t (by omega)).mp hb) q
          simp only [stN, hb, Bool.false_eq_true, if_false] at this
          exact this
    have lp38 : ∀ (m : Nat) (v : Int), (m : Int) < I 3 0 → XM Γ m_X6_checksum 0 0 25 [(0, vR 1), (1, vL (ordN (I 3) m (I 3 (5 + 9 * m + 2)).toNat v)), (3, vI ((m : Int) + 1))] [] P K (rl P R) → ∀ (n k : Nat), k + n = (I 3 (5 + 9 * m + 2)).toNat → XM Γ m_X6_checksum 0 0 38 [(0, vR 1), (1, vL (ordN (I 3) m k v)), (3, vI (m : Int)), (4, vI (k : Int))] [] P K (rl P R) := by
      intro m v hm hX n
      have hmm := hW.2.2.2 m (by omega)
      induction n with
      | zero =>
        intro k hk
        refine t_X6_checksum_38 hM (c_machine ⟨by omega, by omega, ⟨by omega, by omega⟩, ?_⟩)
        rw [hK3, show (5 + 9 * (m : Int) + 2).toNat = 5 + 9 * m + 2 by omega]
        refine ⟨⟨by omega, by omega⟩, fun _ => ?_, fun q => absurd (by omega) q⟩
        rw [show k = (I 3 (5 + 9 * m + 2)).toNat by omega]
        exact hX
      | succ n ih =>
        intro k hk
        have hv := hO.1 m k hm (by omega)
        have e := oN_int hW (m := m) (k := k) (by omega) (by omega)
        refine t_X6_checksum_38 hM (c_machine ⟨by omega, by omega, ⟨by omega, by omega⟩, ?_⟩)
        rw [hK3, show (5 + 9 * (m : Int) + 2).toNat = 5 + 9 * m + 2 by omega]
        refine ⟨⟨by omega, by omega⟩, fun q => absurd q (by omega), fun _ => c_machine ⟨by omega, by omega, ?_⟩⟩
        rw [hK3, show (5 + 9 * (m : Int) + 3 + (k : Int)).toNat = 5 + 9 * m + 3 + k by omega, e.1]
        refine c_told hv.1.1 ⟨?_, fun w hw => ?_⟩
        · have := hv.1.1
          exact ⟨by omega, by omega⟩
        · rw [hw]
          exact ih (k + 1) (by omega)
    have lp25 : ∀ (n m : Nat) (v : Int), (m : Int) + n = I 3 0 → R (stN (I 3) (TD (I 3)) 36 (ordA (I 3) (I 3 0).toNat v)) K → XM Γ m_X6_checksum 0 0 25 [(0, vR 1), (1, vL (ordA (I 3) m v)), (3, vI (m : Int))] [] P K (rl P R) := by
      intro n
      induction n with
      | zero =>
        intro m v hm hR
        refine t_X6_checksum_25 hM ⟨⟨by omega, by omega⟩, by rw [hK3]; exact ⟨by omega, by omega⟩, fun _ => ?_, fun q => absurd (by rw [hK3]; omega) q⟩
        rw [show m = (I 3 0).toNat by omega]
        exact lp93 36 0 _ (by omega) hR
      | succ n ih =>
        intro m v hm hR
        refine t_X6_checksum_25 hM ⟨⟨by omega, by omega⟩, by rw [hK3]; exact ⟨by omega, by omega⟩, fun q => absurd q (by rw [hK3]; omega), fun _ => ?_⟩
        exact lp38 m _ (by omega) (ih (m + 1) v (by omega) hR) (I 3 (5 + 9 * m + 2)).toNat 0 (Nat.zero_add _)
    exact lp25 (I 3 0).toNat 0 _ (by omega) fin))
end M1
