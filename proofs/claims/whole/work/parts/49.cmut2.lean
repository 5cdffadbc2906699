/-! THE CLASS'S deadlocks, makespanAfter, bestSwap, swap, improve, place, setDuration, restart, undo, where they don't throw -/
theorem wtO.kt {I J : MM} (h : wtO 60 I J) : kpC I J := kpC.of (fun r _ _ c => h r (by omega))
theorem cpO.kt {I J : MM} (h : cpO 60 I J) : kpC I J := kpC.of (fun r _ _ c => h r (by omega) (by omega) (by omega) (by omega))
theorem SCr.w {q : Nat} {I J : MM} {D : Nat → Int} (h : SCr I q D) (k : wtO q I J) : SCr J q D := by
  unfold SCr arcA arcO
  rw [k (q + 1) (by omega), k (q + 2) (by omega), k (q + 3) (by omega)]
  exact h
/-- what the best swap is worth -/
def bstV (D : Nat → Int) (cs : List Int) (a : Int × Int × Int) : Prop := -1 ≤ a.1 ∧ (a.1 ≠ -1 → ∃ m p : Nat, a.1 = 100 * m + p ∧ p < 6 ∧ (m : Int) < D 0 ∧ (p : Int) + 1 < D (5 + 9 * m + 2) ∧ Fr (exF D m p) ∧ a.2.1 = spanX (exF D m p) ∧ a.2.2 = costX (exF D m p) cs)
theorem bstV0 {D : Nat → Int} {cs : List Int} : bstV D cs (-1, 0, 0) := ⟨by decide, fun q => absurd rfl q⟩
theorem bstV_in {D : Nat → Int} {cs : List Int} {m p : Nat} (h6 : p < 6) (hm : (m : Int) < D 0) (hp : (p : Int) + 1 < D (5 + 9 * m + 2)) (hf : Fr (exF D m p)) : bstV D cs ((100 * m + p : Int), spanX (exF D m p), costX (exF D m p) cs) :=
  ⟨by simp only; omega, fun _ => ⟨m, p, rfl, h6, hm, hp, hf, rfl, rfl⟩⟩
theorem bstV_P {D : Nat → Int} {cs : List Int} (hW : WR D) {m : Nat} {a : Int × Int × Int} (hm : (m : Int) < D 0) (hv : bstV D cs a) : ∀ p : Nat, p ≤ (D (5 + 9 * m + 2)).toNat - 1 → bstV D cs (bstP D cs m p a)
  | 0, _ => hv
  | p + 1, hp => by
    have hpp : (p : Int) + 1 < D (5 + 9 * m + 2) := by omega
    have pre := exF_pre hW hm hpp
    have h := bstV_P hW hm hv p (by omega)
    simp only [bstP]
    unfold bstS
    by_cases hf : Fr (exF D m p)
    · rw [pIf_t hf]
      by_cases hb : (bstP D cs m p a).1 = -1 ∨ betF (spanX (exF D m p)) (costX (exF D m p) cs) (bstP D cs m p a).2.1 (bstP D cs m p a).2.2
      · rw [pIf_t hb]
        exact bstV_in (Nat.lt_of_succ_lt pre.2) hm hpp hf
      · rw [pIf_f hb]; exact h
    · rw [pIf_f hf]; exact h
theorem bstV_M {D : Nat → Int} {cs : List Int} (hW : WR D) : ∀ m : Nat, (m : Int) ≤ D 0 → bstV D cs (bstM D cs m)
  | 0, _ => bstV0
  | m + 1, hm => bstV_P hW (by omega) (bstV_M hW m (by omega)) _ (Nat.le_refl _)
theorem bestX_val {D : Nat → Int} {cs : List Int} (hW : WR D) : bstV D cs (bestX D cs) := bstV_M hW _ (by have := hW.a; omega)
section M2
variable {Γ : GG} {P : MP} {I : MM} {R : Int → MM → Prop} {Rv : MM → Prop} {Rp : MP → MM → Prop} {Rq : Int → MP → MM → Prop} {cs : List Int} {D E : Nat → Int} {q σ κ N σ2 κ2 N2 oc n : Nat} {H : Nat → (Nat → Int) × List Int}
theorem s_span (hC : CR Γ P I q σ κ N E cs) (hS : SCr I q E) (h : R (spanX E) I) : Cl Γ m_X2_greatestCompletion [vR q] P I (ri P R) := by
  unfold spanX at h
  rw [← spanF_same hC.wr hS.1.td] at h
  exact d_greatest hC hS.2.1 h
theorem s_cost (hC : CR Γ P I q σ κ N E cs) (hS : SCr I q E) (hk : okC cs) (h : ∀ J, wtO q I J → R (costX E cs) J) : Cl Γ m_X2_costOfAll [vR q] P I (ri P R) := by
  refine d_costOfAll hC hS.2.1 hk (fun J hJ => ?_)
  rw [sumF_same hC.wr hS.1.td]
  exact h J hJ
theorem s_better (hC : CR Γ P I q σ κ N E cs) (hS : SCr I q E) (hk : okC cs) {a b : Int} (ha : inR a) (hb : inR b) (h1 : ∀ J, wtO q I J → betF (spanX E) (costX E cs) a b → R 1 J) (h0 : ∀ J, wtO q I J → ¬ betF (spanX E) (costX E cs) a b → R 0 J) : Cl Γ m_X2_isBetterThan [vR q, vI a, vI b] P I (ri P R) := by
  unfold spanX costX at h1 h0
  rw [← spanF_same hC.wr hS.1.td, ← sumF_same hC.wr hS.1.td] at h1 h0
  exact d_isBetterThan hC hS.2.1 hk ha hb h1 h0
theorem s_rng (hC : CR Γ P I q σ κ N E cs) (hS : SCr I q E) (hk : okC cs) : inR (spanX E) ∧ 0 ≤ spanX E ∧ inR (costX E cs) := by
  unfold spanX costX
  rw [← spanF_same hC.wr hS.1.td, ← sumF_same hC.wr hS.1.td]
  exact ⟨spanF_r hC.wr hS.2.1.v, (spanF_b hC.wr hS.2.1.v).1, sumF_in hC.wr hk hS.2.1.v⟩
theorem sOk.nat {m p : Int} (h : sOk D m p) : ∃ a b : Nat, m = (a : Int) ∧ p = (b : Int) ∧ (a : Int) < D 0 ∧ (b : Int) + 1 < D (5 + 9 * a + 2) ∧ m.toNat = a ∧ p.toNat = b := by
  obtain ⟨⟨h1, h2⟩, h3, h4⟩ := h
  exact ⟨m.toNat, p.toNat, by omega, by omega, by omega, by omega, rfl, rfl⟩
theorem b_deadlocks (h : CC Γ P I σ κ N σ2 κ2 N2 oc D cs n H) {m p : Int} (hm : inR m) (hp : inR p) (hk : sOk D m p) (hy : ∀ P1 J, kP P P1 → kpC I J → CC Γ P1 J σ κ N σ κ N oc D cs n H → Rq (pIf (Fr (exF D m.toNat p.toNat)) 0 1) P1 J) : Cl Γ m_X5_deadlocks [vR 30, vI m, vI p] P I (rpi Rq) := by
  obtain ⟨a, b, e1, e2, h1, h2, e3, e4⟩ := hk.nat
  rw [e3, e4] at hy
  refine cl_of n_X5_deadlocks (Nat.le_of_ble_eq_true rfl) (t_X5_deadlocks_0 h.b (d_needSwap h hm hp hk ?_))
  rw [e1, e2]
  refine b_trySwap h h1 h2 (fun P1 J k1 k2 k3 hf _ _ => ?_) (fun P1 J k1 k2 k3 hf => ?_)
  · have := hy P1 J k1 k2 k3
    rw [pIf_t hf] at this
    exact ⟨⟨by decide, by decide⟩, fun _ => this, fun z => absurd z (by decide)⟩
  · have := hy P1 J k1 k2 k3
    rw [pIf_f hf] at this
    exact ⟨⟨by decide, by decide⟩, fun z => absurd rfl z, fun _ => this⟩
theorem b_makespanAfter (h : CC Γ P I σ κ N σ2 κ2 N2 oc D cs n H) {m p : Int} (hm : inR m) (hp : inR p) (hk : sOk D m p) (hy : ∀ P1 J, kP P P1 → kpC I J → CC Γ P1 J σ κ N σ κ N oc D cs n H → Rq (aftX D m.toNat p.toNat) P1 J) : Cl Γ m_X5_makespanAfter [vR 30, vI m, vI p] P I (rpi Rq) := by
  obtain ⟨a, b, e1, e2, h1, h2, e3, e4⟩ := hk.nat
  rw [e3, e4] at hy
  unfold aftX at hy
  refine cl_of n_X5_makespanAfter (Nat.le_of_ble_eq_true rfl) (t_X5_makespanAfter_0 h.b (d_needSwap h hm hp hk ?_))
  rw [e1, e2]
  refine b_trySwap h h1 h2 (fun P1 J k1 k2 k3 hf hC hS => ?_) (fun P1 J k1 k2 k3 hf => ?_)
  · have := hy P1 J k1 k2 k3
    rw [pIf_t hf] at this
    exact ⟨⟨by decide, by decide⟩, fun z => absurd z (by decide), fun _ => ⟨LBS_p5 k3.b, s_span hC hS this⟩⟩
  · have := hy P1 J k1 k2 k3
    rw [pIf_f hf] at this
    exact ⟨⟨by decide, by decide⟩, fun _ => this, fun z => absurd rfl z⟩
theorem b_bestSwap (h : CC Γ P I σ κ N σ2 κ2 N2 oc D cs n H) (hy : ∀ P1 J σ3 κ3 N3, kP P P1 → kpC I J → CC Γ P1 J σ κ N σ3 κ3 N3 oc D cs n H → Rq (bestX D cs).1 P1 J) : Cl Γ m_X5_bestSwap [vR 30] P I (rpi Rq) := by
  have hW := h.wr
  have ha := hW.a
  have ok := h.ok
  have key2 : ∀ m : Nat, (m : Int) < D 0 → (∀ P1 J σ3 κ3 N3, kP P P1 → kpC I J → CC Γ P1 J σ κ N σ3 κ3 N3 oc D cs n H → bstO D (bstM D cs (m + 1)) → XM Γ m_X5_bestSwap 0 0 9 [(0, vR 30), (1, vI (bstM D cs (m + 1)).1), (2, vI (bstM D cs (m + 1)).2.1), (3, vI (bstM D cs (m + 1)).2.2), (4, vI ((m : Int) + 1))] [] P1 J (rpi Rq)) →
      ∀ (f p : Nat) (P1 : MP) (J : MM) (σ3 κ3 N3 : Nat) (a : Int × Int × Int), kP P P1 → kpC I J → CC Γ P1 J σ κ N σ3 κ3 N3 oc D cs n H → p + f = (D (5 + 9 * m + 2)).toNat - 1 → bstO D a → a = bstP D cs m p (bstM D cs m) → XM Γ m_X5_bestSwap 0 0 27 [(0, vR 30), (1, vI a.1), (2, vI a.2.1), (3, vI a.2.2), (4, vI (m : Int)), (5, vI (p : Int))] [] P1 J (rpi Rq) := by
    intro m hm hX f
    have hm6 : m < 6 := by omega
    have hmm := hW.2.2.2 m hm6
    induction f with
    | zero =>
      intro p P1 J σ3 κ3 N3 a k1 k2 k3 hp hb e
      refine t_X5_bestSwap_27 k3.b ⟨by omega, by omega, ⟨by omega, by omega⟩, ?_⟩
      rw [Int.toNat_natCast, (k3.p.sh.2.2.2.1 m hm).2.2]
      have e2 : a = bstM D cs (m + 1) := by
        rw [e, show p = (D (5 + 9 * m + 2)).toNat - 1 by omega]
        rfl
      rw [e2] at hb ⊢
      exact ⟨⟨by omega, by omega⟩, fun _ => hX P1 J σ3 κ3 N3 k1 k2 k3 hb, fun z => absurd (by omega) z⟩
    | succ f ih =>
      intro p P1 J σ3 κ3 N3 a k1 k2 k3 hp hb e
      have hpp : (p : Int) + 1 < D (5 + 9 * m + 2) := by omega
      have nxt : ∀ (P2 : MP) (K : MM) (σ4 κ4 N4 : Nat) (a2 : Int × Int × Int), kP P P2 → kpC I K → CC Γ P2 K σ κ N σ4 κ4 N4 oc D cs n H → a2 = bstS D cs m p a → bstO D a2 → XM Γ m_X5_bestSwap 0 0 27 [(0, vR 30), (1, vI a2.1), (2, vI a2.2.1), (3, vI a2.2.2), (4, vI (m : Int)), (5, vI ((p : Int) + 1))] [] P2 K (rpi Rq) := by
        intro P2 K σ4 κ4 N4 a2 g1 g2 g3 g4 g5
        have := ih (p + 1) P2 K σ4 κ4 N4 a2 g1 g2 g3 (by omega) g5 (by rw [g4, e]; rfl)
        push_cast at this
        exact this
      refine t_X5_bestSwap_27 k3.b ⟨by omega, by omega, ⟨by omega, by omega⟩, ?_⟩
      rw [Int.toNat_natCast, (k3.p.sh.2.2.2.1 m hm).2.2]
      refine ⟨⟨by omega, by omega⟩, fun z => absurd z (by omega), fun _ => ?_⟩
      refine b_trySwap k3 hm hpp (fun P2 K g1 g2 g3 hf hC hS => ?_) (fun P2 K g1 g2 g3 hf => ?_)
      · obtain ⟨r1, r2, r3⟩ := s_rng hC hS ok
        have take : ∀ L, wtO 60 K L → (a.1 = -1 ∨ betF (spanX (exF D m p)) (costX (exF D m p) cs) a.2.1 a.2.2) → Cl Γ m_X2_greatestCompletion [vR 60] P2 L (ri P2 (fun (z18 : Int) (I19 : MM) => (Cl Γ m_X2_costOfAll [vR 60] P2 I19 (ri P2 (fun (z20 : Int) (I21 : MM) => XM Γ m_X5_bestSwap 0 0 27 [(0, vR 30), (1, vI (100 * (m : Int) + (p : Int))), (2, vI z18), (3, vI z20), (4, vI (m : Int)), (5, vI ((p : Int) + 1))] [] P2 I21 (rpi Rq)))))) := fun L l1 hq =>
          s_span (l1.cr hC) (hS.w l1) (s_cost (l1.cr hC) (hS.w l1) ok (fun M m1 => nxt P2 M σ κ N ((100 * m + p : Int), spanX (exF D m p), costX (exF D m p) cs) (k1.trans g1) (k2.trans (g2.trans (l1.kt.trans m1.kt))) (g3.q (l1.kt.trans m1.kt)) (by unfold bstS; rw [pIf_t hf, pIf_t hq]) ⟨by simp only; omega, by simp only; omega, r1, r3, fun _ => ⟨m, p, rfl, hm, hpp, hf⟩⟩))
        refine ⟨⟨by decide, by decide⟩, fun _ => ⟨⟨by have := hb.1; omega, by have := hb.2.1; omega⟩, fun z => ?_, fun z => ⟨LBS_p5 g3.b, ?_⟩⟩, fun z => absurd z (by decide)⟩
        · intro u hu
          rw [hu]
          exact ⟨LBS_p5 g3.b, take K (fun _ _ => rfl) (Or.inl (by have := hb.1; omega))⟩
        · have hne : a.1 ≠ -1 := by omega
          refine s_better hC hS ok hb.2.2.1 hb.2.2.2.1 (fun L l1 y => ⟨⟨by decide, by decide⟩, fun x => absurd x (by decide), fun _ => ?_⟩) (fun L l1 y => ⟨⟨by decide, by decide⟩, fun _ => ?_, fun x => absurd rfl x⟩)
          · intro u hu
            rw [hu]
            exact take L l1 (Or.inr y)
          · exact nxt P2 L σ κ N a (k1.trans g1) (k2.trans (g2.trans l1.kt)) (g3.q l1.kt) (by unfold bstS; rw [pIf_t hf, pIf_f (fun x => x.elim hne y)]) hb
      · exact ⟨⟨by decide, by decide⟩, fun z => absurd rfl z, fun _ => nxt P2 K σ κ N a (k1.trans g1) (k2.trans g2) g3 (by unfold bstS; rw [pIf_f hf]) hb⟩
  have key1 : ∀ (f m : Nat) (P1 : MP) (J : MM) (σ3 κ3 N3 : Nat), kP P P1 → kpC I J → CC Γ P1 J σ κ N σ3 κ3 N3 oc D cs n H → (m : Int) + f = D 0 → bstO D (bstM D cs m) → XM Γ m_X5_bestSwap 0 0 9 [(0, vR 30), (1, vI (bstM D cs m).1), (2, vI (bstM D cs m).2.1), (3, vI (bstM D cs m).2.2), (4, vI (m : Int))] [] P1 J (rpi Rq) := by
    intro f
    induction f with
    | zero =>
      intro m P1 J σ3 κ3 N3 k1 k2 k3 hm hb
      refine t_X5_bestSwap_9 k3.b ⟨⟨by omega, by omega⟩, ?_⟩
      rw [k3.p.sh.1]
      refine ⟨⟨by omega, by omega⟩, fun _ => ?_, fun z => absurd (by omega) z⟩
      unfold bestX at hy
      rw [show (D 0).toNat = m by omega] at hy
      exact hy P1 J σ3 κ3 N3 k1 k2 k3
    | succ f ih =>
      intro m P1 J σ3 κ3 N3 k1 k2 k3 hm hb
      refine t_X5_bestSwap_9 k3.b ⟨⟨by omega, by omega⟩, ?_⟩
      rw [k3.p.sh.1]
      refine ⟨⟨by omega, by omega⟩, fun z => absurd z (by omega), fun _ => ?_⟩
      refine key2 m (by omega) (fun P2 K σ4 κ4 N4 g1 g2 g3 g4 => ?_) ((D (5 + 9 * m + 2)).toNat - 1) 0 P1 J σ3 κ3 N3 (bstM D cs m) k1 k2 k3 (Nat.zero_add _) hb rfl
      have := ih (m + 1) P2 K σ4 κ4 N4 g1 g2 g3 (by omega) g4
      push_cast at this
      exact this
  refine cl_of n_X5_bestSwap (Nat.le_of_ble_eq_true rfl) (t_X5_bestSwap_0 h.b ?_)
  exact key1 (D 0).toNat 0 P I σ2 κ2 N2 (kP.refl P) (kpC.refl I) h (by omega) bstO0
/-- a change is remembered and the trial adopted -/
theorem b_adopt2 (h : CC Γ P I σ κ N σ κ N oc D cs n H) (hE : CR Γ P I 60 σ κ N E cs) (hg : GN E cs)
    (hR : ∀ P1 J oc1, kP P P1 → kcM I J → CC Γ P1 J σ κ N σ κ N oc1 E cs (rmN n) (rmH (D, cs) n H) → Rp P1 J) : Cl Γ m_X5_remember [vR 30] P I (rp (fun (P9 : MP) (I8 : MM) => (Cl Γ m_X5_adoptTrial [vR 30] P9 I8 (rp Rp)))) := by
  have hs := h.p.hσ
  have hk := h.p.hκ
  refine b_remember h (fun P1 J oc1 r1 r2 r3 hC => ?_)
  have hE1 : CR Γ P1 J 60 σ κ N E cs := ⟨LBS_t hC.b, hE.2.1, hE.dn, hE.sh.keep (fun r a b => r1 r (by omega)), hE.pl.keep (r1 _ (by omega)) (r1 _ (by omega)), hE.cs'.keep (r1 _ (by omega))⟩
  refine b_adoptTrial hC hE1 hg (fun P2 K k1 k2 k3 => ?_)
  exact hR P2 K oc1 (kP.trans (fun r hr => r3 r (by omega)) k1) (kcM.trans ⟨fun r hr => r1 r (by omega), r2⟩ k2) k3
theorem CC.span (h : CC Γ P I σ κ N σ2 κ2 N2 oc D cs n H) (hy : R (spanX D) I) : Cl Γ m_X2_greatestCompletion [vR 40] P I (ri P R) := s_span h.c h.sc hy
theorem b_swap (h : CC Γ P I σ κ N σ2 κ2 N2 oc D cs n H) {m p : Int} (hm : inR m) (hp : inR p) (hk : sOk D m p) (hf : Fr (exF D m.toNat p.toNat))
    (hy : ∀ P1 J oc1, kP P P1 → kcM I J → CC Γ P1 J σ κ N σ κ N oc1 (exF D m.toNat p.toNat) cs (rmN n) (rmH (D, cs) n H) → Rq (spanX (exF D m.toNat p.toNat)) P1 J) : Cl Γ m_X5_swap [vR 30, vI m, vI p] P I (rpi Rq) := by
  obtain ⟨a, b, e1, e2, h1, h2, e3, e4⟩ := hk.nat
  rw [e3, e4] at hy hf
  refine cl_of n_X5_swap (Nat.le_of_ble_eq_true rfl) (t_X5_swap_0 h.b (d_needSwap h hm hp hk ?_))
  rw [e1, e2]
  refine b_trySwap h h1 h2 (fun P1 J k1 k2 k3 _ hC hS => ⟨⟨by decide, by decide⟩, fun _ => ?_, fun z => absurd z (by decide)⟩) (fun P1 J k1 k2 k3 hf2 => absurd hf hf2)
  refine b_adopt2 k3 hC (exF_gn h.gn h1 h2 hf) (fun P2 K oc1 g1 g2 g3 => ⟨LBS_p3 g3.b, g3.span (hy P2 K oc1 (k1.trans g1) (k2.m.trans g2) g3)⟩)
theorem b_improve (h : CC Γ P I σ κ N σ2 κ2 N2 oc D cs n H) {x : Int} (hx : inR x) (h1 : 1 ≤ x) (h2 : x ≤ 20)
    (hy : ∀ P1 J σ3 κ3 N3 oc1, kP P P1 → kcM I J → CC Γ P1 J σ κ N σ3 κ3 N3 oc1 (impX cs x.toNat D).1 cs (rmN n) (rmH (D, cs) n H) → Rq ((impX cs x.toNat D).2 : Int) P1 J) : Cl Γ m_X5_improve [vR 30, vI x] P I (rpi Rq) := by
  have lp : ∀ (f k : Nat) (E : Nat → Int) (P1 : MP) (J : MM) (σ3 κ3 N3 oc1 : Nat), x = (k : Int) + f → k ≤ 20 → kP P P1 → kcM I J → CC Γ P1 J σ κ N σ3 κ3 N3 oc1 E cs (rmN n) (rmH (D, cs) n H) →
      (∀ P2 K σ4 κ4 N4 oc2, kP P P2 → kcM I K → CC Γ P2 K σ κ N σ4 κ4 N4 oc2 (impX cs f E).1 cs (rmN n) (rmH (D, cs) n H) → Rq ((k : Int) + (impX cs f E).2) P2 K) → XM Γ m_X5_improve 0 0 27 [(0, vR 30), (1, vI x), (2, vI (k : Int))] [] P1 J (rpi Rq) := by
    intro f
    induction f with
    | zero =>
      intro k E P1 J σ3 κ3 N3 oc1 hk hk2 k1 k2 k3 hR
      refine t_X5_improve_27 k3.b ⟨⟨by omega, by omega⟩, hx, fun _ => ?_, fun z => absurd (by omega) z⟩
      have := hR P1 J σ3 κ3 N3 oc1 k1 k2 k3
      simp only [impX] at this
      rw [show (k : Int) + ((0 : Nat) : Int) = x by omega] at this
      exact this
    | succ f ih =>
      intro k E P1 J σ3 κ3 N3 oc1 hk hk2 k1 k2 k3 hR
      obtain ⟨v1, v2⟩ := bestX_val (cs := cs) k3.wr
      have hG := k3.gn
      refine t_X5_improve_27 k3.b ⟨⟨by omega, by omega⟩, hx, fun z => absurd z (by omega), fun _ => ?_⟩
      unfold impX at hR
      refine b_bestSwap k3 (fun P2 K σ4 κ4 N4 g1 g2 g3 => ?_)
      have stop : ¬ ((bestX E cs).1 ≠ -1 ∧ betF (bestX E cs).2.1 (bestX E cs).2.2 (spanX E) (costX E cs)) → ∀ P3 L σ5 κ5 N5, kP P P3 → kcM I L → CC Γ P3 L σ κ N σ5 κ5 N5 oc1 E cs (rmN n) (rmH (D, cs) n H) → Rq (k : Int) P3 L := fun hn P3 L σ5 κ5 N5 a1 a2 a3 => by
        rw [pIf_f hn] at hR
        have := hR P3 L σ5 κ5 N5 oc1 a1 a2 a3
        simpa using this
      by_cases hb : (bestX E cs).1 = -1
      · rw [hb]
        exact ⟨⟨by decide, by decide⟩, fun _ => stop (fun z => z.1 hb) P2 K σ4 κ4 N4 (k1.trans g1) (k2.trans g2.m) g3, fun z => absurd (by decide) z⟩
      · obtain ⟨a, b, w1, w2, w3, w4, w5, w6, w7⟩ := v2 hb
        have pre := exF_pre k3.wr w3 w4
        rw [w1]
        have ea : (100 * (a : Int) + (b : Int)) / 100 = (a : Int) := by omega
        have eb : (100 * (a : Int) + (b : Int)) % 100 = (b : Int) := by omega
        refine ⟨⟨by omega, by omega⟩, fun z => by omega, fun _ => ⟨by omega, ?_⟩⟩
        rw [ea, eb]
        refine b_trySwap g3 w3 w4 (fun P3 L a1 a2 a3 _ hC hS => ?_) (fun P3 L a1 a2 a3 hf2 => absurd w5 hf2)
        refine ⟨⟨by decide, by decide⟩, fun z => absurd z (by decide), fun _ => ⟨LBS_p5 a3.b, ?_⟩⟩
        refine b_makespan a3 (cl_of n_X5_planCost (Nat.le_of_ble_eq_true rfl) (t_X5_planCost_0 a3.b (s_cost a3.c a3.sc a3.ok (fun M m1 => ?_))))
        obtain ⟨q1, q2, q3⟩ := s_rng a3.c a3.sc a3.ok
        have aM := a3.q m1.kc
        have hC2 : CR Γ P3 M 60 σ κ N (exF E a b) cs := hC.keep (fun r hr => m1 r (by omega))
        have hS2 : SCr M 60 (exF E a b) := by
          unfold SCr arcA arcO
          rw [m1 61 (by decide), m1 62 (by decide), m1 63 (by decide)]
          exact hS
        have kM : kcM I M := k2.trans (g2.m.trans (a2.m.trans m1.kc.m))
        have kPM : kP P P3 := k1.trans (g1.trans a1)
        refine s_better hC2 hS2 a3.ok q1 q3 (fun L2 l1 y => ⟨⟨by decide, by decide⟩, fun _ => ?_, fun z => absurd z (by decide)⟩) (fun L2 l1 y => ⟨⟨by decide, by decide⟩, fun z => absurd rfl z, fun _ => ?_⟩)
        · rw [pIf_t ⟨hb, by rw [w6, w7]; exact y⟩, w1, ea, eb, Int.toNat_natCast, Int.toNat_natCast] at hR
          refine b_adoptTrial (aM.q l1.kt) (l1.cr hC2) (exF_gn hG w3 w4 w5) (fun P4 M2 c1 c2 c3 => ?_)
          have := ih (k + 1) (exF E a b) P4 M2 σ κ N oc1 (by push_cast; omega) (by omega) (kPM.trans c1) (kM.trans (l1.kt.m.trans c2)) c3 (fun P5 M3 σ4 κ4 N4 oc2 d1 d2 d3 => ?_)
          · push_cast at this
            exact this
          · have := hR P5 M3 σ4 κ4 N4 oc2 d1 d2 d3
            push_cast at this ⊢
            rw [show (k : Int) + 1 + ((impX cs f (exF E a b)).2 : Int) = (k : Int) + (((impX cs f (exF E a b)).2 : Int) + 1) by omega]
            exact this
        · exact stop (fun z => y (by have := z.2; rwa [w6, w7] at this)) P3 L2 σ κ N kPM (kM.trans l1.kt.m) (aM.q l1.kt)
  refine cl_of n_X5_improve (Nat.le_of_ble_eq_true rfl) (t_X5_improve_0 h.b ⟨hx, fun z => by omega, fun z => ⟨fun _ => ?_, fun y => absurd h2 y⟩⟩)
  refine b_remember h (fun P1 J oc1 r1 r2 r3 hC => ?_)
  refine lp x.toNat 0 D P1 J σ2 κ2 N2 oc1 (by omega) (by omega) (fun r hr => r3 r (by omega)) ⟨fun r hr => r1 r (by omega), r2⟩ hC (fun P2 K σ4 κ4 N4 oc2 a1 a2 a3 => ?_)
  have := hy P2 K σ4 κ4 N4 oc2 a1 a2 a3
  simpa using this
theorem b_place (h : CC Γ P I σ κ N σ2 κ2 N2 oc D cs n H) {j k p : Int} (hj : inR j) (hk : inR k) (hp : inR p) {o : Nat} (ho : oOk D j k) (hv : vO D o) (eo : 6 * j + k = (o : Int)) (p0 : 0 ≤ p) (p1 : p < D (5 + 9 * mcO D o + 2)) (hf : Fr (mvF D (mcO D o) (plD D o) p.toNat))
    (hy : ∀ P1 J oc1, kP P P1 → kcM I J → CC Γ P1 J σ κ N σ κ N oc1 (mvF D (mcO D o) (plD D o) p.toNat) cs (rmN n) (rmH (D, cs) n H) → Rq (spanX (mvF D (mcO D o) (plD D o) p.toNat)) P1 J) : Cl Γ m_X5_place [vR 30, vI j, vI k, vI p] P I (rpi Rq) := by
  have hW := h.wr
  have h36 := hv.1
  have j0 := ho.1.1
  have k0 := ho.2.1
  obtain ⟨m1, m2⟩ := mcO_lt hW h36
  obtain ⟨q1, q2, q3⟩ := plD_at hW h.p.wo hv
  have hmm := hW.2.2.2 _ m1
  have mv := mvF_ok (m := mcO D o) (f := plD D o) (t := p.toNat) m1 hW h.p.wo q1 q2 (by omega)
  have hg : GN (mvF D (mcO D o) (plD D o) p.toNat) cs := mv.1.gn h.gn mv.2.1 mv.2.2 hf
  refine cl_of n_X5_place (Nat.le_of_ble_eq_true rfl) (t_X5_place_0 h.b (d_needOperation h hj hk ho ?_))
  rw [show j = ((j.toNat : Nat) : Int) by omega, show k = ((k.toNat : Nat) : Int) by omega]
  refine d_idOf ?_
  rw [show 6 * j.toNat + k.toNat = o by omega, Int.toNat_natCast, h.p.sh.2.2.2.2.2 o hv, m2]
  refine ⟨by omega, by omega, ?_⟩
  intro u hu
  rw [hu, Int.toNat_natCast, (h.p.sh.2.2.2.1 _ q1).2.2]
  refine ⟨hp, fun z => by omega, fun z => ⟨by omega, by omega, ⟨by omega, by omega⟩, fun _ => ?_, fun y => absurd p1 y⟩⟩
  refine d_copyFrom (LSch_p (LBS_t h.b)) h.p (by decide) (by decide) (by decide) (fun P1 J e1 fJ hJ => ?_)
  have hL := h.1.trial h.p e1 hJ.l
  have hs := h.p.hσ
  have ne : ∀ r, r ≠ 68 → P1 r = P r := fun r hr => by rw [e1]; exact up2_ne hr
  have p48 : ∀ K : MM, (∀ r, r ≠ 70 → K r = J r) → PR Γ P1 K 48 σ κ N D cs := fun K hK => (h.p.keep (fun r hr => by rw [hK r (by omega), fJ r (by omega) (by omega)])).keepP (fun r hr => ne r (by omega))
  refine ⟨LBS_p6 hL.1, LBS_p4 hL.1, d_positionOf (p48 J (fun _ _ => rfl)) hv ?_⟩
  have d_m := d_move (Rv := fun I21 => (P1 30 5 = some 60) ∧ (Cl Γ m_X2_compute [vR 60] P1 I21 (ri P1 (fun (z23 : Int) (I24 : MM) => (inR z23) ∧ ((z23 ≠ 0 → (Cl Γ m_X5_remember [vR 30] P1 I24 (rp (fun (P29 : MP) (I28 : MM) => (Cl Γ m_X5_adoptTrial [vR 30] P29 I28 (rp (fun (P31 : MP) (I30 : MM) => (P31 30 3 = some 40) ∧ (Cl Γ m_X2_greatestCompletion [vR 40] P31 I30 (ri P31 (fun (z33 : Int) (I34 : MM) => Rq z33 P31 I34)))))))))) ∧ (z23 = 0 → False)))))) hJ (by decide) (m := mcO D o) (f := plD D o) (t := p.toNat) q1 q2 (by omega) (fun K fK hK => ?_)
  · rw [show ((p.toNat : Nat) : Int) = p by omega] at d_m
    exact d_m
  · have hC : CR Γ P1 K 60 σ κ N (mvF D (mcO D o) (plD D o) p.toNat) cs := hK.cr (LBS_t hL.1) (by decide)
    refine ⟨LBS_p5 hL.1, d_compute hC (fun L fL _ hS => ⟨⟨by decide, by decide⟩, fun _ => ?_, fun z => absurd z (by decide)⟩) (fun L fL hf2 => absurd hf hf2)⟩
    have kp : kpC I L := kpC.of (fun r a b c => by rw [fL r (by omega) (by omega) (by omega) (by omega), fK r (by omega), fJ r (by omega) (by omega)])
    have k3 : CC Γ P1 L σ κ N σ κ N oc D cs n H := ⟨hL, (h.p.keep (fun r hr => kp.1 r (by omega) (by omega) (by omega) (by omega))).keepP (fun r hr => ne r (by omega)), (h.q kp).sc, h.gn, h.ch.keep (fun r hr => ne r (by omega)) (fun r hr => kp.1 r (by omega) (by omega) (by omega) (by omega)) ⟨by rw [kp.1 30 (by decide) (by decide) (by decide) (by decide)], by rw [kp.1 30 (by decide) (by decide) (by decide) (by decide)]⟩⟩
    exact b_adopt2 k3 (fL.cr hC) hg (fun P2 K2 oc1 g1 g2 g3 => ⟨LBS_p3 g3.b, g3.span (hy P2 K2 oc1 (kP.trans (fun r hr => ne r (by omega)) g1) (kp.m.trans g2) g3)⟩)
theorem b_setDuration (h : CC Γ P I σ κ N σ2 κ2 N2 oc D cs n H) {j k d : Int} (hj : inR j) (hk : inR k) (hd : inR d) (ho : oOk D j k) (d0 : 1 ≤ d) (d1 : d ≤ 99)
    (hy : ∀ P1 J oc1, kP P P1 → kcM I J → CC Γ P1 J σ κ N σ2 κ2 N2 oc1 (duF D (6 * j + k).toNat d) cs (rmN n) (rmH (D, cs) n H) → Rq (D (83 + 2 * (6 * j + k).toNat + 1)) P1 J) : Cl Γ m_X5_setDuration [vR 30, vI j, vI k, vI d] P I (rpi Rq) := by
  have hW := h.wr
  have ha := hW.a
  obtain ⟨o, hv, eo, e1, e2⟩ := ho.nat hW
  have h36 := hv.1
  have j0 := ho.1.1
  have k0 := ho.2.1
  rw [eo, Int.toNat_natCast] at hy
  have hg := duF_gn h.gn h36 ⟨d0, d1⟩
  refine cl_of n_X5_setDuration (Nat.le_of_ble_eq_true rfl) (t_X5_setDuration_0 h.b (d_needOperation h hj hk ho ⟨hd, fun z => by omega, fun z => ⟨fun _ => ?_, fun y => absurd d1 y⟩⟩))
  rw [show j = ((j.toNat : Nat) : Int) by omega, show k = ((k.toNat : Nat) : Int) by omega]
  refine d_idOf ?_
  rw [show 6 * j.toNat + k.toNat = o by omega, Int.toNat_natCast, show (48 : Nat) + 1 = 49 by omega]
  have e49 : I 49 o = D (83 + 2 * o + 1) := h.p.pl.1 o hv
  rw [e49]
  refine ⟨by omega, by omega, ?_⟩
  intro u hu
  rw [hu]
  refine b_remember h (fun P1 J oc1 r1 r2 r3 hC => ⟨LBS_p4 hC.b, LPlan_p1 hC.p.l, ?_⟩)
  intro A hA
  have fA : ∀ r, r ≠ 49 → A r = J r := fun r hr => by rw [hA, up2_ne hr]
  have hp : PR Γ P1 A 48 σ κ N (duF D o d) cs := by
    have hs := hC.p.hσ
    have hk2 := hC.p.hκ
    refine ⟨hC.p.l, hC.p.2.1, ⟨hg.1.1, hg.1.2.1, hg.2.1⟩, (hC.p.sh.keep (fun r a b => fA r (by omega))).same (duF_s h36) hW, ⟨fun u hu2 => ?_, fun m k2 hm hk3 => ?_⟩, hC.p.cs'.keep (fA _ (by omega))⟩
    · rw [duF_v h36] at hu2
      show A 49 u = _
      by_cases e : u = o
      · rw [e, hA, up2_eq]
        unfold duF
        rw [if_pos rfl]
      · rw [hA, up2_nj e, duF_o (by omega)]
        exact hC.p.pl.1 u hu2
    · rw [duF_o (by omega)] at hm
      have hm6 : m < 6 := by omega
      have hmm := hW.2.2.2 m hm6
      rw [duF_o (by omega)] at hk3
      rw [duF_oN hm6 (by omega)]
      show A 50 _ = _
      rw [fA 50 (by decide)]
      exact hC.p.pl.2 m k2 hm hk3
  refine ⟨LBS_p3 hC.b, b_settle (R := fun _ K => Rq (D (83 + 2 * o + 1)) P1 K) hC.1 hp hg (hC.ch.keep (fun r _ => rfl) (fun r hr => fA r (by omega)) ⟨by rw [fA 30 (by decide)], by rw [fA 30 (by decide)]⟩) (fun z2 K fK hC2 => ?_)⟩
  exact hy P1 K oc1 (fun r hr => r3 r (by omega)) (kcM.trans ⟨fun r hr => r1 r (by omega), r2⟩ (kcM.of (fun r hr => by rw [fK r (by omega) (by omega) (by omega) (by omega), fA r (by omega)]))) hC2
theorem b_restart (h : CC Γ P I σ κ N σ2 κ2 N2 oc D cs n H) (hy : ∀ P1 J oc1, kP P P1 → kcM I J → CC Γ P1 J σ κ N σ2 κ2 N2 oc1 (fpD D 36) cs (rmN n) (rmH (D, cs) n H) → Rq (spanX (fpD D 36)) P1 J) : Cl Γ m_X5_restart [vR 30] P I (rpi Rq) := by
  have hW := h.wr
  have hN := h.p.nd
  have hE := fpD_ok hW hN 36 (Nat.le_refl _)
  have hg := hE.gn hW hN h.gn.1.2.2.1
  have hS := hE.s h.gn.2.2
  refine cl_of n_X5_restart (Nat.le_of_ble_eq_true rfl) (t_X5_restart_0 h.b (b_remember h (fun P1 J oc1 r1 r2 r3 hC => ⟨LBS_p4 hC.b, ?_⟩)))
  refine d_setFirstOrders hC.p.l hC.p.sh hC.p.hσ (by decide) hW hN (fun A fA hA => ⟨LBS_p3 hC.b, ?_⟩)
  have hp : PR Γ P1 A 48 σ κ N (fpD D 36) cs := by
    have hs := hC.p.hσ
    have hk2 := hC.p.hκ
    refine ⟨hC.p.l, hC.p.2.1, ⟨hg.1.1, hg.1.2.1, hg.2.1⟩, (hC.p.sh.keep (fun r a b => fA r (by omega))).same hS hW, ⟨fun u hu2 => ?_, fun m k2 hm hk3 => hA _ hE m k2 hm hk3⟩, hC.p.cs'.keep (fA _ (by omega))⟩
    rw [hE.v] at hu2
    rw [fA _ (by omega), hE.hi (by omega)]
    exact hC.p.pl.1 u hu2
  refine b_settle hC.1 hp hg (hC.ch.keep (fun r _ => rfl) (fun r hr => fA r (by omega)) ⟨by rw [fA 30 (by decide)], by rw [fA 30 (by decide)]⟩) (fun z2 K fK hC2 => ?_)
  refine hC2.span ?_
  exact hy P1 K oc1 (fun r hr => r3 r (by omega)) (kcM.trans ⟨fun r hr => r1 r (by omega), r2⟩ (kcM.of (fun r hr => by rw [fK r (by omega) (by omega) (by omega) (by omega), fA r (by omega)]))) hC2
theorem b_undo (h : CC Γ P I σ κ N σ2 κ2 N2 oc D cs n H) (hg : n ≠ 0 → GN (H (n - 1)).1 (H (n - 1)).2) (h0 : n = 0 → Rq (-1) P I)
    (h1 : n ≠ 0 → ∀ P1 J σ3 κ3 N3, kP P P1 → kcM I J → CC Γ P1 J σ3 κ3 N3 σ2 κ2 N2 oc (H (n - 1)).1 (H (n - 1)).2 (n - 1) H → Rq ((n - 1 : Nat) : Int) P1 J) : Cl Γ m_X5_undo [vR 30] P I (rpi Rq) := by
  obtain ⟨c1, c2, c3, c4, c5⟩ := h.ch
  refine cl_of n_X5_undo (Nat.le_of_ble_eq_true rfl) (t_X5_undo_0 h.b ?_)
  rw [c4]
  refine ⟨⟨by omega, by omega⟩, fun z => ?_, fun z => h0 (by omega)⟩
  intro A hA
  have hn : n ≠ 0 := by omega
  have fA : ∀ r, r ≠ 30 → A r = I r := fun r hr => by rw [hA, up2_ne hr]
  have a8 : A 30 8 = (oc : Int) := by rw [hA, up2_nj (by decide)]; exact c3
  have a9 : A 30 9 = ((n - 1 : Nat) : Int) := by rw [hA, up2_eq]; omega
  rw [a8, a9]
  refine ⟨⟨by omega, by omega⟩, by omega, by omega, by omega, ?_⟩
  rw [show (((oc : Int) + ((n - 1 : Nat) : Int)) % 8).toNat = (oc + (n - 1)) % 8 by omega]
  have g8 : (oc + (n - 1)) % 8 < 8 := Nat.mod_lt _ (by decide)
  obtain ⟨σ3, κ3, N3, hp3⟩ := c5 (n - 1) (by omega)
  have ent : ∀ k, k < n → ∃ σ3 κ3 N3 : Nat, PR Γ P A (80 + 3 * ((oc + k) % 8)) σ3 κ3 N3 (H k).1 (H k).2 := fun k hk => by
    obtain ⟨a, b, c, d⟩ := c5 k hk
    have : (oc + k) % 8 < 8 := Nat.mod_lt _ (by decide)
    exact ⟨a, b, c, d.keep (fun r hr => fA r (by omega))⟩
  generalize hge : (oc + (n - 1)) % 8 = g at *
  refine d_copyFrom h.p.l (hp3.keep (fun r hr => fA r (by omega)) : PR Γ P A (80 + 3 * g) σ3 κ3 N3 (H (n - 1)).1 (H (n - 1)).2) (by decide) (by omega) (by omega) (fun P1 J e1 fJ hJ => ?_)
  have ne : ∀ r, r ≠ 48 → P1 r = P r := fun r hr => by rw [e1]; exact up2_ne hr
  have s2 := h.1.2.1
  have hL : CL Γ P1 σ3 κ3 N3 σ2 κ2 N2 := by
    refine ⟨h.b.upd (fun r _ b _ => ne r b) hJ.l ((LSch_p (LBS_t h.b)).keep (ne 68 (by omega)) (ne σ2 (by omega))) (fun i hi => ?_), s2, fun i hi => ?_⟩
    · obtain ⟨a, b, c, d, f⟩ := h.1.2.2 i hi
      exact ⟨a, b, c, d.keep (ne _ (by omega)) (ne a (by omega))⟩
    · obtain ⟨a, b, c, d, f⟩ := h.1.2.2 i hi
      exact ⟨a, b, c, d.keep (ne _ (by omega)) (ne a (by omega)), f⟩
  have hch : CH Γ P1 J (n - 1) oc H := by
    refine ⟨by omega, c2, by rw [fJ 30 (by decide) (by decide)]; exact a8, by rw [fJ 30 (by decide) (by decide)]; exact a9, fun k hk => ?_⟩
    obtain ⟨a, b, c, d⟩ := ent k (by omega)
    have : (oc + k) % 8 < 8 := Nat.mod_lt _ (by decide)
    exact ⟨a, b, c, (d.keep (fun r hr => fJ r (by omega) (by omega))).keepP (fun r hr => ne r (by omega))⟩
  refine ⟨LBS_p3 hL.1, b_settle (R := fun _ K => Rq (K 30 9) P1 K) hL hJ (hg hn) hch (fun z2 K fK hC2 => ?_)⟩
  rw [hC2.ch.2.2.2.1]
  refine h1 hn P1 K σ3 κ3 N3 (fun r hr => ne r (by omega)) ⟨fun r hr => by rw [fK r (by omega) (by omega) (by omega) (by omega), fJ r (by omega) (by omega), fA r (by omega)], fun i _ i9 => by rw [fK 30 (by decide) (by decide) (by decide) (by decide), fJ 30 (by decide) (by decide), hA, up2_nj i9]⟩ hC2
end M2
