/-! THE CLASS'S compute: free of deadlocks, with the starts; or deadlocked -/
/-- of n + 1 numbers below n two are the same -/
theorem pigeon : ∀ (n : Nat) (f : Nat → Nat), (∀ i, i ≤ n → f i < n) → ∃ i j : Nat, i < j ∧ j ≤ n ∧ f i = f j
  | 0, f, h => absurd (h 0 (Nat.le_refl _)) (Nat.not_lt_zero _)
  | n + 1, f, h => by
    by_cases e : ∃ i, i < n + 1 ∧ f i = f (n + 1)
    · obtain ⟨i, h1, h2⟩ := e
      exact ⟨i, n + 1, h1, Nat.le_refl _, h2⟩
    · have ne : ∀ i, i < n + 1 → f i ≠ f (n + 1) := fun i hi q => e ⟨i, hi, q⟩
      obtain ⟨i, j, h1, h2, h3⟩ := pigeon n (fun i => if f i > f (n + 1) then f i - 1 else f i) (fun i hi => by
        have a1 := h i (by omega)
        have a2 := h (n + 1) (Nat.le_refl _)
        have a3 := ne i (by omega)
        show (if f i > f (n + 1) then f i - 1 else f i) < n
        split <;> omega)
      have b1 := ne i (by omega)
      have b2 := ne j (by omega)
      refine ⟨i, j, h1, by omega, ?_⟩
      have h4 : (if f i > f (n + 1) then f i - 1 else f i) = (if f j > f (n + 1) then f j - 1 else f j) := h3
      split at h4 <;> (split at h4 <;> omega)
/-- the source of an arc of length 0 is no first operation -/
theorem zero_src {D : Nat → Int} (hW : WR D) (hO : WO D) (hN : ND D) {o : Nat} (ho : vO D o) (h1 : sD D o ≠ -1) (h2 : lD D o = 0) : (sD D o).toNat % 6 ≠ 0 := by
  obtain ⟨p1, p2, p3⟩ := plD_at hW hO ho
  have hm := hW.2.2.2 (mcO D o) (by have := hW.a; omega)
  have hp : plD D o ≠ 0 := fun e => h1 (by unfold sD; rw [if_pos e])
  obtain ⟨hv, -⟩ := hO.1 (mcO D o) (plD D o - 1) p1 (by omega)
  unfold sD
  unfold lD lngv at h2
  rw [if_neg hp]
  unfold srcv
  cases hB : blB D (oN D (mcO D o) (plD D o - 1)) with
  | true =>
    have hs := (vO_succ hW hv (blB_t.mp hB).2).2
    simp only [cond_true]
    rw [show ((oN D (mcO D o) (plD D o - 1) : Int) + 1).toNat = oN D (mcO D o) (plD D o - 1) + 1 by omega]
    omega
  | false =>
    have := (hN.1 _ hv).2
    rw [hB, cond_false] at h2
    omega
/-- what is stuck has no starts -/
theorem stuck {D T F : Nat → Int} (hW : WR D) (hO : WO D) (hN : ND D)
    (hb : ∀ o : Nat, vO D o → F o = 0 → blkd (sD D) F o) (hr : ∀ o : Nat, vO D o → F o = 0 → ∀ z : Nat, 1 ≤ z → z ≤ 36 → ¬ ring D F o z) (hx : ∃ o : Nat, vO D o ∧ F o = 0) : ¬ ∃ T' : Nat → Int, Sol D (sD D) (lD D) T' := by
  rintro ⟨T2, hs⟩
  have hA : ArcV D (sD D) (lD D) := ArcR.can hW hO
  have pos : ∀ o, vO D o → 0 ≤ T2 o := fun o ho => hs.nonneg hW _ o rfl ho
  obtain ⟨μ, ⟨o0, h1, h2, h3⟩, hmin⟩ := exMin (p := fun n => ∃ o, vO D o ∧ F o = 0 ∧ (T2 o).toNat = n) (by obtain ⟨o, a, b⟩ := hx; exact ⟨_, o, a, b, rfl⟩)
  have low : ∀ o, vO D o → F o = 0 → (μ : Int) ≤ T2 o := fun o a b => by have := hmin _ ⟨o, a, b, rfl⟩; have := pos o a; omega
  -- the least ones
  have step : ∀ o, vO D o → F o = 0 → T2 o = (μ : Int) → (o % 6 ≠ 0 → F (o - 1) ≠ 0) ∧ sD D o ≠ -1 ∧ lD D o = 0 ∧ vO D (sD D o).toNat ∧ F (sD D o).toNat = 0 ∧ T2 (sD D o).toNat = (μ : Int) := by
    intro o ho hF ht
    have hso := hs o ho
    have h61 : o % 6 ≠ 0 → F (o - 1) ≠ 0 := fun q z => by
      have hv := (vO_pred ho q).1
      have l1 := low _ hv z
      have l2 := (hN.1 _ hv).2
      have l3 : baseA D T2 o ≤ needA D (sD D) (lD D) T2 o := baseA_le
      unfold baseA at l3
      rw [if_neg q] at l3
      omega
    rcases hb o ho hF with ⟨q1, q2⟩ | ⟨q1, q2⟩
    · exact absurd q2 (h61 q1)
    · rcases hA o ho with y | ⟨y1, y2, y3, y4, y5⟩
      · exact absurd y q1
      · have l1 := low _ y3 q2
        have l2 : T2 (sD D o).toNat + lD D o ≤ T2 o := by
          unfold needA at hso
          rw [if_neg q1] at hso
          omega
        exact ⟨h61, q1, by omega, y3, q2, by omega⟩
  have ch : ∀ i, vO D (atN D o0 i) ∧ F (atN D o0 i) = 0 ∧ T2 (atN D o0 i) = (μ : Int) := by
    intro i
    induction i with
    | zero => exact ⟨h1, h2, by have := pos o0 h1; show T2 o0 = _; omega⟩
    | succ i ih =>
      have := step _ ih.1 ih.2.1 ih.2.2
      exact ⟨this.2.2.2.1, this.2.2.2.2.1, this.2.2.2.2.2⟩
  obtain ⟨i, j, hij, hj, he⟩ := pigeon 36 (atN D o0) (fun i _ => (ch i).1.1)
  obtain ⟨d, ⟨d1, d2, d3⟩, dmin⟩ := exMin (p := fun d => 0 < d ∧ d ≤ 36 ∧ atN D o0 (i + d) = atN D o0 i) ⟨j - i, by omega, by omega, by rw [show i + (j - i) = j by omega]; exact he.symm⟩
  refine hr (atN D o0 i) (ch i).1 (ch i).2.1 d d1 d2 ⟨fun k hk => ?_, by rw [← atN_add]; exact d3, fun k k0 hk e => ?_⟩
  · rw [← atN_add]
    have s1 := step _ (ch (i + k)).1 (ch (i + k)).2.1 (ch (i + k)).2.2
    have h6 : atN D o0 (i + k) % 6 ≠ 0 := by
      by_cases e : i + k = 0
      · have hk0 : k = 0 := by omega
        have hi0 : i = 0 := by omega
        have s2 := step _ (ch (i + d - 1)).1 (ch (i + d - 1)).2.1 (ch (i + d - 1)).2.2
        have z := zero_src hW hO hN (ch (i + d - 1)).1 s2.2.1 s2.2.2.1
        have e2 : atN D o0 (i + d - 1 + 1) = (sD D (atN D o0 (i + d - 1))).toNat := rfl
        rw [← e2, show i + d - 1 + 1 = i + d by omega, d3] at z
        rw [hk0, Nat.add_zero]
        exact z
      · have s2 := step _ (ch (i + k - 1)).1 (ch (i + k - 1)).2.1 (ch (i + k - 1)).2.2
        have z := zero_src hW hO hN (ch (i + k - 1)).1 s2.2.1 s2.2.2.1
        have e2 : atN D o0 (i + k - 1 + 1) = (sD D (atN D o0 (i + k - 1))).toNat := rfl
        rwa [← e2, show i + k - 1 + 1 = i + k by omega] at z
    exact ⟨h6, s1.1 h6, s1.2.1, s1.2.2.1⟩
  · rw [← atN_add] at e
    have := dmin k ⟨k0, by omega, e⟩
    omega
theorem SI.done {D T F : Nat → Int} {B : Int} (h : SI D T F B) (hl : lft D F = 0) : Stt D T ∧ (D 1 = 0 → Acy D (sD D)) := by
  have all : ∀ o : Nat, vO D o → F o ≠ 0 := fun o ho hF => by
    have h1 := cnt_zero 36 hl o ho.1
    rw [(nfB_t ho.1).mpr ⟨ho, hF⟩] at h1
    exact Bool.noConfusion h1
  exact ⟨⟨fun o ho => (h.2.2.2.1 o ho (all o ho)).2.2, h.2.2.2.2.1⟩, fun q => acy_of_free (h.2.2.2.2.2.1 q) all⟩
theorem lft_ex {D F : Nat → Int} (h : lft D F ≠ 0) : ∃ o : Nat, vO D o ∧ F o = 0 := by
  by_cases e : ∃ o : Nat, vO D o ∧ F o = 0
  · exact e
  · exfalso
    apply h
    have key : ∀ n : Nat, n ≤ 36 → cntF (nfB D F) n = 0 := by
      intro n
      induction n with
      | zero => intro _; rfl
      | succ n ih =>
        intro hn
        simp only [cntF]
        rw [ih (by omega)]
        have : nfB D F n = false := by
          cases hb : nfB D F n with
          | false => rfl
          | true => exact absurd ⟨n, (nfB_t (by omega)).mp hb⟩ e
        rw [this]; rfl
    exact key 36 (Nat.le_refl _)
section M2
variable {Γ : GG} {P : MP} {I : MM} {R : Int → MM → Prop} {Rv : MM → Prop} {cs : List Int} {D : Nat → Int} {q σ κ N : Nat}
def cpO (q : Nat) (I J : MM) : Prop := ∀ r : Nat, r ≠ q + 1 → r ≠ q + 2 → r ≠ q + 3 → r ≠ q + 4 → J r = I r
theorem cpO.cr {J : MM} (h : cpO q I J) (hR : CR Γ P I q σ κ N D cs) : CR Γ P J q σ κ N D cs := hR.keep (fun r hr => h r (by omega) (by omega) (by omega) (by omega))
theorem stO.cp {J : MM} (h : stO q I J) : cpO q I J := fun r a _ _ d => h r a d
theorem arF.cp {J : MM} (h : arF q I J) : cpO q I J := fun r _ b c _ => h r b c
theorem cpO.trans {J K : MM} (h : cpO q I J) (k : cpO q J K) : cpO q I K := fun r a b c d => (k r a b c d).trans (h r a b c d)
/-- starts that are small -/
def TBc (D T : Nat → Int) : Prop := ∀ o : Nat, vO D o → 0 ≤ T o ∧ T o ≤ 20000
theorem TBc.v {T : Nat → Int} (h : TBc D T) : TBv D T := fun o ho => by have := h o ho; omega
/-- the schedule is that of D -/
def SCr (J : MM) (q : Nat) (D : Nat → Int) : Prop := Stt D (J (q + 1)) ∧ TBc D (J (q + 1)) ∧ arcA J q D
theorem d_compute (hR : CR Γ P I q σ κ N D cs) (hF : ∀ J, cpO q I J → Fr D → SCr J q D → R 1 J) (hN : ∀ J, cpO q I J → ¬ Fr D → R 0 J) : Cl Γ m_X2_compute [vR q] P I (ri P R) := by
  have hW := hR.wr
  have ha := hW.a
  have hAv := hR.av
  have lp36 : ∀ (n rd left x2 : Nat) (J : MM), rd + n = 36 → cpO q I J → arcA J q D → left ≤ 36 → SI D (J (q + 1)) (J (q + 4)) (1000 + 300 * (36 - left : Int)) → lft D (J (q + 4)) = left → ((x2 = 0 ∧ (left = 0 ∨ ¬ Fr D)) ∨ (x2 ≠ 0 ∧ rd + left ≤ 36)) → x2 ≤ 36 →
      XM Γ m_X2_compute 0 0 36 [(0, vR q), (1, vI (left : Int)), (2, vI (x2 : Int)), (3, vI (rd : Int))] [] P J (ri P R) := by
    intro n
    have done : ∀ (left : Nat) (J : MM), cpO q I J → arcA J q D → left ≤ 36 → SI D (J (q + 1)) (J (q + 4)) (1000 + 300 * (36 - left : Int)) → lft D (J (q + 4)) = left → left = 0 → R 1 J := by
      intro left J h1 h2 h6 h3 h4 h5
      obtain ⟨g1, g2⟩ := h3.done (h4.trans h5)
      exact hF J h1 ⟨⟨_, g1⟩, g2⟩ ⟨g1, fun o ho => by have := h3.2.2.1 o ho; omega, h2⟩
    induction n with
    | zero =>
      intro rd left x2 J hrd h1 h2 h6 h3 h4 h5 h7
      refine t_X2_compute_36 hR.s ⟨⟨by omega, by omega⟩, fun _ => ⟨⟨by omega, by omega⟩, fun z => ?_, fun z => done left J h1 h2 h6 h3 h4 (by omega)⟩, fun z => absurd (by omega) z⟩
      rcases h5 with ⟨-, y | y⟩ | ⟨-, y⟩
      · omega
      · exact hN J h1 y
      · omega
    | succ n ih =>
      intro rd left x2 J hrd h1 h2 h6 h3 h4 h5 h7
      have hC := h1.cr hR
      refine t_X2_compute_36 hR.s ⟨⟨by omega, by omega⟩, fun z => absurd z (by omega), fun _ => ⟨⟨by omega, by omega⟩, fun z => ⟨fun y => absurd (by omega) y, fun _ => done left J h1 h2 h6 h3 h4 (by omega)⟩, fun z => ⟨⟨by omega, by omega⟩, fun y => ⟨fun _ => ?_, fun x => absurd (by omega) z⟩, fun y => ?_⟩⟩⟩
      · rcases h5 with ⟨-, w | w⟩ | ⟨w, -⟩
        · omega
        · exact hN J h1 w
        · omega
      · have hrl : rd + left ≤ 36 := by
          rcases h5 with ⟨w, -⟩ | ⟨-, w⟩
          · omega
          · exact w
        have ex := lft_ex (D := D) (F := J (q + 4)) (by omega)
        refine d_settleSome hC h2 h3 (by omega) (fun hb => ?_) (fun c K c1 k1 k2 k3 => ?_)
        · refine ⟨⟨by decide, by decide⟩, fun w => absurd rfl w, fun _ => ?_⟩
          rw [hC.sh.2.2.1]
          refine ⟨⟨by omega, by omega⟩, fun w => ?_, fun w => ?_⟩
          · intro u hu
            have nf : ¬ Fr D := fun hf => not_acyV hAv hb ex (hf.2 w)
            have := ih (rd + 1) left 0 J (by omega) h1 h2 h6 h3 h4 (Or.inl ⟨rfl, Or.inr nf⟩) (Nat.zero_le _)
            rw [hu, Int.sub_zero]
            push_cast at this
            exact this
          · refine d_settleRing hC h2 h3 (by omega) w (fun hr => ?_) (fun z2 K z1 k1 k2 k3 => ?_)
            · intro u hu
              have nf : ¬ Fr D := fun hf => by
                obtain ⟨T', hT'⟩ := hf.1
                exact stuck (T := J (q + 1)) hW hC.wo hC.nd hb hr ex ⟨T', hT'.1⟩
              have := ih (rd + 1) left 0 J (by omega) h1 h2 h6 h3 h4 (Or.inl ⟨rfl, Or.inr nf⟩) (Nat.zero_le _)
              rw [hu, Int.sub_zero]
              push_cast at this
              exact this
            · intro u hu
              have := ih (rd + 1) (left - z2) z2 K (by omega) (h1.trans k1.cp) (k1.arc h2) (by omega) (k2.mono (by omega)) (by omega) (Or.inr ⟨by omega, by omega⟩) (by omega)
              rw [hu, show (left : Int) - (z2 : Int) = ((left - z2 : Nat) : Int) by omega]
              push_cast at this
              exact this
        · refine ⟨⟨by omega, by omega⟩, fun _ => ?_, fun w => absurd w (by omega)⟩
          intro u hu
          have := ih (rd + 1) (left - c) c K (by omega) (h1.trans k1.cp) (k1.arc h2) (by omega) (k2.mono (by omega)) (by omega) (Or.inr ⟨by omega, by omega⟩) (by omega)
          rw [hu, show (left : Int) - (c : Int) = ((left - c : Nat) : Int) by omega]
          push_cast at this
          exact this
  have lp2 : ∀ (n m : Nat) (J : MM), (m : Int) + n = D 0 → cpO q I J → (∀ o : Nat, vO D o → mcO D o < m → arcO J q D o) → XM Γ m_X2_compute 0 0 2 [(0, vR q), (1, vI (m : Int))] [] P J (ri P R) := by
    intro n
    induction n with
    | zero =>
      intro m J hm h1 h2
      have hC := h1.cr hR
      refine t_X2_compute_2 hR.s ⟨⟨by omega, by omega⟩, ?_⟩
      rw [hC.sh.1]
      refine ⟨⟨by omega, by omega⟩, fun _ => ?_, fun z => absurd (by omega) z⟩
      have hA : arcA J q D := fun o ho => h2 o ho (by have := (hC.wo.2.2 o ho).1; omega)
      refine d_unsettleAll hC (fun K k1 k2 => ?_)
      have hl := lft_le (D := D) (F := K (q + 4))
      refine lp36 36 0 (lft D (K (q + 4))) (lft D (K (q + 4))) K (by omega) (h1.trans k1.cp) (k1.arc hA) hl (k2.mono (by omega)) rfl ?_ hl
      by_cases e : lft D (K (q + 4)) = 0
      · exact Or.inl ⟨e, Or.inl e⟩
      · exact Or.inr ⟨e, by omega⟩
    | succ n ih =>
      intro m J hm h1 h2
      have hC := h1.cr hR
      refine t_X2_compute_2 hR.s ⟨⟨by omega, by omega⟩, ?_⟩
      rw [hC.sh.1]
      refine ⟨⟨by omega, by omega⟩, fun z => absurd z (by omega), fun _ => ?_⟩
      refine c_setArcs hC (m := m) (by omega) (fun K k1 k2 k3 => ?_)
      have := ih (m + 1) K (by omega) (h1.trans k1.cp) (fun o ho hlt => ?_)
      · push_cast at this
        exact this
      · by_cases e : mcO D o = m
        · exact k2 o ho e
        · unfold arcO
          rw [(k3 o ho e).1, (k3 o ho e).2]
          exact h2 o ho (by omega)
  refine cl_of n_X2_compute (Nat.le_of_ble_eq_true rfl) (t_X2_compute_0 hR.s ?_)
  exact lp2 (D 0).toNat 0 I (by omega) (fun _ _ _ _ _ => rfl) (fun o ho hlt => absurd hlt (Nat.not_lt_zero _))
end M2
