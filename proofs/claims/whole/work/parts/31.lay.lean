/-! THE REFERENCE LAYS THE FIRST PLAN -/
theorem FPn.skip {D E : Nat → Int} {n : Nat} (hn : n < 36) (hv : ¬ vO D n) (h : FPn D n E) : FPn D (n + 1) E := by
  refine ⟨h.1, h.2.1, fun m hm => ?_, h.2.2.2.1, fun o ho hov => ?_, h.2.2.2.2.2⟩
  · rw [rnk_off hn (fun q => hv q.1)]
    exact h.2.2.1 m hm
  · by_cases e : o = n
    · rw [e] at hov; exact absurd hov hv
    · exact h.2.2.2.2.1 o (by omega) hov
theorem FPn.skips {D E : Nat → Int} {n : Nat} : ∀ d : Nat, n + d ≤ 36 → (∀ i, i < d → ¬ vO D (n + i)) → FPn D n E → FPn D (n + d) E
  | 0, _, _, h => h
  | d + 1, hd, hv, h => FPn.skip (n := n + d) (by omega) (hv d (by omega)) (FPn.skips d (by omega) (fun i hi => hv i (by omega)) h)
/-- one operation more -/
def layE (E : Nat → Int) (m n : Nat) (r : Nat) : Nat → Int := fun i => if i = 5 + 9 * m + 2 then (r : Int) + 1 else if i = 5 + 9 * m + 3 + r then (n : Int) else E i
theorem FPn.lay {D E : Nat → Int} {n : Nat} (hN : ND D) (hW : WR D) (hv : vO D n) (h : FPn D n E) : FPn D (n + 1) (layE E (mcO D n) n (rnk D (mcO D n) n)) := by
  have ha := hW.a
  have hm := (hN.1 n hv).1
  have hr := rnk_lt6 hN hv rfl
  have hn := hv.1
  refine ⟨fun i hi => ?_, fun m hm6 => ?_, fun m hm2 => ?_, fun m hm6 hm2 => ?_, fun o ho hov => ?_, fun m k hm6 hk => ?_⟩
  · unfold layE; rw [if_neg (by omega), if_neg (by omega)]; exact h.1 i hi
  · unfold layE; rw [if_neg (by omega), if_neg (by omega), if_neg (by omega), if_neg (by omega)]; exact h.2.1 m hm6
  · by_cases e : m = mcO D n
    · subst e
      rw [rnk_on hv rfl]
      unfold layE; rw [if_pos rfl]; push_cast; rfl
    · rw [rnk_off hn (fun q => e q.2.symm)]
      unfold layE; rw [if_neg (by omega), if_neg (by omega)]
      exact h.2.2.1 m hm2
  · unfold layE; rw [if_neg (by intro q; have : m = mcO D n := by omega
                                rw [this] at hm2; exact hm2 hm), if_neg (by omega)]
    exact h.2.2.2.1 m hm6 hm2
  · by_cases e : o = n
    · subst e
      unfold layE; rw [if_neg (by omega), if_pos rfl]
    · have h1 := h.2.2.2.2.1 o (by omega) hov
      have hro := rnk_lt6 hN hov rfl
      unfold layE
      rw [if_neg (by omega), if_neg ?_]
      · exact h1
      · intro q
        by_cases em : mcO D o = mcO D n
        · rw [em] at q
          have := rnk_inj hov em hv rfl (by omega)
          omega
        · omega
  · unfold layE
    by_cases e : 5 + 9 * m + 3 + k = 5 + 9 * mcO D n + 3 + rnk D (mcO D n) n
    · rw [if_neg (by omega), if_pos e]; omega
    · rw [if_neg (by omega), if_neg e]; exact h.2.2.2.2.2 m k hm6 hk
/-- the first plan, laid up to n -/
def fpD (D : Nat → Int) : Nat → Nat → Int
  | 0 => fun i => if i < 59 ∧ i % 9 = 7 ∧ ((i / 9 : Nat) : Int) < D 0 then 0 else D i
  | n + 1 => if vB D n then layE (fpD D n) (mcO D n) n (rnk D (mcO D n) n) else fpD D n
theorem fpD_ok {D : Nat → Int} (hW : WR D) (hN : ND D) : ∀ n : Nat, n ≤ 36 → FPn D n (fpD D n)
  | 0, _ => by
    have ha := hW.a
    refine ⟨fun i hi => ?_, fun m hm => ⟨?_, ?_⟩, fun m hm => ?_, fun m hm6 hm => ?_, fun o ho => absurd ho (Nat.not_lt_zero _), fun m k hm hk => ?_⟩
    · unfold fpD; exact if_neg (by omega)
    · unfold fpD; exact if_neg (by omega)
    · unfold fpD; exact if_neg (by omega)
    · unfold fpD; rw [if_pos (by omega)]; rfl
    · unfold fpD; exact if_neg (by omega)
    · unfold fpD; rw [if_neg (by omega)]; exact (hW.2.2.2 m hm).2.2.2.2.2.2 k hk
  | n + 1, hn => by
    have h := fpD_ok hW hN n (by omega)
    unfold fpD
    cases hb : vB D n with
    | true => rw [if_pos rfl]; exact h.lay hN hW ((vB_t (by omega)).mp hb)
    | false =>
      rw [if_neg Bool.false_ne_true]
      exact h.skip (by omega) (fun z => by rw [(vB_t (by omega)).mpr z] at hb; exact Bool.noConfusion hb)
theorem fpD_skips {D : Nat → Int} {n : Nat} : ∀ d : Nat, n + d ≤ 36 → (∀ i, i < d → ¬ vO D (n + i)) → fpD D (n + d) = fpD D n
  | 0, _, _ => rfl
  | d + 1, hd, hv => by
    have h := fpD_skips (D := D) (n := n) d (by omega) (fun i hi => hv i (by omega))
    rw [show n + (d + 1) = n + d + 1 by omega]
    have hb : vB D (n + d) = false := by
      cases hb : vB D (n + d) with
      | false => rfl
      | true => exact absurd ((vB_t (by omega)).mp hb) (hv d (by omega))
    rw [← h]
    show (if vB D (n + d) then _ else _) = _
    rw [hb, if_neg Bool.false_ne_true]
theorem fpD_lay {D : Nat → Int} {n : Nat} (hv : vO D n) : fpD D (n + 1) = layE (fpD D n) (mcO D n) n (rnk D (mcO D n) n) := by
  show (if vB D n then _ else _) = _
  rw [(vB_t hv.1).mpr hv, if_pos rfl]
section M1
variable {Γ : GG} {P : MP} {I : MM} {R : Int → MM → Prop} {Rv : MM → Prop} {cs : List Int}
def layI (I : MM) (m n r : Nat) : MM := up2 (up2 I 3 (5 + 9 * m + 3 + r) (n : Int)) 3 (5 + 9 * m + 2) ((r : Int) + 1)
theorem layI_3 {m n r : Nat} : (layI I m n r) 3 = layE (I 3) m n r := by
  funext i
  unfold layI layE up2
  simp only [if_true]
theorem layI_q {m n r q : Nat} (h : q ≠ 3) : (layI I m n r) q = I q := by unfold layI; rw [up2_ne h, up2_ne h]
/-- beyond the row -/
def zbD (D : Nat → Int) : Prop := ∀ i, 1655 ≤ i → D i = 0
theorem c_layFirst (hM : LM Γ P) (hW : WR (I 3)) (hN : ND (I 3)) (hz : zbD (I 3)) (hR : ∀ J, dtOnly I J → J 3 = fpD (I 3) 36 → zbD (J 3) → Rv J) : Cl Γ m_X6_layFirst [vR 1] P I (rv P Rv) := by
  have ha := hW.a
  have lp44 : ∀ (j : Nat), (j : Int) < I 3 2 → (∀ J, dtOnly I J → J 3 = fpD (I 3) (6 * (j + 1)) → zbD (J 3) → XM Γ m_X6_layFirst 0 0 32 [(0, vR 1), (1, vI ((j : Int) + 1))] [] P J (rv P Rv)) → ∀ (n k : Nat) (J : MM), (k : Int) + n = I 3 (59 + 4 * j + 3) → dtOnly I J → J 3 = fpD (I 3) (6 * j + k) → zbD (J 3) → XM Γ m_X6_layFirst 0 0 44 [(0, vR 1), (1, vI (j : Int)), (2, vI (k : Int))] [] P J (rv P Rv) := by
    intro j hj hX n
    have hjj := hW.2.1 j (by omega)
    induction n with
    | zero =>
      intro k J hk hd he hzz
      have hf : FPn (I 3) (6 * j + k) (J 3) := by rw [he]; exact fpD_ok hW hN _ (by omega)
      refine t_X6_layFirst_44 hM (c_job ⟨by omega, by omega, ⟨by omega, by omega⟩, ?_⟩)
      rw [show (59 + 4 * (j : Int) + 3).toNat = 59 + 4 * j + 3 by omega, hf.hi (by omega)]
      refine ⟨⟨by omega, by omega⟩, fun _ => hX J hd ?_ hzz, fun q => absurd (by omega) q⟩
      have := fpD_skips (D := I 3) (n := 6 * j + k) (6 - k) (by omega) (fun i hi hv => by
        have h3 := hv.2.2
        rw [show (6 * j + k + i) / 6 = j by omega] at h3
        omega)
      rw [show 6 * j + k + (6 - k) = 6 * (j + 1) by omega] at this
      rw [this]
      exact he
    | succ n ih =>
      intro k J hk hd he hzz
      have hf : FPn (I 3) (6 * j + k) (J 3) := by rw [he]; exact fpD_ok hW hN _ (by omega)
      refine t_X6_layFirst_44 hM (c_job ⟨by omega, by omega, ⟨by omega, by omega⟩, ?_⟩)
      rw [show (59 + 4 * (j : Int) + 3).toNat = 59 + 4 * j + 3 by omega, hf.hi (by omega)]
      refine ⟨⟨by omega, by omega⟩, fun q => absurd q (by omega), fun _ => ?_⟩
      have hv : vO (I 3) (6 * j + k) := by
        refine ⟨by omega, ?_, ?_⟩
        · rw [show (6 * j + k) / 6 = j by omega]; exact hj
        · rw [show (6 * j + k) / 6 = j by omega, show (6 * j + k) % 6 = k by omega]; omega
      have hm := (hN.1 _ hv).1
      obtain ⟨m1, m2⟩ := mcO_lt hW hv.1
      have hr6 := rnk_lt6 hN hv rfl
      have e0 : J 3 (83 + 2 * (6 * j + k)) = (mcO (I 3) (6 * j + k) : Int) := by rw [hf.hi (by omega)]; exact m2
      have e1 : J 3 (5 + 9 * mcO (I 3) (6 * j + k) + 2) = (rnk (I 3) (mcO (I 3) (6 * j + k)) (6 * j + k) : Int) := hf.2.2.1 _ hm
      rw [show 6 * (j : Int) + (k : Int) = ((6 * j + k : Nat) : Int) by push_cast; rfl]
      refine c_operationAt ⟨by omega, by omega, ?_⟩
      rw [show (83 + 2 * ((6 * j + k : Nat) : Int)).toNat = 83 + 2 * (6 * j + k) by omega, e0]
      refine c_machine ⟨by omega, by omega, ?_⟩
      rw [show (5 + 9 * (mcO (I 3) (6 * j + k) : Int) + 2).toNat = 5 + 9 * mcO (I 3) (6 * j + k) + 2 by omega, e1]
      refine ⟨by omega, by omega, ?_⟩
      intro A hA B hB
      rw [show (5 + 9 * (mcO (I 3) (6 * j + k) : Int) + 3 + (rnk (I 3) (mcO (I 3) (6 * j + k)) (6 * j + k) : Int)).toNat = 5 + 9 * mcO (I 3) (6 * j + k) + 3 + rnk (I 3) (mcO (I 3) (6 * j + k)) (6 * j + k) by omega] at hA
      have hB2 : B = layI J (mcO (I 3) (6 * j + k)) (6 * j + k) (rnk (I 3) (mcO (I 3) (6 * j + k)) (6 * j + k)) := by
        rw [hB, hA]
        unfold layI
        rw [up2_nj (by omega), e1]
      refine ih (k + 1) B (by omega) (fun q hq => by rw [hB2, layI_q hq]; exact hd q hq) ?_ ?_
      · rw [hB2, layI_3, he]
        exact (fpD_lay hv).symm
      · rw [hB2, layI_3]
        intro i hi
        unfold layE
        rw [if_neg (by omega), if_neg (by omega)]
        exact hzz i hi
  have lp32 : ∀ (n j : Nat) (J : MM), (j : Int) + n = I 3 2 → dtOnly I J → J 3 = fpD (I 3) (6 * j) → zbD (J 3) → XM Γ m_X6_layFirst 0 0 32 [(0, vR 1), (1, vI (j : Int))] [] P J (rv P Rv) := by
    intro n
    induction n with
    | zero =>
      intro j J hj hd he hzz
      have hf : FPn (I 3) (6 * j) (J 3) := by rw [he]; exact fpD_ok hW hN _ (by omega)
      refine t_X6_layFirst_32 hM ⟨⟨by omega, by omega⟩, by rw [hf.lo (by decide)]; exact ⟨by omega, by omega⟩, fun _ => hR J hd ?_ hzz, fun q => absurd (by rw [hf.lo (by decide)]; omega) q⟩
      have := fpD_skips (D := I 3) (n := 6 * j) (36 - 6 * j) (by omega) (fun i hi hv => by
        have h3 := hv.2.1
        have h4 : j ≤ (6 * j + i) / 6 := by omega
        omega)
      rw [show 6 * j + (36 - 6 * j) = 36 by omega] at this
      rw [this]
      exact he
    | succ n ih =>
      intro j J hj hd he hzz
      have hf : FPn (I 3) (6 * j) (J 3) := by rw [he]; exact fpD_ok hW hN _ (by omega)
      have hjj := hW.2.1 j (by omega)
      refine t_X6_layFirst_32 hM ⟨⟨by omega, by omega⟩, by rw [hf.lo (by decide)]; exact ⟨by omega, by omega⟩, fun q => absurd q (by rw [hf.lo (by decide)]; omega), fun _ => ?_⟩
      exact lp44 j (by omega) (fun J2 a b c => ih (j + 1) J2 (by omega) a b c) (I 3 (59 + 4 * j + 3)).toNat 0 J (by omega) hd he hzz
  have lp2 : ∀ (n m : Nat) (J : MM), (m : Int) + n = I 3 0 → dtOnly I J → (∀ i, (∀ m2, m2 < m → i ≠ 5 + 9 * m2 + 2) → J 3 i = I 3 i) → (∀ m2, m2 < m → J 3 (5 + 9 * m2 + 2) = 0) → XM Γ m_X6_layFirst 0 0 2 [(0, vR 1), (1, vI (m : Int))] [] P J (rv P Rv) := by
    intro n
    induction n with
    | zero =>
      intro m J hm hd h1 h2
      have e0 : J 3 0 = I 3 0 := h1 0 (fun _ _ => by omega)
      refine t_X6_layFirst_2 hM ⟨⟨by omega, by omega⟩, by rw [e0]; exact ⟨by omega, by omega⟩, fun _ => ?_, fun q => absurd (by rw [e0]; omega) q⟩
      refine lp32 (I 3 2).toNat 0 J (by omega) hd ?_ (fun i hi => by rw [h1 i (fun _ _ => by omega)]; exact hz i hi)
      funext i
      show J 3 i = if i < 59 ∧ i % 9 = 7 ∧ ((i / 9 : Nat) : Int) < I 3 0 then 0 else I 3 i
      by_cases e : i < 59 ∧ i % 9 = 7 ∧ ((i / 9 : Nat) : Int) < I 3 0
      · rw [if_pos e, show i = 5 + 9 * (i / 9) + 2 by omega]
        exact h2 _ (by omega)
      · rw [if_neg e]
        exact h1 i (fun m2 hm2 q => e (by omega))
    | succ n ih =>
      intro m J hm hd h1 h2
      have e0 : J 3 0 = I 3 0 := h1 0 (fun _ _ => by omega)
      refine t_X6_layFirst_2 hM ⟨⟨by omega, by omega⟩, by rw [e0]; exact ⟨by omega, by omega⟩, fun q => absurd q (by rw [e0]; omega), fun _ => c_machine ⟨by omega, by omega, ?_⟩⟩
      intro A hA
      rw [show (5 + 9 * (m : Int) + 2).toNat = 5 + 9 * m + 2 by omega] at hA
      refine ih (m + 1) A (by omega) (fun q hq => by rw [hA, up2_ne hq]; exact hd q hq) (fun i hi => ?_) (fun m2 hm2 => ?_)
      · rw [hA, up2_nj (hi m (by omega))]
        exact h1 i (fun m2 h => hi m2 (by omega))
      · by_cases e : m2 = m
        · rw [hA, e, up2_eq]
        · rw [hA, up2_nj (by omega)]
          exact h2 m2 (by omega)
  exact cl_of n_X6_layFirst (Nat.le_of_ble_eq_true rfl) (t_X6_layFirst_0 hM (lp2 (I 3 0).toNat 0 I (by omega) (fun _ _ => rfl) (fun _ _ => rfl) (fun m2 h => absurd h (Nat.not_lt_zero _))))
end M1
