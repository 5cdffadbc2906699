/-! SWAPS: the reference's exchange, spanNow, spanAfter, placeOf, bring -/
def exF (D : Nat → Int) (m p : Nat) : Nat → Int := fun i => if i = 5 + 9 * m + 3 + p + 1 then D (5 + 9 * m + 3 + p) else if i = 5 + 9 * m + 3 + p then D (5 + 9 * m + 3 + p + 1) else D i
theorem exD_3 {I : MM} {m p : Nat} : (exD I m p) 3 = exF (I 3) m p := by
  funext i
  unfold exD exF up2
  simp only [if_true]
theorem exD_q {I : MM} {m p q : Nat} (h : q ≠ 3) : (exD I m p) q = I q := by unfold exD; rw [up2_ne h, up2_ne h]
theorem exF_2 {D : Nat → Int} {m p : Nat} : exF (exF D m p) m p = D := by
  funext i
  unfold exF
  by_cases h1 : i = 5 + 9 * m + 3 + p + 1
  · subst h1
    rw [if_pos rfl, if_neg (by omega), if_pos rfl]
  · rw [if_neg h1]
    by_cases h2 : i = 5 + 9 * m + 3 + p
    · subst h2
      rw [if_pos rfl, if_pos rfl]
    · rw [if_neg h2, if_neg h1, if_neg h2]
theorem exF_o {D : Nat → Int} {m p i : Nat} (h : i ≠ 5 + 9 * m + 3 + p + 1 ∧ i ≠ 5 + 9 * m + 3 + p) : exF D m p i = D i := by unfold exF; rw [if_neg h.1, if_neg h.2]
/-- only orders differ -/
def sameD (D D' : Nat → Int) : Prop := ∀ i : Nat, (∀ m k : Nat, m < 6 → k < 6 → i ≠ 5 + 9 * m + 3 + k) → D' i = D i
theorem exF_same {D : Nat → Int} {m p : Nat} (hm : m < 6) (hp : p + 1 < 6) : sameD D (exF D m p) := fun i h => exF_o ⟨h m (p + 1) hm hp, h m p hm (by omega)⟩
theorem sameD.refl (D : Nat → Int) : sameD D D := fun _ _ => rfl
theorem sameD.trans {A B C : Nat → Int} (h : sameD A B) (h2 : sameD B C) : sameD A C := fun i hi => (h2 i hi).trans (h i hi)
theorem sameD.lo {D D' : Nat → Int} (h : sameD D D') {i : Nat} (hi : i < 8) : D' i = D i := h i (fun m k _ _ => by omega)
theorem sameD.hi {D D' : Nat → Int} (h : sameD D D') {i : Nat} (hi : 59 ≤ i) : D' i = D i := h i (fun m k _ _ => by omega)
theorem sameD.mc {D D' : Nat → Int} (h : sameD D D') {m c : Nat} (hc : c < 3) : D' (5 + 9 * m + c) = D (5 + 9 * m + c) := h _ (fun m2 k _ _ => by omega)
theorem sameD.mc0 {D D' : Nat → Int} (h : sameD D D') {m : Nat} : D' (5 + 9 * m) = D (5 + 9 * m) := h _ (fun m2 k _ _ => by omega)
theorem sameD.v {D D' : Nat → Int} (h : sameD D D') {o : Nat} : vO D' o ↔ vO D o := by unfold vO; rw [h.lo (by decide), h.hi (by omega)]
theorem sameD.mo {D D' : Nat → Int} (h : sameD D D') {o : Nat} : mcO D' o = mcO D o := by unfold mcO; rw [h.hi (by omega)]
theorem sameD.bl {D D' : Nat → Int} (h : sameD D D') {o : Nat} : blB D' o = blB D o := by unfold blB; rw [h.mo, h.mc0, h.hi (by omega)]
theorem sameD.lp {D D' : Nat → Int} (h : sameD D D') {j : Nat} : lastP D' j = lastP D j := by unfold lastP; rw [h.hi (by omega)]
theorem sameD.cm {D D' T : Nat → Int} (h : sameD D D') {j : Nat} : cmpF D' T j = cmpF D T j := by unfold cmpF; rw [h.lp, h.hi (by omega)]
theorem sameD.wr {D D' : Nat → Int} (h : sameD D D') (hW : WR D) (ho : ∀ m k : Nat, m < 6 → k < 6 → 0 ≤ D' (5 + 9 * m + 3 + k) ∧ D' (5 + 9 * m + 3 + k) ≤ 35) : WR D' := by
  refine ⟨?_, fun j hj => ?_, fun o h2 => ?_, fun m hm => ?_⟩
  · rw [h.lo (by decide), h.lo (by decide), h.lo (by decide), h.lo (by decide), h.lo (by decide)]; exact hW.1
  · rw [h.hi (by omega), h.hi (by omega), h.hi (by omega), h.hi (by omega), h.lo (by decide)]; exact hW.2.1 j hj
  · rw [h.hi (by omega), h.hi (by omega)]; exact hW.2.2.1 o h2
  · have := hW.2.2.2 m hm
    rw [h.mc0, h.mc (by decide), h.mc (by decide)]
    exact ⟨this.1, this.2.1, this.2.2.1, this.2.2.2.1, this.2.2.2.2.1, this.2.2.2.2.2.1, fun k hk => ho m k hm hk⟩
theorem sameD.rc {D D' : Nat → Int} {cs : List Int} (h : sameD D D') (hC : RC D cs) : RC D' cs := by
  refine ⟨hC.1, fun q => hC.2.1 (by rw [← h.lo (by decide)]; exact q), fun q => ?_⟩
  have := hC.2.2 (by rw [← h.lo (by decide)]; exact q)
  rw [h.lo (by decide)]
  refine ⟨this.1, fun i hi => ?_⟩
  rw [h.hi (by omega)]
  exact this.2 i hi
theorem exF_WR {D : Nat → Int} (hW : WR D) {m p : Nat} (hm : m < 6) (hp : p + 1 < 6) : WR (exF D m p) := by
  refine (exF_same hm hp).wr hW (fun m2 k h1 h2 => ?_)
  have a1 := (hW.2.2.2 m hm).2.2.2.2.2.2 p (by omega)
  have a2 := (hW.2.2.2 m hm).2.2.2.2.2.2 (p + 1) hp
  have a3 := (hW.2.2.2 m2 h1).2.2.2.2.2.2 k h2
  unfold exF
  split
  · exact a1
  · split
    · rw [show 5 + 9 * m + 3 + p + 1 = 5 + 9 * m + 3 + (p + 1) by omega]; exact a2
    · exact a3
/-- two places change -/
def swp (p k : Nat) : Nat := if k = p then p + 1 else if k = p + 1 then p else k
theorem swp_2 (p k : Nat) : swp p (swp p k) = k := by unfold swp; split <;> (split <;> (try split) <;> omega)
theorem exF_oN {D : Nat → Int} {m p m2 k : Nat} (hp : p + 1 < 6) (hk : k < 6) : oN (exF D m p) m2 k = if m2 = m then oN D m (swp p k) else oN D m2 k := by
  unfold oN exF swp
  by_cases h : m2 = m
  · subst h
    rw [if_pos rfl]
    by_cases h1 : k = p + 1
    · subst h1
      rw [if_pos (by omega), if_neg (by omega), if_pos rfl]
    · rw [if_neg (by omega)]
      by_cases h2 : k = p
      · subst h2
        rw [if_pos rfl, if_pos rfl]; rfl
      · rw [if_neg (by omega), if_neg h2, if_neg h1]
  · rw [if_neg h, if_neg (by omega), if_neg (by omega)]
theorem swp_lt {D : Nat → Int} {p k : Nat} {n : Int} (hp : (p : Int) + 1 < n) (hk : (k : Int) < n) : (swp p k : Int) < n := by unfold swp; split <;> (try split) <;> omega
theorem exF_WO {D : Nat → Int} (hW : WR D) (hO : WO D) {m p : Nat} (hm : (m : Int) < D 0) (hp : (p : Int) + 1 < D (5 + 9 * m + 2)) : WO (exF D m p) := by
  have ha := hW.a
  have hm6 : m < 6 := by omega
  have hmm := hW.2.2.2 m hm6
  have hp6 : p + 1 < 6 := by omega
  have hs := exF_same (D := D) hm6 hp6
  have six : ∀ m2 k : Nat, (m2 : Int) < D 0 → (k : Int) < D (5 + 9 * m2 + 2) → k < 6 := fun m2 k h1 h2 => by
    have := hW.2.2.2 m2 (by omega)
    omega
  refine ⟨fun m2 k h1 h2 => ?_, fun m2 k k2 h1 h2 h3 h4 => ?_, fun o ho => ?_⟩
  · rw [hs.lo (by decide)] at h1
    rw [hs.mc (by decide)] at h2
    rw [exF_oN hp6 (six m2 k h1 h2), hs.v, hs.mo]
    by_cases h : m2 = m
    · subst h
      rw [if_pos rfl]
      exact hO.1 m2 _ h1 (swp_lt (D := D) hp h2)
    · rw [if_neg h]
      exact hO.1 m2 k h1 h2
  · rw [hs.lo (by decide)] at h1
    rw [hs.mc (by decide)] at h2 h3
    rw [exF_oN hp6 (six m2 k h1 h2), exF_oN hp6 (six m2 k2 h1 h3)] at h4
    by_cases h : m2 = m
    · subst h
      rw [if_pos rfl, if_pos rfl] at h4
      have := hO.2.1 m2 _ _ h1 (swp_lt (D := D) hp h2) (swp_lt (D := D) hp h3) h4
      rw [← swp_2 p k, ← swp_2 p k2, this]
    · rw [if_neg h, if_neg h] at h4
      exact hO.2.1 m2 k k2 h1 h2 h3 h4
  · rw [hs.v] at ho
    obtain ⟨h1, k, h2, h3⟩ := hO.2.2 o ho
    rw [hs.mo, hs.lo (by decide)]
    refine ⟨h1, ?_⟩
    by_cases h : mcO D o = m
    · refine ⟨swp p k, ?_, ?_⟩
      · rw [hs.mc (by decide)]
        rw [h] at h2 ⊢
        exact swp_lt (D := D) hp h2
      · have h4 : ((swp p k : Nat) : Int) < D (5 + 9 * m + 2) := by rw [h] at h2; exact swp_lt (D := D) hp h2
        rw [exF_oN hp6 (six m _ hm h4), if_pos h, swp_2, ← h, h3]
    · refine ⟨k, ?_, ?_⟩
      · rw [hs.mc (by decide)]; exact h2
      · rw [exF_oN hp6 (six _ k h1 h2), if_neg h, h3]
section M1
variable {Γ : GG} {P : MP} {I : MM} {R : Int → MM → Prop} {Rv : MM → Prop}
theorem k_findStarts (hM : LM Γ P) (hW : WR (I 3)) (hO : WO (I 3))
    (hF : ∀ J, asOnly I J → (∀ o : Nat, vO (I 3) o → J 7 o = sD (I 3) o) → Stt (I 3) (J 9) → TB (J 9) → R 1 J) (hN : ∀ J, asOnly I J → (¬ ∃ T, Stt (I 3) T) → R 0 J) : Cl Γ m_X6_findStarts [vR 1] P I (ri P R) :=
  c_findStarts hM hW hO (fun J h1 h2 h3 h4 => hF J h1 (fun o ho => (h2.can hW hO o ho).1) (h3.same (h2.can hW hO)) h4)
    (fun J h1 h2 h3 => hN J h1 (fun ⟨T, hT⟩ => h3 ⟨T, IsS.same (h2.can hW hO).symm hT⟩))
theorem k_isDeadlocked (hM : LM Γ P) (hW : WR (I 3)) (hO : WO (I 3))
    (hF : ∀ J, trOnly I J → Stt (I 3) (J 9) → TB (J 9) → Fr (I 3) → R 0 J) (hN : ∀ J, trOnly I J → ¬ Fr (I 3) → R 1 J) : Cl Γ m_X6_isDeadlocked [vR 1] P I (ri P R) :=
  c_isDeadlocked hM hW hO (fun J h1 h2 h3 h4 h5 => hF J h1 (h3.same (h2.can hW hO)) h4 ⟨⟨_, h3.same (h2.can hW hO)⟩, fun q => (h5 q).same (h2.can hW hO)⟩)
    (fun J h1 h2 h3 => hN J h1 (fun hf => by
      rcases h3 with q | ⟨q1, q2⟩
      · obtain ⟨T, hT⟩ := hf.1
        exact q ⟨T, IsS.same (h2.can hW hO).symm hT⟩
      · exact q2 (Acy.same (h2.can hW hO).symm (hf.2 q1))))
theorem TB.v {D T : Nat → Int} (h : TB T) : TBv D T := fun o ho => h o ho.1
noncomputable def spanX (D : Nat → Int) : Int := spanF D (TD D)
noncomputable def costX (D : Nat → Int) (cs : List Int) : Int := sumF D cs (TD D)
theorem k_spanNow (hM : LM Γ P) (hW : WR (I 3)) (hO : WO (I 3)) (hf : ∃ T, Stt (I 3) T) (h : ∀ J, asOnly I J → Stt (I 3) (J 9) → TB (J 9) → R (spanX (I 3)) J) : Cl Γ m_X6_spanNow [vR 1] P I (ri P R) := by
  refine cl_of n_X6_spanNow (Nat.le_of_ble_eq_true rfl) (t_X6_spanNow_0 hM (k_findStarts hM hW hO (fun J h1 h2 h3 h4 => ?_) (fun J h1 h2 => absurd hf h2)))
  have hJ3 : J 3 = I 3 := h1 3 (by decide) (by decide) (by decide)
  refine ⟨⟨by decide, by decide⟩, fun q => absurd q (by decide), fun _ => c_makespanOf hM (by rw [hJ3]; exact hW) (by rw [hJ3]; exact h4.v) ?_⟩
  rw [hJ3, spanF_same hW h3.td]
  exact h J h1 h3 h4
/-- the makespan of the plan with a swap more; -1 if that is deadlocked -/
noncomputable def aftX (D : Nat → Int) (m p : Nat) : Int := pIf (Fr (exF D m p)) (spanX (exF D m p)) (-1)
def aftB (D : Nat → Int) (m p : Nat) : Prop := (Fr (exF D m p) ∧ 0 ≤ aftX D m p ∧ aftX D m p ≤ 1000099) ∨ (¬ Fr (exF D m p) ∧ aftX D m p = -1)
theorem k_spanAfter (hM : LM Γ P) (hW : WR (I 3)) (hO : WO (I 3)) {m p : Nat} (hm : (m : Int) < I 3 0) (hp : (p : Int) + 1 < I 3 (5 + 9 * m + 2)) (h : ∀ J, trOnly I J → aftB (I 3) m p → R (aftX (I 3) m p) J) : Cl Γ m_X6_spanAfter [vR 1, vI (m : Int), vI (p : Int)] P I (ri P R) := by
  have ha := hW.a
  have hmm := hW.2.2.2 m (by omega)
  have hm6 : m < 6 := by omega
  have hp6 : p + 1 < 6 := by omega
  have hW2 := exF_WR hW hm6 hp6
  have hO2 := exF_WO hW hO hm hp
  have back : ∀ J, trOnly (exD I m p) J → trOnly I (exD J m p) := fun J hJ q h7 h8 h9 h10 => by
    by_cases e : q = 3
    · subst e
      rw [exD_3, hJ 3 (by decide) (by decide) (by decide) (by decide), exD_3, exF_2]
    · rw [exD_q e, hJ q h7 h8 h9 h10, exD_q e]
  refine cl_of n_X6_spanAfter (Nat.le_of_ble_eq_true rfl) (t_X6_spanAfter_0 hM (c_exchange hM hm6 (by omega) (k_isDeadlocked hM (by rw [exD_3]; exact hW2) (by rw [exD_3]; exact hO2) (fun J h1 h2 h3 h4 => ?_) (fun J h1 h2 => ?_))))
  · rw [exD_3] at h2 h4
    have hJ3 : J 3 = exF (I 3) m p := by rw [h1 3 (by decide) (by decide) (by decide) (by decide), exD_3]
    refine ⟨⟨by decide, by decide⟩, fun _ => c_makespanOf hM (by rw [hJ3]; exact hW2) (by rw [hJ3]; exact h3.v) (c_exchange hM hm6 (by omega) ?_), fun q => absurd rfl q⟩
    have e : aftX (I 3) m p = spanF (exF (I 3) m p) (TD (exF (I 3) m p)) := by unfold aftX; rw [pIf_t h4]; rfl
    have hb := spanF_b hW2 (fun o ho => by rw [← h2.td o ho]; exact h3 o ho.1 : TBv (exF (I 3) m p) (TD (exF (I 3) m p)))
    have := h _ (back J h1) (Or.inl ⟨h4, by rw [e]; exact hb.1, by rw [e]; exact hb.2⟩)
    rw [hJ3, spanF_same hW2 h2.td, ← e]
    exact this
  · rw [exD_3] at h2
    refine ⟨⟨by decide, by decide⟩, fun q => absurd q (by decide), fun _ => c_exchange hM hm6 (by omega) ?_⟩
    have e : aftX (I 3) m p = -1 := by unfold aftX; rw [pIf_f h2]
    have := h _ (back J h1) (Or.inr ⟨h2, e⟩)
    rw [e] at this
    exact this
theorem c_placeOf (hM : LM Γ P) (hW : WR (I 3)) (hO : WO (I 3)) {o : Nat} (ho : vO (I 3) o) (h : R (plD (I 3) o : Int) I) : Cl Γ m_X6_placeOf [vR 1, vI (o : Int)] P I (ri P R) := by
  obtain ⟨h1, h2, h3⟩ := plD_at hW hO ho
  obtain ⟨hm, em⟩ := mcO_lt hW ho.1
  have hmm := hW.2.2.2 _ hm
  have hpl : plD (I 3) o < 6 := by omega
  have key : ∀ (n k : Nat), k + n = plD (I 3) o → XM Γ m_X6_placeOf 0 0 13 [(0, vR 1), (1, vI (o : Int)), (2, vI (5 + 9 * (mcO (I 3) o : Int) + 3)), (3, vI (k : Int))] [] P I (ri P R) := by
    intro n
    induction n with
    | zero =>
      intro k hk
      have hk2 : k = plD (I 3) o := by omega
      have e := oN_int hW hm (k := k) (by omega)
      have ho2 := ho.1
      refine t_X6_placeOf_13 hM ⟨by omega, by omega, ?_⟩
      rw [show (5 + 9 * (mcO (I 3) o : Int) + 3 + (k : Int)).toNat = 5 + 9 * mcO (I 3) o + 3 + k by omega, e.1]
      have e2 : oN (I 3) (mcO (I 3) o) k = o := by rw [hk2]; exact h3
      rw [e2]
      refine ⟨⟨by omega, by omega⟩, ⟨by omega, by omega⟩, fun _ => ?_, fun q => absurd rfl q⟩
      rw [hk2]
      exact h
    | succ n ih =>
      intro k hk
      have e := oN_int hW hm (k := k) (by omega)
      have ho2 := ho.1
      refine t_X6_placeOf_13 hM ⟨by omega, by omega, ?_⟩
      rw [show (5 + 9 * (mcO (I 3) o : Int) + 3 + (k : Int)).toNat = 5 + 9 * mcO (I 3) o + 3 + k by omega, e.1]
      refine ⟨⟨by omega, by omega⟩, ⟨by omega, by omega⟩, fun q => ?_, fun _ => ih (k + 1) (by omega)⟩
      have e3 : oN (I 3) (mcO (I 3) o) k = o := by omega
      have := hO.2.1 _ k _ h1 (by omega) h2 (by rw [e3, h3])
      omega
  refine cl_of n_X6_placeOf (Nat.le_of_ble_eq_true rfl) (t_X6_placeOf_0 hM (c_machineOf hM ho.1 (c_machine ?_)))
  intro u hu
  rw [hu, em]
  exact key (plD (I 3) o) 0 (by omega)
/-- an operation is brought from a place to another -/
def mvU (D : Nat → Int) (m : Nat) : Nat → Nat → Nat → Int
  | 0, _ => D
  | n + 1, p => mvU (exF D m p) m n (p + 1)
def mvD (D : Nat → Int) (m : Nat) : Nat → Nat → Nat → Int
  | 0, _ => D
  | n + 1, p => mvD (exF D m (p - 1)) m n (p - 1)
def mvF (D : Nat → Int) (m f t : Nat) : Nat → Int := if f < t then mvU D m (t - f) f else mvD D m (f - t) f
def dtOnly (I J : MM) : Prop := ∀ q : Nat, q ≠ 3 → J q = I q
theorem c_bring (hM : LM Γ P) (hW : WR (I 3)) (hO : WO (I 3)) {o t : Nat} (ho : vO (I 3) o) (ht : (t : Int) < I 3 (5 + 9 * mcO (I 3) o + 2)) (h : ∀ J, dtOnly I J → J 3 = mvF (I 3) (mcO (I 3) o) (plD (I 3) o) t → Rv J) : Cl Γ m_X6_bring [vR 1, vI (o : Int), vI (t : Int)] P I (rv P Rv) := by
  obtain ⟨h1, h2, h3⟩ := plD_at hW hO ho
  obtain ⟨hm, em⟩ := mcO_lt hW ho.1
  have hmm := hW.2.2.2 _ hm
  have dn : ∀ (n k : Nat) (J : MM), t + n = k → k < 6 → (∀ J2, dtOnly J J2 → J2 3 = mvD (J 3) (mcO (I 3) o) n k → Rv J2) → XM Γ m_X6_bring 0 0 32 [(0, vR 1), (2, vI (t : Int)), (3, vI (mcO (I 3) o : Int)), (4, vI (k : Int))] [] P J (rv P Rv) := by
    intro n
    induction n with
    | zero =>
      intro k J hk hk6 hR
      exact t_X6_bring_32 hM ⟨⟨by omega, by omega⟩, ⟨by omega, by omega⟩, fun _ => hR J (fun _ _ => rfl) rfl, fun q => absurd (by omega) q⟩
    | succ n ih =>
      intro k J hk hk6 hR
      refine t_X6_bring_32 hM ⟨⟨by omega, by omega⟩, ⟨by omega, by omega⟩, fun q => absurd q (by omega), fun _ => ?_⟩
      rw [show (k : Int) - 1 = ((k - 1 : Nat) : Int) by omega, show (k : Int) + -1 = ((k - 1 : Nat) : Int) by omega]
      refine c_exchange hM hm (by omega) (ih (k - 1) _ (by omega) (by omega) (fun J2 g1 g2 => hR J2 (fun q hq => by rw [g1 q hq, exD_q hq]) ?_))
      rw [g2, exD_3]
      rfl
  have up : ∀ (n k : Nat) (J : MM), k + n = t → (∀ J2, dtOnly J J2 → J2 3 = mvU (J 3) (mcO (I 3) o) n k → Rv J2) → XM Γ m_X6_bring 0 0 13 [(0, vR 1), (2, vI (t : Int)), (3, vI (mcO (I 3) o : Int)), (4, vI (k : Int))] [] P J (rv P Rv) := by
    intro n
    induction n with
    | zero =>
      intro k J hk hR
      exact t_X6_bring_13 hM ⟨⟨by omega, by omega⟩, ⟨by omega, by omega⟩, fun _ => dn 0 k J (by omega) (by omega) hR, fun q => absurd (by omega) q⟩
    | succ n ih =>
      intro k J hk hR
      refine t_X6_bring_13 hM ⟨⟨by omega, by omega⟩, ⟨by omega, by omega⟩, fun q => absurd q (by omega), fun _ => ?_⟩
      refine c_exchange hM hm (by omega) (ih (k + 1) _ (by omega) (fun J2 g1 g2 => hR J2 (fun q hq => by rw [g1 q hq, exD_q hq]) ?_))
      rw [g2, exD_3]
      rfl
  refine cl_of n_X6_bring (Nat.le_of_ble_eq_true rfl) (t_X6_bring_0 hM (c_machineOf hM ho.1 (c_placeOf hM hW hO ho ?_)))
  rw [em]
  unfold mvF at h
  by_cases hlt : plD (I 3) o < t
  · rw [if_pos hlt] at h
    exact up (t - plD (I 3) o) _ I (by omega) h
  · rw [if_neg hlt] at h
    refine t_X6_bring_13 hM ⟨⟨by omega, by omega⟩, ⟨by omega, by omega⟩, fun _ => dn (plD (I 3) o - t) _ I (by omega) (by omega) h, fun q => absurd (by omega) q⟩
/-! what moves keep -/
theorem mvU_ok {m : Nat} (hm6 : m < 6) : ∀ (n p : Nat) (D : Nat → Int), WR D → WO D → (m : Int) < D 0 → (p : Int) + n < D (5 + 9 * m + 2) → sameD D (mvU D m n p) ∧ WR (mvU D m n p) ∧ WO (mvU D m n p)
  | 0, p, D, hW, hO, _, _ => ⟨sameD.refl D, hW, hO⟩
  | n + 1, p, D, hW, hO, hm, hp => by
    have hmm := hW.2.2.2 m hm6
    have hs := exF_same (D := D) hm6 (p := p) (by omega)
    obtain ⟨a, b, c⟩ := mvU_ok hm6 n (p + 1) (exF D m p) (exF_WR hW hm6 (by omega)) (exF_WO hW hO hm (by omega)) (by rw [hs.lo (by decide)]; exact hm) (by rw [hs.mc (by decide)]; push_cast; push_cast at hp; omega)
    exact ⟨hs.trans a, b, c⟩
theorem mvD_ok {m : Nat} (hm6 : m < 6) : ∀ (n p : Nat) (D : Nat → Int), WR D → WO D → (m : Int) < D 0 → (p : Int) < D (5 + 9 * m + 2) → n ≤ p → sameD D (mvD D m n p) ∧ WR (mvD D m n p) ∧ WO (mvD D m n p)
  | 0, p, D, hW, hO, _, _, _ => ⟨sameD.refl D, hW, hO⟩
  | n + 1, p, D, hW, hO, hm, hp, hn => by
    have hmm := hW.2.2.2 m hm6
    have hs := exF_same (D := D) hm6 (p := p - 1) (by omega)
    obtain ⟨a, b, c⟩ := mvD_ok hm6 n (p - 1) (exF D m (p - 1)) (exF_WR hW hm6 (by omega)) (exF_WO hW hO hm (by omega)) (by rw [hs.lo (by decide)]; exact hm) (by rw [hs.mc (by decide)]; omega) (by omega)
    exact ⟨hs.trans a, b, c⟩
theorem mvF_ok {m f t : Nat} {D : Nat → Int} (hm6 : m < 6) (hW : WR D) (hO : WO D) (hm : (m : Int) < D 0) (hf : (f : Int) < D (5 + 9 * m + 2)) (ht : (t : Int) < D (5 + 9 * m + 2)) : sameD D (mvF D m f t) ∧ WR (mvF D m f t) ∧ WO (mvF D m f t) := by
  unfold mvF
  split
  · exact mvU_ok hm6 _ _ D hW hO hm (by omega)
  · exact mvD_ok hm6 _ _ D hW hO hm hf (by omega)
end M1
