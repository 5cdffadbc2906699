/-! THE REFERENCE'S TIMES AND COSTS -/
/-- the cost expression of the data -/
def okC (cs : List Int) : Prop := (∀ c, c ∈ cs → -8 ≤ c ∧ c ≤ 9999) ∧ dpF cs 0 = some 1
def RC (D : Nat → Int) (cs : List Int) : Prop := okC cs ∧ (D 3 = 0 → cs = [-1]) ∧ (D 3 ≠ 0 → D 4 = ((encL cs).length : Int) ∧ ∀ i : Nat, i < (encL cs).length → (encL cs)[i]? = some (D (155 + i)))
def costF (D : Nat → Int) (cs : List Int) (T : Nat → Int) (j : Nat) : Int := evF D j (cmpF D T j) cs
def sumN (D : Nat → Int) (cs : List Int) (T : Nat → Int) : Nat → Int
  | 0 => 0
  | j + 1 => sumN D cs T j + costF D cs T j
def sumF (D : Nat → Int) (cs : List Int) (T : Nat → Int) : Int := sumN D cs T (D 2).toNat
def leaveF (D T : Nat → Int) (o : Nat) : Int := if blB D o then T (o + 1) else T o + D (83 + 2 * o + 1)
theorem costF_same {D T T' : Nat → Int} {cs : List Int} (hW : WR D) (h : ∀ o : Nat, vO D o → T o = T' o) {j : Nat} (hj : (j : Int) < D 2) : costF D cs T j = costF D cs T' j := by
  unfold costF
  rw [cmpF_same hW h hj]
theorem sumN_same {D T T' : Nat → Int} {cs : List Int} (hW : WR D) (h : ∀ o : Nat, vO D o → T o = T' o) : ∀ j : Nat, (j : Int) ≤ D 2 → sumN D cs T j = sumN D cs T' j
  | 0, _ => rfl
  | j + 1, hj => by
    simp only [sumN]
    rw [sumN_same hW h j (by omega), costF_same hW h (by omega)]
theorem sumF_same {D T T' : Nat → Int} {cs : List Int} (hW : WR D) (h : ∀ o : Nat, vO D o → T o = T' o) : sumF D cs T = sumF D cs T' := sumN_same hW h _ (by have := hW.a; omega)
/-- the stack lies in a row, its top last -/
def stkR (A : Nat → Int) : List Int → Prop
  | [] => True
  | v :: r => A r.length = v ∧ stkR A r
theorem stkR_of {A A' : Nat → Int} : ∀ {st : List Int}, stkR A st → (∀ k, k < st.length → A' k = A k) → stkR A' st
  | [], _, _ => trivial
  | v :: r, h, he => ⟨by rw [he r.length (by simp)]; exact h.1, stkR_of h.2 (fun k hk => he k (by simp; omega))⟩
def bdS (st : List Int) : Prop := ∀ v, v ∈ st → -1000099 ≤ v ∧ v ≤ 1000099
theorem limF_b (v : Int) : -1000000 ≤ limF v ∧ limF v ≤ 1000000 := by unfold limF; split <;> (try split) <;> omega
theorem opF_b {c a b : Int} (ha : -1000099 ≤ a ∧ a ≤ 1000099) : -1000099 ≤ opF c a b ∧ opF c a b ≤ 1000099 := by
  have h1 := limF_b (a + b)
  have h2 := limF_b (a - b)
  have h3 := limF_b (a * b)
  unfold opF
  split
  · omega
  · split
    · omega
    · split
      · omega
      · split
        · omega
        · have h4 : (Int.tdiv a b).natAbs ≤ a.natAbs := by rw [Int.natAbs_tdiv]; exact Nat.div_le_self _ _
          omega
theorem valF_b {D : Nat → Int} (hW : WR D) {j : Nat} (hj : j < 6) {x c : Int} (hx : 0 ≤ x ∧ x ≤ 1000099) (hc : -5 < c ∧ c ≤ 9999) : -1000099 ≤ valF D j x c ∧ valF D j x c ≤ 1000099 := by
  have h := hW.2.1 j hj
  unfold valF
  split
  · omega
  · split
    · omega
    · split
      · omega
      · split <;> omega
section M1
variable {Γ : GG} {P : MP} {I : MM} {R : Int → MM → Prop} {Rv : MM → Prop}
theorem c_completionOf (hM : LM Γ P) (hW : WR (I 3)) {j : Nat} (hj : (j : Int) < I 3 2) (h : R (cmpF (I 3) (I 9) j) I) : Cl Γ m_X6_completionOf [vR 1, vI (j : Int)] P I (ri P R) := by
  obtain ⟨h1, -, -, h4⟩ := lastP_v hW hj
  have ha := hW.a
  refine cl_of n_X6_completionOf (Nat.le_of_ble_eq_true rfl) (t_X6_completionOf_0 hM (c_job ⟨by omega, by omega, ?_⟩))
  rw [show (59 + 4 * (j : Int) + 3).toNat = 59 + 4 * j + 3 by omega]
  rintro _ rfl
  rw [← h4, Int.toNat_natCast]
  have := h1.1
  exact ⟨by omega, by omega, c_durationOf hM h1.1 h⟩
theorem c_makespanOf (hM : LM Γ P) (hW : WR (I 3)) (hT : TBv (I 3) (I 9)) (h : R (spanF (I 3) (I 9)) I) : Cl Γ m_X6_makespanOf [vR 1] P I (ri P R) := by
  have ha := hW.a
  have key : ∀ (n k : Nat), (k : Int) + n = I 3 2 → XM Γ m_X6_makespanOf 0 0 4 [(0, vR 1), (1, vI (spN (I 3) (I 9) k)), (2, vI (k : Int))] [] P I (ri P R) := by
    intro n
    induction n with
    | zero =>
      intro k hk
      refine t_X6_makespanOf_4 hM ⟨⟨by omega, by omega⟩, ⟨by omega, by omega⟩, fun _ => ?_, fun q => absurd (by omega) q⟩
      unfold spanF at h
      rwa [show (I 3 2).toNat = k by omega] at h
    | succ n ih =>
      intro k hk
      have h1 := spN_b hW hT k (by omega)
      have h2 := cmpF_b hW hT (j := k) (by omega)
      refine t_X6_makespanOf_4 hM ⟨⟨by omega, by omega⟩, ⟨by omega, by omega⟩, fun q => absurd q (by omega), fun _ => c_completionOf hM hW (by omega) (c_max ⟨by omega, by omega⟩ ⟨by omega, by omega⟩ ?_)⟩
      exact ih (k + 1) (by omega)
  exact cl_of n_X6_makespanOf (Nat.le_of_ble_eq_true rfl) (t_X6_makespanOf_0 hM (key (I 3 2).toNat 0 (by omega)))
theorem lc_le0 {a b : Int} : lc a b ≤ 0 ↔ a ≤ b := by unfold lc; split <;> (try split) <;> omega
theorem lc_ge0 {a b : Int} : 0 ≤ lc a b ↔ b ≤ a := by unfold lc; split <;> (try split) <;> omega
theorem lc_eq0 {a b : Int} : lc a b = 0 ↔ a = b := by unfold lc; split <;> (try split) <;> omega
theorem c_limited {v : Int} (hv : inL v) (h : R (limF v) I) : Cl Γ m_X6_limited [vL v] P I (rl P R) := by
  unfold limF at h
  refine cl_of n_X6_limited (Nat.le_of_ble_eq_true rfl) (t_X6_limited_0 ⟨hv, fun q => ⟨fun q2 => ?_, fun q2 => ?_⟩, fun q => ?_⟩)
  · rw [lc_le0] at q; rw [lc_ge0] at q2
    rwa [if_neg (by omega), if_neg (by omega)] at h
  · rw [lc_le0] at q; rw [lc_ge0] at q2
    rwa [if_neg (by omega), if_pos (by omega)] at h
  · rw [lc_le0] at q
    rwa [if_pos (by omega)] at h
theorem mul_b {a b : Int} (ha : -1000099 ≤ a ∧ a ≤ 1000099) (hb : -1000099 ≤ b ∧ b ≤ 1000099) : -1000198009801 ≤ a * b ∧ a * b ≤ 1000198009801 := by
  have h1 : (a * b).natAbs = a.natAbs * b.natAbs := Int.natAbs_mul a b
  have h2 : a.natAbs * b.natAbs ≤ 1000099 * 1000099 := Nat.mul_le_mul (by omega) (by omega)
  omega
theorem c_operate {c a b : Int} (hc : -8 ≤ c ∧ c ≤ -5) (ha : -1000099 ≤ a ∧ a ≤ 1000099) (hb : -1000099 ≤ b ∧ b ≤ 1000099) (h : R (opF c a b) I) : Cl Γ m_X6_operate [vI (-3 - c), vL a, vL b] P I (rl P R) := by
  have hm := mul_b ha hb
  unfold opF at h
  refine cl_of n_X6_operate (Nat.le_of_ble_eq_true rfl) (t_X6_operate_0 ⟨⟨by omega, by omega⟩, fun q5 => ⟨fun q2 => ⟨fun q3 => c_limited ⟨by omega, by omega⟩ ?_, fun q3 => c_limited ⟨by omega, by omega⟩ ?_⟩, fun q2 => c_limited ⟨by omega, by omega⟩ ?_⟩, fun q5 => ⟨⟨by omega, by omega⟩, fun q0 => ?_, fun q0 => ?_⟩⟩)
  · rwa [if_neg (by omega), if_neg (by omega), if_pos (by omega)] at h
  · rwa [if_neg (by omega), if_pos (by omega)] at h
  · rwa [if_pos (by omega)] at h
  · rw [Ne, lc_eq0] at q0
    rw [if_neg (by omega), if_neg (by omega), if_neg (by omega), if_neg q0] at h
    exact ⟨⟨by omega, by omega⟩, q0, h⟩
  · rw [lc_eq0] at q0
    rwa [if_neg (by omega), if_neg (by omega), if_neg (by omega), if_pos q0] at h
/-- but for the stack, nothing changes -/
def skOnly (I J : MM) : Prop := ∀ q : Nat, q ≠ 11 → J q = I q
theorem encL_cons (c : Int) (cs : List Int) : encL (c :: cs) = encF c ++ encL cs := rfl
theorem encF_len (c : Int) : (encF c).length = if -5 < c then 2 else 1 := by
  unfold encF
  by_cases h1 : 0 ≤ c
  · rw [if_pos h1, if_pos (by omega)]; rfl
  · rw [if_neg h1]
    by_cases h2 : -5 < c
    · rw [if_pos h2, if_pos h2]; rfl
    · rw [if_neg h2, if_neg h2]; rfl
theorem costOf_22 (hM : LM Γ P) (hW : WR (I 3)) {j : Nat} (hj : j < 6) {x : Int} (hx : 0 ≤ x ∧ x ≤ 1000099) {z : Int} (h : ∀ J, skOnly I J → R z J)
    {N : Nat} (hN : I 3 4 = (N : Int)) : ∀ (cs : List Int) (st : List Int) (i : Nat) (J : MM), skOnly I J → i + (encL cs).length = N → (∀ k, k < (encL cs).length → (encL cs)[k]? = some (I 3 (155 + (i + k)))) → (∀ c, c ∈ cs → -8 ≤ c ∧ c ≤ 9999) → dpF cs st.length = some 1 → bdS st → stkR (J 11) st → st.length ≤ 11 →
      z = ((cs.foldl (stF (I 3) j x) st).head?).getD 0 → XM Γ m_X6_costOf 0 0 22 [(0, vR 1), (1, vI (j : Int)), (2, vI x), (3, vI (st.length : Int)), (4, vI (i : Int))] [] P J (ri P R) := by
  have ha := hW.a
  intro cs
  induction cs with
  | nil =>
    intro st i J hJ hi hk hc hd hb hs hl hz
    have hJ3 : J 3 = I 3 := hJ 3 (by decide)
    simp only [dpF, Option.some.injEq] at hd
    simp [encL] at hi
    refine t_X6_costOf_22 hM ⟨⟨by omega, by omega⟩, by rw [hJ3]; exact ⟨by omega, by omega⟩, fun _ => ?_, fun q => absurd (by rw [hJ3]; omega) q⟩
    match st, hd with
    | [v], _ =>
      simp only [List.foldl_nil, List.head?_cons, Option.getD_some] at hz
      have e : J 11 0 = v := hs.1
      rw [e, ← hz]
      exact h J hJ
  | cons c cs ih =>
    intro st i J hJ hi hk hc hd hb hs hl hz
    have hJ3 : J 3 = I 3 := hJ 3 (by decide)
    have hcc := hc c List.mem_cons_self
    rw [encL_cons] at hk
    have hlen : (encL (c :: cs)).length = (encF c).length + (encL cs).length := by rw [encL_cons, List.length_append]
    rw [hlen] at hi
    rw [List.length_append] at hk
    have hfl := encF_len c
    by_cases hv : -5 < c
    · -- a value
      rw [if_pos hv] at hfl
      simp only [dpF, if_pos hv] at hd
      have hd11 : st.length < 11 := by
        by_cases q : st.length < 11
        · exact q
        · rw [if_neg q] at hd; cases hd
      rw [if_pos hd11] at hd
      have rest : ∀ (i2 : Nat) (v : Int), i2 = i + 2 → v = valF (I 3) j x c → ∀ J1 : MM, J1 = up2 J 11 st.length v → XM Γ m_X6_costOf 0 0 22 [(0, vR 1), (1, vI (j : Int)), (2, vI x), (3, vI ((st.length : Int) + 1)), (4, vI (i2 : Int))] [] P J1 (ri P R) := by
        rintro _ _ rfl rfl _ rfl
        have hvb := valF_b hW hj hx ⟨hv, hcc.2⟩
        refine ih (valF (I 3) j x c :: st) (i + 2) _ (fun q hq => by rw [up2_ne hq]; exact hJ q hq) (by omega) (fun k hk2 => ?_) (fun c' hc' => hc c' (List.mem_cons_of_mem _ hc')) (by rw [List.length_cons]; exact hd) (fun v hv2 => ?_) ⟨up2_eq, stkR_of hs (fun k hk2 => up2_nj (by omega))⟩ (by rw [List.length_cons]; omega) ?_
        · have := hk (k + 2) (by omega)
          rw [List.getElem?_append_right (by omega)] at this
          rw [show k + 2 - (encF c).length = k by omega] at this
          rw [this]
          congr 2
          omega
        · rcases List.mem_cons.mp hv2 with rfl | q
          · exact hvb
          · exact hb v q
        · rw [hz]
          simp only [List.foldl_cons, stF, if_pos hv]
      have h0 := hk 0 (by omega)
      have h1 := hk 1 (by omega)
      rw [List.getElem?_append_left (by omega)] at h0 h1
      refine t_X6_costOf_22 hM ⟨⟨by omega, by omega⟩, by rw [hJ3]; exact ⟨by omega, by omega⟩, fun q => absurd q (by rw [hJ3]; omega), fun _ => ⟨by omega, by omega, ?_⟩⟩
      rintro _ rfl
      rw [hJ3, show (155 + (i : Int)).toNat = 155 + (i + 0) by omega, show (155 + ((i : Int) + 1)).toNat = 155 + (i + 1) by omega]
      by_cases hn : 0 ≤ c
      · have e1 : encF c = [0, c] := by unfold encF; rw [if_pos hn]
        rw [e1] at h0 h1
        simp only [List.getElem?_cons_zero, List.getElem?_cons_succ, Option.some.injEq] at h0 h1
        rw [← h0, ← h1]
        refine ⟨⟨by omega, by omega⟩, fun q => absurd q (by decide), fun _ => ⟨by omega, by omega, ?_⟩⟩
        intro u hu
        rw [hu]
        refine ⟨fun q => absurd rfl q, fun _ => ⟨⟨by omega, by omega⟩, by omega, by omega, ?_⟩⟩
        rw [Int.toNat_natCast]
        exact rest (i + 2) c rfl (by unfold valF; rw [if_neg (by omega), if_neg (by omega), if_neg (by omega), if_neg (by omega)])
      · have e1 : encF c = [1, -1 - c] := by unfold encF; rw [if_neg hn, if_pos hv]
        rw [e1] at h0 h1
        simp only [List.getElem?_cons_zero, List.getElem?_cons_succ, Option.some.injEq] at h0 h1
        rw [← h0, ← h1]
        refine ⟨⟨by omega, by omega⟩, fun q => absurd q (by decide), fun _ => ⟨by omega, by omega, ?_⟩⟩
        rintro _ rfl
        have hjr := hW.2.1 j hj
        refine ⟨fun _ => ⟨⟨by omega, by omega⟩, fun q0 => ⟨fun q1 => ⟨fun q2 => c_job ⟨by omega, by omega, ?_⟩, fun q2 => c_job ⟨by omega, by omega, ?_⟩⟩, fun q1 => c_job ⟨by omega, by omega, ?_⟩⟩, fun q0 => ⟨⟨by omega, by omega⟩, by omega, by omega, ?_⟩⟩, fun q => absurd q (by decide)⟩
        · rw [hJ3, show (59 + 4 * (j : Int)).toNat = 59 + 4 * j by omega, Int.toNat_natCast]
          exact ⟨⟨by omega, by omega⟩, by omega, by omega, rest (i + 2) _ rfl (by unfold valF; rw [if_neg (by omega), if_neg (by omega), if_neg (by omega), if_pos (by omega)])⟩
        · rw [hJ3, show (59 + 4 * (j : Int) + 2).toNat = 59 + 4 * j + 2 by omega, Int.toNat_natCast]
          exact ⟨⟨by omega, by omega⟩, by omega, by omega, rest (i + 2) _ rfl (by unfold valF; rw [if_neg (by omega), if_neg (by omega), if_pos (by omega)])⟩
        · rw [hJ3, show (59 + 4 * (j : Int) + 1).toNat = 59 + 4 * j + 1 by omega, Int.toNat_natCast]
          exact ⟨⟨by omega, by omega⟩, by omega, by omega, rest (i + 2) _ rfl (by unfold valF; rw [if_neg (by omega), if_pos (by omega)])⟩
        · rw [Int.toNat_natCast]
          exact rest (i + 2) x rfl (by unfold valF; rw [if_pos (by omega)])
    · rw [if_neg hv] at hfl
      simp only [dpF, if_neg hv] at hd
      have hd2 : 2 ≤ st.length := by
        by_cases q : 2 ≤ st.length
        · exact q
        · rw [if_neg q] at hd; cases hd
      rw [if_pos hd2] at hd
      match st, hd2 with
      | b :: a :: r, _ =>
        have h0 := hk 0 (by omega)
        rw [List.getElem?_append_left (by omega)] at h0
        have e1 : encF c = [-3 - c] := by unfold encF; rw [if_neg (by omega), if_neg hv]
        rw [e1] at h0
        simp only [List.getElem?_cons_zero, Option.some.injEq] at h0
        have ea : J 11 r.length = a := hs.2.1
        have eb : J 11 (r.length + 1) = b := hs.1
        have hba := hb a (by simp)
        have hbb := hb b (by simp)
        simp only [List.length_cons] at hl hd ⊢
        refine t_X6_costOf_22 hM ⟨⟨by omega, by omega⟩, by rw [hJ3]; exact ⟨by omega, by omega⟩, fun q => absurd q (by rw [hJ3]; omega), fun _ => ⟨by omega, by omega, ?_⟩⟩
        rintro _ rfl
        rw [hJ3, show (155 + (i : Int)).toNat = 155 + (i + 0) by omega, ← h0]
        refine ⟨⟨by omega, by omega⟩, fun _ => ⟨by omega, by omega, by omega, by omega, ?_⟩, fun q => absurd (by omega) q⟩
        rw [show (((r.length + 1 + 1 : Nat) : Int) + -1 - 1).toNat = r.length by omega, show (((r.length + 1 + 1 : Nat) : Int) + -1).toNat = r.length + 1 by omega, ea, eb]
        refine c_operate ⟨by omega, by omega⟩ hba hbb ?_
        rintro _ rfl
        have := ih (opF c a b :: r) (i + 1) (up2 J 11 r.length (opF c a b)) (fun q hq => by rw [up2_ne hq]; exact hJ q hq) (by omega) (fun k hk2 => ?_) (fun c' hc' => hc c' (List.mem_cons_of_mem _ hc')) (by rw [List.length_cons]; exact hd) (fun v hv2 => ?_) ⟨up2_eq, stkR_of hs.2.2 (fun k hk2 => up2_nj (by omega))⟩ (by rw [List.length_cons]; omega) ?_
        · rw [List.length_cons] at this
          rw [show ((r.length + 1 + 1 : Nat) : Int) + -1 = ((r.length + 1 : Nat) : Int) by omega]
          exact this
        · have := hk (k + 1) (by omega)
          rw [List.getElem?_append_right (by omega)] at this
          rw [show k + 1 - (encF c).length = k by omega] at this
          rw [this]
          congr 2
          omega
        · rcases List.mem_cons.mp hv2 with rfl | q
          · exact opF_b hba
          · exact hb v (by simp [q])
        · rw [hz]
          simp only [List.foldl_cons, stF, if_neg hv]
theorem c_costOf (hM : LM Γ P) (hW : WR (I 3)) (hT : TBv (I 3) (I 9)) {cs : List Int} (hC : RC (I 3) cs) {j : Nat} (hj : (j : Int) < I 3 2) (h : ∀ J, skOnly I J → R (costF (I 3) cs (I 9) j) J) : Cl Γ m_X6_costOf [vR 1, vI (j : Int)] P I (ri P R) := by
  have ha := hW.a
  have hb := cmpF_b hW hT hj
  refine cl_of n_X6_costOf (Nat.le_of_ble_eq_true rfl) (t_X6_costOf_0 hM (c_completionOf hM hW hj ⟨⟨by omega, by omega⟩, fun q => ?_, fun q => ?_⟩))
  · obtain ⟨h1, h2⟩ := hC.2.2 q
    exact costOf_22 hM hW (by omega) hb h h1 cs [] 0 I (fun _ _ => rfl) (by omega) (fun k hk => by rw [Nat.zero_add]; exact h2 k hk) hC.1.1 hC.1.2 (fun v hv => absurd hv List.not_mem_nil) trivial (Nat.zero_le _) rfl
  · have := hC.2.1 q
    subst this
    exact h I (fun _ _ => rfl)
theorem c_costOfPlan (hM : LM Γ P) (hW : WR (I 3)) (hT : TBv (I 3) (I 9)) {cs : List Int} (hC : RC (I 3) cs) (h : ∀ J, skOnly I J → R (sumF (I 3) cs (I 9)) J) : Cl Γ m_X6_costOfPlan [vR 1] P I (ri P R) := by
  have ha := hW.a
  have key : ∀ (n k : Nat) (J : MM), (k : Int) + n = I 3 2 → skOnly I J → XM Γ m_X6_costOfPlan 0 0 4 [(0, vR 1), (1, vI (sumN (I 3) cs (I 9) k)), (2, vI (k : Int))] [] P J (ri P R) := by
    intro n
    induction n with
    | zero =>
      intro k J hk hJ
      have hJ3 : J 3 = I 3 := hJ 3 (by decide)
      refine t_X6_costOfPlan_4 hM ⟨⟨by omega, by omega⟩, by rw [hJ3]; exact ⟨by omega, by omega⟩, fun _ => ?_, fun q => absurd (by rw [hJ3]; omega) q⟩
      have := h J hJ
      unfold sumF at this
      rwa [show (I 3 2).toNat = k by omega] at this
    | succ n ih =>
      intro k J hk hJ
      have hJ3 : J 3 = I 3 := hJ 3 (by decide)
      have hJ9 : J 9 = I 9 := hJ 9 (by decide)
      refine t_X6_costOfPlan_4 hM ⟨⟨by omega, by omega⟩, by rw [hJ3]; exact ⟨by omega, by omega⟩, fun q => absurd q (by rw [hJ3]; omega), fun _ => c_costOf hM (by rw [hJ3]; exact hW) (by rw [hJ3, hJ9]; exact hT) (cs := cs) (by rw [hJ3]; exact hC) (by rw [hJ3]; omega) (fun J2 hJ2 => ?_)⟩
      rintro _ rfl
      rw [hJ3, hJ9]
      exact ih (k + 1) J2 (by omega) (fun q hq => by rw [hJ2 q hq]; exact hJ q hq)
  exact cl_of n_X6_costOfPlan (Nat.le_of_ble_eq_true rfl) (t_X6_costOfPlan_0 hM (key (I 3 2).toNat 0 I (by omega) (fun _ _ => rfl)))
theorem c_leaveOf (hM : LM Γ P) (hW : WR (I 3)) {o : Nat} (ho : vO (I 3) o) (h : R (leaveF (I 3) (I 9) o) I) : Cl Γ m_X6_leaveOf [vR 1, vI (o : Int)] P I (ri P R) := by
  have := ho.1
  unfold leaveF at h
  refine cl_of n_X6_leaveOf (Nat.le_of_ble_eq_true rfl) (t_X6_leaveOf_0 hM (c_isBlocking hM hW ho.1 (fun hb => ?_) (fun hb => ?_)))
  · have h2 := (vO_succ hW ho hb.2).1.1
    rw [if_pos (blB_t.mpr hb)] at h
    refine ⟨⟨by decide, by decide⟩, fun q => absurd q (by decide), fun _ => ⟨by omega, by omega, ?_⟩⟩
    rw [show ((o : Int) + 1).toNat = o + 1 by omega]
    exact h
  · rw [if_neg (fun q => hb (blB_t.mp q))] at h
    refine ⟨⟨by decide, by decide⟩, fun _ => ⟨by omega, by omega, c_durationOf hM ho.1 ?_⟩, fun q => absurd rfl q⟩
    rw [Int.toNat_natCast]
    exact h
end M1
