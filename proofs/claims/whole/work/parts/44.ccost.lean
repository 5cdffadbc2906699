/-! THE CLASS'S completions and costs -/
theorem cmpF_c {D T : Nat → Int} (hW : WR D) (hT : TBc D T) {j : Nat} (hj : (j : Int) < D 2) : 0 ≤ cmpF D T j ∧ cmpF D T j ≤ 20099 := by
  obtain ⟨h1, -, -, -⟩ := lastP_v hW hj
  have h2 := hT _ h1
  have h3 := hW.2.2.1 _ h1.1
  unfold cmpF
  omega
theorem spN_c {D T : Nat → Int} (hW : WR D) (hT : TBc D T) : ∀ j : Nat, (j : Int) ≤ D 2 → 0 ≤ spN D T j ∧ spN D T j ≤ 20099
  | 0, _ => by simp only [spN]; omega
  | j + 1, hj => by
    have h1 := spN_c hW hT j (by omega)
    have h2 := cmpF_c hW hT (j := j) (by omega)
    simp only [spN]
    omega
def bdT (st : List Int) : Prop := ∀ v, v ∈ st → -1000000 ≤ v ∧ v ≤ 1000000
theorem opF_c {c a b : Int} (ha : -1000000 ≤ a ∧ a ≤ 1000000) : -1000000 ≤ opF c a b ∧ opF c a b ≤ 1000000 := by
  have h1 := limF_b (a + b)
  have h2 := limF_b (a - b)
  have h3 := limF_b (a * b)
  unfold opF
  split
  · omega
  · split
    · omega
    · split
      · omega
      · split
        · omega
        · have h4 : (Int.tdiv a b).natAbs ≤ a.natAbs := by rw [Int.natAbs_tdiv]; exact Nat.div_le_self _ _
          omega
theorem valF_c {D : Nat → Int} (hW : WR D) {j : Nat} (hj : j < 6) {x c : Int} (hx : 0 ≤ x ∧ x ≤ 1000000) (hc : -5 < c ∧ c ≤ 9999) : -1000000 ≤ valF D j x c ∧ valF D j x c ≤ 1000000 := by
  have h := hW.2.1 j hj
  unfold valF
  split
  · omega
  · split
    · omega
    · split
      · omega
      · split <;> omega
/-- what apply answers -/
def apF (c a b : Int) : Int := if c = -5 then a + b else if c = -6 then a - b else if c = -7 then a * b else if b = 0 then 0 else Int.tdiv a b
theorem apF_op {c a b : Int} (ha : -1000000 ≤ a ∧ a ≤ 1000000) (hb : -1000000 ≤ b ∧ b ≤ 1000000) : inL (apF c a b) ∧ limF (apF c a b) = opF c a b := by
  have hm := mul_b (a := a) (b := b) (by omega) (by omega)
  unfold apF opF
  split
  · exact ⟨⟨by omega, by omega⟩, rfl⟩
  · split
    · exact ⟨⟨by omega, by omega⟩, rfl⟩
    · split
      · exact ⟨⟨by omega, by omega⟩, rfl⟩
      · split
        · exact ⟨⟨by decide, by decide⟩, rfl⟩
        · have h4 : (Int.tdiv a b).natAbs ≤ a.natAbs := by rw [Int.natAbs_tdiv]; exact Nat.div_le_self _ _
          refine ⟨⟨by omega, by omega⟩, ?_⟩
          unfold limF
          rw [if_neg (by omega), if_neg (by omega)]
section M2
variable {Γ : GG} {P : MP} {I : MM} {R : Int → MM → Prop} {Rv : MM → Prop} {cs : List Int} {D : Nat → Int} {q σ κ N : Nat}
theorem d_limit {v : Int} (hv : inL v) (h : R (limF v) I) : Cl Γ m_X0_limit [vL v] P I (ri P R) := by
  unfold limF at h
  refine cl_of n_X0_limit (Nat.le_of_ble_eq_true rfl) (t_X0_limit_0 ⟨hv, fun q => ⟨fun q2 => ?_, fun q2 => ?_⟩, fun q => ?_⟩)
  · rw [lc_le0] at q; rw [lc_ge0] at q2
    rwa [if_neg (by omega), if_neg (by omega)] at h
  · rw [lc_le0] at q; rw [lc_ge0] at q2
    rwa [if_neg (by omega), if_pos (by omega)] at h
  · rw [lc_le0] at q
    rwa [if_pos (by omega)] at h
theorem d_apply {c a b : Int} (hc : -8 ≤ c ∧ c ≤ -5) (ha : -1000000 ≤ a ∧ a ≤ 1000000) (hb : -1000000 ≤ b ∧ b ≤ 1000000) (h : R (apF c a b) I) : Cl Γ m_X0_apply [vI c, vL a, vL b] P I (rl P R) := by
  unfold apF at h
  refine cl_of n_X0_apply (Nat.le_of_ble_eq_true rfl) (t_X0_apply_0 ⟨⟨by omega, by omega⟩, fun z => ?_, fun z => ?_, fun z => ?_, fun z => ⟨⟨by omega, by omega⟩, fun q0 => ?_, fun q0 => ?_⟩⟩)
  · rwa [if_neg (by omega), if_neg (by omega), if_pos (by omega)] at h
  · rwa [if_neg (by omega), if_pos (by omega)] at h
  · rwa [if_pos (by omega)] at h
  · rw [Ne, lc_eq0] at q0
    rw [if_neg (by omega), if_neg (by omega), if_neg (by omega), if_neg q0] at h
    exact ⟨⟨by omega, by omega⟩, q0, h⟩
  · rw [lc_eq0] at q0
    rwa [if_neg (by omega), if_neg (by omega), if_neg (by omega), if_pos q0] at h
theorem d_valueOf (hh : LShop Γ P σ κ N) (hS : SHr I σ D) (hW : WR D) {j : Nat} (hj : (j : Int) < D 2) {x c : Int} (hc : -5 < c ∧ c ≤ 9999) (h : R (valF D j x c) I) : Cl Γ m_X0_valueOf [vI c, vR σ, vI (j : Int), vI x] P I (ri P R) := by
  have ha := hW.a
  obtain ⟨e1, e2, e3, -⟩ := hS.2.2.2.2.1 j hj
  unfold valF at h
  refine cl_of n_X0_valueOf (Nat.le_of_ble_eq_true rfl) (t_X0_valueOf_0 hh ?_)
  rw [Int.toNat_natCast, e1, e2, e3]
  refine ⟨⟨by omega, by omega⟩, fun z => ⟨by omega, by omega, ?_⟩, fun z => ⟨by omega, by omega, ?_⟩, fun z => ⟨by omega, by omega, ?_⟩, fun z => ?_, fun z => ?_⟩
  · rwa [if_neg (by omega), if_neg (by omega), if_neg (by omega), if_pos z] at h
  · rwa [if_neg (by omega), if_neg (by omega), if_pos z] at h
  · rwa [if_neg (by omega), if_pos z] at h
  · rwa [if_pos z] at h
  · rwa [if_neg (by omega), if_neg (by omega), if_neg (by omega), if_neg (by omega)] at h
theorem d_evaluate {co w : Nat} (hco : LCost Γ P co w) (hh : LShop Γ P σ κ N) (hS : SHr I σ D) (hC : CSr I κ N cs) (hw : w < σ ∧ w < κ) (hW : WR D) (hk : okC cs) {j : Nat} (hj : (j : Int) < D 2) {x : Int} (hx : 0 ≤ x ∧ x ≤ 1000000)
    (h : ∀ J, (∀ r, r ≠ w → J r = I r) → R (evF D j x cs) J) : Cl Γ m_X0_evaluate [vR co, vR σ, vI (j : Int), vI x] P I (ri P R) := by
  have ha := hW.a
  have hn := LShop_n hh
  have key : ∀ (cz st : List Int) (i : Nat) (J : MM), (∀ r, r ≠ w → J r = I r) → i + cz.length = N → (∀ k : Nat, k < cz.length → cz[k]? = some (I κ (i + k))) → (∀ c, c ∈ cz → -8 ≤ c ∧ c ≤ 9999) → dpF cz st.length = some 1 → bdT st → stkR (J w) st → st.length ≤ 11 → cz.foldl (stF D j x) st = cs.foldl (stF D j x) [] → XM Γ m_X0_evaluate 0 0 6 [(0, vR co), (1, vR σ), (2, vI (j : Int)), (3, vI x), (4, vI (st.length : Int)), (5, vI (i : Int))] [] P J (ri P R) := by
    intro cz
    induction cz with
    | nil =>
      intro st i J hJ hi hk2 hc hd hb hs hl hz
      simp only [List.length_nil] at hi
      refine t_X0_evaluate_6 hco hh ⟨⟨by omega, by omega⟩, ⟨by omega, by omega⟩, fun _ => ?_, fun y => absurd (by omega) y⟩
      simp only [dpF, Option.some.injEq] at hd
      match st, hd with
      | [v], _ =>
        have : evF D j x cs = v := by
          unfold evF
          rw [← hz]
          rfl
        rw [show J w 0 = v from hs.1, ← this]
        exact h J hJ
    | cons c cz ih =>
      intro st i J hJ hi hk2 hc hd hb hs hl hz
      have hcc := hc c List.mem_cons_self
      simp only [List.length_cons] at hi
      have h0 := hk2 0 (by simp)
      simp only [List.getElem?_cons_zero, Option.some.injEq, Nat.add_zero] at h0
      have hSJ := hS.keep (J := J) (fun r a b => hJ r (by omega))
      have rest : ∀ k : Nat, k < cz.length → cz[k]? = some (I κ (i + 1 + k)) := fun k hk3 => by
        have := hk2 (k + 1) (by simp only [List.length_cons]; omega)
        rw [List.getElem?_cons_succ] at this
        rw [this, show i + (k + 1) = i + 1 + k by omega]
      refine t_X0_evaluate_6 hco hh ⟨⟨by omega, by omega⟩, ⟨by omega, by omega⟩, fun y => absurd y (by omega), fun _ => ⟨by omega, by omega, ?_⟩⟩
      intro u hu
      rw [Int.toNat_natCast, hJ κ (by omega), ← h0] at hu
      rw [hu]
      by_cases hv : -5 < c
      · simp only [dpF, if_pos hv] at hd
        have hd11 : st.length < 11 := by
          by_cases y : st.length < 11
          · exact y
          · rw [if_neg y] at hd; cases hd
        rw [if_pos hd11] at hd
        have hvb := valF_c hW (j := j) (by omega) hx ⟨hv, hcc.2⟩
        refine ⟨⟨by omega, by omega⟩, fun _ => ⟨fun y => absurd y (by omega), fun _ => ⟨⟨by omega, by omega⟩, fun y => absurd y (by omega), fun _ => d_valueOf hh hSJ hW hj ⟨hv, hcc.2⟩ ⟨by omega, by omega, ?_⟩⟩⟩, fun y => absurd hv y⟩
        intro A hA
        rw [Int.toNat_natCast] at hA
        have := ih (valF D j x c :: st) (i + 1) A (fun r hr => by rw [hA, up2_ne hr]; exact hJ r hr) (by omega) rest (fun c' hc' => hc c' (List.mem_cons_of_mem _ hc')) (by rw [List.length_cons]; exact hd) (fun v hv2 => ?_) (by rw [hA]; exact ⟨up2_eq, stkR_of hs (fun k hk3 => up2_nj (by omega))⟩) (by rw [List.length_cons]; omega) ?_
        · rw [List.length_cons] at this
          push_cast at this
          exact this
        · rcases List.mem_cons.mp hv2 with y | y
          · rw [y]; exact hvb
          · exact hb v y
        · rw [← hz]
          simp only [List.foldl_cons, stF, if_pos hv]
      · simp only [dpF, if_neg hv] at hd
        have hd2 : 2 ≤ st.length := by
          by_cases y : 2 ≤ st.length
          · exact y
          · rw [if_neg y] at hd; cases hd
        rw [if_pos hd2] at hd
        match st, hd2 with
        | b :: a :: r, _ =>
          have ea : J w r.length = a := hs.2.1
          have eb : J w (r.length + 1) = b := hs.1
          have hba := hb a (by simp)
          have hbb := hb b (by simp)
          simp only [List.length_cons] at hl hd ⊢
          obtain ⟨o1, o2⟩ := apF_op (c := c) hba hbb
          refine ⟨⟨by omega, by omega⟩, fun y => absurd y (by omega), fun _ => ⟨⟨by omega, by omega⟩, fun y => absurd y (by omega), fun _ => ⟨by omega, by omega, ?_⟩⟩⟩
          rw [show (((r.length + 1 + 1 : Nat) : Int) - 2).toNat = r.length by omega, show (((r.length + 1 + 1 : Nat) : Int) - 1).toNat = r.length + 1 by omega, ea, eb]
          refine ⟨⟨by omega, by omega⟩, by omega, by omega, ⟨by omega, by omega⟩, d_apply ⟨by omega, by omega⟩ hba hbb (d_limit o1 ?_)⟩
          rw [o2]
          intro A hA
          have := ih (opF c a b :: r) (i + 1) A (fun z hz2 => by rw [hA, up2_ne hz2]; exact hJ z hz2) (by omega) rest (fun c' hc' => hc c' (List.mem_cons_of_mem _ hc')) (by rw [List.length_cons]; exact hd) (fun v hv2 => ?_) (by rw [hA]; exact ⟨up2_eq, stkR_of hs.2.2 (fun k hk3 => up2_nj (by omega))⟩) (by rw [List.length_cons]; omega) ?_
          · rw [List.length_cons] at this
            rw [show ((r.length + 1 + 1 : Nat) : Int) + -1 = ((r.length + 1 : Nat) : Int) by omega]
            push_cast at this ⊢
            exact this
          · rcases List.mem_cons.mp hv2 with y | y
            · rw [y]; exact opF_c hba
            · exact hb v (by simp [y])
          · rw [← hz]
            simp only [List.foldl_cons, stF, if_neg hv]
  refine cl_of n_X0_evaluate (Nat.le_of_ble_eq_true rfl) (t_X0_evaluate_0 hco hh ?_)
  exact key cs [] 0 I (fun _ _ => rfl) (by rw [Nat.zero_add]; exact hC.1) (fun k hk2 => by rw [Nat.zero_add]; exact hC.2 k (by rw [← hC.1]; exact hk2)) hk.1 hk.2 (fun v hv => absurd hv List.not_mem_nil) trivial (Nat.zero_le _) rfl
theorem d_completedAt (hR : CR Γ P I q σ κ N D cs) {o : Nat} (ho : vO D o) (h : R (I (q + 1) o + D (83 + 2 * o + 1)) I) : Cl Γ m_X2_completedAt [vR q, vI (o : Int)] P I (ri P R) := by
  have h36 := ho.1
  refine cl_of n_X2_completedAt (Nat.le_of_ble_eq_true rfl) (t_X2_completedAt_0 hR.s ⟨by omega, by omega, ?_⟩)
  rw [Int.toNat_natCast, hR.pl.1 o ho]
  exact h
theorem d_lastOf (hR : CR Γ P I q σ κ N D cs) {j : Nat} (hj : (j : Int) < D 2) (h : R (lastP D j : Int) I) : Cl Γ m_X2_lastOf [vR q, vI (j : Int)] P I (ri P R) := by
  have ha := hR.wr.a
  refine cl_of n_X2_lastOf (Nat.le_of_ble_eq_true rfl) (t_X2_lastOf_0 hR.s ⟨by omega, by omega, ?_⟩)
  rw [Int.toNat_natCast, hR.sh.ops hj, show (j : Int) * 6 + D (59 + 4 * j + 3) - 1 = (lastP D j : Int) by have := (lastP_v hR.wr hj).2.2.2; omega]
  exact h
theorem d_completionOf (hR : CR Γ P I q σ κ N D cs) {j : Nat} (hj : (j : Int) < D 2) (h : R (cmpF D (I (q + 1)) j) I) : Cl Γ m_X2_completionOf [vR q, vI (j : Int)] P I (ri P R) :=
  cl_of n_X2_completionOf (Nat.le_of_ble_eq_true rfl) (t_X2_completionOf_0 hR.s (d_lastOf hR hj (d_completedAt hR (lastP_v hR.wr hj).1 h)))
theorem d_greatest (hR : CR Γ P I q σ κ N D cs) (hT : TBc D (I (q + 1))) (h : R (spanF D (I (q + 1))) I) : Cl Γ m_X2_greatestCompletion [vR q] P I (ri P R) := by
  have ha := hR.wr.a
  have key : ∀ (n j : Nat), (j : Int) + n = D 2 → XM Γ m_X2_greatestCompletion 0 0 4 [(0, vR q), (1, vI (spN D (I (q + 1)) j)), (2, vI (j : Int))] [] P I (ri P R) := by
    intro n
    induction n with
    | zero =>
      intro j hj
      refine t_X2_greatestCompletion_4 hR.s ⟨⟨by omega, by omega⟩, ?_⟩
      rw [hR.sh.2.1]
      refine ⟨⟨by omega, by omega⟩, fun _ => ?_, fun y => absurd (by omega) y⟩
      unfold spanF at h
      rwa [show (D 2).toNat = j by omega] at h
    | succ n ih =>
      intro j hj
      have h1 := spN_c hR.wr hT j (by omega)
      have h2 := cmpF_c hR.wr hT (j := j) (by omega)
      refine t_X2_greatestCompletion_4 hR.s ⟨⟨by omega, by omega⟩, ?_⟩
      rw [hR.sh.2.1]
      refine ⟨⟨by omega, by omega⟩, fun y => absurd y (by omega), fun _ => d_completionOf hR (by omega) ⟨⟨by omega, by omega⟩, ⟨by omega, by omega⟩, ?_⟩⟩
      intro u hu
      rw [hu]
      have := ih (j + 1) (by omega)
      simp only [spN] at this
      push_cast at this
      exact this
  exact cl_of n_X2_greatestCompletion (Nat.le_of_ble_eq_true rfl) (t_X2_greatestCompletion_0 hR.s (key (D 2).toNat 0 (by omega)))
/-- but for the row of waiting values nothing changes -/
def wtO (q : Nat) (I J : MM) : Prop := ∀ r : Nat, r ≠ q + 7 → J r = I r
theorem wtO.cr {J : MM} (h : wtO q I J) (hR : CR Γ P I q σ κ N D cs) : CR Γ P J q σ κ N D cs := hR.keep (fun r hr => h r (by omega))
theorem wtO.trans {J K : MM} (h : wtO q I J) (k : wtO q J K) : wtO q I K := fun r a => (k r a).trans (h r a)
theorem d_costOf (hR : CR Γ P I q σ κ N D cs) (hT : TBc D (I (q + 1))) (hk : okC cs) {j : Nat} (hj : (j : Int) < D 2) (h : ∀ J, wtO q I J → R (costF D cs (I (q + 1)) j) J) : Cl Γ m_X2_costOf [vR q, vI (j : Int)] P I (ri P R) := by
  have hc := cmpF_c hR.wr hT hj
  refine cl_of n_X2_costOf (Nat.le_of_ble_eq_true rfl) (t_X2_costOf_0 hR.s (d_completionOf hR hj ?_))
  exact d_evaluate (LSch_c hR.s) (LPlan_s (LSch_p hR.s)) hR.sh hR.cs' ⟨by have := hR.hσ; omega, by have := hR.hκ; omega⟩ hR.wr hk hj ⟨hc.1, by omega⟩ h
theorem d_costOfAll (hR : CR Γ P I q σ κ N D cs) (hT : TBc D (I (q + 1))) (hk : okC cs) (h : ∀ J, wtO q I J → R (sumF D cs (I (q + 1))) J) : Cl Γ m_X2_costOfAll [vR q] P I (ri P R) := by
  have ha := hR.wr.a
  have key : ∀ (n j : Nat) (J : MM), wtO q I J → (j : Int) + n = D 2 → XM Γ m_X2_costOfAll 0 0 4 [(0, vR q), (1, vI (sumN D cs (I (q + 1)) j)), (2, vI (j : Int))] [] P J (ri P R) := by
    intro n
    induction n with
    | zero =>
      intro j J hJ hj
      have hC := hJ.cr hR
      refine t_X2_costOfAll_4 hR.s ⟨⟨by omega, by omega⟩, ?_⟩
      rw [hC.sh.2.1]
      refine ⟨⟨by omega, by omega⟩, fun _ => ?_, fun y => absurd (by omega) y⟩
      unfold sumF at h
      rw [show (D 2).toNat = j by omega] at h
      exact h J hJ
    | succ n ih =>
      intro j J hJ hj
      have hC := hJ.cr hR
      have e1 : J (q + 1) = I (q + 1) := hJ (q + 1) (by omega)
      refine t_X2_costOfAll_4 hR.s ⟨⟨by omega, by omega⟩, ?_⟩
      rw [hC.sh.2.1]
      refine ⟨⟨by omega, by omega⟩, fun y => absurd y (by omega), fun _ => d_costOf hC (by rw [e1]; exact hT) hk (by omega) (fun K k1 => ?_)⟩
      intro u hu
      rw [hu, e1]
      have := ih (j + 1) K (hJ.trans k1) (by omega)
      simp only [sumN] at this
      push_cast at this
      exact this
  exact cl_of n_X2_costOfAll (Nat.le_of_ble_eq_true rfl) (t_X2_costOfAll_0 hR.s (key (D 2).toNat 0 I (fun _ _ => rfl) (by omega)))
theorem sumF_in (hW : WR D) (hk : okC cs) {T : Nat → Int} (hT : TBv D T) : inR (sumF D cs T) := by
  have key : ∀ j : Nat, (j : Int) ≤ D 2 → -(1000099 * (j : Int)) ≤ sumN D cs T j ∧ sumN D cs T j ≤ 1000099 * (j : Int) := by
    intro j
    induction j with
    | zero => intro _; simp [sumN]
    | succ j ih =>
      intro hj
      have h1 := ih (by omega)
      have h2 := evF_b hW (j := j) (by have := hW.a; omega) (cmpF_b hW hT (j := j) (by omega)) (fun c hc => (hk.1 c hc).2)
      simp only [sumN]
      unfold costF
      push_cast
      omega
  have ha := hW.a
  have := key (D 2).toNat (by omega)
  unfold sumF
  exact ⟨by omega, by omega⟩
theorem d_isBetterThan (hR : CR Γ P I q σ κ N D cs) (hT : TBc D (I (q + 1))) (hk : okC cs) {a b : Int} (ha : inR a) (hb : inR b) (h1 : ∀ J, wtO q I J → betF (spanF D (I (q + 1))) (sumF D cs (I (q + 1))) a b → R 1 J) (h0 : ∀ J, wtO q I J → ¬ betF (spanF D (I (q + 1))) (sumF D cs (I (q + 1))) a b → R 0 J) : Cl Γ m_X2_isBetterThan [vR q, vI a, vI b] P I (ri P R) := by
  have hs := spN_c hR.wr hT (D 2).toNat (by have := hR.wr.a; omega)
  have hs2 : inR (spanF D (I (q + 1))) := by unfold spanF; exact ⟨by omega, by omega⟩
  unfold betF at h1 h0
  refine cl_of n_X2_isBetterThan (Nat.le_of_ble_eq_true rfl) (t_X2_isBetterThan_0 hR.s (d_greatest hR hT ⟨hs2, ha, fun y => h1 I (fun _ _ => rfl) (Or.inl y), fun y => ⟨fun z => h0 I (fun _ _ => rfl) (by omega), fun z => d_costOfAll hR hT hk (fun J hJ => ⟨sumF_in hR.wr hk hT.v, hb, fun x => h0 J hJ (by omega), fun x => h1 J hJ (by omega)⟩)⟩⟩))
theorem d_leaveOf (hR : CR Γ P I q σ κ N D cs) {j k : Nat} (ho : vO D (6 * j + k)) (h : R (leaveF D (I (q + 1)) (6 * j + k)) I) : Cl Γ m_X2_leaveOf [vR q, vI (j : Int), vI (k : Int)] P I (ri P R) := by
  have h36 := ho.1
  have hm := (hR.nd.1 _ ho).1
  obtain ⟨m1, m2⟩ := mcO_lt hR.wr h36
  have e8 := hR.sh.2.2.2.2.2 _ ho
  have e1 := (hR.sh.2.2.2.1 _ hm).1
  have hb := hR.wr.2.2.2 _ m1
  unfold leaveF at h
  refine cl_of n_X2_leaveOf (Nat.le_of_ble_eq_true rfl) (t_X2_leaveOf_0 hR.s (d_idOf ⟨by omega, by omega, ?_⟩))
  rw [Int.toNat_natCast, e8, m2, Int.toNat_natCast, e1]
  refine ⟨by omega, by omega, ⟨by omega, by omega⟩, fun y => d_completedAt hR ho ?_, fun y => d_isLast (LPlan_s (LSch_p hR.s)) hR.sh hR.wr ho (fun z => ⟨⟨by decide, by decide⟩, fun x => absurd x (by decide), fun _ => d_completedAt hR ho ?_⟩) (fun z => ⟨⟨by decide, by decide⟩, fun _ => ⟨by omega, ?_, ?_⟩, fun x => absurd rfl x⟩)⟩
  · rw [blB_f.mpr (fun x => y x.1)] at h
    exact h
  · rw [blB_f.mpr (fun x => x.2 z)] at h
    exact h
  · have := (vO_succ hR.wr ho z).1.1
    omega
  · rw [blB_t.mpr ⟨y, z⟩] at h
    rw [show (((6 * j + k : Nat) : Int) + 1).toNat = 6 * j + k + 1 by omega]
    exact h
end M2
