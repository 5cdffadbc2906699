/-! THE FIRST PLAN, and plans that stay free of deadlocks -/
/-- how many operations ahead of n stand on a machine -/
def rnk (D : Nat → Int) (m n : Nat) : Nat := cntF (fun o => vB D o && (mcO D o == m)) n
theorem rnk_succ {D : Nat → Int} {m n : Nat} : rnk D m (n + 1) = rnk D m n + (if (vB D n && (mcO D n == m)) then 1 else 0) := by
  unfold rnk
  simp only [cntF]
theorem rnk_on {D : Nat → Int} {m n : Nat} (hv : vO D n) (hm : mcO D n = m) : rnk D m (n + 1) = rnk D m n + 1 := by
  rw [rnk_succ, (vB_t hv.1).mpr hv]; simp [hm]
theorem rnk_off {D : Nat → Int} {m n : Nat} (hn : n < 36) (h : ¬ (vO D n ∧ mcO D n = m)) : rnk D m (n + 1) = rnk D m n := by
  rw [rnk_succ]
  have : (vB D n && (mcO D n == m)) = false := by
    cases hb : (vB D n && (mcO D n == m)) with
    | false => rfl
    | true =>
      simp only [Bool.and_eq_true, beq_iff_eq] at hb
      exact absurd ⟨(vB_t hn).mp hb.1, hb.2⟩ h
  rw [this]; rfl
theorem rnk_le {D : Nat → Int} {m : Nat} : ∀ (d n : Nat), rnk D m n ≤ rnk D m (n + d)
  | 0, n => Nat.le_refl _
  | d + 1, n => by
    have h1 := rnk_le (D := D) (m := m) d n
    have h2 := rnk_succ (D := D) (m := m) (n := n + d)
    rw [show n + (d + 1) = n + d + 1 by omega]
    omega
theorem rnk_lt {D : Nat → Int} {m n k : Nat} (hv : vO D n) (hm : mcO D n = m) (h : n < k) : rnk D m n < rnk D m k := by
  have h1 := rnk_on hv hm
  have h2 := rnk_le (D := D) (m := m) (k - (n + 1)) (n + 1)
  rw [show n + 1 + (k - (n + 1)) = k by omega] at h2
  omega
theorem rnk_inj {D : Nat → Int} {m n k : Nat} (hv : vO D n) (hm : mcO D n = m) (hv2 : vO D k) (hm2 : mcO D k = m) (h : rnk D m n = rnk D m k) : n = k := by
  by_cases h1 : n < k
  · have := rnk_lt hv hm h1; omega
  · by_cases h2 : k < n
    · have := rnk_lt hv2 hm2 h2; omega
    · omega
theorem rnk_nth {D : Nat → Int} {m : Nat} : ∀ (n k : Nat), n ≤ 36 → k < rnk D m n → ∃ o, o < n ∧ vO D o ∧ mcO D o = m ∧ rnk D m o = k
  | 0, k, _, h => absurd h (by unfold rnk cntF; exact Nat.not_lt_zero _)
  | n + 1, k, hn, h => by
    by_cases hk : k < rnk D m n
    · obtain ⟨o, h1, h2⟩ := rnk_nth n k (by omega) hk
      exact ⟨o, by omega, h2⟩
    · by_cases hv : vO D n ∧ mcO D n = m
      · have := rnk_on hv.1 hv.2
        exact ⟨n, by omega, hv.1, hv.2, by omega⟩
      · have := rnk_off (by omega) hv
        omega
/-- on its machines each job stands once; durations are 1 at least -/
def ND (D : Nat → Int) : Prop := (∀ o : Nat, vO D o → (mcO D o : Int) < D 0 ∧ 1 ≤ D (83 + 2 * o + 1)) ∧ (∀ o u : Nat, vO D o → vO D u → o / 6 = u / 6 → mcO D o = mcO D u → o = u)
def NP (D : Nat → Int) : Prop := ∀ m : Nat, (m : Int) < D 0 → D (5 + 9 * m + 2) = (rnk D m 36 : Int)
def GN (D : Nat → Int) (cs : List Int) : Prop := GD D cs ∧ ND D ∧ NP D
/-- within a job, one at most -/
theorem rnk_job {D : Nat → Int} (hN : ND D) {m j : Nat} (hj : j < 6) : ∀ k : Nat, k ≤ 6 → rnk D m (6 * j + k) ≤ rnk D m (6 * j) + 1 ∧ (rnk D m (6 * j + k) ≠ rnk D m (6 * j) → ∃ o, 6 * j ≤ o ∧ o < 6 * j + k ∧ vO D o ∧ mcO D o = m)
  | 0, _ => ⟨Nat.le_succ _, fun h => absurd rfl h⟩
  | k + 1, hk => by
    obtain ⟨h1, h2⟩ := rnk_job hN hj (m := m) k (by omega)
    rw [show 6 * j + (k + 1) = 6 * j + k + 1 by omega]
    by_cases hv : vO D (6 * j + k) ∧ mcO D (6 * j + k) = m
    · have h3 := rnk_on hv.1 hv.2
      by_cases he : rnk D m (6 * j + k) = rnk D m (6 * j)
      · exact ⟨by omega, fun _ => ⟨6 * j + k, by omega, by omega, hv⟩⟩
      · obtain ⟨o, a, b, c, d⟩ := h2 he
        have := hN.2 o (6 * j + k) c hv.1 (by omega) (by rw [d, hv.2])
        omega
    · have h3 := rnk_off (by omega) hv
      rw [h3]
      exact ⟨h1, fun q => by obtain ⟨o, a, b, c⟩ := h2 q; exact ⟨o, a, by omega, c⟩⟩
theorem rnk_6 {D : Nat → Int} (hN : ND D) {m : Nat} : ∀ j : Nat, j ≤ 6 → rnk D m (6 * j) ≤ j
  | 0, _ => by unfold rnk cntF; exact Nat.le_refl _
  | j + 1, hj => by
    have h1 := rnk_6 hN (m := m) j (by omega)
    have h2 := (rnk_job hN (m := m) (j := j) (by omega) 6 (Nat.le_refl _)).1
    rw [show 6 * (j + 1) = 6 * j + 6 by omega]
    omega
theorem rnk_le6 {D : Nat → Int} (hN : ND D) {m n : Nat} (hn : n ≤ 36) : rnk D m n ≤ 6 := by
  have h1 := rnk_6 hN (m := m) 6 (Nat.le_refl _)
  have h2 := rnk_le (D := D) (m := m) (36 - n) n
  rw [show n + (36 - n) = 36 by omega] at h2
  exact Nat.le_trans h2 h1
theorem rnk_lt6 {D : Nat → Int} (hN : ND D) {m n : Nat} (hv : vO D n) (hm : mcO D n = m) : rnk D m n < 6 := by
  have h1 := rnk_lt hv hm hv.1
  have h2 := rnk_le6 hN (m := m) (n := 36) (Nat.le_refl _)
  omega
/-- the operations ahead of n are laid out -/
def FPn (D : Nat → Int) (n : Nat) (E : Nat → Int) : Prop :=
  (∀ i : Nat, (i < 7 ∨ 59 ≤ i) → E i = D i) ∧ (∀ m : Nat, m < 6 → E (5 + 9 * m) = D (5 + 9 * m) ∧ E (5 + 9 * m + 1) = D (5 + 9 * m + 1)) ∧
  (∀ m : Nat, (m : Int) < D 0 → E (5 + 9 * m + 2) = (rnk D m n : Int)) ∧ (∀ m : Nat, m < 6 → ¬ (m : Int) < D 0 → E (5 + 9 * m + 2) = D (5 + 9 * m + 2)) ∧
  (∀ o : Nat, o < n → vO D o → E (5 + 9 * mcO D o + 3 + rnk D (mcO D o) o) = (o : Int)) ∧ (∀ m k : Nat, m < 6 → k < 6 → 0 ≤ E (5 + 9 * m + 3 + k) ∧ E (5 + 9 * m + 3 + k) ≤ 35)
theorem FPn.lo {D E : Nat → Int} {n i : Nat} (h : FPn D n E) (hi : i < 5) : E i = D i := h.1 i (Or.inl (by omega))
theorem FPn.hi {D E : Nat → Int} {n i : Nat} (h : FPn D n E) (hi : 59 ≤ i) : E i = D i := h.1 i (Or.inr hi)
theorem FPn.v {D E : Nat → Int} {n o : Nat} (h : FPn D n E) : vO E o ↔ vO D o := by unfold vO; rw [h.lo (by decide), h.hi (by omega)]
theorem FPn.mo {D E : Nat → Int} {n o : Nat} (h : FPn D n E) : mcO E o = mcO D o := by unfold mcO; rw [h.hi (by omega)]
theorem FPn.rk {D E : Nat → Int} {n m : Nat} (h : FPn D n E) : ∀ k : Nat, k ≤ 36 → rnk E m k = rnk D m k
  | 0, _ => rfl
  | k + 1, hk => by
    rw [rnk_succ, rnk_succ, h.rk k (by omega), h.mo]
    have : vB E k = vB D k := by unfold vB; rw [h.lo (by decide), h.hi (by omega)]
    rw [this]
theorem FPn.wr {D E : Nat → Int} {n : Nat} (hW : WR D) (hN : ND D) (hn : n ≤ 36) (h : FPn D n E) : WR E := by
  refine ⟨?_, fun j hj => ?_, fun o ho => ?_, fun m hm => ?_⟩
  · rw [h.lo (by decide), h.lo (by decide), h.lo (by decide), h.lo (by decide), h.lo (by decide)]; exact hW.1
  · rw [h.hi (by omega), h.hi (by omega), h.hi (by omega), h.hi (by omega), h.lo (by decide)]; exact hW.2.1 j hj
  · rw [h.hi (by omega), h.hi (by omega)]; exact hW.2.2.1 o ho
  · have hw := hW.2.2.2 m hm
    rw [(h.2.1 m hm).1, (h.2.1 m hm).2]
    refine ⟨hw.1, hw.2.1, hw.2.2.1, hw.2.2.2.1, ?_⟩
    by_cases q : (m : Int) < D 0
    · rw [h.2.2.1 m q]
      have := rnk_le6 hN (m := m) hn
      exact ⟨by omega, by omega, fun k hk => h.2.2.2.2.2 m k hm hk⟩
    · rw [h.2.2.2.1 m hm q]
      exact ⟨hw.2.2.2.2.1, hw.2.2.2.2.2.1, fun k hk => h.2.2.2.2.2 m k hm hk⟩
theorem FPn.on {D E : Nat → Int} {n o : Nat} (h : FPn D n E) (hn : o < n) (hv : vO D o) : oN E (mcO D o) (rnk D (mcO D o) o) = o := by
  unfold oN
  rw [h.2.2.2.2.1 o hn hv]
  omega
theorem FPn.wo {D E : Nat → Int} (hW : WR D) (hN : ND D) (h : FPn D 36 E) : WO E := by
  have key : ∀ m k : Nat, (m : Int) < E 0 → (k : Int) < E (5 + 9 * m + 2) → ∃ o, vO D o ∧ mcO D o = m ∧ rnk D m o = k ∧ oN E m k = o := by
    intro m k hm hk
    rw [h.lo (by decide)] at hm
    rw [h.2.2.1 m hm] at hk
    obtain ⟨o, h1, h2, h3, h4⟩ := rnk_nth (D := D) (m := m) 36 k (Nat.le_refl _) (by omega)
    have := h.on h1 h2
    rw [h3, h4] at this
    exact ⟨o, h2, h3, h4, this⟩
  refine ⟨fun m k hm hk => ?_, fun m k k2 hm hk hk2 he => ?_, fun o ho => ?_⟩
  · obtain ⟨o, h1, h2, h3, h4⟩ := key m k hm hk
    rw [h4, h.v, h.mo]
    exact ⟨h1, h2⟩
  · obtain ⟨o, h1, h2, h3, h4⟩ := key m k hm hk
    obtain ⟨u, g1, g2, g3, g4⟩ := key m k2 hm hk2
    rw [h4, g4] at he
    rw [← h3, ← g3, he]
  · rw [h.v] at ho
    rw [h.mo, h.lo (by decide)]
    have hm := (hN.1 o ho).1
    refine ⟨hm, rnk D (mcO D o) o, ?_, h.on ho.1 ho⟩
    rw [h.2.2.1 _ hm]
    have := rnk_lt ho rfl ho.1
    omega
theorem FPn.nd {D E : Nat → Int} {n : Nat} (hN : ND D) (h : FPn D n E) : ND E := by
  refine ⟨fun o ho => ?_, fun o u ho hu e1 e2 => ?_⟩
  · rw [h.v] at ho
    rw [h.mo, h.lo (by decide), h.hi (by omega)]
    exact hN.1 o ho
  · rw [h.v] at ho hu
    rw [h.mo, h.mo] at e2
    exact hN.2 o u ho hu e1 e2
theorem FPn.np {D E : Nat → Int} (h : FPn D 36 E) : NP E := fun m hm => by
  rw [h.lo (by decide)] at hm
  rw [h.2.2.1 m hm, h.rk 36 (Nat.le_refl _)]
theorem FPn.rc {D E : Nat → Int} {n : Nat} {cs : List Int} (h : FPn D n E) (hC : RC D cs) : RC E cs := by
  refine ⟨hC.1, fun q => hC.2.1 (by rw [← h.lo (by decide)]; exact q), fun q => ?_⟩
  have := hC.2.2 (by rw [← h.lo (by decide)]; exact q)
  rw [h.lo (by decide)]
  refine ⟨this.1, fun i hi => ?_⟩
  rw [h.hi (by omega)]
  exact this.2 i hi
/-! solutions -/
theorem exMin {p : Nat → Prop} : (∃ n, p n) → ∃ n, p n ∧ ∀ k, p k → n ≤ k := by
  rintro ⟨n, hn⟩
  revert hn
  induction n using Nat.strongRecOn with
  | _ n ih =>
    intro hn
    by_cases h : ∃ k, k < n ∧ p k
    · obtain ⟨k, h1, h2⟩ := h
      exact ih k h1 h2
    · exact ⟨n, hn, fun k hk => Nat.le_of_not_lt (fun q => h ⟨k, q, hk⟩)⟩
/-- where there is a solution, there is a least one -/
theorem Sol.least {D : Nat → Int} (hW : WR D) (hO : WO D) {T : Nat → Int} (h : Sol D (sD D) (lD D) T) : ∃ T, Stt D T := by
  have hex : ∀ o : Nat, ∃ n : Nat, (∃ T, Sol D (sD D) (lD D) T ∧ (vO D o → T o = (n : Int))) ∧ ∀ k : Nat, (∃ T, Sol D (sD D) (lD D) T ∧ (vO D o → T o = (k : Int))) → n ≤ k := fun o =>
    exMin ⟨(T o).toNat, T, h, fun hv => by have := h.nonneg hW _ o rfl hv; omega⟩
  have hle : ∀ T', Sol D (sD D) (lD D) T' → ∀ o : Nat, vO D o → ((Classical.choose (hex o) : Nat) : Int) ≤ T' o := fun T' hT' o ho => by
    have h1 := (Classical.choose_spec (hex o)).2 (T' o).toNat ⟨T', hT', fun _ => by have := hT'.nonneg hW _ o rfl ho; omega⟩
    have h2 := hT'.nonneg hW _ o rfl ho
    omega
  have hA2 : ∀ o : Nat, vO D o → ∀ T1 T2 : Nat → Int, (∀ u : Nat, vO D u → T1 u ≤ T2 u) → needA D (sD D) (lD D) T1 o ≤ needA D (sD D) (lD D) T2 o := by
    intro o ho T1 T2 ht
    have hb := baseA_mono ho ht
    unfold needA
    rcases ArcR.can hW hO o ho with q | ⟨-, -, q, -⟩
    · rw [if_pos q, if_pos q]; exact hb
    · by_cases h1 : sD D o = -1
      · rw [if_pos h1, if_pos h1]; exact hb
      · rw [if_neg h1, if_neg h1]
        have := ht _ q
        omega
  refine ⟨fun o => ((Classical.choose (hex o) : Nat) : Int), fun o ho => ?_, hle⟩
  obtain ⟨T', h1, h2⟩ := (Classical.choose_spec (hex o)).1
  exact Int.le_trans (hA2 o ho _ T' (fun u hu => hle T' h1 u hu)) (Int.le_trans (h1 o ho) (Int.le_of_eq (h2 ho)))
theorem Acy.sol {D : Nat → Int} (hW : WR D) (hO : WO D) (h : Acy D (sD D)) : ∃ T, Stt D T := by
  obtain ⟨rk, hr⟩ := h
  refine Sol.least hW hO (T := fun o => 1300 * ((rk o : Int) + 1)) (fun o ho => ?_)
  have ha := hW.a
  have hj := hW.2.1 (o / 6) (by have := ho.1; omega)
  have hd := hW.2.2.1 (o - 1) (by have := ho.1; omega)
  have hb : baseA D (fun o => 1300 * ((rk o : Int) + 1)) o ≤ 1300 * ((rk o : Int) + 1) := by
    unfold baseA
    split
    · omega
    · rename_i h6
      have := (hr o ho).1 h6
      simp only
      omega
  unfold needA
  rcases ArcR.can hW hO o ho with q | ⟨-, -, q, q2, q3⟩
  · rw [if_pos q]; exact hb
  · by_cases h1 : sD D o = -1
    · rw [if_pos h1]; exact hb
    · rw [if_neg h1]
      have := (hr o ho).2 h1
      simp only
      omega
/-- the first plan is free of deadlocks -/
theorem FPn.fr {D E : Nat → Int} (hW : WR D) (hN : ND D) (h : FPn D 36 E) : Fr E := by
  have hWE := h.wr hW hN (Nat.le_refl _)
  have hOE := h.wo hW hN
  have hacy : Acy E (sD E) := by
    refine ⟨fun o => o, fun o ho => ⟨fun h6 => by simp only; omega, fun hs => ?_⟩⟩
    have hoD := h.v.mp ho
    obtain ⟨a1, a2, a3⟩ := plD_at hWE hOE ho
    unfold sD at hs ⊢
    by_cases hp : plD E o = 0
    · rw [if_pos hp] at hs; exact absurd rfl hs
    · rw [if_neg hp] at hs ⊢
      have hmD : (mcO E o : Int) < D 0 := by rw [← h.lo (by decide : 0 < 5)]; exact a1
      -- the place of o is its rank
      have e1 : plD E o = rnk D (mcO D o) o := by
        have := plD_oN hWE hOE (m := mcO D o) (k := rnk D (mcO D o) o) (by rw [← h.mo]; exact a1) (by rw [h.2.2.1 _ (by rw [← h.mo]; exact hmD)]; have := rnk_lt hoD rfl hoD.1; omega)
        rw [h.on hoD.1 hoD] at this
        exact this
      obtain ⟨u, b1, b2, b3, b4⟩ := rnk_nth (D := D) (m := mcO D o) o (plD E o - 1) (by have := ho.1; omega) (by omega)
      have e2 : oN E (mcO E o) (plD E o - 1) = u := by
        have := h.on b2.1 b2
        rw [b3, b4] at this
        rw [h.mo]; exact this
      have hjob : u / 6 ≠ o / 6 := fun q => by
        have := hN.2 u o b2 hoD q b3
        omega
      unfold srcv
      rw [e2]
      cases hB : blB E u with
      | true =>
        have := (vO_succ hWE (h.v.mpr b2) (blB_t.mp hB).2).2
        simp only [cond_true]
        omega
      | false =>
        simp only [cond_false]
        omega
  exact ⟨Acy.sol hWE hOE hacy, fun _ => hacy⟩
theorem FPn.gn {D E : Nat → Int} {cs : List Int} (hW : WR D) (hN : ND D) (hC : RC D cs) (h : FPn D 36 E) : GN E cs :=
  ⟨⟨h.wr hW hN (Nat.le_refl _), h.wo hW hN, h.rc hC, h.fr hW hN⟩, h.nd hN, h.np⟩
/-! another duration -/
def duF (D : Nat → Int) (o : Nat) (d : Int) : Nat → Int := fun i => if i = 83 + 2 * o + 1 then d else D i
theorem duF_o {D : Nat → Int} {o i : Nat} {d : Int} (h : i ≠ 83 + 2 * o + 1) : duF D o d i = D i := by unfold duF; rw [if_neg h]
theorem duF_v {D : Nat → Int} {o u : Nat} {d : Int} (ho : o < 36) : vO (duF D o d) u ↔ vO D u := by
  unfold vO
  constructor
  · rintro ⟨h1, h2, h3⟩
    rw [duF_o (by omega)] at h2 h3
    exact ⟨h1, h2, h3⟩
  · rintro ⟨h1, h2, h3⟩
    rw [duF_o (by omega), duF_o (by omega)]
    exact ⟨h1, h2, h3⟩
theorem duF_mo {D : Nat → Int} {o u : Nat} {d : Int} : mcO (duF D o d) u = mcO D u := by unfold mcO; rw [duF_o (by omega)]
theorem duF_oN {D : Nat → Int} {o m k : Nat} {d : Int} (hm : m < 6) (hk : k < 6) : oN (duF D o d) m k = oN D m k := by unfold oN; rw [duF_o (by omega)]
theorem duF_wr {D : Nat → Int} (hW : WR D) {o : Nat} (ho : o < 36) {d : Int} (hd : 1 ≤ d ∧ d ≤ 99) : WR (duF D o d) := by
  refine ⟨?_, fun j hj => ?_, fun u hu => ?_, fun m hm => ?_⟩
  · rw [duF_o (by omega), duF_o (by omega), duF_o (by omega), duF_o (by omega), duF_o (by omega)]; exact hW.1
  · rw [duF_o (by omega), duF_o (by omega), duF_o (by omega), duF_o (by omega), duF_o (by omega)]; exact hW.2.1 j hj
  · rw [duF_o (by omega)]
    have := hW.2.2.1 u hu
    unfold duF
    split
    · omega
    · exact this
  · have hw := hW.2.2.2 m hm
    rw [duF_o (by omega), duF_o (by omega), duF_o (by omega)]
    exact ⟨hw.1, hw.2.1, hw.2.2.1, hw.2.2.2.1, hw.2.2.2.2.1, hw.2.2.2.2.2.1, fun k hk => by rw [duF_o (by omega)]; exact hw.2.2.2.2.2.2 k hk⟩
theorem duF_six {D : Nat → Int} (hW : WR D) {m k : Nat} (hm : (m : Int) < D 0) (hk : (k : Int) < D (5 + 9 * m + 2)) : m < 6 ∧ k < 6 := by
  have ha := hW.a
  have := hW.2.2.2 m (by omega)
  omega
theorem duF_wo {D : Nat → Int} (hW : WR D) (hO : WO D) {o : Nat} (ho : o < 36) {d : Int} : WO (duF D o d) := by
  have ha := hW.a
  refine ⟨fun m k hm hk => ?_, fun m k k2 hm hk hk2 he => ?_, fun u hu => ?_⟩
  · rw [duF_o (by omega)] at hm
    rw [duF_o (by omega)] at hk
    obtain ⟨s1, s2⟩ := duF_six hW hm hk
    rw [duF_oN s1 s2, duF_v ho, duF_mo]
    exact hO.1 m k hm hk
  · rw [duF_o (by omega)] at hm
    rw [duF_o (by omega)] at hk hk2
    obtain ⟨s1, s2⟩ := duF_six hW hm hk
    obtain ⟨-, s3⟩ := duF_six hW hm hk2
    rw [duF_oN s1 s2, duF_oN s1 s3] at he
    exact hO.2.1 m k k2 hm hk hk2 he
  · rw [duF_v ho] at hu
    obtain ⟨h1, k, h2, h3⟩ := hO.2.2 u hu
    obtain ⟨s1, s2⟩ := duF_six hW h1 h2
    rw [duF_mo, duF_o (by omega)]
    refine ⟨h1, k, ?_, ?_⟩
    · rw [duF_o (by omega)]; exact h2
    · rw [duF_oN s1 s2]; exact h3
theorem duF_bl {D : Nat → Int} {o u : Nat} {d : Int} (hu : u < 36) (hW : WR D) : blB (duF D o d) u = blB D u := by
  obtain ⟨h1, -⟩ := mcO_lt hW hu
  unfold blB
  rw [duF_mo, duF_o (by omega), duF_o (by omega)]
theorem duF_sl {D : Nat → Int} (hW : WR D) (hO : WO D) (hN : ND D) {o : Nat} (ho : o < 36) {d : Int} (hd : 1 ≤ d ∧ d ≤ 99) {u : Nat} (hu : vO D u) : sD (duF D o d) u = sD D u ∧ (sD D u ≠ -1 → lD D u = 0 → lD (duF D o d) u = 0) := by
  obtain ⟨a1, a2, a3⟩ := plD_at hW hO hu
  obtain ⟨s1, s2⟩ := duF_six hW a1 a2
  have e1 : plD (duF D o d) u = plD D u := by
    have := plD_oN (duF_wr hW ho hd) (duF_wo hW hO ho (d := d)) (m := mcO D u) (k := plD D u) (by rw [duF_o (by omega)]; exact a1) (by rw [duF_o (by omega)]; exact a2)
    rw [duF_oN s1 s2, a3] at this
    exact this
  have hw := hW.2.2.2 _ s1
  by_cases hp : plD D u = 0
  · unfold sD
    rw [e1, if_pos hp, if_pos hp]
    exact ⟨rfl, fun q => absurd rfl q⟩
  · obtain ⟨hv, -⟩ := hO.1 (mcO D u) (plD D u - 1) a1 (by omega)
    unfold sD lD srcv lngv
    rw [e1, if_neg hp, if_neg hp, duF_mo, duF_oN s1 (by omega), duF_bl hv.1 hW]
    refine ⟨rfl, fun _ hl => ?_⟩
    rw [duF_o (by omega)]
    have h1 := (hN.1 _ hv).2
    cases hB : blB D (oN D (mcO D u) (plD D u - 1)) with
    | true =>
      rw [hB] at hl
      simp only [cond_true] at hl ⊢
      exact hl
    | false =>
      rw [hB] at hl
      simp only [cond_false] at hl
      omega
theorem duF_fr {D : Nat → Int} (hW : WR D) (hO : WO D) (hN : ND D) (hf : Fr D) {o : Nat} (ho : o < 36) {d : Int} (hd : 1 ≤ d ∧ d ≤ 99) : Fr (duF D o d) := by
  have hW2 := duF_wr hW ho hd
  have hO2 := duF_wo hW hO ho (d := d)
  refine ⟨?_, fun q => ?_⟩
  · obtain ⟨T, hT⟩ := hf.1
    refine Sol.least hW2 hO2 (T := fun u => 300 * T u) (fun u hu => ?_)
    have huD := (duF_v ho).mp hu
    have hs := duF_sl hW hO hN ho hd huD
    have hsol := hT.1 u huD
    have hpos : ∀ c : Nat, vO D c → 0 ≤ T c := fun c hc => hT.1.nonneg hW _ c rfl hc
    have hd2 := hW2.2.2.1 (u - 1) (by have := hu.1; omega)
    have h0 := hpos u huD
    have hbD := baseA_le (D := D) (s := sD D) (l := lD D) (T := T) (o := u)
    have hb : baseA (duF D o d) (fun u => 300 * T u) u ≤ 300 * T u := by
      unfold baseA at hbD ⊢
      by_cases h6 : u % 6 = 0
      · rw [if_pos h6] at hbD ⊢
        rw [duF_o (by omega)]
        omega
      · rw [if_neg h6] at hbD ⊢
        have := (hN.1 _ (vO_pred huD h6).1).2
        simp only
        omega
    unfold needA
    rw [hs.1]
    unfold needA at hsol
    by_cases h1 : sD D u = -1
    · rw [if_pos h1]; exact hb
    · rw [if_neg h1] at hsol ⊢
      have h3 := hs.2 h1
      have h4 : 0 ≤ lD (duF D o d) u ∧ lD (duF D o d) u ≤ 198 := by
        rcases ArcR.can hW2 hO2 u hu with z | ⟨-, -, -, z, z2⟩
        · rw [hs.1] at z; exact absurd z h1
        · exact ⟨z, z2⟩
      have h5 : 0 ≤ lD D u := by
        rcases ArcR.can hW hO u huD with z | ⟨-, -, -, z, -⟩
        · exact absurd z h1
        · exact z
      simp only
      by_cases hz : lD D u = 0
      · have := h3 hz
        omega
      · omega
  · rw [duF_o (by omega)] at q
    obtain ⟨rk, hr⟩ := hf.2 q
    refine ⟨rk, fun u hu => ?_⟩
    have huD := (duF_v ho).mp hu
    rw [(duF_sl hW hO hN ho hd huD).1]
    exact hr u huD
theorem duF_gn {D : Nat → Int} {cs : List Int} (h : GN D cs) {o : Nat} (ho : o < 36) {d : Int} (hd : 1 ≤ d ∧ d ≤ 99) : GN (duF D o d) cs := by
  obtain ⟨⟨hW, hO, hC, hf⟩, hN, hP⟩ := h
  have ha := hW.a
  refine ⟨⟨duF_wr hW ho hd, duF_wo hW hO ho, ⟨hC.1, fun q => hC.2.1 (by rw [← duF_o (D := D) (d := d) (o := o) (i := 3) (by omega)]; exact q), fun q => ?_⟩, duF_fr hW hO hN hf ho hd⟩, ⟨fun u hu => ?_, fun u w hu hw e1 e2 => ?_⟩, fun m hm => ?_⟩
  · have := hC.2.2 (by rw [← duF_o (D := D) (d := d) (o := o) (i := 3) (by omega)]; exact q)
    rw [duF_o (by omega)]
    refine ⟨this.1, fun i hi => ?_⟩
    rw [duF_o (by omega)]
    exact this.2 i hi
  · rw [duF_v ho] at hu
    have := hN.1 u hu
    rw [duF_mo, duF_o (by omega)]
    refine ⟨this.1, ?_⟩
    unfold duF
    split
    · exact hd.1
    · exact this.2
  · rw [duF_v ho] at hu hw
    rw [duF_mo, duF_mo] at e2
    exact hN.2 u w hu hw e1 e2
  · rw [duF_o (by omega)] at hm
    rw [duF_o (by omega), hP m hm]
    have key : ∀ n : Nat, n ≤ 36 → rnk (duF D o d) m n = rnk D m n := by
      intro n
      induction n with
      | zero => intro _; rfl
      | succ n ih =>
        intro hn
        rw [rnk_succ, rnk_succ, ih (by omega), duF_mo]
        have : vB (duF D o d) n = vB D n := by unfold vB; rw [duF_o (by omega), duF_o (by omega)]
        rw [this]
    rw [key 36 (Nat.le_refl _)]
/-! other orders -/
theorem sameD.rk {D E : Nat → Int} (h : sameD D E) {m : Nat} : ∀ k : Nat, rnk E m k = rnk D m k
  | 0 => rfl
  | k + 1 => by
    rw [rnk_succ, rnk_succ, h.rk k, h.mo]
    have : vB E k = vB D k := by unfold vB; rw [h.lo (by decide), h.hi (by omega)]
    rw [this]
theorem sameD.gn {D E : Nat → Int} {cs : List Int} (h : sameD D E) (hg : GN D cs) (hW : WR E) (hO : WO E) (hf : Fr E) : GN E cs := by
  obtain ⟨⟨-, -, hC, -⟩, hN, hP⟩ := hg
  refine ⟨⟨hW, hO, h.rc hC, hf⟩, ⟨fun u hu => ?_, fun u w hu hw e1 e2 => ?_⟩, fun m hm => ?_⟩
  · rw [h.v] at hu
    rw [h.mo, h.lo (by decide), h.hi (by omega)]
    exact hN.1 u hu
  · rw [h.v] at hu hw
    rw [h.mo, h.mo] at e2
    exact hN.2 u w hu hw e1 e2
  · rw [h.lo (by decide)] at hm
    rw [h.mc (by decide), hP m hm, h.rk]
