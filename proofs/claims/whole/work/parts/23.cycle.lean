/-! CYCLES: an order of the operations in which the sources stand ahead; the reference's hasCycle and isDeadlocked -/
def Acy (D s : Nat → Int) : Prop := ∃ rk : Nat → Nat, ∀ o : Nat, vO D o → (o % 6 ≠ 0 → rk (o - 1) < rk o) ∧ (s o ≠ -1 → rk (s o).toNat < rk o)
theorem cnt_flip {p q : Nat → Bool} {o : Nat} (hp : p o = true) (hq : q o = false) (he : ∀ c, c ≠ o → q c = p c) : ∀ n, (o < n → cntF q n + 1 = cntF p n) ∧ (n ≤ o → cntF q n = cntF p n)
  | 0 => ⟨fun h => absurd h (Nat.not_lt_zero _), fun _ => rfl⟩
  | n + 1 => by
    obtain ⟨h1, h2⟩ := cnt_flip hp hq he n
    simp only [cntF]
    refine ⟨fun h => ?_, fun h => ?_⟩
    · by_cases e : o = n
      · subst e
        rw [h2 (Nat.le_refl _), hp, hq]; simp
      · rw [he n (fun z => e z.symm), ← h1 (by omega)]; omega
    · rw [he n (by omega), h2 (by omega)]
theorem cnt_zero {p : Nat → Bool} : ∀ n, cntF p n = 0 → ∀ o, o < n → p o = false
  | 0, _, o, ho => absurd ho (Nat.not_lt_zero _)
  | n + 1, h, o, ho => by
    simp only [cntF] at h
    by_cases e : o = n
    · subst e
      cases hp : p o with
      | false => rfl
      | true => rw [hp] at h; simp at h
    · exact cnt_zero n (by omega) o (by omega)
/-- there, and not free -/
def nfB (D F : Nat → Int) (o : Nat) : Bool := vB D o && (F o == 0)
theorem nfB_t {D F : Nat → Int} {o : Nat} (ho : o < 36) : nfB D F o = true ↔ (vO D o ∧ F o = 0) := by
  unfold nfB; rw [← vB_t ho]; simp
/-- an operation that is held up by one that isn't free -/
def blkd (s F : Nat → Int) (o : Nat) : Prop := (o % 6 ≠ 0 ∧ F (o - 1) = 0) ∨ (s o ≠ -1 ∧ F (s o).toNat = 0)
/-- the free ones have a ranking -/
def frRk (D s F : Nat → Int) : Prop := ∃ (rk : Nat → Nat) (b : Nat), ∀ o : Nat, vO D o → F o ≠ 0 → rk o < b ∧ (o % 6 ≠ 0 → F (o - 1) ≠ 0 ∧ rk (o - 1) < rk o) ∧ (s o ≠ -1 → F (s o).toNat ≠ 0 ∧ rk (s o).toNat < rk o)
theorem frRk.add {D s l F : Nat → Int} (hA : ArcR D s l) (h : frRk D s F) {o : Nat} (hv : vO D o) (hF : F o = 0) (hb : ¬ blkd s F o) : frRk D s (fun c => if c = o then 1 else F c) := by
  obtain ⟨rk, b, h⟩ := h
  have hb1 : o % 6 ≠ 0 → F (o - 1) ≠ 0 := fun q z => hb (Or.inl ⟨q, z⟩)
  have hb2 : s o ≠ -1 → F (s o).toNat ≠ 0 := fun q z => hb (Or.inr ⟨q, z⟩)
  refine ⟨fun c => if c = o then b else rk c, b + 1, fun c hc hFc => ?_⟩
  by_cases e : c = o
  · subst e
    refine ⟨by simp, fun q => ?_, fun q => ?_⟩
    · have h1 := hb1 q
      have h2 : c - 1 ≠ c := fun z => h1 (by rw [z]; exact hF)
      have h3 := (h (c - 1) (vO_pred hv q).1 h1).1
      simp only [h2, if_false, if_true]
      exact ⟨h1, h3⟩
    · have h1 := hb2 q
      have h2 : (s c).toNat ≠ c := fun z => h1 (by rw [z]; exact hF)
      rcases hA c hv.1 with z | ⟨-, -, z, -⟩
      · exact absurd z q
      · have h3 := (h _ z h1).1
        simp only [h2, if_false, if_true]
        exact ⟨h1, h3⟩
  · simp only [e, if_false] at hFc
    obtain ⟨h1, h2, h3⟩ := h c hc hFc
    simp only [e, if_false]
    refine ⟨by omega, fun q => ?_, fun q => ?_⟩
    · obtain ⟨g1, g2⟩ := h2 q
      have h4 : c - 1 ≠ o := fun z => g1 (by rw [z]; exact hF)
      simp only [h4, if_false]
      exact ⟨g1, g2⟩
    · obtain ⟨g1, g2⟩ := h3 q
      have h4 : (s c).toNat ≠ o := fun z => g1 (by rw [z]; exact hF)
      simp only [h4, if_false]
      exact ⟨g1, g2⟩
theorem acy_of_free {D s F : Nat → Int} (h : frRk D s F) (hall : ∀ o, vO D o → F o ≠ 0) : Acy D s := by
  obtain ⟨rk, b, h⟩ := h
  exact ⟨rk, fun o ho => ⟨fun q => ((h o ho (hall o ho)).2.1 q).2, fun q => ((h o ho (hall o ho)).2.2 q).2⟩⟩
theorem not_acy {D s l F : Nat → Int} (hA : ArcR D s l) (hb : ∀ o, vO D o → F o = 0 → blkd s F o) (hx : ∃ o, vO D o ∧ F o = 0) : ¬ Acy D s := by
  rintro ⟨rk, hrk⟩
  have key : ∀ n o, rk o = n → vO D o → F o = 0 → False := by
    intro n
    induction n using Nat.strongRecOn with
    | _ n ih =>
      intro o hn hv hF
      rcases hb o hv hF with ⟨q1, q2⟩ | ⟨q1, q2⟩
      · exact ih _ (by have := (hrk o hv).1 q1; omega) (o - 1) rfl (vO_pred hv q1).1 q2
      · rcases hA o hv.1 with z | ⟨-, -, z, -⟩
        · exact q1 z
        · exact ih _ (by have := (hrk o hv).2 q1; omega) _ rfl z q2
  obtain ⟨o, h1, h2⟩ := hx
  exact key _ o rfl h1 h2
section M1
variable {Γ : GG} {P : MP} {I : MM} {R : Int → MM → Prop} {Rv : MM → Prop}
def frOnly (I J : MM) : Prop := ∀ q : Nat, q ≠ 10 → J q = I q
/-- the state of hasCycle: left is the number of those that aren't free -/
def HC (I : MM) (left : Int) (J : MM) : Prop := frOnly I J ∧ (∀ o : Nat, o < 36 → J 10 o = 0 ∨ J 10 o = 1) ∧ left = (cntF (nfB (I 3) (J 10)) 36 : Int) ∧ frRk (I 3) (I 7) (J 10)
theorem hasCycle_49 (hM : LM Γ P) (hW : WR (I 3)) (hA : ArcR (I 3) (I 7) (I 8)) {left0 : Int} {F0 : Nat → Int}
    (hK : ∀ (left f : Int) (J : MM), HC I left J → ((f = 0 ∧ ∀ o, vO (I 3) o → J 10 o = 0 → blkd (I 7) (J 10) o) ∨ (f = 1 ∧ left < left0)) → XM Γ m_X6_hasCycle 0 0 41 [(0, vR 1), (1, vI left), (2, vI f)] [] P J (ri P R)) :
    ∀ (n i : Nat) (left f : Int) (J : MM), i + n = 36 → HC I left J → ((f = 0 ∧ left = left0 ∧ ∀ o, o < i → vO (I 3) o → J 10 o = 0 → blkd (I 7) (J 10) o) ∨ (f = 1 ∧ left < left0)) → XM Γ m_X6_hasCycle 0 0 49 [(0, vR 1), (1, vI left), (2, vI f), (3, vI (i : Int))] [] P J (ri P R) := by
  intro n
  induction n with
  | zero =>
    intro i left f J hi hJ hf
    have hi2 : i = 36 := by omega
    subst hi2
    refine t_X6_hasCycle_49 hM ⟨⟨by omega, by omega⟩, fun _ => hK left f J hJ ?_, fun q => absurd (by omega) q⟩
    rcases hf with ⟨q1, q2, q3⟩ | q
    · exact Or.inl ⟨q1, fun o ho => q3 o ho.1 ho⟩
    · exact Or.inr q
  | succ n ih =>
    intro i left f J hi hJ hf
    obtain ⟨j1, j2, j3, j4⟩ := hJ
    have hi36 : i < 36 := by omega
    have hJ3 : J 3 = I 3 := j1 3 (by decide)
    have hJ7 : J 7 = I 7 := j1 7 (by decide)
    have ei : (i : Int).toNat = i := Int.toNat_natCast i
    -- on, with nothing changed
    have skip : (vO (I 3) i → J 10 i = 0 → blkd (I 7) (J 10) i) → XM Γ m_X6_hasCycle 0 0 49 [(0, vR 1), (1, vI left), (2, vI f), (3, vI ((i : Int) + 1))] [] P J (ri P R) := by
      intro hb
      refine ih (i + 1) left f J (by omega) ⟨j1, j2, j3, j4⟩ ?_
      rcases hf with ⟨q1, q2, q3⟩ | q
      · refine Or.inl ⟨q1, q2, fun o ho hv hF => ?_⟩
        by_cases e : o = i
        · subst e; exact hb hv hF
        · exact q3 o (by omega) hv hF
      · exact Or.inr q
    have free : vO (I 3) i → J 10 i = 0 → ¬ blkd (I 7) (J 10) i → ∀ J1 : MM, J1 = up2 J 10 i 1 → XM Γ m_X6_hasCycle 0 0 49 [(0, vR 1), (1, vI (left + (-1))), (2, vI 1), (3, vI ((i : Int) + 1))] [] P J1 (ri P R) := by
      rintro hv hF hb _ rfl
      have e10 : (up2 J 10 i 1) 10 = fun c => if c = i then 1 else J 10 c := by funext c; simp [up2]
      have hcnt := (cnt_flip (p := nfB (I 3) (J 10)) (q := nfB (I 3) (fun c => if c = i then 1 else J 10 c)) (o := i) ((nfB_t hi36).mpr ⟨hv, hF⟩) (by unfold nfB; simp) (fun c hc => by unfold nfB; simp [hc]) 36).1 hi36
      refine ih (i + 1) _ 1 _ (by omega) ⟨fun q hq => by rw [up2_ne hq]; exact j1 q hq, fun o ho => ?_, ?_, ?_⟩ (Or.inr ⟨rfl, ?_⟩)
      · rw [e10]
        by_cases e : o = i
        · right; simp [e]
        · simp only [e, if_false]; exact j2 o ho
      · rw [e10]; omega
      · rw [e10]; exact j4.add hA hv hF hb
      · rcases hf with ⟨q1, q2, q3⟩ | ⟨q1, q2⟩ <;> omega
    refine t_X6_hasCycle_49 hM ⟨⟨by omega, by omega⟩, fun q => absurd q (by omega), fun _ => c_isThere hM (by rw [hJ3]; exact hW) hi36 (fun hv => ?_) (fun hv => ?_)⟩
    · rw [hJ3] at hv
      have j2i := j2 i hi36
      rw [ei, hJ7]
      refine ⟨⟨by omega, by omega⟩, fun z => absurd z (by omega), fun _ => ⟨by omega, by omega, by rcases j2i with q | q <;> (rw [q]; exact ⟨by decide, by decide⟩), fun q => skip (fun _ z => absurd z q), fun hF => ⟨⟨by omega, by omega⟩, fun q6 => ?_, fun q6 => ?_⟩⟩⟩
      · have h6 : i % 6 = 0 := by omega
        rcases hA i hi36 with hs | ⟨a1, a2, a3, -⟩
        · refine ⟨by rw [hs]; exact ⟨by decide, by decide⟩, fun _ => free hv hF ?_, fun z => absurd hs z⟩
          rintro (⟨z, -⟩ | ⟨z, -⟩)
          · exact z h6
          · exact z hs
        · refine ⟨⟨by omega, by omega⟩, fun z => absurd z (by omega), fun hne => ⟨a1, a2, by rcases j2 _ a3.1 with q | q <;> (rw [q]; exact ⟨by decide, by decide⟩), fun q => free hv hF ?_, fun q => skip (fun _ _ => Or.inr ⟨hne, q⟩)⟩⟩
          rintro (⟨z, -⟩ | ⟨-, z⟩)
          · exact z h6
          · exact q z
      · have h6 : i % 6 ≠ 0 := by omega
        rw [show ((i : Int) - 1).toNat = i - 1 by omega]
        have j2p := j2 (i - 1) (by omega)
        refine ⟨by omega, by omega, by rcases j2p with q | q <;> (rw [q]; exact ⟨by decide, by decide⟩), fun q => skip (fun _ _ => Or.inl ⟨h6, q⟩), fun qp => ?_⟩
        rcases hA i hi36 with hs | ⟨a1, a2, a3, -⟩
        · refine ⟨by rw [hs]; exact ⟨by decide, by decide⟩, fun _ => free hv hF ?_, fun z => absurd hs z⟩
          rintro (⟨-, z⟩ | ⟨z, -⟩)
          · exact qp z
          · exact z hs
        · refine ⟨⟨by omega, by omega⟩, fun z => absurd z (by omega), fun hne => ⟨a1, a2, by rcases j2 _ a3.1 with q | q <;> (rw [q]; exact ⟨by decide, by decide⟩), fun q => free hv hF ?_, fun q => skip (fun _ _ => Or.inr ⟨hne, q⟩)⟩⟩
          rintro (⟨-, z⟩ | ⟨-, z⟩)
          · exact qp z
          · exact q z
    · rw [hJ3] at hv
      exact ⟨⟨by omega, by omega⟩, fun _ => skip (fun z => absurd z hv), fun z => absurd rfl z⟩
theorem hasCycle_41z (hM : LM Γ P) (hA : ArcR (I 3) (I 7) (I 8)) (h0 : ∀ J, frOnly I J → Acy (I 3) (I 7) → R 0 J) (h1 : ∀ J, frOnly I J → ¬ Acy (I 3) (I 7) → R 1 J)
    {left : Int} {J : MM} (hJ : HC I left J) (hb : ∀ o, vO (I 3) o → J 10 o = 0 → blkd (I 7) (J 10) o) : XM Γ m_X6_hasCycle 0 0 41 [(0, vR 1), (1, vI left), (2, vI 0)] [] P J (ri P R) := by
  have hle := cnt_le (nfB (I 3) (J 10)) 36
  have hl2 := hJ.2.2.1
  refine t_X6_hasCycle_41 hM ⟨⟨by decide, by decide⟩, fun _ => ⟨⟨by omega, by omega⟩, fun q2 => ?_, fun q2 => ?_⟩, fun q => absurd rfl q⟩
  · refine h0 J hJ.1 (acy_of_free hJ.2.2.2 (fun o ho hF => ?_))
    have := cnt_zero (p := nfB (I 3) (J 10)) 36 (by omega) o ho.1
    rw [(nfB_t ho.1).mpr ⟨ho, hF⟩] at this
    cases this
  · refine h1 J hJ.1 (not_acy hA hb (Classical.byContradiction fun hno => q2 ?_))
    have : cntF (nfB (I 3) (J 10)) 36 = 0 := by
      refine Nat.le_zero.mp ?_
      have hz : ∀ n, cntF (fun _ => false) n = 0 := fun n => by
        induction n with
        | zero => rfl
        | succ n ih => simp [cntF, ih]
      rw [← hz 36]
      refine cnt_mono 36 (fun o ho hp => absurd ?_ hno)
      exact ⟨o, (nfB_t ho).mp hp⟩
    omega
theorem hasCycle_41 (hM : LM Γ P) (hW : WR (I 3)) (hA : ArcR (I 3) (I 7) (I 8)) (h0 : ∀ J, frOnly I J → Acy (I 3) (I 7) → R 0 J) (h1 : ∀ J, frOnly I J → ¬ Acy (I 3) (I 7) → R 1 J) :
    ∀ (n : Nat) (left : Int) (J : MM), left < n → HC I left J → XM Γ m_X6_hasCycle 0 0 41 [(0, vR 1), (1, vI left), (2, vI 1)] [] P J (ri P R) := by
  intro n
  induction n with
  | zero =>
    intro left J hl hJ
    have := hJ.2.2.1
    omega
  | succ n ih =>
    intro left J hl hJ
    refine t_X6_hasCycle_41 hM ⟨⟨by decide, by decide⟩, fun q => absurd q (by decide), fun _ => ?_⟩
    refine hasCycle_49 hM hW hA (left0 := left) (F0 := J 10) (fun left' f' J' hJ' hf' => ?_) 36 0 left 0 J (by omega) hJ (Or.inl ⟨rfl, rfl, fun o ho => absurd ho (Nat.not_lt_zero _)⟩)
    rcases hf' with ⟨rfl, b⟩ | ⟨rfl, b⟩
    · exact hasCycle_41z hM hA h0 h1 hJ' b
    · exact ih left' J' (by omega) hJ'
theorem c_hasCycle (hM : LM Γ P) (hW : WR (I 3)) (hA : ArcR (I 3) (I 7) (I 8)) (h0 : ∀ J, frOnly I J → Acy (I 3) (I 7) → R 0 J) (h1 : ∀ J, frOnly I J → ¬ Acy (I 3) (I 7) → R 1 J) :
    Cl Γ m_X6_hasCycle [vR 1] P I (ri P R) := by
  have key : ∀ (n k : Nat) (J : MM), k + n = 36 → frOnly I J → (∀ o : Nat, o < k → J 10 o = 0) → XM Γ m_X6_hasCycle 0 0 4 [(0, vR 1), (1, vI (cntF (vB (I 3)) k : Int)), (2, vI (k : Int))] [] P J (ri P R) := by
    intro n
    induction n with
    | zero =>
      intro k J hk hJ hF
      have hk2 : k = 36 := by omega
      subst hk2
      have hc := cnt_le (vB (I 3)) 36
      refine t_X6_hasCycle_4 hM ⟨⟨by omega, by omega⟩, fun _ => ?_, fun q => absurd (by omega) q⟩
      refine hasCycle_41 hM hW hA h0 h1 37 _ J (by omega) ⟨hJ, fun o ho => Or.inl (hF o ho), ?_, ⟨fun _ => 0, 0, fun o ho q => absurd (hF o ho.1) q⟩⟩
      have e : ∀ n, n ≤ 36 → cntF (vB (I 3)) n = cntF (nfB (I 3) (J 10)) n := by
        intro n
        induction n with
        | zero => intro _; rfl
        | succ n ih =>
          intro hn
          have h2 : nfB (I 3) (J 10) n = vB (I 3) n := by unfold nfB; rw [hF n (by omega)]; simp
          simp only [cntF]
          rw [ih (by omega), h2]
      rw [e 36 (Nat.le_refl _)]
    | succ n ih =>
      intro k J hk hJ hF
      have hJ3 : J 3 = I 3 := hJ 3 (by decide)
      have hc := cnt_le (vB (I 3)) k
      refine t_X6_hasCycle_4 hM ⟨⟨by omega, by omega⟩, fun q => absurd q (by omega), fun _ => ⟨by omega, by omega, ?_⟩⟩
      rintro _ rfl
      rw [Int.toNat_natCast]
      have e3 : (up2 J 10 k 0) 3 = I 3 := by rw [up2_ne (by decide)]; exact hJ3
      have hs : frOnly I (up2 J 10 k 0) := fun q hq => by rw [up2_ne hq]; exact hJ q hq
      have hz : ∀ o : Nat, o < k + 1 → (up2 J 10 k 0) 10 o = 0 := fun o ho => by
        by_cases e : o = k
        · subst e; exact up2_eq
        · rw [up2_nj e]; exact hF o (by omega)
      refine c_isThere hM (by rw [e3]; exact hW) (by omega) (fun hv => ⟨⟨by decide, by decide⟩, fun z => absurd z (by decide), fun _ => ?_⟩) (fun hv => ⟨⟨by decide, by decide⟩, fun _ => ?_, fun z => absurd rfl z⟩)
      · rw [e3] at hv
        rintro _ rfl
        have := ih (k + 1) _ (by omega) hs hz
        simp only [cntF, (vB_t hv.1).mpr hv] at this
        push_cast at this ⊢
        exact this
      · rw [e3] at hv
        rintro _ rfl
        have := ih (k + 1) _ (by omega) hs hz
        have hf : vB (I 3) k = false := by
          cases h : vB (I 3) k with
          | false => rfl
          | true => exact absurd ((vB_t (by omega)).mp h) hv
        simp only [cntF, hf] at this
        push_cast at this ⊢
        exact this
  exact cl_of n_X6_hasCycle (Nat.le_of_ble_eq_true rfl) (t_X6_hasCycle_0 hM (key 36 0 I (by omega) (fun _ _ => rfl) (fun o ho => absurd ho (Nat.not_lt_zero _))))
/-- but for arcs, starts and the marks, nothing changes -/
def trOnly (I J : MM) : Prop := ∀ q : Nat, q ≠ 7 → q ≠ 8 → q ≠ 9 → q ≠ 10 → J q = I q
theorem c_isDeadlocked (hM : LM Γ P) (hW : WR (I 3)) (hO : WO (I 3))
    (hF : ∀ J, trOnly I J → AR (I 3) (J 7) (J 8) → IsS (I 3) (J 7) (J 8) (J 9) → TB (J 9) → (I 3 1 = 0 → Acy (I 3) (J 7)) → R 0 J)
    (hN : ∀ J, trOnly I J → AR (I 3) (J 7) (J 8) → ((¬ ∃ T, IsS (I 3) (J 7) (J 8) T) ∨ (I 3 1 = 0 ∧ ¬ Acy (I 3) (J 7))) → R 1 J) : Cl Γ m_X6_isDeadlocked [vR 1] P I (ri P R) := by
  have ha := hW.a
  have fr : ∀ A, asOnly I A → ∀ J, frOnly A J → trOnly I J := fun A hA J hJ q h7 h8 h9 h10 => by rw [hJ q h10]; exact hA q h7 h8 h9
  refine cl_of n_X6_isDeadlocked (Nat.le_of_ble_eq_true rfl) (t_X6_isDeadlocked_0 hM (c_findStarts hM hW hO (fun A a1 a2 a3 a4 => ?_) (fun A a1 a2 a3 => ?_)))
  · have a0 : A 3 = I 3 := a1 3 (by decide) (by decide) (by decide)
    refine ⟨⟨by decide, by decide⟩, fun z => absurd z (by decide), fun _ => ?_⟩
    rw [a0]
    refine ⟨⟨by omega, by omega⟩, fun z => hF A (fr A a1 A (fun _ _ => rfl)) a2 a3 a4 (fun y => absurd y z), fun z => ?_⟩
    refine c_hasCycle hM (by rw [a0]; exact hW) (by rw [a0]; exact a2.rng hW hO) (fun J hJ hc => ?_) (fun J hJ hc => ?_)
    · have e7 : J 7 = A 7 := hJ 7 (by decide)
      have e8 : J 8 = A 8 := hJ 8 (by decide)
      have e9 : J 9 = A 9 := hJ 9 (by decide)
      exact ⟨⟨by decide, by decide⟩, fun _ => hF J (fr A a1 J hJ) (by rw [e7, e8]; exact a2) (by rw [e7, e8, e9]; exact a3) (by rw [e9]; exact a4) (fun _ => by rw [e7, ← a0]; exact hc), fun y => absurd rfl y⟩
    · have e7 : J 7 = A 7 := hJ 7 (by decide)
      have e8 : J 8 = A 8 := hJ 8 (by decide)
      exact ⟨⟨by decide, by decide⟩, fun y => absurd y (by decide), fun _ => hN J (fr A a1 J hJ) (by rw [e7, e8]; exact a2) (Or.inr ⟨z, by rw [e7, ← a0]; exact hc⟩)⟩
  · exact ⟨⟨by decide, by decide⟩, fun _ => hN A (fr A a1 A (fun _ _ => rfl)) a2 (Or.inl a3), fun z => absurd rfl z⟩
end M1
