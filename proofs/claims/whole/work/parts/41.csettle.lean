/-! THE CLASS'S compute: what is settled -/
def ArcV (D s l : Nat → Int) : Prop := ∀ o : Nat, vO D o → s o = -1 ∨ (0 ≤ s o ∧ s o < 36 ∧ vO D (s o).toNat ∧ 0 ≤ l o ∧ l o ≤ 198)
theorem frRk.addV {D s l F : Nat → Int} (hA : ArcV D s l) (h : frRk D s F) {o : Nat} (hv : vO D o) (hF : F o = 0) (hb : ¬ blkd s F o) : frRk D s (fun c => if c = o then 1 else F c) := by
  obtain ⟨rk, b, h⟩ := h
  have hb1 : o % 6 ≠ 0 → F (o - 1) ≠ 0 := fun q z => hb (Or.inl ⟨q, z⟩)
  have hb2 : s o ≠ -1 → F (s o).toNat ≠ 0 := fun q z => hb (Or.inr ⟨q, z⟩)
  refine ⟨fun c => if c = o then b else rk c, b + 1, fun c hc hFc => ?_⟩
  by_cases e : c = o
  · subst e
    refine ⟨by simp, fun q => ?_, fun q => ?_⟩
    · have h1 := hb1 q
      have h2 : c - 1 ≠ c := fun z => h1 (by rw [z]; exact hF)
      have h3 := (h (c - 1) (vO_pred hv q).1 h1).1
      simp only [h2, if_false, if_true]
      exact ⟨h1, h3⟩
    · have h1 := hb2 q
      have h2 : (s c).toNat ≠ c := fun z => h1 (by rw [z]; exact hF)
      rcases hA c hv with z | ⟨-, -, z, -⟩
      · exact absurd z q
      · have h3 := (h _ z h1).1
        simp only [h2, if_false, if_true]
        exact ⟨h1, h3⟩
  · simp only [e, if_false] at hFc
    obtain ⟨h1, h2, h3⟩ := h c hc hFc
    simp only [e, if_false]
    refine ⟨by omega, fun q => ?_, fun q => ?_⟩
    · obtain ⟨g1, g2⟩ := h2 q
      have h4 : c - 1 ≠ o := fun z => g1 (by rw [z]; exact hF)
      simp only [h4, if_false]
      exact ⟨g1, g2⟩
    · obtain ⟨g1, g2⟩ := h3 q
      have h4 : (s c).toNat ≠ o := fun z => g1 (by rw [z]; exact hF)
      simp only [h4, if_false]
      exact ⟨g1, g2⟩
theorem not_acyV {D s l F : Nat → Int} (hA : ArcV D s l) (hb : ∀ o, vO D o → F o = 0 → blkd s F o) (hx : ∃ o, vO D o ∧ F o = 0) : ¬ Acy D s := by
  rintro ⟨rk, hrk⟩
  have key : ∀ n o, rk o = n → vO D o → F o = 0 → False := by
    intro n
    induction n using Nat.strongRecOn with
    | _ n ih =>
      intro o hn hv hF
      rcases hb o hv hF with ⟨q1, q2⟩ | ⟨q1, q2⟩
      · exact ih _ (by have := (hrk o hv).1 q1; omega) (o - 1) rfl (vO_pred hv q1).1 q2
      · rcases hA o hv with z | ⟨-, -, z, -⟩
        · exact q1 z
        · exact ih _ (by have := (hrk o hv).2 q1; omega) _ rfl z q2
  obtain ⟨o, h1, h2⟩ := hx
  exact key _ o rfl h1 h2
theorem Sol.rel {D s l T : Nat → Int} (hW : WR D) (h : Sol D s l T) : ∀ (n o : Nat), o % 6 = n → vO D o → D (59 + 4 * (o / 6)) ≤ T o := by
  intro n
  induction n with
  | zero =>
    intro o hn ho
    have h1 := h o ho
    have h2 : baseA D T o ≤ needA D s l T o := baseA_le
    unfold baseA at h2
    rw [if_pos hn] at h2
    omega
  | succ n ih =>
    intro o hn ho
    have h1 := h o ho
    have h2 : baseA D T o ≤ needA D s l T o := baseA_le
    obtain ⟨hp, e⟩ := vO_pred ho (by omega)
    have h3 := ih (o - 1) (by omega) hp
    have hd := hW.2.2.1 (o - 1) hp.1
    rw [e] at h3
    unfold baseA at h2
    rw [if_neg (by omega)] at h2
    omega
/-- the earliest start by what is there -/
def esF (D T : Nat → Int) (o : Nat) : Int := max (D (59 + 4 * (o / 6))) (max (if o % 6 = 0 then D (59 + 4 * (o / 6)) else T (o - 1) + D (83 + 2 * (o - 1) + 1)) (if sD D o = -1 then D (59 + 4 * (o / 6)) else T (sD D o).toNat + lD D o))
theorem esF_rel {D T : Nat → Int} {o : Nat} : D (59 + 4 * (o / 6)) ≤ esF D T o := by
  unfold esF; omega
theorem esF_need {D T : Nat → Int} {o : Nat} : needA D (sD D) (lD D) T o ≤ esF D T o := by
  unfold needA baseA esF
  by_cases h1 : o % 6 = 0 <;> by_cases h2 : sD D o = -1 <;> simp only [h1, h2, if_true, if_false] <;> omega
theorem esF_sol {D T T' : Nat → Int} (hW : WR D) (hA : ArcV D (sD D) (lD D)) (h : Sol D (sD D) (lD D) T') (hT : ∀ c : Nat, vO D c → T c ≤ T' c) {o : Nat} (ho : vO D o) : esF D T o ≤ T' o := by
  have h0 := h.rel hW _ o rfl ho
  have h1 := h o ho
  have hp : o % 6 ≠ 0 → T (o - 1) ≤ T' (o - 1) := fun z => hT _ (vO_pred ho z).1
  have hs : sD D o ≠ -1 → T (sD D o).toNat ≤ T' (sD D o).toNat := fun z => by
    rcases hA o ho with y | ⟨-, -, y, -⟩
    · exact absurd y z
    · exact hT _ y
  unfold needA baseA at h1
  unfold esF
  by_cases c1 : o % 6 = 0 <;> by_cases c2 : sD D o = -1 <;> simp only [c1, c2, if_true, if_false] at h1 ⊢
  · omega
  · have := hs c2; omega
  · have := hp c1; omega
  · have := hs c2; have := hp c1; omega
theorem esF_b {D T : Nat → Int} {B : Int} (hW : WR D) (hA : ArcV D (sD D) (lD D)) (hB : 1000 ≤ B) (hT : ∀ c : Nat, vO D c → 0 ≤ T c ∧ T c ≤ B) {o : Nat} (ho : vO D o) : 0 ≤ esF D T o ∧ esF D T o ≤ B + 300 := by
  have hj := hW.2.1 (o / 6) (by have := ho.1; omega)
  have hp : o % 6 ≠ 0 → 0 ≤ T (o - 1) + D (83 + 2 * (o - 1) + 1) ∧ T (o - 1) + D (83 + 2 * (o - 1) + 1) ≤ B + 99 := fun z => by
    have h1 := (vO_pred ho z).1
    have h2 := hT _ h1
    have h3 := hW.2.2.1 _ h1.1
    omega
  have hs : sD D o ≠ -1 → 0 ≤ T (sD D o).toNat + lD D o ∧ T (sD D o).toNat + lD D o ≤ B + 198 := fun z => by
    rcases hA o ho with y | ⟨-, -, y, y2, y3⟩
    · exact absurd y z
    · have := hT _ y
      omega
  unfold esF
  by_cases c1 : o % 6 = 0 <;> by_cases c2 : sD D o = -1 <;> simp only [c1, c2, if_true, if_false]
  · omega
  · have := hs c2; omega
  · have := hp c1; omega
  · have := hs c2; have := hp c1; omega
def SI (D T F : Nat → Int) (B : Int) : Prop :=
  1000 ≤ B ∧ (∀ o : Nat, vO D o → F o = 0 ∨ F o = 1) ∧ (∀ o : Nat, vO D o → 0 ≤ T o ∧ T o ≤ B) ∧
  (∀ o : Nat, vO D o → F o ≠ 0 → (o % 6 ≠ 0 → F (o - 1) ≠ 0) ∧ (sD D o ≠ -1 → F (sD D o).toNat ≠ 0) ∧ needA D (sD D) (lD D) T o ≤ T o) ∧
  (∀ T' : Nat → Int, Sol D (sD D) (lD D) T' → ∀ o : Nat, vO D o → T o ≤ T' o) ∧ (D 1 = 0 → frRk D (sD D) F) ∧ ∀ o : Nat, vO D o → D (59 + 4 * (o / 6)) ≤ T o
def setF (F : Nat → Int) (o : Nat) (v : Int) : Nat → Int := fun c => if c = o then v else F c
theorem setF_eq {F : Nat → Int} {o : Nat} {v : Int} : setF F o v o = v := by unfold setF; rw [if_pos rfl]
theorem setF_ne {F : Nat → Int} {o c : Nat} {v : Int} (h : c ≠ o) : setF F o v c = F c := by unfold setF; rw [if_neg h]
theorem up2_row {I : MM} {a i : Nat} {v : Int} : up2 I a i v a = setF (I a) i v := by
  funext j; unfold up2 setF; rw [if_pos rfl]
/-- the machine's need looks at two other operations -/
theorem needA_cong {D T T' : Nat → Int} {o : Nat} (h1 : o % 6 ≠ 0 → T' (o - 1) = T (o - 1)) (h2 : sD D o ≠ -1 → T' (sD D o).toNat = T (sD D o).toNat) : needA D (sD D) (lD D) T' o = needA D (sD D) (lD D) T o := by
  unfold needA baseA
  by_cases c1 : o % 6 = 0 <;> by_cases c2 : sD D o = -1 <;> simp only [c1, c2, if_true, if_false]
  · rw [h2 c2]
  · rw [h1 c1]
  · rw [h1 c1, h2 c2]
theorem SI.step {D T F : Nat → Int} {B : Int} (hW : WR D) (hA : ArcV D (sD D) (lD D)) (h : SI D T F B) {o : Nat} (ho : vO D o) (hF : F o = 0) (hb : ¬ blkd (sD D) F o) : SI D (setF T o (esF D T o)) (setF F o 1) (B + 300) := by
  obtain ⟨h0, h1, h2, h3, h4, h5, h6⟩ := h
  have hes := esF_b hW hA h0 h2 ho
  have hne : ∀ c : Nat, F c ≠ 0 → c ≠ o := fun c hc z => hc (by rw [z]; exact hF)
  have hb1 : o % 6 ≠ 0 → F (o - 1) ≠ 0 := fun q z => hb (Or.inl ⟨q, z⟩)
  have hb2 : sD D o ≠ -1 → F (sD D o).toNat ≠ 0 := fun q z => hb (Or.inr ⟨q, z⟩)
  refine ⟨by omega, fun c hc => ?_, fun c hc => ?_, fun c hc hFc => ?_, fun T' hT' c hc => ?_, fun q => (h5 q).addV hA ho hF hb, fun c hc => ?_⟩
  · by_cases e : c = o
    · rw [e, setF_eq]; exact Or.inr rfl
    · rw [setF_ne e]; exact h1 c hc
  · by_cases e : c = o
    · rw [e, setF_eq]; exact hes
    · rw [setF_ne e]; have := h2 c hc; omega
  · by_cases e : c = o
    · subst e
      refine ⟨fun q => by rw [setF_ne (hne _ (hb1 q))]; exact hb1 q, fun q => by rw [setF_ne (hne _ (hb2 q))]; exact hb2 q, ?_⟩
      rw [setF_eq, needA_cong (T := T) (fun q => setF_ne (hne _ (hb1 q))) (fun q => setF_ne (hne _ (hb2 q)))]
      exact esF_need
    · rw [setF_ne e] at hFc
      obtain ⟨g1, g2, g3⟩ := h3 c hc hFc
      refine ⟨fun q => by rw [setF_ne (hne _ (g1 q))]; exact g1 q, fun q => by rw [setF_ne (hne _ (g2 q))]; exact g2 q, ?_⟩
      rw [setF_ne e, needA_cong (T := T) (fun q => setF_ne (hne _ (g1 q))) (fun q => setF_ne (hne _ (g2 q)))]
      exact g3
  · by_cases e : c = o
    · rw [e, setF_eq]; exact esF_sol hW hA hT' (h4 T' hT') ho
    · rw [setF_ne e]; exact h4 T' hT' c hc
  · by_cases e : c = o
    · rw [e, setF_eq]; exact esF_rel
    · rw [setF_ne e]; exact h6 c hc
/-- how many are left -/
def lft (D F : Nat → Int) : Nat := cntF (nfB D F) 36
theorem lft_step {D F : Nat → Int} {o : Nat} (ho : vO D o) (hF : F o = 0) : lft D (setF F o 1) + 1 = lft D F := by
  refine (cnt_flip (o := o) ((nfB_t ho.1).mpr ⟨ho, hF⟩) ?_ (fun c hc => ?_) 36).1 ho.1
  · cases hb : nfB D (setF F o 1) o with
    | false => rfl
    | true =>
      have := ((nfB_t ho.1).mp hb).2
      rw [setF_eq] at this
      exact absurd this (by decide)
  · unfold nfB
    rw [setF_ne hc]
theorem cnt_cong {p r : Nat → Bool} : ∀ n : Nat, (∀ o, o < n → p o = r o) → cntF p n = cntF r n
  | 0, _ => rfl
  | n + 1, h => by simp only [cntF]; rw [cnt_cong n (fun o ho => h o (by omega)), h n (by omega)]
theorem cnt_skip {p : Nat → Bool} {a : Nat} : ∀ d : Nat, (∀ i, i < d → p (a + i) = false) → cntF p (a + d) = cntF p a
  | 0, _ => rfl
  | d + 1, h => by
    rw [show a + (d + 1) = a + d + 1 by omega]
    simp only [cntF]
    rw [h d (by omega), cnt_skip d (fun i hi => h i (by omega))]
    rfl
theorem vB_f {D : Nat → Int} {o : Nat} (h : ¬ vO D o) (ho : o < 36) : vB D o = false := by
  cases hb : vB D o with
  | false => rfl
  | true => exact absurd ((vB_t ho).mp hb) h
section M2
variable {Γ : GG} {P : MP} {I : MM} {R : Int → MM → Prop} {Rv : MM → Prop} {cs : List Int} {D : Nat → Int} {q σ κ N : Nat}
theorem CR.av (h : CR Γ P I q σ κ N D cs) : ArcV D (sD D) (lD D) := ArcR.can h.wr h.wo
def arcA (I : MM) (q : Nat) (D : Nat → Int) : Prop := ∀ o : Nat, vO D o → arcO I q D o
theorem d_isReady (hR : CR Γ P I q σ κ N D cs) (hA : arcA I q D) (hF : ∀ o : Nat, vO D o → I (q + 4) o = 0 ∨ I (q + 4) o = 1) {o : Nat} (ho : vO D o) (h1 : ¬ blkd (sD D) (I (q + 4)) o → R 1 I) (h0 : blkd (sD D) (I (q + 4)) o → R 0 I) : Cl Γ m_X2_isReady [vR q, vI (o : Int)] P I (ri P R) := by
  have h36 := ho.1
  have e := (hA o ho).1
  have rng : ∀ c : Nat, vO D c → inR (I (q + 4) c) := fun c hc => by
    rcases hF c hc with z | z <;> rw [z]
    · exact ⟨by decide, by decide⟩
    · exact ⟨by decide, by decide⟩
  have tail : (o % 6 ≠ 0 → I (q + 4) (o - 1) ≠ 0) → ((o : Int) < 36) ∧ (inR (I (q + 2) (o : Int).toNat)) ∧ (((I (q + 2) (o : Int).toNat) < 0 → R 1 I) ∧ (¬ (I (q + 2) (o : Int).toNat) < 0 → (0 ≤ (I (q + 2) (o : Int).toNat)) ∧ ((I (q + 2) (o : Int).toNat) < 36) ∧ (inR (I (q + 4) ((I (q + 2) (o : Int).toNat)).toNat)) ∧ (((I (q + 4) ((I (q + 2) (o : Int).toNat)).toNat) = 0 → R 0 I) ∧ (¬ (I (q + 4) ((I (q + 2) (o : Int).toNat)).toNat) = 0 → R 1 I)))) := by
    intro hj
    rw [Int.toNat_natCast, e]
    rcases hR.av o ho with y | ⟨y1, y2, y3, -⟩
    · rw [y]
      refine ⟨by omega, ⟨by decide, by decide⟩, fun _ => h1 ?_, fun z => absurd (by decide) z⟩
      rintro (⟨a, b⟩ | ⟨a, -⟩)
      · exact hj a b
      · exact a y
    · refine ⟨by omega, ⟨by omega, by omega⟩, fun z => by omega, fun _ => ⟨y1, y2, rng _ y3, fun z => h0 (Or.inr ⟨by omega, z⟩), fun z => h1 ?_⟩⟩
      rintro (⟨a, b⟩ | ⟨-, b⟩)
      · exact hj a b
      · exact z b
  refine cl_of n_X2_isReady (Nat.le_of_ble_eq_true rfl) (t_X2_isReady_0 hR.s ⟨⟨by omega, by omega⟩, by omega, ⟨by omega, by omega⟩, fun z => tail (fun y => by omega), fun z => ⟨by omega, by omega, ?_⟩⟩)
  rw [show ((o : Int) - 1).toNat = o - 1 by omega]
  have hp := (vO_pred ho (by omega)).1
  exact ⟨rng _ hp, fun y => h0 (Or.inl ⟨by omega, y⟩), fun y => tail (fun _ => y)⟩
theorem d_earliestStart (hR : CR Γ P I q σ κ N D cs) (hA : arcA I q D) {B : Int} (hB : 1000 ≤ B ∧ B ≤ 100000) (hT : ∀ o : Nat, vO D o → 0 ≤ I (q + 1) o ∧ I (q + 1) o ≤ B) (hq : ∀ o : Nat, vO D o → D (59 + 4 * (o / 6)) ≤ I (q + 1) o) {o : Nat} (ho : vO D o) (h : R (esF D (I (q + 1)) o) I) : Cl Γ m_X2_earliestStart [vR q, vI (o : Int)] P I (ri P R) := by
  have h36 := ho.1
  have e := (hA o ho).1
  have hrel := (hR.sh.2.2.2.2.1 _ ho.2.1).1
  have hj := hR.wr.2.1 (o / 6) (by omega)
  have hmx : ∀ a b : Int, D (59 + 4 * (o / 6)) ≤ a → max (D (59 + 4 * (o / 6))) (max a b) = max a b := fun a b z => by omega
  unfold esF at h
  refine cl_of n_X2_earliestStart (Nat.le_of_ble_eq_true rfl) (t_X2_earliestStart_0 hR.s ⟨⟨by omega, by omega⟩, by omega, by omega, by omega, ?_⟩)
  rw [show ((o : Int) / 6).toNat = o / 6 by omega, hrel, Int.toNat_natCast, e]
  intro u hu
  rw [hu]
  refine ⟨⟨by omega, by omega⟩, fun z => ⟨by omega, by omega, ?_⟩, fun z => ⟨by omega, ?_⟩⟩
  · rw [show ((o : Int) - 1).toNat = o - 1 by omega]
    have hp := (vO_pred ho (by omega)).1
    have hdu := hR.pl.1 _ hp
    have hd := hR.wr.2.2.1 _ hp.1
    have ht := hT _ hp
    have hqp := hq _ hp
    rw [(vO_pred ho (by omega)).2] at hqp
    rw [if_neg (by omega), hmx _ _ (by omega)] at h
    rw [hdu]
    intro u11 h11
    rw [h11]
    rcases hR.av o ho with y | ⟨y1, y2, y3, y4, y5⟩
    · rw [if_pos y] at h
      rw [y]
      exact ⟨by omega, ⟨by decide, by decide⟩, fun x => absurd x (by decide), fun _ => ⟨⟨by omega, by omega⟩, ⟨by omega, by omega⟩, h⟩⟩
    · rw [if_neg (by omega)] at h
      have hl := (hA o ho).2 (by omega)
      have ht2 := hT _ y3
      refine ⟨by omega, ⟨by omega, by omega⟩, fun _ => ⟨y1, y2, ?_⟩, fun x => absurd y1 x⟩
      rw [hl]
      intro u18 h18
      rw [h18]
      exact ⟨⟨by omega, by omega⟩, ⟨by omega, by omega⟩, h⟩
  · rw [if_pos (by omega), hmx _ _ (Int.le_refl _)] at h
    rcases hR.av o ho with y | ⟨y1, y2, y3, y4, y5⟩
    · rw [if_pos y] at h
      rw [y]
      exact ⟨⟨by decide, by decide⟩, fun x => absurd x (by decide), fun _ => ⟨⟨by omega, by omega⟩, h⟩⟩
    · rw [if_neg (by omega)] at h
      have hl := (hA o ho).2 (by omega)
      have ht2 := hT _ y3
      refine ⟨⟨by omega, by omega⟩, fun _ => ⟨y1, y2, ?_⟩, fun x => absurd y1 x⟩
      rw [hl]
      intro u18 h18
      rw [h18]
      exact ⟨⟨by omega, by omega⟩, ⟨by omega, by omega⟩, h⟩
/-- starts and what is settled may differ -/
def stO (q : Nat) (I J : MM) : Prop := ∀ r : Nat, r ≠ q + 1 → r ≠ q + 4 → J r = I r
theorem stO.cr {J : MM} (h : stO q I J) (hR : CR Γ P I q σ κ N D cs) : CR Γ P J q σ κ N D cs := hR.keep (fun r hr => h r (by omega) (by omega))
theorem stO.arc {J : MM} (h : stO q I J) (hA : arcA I q D) : arcA J q D := fun o ho => by
  unfold arcO; rw [h (q + 2) (by omega) (by omega), h (q + 3) (by omega) (by omega)]; exact hA o ho
theorem stO.trans {J K : MM} (h : stO q I J) (k : stO q J K) : stO q I K := fun r a b => (k r a b).trans (h r a b)
/-- an operation beyond those of its job -/
theorem not_vO {j k i : Nat} (hk : ¬ (k : Int) < D (59 + 4 * j + 3)) (hk6 : k + i < 6) : ¬ vO D (6 * j + k + i) := fun h => by
  have h3 := h.2.2
  rw [show (6 * j + k + i) / 6 = j by omega] at h3
  omega
theorem is_vO (hW : WR D) {j k : Nat} (hj : (j : Int) < D 2) (hk : (k : Int) < D (59 + 4 * j + 3)) : vO D (6 * j + k) := by
  have ha := hW.a
  have hjj := hW.2.1 j (by omega)
  refine ⟨by omega, ?_, ?_⟩
  · rw [show (6 * j + k) / 6 = j by omega]; exact hj
  · rw [show (6 * j + k) / 6 = j by omega, show (6 * j + k) % 6 = k by omega]; exact hk
theorem d_unsettleAll (hR : CR Γ P I q σ κ N D cs) (h : ∀ J, stO q I J → SI D (J (q + 1)) (J (q + 4)) 1000 → R (lft D (J (q + 4)) : Int) J) : Cl Γ m_X2_unsettleAll [vR q] P I (ri P R) := by
  have hW := hR.wr
  have ha := hW.a
  have hσ := hR.hσ
  let ok : Nat → MM → Prop := fun p J => stO q I J ∧ ∀ o : Nat, o < p → vO D o → J (q + 4) o = 0 ∧ J (q + 1) o = D (59 + 4 * (o / 6))
  have ex : ∀ (c : Nat) (J : MM), ok 36 J → c = cntF (vB D) 36 → R (c : Int) J := by
    intro c J ⟨h1, h2⟩ hc
    have e : lft D (J (q + 4)) = c := by
      rw [hc]
      refine cnt_cong 36 (fun o ho => ?_)
      unfold nfB
      cases hb : vB D o with
      | false => rfl
      | true => rw [(h2 o ho ((vB_t ho).mp hb)).1]; rfl
    rw [← e]
    refine h J h1 ⟨Int.le_refl _, fun o ho => Or.inl (h2 o ho.1 ho).1, fun o ho => ?_, fun o ho hF => absurd (h2 o ho.1 ho).1 hF, fun T' hT' o ho => ?_, fun _ => ⟨fun _ => 0, 0, fun o ho hF => absurd (h2 o ho.1 ho).1 hF⟩, fun o ho => by rw [(h2 o ho.1 ho).2]; exact Int.le_refl _⟩
    · rw [(h2 o ho.1 ho).2]
      have := hW.2.1 (o / 6) (by have := ho.1; omega)
      omega
    · rw [(h2 o ho.1 ho).2]
      exact hT'.rel hW _ o rfl ho
  have lp20 : ∀ (j : Nat), (j : Int) < D 2 → (∀ (c : Nat) (J : MM), ok (6 * (j + 1)) J → c = cntF (vB D) (6 * (j + 1)) → XM Γ m_X2_unsettleAll 0 0 4 [(0, vR q), (1, vI (c : Int)), (2, vI ((j : Int) + 1))] [] P J (ri P R)) → ∀ (n k c : Nat) (J : MM), (k : Int) + n = D (59 + 4 * j + 3) → ok (6 * j + k) J → c = cntF (vB D) (6 * j + k) → XM Γ m_X2_unsettleAll 0 0 20 [(0, vR q), (1, vI (c : Int)), (2, vI (j : Int)), (3, vI (k : Int))] [] P J (ri P R) := by
    intro j hj hX n
    have hjj := hW.2.1 j (by omega)
    induction n with
    | zero =>
      intro k c J hk hok hc
      have hC := hok.1.cr hR
      refine t_X2_unsettleAll_20 hR.s ⟨by omega, by omega, ⟨by omega, by omega⟩, ?_⟩
      rw [Int.toNat_natCast, hC.sh.ops hj]
      refine ⟨⟨by omega, by omega⟩, fun _ => hX c J ⟨hok.1, fun o ho hv => ?_⟩ ?_, fun z => absurd (by omega) z⟩
      · by_cases e : o < 6 * j + k
        · exact hok.2 o e hv
        · exact absurd hv (by
            have := not_vO (D := D) (j := j) (k := k) (i := o - (6 * j + k)) (by omega) (by omega)
            rwa [show 6 * j + k + (o - (6 * j + k)) = o by omega] at this)
      · rw [hc, show 6 * (j + 1) = 6 * j + k + (6 - k) by omega]
        exact (cnt_skip (6 - k) (fun i hi => vB_f (not_vO (by omega) (by omega)) (by omega))).symm
    | succ n ih =>
      intro k c J hk hok hc
      have hC := hok.1.cr hR
      have hv := is_vO hW hj (k := k) (by omega)
      refine t_X2_unsettleAll_20 hR.s ⟨by omega, by omega, ⟨by omega, by omega⟩, ?_⟩
      rw [Int.toNat_natCast, hC.sh.ops hj]
      refine ⟨⟨by omega, by omega⟩, fun z => absurd z (by omega), fun _ => d_idOf ⟨by omega, by omega, ?_⟩⟩
      intro A hA B hB
      rw [Int.toNat_natCast] at hA hB
      rw [hA, up2_ne (by omega), (hC.sh.2.2.2.2.1 j hj).1] at hB
      have fB : stO q J B := fun r a b => by rw [hB, up2_ne a, up2_ne b]
      have := ih (k + 1) (c + 1) B (by omega) ⟨hok.1.trans fB, fun o ho hvo => ?_⟩ (by rw [show 6 * j + (k + 1) = 6 * j + k + 1 by omega]; simp only [cntF]; rw [← hc, (vB_t hv.1).mpr hv]; rfl)
      · push_cast at this
        exact this
      · by_cases e : o = 6 * j + k
        · rw [e, hB, up2_eq, up2_ne (by omega), up2_eq]
          exact ⟨rfl, by rw [show (6 * j + k) / 6 = j by omega]⟩
        · have e1 : B (q + 4) o = J (q + 4) o := by rw [hB, up2_ne (by omega), up2_nj e]
          have e2 : B (q + 1) o = J (q + 1) o := by rw [hB, up2_nj e, up2_ne (by omega)]
          rw [e1, e2]
          exact hok.2 o (by omega) hvo
  have lp4 : ∀ (n j c : Nat) (J : MM), (j : Int) + n = D 2 → ok (6 * j) J → c = cntF (vB D) (6 * j) → XM Γ m_X2_unsettleAll 0 0 4 [(0, vR q), (1, vI (c : Int)), (2, vI (j : Int))] [] P J (ri P R) := by
    intro n
    induction n with
    | zero =>
      intro j c J hj hok hc
      have hC := hok.1.cr hR
      refine t_X2_unsettleAll_4 hR.s ⟨⟨by omega, by omega⟩, ?_⟩
      rw [hC.sh.2.1]
      have nv : ∀ i, 6 * j ≤ i → i < 36 → ¬ vO D i := fun i h1 _ h2 => by have := h2.2.1; omega
      refine ⟨⟨by omega, by omega⟩, fun _ => ex c J ⟨hok.1, fun o ho hv => ?_⟩ ?_, fun z => absurd (by omega) z⟩
      · by_cases e : o < 6 * j
        · exact hok.2 o e hv
        · exact absurd hv (nv o (by omega) ho)
      · rw [hc, show (36 : Nat) = 6 * j + (36 - 6 * j) by omega]
        exact (cnt_skip (36 - 6 * j) (fun i hi => vB_f (nv _ (by omega) (by omega)) (by omega))).symm
    | succ n ih =>
      intro j c J hj hok hc
      have hC := hok.1.cr hR
      refine t_X2_unsettleAll_4 hR.s ⟨⟨by omega, by omega⟩, ?_⟩
      rw [hC.sh.2.1]
      have hjj := hW.2.1 j (by omega)
      refine ⟨⟨by omega, by omega⟩, fun z => absurd z (by omega), fun _ => ?_⟩
      exact lp20 j (by omega) (fun c2 J2 a b => ih (j + 1) c2 J2 (by omega) a b) (D (59 + 4 * j + 3)).toNat 0 c J (by omega) hok hc
  refine cl_of n_X2_unsettleAll (Nat.le_of_ble_eq_true rfl) (t_X2_unsettleAll_0 hR.s ?_)
  exact lp4 (D 2).toNat 0 0 I (by omega) ⟨fun _ _ _ => rfl, fun o ho => absurd ho (Nat.not_lt_zero _)⟩ rfl
end M2
