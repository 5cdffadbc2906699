/-! THE STARTS: the least numbers that keep all arcs; the reference's raises and findStarts -/
def baseA (D T : Nat → Int) (o : Nat) : Int := if o % 6 = 0 then D (59 + 4 * (o / 6)) else T (o - 1) + D (83 + 2 * (o - 1) + 1)
def needA (D s l T : Nat → Int) (o : Nat) : Int := if s o = -1 then baseA D T o else max (baseA D T o) (T (s o).toNat + l o)
def Sol (D s l T : Nat → Int) : Prop := ∀ o : Nat, vO D o → needA D s l T o ≤ T o
/-- starts that are no overflow -/
def TB (T : Nat → Int) : Prop := ∀ o : Nat, o < 36 → 0 ≤ T o ∧ T o ≤ 1000000
/-- T are the starts -/
def IsS (D s l T : Nat → Int) : Prop := Sol D s l T ∧ ∀ T' : Nat → Int, Sol D s l T' → ∀ o : Nat, vO D o → T o ≤ T' o
/-- where arcs come from -/
def ArcR (D s l : Nat → Int) : Prop := ∀ o : Nat, o < 36 → s o = -1 ∨ (0 ≤ s o ∧ s o < 36 ∧ vO D (s o).toNat ∧ 0 ≤ l o ∧ l o ≤ 198)
theorem vO_succ {D : Nat → Int} (hW : WR D) {a : Nat} (h : vO D a) (hl : ¬ lastO D a) : vO D (a + 1) ∧ (a + 1) / 6 = a / 6 := by
  obtain ⟨h1, h2, h3⟩ := h
  have hj := hW.2.1 (a / 6) (by omega)
  unfold lastO at hl
  have e : (a + 1) / 6 = a / 6 := by omega
  refine ⟨⟨by have := hW.a; omega, by rw [e]; exact h2, ?_⟩, e⟩
  rw [e]
  omega
theorem vO_pred {D : Nat → Int} {o : Nat} (h : vO D o) (h0 : o % 6 ≠ 0) : vO D (o - 1) ∧ (o - 1) / 6 = o / 6 := by
  obtain ⟨h1, h2, h3⟩ := h
  have e : (o - 1) / 6 = o / 6 := by omega
  refine ⟨⟨by omega, by rw [e]; exact h2, ?_⟩, e⟩
  rw [e]
  omega
theorem AR.rng {D s l : Nat → Int} (hW : WR D) (hO : WO D) (h : AR D s l) : ArcR D s l := by
  intro o ho
  by_cases hx : ∃ m k : Nat, (m : Int) < D 0 ∧ 1 ≤ k ∧ (k : Int) < D (5 + 9 * m + 2) ∧ oN D m k = o
  · obtain ⟨m, k, h1, h2, h3, rfl⟩ := hx
    obtain ⟨e1, e2⟩ := h.1 m k h1 h2 h3
    have hm := hW.2.2.2 m (by have := hW.a; omega)
    obtain ⟨hv, -⟩ := hO.1 m (k - 1) h1 (by omega)
    right
    rw [e1, e2]
    unfold srcv lngv
    cases hB : blB D (oN D m (k - 1)) with
    | true =>
      have hs := (vO_succ hW hv (blB_t.mp hB).2).1
      have e3 : ((oN D m (k - 1) : Int) + 1).toNat = oN D m (k - 1) + 1 := by omega
      simp only [cond_true]
      rw [e3]
      exact ⟨by omega, by have := hs.1; omega, hs, by omega, by omega⟩
    | false =>
      have hd := hW.2.2.1 (oN D m (k - 1)) hv.1
      simp only [cond_false]
      rw [Int.toNat_natCast]
      exact ⟨by omega, by have := hv.1; omega, hv, by omega, by omega⟩
  · exact Or.inl (h.2 o ho (fun m k h1 h2 h3 h4 => hx ⟨m, k, h1, h2, h3, h4⟩))
theorem baseA_mono {D T T' : Nat → Int} {o : Nat} (ho : vO D o) (h : ∀ c : Nat, vO D c → T c ≤ T' c) : baseA D T o ≤ baseA D T' o := by
  unfold baseA
  by_cases h0 : o % 6 = 0
  · simp [h0]
  · have := h (o - 1) (vO_pred ho h0).1
    simp only [h0, if_false]
    omega
theorem needA_mono {D s l T T' : Nat → Int} (hA : ArcR D s l) {o : Nat} (ho : vO D o) (h : ∀ c : Nat, vO D c → T c ≤ T' c) : needA D s l T o ≤ needA D s l T' o := by
  have hb := baseA_mono ho h
  unfold needA
  rcases hA o ho.1 with q | ⟨-, -, q, -⟩
  · simp [q, hb]
  · by_cases h1 : s o = -1
    · simp [h1, hb]
    · have := h _ q
      simp only [h1, if_false]
      omega
theorem baseA_le {D s l T : Nat → Int} {o : Nat} : baseA D T o ≤ needA D s l T o := by
  unfold needA
  by_cases h1 : s o = -1
  · simp [h1]
  · simp only [h1, if_false]; omega
theorem Sol.nonneg {D s l T : Nat → Int} (hW : WR D) (h : Sol D s l T) : ∀ (n o : Nat), o % 6 = n → vO D o → 0 ≤ T o := by
  intro n
  induction n with
  | zero =>
    intro o hn ho
    have h1 := h o ho
    have h2 : baseA D T o ≤ needA D s l T o := baseA_le
    have hj := hW.2.1 (o / 6) (by have := ho.1; omega)
    unfold baseA at h2
    rw [if_pos hn] at h2
    omega
  | succ n ih =>
    intro o hn ho
    have h1 := h o ho
    have h2 : baseA D T o ≤ needA D s l T o := baseA_le
    obtain ⟨hp, -⟩ := vO_pred ho (by omega)
    have h3 := ih (o - 1) (by omega) hp
    have hd := hW.2.2.1 (o - 1) hp.1
    unfold baseA at h2
    rw [if_neg (by omega)] at h2
    omega
/-! counting -/
def cntF (p : Nat → Bool) : Nat → Nat
  | 0 => 0
  | n + 1 => cntF p n + (if p n then 1 else 0)
theorem cnt_le (p : Nat → Bool) : ∀ n, cntF p n ≤ n
  | 0 => Nat.le_refl _
  | n + 1 => by
    have := cnt_le p n
    simp only [cntF]
    split <;> omega
theorem cnt_mono {p q : Nat → Bool} : ∀ n, (∀ o, o < n → p o = true → q o = true) → cntF p n ≤ cntF q n
  | 0, _ => Nat.le_refl _
  | n + 1, h => by
    have h1 := cnt_mono n (fun o ho => h o (by omega))
    have h2 := h n (by omega)
    simp only [cntF]
    cases hp : p n with
    | false => simp; omega
    | true => rw [h2 hp]; simp; omega
theorem cnt_lt {p q : Nat → Bool} : ∀ n, (∀ o, o < n → p o = true → q o = true) → (∃ o, o < n ∧ p o = false ∧ q o = true) → cntF p n < cntF q n
  | 0, _, ⟨o, ho, _⟩ => absurd ho (Nat.not_lt_zero _)
  | n + 1, h, ⟨o, ho, hp, hq⟩ => by
    simp only [cntF]
    by_cases e : o = n
    · subst e
      have h1 := cnt_mono o (fun x hx => h x (by omega))
      rw [hp, hq]; simp; omega
    · have h1 := cnt_lt n (fun x hx => h x (by omega)) ⟨o, by omega, hp, hq⟩
      have h2 := h n (by omega)
      cases hpn : p n with
      | false => simp; omega
      | true => rw [h2 hpn]; simp; omega
def vB (D : Nat → Int) (o : Nat) : Bool := decide (((o / 6 : Nat) : Int) < D 2) && decide (((o % 6 : Nat) : Int) < D (59 + 4 * (o / 6) + 3))
theorem vB_t {D : Nat → Int} {o : Nat} (ho : o < 36) : vB D o = true ↔ vO D o := by
  simp [vB, vO, ho]
/-- settled -/
def stB (D S T : Nat → Int) (o : Nat) : Bool := !(vB D o) || (S o == T o)
theorem stB_t {D S T : Nat → Int} {o : Nat} (ho : o < 36) : stB D S T o = true ↔ (vO D o → S o = T o) := by
  unfold stB
  rw [← vB_t ho]
  cases vB D o <;> simp
theorem stB_f {D S T : Nat → Int} {o : Nat} (ho : o < 36) : stB D S T o = false ↔ (vO D o ∧ S o ≠ T o) := by
  unfold stB
  rw [← vB_t ho]
  cases vB D o <;> simp
/-- a round that starts with S, ends with S', has raised something: one more is settled -/
theorem settle_more {D s l T S S' : Nat → Int} (hA : ArcR D s l) (hT : IsS D s l T) (hm : ∀ o, vO D o → S o ≤ S' o) (hle : ∀ o, vO D o → S' o ≤ T o) (hn : ∀ o, vO D o → needA D s l S o ≤ S' o) (hr : ∃ o, vO D o ∧ S o < S' o) :
    cntF (stB D S T) 36 < cntF (stB D S' T) 36 := by
  refine cnt_lt 36 (fun o ho hp => ?_) ?_
  · rw [stB_t ho] at hp ⊢
    intro hv
    have := hp hv; have := hm o hv; have := hle o hv
    omega
  · refine Classical.byContradiction fun hno => ?_
    have hall : ∀ o, vO D o → S' o = T o → S o = T o := by
      intro o hv he
      refine Classical.byContradiction fun hne => hno ⟨o, hv.1, (stB_f hv.1).mpr ⟨hv, hne⟩, (stB_t hv.1).mpr (fun _ => he)⟩
    obtain ⟨o, hv, hlt⟩ := hr
    have hU : S' o ≠ T o := fun he => by have := hall o hv he; omega
    have h2 := hle o hv
    -- one less, where nothing is settled, keeps the arcs too
    have hsol : Sol D s l (fun c => if S' c < T c then T c - 1 else T c) := by
      intro c hc
      have hmono : ∀ x, vO D x → (if S' x < T x then T x - 1 else T x) ≤ T x := fun x _ => by split <;> omega
      have hneed : needA D s l (fun c => if S' c < T c then T c - 1 else T c) c ≤ needA D s l T c := needA_mono hA hc hmono
      have hTc := hT.1 c hc
      by_cases hcu : S' c < T c
      · simp only [hcu, if_true]
        have h4 := hn c hc
        have key : ∀ x, vO D x → (if S' x < T x then T x - 1 else T x) = T x - 1 ∨ S x = T x ∧ (if S' x < T x then T x - 1 else T x) = T x := by
          intro x hx
          by_cases hxu : S' x < T x
          · left; simp [hxu]
          · right
            have hxe : S' x = T x := by have := hle x hx; omega
            exact ⟨hall x hx hxe, by simp [hxu]⟩
        have hbase : baseA D (fun c => if S' c < T c then T c - 1 else T c) c ≤ T c - 1 := by
          have hb1 : baseA D S c ≤ needA D s l S c := baseA_le
          have hb2 : baseA D T c ≤ needA D s l T c := baseA_le
          unfold baseA at hb1 hb2 ⊢
          by_cases h0 : c % 6 = 0
          · simp only [h0, if_true] at hb1 hb2 ⊢; omega
          · simp only [h0, if_false] at hb1 hb2 ⊢
            rcases key (c - 1) (vO_pred hc h0).1 with q | ⟨q1, q2⟩
            · rw [q]; omega
            · rw [q2]; omega
        unfold needA at h4 hTc ⊢
        by_cases h1 : s c = -1
        · simp only [h1, if_true]; exact hbase
        · simp only [h1, if_false] at h4 hTc ⊢
          rcases hA c hc.1 with q | ⟨-, -, q, -⟩
          · exact absurd q h1
          · rcases key _ q with z | ⟨z1, z2⟩
            · rw [z]; omega
            · rw [z2]; omega
      · simp only [hcu, if_false]; omega
    have := hT.2 _ hsol o hv
    have hlt2 : S' o < T o := by omega
    simp only [hlt2, if_true] at this
    omega
section M1
variable {Γ : GG} {P : MP} {I : MM} {R : Int → MM → Prop} {Rv : MM → Prop}
theorem c_raises (hM : LM Γ P) (hW : WR (I 3)) (hA : ArcR (I 3) (I 7) (I 8)) (hb : ∀ c : Nat, c < 36 → 0 ≤ I 9 c ∧ I 9 c ≤ 1000000) {o : Nat} (ho : vO (I 3) o) (h0 : needA (I 3) (I 7) (I 8) (I 9) o ≤ I 9 o → R 0 I) (h1 : I 9 o < needA (I 3) (I 7) (I 8) (I 9) o → R 1 (up2 I 9 o (needA (I 3) (I 7) (I 8) (I 9) o))) : Cl Γ m_X6_raises [vR 1, vI (o : Int)] P I (ri P R) := by
  have ho36 := ho.1
  have hbo := hb o ho36
  have hj := hW.2.1 (o / 6) (by omega)
  have hAo := hA o ho36
  -- what follows when the base is known
  have tail : ∀ u : Int, u = baseA (I 3) (I 9) o → 0 ≤ u → u ≤ 1000999 → (((o : Int) < 36) ∧ (inR (I 7 o)) ∧ (((I 7 o) = (-1) → (inR u) ∧ (inR (I 9 o)) ∧ (((I 9 o) < u → (∀ I19 : MM, I19 = up2 I 9 o u → R 1 I19)) ∧ (¬ (I 9 o) < u → R 0 I))) ∧ (¬ (I 7 o) = (-1) → (0 ≤ (I 7 o)) ∧ ((I 7 o) < 36) ∧ (Cl Γ m_X6_max [vI u, vI ((I 9 (I 7 o).toNat) + (I 8 o))] P I (ri P (fun (z22 : Int) (I23 : MM) => (inR z22) ∧ (inR (I23 9 o)) ∧ (((I23 9 o) < z22 → (∀ I28 : MM, I28 = up2 I23 9 o z22 → R 1 I28)) ∧ (¬ (I23 9 o) < z22 → R 0 I23)))))))) := by
    intro u hu hu0 hu1
    refine ⟨by omega, ⟨by omega, by omega⟩, fun q => ⟨⟨by omega, by omega⟩, ⟨by omega, by omega⟩, fun q2 => ?_, fun q2 => h0 ?_⟩, fun q => ?_⟩
    · rintro _ rfl
      have e : needA (I 3) (I 7) (I 8) (I 9) o = u := by unfold needA; rw [if_pos q, hu]
      rw [e] at h1
      exact h1 q2
    · unfold needA; rw [if_pos q, ← hu]; omega
    · rcases hAo with q2 | ⟨a1, a2, a3, a4, a5⟩
      · exact absurd q2 q
      · have hc := hb (I 7 o).toNat (by omega)
        have e : needA (I 3) (I 7) (I 8) (I 9) o = max u (I 9 (I 7 o).toNat + I 8 o) := by unfold needA; rw [if_neg q, hu]
        refine ⟨a1, a2, c_max ⟨by omega, by omega⟩ ⟨by omega, by omega⟩ ⟨⟨by omega, by omega⟩, ⟨by omega, by omega⟩, fun q2 => ?_, fun q2 => h0 (by rw [e]; omega)⟩⟩
        rintro _ rfl
        rw [e] at h1
        exact h1 q2
  have e7 : (o : Int).toNat = o := Int.toNat_natCast o
  refine cl_of n_X6_raises (Nat.le_of_ble_eq_true rfl) (t_X6_raises_0 hM ⟨⟨by omega, by omega⟩, by omega, ⟨by omega, by omega⟩, fun q => ?_, fun q => ?_⟩)
  · have hq : o % 6 ≠ 0 := by omega
    have hp := (vO_pred ho hq).1
    have hd := hW.2.2.1 (o - 1) (by omega)
    have hbp := hb (o - 1) (by omega)
    refine ⟨by omega, by omega, ?_⟩
    rw [show (o : Int) - 1 = ((o - 1 : Nat) : Int) by omega]
    refine c_durationOf hM (by omega) ?_
    rintro _ rfl
    rw [e7, Int.toNat_natCast]
    exact tail _ (by unfold baseA; rw [if_neg hq]) (by omega) (by omega)
  · have hq : o % 6 = 0 := by omega
    refine c_job ⟨by omega, by omega, ?_⟩
    rintro _ rfl
    rw [show (59 + 4 * ((o : Int) / 6)).toNat = 59 + 4 * (o / 6) by omega, e7]
    exact tail _ (by unfold baseA; rw [if_pos hq]) (by omega) (by omega)
/-- but for the starts, nothing changes -/
def stOnly (I J : MM) : Prop := ∀ q : Nat, q ≠ 9 → J q = I q
/-- within a round: i operations are looked at, f tells whether one was raised -/
def RI (I : MM) (S0 : Nat → Int) (r i : Nat) (f : Int) (J : MM) : Prop :=
  stOnly I J ∧ (∀ o : Nat, o < 36 → 0 ≤ J 9 o ∧ J 9 o ≤ 999 + 198 * (36 * (r : Int) + (i : Int))) ∧
  (∀ T, Sol (I 3) (I 7) (I 8) T → ∀ o : Nat, vO (I 3) o → J 9 o ≤ T o) ∧ (∀ o : Nat, S0 o ≤ J 9 o) ∧
  (∀ o : Nat, o < i → vO (I 3) o → needA (I 3) (I 7) (I 8) S0 o ≤ J 9 o) ∧ (f = 0 ∨ f = 1) ∧ (f = 0 → J 9 = S0) ∧ (f ≠ 0 → ∃ o : Nat, vO (I 3) o ∧ S0 o < J 9 o)
/-- at the start of a round -/
def RS (I : MM) (r : Nat) (J : MM) : Prop :=
  stOnly I J ∧ (∀ o : Nat, o < 36 → 0 ≤ J 9 o ∧ J 9 o ≤ 999 + 198 * (36 * (r : Int))) ∧ (∀ T, Sol (I 3) (I 7) (I 8) T → ∀ o : Nat, vO (I 3) o → J 9 o ≤ T o) ∧
  (∀ T, IsS (I 3) (I 7) (I 8) T → r ≤ cntF (stB (I 3) (J 9) T) 36)
theorem findStarts_37 (hM : LM Γ P) (hW : WR (I 3)) (hA : ArcR (I 3) (I 7) (I 8)) {r : Nat} (hr : r ≤ 36) {J0 : MM} (hJ0 : RS I r J0)
    (hK : ∀ J, RS I (r + 1) J → XM Γ m_X6_findStarts 0 0 27 [(0, vR 1), (1, vI ((r + 1 : Nat) : Int))] [] P J (ri P R))
    (hF : ∀ J, stOnly I J → IsS (I 3) (I 7) (I 8) (J 9) → TB (J 9) → R 1 J) :
    ∀ (n i : Nat) (f : Int) (J : MM), i + n = 36 → RI I (J0 9) r i f J → XM Γ m_X6_findStarts 0 0 37 [(0, vR 1), (1, vI (r : Int)), (2, vI f), (3, vI (i : Int))] [] P J (ri P R) := by
  intro n
  induction n with
  | zero =>
    intro i f J hi hJ
    have hi2 : i = 36 := by omega
    subst hi2
    obtain ⟨j1, j2, j3, j4, j5, j6, j7, j8⟩ := hJ
    have h6 : inR f := by rcases j6 with rfl | rfl <;> exact ⟨by decide, by decide⟩
    refine t_X6_findStarts_37 hM ⟨⟨by omega, by omega⟩, fun _ => ⟨h6, fun q => hK J ⟨j1, fun o ho => ?_, j3, fun T hT => ?_⟩, fun q => hF J j1 ⟨fun o ho => ?_, fun T' hT' o ho => j3 T' hT' o ho⟩ (fun o ho => by have := j2 o ho; omega)⟩, fun q => absurd (by omega) q⟩
    · have := j2 o ho
      refine ⟨this.1, ?_⟩
      have h2 := this.2
      push_cast at h2 ⊢
      omega
    · have h1 := hJ0.2.2.2 T hT
      have h2 := settle_more hA hT (fun o _ => j4 o) (fun o ho => j3 T hT.1 o ho) (fun o ho => j5 o ho.1 ho) (j8 q)
      omega
    · have h1 := j5 o ho.1 ho
      rw [← j7 q] at h1
      exact h1
  | succ n ih =>
    intro i f J hi hJ
    obtain ⟨j1, j2, j3, j4, j5, j6, j7, j8⟩ := hJ
    have hJ3 : J 3 = I 3 := j1 3 (by decide)
    have hJ7 : J 7 = I 7 := j1 7 (by decide)
    have hJ8 : J 8 = I 8 := j1 8 (by decide)
    have hbd : ∀ c : Nat, c < 36 → 0 ≤ J 9 c ∧ J 9 c ≤ 1000000 := fun c hc => by
      have := j2 c hc
      omega
    have keep : ∀ o : Nat, o < 36 → 0 ≤ J 9 o ∧ J 9 o ≤ 999 + 198 * (36 * (r : Int) + ((i + 1 : Nat) : Int)) := fun o ho => by
      have := j2 o ho
      push_cast
      omega
    refine t_X6_findStarts_37 hM ⟨⟨by omega, by omega⟩, fun q => absurd q (by omega), fun _ => c_isThere hM (by rw [hJ3]; exact hW) (by omega) (fun hv => ?_) (fun hv => ?_)⟩
    · rw [hJ3] at hv
      refine ⟨⟨by omega, by omega⟩, fun z => absurd z (by omega), fun _ => c_raises hM (by rw [hJ3]; exact hW) (by rw [hJ3, hJ7, hJ8]; exact hA) hbd (by rw [hJ3]; exact hv) (fun hle => ?_) (fun hgt => ?_)⟩
      · rw [hJ3, hJ7, hJ8] at hle
        refine ⟨⟨by omega, by omega⟩, fun _ => ih (i + 1) f J (by omega) ⟨j1, keep, j3, j4, fun o ho hvo => ?_, j6, j7, j8⟩, fun z => absurd rfl z⟩
        by_cases e : o = i
        · subst e
          have := needA_mono (T := J0 9) (T' := J 9) hA hvo (fun c _ => j4 c)
          omega
        · exact j5 o (by omega) hvo
      · rw [hJ3, hJ7, hJ8] at hgt ⊢
        refine ⟨⟨by omega, by omega⟩, fun z => absurd z (by omega), fun _ => ?_⟩
        generalize hnd : needA (I 3) (I 7) (I 8) (J 9) i = nd at hgt
        have hnd2 : nd ≤ 999 + 198 * (36 * (r : Int) + ((i + 1 : Nat) : Int)) := by
          rw [← hnd]
          have hj := hW.2.1 (i / 6) (by omega)
          have hbase : baseA (I 3) (J 9) i ≤ 999 + 198 * (36 * (r : Int) + ((i + 1 : Nat) : Int)) := by
            unfold baseA
            by_cases h0 : i % 6 = 0
            · rw [if_pos h0]; push_cast; omega
            · rw [if_neg h0]
              have := j2 (i - 1) (by omega)
              have := hW.2.2.1 (i - 1) (by omega)
              push_cast
              omega
          unfold needA
          rcases hA i (by omega) with q | ⟨a1, a2, a3, a4, a5⟩
          · rw [if_pos q]; exact hbase
          · by_cases h1 : I 7 i = -1
            · rw [if_pos h1]; exact hbase
            · rw [if_neg h1]
              have := j2 (I 7 i).toNat (by omega)
              push_cast at hbase ⊢
              omega
        have e9 : (up2 J 9 i nd) 9 = fun c => if c = i then nd else J 9 c := by funext c; simp [up2]
        refine ih (i + 1) 1 _ (by omega) ⟨fun q hq => by rw [up2_ne hq]; exact j1 q hq, fun o ho => ?_, fun T hT o ho => ?_, fun o => ?_, fun o ho hvo => ?_, Or.inr rfl, fun z => absurd z (by omega), fun _ => ⟨i, hv, ?_⟩⟩
        · rw [e9]
          have := keep o ho
          have := j2 i (by omega)
          by_cases e : o = i
          · simp only [e, if_true]; exact ⟨by omega, hnd2⟩
          · simp only [e, if_false]; exact keep o ho
        · rw [e9]
          by_cases e : o = i
          · simp only [e, if_true]
            have h1 := needA_mono (T := J 9) (T' := T) hA hv (fun c hc => j3 T hT c hc)
            have h2 := hT i hv
            omega
          · simp only [e, if_false]; exact j3 T hT o ho
        · rw [e9]
          have := j4 o
          by_cases e : o = i
          · simp only [e, if_true]; rw [e] at this; omega
          · simp only [e, if_false]; exact this
        · rw [e9]
          by_cases e : o = i
          · simp only [e, if_true]
            have h1 := needA_mono (T := J0 9) (T' := J 9) hA hv (fun c _ => j4 c)
            omega
          · simp only [e, if_false]; exact j5 o (by omega) hvo
        · rw [e9]
          have := j4 i
          simp only [if_true]
          omega
    · rw [hJ3] at hv
      refine ⟨⟨by omega, by omega⟩, fun _ => ih (i + 1) f J (by omega) ⟨j1, keep, j3, j4, fun o ho hvo => ?_, j6, j7, j8⟩, fun z => absurd rfl z⟩
      by_cases e : o = i
      · subst e; exact absurd hvo hv
      · exact j5 o (by omega) hvo
theorem findStarts_27 (hM : LM Γ P) (hW : WR (I 3)) (hA : ArcR (I 3) (I 7) (I 8))
    (hF : ∀ J, stOnly I J → IsS (I 3) (I 7) (I 8) (J 9) → TB (J 9) → R 1 J) (hN : ∀ J, stOnly I J → (¬ ∃ T, IsS (I 3) (I 7) (I 8) T) → R 0 J) :
    ∀ (n r : Nat) (J : MM), r + n = 37 → RS I r J → XM Γ m_X6_findStarts 0 0 27 [(0, vR 1), (1, vI (r : Int))] [] P J (ri P R) := by
  intro n
  induction n with
  | zero =>
    intro r J hr hJ
    refine t_X6_findStarts_27 hM ⟨⟨by omega, by omega⟩, fun _ => hN J hJ.1 ?_, fun q => absurd (by omega) q⟩
    rintro ⟨T, hT⟩
    have h1 := hJ.2.2.2 T hT
    have h2 := cnt_le (stB (I 3) (J 9) T) 36
    omega
  | succ n ih =>
    intro r J hr hJ
    refine t_X6_findStarts_27 hM ⟨⟨by omega, by omega⟩, fun q => absurd q (by omega), fun _ => ?_⟩
    refine findStarts_37 hM hW hA (by omega) hJ (fun J1 h1 => ih (r + 1) J1 (by omega) h1) hF 36 0 0 J (by omega) ⟨hJ.1, fun o ho => ?_, hJ.2.2.1, fun _ => Int.le_refl _, fun o ho => absurd ho (Nat.not_lt_zero _), Or.inl rfl, fun _ => rfl, fun z => absurd rfl z⟩
    have := hJ.2.1 o ho
    push_cast
    omega
/-- but for arcs and starts, nothing changes -/
def asOnly (I J : MM) : Prop := ∀ q : Nat, q ≠ 7 → q ≠ 8 → q ≠ 9 → J q = I q
theorem c_findStarts (hM : LM Γ P) (hW : WR (I 3)) (hO : WO (I 3))
    (hF : ∀ J, asOnly I J → AR (I 3) (J 7) (J 8) → IsS (I 3) (J 7) (J 8) (J 9) → TB (J 9) → R 1 J) (hN : ∀ J, asOnly I J → AR (I 3) (J 7) (J 8) → (¬ ∃ T, IsS (I 3) (J 7) (J 8) T) → R 0 J) : Cl Γ m_X6_findStarts [vR 1] P I (ri P R) := by
  refine cl_of n_X6_findStarts (Nat.le_of_ble_eq_true rfl) (t_X6_findStarts_0 hM (c_layArcs hM hW hO (fun A hA1 hA2 => ?_)))
  have hA3 : A 3 = I 3 := hA1 3 (by decide) (by decide)
  have hrng : ArcR (A 3) (A 7) (A 8) := by rw [hA3]; exact hA2.rng hW hO
  have hWA : WR (A 3) := by rw [hA3]; exact hW
  have done : ∀ J, stOnly A J → asOnly I J ∧ J 7 = A 7 ∧ J 8 = A 8 := fun J hJ => ⟨fun q h7 h8 h9 => by rw [hJ q h9]; exact hA1 q h7 h8, hJ 7 (by decide), hJ 8 (by decide)⟩
  have key : ∀ (n k : Nat) (J : MM), k + n = 36 → stOnly A J → (∀ o : Nat, o < k → J 9 o = 0) → XM Γ m_X6_findStarts 0 0 6 [(0, vR 1), (1, vI (k : Int))] [] P J (ri P R) := by
    intro n
    induction n with
    | zero =>
      intro k J hk hJ hS
      have hk2 : k = 36 := by omega
      subst hk2
      refine t_X6_findStarts_6 hM ⟨⟨by omega, by omega⟩, fun _ => ?_, fun q => absurd (by omega) q⟩
      refine findStarts_27 (I := A) hM hWA hrng (fun J1 h1 h2 h3 => ?_) (fun J1 h1 h2 => ?_) 37 0 J (by omega) ⟨hJ, fun o ho => ?_, fun T hT o ho => ?_, fun T hT => Nat.zero_le _⟩
      · obtain ⟨d1, d2, d3⟩ := done J1 h1
        exact hF J1 d1 (by rw [d2, d3]; exact hA2) (by rw [d2, d3, ← hA3]; exact h2) h3
      · obtain ⟨d1, d2, d3⟩ := done J1 h1
        exact hN J1 d1 (by rw [d2, d3]; exact hA2) (by rw [d2, d3, ← hA3]; exact h2)
      · rw [hS o ho]; exact ⟨by omega, by omega⟩
      · rw [hS o ho.1]; exact hT.nonneg hWA _ o rfl ho
    | succ n ih =>
      intro k J hk hJ hS
      refine t_X6_findStarts_6 hM ⟨⟨by omega, by omega⟩, fun q => absurd q (by omega), fun _ => ⟨by omega, by omega, ?_⟩⟩
      rintro _ rfl
      rw [Int.toNat_natCast]
      refine ih (k + 1) _ (by omega) (fun q h9 => ?_) (fun o ho => ?_)
      · rw [up2_ne h9]; exact hJ q h9
      · by_cases e : o = k
        · subst e; exact up2_eq
        · rw [up2_nj e]; exact hS o (by omega)
  exact key 36 0 A (by omega) (fun _ _ => rfl) (fun o ho => absurd ho (Nat.not_lt_zero _))
end M1
