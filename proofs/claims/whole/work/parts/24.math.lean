/-! THE ARCS OF THE DATA, as functions of it; deadlocks; the starts -/
def fnd (f : Nat → Nat) (o : Nat) : Nat → Nat → Nat
  | 0, k => k
  | n + 1, k => if f k = o then k else fnd f o n (k + 1)
theorem fnd_at {f : Nat → Nat} {o k0 : Nat} (h : f k0 = o) : ∀ (n k : Nat), (∀ k', k ≤ k' → k' < k0 → f k' ≠ o) → k ≤ k0 → k0 ≤ k + n → fnd f o n k = k0
  | 0, k, _, h1, h2 => by simp only [fnd]; omega
  | n + 1, k, hn, h1, h2 => by
    unfold fnd
    by_cases e : k = k0
    · subst e; rw [if_pos h]
    · rw [if_neg (hn k (Nat.le_refl _) (by omega))]
      exact fnd_at h n (k + 1) (fun k' a b => hn k' (by omega) b) (by omega) (by omega)
/-- the place of an operation on its machine -/
def plD (D : Nat → Int) (o : Nat) : Nat := fnd (oN D (mcO D o)) o 6 0
theorem plD_oN {D : Nat → Int} (hW : WR D) (hO : WO D) {m k : Nat} (hm : (m : Int) < D 0) (hk : (k : Int) < D (5 + 9 * m + 2)) : plD D (oN D m k) = k := by
  have ha := hW.a
  have hmm := hW.2.2.2 m (by omega)
  have e := (hO.1 m k hm hk).2
  unfold plD
  rw [e]
  refine fnd_at rfl 6 0 (fun k' _ h h2 => ?_) (Nat.zero_le _) (by omega)
  have := hO.2.1 m k' k hm (by omega) hk h2
  omega
theorem plD_at {D : Nat → Int} (hW : WR D) (hO : WO D) {o : Nat} (ho : vO D o) : (mcO D o : Int) < D 0 ∧ (plD D o : Int) < D (5 + 9 * mcO D o + 2) ∧ oN D (mcO D o) (plD D o) = o := by
  obtain ⟨h1, k, h2, h3⟩ := hO.2.2 o ho
  have := plD_oN hW hO h1 h2
  rw [h3] at this
  rw [this]
  exact ⟨h1, h2, h3⟩
def sD (D : Nat → Int) (o : Nat) : Int := if plD D o = 0 then -1 else srcv D (mcO D o) (plD D o)
def lD (D : Nat → Int) (o : Nat) : Int := lngv D (mcO D o) (plD D o)
/-- the same arcs -/
def sameA (D S L S' L' : Nat → Int) : Prop := ∀ o : Nat, vO D o → S o = S' o ∧ (S o ≠ -1 → L o = L' o)
theorem sameA.symm {D S L S' L' : Nat → Int} (h : sameA D S L S' L') : sameA D S' L' S L := fun o ho => ⟨(h o ho).1.symm, fun q => ((h o ho).2 (by rw [(h o ho).1]; exact q)).symm⟩
theorem AR.can {D S L : Nat → Int} (hW : WR D) (hO : WO D) (h : AR D S L) : sameA D S L (sD D) (lD D) := by
  intro o ho
  obtain ⟨h1, h2, h3⟩ := plD_at hW hO ho
  by_cases hp : plD D o = 0
  · have e : S o = -1 := by
      refine h.2 o ho.1 (fun m k a b c d => ?_)
      have := plD_oN hW hO a c
      rw [d] at this
      omega
    refine ⟨by unfold sD; rw [if_pos hp]; exact e, fun q => absurd e q⟩
  · obtain ⟨e1, e2⟩ := h.1 _ _ h1 (by omega) h2
    rw [h3] at e1 e2
    exact ⟨by unfold sD; rw [if_neg hp]; exact e1, fun _ => e2⟩
theorem needA_same {D S L S' L' T : Nat → Int} (h : sameA D S L S' L') {o : Nat} (ho : vO D o) : needA D S L T o = needA D S' L' T o := by
  obtain ⟨h1, h2⟩ := h o ho
  unfold needA
  by_cases e : S o = -1
  · rw [if_pos e, if_pos (by rw [← h1]; exact e)]
  · rw [if_neg e, if_neg (by rw [← h1]; exact e), h1, h2 e]
theorem Sol.same {D S L S' L' T : Nat → Int} (h : sameA D S L S' L') (hs : Sol D S L T) : Sol D S' L' T := fun o ho => by rw [← needA_same h ho]; exact hs o ho
theorem IsS.same {D S L S' L' T : Nat → Int} (h : sameA D S L S' L') (hs : IsS D S L T) : IsS D S' L' T := ⟨hs.1.same h, fun T' h' o ho => hs.2 T' (h'.same h.symm) o ho⟩
theorem Acy.same {D S L S' L' : Nat → Int} (h : sameA D S L S' L') (hs : Acy D S) : Acy D S' := by
  obtain ⟨rk, hr⟩ := hs
  refine ⟨rk, fun o ho => ⟨(hr o ho).1, fun q => ?_⟩⟩
  rw [← (h o ho).1] at q ⊢
  exact (hr o ho).2 q
/-- T are the starts of the data -/
def Stt (D T : Nat → Int) : Prop := IsS D (sD D) (lD D) T
theorem Stt.uniq {D T T' : Nat → Int} (h : Stt D T) (h' : Stt D T') : ∀ o : Nat, vO D o → T o = T' o := fun o ho => by
  have h1 := h.2 T' h'.1 o ho
  have h2 := h'.2 T h.1 o ho
  omega
noncomputable def TD (D : Nat → Int) : Nat → Int := Classical.epsilon (Stt D)
theorem TD_spec {D : Nat → Int} (h : ∃ T, Stt D T) : Stt D (TD D) := Classical.epsilon_spec h
theorem Stt.td {D T : Nat → Int} (h : Stt D T) : ∀ o : Nat, vO D o → T o = TD D o := h.uniq (TD_spec ⟨T, h⟩)
/-- the plan has starts, and is not deadlocked -/
def Fr (D : Nat → Int) : Prop := (∃ T, Stt D T) ∧ (D 1 = 0 → Acy D (sD D))
noncomputable def pIf {α : Type} (p : Prop) (a b : α) : α := @ite α p (Classical.propDecidable p) a b
theorem pIf_t {α : Type} {p : Prop} {a b : α} (h : p) : pIf p a b = a := by unfold pIf; exact if_pos h
theorem pIf_f {α : Type} {p : Prop} {a b : α} (h : ¬ p) : pIf p a b = b := by unfold pIf; exact if_neg h
theorem ArcR.can {D : Nat → Int} (hW : WR D) (hO : WO D) : ∀ o : Nat, vO D o → sD D o = -1 ∨ (0 ≤ sD D o ∧ sD D o < 36 ∧ vO D (sD D o).toNat ∧ 0 ≤ lD D o ∧ lD D o ≤ 198) := by
  intro o ho
  obtain ⟨h1, h2, h3⟩ := plD_at hW hO ho
  have hm := hW.2.2.2 (mcO D o) (by have := hW.a; omega)
  by_cases hp : plD D o = 0
  · left; unfold sD; rw [if_pos hp]
  · right
    obtain ⟨hv, -⟩ := hO.1 (mcO D o) (plD D o - 1) h1 (by omega)
    unfold sD lD
    rw [if_neg hp]
    unfold srcv lngv
    cases hB : blB D (oN D (mcO D o) (plD D o - 1)) with
    | true =>
      have hs := (vO_succ hW hv (blB_t.mp hB).2).1
      have e3 : ((oN D (mcO D o) (plD D o - 1) : Int) + 1).toNat = oN D (mcO D o) (plD D o - 1) + 1 := by omega
      simp only [cond_true]
      rw [e3]
      exact ⟨by omega, by have := hs.1; omega, hs, by omega, by omega⟩
    | false =>
      have hd := hW.2.2.1 (oN D (mcO D o) (plD D o - 1)) hv.1
      simp only [cond_false]
      rw [Int.toNat_natCast]
      exact ⟨by omega, by have := hv.1; omega, hv, by omega, by omega⟩
/-! what is computed from data and starts -/
def lastP (D : Nat → Int) (j : Nat) : Nat := 6 * j + (D (59 + 4 * j + 3)).toNat - 1
def cmpF (D T : Nat → Int) (j : Nat) : Int := T (lastP D j) + D (83 + 2 * lastP D j + 1)
def spN (D T : Nat → Int) : Nat → Int
  | 0 => 0
  | j + 1 => max (spN D T j) (cmpF D T j)
def spanF (D T : Nat → Int) : Int := spN D T (D 2).toNat
theorem lastP_v {D : Nat → Int} (hW : WR D) {j : Nat} (hj : (j : Int) < D 2) : vO D (lastP D j) ∧ lastP D j / 6 = j ∧ lastO D (lastP D j) ∧ (lastP D j : Int) = 6 * (j : Int) + D (59 + 4 * j + 3) - 1 := by
  have ha := hW.a
  have hw := hW.2.1 j (by omega)
  have h1 := hw.2.2.2.2.2.2.2.2 hj
  have e : lastP D j / 6 = j := by unfold lastP; omega
  refine ⟨⟨by unfold lastP; omega, by rw [e]; exact hj, by rw [e]; unfold lastP; omega⟩, e, ?_, by unfold lastP; omega⟩
  unfold lastO
  rw [e]
  unfold lastP
  omega
theorem cmpF_same {D T T' : Nat → Int} (hW : WR D) (h : ∀ o : Nat, vO D o → T o = T' o) {j : Nat} (hj : (j : Int) < D 2) : cmpF D T j = cmpF D T' j := by
  unfold cmpF
  rw [h _ (lastP_v hW hj).1]
theorem spN_same {D T T' : Nat → Int} (hW : WR D) (h : ∀ o : Nat, vO D o → T o = T' o) : ∀ j : Nat, (j : Int) ≤ D 2 → spN D T j = spN D T' j
  | 0, _ => rfl
  | j + 1, hj => by
    simp only [spN]
    rw [spN_same hW h j (by omega), cmpF_same hW h (by omega)]
theorem spanF_same {D T T' : Nat → Int} (hW : WR D) (h : ∀ o : Nat, vO D o → T o = T' o) : spanF D T = spanF D T' := spN_same hW h _ (by have := hW.a; omega)
/-- starts that are no overflow -/
def TBv (D T : Nat → Int) : Prop := ∀ o : Nat, vO D o → 0 ≤ T o ∧ T o ≤ 1000000
theorem cmpF_b {D T : Nat → Int} (hW : WR D) (hT : TBv D T) {j : Nat} (hj : (j : Int) < D 2) : 0 ≤ cmpF D T j ∧ cmpF D T j ≤ 1000099 := by
  obtain ⟨h1, -, -, -⟩ := lastP_v hW hj
  have h2 := hT _ h1
  have h3 := hW.2.2.1 _ h1.1
  unfold cmpF
  omega
theorem spN_b {D T : Nat → Int} (hW : WR D) (hT : TBv D T) : ∀ j : Nat, (j : Int) ≤ D 2 → 0 ≤ spN D T j ∧ spN D T j ≤ 1000099
  | 0, _ => by simp only [spN]; omega
  | j + 1, hj => by
    have h1 := spN_b hW hT j (by omega)
    have h2 := cmpF_b hW hT (j := j) (by omega)
    simp only [spN]
    omega
theorem spanF_b {D T : Nat → Int} (hW : WR D) (hT : TBv D T) : 0 ≤ spanF D T ∧ spanF D T ≤ 1000099 := spN_b hW hT _ (by have := hW.a; omega)
/-! cost expressions: each operator behind its operands; numbers from 0 stand for themselves, -1 to -4 completion, due, weight, release, -5 to -8 the operators -/
def limF (v : Int) : Int := if 1000000 < v then 1000000 else if v < -1000000 then -1000000 else v
def opF (c a b : Int) : Int := if c = -5 then limF (a + b) else if c = -6 then limF (a - b) else if c = -7 then limF (a * b) else if b = 0 then 0 else Int.tdiv a b
def valF (D : Nat → Int) (j : Nat) (x c : Int) : Int := if c = -1 then x else if c = -2 then D (59 + 4 * j + 1) else if c = -3 then D (59 + 4 * j + 2) else if c = -4 then D (59 + 4 * j) else c
/-- one code; the stack is a list, its top first -/
def stF (D : Nat → Int) (j : Nat) (x : Int) (st : List Int) (c : Int) : List Int := if -5 < c then valF D j x c :: st else match st with
  | b :: a :: r => opF c a b :: r
  | r => r
def evF (D : Nat → Int) (j : Nat) (x : Int) (cs : List Int) : Int := ((cs.foldl (stF D j x) []).head?).getD 0
/-- the depth of the stack behind the codes -/
def dpF : List Int → Nat → Option Nat
  | [], d => some d
  | c :: cs, d => if -5 < c then (if d < 11 then dpF cs (d + 1) else none) else (if 2 ≤ d then dpF cs (d - 1) else none)
/-- the codes as the reference writes them -/
def encF (c : Int) : List Int := if 0 ≤ c then [0, c] else if -5 < c then [1, -1 - c] else [-3 - c]
def encL (cs : List Int) : List Int := cs.flatMap encF
