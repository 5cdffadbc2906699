/-! SETUP TEXTS: what a text says; T the bytes, L how many -/
def rnE (p : Nat → Bool) : Nat → Nat → Nat
  | 0, k => k
  | n + 1, k => if p k then rnE p n (k + 1) else k
theorem rnE_le {p : Nat → Bool} : ∀ n k : Nat, k ≤ rnE p n k ∧ rnE p n k ≤ k + n
  | 0, k => ⟨Nat.le_refl _, Nat.le_refl _⟩
  | n + 1, k => by
    have := rnE_le (p := p) n (k + 1)
    unfold rnE
    split <;> omega
theorem rnE_in {p : Nat → Bool} : ∀ n k i : Nat, k ≤ i → i < rnE p n k → p i = true
  | 0, k, i, h1, h2 => by simp only [rnE] at h2; omega
  | n + 1, k, i, h1, h2 => by
    unfold rnE at h2
    by_cases h : p k = true
    · rw [if_pos h] at h2
      by_cases e : i = k
      · rw [e]; exact h
      · exact rnE_in n (k + 1) i (by omega) h2
    · rw [if_neg h] at h2; omega
theorem rnE_at {p : Nat → Bool} : ∀ n k k' : Nat, k ≤ k' → k' ≤ k + n → (∀ i, k ≤ i → i < k' → p i = true) → (k' < k + n → p k' = false) → rnE p n k = k'
  | 0, k, k', h1, h2, _, _ => by simp only [rnE]; omega
  | n + 1, k, k', h1, h2, h3, h4 => by
    unfold rnE
    by_cases e : k = k'
    · subst e
      rw [h4 (by omega)]; rfl
    · rw [h3 k (Nat.le_refl _) (by omega), if_pos rfl]
      exact rnE_at n (k + 1) k' (by omega) (by omega) (fun i a b => h3 i (by omega) b) (fun h => h4 (by omega))
theorem rnE_out {p : Nat → Bool} : ∀ n k : Nat, rnE p n k < k + n → p (rnE p n k) = false
  | 0, k, h => by simp only [rnE] at h; omega
  | n + 1, k, h => by
    by_cases hp : p k = true
    · have e : rnE p (n + 1) k = rnE p n (k + 1) := by
        show (if p k then rnE p n (k + 1) else k) = _
        rw [if_pos hp]
      rw [e] at h ⊢
      exact rnE_out n (k + 1) (by omega)
    · have e : rnE p (n + 1) k = k := by
        show (if p k then rnE p n (k + 1) else k) = _
        rw [if_neg hp]
      rw [e]
      simpa using hp
/-- the byte at a place; -1 behind the text -/
def bt (T : Nat → Int) (L k : Nat) : Int := if k < L then T k else -1
def isSp (T : Nat → Int) (L k : Nat) : Bool := decide (k < L) && (T k == 32)
def isDg (T : Nat → Int) (L k : Nat) : Bool := decide (k < L) && (decide (48 ≤ T k) && decide (T k ≤ 57))
def isLt (T : Nat → Int) (L k : Nat) : Bool := decide (k < L) && (decide (97 ≤ T k) && decide (T k ≤ 122))
theorem isSp_t {T : Nat → Int} {L k : Nat} : isSp T L k = true ↔ k < L ∧ T k = 32 := by simp [isSp]
theorem isDg_t {T : Nat → Int} {L k : Nat} : isDg T L k = true ↔ k < L ∧ 48 ≤ T k ∧ T k ≤ 57 := by simp [isDg]
theorem isLt_t {T : Nat → Int} {L k : Nat} : isLt T L k = true ↔ k < L ∧ 97 ≤ T k ∧ T k ≤ 122 := by simp [isLt]
/-- behind spaces, digits, letters -/
def spc (T : Nat → Int) (L k : Nat) : Nat := rnE (isSp T L) (L - k) k
def dgE (T : Nat → Int) (L k : Nat) : Nat := rnE (isDg T L) (L - k) k
def ltE (T : Nat → Int) (L k : Nat) : Nat := rnE (isLt T L) (L - k) k
theorem rn_end {p : Nat → Bool} {L : Nat} (hp : ∀ k, p k = true → k < L) (k : Nat) : p (rnE p (L - k) k) = false := by
  by_cases h : rnE p (L - k) k < k + (L - k)
  · exact rnE_out _ _ h
  · cases hb : p (rnE p (L - k) k) with
    | false => rfl
    | true => have := hp _ hb; omega
theorem rn_step {p : Nat → Bool} {L k : Nat} (hp : ∀ k, p k = true → k < L) (h : p k = true) : rnE p (L - k) k = rnE p (L - (k + 1)) (k + 1) := by
  have := hp k h
  rw [show L - k = L - (k + 1) + 1 by omega]
  show (if p k then _ else _) = _
  rw [if_pos h]
theorem rn_stop {p : Nat → Bool} {L k : Nat} (h : p k = false) : rnE p (L - k) k = k := by
  cases hn : L - k with
  | zero => rfl
  | succ n => show (if p k then _ else _) = _; rw [h]; rfl
theorem sp_lt {T : Nat → Int} {L k : Nat} (h : isSp T L k = true) : k < L := (isSp_t.mp h).1
theorem dg_lt {T : Nat → Int} {L k : Nat} (h : isDg T L k = true) : k < L := (isDg_t.mp h).1
theorem lt_lt {T : Nat → Int} {L k : Nat} (h : isLt T L k = true) : k < L := (isLt_t.mp h).1
theorem spc_ge {T : Nat → Int} {L k : Nat} : k ≤ spc T L k := (rnE_le _ _).1
theorem spc_le {T : Nat → Int} {L k : Nat} (h : k ≤ L) : spc T L k ≤ L := by have := (rnE_le (p := isSp T L) (L - k) k).2; unfold spc; omega
theorem spc_end {T : Nat → Int} {L k : Nat} : isSp T L (spc T L k) = false := rn_end (fun _ => sp_lt) k
theorem spc_stop {T : Nat → Int} {L k : Nat} (h : isSp T L k = false) : spc T L k = k := rn_stop h
theorem spc_spc {T : Nat → Int} {L k : Nat} : spc T L (spc T L k) = spc T L k := spc_stop spc_end
theorem spc_step {T : Nat → Int} {L k : Nat} (h : isSp T L k = true) : spc T L k = spc T L (k + 1) := rn_step (fun _ => sp_lt) h
theorem dgE_ge {T : Nat → Int} {L k : Nat} : k ≤ dgE T L k := (rnE_le _ _).1
theorem dgE_le {T : Nat → Int} {L k : Nat} (h : k ≤ L) : dgE T L k ≤ L := by have := (rnE_le (p := isDg T L) (L - k) k).2; unfold dgE; omega
theorem dgE_end {T : Nat → Int} {L k : Nat} : isDg T L (dgE T L k) = false := rn_end (fun _ => dg_lt) k
theorem dgE_stop {T : Nat → Int} {L k : Nat} (h : isDg T L k = false) : dgE T L k = k := rn_stop h
theorem dgE_step {T : Nat → Int} {L k : Nat} (h : isDg T L k = true) : dgE T L k = dgE T L (k + 1) := rn_step (fun _ => dg_lt) h
theorem ltE_ge {T : Nat → Int} {L k : Nat} : k ≤ ltE T L k := (rnE_le _ _).1
theorem ltE_le {T : Nat → Int} {L k : Nat} (h : k ≤ L) : ltE T L k ≤ L := by have := (rnE_le (p := isLt T L) (L - k) k).2; unfold ltE; omega
theorem ltE_end {T : Nat → Int} {L k : Nat} : isLt T L (ltE T L k) = false := rn_end (fun _ => lt_lt) k
theorem ltE_stop {T : Nat → Int} {L k : Nat} (h : isLt T L k = false) : ltE T L k = k := rn_stop h
theorem ltE_step {T : Nat → Int} {L k : Nat} (h : isLt T L k = true) : ltE T L k = ltE T L (k + 1) := rn_step (fun _ => lt_lt) h
/-- the value of digits, no further than a million -/
def vlN (T : Nat → Int) (s : Nat) : Nat → Int
  | 0 => 0
  | i + 1 => min 1000000 (10 * vlN T s i + T (s + i) - 48)
def vlE (T : Nat → Int) (L s : Nat) : Int := vlN T s (dgE T L s - s)
/-- the word i stands at s -/
def WD (T : Nat → Int) (L i s : Nat) : Prop := (∀ k : Nat, k < lenS.getD i 0 → s + k < L ∧ T (s + k) = chS i k) ∧ isLt T L (s + lenS.getD i 0) = false
abbrev Er := Int × Nat
noncomputable def numS (T : Nat → Int) (L p : Nat) (lo hi : Int) : Except Er (Nat × Int) :=
  if isDg T L (spc T L p) then pIf (lo ≤ vlE T L (spc T L p) ∧ vlE T L (spc T L p) ≤ hi) (.ok (dgE T L (spc T L p), vlE T L (spc T L p))) (.error (-3, spc T L p)) else .error (-2, spc T L p)
noncomputable def expS (T : Nat → Int) (L p : Nat) (c : Int) : Except Er Nat := if bt T L (spc T L p) = c then .ok (spc T L p + 1) else .error (-2, spc T L p)
def bnd {α β : Type} (x : Except Er α) (f : α → Except Er β) : Except Er β := match x with
  | .error e => .error e
  | .ok a => f a
/-- operands with operators between them -/
noncomputable def lopS (T : Nat → Int) (L : Nat) (f : Nat → Except Er (Nat × List Int)) (a b ca cb : Int) : Nat → Nat → List Int → Except Er (Nat × List Int)
  | 0, p, acc => .ok (p, acc)
  | n + 1, p, acc => if bt T L (spc T L p) = a ∨ bt T L (spc T L p) = b then bnd (f (spc T L p + 1)) (fun r => lopS T L f a b ca cb n r.1 (acc ++ r.2 ++ [if bt T L (spc T L p) = a then ca else cb])) else .ok (p, acc)
noncomputable def trmS (T : Nat → Int) (L : Nat) (f : Nat → Except Er (Nat × List Int)) (p : Nat) : Except Er (Nat × List Int) := bnd (f p) (fun r => lopS T L f 42 47 (-7) (-8) L r.1 r.2)
noncomputable def sumS (T : Nat → Int) (L : Nat) (f : Nat → Except Er (Nat × List Int)) (p : Nat) : Except Er (Nat × List Int) := bnd (trmS T L f p) (fun r => lopS T L (trmS T L f) 43 45 (-5) (-6) L r.1 r.2)
noncomputable def nameS (T : Nat → Int) (L s : Nat) : Except Er (Nat × List Int) :=
  pIf (WD T L 0 s) (.ok (s + lenS.getD 0 0, [-1])) (pIf (WD T L 2 s) (.ok (s + lenS.getD 2 0, [-2])) (pIf (WD T L 8 s) (.ok (s + lenS.getD 8 0, [-3])) (pIf (WD T L 6 s) (.ok (s + lenS.getD 6 0, [-4])) (.error (-2, s)))))
noncomputable def facS (T : Nat → Int) (L : Nat) : Nat → Nat → Except Er (Nat × List Int)
  | 0, p => if bt T L (spc T L p) = 40 then .error (-5, spc T L p) else if isDg T L (spc T L p) then bnd (numS T L p 0 9999) (fun r => .ok (r.1, [r.2])) else nameS T L (spc T L p)
  | d + 1, p => if bt T L (spc T L p) = 40 then bnd (sumS T L (facS T L d) (spc T L p + 1)) (fun r => bnd (expS T L r.1 41) (fun e => .ok (e, r.2))) else if isDg T L (spc T L p) then bnd (numS T L p 0 9999) (fun r => .ok (r.1, [r.2])) else nameS T L (spc T L p)
def setD (D : Nat → Int) (i : Nat) (v : Int) : Nat → Int := fun k => if k = i then v else D k
/-- an operation of the job j; its word began at s0 -/
noncomputable def opS (T : Nat → Int) (L : Nat) (D : Nat → Int) (j p s0 : Nat) : Except Er (Nat × (Nat → Int)) :=
  if D (59 + 4 * j + 3) = 6 then .error (-4, s0) else
  bnd (numS T L p 0 (D 0 - 1)) (fun m => pIf (∃ k : Nat, (k : Int) < D (59 + 4 * j + 3) ∧ D (83 + 2 * (6 * j + k)) = m.2) (.error (-3, spc T L p))
    (bnd (numS T L m.1 1 99) (fun d => .ok (d.1, setD (setD (setD D (83 + 2 * (6 * j + (D (59 + 4 * j + 3)).toNat)) m.2) (83 + 2 * (6 * j + (D (59 + 4 * j + 3)).toNat) + 1) d.2) (59 + 4 * j + 3) (D (59 + 4 * j + 3) + 1)))))
noncomputable def opsS (T : Nat → Int) (L j : Nat) : Nat → (Nat → Int) → Nat → Except Er (Nat × (Nat → Int))
  | 0, D, p => .ok (p, D)
  | n + 1, D, p => pIf (WD T L 5 (spc T L p)) (bnd (opS T L D j (spc T L p + lenS.getD 5 0) (spc T L p)) (fun r => opsS T L j n r.2 r.1)) (if D (59 + 4 * j + 3) = 0 then .error (-2, spc T L p) else .ok (spc T L p, D))
noncomputable def jobS (T : Nat → Int) (L : Nat) (D : Nat → Int) (p s0 : Nat) : Except Er (Nat × (Nat → Int)) :=
  if D 2 = 6 then .error (-4, s0) else
  bnd (numS T L p 0 999) (fun a => bnd (numS T L a.1 0 9999) (fun b => bnd (numS T L b.1 0 99) (fun c =>
    opsS T L (D 2).toNat 7 (setD (setD (setD (setD D (59 + 4 * (D 2).toNat) a.2) (59 + 4 * (D 2).toNat + 1) b.2) (59 + 4 * (D 2).toNat + 2) c.2) 2 (D 2 + 1)) c.1)))
noncomputable def machS (T : Nat → Int) (L : Nat) (D : Nat → Int) (p : Nat) : Except Er (Nat × (Nat → Int)) :=
  bnd (numS T L p 0 (D 0 - 1)) (fun a => bnd (numS T L a.1 0 1) (fun b => bnd (numS T L b.1 0 99) (fun c => .ok (c.1, setD (setD D (5 + 9 * a.2.toNat) (1 - b.2)) (5 + 9 * a.2.toNat + 1) c.2))))
/-- the data with a cost expression -/
def cdW (D : Nat → Int) (cs : List Int) : Nat → Int := fun i => if i = 3 then 1 else if i = 4 then ((encL cs).length : Int) else if 155 ≤ i ∧ i < 155 + (encL cs).length then (encL cs).getD (i - 155) 0 else D i
noncomputable def stmS (T : Nat → Int) (L : Nat) (D : Nat → Int) (cs : List Int) (p : Nat) : Except Er (Nat × (Nat → Int) × List Int) :=
  bnd (pIf (WD T L 3 (spc T L p)) (bnd (jobS T L D (spc T L p + lenS.getD 3 0) (spc T L p)) (fun r => .ok (r.1, r.2, cs)))
    (pIf (WD T L 4 (spc T L p)) (bnd (machS T L D (spc T L p + lenS.getD 4 0)) (fun r => .ok (r.1, r.2, cs)))
      (pIf (WD T L 1 (spc T L p) ∧ D 3 = 0) (bnd (sumS T L (facS T L 4) (spc T L p + lenS.getD 1 0)) (fun r => .ok (r.1, cdW D r.2, r.2))) (.error (-2, spc T L p)))))
    (fun r => bnd (expS T L r.1 59) (fun e => .ok (e, r.2)))
noncomputable def prgS (T : Nat → Int) (L : Nat) : Nat → (Nat → Int) → List Int → Nat → Except Er ((Nat → Int) × List Int)
  | 0, D, cs, _ => .ok (D, cs)
  | n + 1, D, cs, p => if bt T L (spc T L p) = -1 then .ok (D, cs) else bnd (stmS T L D cs p) (fun r => prgS T L n r.2.1 r.2.2 r.1)
noncomputable def lodS (T : Nat → Int) (L : Nat) : Except Er ((Nat → Int) × List Int) :=
  pIf (WD T L 7 (spc T L 0)) (bnd (numS T L (spc T L 0 + lenS.getD 7 0) 1 6) (fun a => bnd (numS T L a.1 0 1) (fun b => bnd (expS T L b.1 59) (fun e =>
    bnd (prgS T L L (setD (setD (fun _ => 0) 0 a.2) 1 b.2) [-1] e) (fun r => if r.1 2 = 0 then .error (-2, L) else .ok r))))) (.error (-2, spc T L 0))
/-- spaces ahead don't matter -/
def eqp (T : Nat → Int) (L p p' : Nat) : Prop := spc T L p = spc T L p'
theorem numS_p {T : Nat → Int} {L p p' : Nat} {lo hi : Int} (h : eqp T L p p') : numS T L p lo hi = numS T L p' lo hi := by unfold numS; rw [h]
theorem expS_p {T : Nat → Int} {L p p' : Nat} {c : Int} (h : eqp T L p p') : expS T L p c = expS T L p' c := by unfold expS; rw [h]
/-! results go on -/
theorem bnd_ok {α β : Type} {x : Except Er α} {f : α → Except Er β} {b : β} (h : bnd x f = .ok b) : ∃ a, x = .ok a ∧ f a = .ok b := by
  cases x with
  | error e => cases h
  | ok a => exact ⟨a, rfl, h⟩
theorem numS_ok {T : Nat → Int} {L p : Nat} {lo hi : Int} {r : Nat × Int} (h : numS T L p lo hi = .ok r) : isDg T L (spc T L p) = true ∧ r.1 = dgE T L (spc T L p) ∧ r.2 = vlE T L (spc T L p) ∧ lo ≤ r.2 ∧ r.2 ≤ hi ∧ p < r.1 ∧ r.1 ≤ L := by
  unfold numS at h
  by_cases hd : isDg T L (spc T L p) = true
  · rw [if_pos hd] at h
    by_cases hv : lo ≤ vlE T L (spc T L p) ∧ vlE T L (spc T L p) ≤ hi
    · rw [pIf_t hv] at h
      cases h
      have h1 := dgE_step hd
      have h2 := dgE_ge (T := T) (L := L) (k := spc T L p + 1)
      have h3 := spc_ge (T := T) (L := L) (k := p)
      have h4 := dgE_le (T := T) (L := L) (k := spc T L p) (by have := dg_lt hd; omega)
      exact ⟨hd, rfl, rfl, hv.1, hv.2, by simp only; omega, h4⟩
    · rw [pIf_f hv] at h; cases h
  · rw [if_neg hd] at h; cases h
theorem bt_lt {T : Nat → Int} {L k : Nat} (h : bt T L k ≠ -1) : k < L := by
  unfold bt at h
  by_cases e : k < L
  · exact e
  · rw [if_neg e] at h; exact absurd rfl h
theorem expS_ok {T : Nat → Int} {L p : Nat} {c : Int} {e : Nat} (hc : c ≠ -1) (h : expS T L p c = .ok e) : bt T L (spc T L p) = c ∧ e = spc T L p + 1 ∧ p < e ∧ e ≤ L := by
  unfold expS at h
  by_cases hb : bt T L (spc T L p) = c
  · rw [if_pos hb] at h
    cases h
    have := bt_lt (T := T) (L := L) (k := spc T L p) (by rw [hb]; exact hc)
    have := spc_ge (T := T) (L := L) (k := p)
    exact ⟨hb, rfl, by omega, by omega⟩
  · rw [if_neg hb] at h; cases h
