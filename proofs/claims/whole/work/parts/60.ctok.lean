/-! THE CLASS READS TOKENS -/
/-- the end and the kind of the token behind p -/
def tkE (T : Nat → Int) (L p : Nat) : Nat := if L ≤ spc T L p then spc T L p else if isDg T L (spc T L p) then dgE T L (spc T L p) else if isLt T L (spc T L p) then ltE T L (spc T L p) else spc T L p + 1
def tkK (T : Nat → Int) (L p : Nat) : Int := if L ≤ spc T L p then -1003 else if isDg T L (spc T L p) then -1001 else if isLt T L (spc T L p) then -1002 else b8 (T (spc T L p))
/-- the text -/
def TX (I : MM) (T : Nat → Int) (L : Nat) : Prop := (∀ k : Nat, k < 900 → I 32 k = b8 (T k)) ∧ I 31 1 = (L : Int) ∧ L ≤ 900 ∧ ∀ k : Nat, k < 900 → 0 ≤ T k ∧ T k ≤ 255
/-- reading goes well, the token behind p is there -/
def TK (I : MM) (T : Nat → Int) (L p : Nat) : Prop := TX I T L ∧ I 31 5 = 0 ∧ I 31 6 = -1 ∧ p ≤ L ∧ I 31 2 = (spc T L p : Int) ∧ I 31 3 = (tkE T L p : Int) ∧ I 31 4 = tkK T L p
/-- an error was found -/
def TKb (I : MM) (L : Nat) (e : Er) : Prop := I 31 4 = -1004 ∧ I 31 5 = e.1 ∧ e.1 ≠ 0 ∧ inR e.1 ∧ I 31 6 = (e.2 : Int) ∧ I 31 1 = (L : Int) ∧ L ≤ 900
def tcF (I J : MM) : Prop := (∀ r : Nat, r ≠ 31 → J r = I r) ∧ ∀ i : Nat, (i < 2 ∨ 6 < i) → J 31 i = I 31 i
theorem tcF.refl (I : MM) : tcF I I := ⟨fun _ _ => rfl, fun _ _ => rfl⟩
theorem tcF.trans {A B C : MM} (h : tcF A B) (k : tcF B C) : tcF A C := ⟨fun r a => (k.1 r a).trans (h.1 r a), fun i a => (k.2 i a).trans (h.2 i a)⟩
theorem tcF.f {I : MM} {i : Nat} {v : Int} (h : 2 ≤ i ∧ i ≤ 6) : tcF I (up2 I 31 i v) := ⟨fun r a => up2_ne a, fun j a => up2_nj (by omega)⟩
theorem TX.k {I J : MM} {T : Nat → Int} {L : Nat} (h : TX I T L) (k : tcF I J) : TX J T L := ⟨fun i hi => by rw [k.1 32 (by decide)]; exact h.1 i hi, by rw [k.2 1 (by decide)]; exact h.2.1, h.2.2⟩
theorem b8_c {v c : Int} (hv : 0 ≤ v ∧ v ≤ 255) (hc : 0 ≤ c ∧ c ≤ 127) : b8 v = c ↔ v = c := by unfold b8; omega
theorem b8_r {v a b : Int} (hv : 0 ≤ v ∧ v ≤ 255) (ha : 0 ≤ a) (hb : b ≤ 127) : (a ≤ b8 v ∧ b8 v ≤ b) ↔ (a ≤ v ∧ v ≤ b) := by unfold b8; omega
theorem b8_b (v : Int) : -128 ≤ b8 v ∧ b8 v ≤ 127 := by unfold b8; omega
theorem tkE_le {T : Nat → Int} {L p : Nat} (h : p ≤ L) : tkE T L p ≤ L := by
  have := spc_le (T := T) h
  unfold tkE
  split
  · exact this
  · split
    · exact dgE_le this
    · split
      · exact ltE_le this
      · omega
theorem tkE_dg {T : Nat → Int} {L p : Nat} (h : isDg T L (spc T L p) = true) : tkE T L p = dgE T L (spc T L p) ∧ tkK T L p = -1001 := by
  have h0 : ¬ L ≤ spc T L p := by have := dg_lt h; omega
  unfold tkE tkK
  refine ⟨?_, ?_⟩
  · rw [if_neg h0, if_pos h]
  · rw [if_neg h0, if_pos h]
theorem dg_not_lt {T : Nat → Int} {L k : Nat} (h : isLt T L k = true) : ¬ isDg T L k = true := fun q => by
  have a := isLt_t.mp h
  have b := isDg_t.mp q
  omega
theorem tkE_lt {T : Nat → Int} {L p : Nat} (h : isLt T L (spc T L p) = true) : tkE T L p = ltE T L (spc T L p) ∧ tkK T L p = -1002 := by
  have h0 : ¬ L ≤ spc T L p := by have := lt_lt h; omega
  have h1 := dg_not_lt h
  unfold tkE tkK
  refine ⟨?_, ?_⟩
  · rw [if_neg h0, if_neg h1, if_pos h]
  · rw [if_neg h0, if_neg h1, if_pos h]
theorem tkE_end {T : Nat → Int} {L p : Nat} (h : L ≤ spc T L p) : tkE T L p = spc T L p ∧ tkK T L p = -1003 := by
  unfold tkE tkK
  refine ⟨?_, ?_⟩
  · rw [if_pos h]
  · rw [if_pos h]
theorem tkE_by {T : Nat → Int} {L p : Nat} (h : spc T L p < L) (h1 : ¬ isDg T L (spc T L p) = true) (h2 : ¬ isLt T L (spc T L p) = true) : tkE T L p = spc T L p + 1 ∧ tkK T L p = b8 (T (spc T L p)) := by
  have h0 : ¬ L ≤ spc T L p := by omega
  unfold tkE tkK
  refine ⟨?_, ?_⟩
  · rw [if_neg h0, if_neg h1, if_neg h2]
  · rw [if_neg h0, if_neg h1, if_neg h2]
theorem tkK_b {T : Nat → Int} {L p : Nat} : -1003 ≤ tkK T L p ∧ tkK T L p ≤ 127 := by
  have := b8_b (T (spc T L p))
  unfold tkK
  split
  · omega
  · split
    · omega
    · split <;> omega
theorem tkK_num {T : Nat → Int} {L p : Nat} : tkK T L p = -1001 ↔ isDg T L (spc T L p) = true := by
  have hb := b8_b (T (spc T L p))
  constructor
  · intro h
    cases hd : isDg T L (spc T L p) with
    | true => rfl
    | false =>
      unfold tkK at h
      rw [hd] at h
      split at h
      · omega
      · rw [if_neg Bool.false_ne_true] at h
        split at h <;> omega
  · intro h; exact (tkE_dg h).2
theorem tkK_word {T : Nat → Int} {L p : Nat} : tkK T L p = -1002 ↔ isLt T L (spc T L p) = true := by
  have hb := b8_b (T (spc T L p))
  constructor
  · intro h
    cases hd : isLt T L (spc T L p) with
    | true => rfl
    | false =>
      unfold tkK at h
      rw [hd] at h
      split at h
      · omega
      · split at h
        · omega
        · rw [if_neg Bool.false_ne_true] at h; omega
  · intro h; exact (tkE_lt h).2
/-- signs: neither digits nor letters -/
theorem tkK_sign {T : Nat → Int} {L p : Nat} {c : Int} (hT : ∀ k : Nat, k < 900 → 0 ≤ T k ∧ T k ≤ 255) (hL : L ≤ 900) (hc : 0 ≤ c ∧ c ≤ 127) (h1 : c < 48 ∨ 57 < c) (h2 : c < 97 ∨ 122 < c) : tkK T L p = c ↔ bt T L (spc T L p) = c := by
  have hb := b8_b (T (spc T L p))
  by_cases hs : spc T L p < L
  · have hv := hT (spc T L p) (by omega)
    rw [bt_in hs]
    cases hd : isDg T L (spc T L p) with
    | true => rw [(tkE_dg hd).2]; have := isDg_t.mp hd; omega
    | false =>
      cases hl : isLt T L (spc T L p) with
      | true => rw [(tkE_lt hl).2]; have := isLt_t.mp hl; omega
      | false => rw [(tkE_by hs (by rw [hd]; decide) (by rw [hl]; decide)).2, b8_c hv hc]
  · rw [bt_out (by omega), (tkE_end (by omega)).2]
    omega
theorem tkE_sign {T : Nat → Int} {L p : Nat} {c : Int} (hc : c ≠ -1) (h1 : c < 48 ∨ 57 < c) (h2 : c < 97 ∨ 122 < c) (h : bt T L (spc T L p) = c) : tkE T L p = spc T L p + 1 := by
  have hs := bt_lt (T := T) (L := L) (k := spc T L p) (by rw [h]; exact hc)
  rw [bt_in hs] at h
  exact (tkE_by hs (fun q => by have := isDg_t.mp q; omega) (fun q => by have := isLt_t.mp q; omega)).1
section M3
variable {Γ : GG} {P : MP} {I : MM} {R : Int → MM → Prop} {Rv : MM → Prop} {T : Nat → Int} {L p : Nat}
theorem d_next0 (hr : LRead Γ P) {e : Er} (h : TKb I L e) (hR : Rv I) : Cl Γ m_X3_next [vR 31] P I (rv P Rv) :=
  cl_of n_X3_next (Nat.le_of_ble_eq_true rfl) (t_X3_next_0 hr (by rw [h.2.1]; exact ⟨h.2.2.2.1, fun z => absurd z h.2.2.1, fun _ => hR⟩))
theorem d_next (hr : LRead Γ P) (h : TX I T L) (h5 : I 31 5 = 0) (h6 : I 31 6 = -1) {q : Nat} (h3 : I 31 3 = (q : Int)) (hq : q ≤ L) (hR : ∀ J, tcF I J → TK J T L q → Rv J) : Cl Γ m_X3_next [vR 31] P I (rv P Rv) := by
  -- the letters, the digits
  have run : ∀ (A : MM) (s : Nat), tcF I A → A 31 5 = 0 → A 31 6 = -1 → A 31 2 = (s : Int) → (A 31 4 = -1002 → isLt T L s = true → spc T L q = s → ∀ (f y : Nat), y + f = L → s ≤ y → ltE T L y = ltE T L s → XM Γ m_X3_next 0 0 183 [(0, vR 31)] [] P (up2 A 31 3 (y : Int)) (rv P Rv)) ∧ (A 31 4 = -1001 → isDg T L s = true → spc T L q = s → ∀ (f y : Nat), y + f = L → s ≤ y → dgE T L y = dgE T L s → XM Γ m_X3_next 0 0 112 [(0, vR 31)] [] P (up2 A 31 3 (y : Int)) (rv P Rv)) := by
    intro A s tA a5 a6 a2
    have X := h.k tA
    have row : ∀ y : Nat, ((up2 A 31 3 (y : Int)) 31 3 = (y : Int)) ∧ ((up2 A 31 3 (y : Int)) 31 1 = (L : Int)) ∧ ((up2 A 31 3 (y : Int)) 32 = A 32) := fun y => ⟨up2_eq, by rw [up2_nj (by decide)]; exact X.2.1, up2_ne (by decide)⟩
    have fin : ∀ (y : Nat) (kd : Int), A 31 4 = kd → kd = tkK T L q → tkE T L q = y → spc T L q = s → Rv (up2 A 31 3 (y : Int)) := by
      intro y kd k1 k2 k3 k4
      have t2 : tcF A (up2 A 31 3 (y : Int)) := tcF.f (by decide)
      refine hR _ (tA.trans t2) ⟨X.k t2, by rw [up2_nj (by decide)]; exact a5, by rw [up2_nj (by decide)]; exact a6, hq, by rw [up2_nj (by decide), a2, k4], by rw [up2_eq, k3], by rw [up2_nj (by decide), k1, k2]⟩
    refine ⟨fun k4 hl hs f => ?_, fun k4 hd hs f => ?_⟩
    · obtain ⟨e1, e2⟩ := tkE_lt (T := T) (L := L) (p := q) (by rw [hs]; exact hl)
      rw [hs] at e1
      induction f with
      | zero =>
        intro y hy hsy he
        obtain ⟨r3, r1, r32⟩ := row y
        have nl : isLt T L y = false := by
          cases hb : isLt T L y with
          | false => rfl
          | true => have := lt_lt hb; omega
        rw [ltE_stop nl] at he
        refine t_X3_next_183 hr ?_
        rw [r3, r1]
        have hL9 := X.2.2.1
        exact ⟨⟨by omega, by omega⟩, ⟨by omega, by omega⟩, fun _ => fin y _ k4 e2.symm (by rw [e1, he]) hs, fun z => absurd (by omega) z⟩
      | succ f ih =>
        intro y hy hsy he
        obtain ⟨r3, r1, r32⟩ := row y
        have hL9 := X.2.2.1
        have hb := b8_b (T y)
        have hv := X.2.2.2 y (by omega)
        have stop : isLt T L y = false → Rv (up2 A 31 3 (y : Int)) := fun nl => by
          rw [ltE_stop nl] at he
          exact fin y _ k4 e2.symm (by rw [e1, he]) hs
        have nlt : ∀ x : ¬ (97 ≤ T y ∧ T y ≤ 122), isLt T L y = false := fun x => by
          cases hb2 : isLt T L y with
          | false => rfl
          | true => have := isLt_t.mp hb2; exact absurd this.2 x
        refine t_X3_next_183 hr ?_
        rw [r3, r1, r32, Int.toNat_natCast, X.1 y (by omega)]
        refine ⟨⟨by omega, by omega⟩, ⟨by omega, by omega⟩, fun z => absurd z (by omega), fun _ => ⟨by omega, by omega, ⟨by omega, by omega⟩, fun z => stop (nlt (fun w => by have := (b8_r (a := 97) (b := 122) hv (by decide) (by decide)).mpr w; omega)), fun z => ⟨fun w => stop (nlt (fun v => by have := (b8_r (a := 97) (b := 122) hv (by decide) (by decide)).mpr v; omega)), fun w => ?_⟩⟩⟩
        intro B hB
        rw [up22, show (y : Int) + 1 = ((y + 1 : Nat) : Int) by push_cast; rfl] at hB
        rw [hB]
        have hl2 : isLt T L y = true := isLt_t.mpr ⟨by omega, (b8_r (a := 97) (b := 122) hv (by decide) (by decide)).mp ⟨by omega, by omega⟩⟩
        exact ih (y + 1) (by omega) (by omega) (by rw [← ltE_step hl2]; exact he)
    · obtain ⟨e1, e2⟩ := tkE_dg (T := T) (L := L) (p := q) (by rw [hs]; exact hd)
      rw [hs] at e1
      induction f with
      | zero =>
        intro y hy hsy he
        obtain ⟨r3, r1, r32⟩ := row y
        have nl : isDg T L y = false := by
          cases hb : isDg T L y with
          | false => rfl
          | true => have := dg_lt hb; omega
        rw [dgE_stop nl] at he
        refine t_X3_next_112 hr ?_
        rw [r3, r1]
        have hL9 := X.2.2.1
        exact ⟨⟨by omega, by omega⟩, ⟨by omega, by omega⟩, fun _ => fin y _ k4 e2.symm (by rw [e1, he]) hs, fun z => absurd (by omega) z⟩
      | succ f ih =>
        intro y hy hsy he
        obtain ⟨r3, r1, r32⟩ := row y
        have hL9 := X.2.2.1
        have hb := b8_b (T y)
        have hv := X.2.2.2 y (by omega)
        have stop : isDg T L y = false → Rv (up2 A 31 3 (y : Int)) := fun nl => by
          rw [dgE_stop nl] at he
          exact fin y _ k4 e2.symm (by rw [e1, he]) hs
        have nlt : ∀ x : ¬ (48 ≤ T y ∧ T y ≤ 57), isDg T L y = false := fun x => by
          cases hb2 : isDg T L y with
          | false => rfl
          | true => have := isDg_t.mp hb2; exact absurd this.2 x
        refine t_X3_next_112 hr ?_
        rw [r3, r1, r32, Int.toNat_natCast, X.1 y (by omega)]
        refine ⟨⟨by omega, by omega⟩, ⟨by omega, by omega⟩, fun z => absurd z (by omega), fun _ => ⟨by omega, by omega, ⟨by omega, by omega⟩, fun z => stop (nlt (fun w => by have := (b8_r (a := 48) (b := 57) hv (by decide) (by decide)).mpr w; omega)), fun z => ⟨fun w => stop (nlt (fun v => by have := (b8_r (a := 48) (b := 57) hv (by decide) (by decide)).mpr v; omega)), fun w => ?_⟩⟩⟩
        intro B hB
        rw [up22, show (y : Int) + 1 = ((y + 1 : Nat) : Int) by push_cast; rfl] at hB
        rw [hB]
        have hl2 : isDg T L y = true := isDg_t.mpr ⟨by omega, (b8_r (a := 48) (b := 57) hv (by decide) (by decide)).mp ⟨by omega, by omega⟩⟩
        exact ih (y + 1) (by omega) (by omega) (by rw [← dgE_step hl2]; exact he)
  -- the token that starts at s
  have tok : ∀ (s : Nat) (A0 : MM), tcF I A0 → A0 31 5 = 0 → A0 31 6 = -1 → A0 31 3 = (s : Int) → s ≤ L → spc T L q = s → ∀ A : MM, A = up2 A0 31 2 (s : Int) →
      (inR (A 31 3)) ∧ (inR (A 31 1)) ∧ (((A 31 3) < (A 31 1) → (0 ≤ (A 31 3)) ∧ ((A 31 3) < 900) ∧ (∀ u12 : Int, u12 = (A 32 ((A 31 3)).toNat) → (∀ I13 : MM, I13 = up2 A 31 3 ((A 31 3) + 1) → (inR u12) ∧ ((u12 < 48 → ((u12 < 97 → (∀ I19 : MM, I19 = up2 I13 31 4 u12 → Rv I19)) ∧ (¬ u12 < 97 → ((122 < u12 → (∀ I22 : MM, I22 = up2 I13 31 4 u12 → Rv I22)) ∧ (¬ 122 < u12 → (∀ I23 : MM, I23 = up2 I13 31 4 (-1002) → XM Γ m_X3_next 0 0 183 [(0, vR 31)] [] P I23 (rv P Rv))))))) ∧ (¬ u12 < 48 → ((57 < u12 → ((u12 < 97 → (∀ I28 : MM, I28 = up2 I13 31 4 u12 → Rv I28)) ∧ (¬ u12 < 97 → ((122 < u12 → (∀ I31 : MM, I31 = up2 I13 31 4 u12 → Rv I31)) ∧ (¬ 122 < u12 → (∀ I32 : MM, I32 = up2 I13 31 4 (-1002) → XM Γ m_X3_next 0 0 183 [(0, vR 31)] [] P I32 (rv P Rv))))))) ∧ (¬ 57 < u12 → (∀ I33 : MM, I33 = up2 I13 31 4 (-1001) → XM Γ m_X3_next 0 0 112 [(0, vR 31)] [] P I33 (rv P Rv))))))))) ∧ (¬ (A 31 3) < (A 31 1) → (∀ I34 : MM, I34 = up2 A 31 4 (-1003) → Rv I34))) := by
    intro s A0 t0 a5 a6 a3 hs hsp A hA
    have tA : tcF I A := t0.trans (by rw [hA]; exact tcF.f (by decide))
    have X := h.k tA
    have hL9 := X.2.2.1
    have A3 : A 31 3 = (s : Int) := by rw [hA, up2_nj (by decide)]; exact a3
    have A5 : A 31 5 = 0 := by rw [hA, up2_nj (by decide)]; exact a5
    have A6 : A 31 6 = -1 := by rw [hA, up2_nj (by decide)]; exact a6
    have A2 : A 31 2 = (s : Int) := by rw [hA, up2_eq]
    rw [A3, X.2.1]
    refine ⟨⟨by omega, by omega⟩, ⟨by omega, by omega⟩, fun z => ⟨by omega, by omega, ?_⟩, fun z => ?_⟩
    · intro u hu B hB
      rw [Int.toNat_natCast, X.1 s (by omega)] at hu
      have hv := X.2.2.2 s (by omega)
      have hb := b8_b (T s)
      have eB : ∀ v : Int, up2 B 31 4 v = up2 (up2 A 31 4 v) 31 3 ((s + 1 : Nat) : Int) := fun v => by
        rw [hB]
        funext a b
        unfold up2
        by_cases h1 : a = 31
        · by_cases h2 : b = 4
          · simp [h1, h2]
          · by_cases h3 : b = 3
            · simp [h1, h3]
            · simp [h1, h2, h3]
        · simp [h1]
      have tv : ∀ v : Int, tcF A (up2 A 31 4 v) := fun v => tcF.f (by decide)
      have base : ∀ v : Int, (up2 A 31 4 v) 31 5 = 0 ∧ (up2 A 31 4 v) 31 6 = -1 ∧ (up2 A 31 4 v) 31 2 = (s : Int) ∧ (up2 A 31 4 v) 31 4 = v := fun v => ⟨by rw [up2_nj (by decide)]; exact A5, by rw [up2_nj (by decide)]; exact A6, by rw [up2_nj (by decide)]; exact A2, up2_eq⟩
      have other : (u < 48 ∨ 57 < u) → (u < 97 ∨ 122 < u) → ∀ C : MM, C = up2 B 31 4 u → Rv C := by
        intro o1 o2 C hC
        have nd : ¬ isDg T L (spc T L q) = true := fun w => by
          rw [hsp] at w
          have := (b8_r (a := 48) (b := 57) hv (by decide) (by decide)).mpr (isDg_t.mp w).2
          omega
        have nl : ¬ isLt T L (spc T L q) = true := fun w => by
          rw [hsp] at w
          have := (b8_r (a := 97) (b := 122) hv (by decide) (by decide)).mpr (isLt_t.mp w).2
          omega
        obtain ⟨e1, e2⟩ := tkE_by (T := T) (L := L) (p := q) (by omega) nd nl
        rw [hsp] at e1 e2
        rw [eB] at hC
        have tC : tcF A C := by rw [hC]; exact (tv u).trans (tcF.f (by decide))
        refine hR C (tA.trans tC) ⟨X.k tC, by rw [hC, up2_nj (by decide)]; exact (base u).1, by rw [hC, up2_nj (by decide)]; exact (base u).2.1, hq, by rw [hC, up2_nj (by decide), (base u).2.2.1, hsp], by rw [hC, up2_eq, e1], by rw [hC, up2_nj (by decide), (base u).2.2.2, e2, hu]⟩
      have letter : 97 ≤ u → u ≤ 122 → ∀ C : MM, C = up2 B 31 4 (-1002) → XM Γ m_X3_next 0 0 183 [(0, vR 31)] [] P C (rv P Rv) := by
        intro o1 o2 C hC
        have hl : isLt T L s = true := isLt_t.mpr ⟨by omega, (b8_r (a := 97) (b := 122) hv (by decide) (by decide)).mp ⟨by omega, by omega⟩⟩
        rw [hC, eB]
        obtain ⟨c1, c2, c3, c4⟩ := base (-1002)
        exact (run (up2 A 31 4 (-1002)) s (tA.trans (tv _)) c1 c2 c3).1 c4 hl hsp (L - (s + 1)) (s + 1) (by omega) (by omega) (ltE_step hl).symm
      have digit : 48 ≤ u → u ≤ 57 → ∀ C : MM, C = up2 B 31 4 (-1001) → XM Γ m_X3_next 0 0 112 [(0, vR 31)] [] P C (rv P Rv) := by
        intro o1 o2 C hC
        have hl : isDg T L s = true := isDg_t.mpr ⟨by omega, (b8_r (a := 48) (b := 57) hv (by decide) (by decide)).mp ⟨by omega, by omega⟩⟩
        rw [hC, eB]
        obtain ⟨c1, c2, c3, c4⟩ := base (-1001)
        exact (run (up2 A 31 4 (-1001)) s (tA.trans (tv _)) c1 c2 c3).2 c4 hl hsp (L - (s + 1)) (s + 1) (by omega) (by omega) (dgE_step hl).symm
      refine ⟨⟨by omega, by omega⟩, fun w => ⟨fun v => other (by omega) (by omega), fun v => ⟨fun y => other (by omega) (by omega), fun y => letter (by omega) (by omega)⟩⟩, fun w => ⟨fun x => ⟨fun v => other (by omega) (by omega), fun v => ⟨fun y => other (by omega) (by omega), fun y => letter (by omega) (by omega)⟩⟩, fun x => digit (by omega) (by omega)⟩⟩
    · intro C hC
      obtain ⟨e1, e2⟩ := tkE_end (T := T) (L := L) (p := q) (by omega)
      have tC : tcF A C := by rw [hC]; exact tcF.f (by decide)
      refine hR C (tA.trans tC) ⟨X.k tC, by rw [hC, up2_nj (by decide)]; exact A5, by rw [hC, up2_nj (by decide)]; exact A6, hq, by rw [hC, up2_nj (by decide), A2, hsp], by rw [hC, up2_nj (by decide), A3, e1, hsp], by rw [hC, up2_eq, e2]⟩
  -- spaces
  have key : ∀ (f y : Nat) (A : MM), y + f = L → tcF I A → A 31 5 = 0 → A 31 6 = -1 → A 31 3 = (y : Int) → spc T L y = spc T L q → XM Γ m_X3_next 0 0 8 [(0, vR 31)] [] P A (rv P Rv) := by
    intro f
    induction f with
    | zero =>
      intro y A hy tA a5 a6 a3 hs
      have X := h.k tA
      have hL9 := X.2.2.1
      have ns : isSp T L y = false := by
        cases hb : isSp T L y with
        | false => rfl
        | true => have := sp_lt hb; omega
      rw [spc_stop ns] at hs
      refine t_X3_next_8 hr ⟨by rw [a3]; exact ⟨by omega, by omega⟩, by rw [X.2.1]; exact ⟨by omega, by omega⟩, fun _ => ?_, fun z => absurd (by rw [a3, X.2.1]; omega) z⟩
      have := tok y A tA a5 a6 a3 (by omega) hs.symm
      rw [← a3] at this
      exact this
    | succ f ih =>
      intro y A hy tA a5 a6 a3 hs
      have X := h.k tA
      have hL9 := X.2.2.1
      have hv := X.2.2.2 y (by omega)
      have hb := b8_b (T y)
      refine t_X3_next_8 hr ⟨by rw [a3]; exact ⟨by omega, by omega⟩, by rw [X.2.1]; exact ⟨by omega, by omega⟩, fun z => absurd z (by rw [a3, X.2.1]; omega), fun _ => ⟨by rw [a3]; omega, by rw [a3]; omega, ?_⟩⟩
      have ey : A 32 (A 31 3).toNat = b8 (T y) := by rw [a3, Int.toNat_natCast]; exact X.1 y (by omega)
      rw [ey]
      refine ⟨⟨by omega, by omega⟩, fun z => ?_, fun z => ?_⟩
      · have ns : isSp T L y = false := by
          cases hb2 : isSp T L y with
          | false => rfl
          | true => exact absurd ((b8_c hv (by decide)).mpr (isSp_t.mp hb2).2) z
        rw [spc_stop ns] at hs
        have := tok y A tA a5 a6 a3 (by omega) hs.symm
        rw [← a3] at this
        exact this
      · have sp : isSp T L y = true := isSp_t.mpr ⟨by omega, (b8_c hv (by decide)).mp z⟩
        intro B hB
        rw [a3, show (y : Int) + 1 = ((y + 1 : Nat) : Int) by push_cast; rfl] at hB
        refine ih (y + 1) B (by omega) (tA.trans (by rw [hB]; exact tcF.f (by decide))) (by rw [hB, up2_nj (by decide)]; exact a5) (by rw [hB, up2_nj (by decide)]; exact a6) (by rw [hB, up2_eq]) (by rw [← spc_step sp]; exact hs)
  refine cl_of n_X3_next (Nat.le_of_ble_eq_true rfl) (t_X3_next_0 hr ?_)
  rw [h5]
  exact ⟨⟨by decide, by decide⟩, fun _ => key (L - q) q I (by omega) (tcF.refl I) h5 h6 h3 rfl, fun z => absurd rfl z⟩
end M3
