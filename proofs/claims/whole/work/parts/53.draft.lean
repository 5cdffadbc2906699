/-! DRAFTS: what a text says keeps its ranges -/
theorem setD_eq {D : Nat → Int} {i : Nat} {v : Int} : setD D i v i = v := if_pos rfl
theorem setD_ne {D : Nat → Int} {i k : Nat} {v : Int} (h : k ≠ i) : setD D i v k = D k := if_neg h
/-- a draft; of the job J the operations may be wanting -/
def RDx (D : Nat → Int) (J : Nat) : Prop :=
  (1 ≤ D 0 ∧ D 0 ≤ 6 ∧ 0 ≤ D 1 ∧ D 1 ≤ 1 ∧ 0 ≤ D 2 ∧ D 2 ≤ 6 ∧ 0 ≤ D 3 ∧ D 3 ≤ 1) ∧
  (∀ j : Nat, j < 6 → 0 ≤ D (59 + 4 * j) ∧ D (59 + 4 * j) ≤ 999 ∧ 0 ≤ D (59 + 4 * j + 1) ∧ D (59 + 4 * j + 1) ≤ 9999 ∧ 0 ≤ D (59 + 4 * j + 2) ∧ D (59 + 4 * j + 2) ≤ 99 ∧ 0 ≤ D (59 + 4 * j + 3) ∧ D (59 + 4 * j + 3) ≤ 6 ∧ ((j : Int) < D 2 → j ≠ J → 1 ≤ D (59 + 4 * j + 3)) ∧ (D 2 ≤ (j : Int) → D (59 + 4 * j + 3) = 0)) ∧
  (∀ o : Nat, o < 36 → 0 ≤ D (83 + 2 * o) ∧ D (83 + 2 * o) ≤ 5 ∧ 0 ≤ D (83 + 2 * o + 1) ∧ D (83 + 2 * o + 1) ≤ 99 ∧ (((o % 6 : Nat) : Int) < D (59 + 4 * (o / 6) + 3) → D (83 + 2 * o) < D 0 ∧ 1 ≤ D (83 + 2 * o + 1))) ∧
  (∀ o u : Nat, o < 36 → u < 36 → o / 6 = u / 6 → ((o % 6 : Nat) : Int) < D (59 + 4 * (o / 6) + 3) → ((u % 6 : Nat) : Int) < D (59 + 4 * (u / 6) + 3) → D (83 + 2 * o) = D (83 + 2 * u) → o = u) ∧
  (∀ m : Nat, m < 6 → 0 ≤ D (5 + 9 * m) ∧ D (5 + 9 * m) ≤ 1 ∧ 0 ≤ D (5 + 9 * m + 1) ∧ D (5 + 9 * m + 1) ≤ 99 ∧ D (5 + 9 * m + 2) = 0 ∧ ∀ k : Nat, k < 6 → D (5 + 9 * m + 3 + k) = 0) ∧ zbD D
theorem RDx.ze {D : Nat → Int} {J : Nat} (h : RDx D J) : zbE D := ⟨h.2.2.2.2.2, by have := h.1; exact ⟨by omega, by omega⟩⟩
/-- the cost expression that is in a draft -/
def RCx (D : Nat → Int) (cs : List Int) : Prop := okC cs ∧ (encL cs).length ≤ 1500 ∧ cs.length ≤ 900 ∧ (D 3 = 0 → cs = [-1] ∧ D 4 = 0) ∧ (D 3 ≠ 0 → D 4 = ((encL cs).length : Int) ∧ ∀ i : Nat, i < (encL cs).length → (encL cs)[i]? = some (D (155 + i)))
theorem RDx.wr {D : Nat → Int} {cs : List Int} (h : RDx D 6) (hc : RCx D cs) : WR D := by
  obtain ⟨h1, h2, h3, h4, h5, h6⟩ := h
  refine ⟨?_, fun j hj => ?_, fun o ho => ?_, fun m hm => ?_⟩
  · have : 0 ≤ D 4 ∧ D 4 ≤ 1500 := by
      by_cases e : D 3 = 0
      · have := (hc.2.2.2.1 e).2; omega
      · have := (hc.2.2.2.2 e).1; have := hc.2.1; omega
    omega
  · obtain ⟨a, b, c, d, e, f, g, i, k, l⟩ := h2 j hj
    exact ⟨a, b, c, d, e, f, g, i, fun q => k q (by omega)⟩
  · obtain ⟨a, b, c, d, -⟩ := h3 o ho
    exact ⟨a, b, c, d⟩
  · obtain ⟨a, b, c, d, e, f⟩ := h5 m hm
    exact ⟨a, b, c, d, by omega, by omega, fun k hk => by have := f k hk; omega⟩
theorem RDx.nd {D : Nat → Int} (h : RDx D 6) : ND D := by
  obtain ⟨h1, h2, h3, h4, h5, h6⟩ := h
  refine ⟨fun o ho => ?_, fun o u ho hu e1 e2 => ?_⟩
  · obtain ⟨a, b, c, d, e⟩ := h3 o ho.1
    have := e ho.2.2
    unfold mcO
    omega
  · have a := h3 o ho.1
    have b := h3 u hu.1
    unfold mcO at e2
    exact h4 o u ho.1 hu.1 e1 ho.2.2 hu.2.2 (by omega)
theorem RCx.rc {D : Nat → Int} {cs : List Int} (hc : RCx D cs) : RC D cs := ⟨hc.1, fun q => (hc.2.2.2.1 q).1, hc.2.2.2.2⟩
theorem RCx.keep {D E : Nat → Int} {cs : List Int} (hc : RCx D cs) (e3 : E 3 = D 3) (e4 : E 4 = D 4) (e5 : ∀ i, 155 ≤ i → E i = D i) : RCx E cs := by
  refine ⟨hc.1, hc.2.1, hc.2.2.1, fun q => ?_, fun q => ?_⟩
  · rw [e4]; exact hc.2.2.2.1 (by rw [← e3]; exact q)
  · obtain ⟨a, b⟩ := hc.2.2.2.2 (by rw [← e3]; exact q)
    rw [e4]
    exact ⟨a, fun i hi => by rw [e5 _ (by omega)]; exact b i hi⟩
theorem opS_ok {T : Nat → Int} {L J p s0 : Nat} {D : Nat → Int} {r : Nat × (Nat → Int)} (h : RDx D J) (hJ : J < 6) (ho : opS T L D J p s0 = .ok r) (hJ2 : (J : Int) < D 2) :
    RDx r.2 J ∧ r.2 (59 + 4 * J + 3) = D (59 + 4 * J + 3) + 1 ∧ D (59 + 4 * J + 3) < 6 ∧ (∀ i, (i < 59 ∨ 155 ≤ i) → r.2 i = D i) ∧ p < r.1 ∧ r.1 ≤ L := by
  obtain ⟨h1, h2, h3, h4, h5, h6⟩ := h
  have hj := h2 J hJ
  unfold opS at ho
  by_cases e6 : D (59 + 4 * J + 3) = 6
  · rw [if_pos e6] at ho; cases ho
  · rw [if_neg e6] at ho
    obtain ⟨m, hm, ho⟩ := bnd_ok ho
    obtain ⟨-, -, -, m1, m2, m3, m4⟩ := numS_ok hm
    by_cases hx : ∃ k : Nat, (k : Int) < D (59 + 4 * J + 3) ∧ D (83 + 2 * (6 * J + k)) = m.2
    · rw [pIf_t hx] at ho; cases ho
    · rw [pIf_f hx] at ho
      obtain ⟨d, hd, ho⟩ := bnd_ok ho
      obtain ⟨-, -, -, d1, d2, d3, d4⟩ := numS_ok hd
      cases ho
      simp only
      obtain ⟨nn, hn⟩ : ∃ nn : Nat, D (59 + 4 * J + 3) = (nn : Int) := ⟨(D (59 + 4 * J + 3)).toNat, by omega⟩
      have hnn : nn < 6 := by omega
      rw [hn, Int.toNat_natCast]
      have o1 : ∀ i, i ≠ 83 + 2 * (6 * J + nn) → i ≠ 83 + 2 * (6 * J + nn) + 1 → i ≠ 59 + 4 * J + 3 → setD (setD (setD D (83 + 2 * (6 * J + nn)) m.2) (83 + 2 * (6 * J + nn) + 1) d.2) (59 + 4 * J + 3) ((nn : Int) + 1) i = D i := fun i a b c => by rw [setD_ne c, setD_ne b, setD_ne a]
      have vm : setD (setD (setD D (83 + 2 * (6 * J + nn)) m.2) (83 + 2 * (6 * J + nn) + 1) d.2) (59 + 4 * J + 3) ((nn : Int) + 1) (83 + 2 * (6 * J + nn)) = m.2 := by rw [setD_ne (by omega), setD_ne (by omega), setD_eq]
      have vd : setD (setD (setD D (83 + 2 * (6 * J + nn)) m.2) (83 + 2 * (6 * J + nn) + 1) d.2) (59 + 4 * J + 3) ((nn : Int) + 1) (83 + 2 * (6 * J + nn) + 1) = d.2 := by rw [setD_ne (by omega), setD_eq]
      have vc : setD (setD (setD D (83 + 2 * (6 * J + nn)) m.2) (83 + 2 * (6 * J + nn) + 1) d.2) (59 + 4 * J + 3) ((nn : Int) + 1) (59 + 4 * J + 3) = (nn : Int) + 1 := setD_eq
      generalize setD (setD (setD D (83 + 2 * (6 * J + nn)) m.2) (83 + 2 * (6 * J + nn) + 1) d.2) (59 + 4 * J + 3) ((nn : Int) + 1) = E at o1 vm vd vc ⊢
      have lo : ∀ i, (i < 59 ∨ 155 ≤ i) → E i = D i := fun i hi => o1 i (by omega) (by omega) (by omega)
      have cnt : ∀ j, j < 6 → j ≠ J → E (59 + 4 * j + 3) = D (59 + 4 * j + 3) := fun j hj6 hne => o1 _ (by omega) (by omega) (by omega)
      have old : ∀ o, o < 36 → o ≠ 6 * J + nn → E (83 + 2 * o) = D (83 + 2 * o) ∧ E (83 + 2 * o + 1) = D (83 + 2 * o + 1) := fun o ho6 hne => ⟨o1 _ (by omega) (by omega) (by omega), o1 _ (by omega) (by omega) (by omega)⟩
      -- an operation that is counted now
      have isin : ∀ o, o < 36 → ((o % 6 : Nat) : Int) < E (59 + 4 * (o / 6) + 3) → o ≠ 6 * J + nn → ((o % 6 : Nat) : Int) < D (59 + 4 * (o / 6) + 3) := fun o ho6 hlt hne => by
        by_cases e : o / 6 = J
        · rw [e, vc] at hlt; rw [e, hn]; omega
        · rwa [cnt _ (by omega) e] at hlt
      have nodup : ∀ u, u < 36 → u / 6 = J → u ≠ 6 * J + nn → ((u % 6 : Nat) : Int) < E (59 + 4 * (u / 6) + 3) → D (83 + 2 * u) ≠ m.2 := fun u hu6 hu hne hlt q => hx ⟨u % 6, by have := isin u hu6 hlt hne; rw [hu] at this; exact this, by rw [show 6 * J + u % 6 = u by omega]; exact q⟩
      refine ⟨⟨?_, fun j hj6 => ?_, fun o ho6 => ?_, fun o u ho6 hu6 he hlo hlu heq => ?_, fun mm hm6 => ?_, fun i hi => by rw [lo i (by omega)]; exact h6 i hi⟩, vc, by omega, lo, by omega, d4⟩
      · rw [lo 0 (by decide), lo 1 (by decide), lo 2 (by decide), lo 3 (by decide)]; exact h1
      · obtain ⟨a, b, c, dd, e, f, g, i, k, l⟩ := h2 j hj6
        rw [o1 (59 + 4 * j) (by omega) (by omega) (by omega), o1 (59 + 4 * j + 1) (by omega) (by omega) (by omega), o1 (59 + 4 * j + 2) (by omega) (by omega) (by omega), lo 2 (by decide)]
        by_cases ej : j = J
        · rw [ej, vc]
          refine ⟨by rw [← ej]; exact a, by rw [← ej]; exact b, by rw [← ej]; exact c, by rw [← ej]; exact dd, by rw [← ej]; exact e, by rw [← ej]; exact f, by omega, by omega, fun _ q => absurd rfl q, fun q => by omega⟩
        · rw [cnt j hj6 ej]
          exact ⟨a, b, c, dd, e, f, g, i, k, l⟩
      · obtain ⟨a, b, c, dd, e⟩ := h3 o ho6
        rw [lo 0 (by decide)]
        by_cases eo : o = 6 * J + nn
        · rw [eo, vm, vd]
          exact ⟨m1, by omega, by omega, d2, fun _ => ⟨by omega, d1⟩⟩
        · obtain ⟨p1, p2⟩ := old o ho6 eo
          rw [p1, p2]
          exact ⟨a, b, c, dd, fun q => e (isin o ho6 q eo)⟩
      · by_cases eo : o = 6 * J + nn
        · by_cases eu : u = 6 * J + nn
          · rw [eo, eu]
          · rw [(old u hu6 eu).1, eo, vm] at heq
            exact absurd heq.symm (nodup u hu6 (by omega) eu hlu)
        · by_cases eu : u = 6 * J + nn
          · rw [(old o ho6 eo).1, eu, vm] at heq
            exact absurd heq (nodup o ho6 (by omega) eo hlo)
          · rw [(old o ho6 eo).1, (old u hu6 eu).1] at heq
            exact h4 o u ho6 hu6 he (isin o ho6 hlo eo) (isin u hu6 hlu eu) heq
      · rw [lo _ (by omega), lo _ (by omega), lo _ (by omega)]
        obtain ⟨a, b, c, dd, e, f⟩ := h5 mm hm6
        exact ⟨a, b, c, dd, e, fun k hk => by rw [lo _ (by omega)]; exact f k hk⟩
theorem opsS_ok {T : Nat → Int} {L J : Nat} (hJ : J < 6) : ∀ (n : Nat) (D : Nat → Int) (p : Nat) (r : Nat × (Nat → Int)), RDx D J → (J : Int) < D 2 → D (59 + 4 * J + 3) + n = 7 → p ≤ L → opsS T L J n D p = .ok r →
    RDx r.2 6 ∧ (∀ i, (i < 59 ∨ 155 ≤ i) → r.2 i = D i) ∧ p ≤ r.1 ∧ r.1 ≤ L
  | 0, D, p, r, h, h2, h7, hp, ho => by have := h.2.1 J hJ; omega
  | n + 1, D, p, r, h, h2, h7, hp, ho => by
    have hj := h.2.1 J hJ
    unfold opsS at ho
    by_cases hw : WD T L 5 (spc T L p)
    · rw [pIf_t hw] at ho
      obtain ⟨x, hx, ho⟩ := bnd_ok ho
      obtain ⟨a, b, c, d, e, f⟩ := opS_ok h hJ hx h2
      obtain ⟨g1, g2, g3, g4⟩ := opsS_ok hJ n x.2 x.1 r a (by rw [d 2 (Or.inl (by decide))]; exact h2) (by rw [b]; omega) f ho
      have := spc_ge (T := T) (L := L) (k := p)
      exact ⟨g1, fun i hi => (g2 i hi).trans (d i hi), by omega, g4⟩
    · rw [pIf_f hw] at ho
      by_cases e0 : D (59 + 4 * J + 3) = 0
      · rw [if_pos e0] at ho; cases ho
      · rw [if_neg e0] at ho
        cases ho
        refine ⟨⟨h.1, fun j hj6 => ?_, h.2.2⟩, fun _ _ => rfl, spc_ge, spc_le hp⟩
        obtain ⟨a, b, c, dd, e, f, g, i, k, l⟩ := h.2.1 j hj6
        refine ⟨a, b, c, dd, e, f, g, i, fun q _ => ?_, l⟩
        by_cases ej : j = J
        · show 1 ≤ D (59 + 4 * j + 3)
          rw [ej]; omega
        · exact k q ej
/-- a job more, without operations -/
def jobW (D : Nat → Int) (a b c : Int) : Nat → Int := setD (setD (setD (setD D (59 + 4 * (D 2).toNat) a) (59 + 4 * (D 2).toNat + 1) b) (59 + 4 * (D 2).toNat + 2) c) 2 (D 2 + 1)
theorem jobW_ok {D : Nat → Int} {a b c : Int} (h : RDx D 6) (h6 : D 2 ≠ 6) (ha : 0 ≤ a ∧ a ≤ 999) (hb : 0 ≤ b ∧ b ≤ 9999) (hc : 0 ≤ c ∧ c ≤ 99) : RDx (jobW D a b c) (D 2).toNat ∧ (D 2).toNat < 6 ∧ (((D 2).toNat : Nat) : Int) < jobW D a b c 2 ∧ jobW D a b c (59 + 4 * (D 2).toNat + 3) = 0 ∧ (∀ i, i ≠ 2 → (i < 59 ∨ 83 ≤ i) → jobW D a b c i = D i) ∧ jobW D a b c 2 = D 2 + 1 := by
  obtain ⟨h1, h2, h3, h4, h5, h7⟩ := h
  obtain ⟨J, hJ⟩ : ∃ J : Nat, D 2 = (J : Int) := ⟨(D 2).toNat, by omega⟩
  have hJ6 : J < 6 := by omega
  have v2 : jobW D a b c 2 = (J : Int) + 1 := by unfold jobW; rw [setD_eq, hJ]
  have va : jobW D a b c (59 + 4 * J) = a := by unfold jobW; rw [hJ, Int.toNat_natCast, setD_ne (by omega), setD_ne (by omega), setD_ne (by omega), setD_eq]
  have vb : jobW D a b c (59 + 4 * J + 1) = b := by unfold jobW; rw [hJ, Int.toNat_natCast, setD_ne (by omega), setD_ne (by omega), setD_eq]
  have vc : jobW D a b c (59 + 4 * J + 2) = c := by unfold jobW; rw [hJ, Int.toNat_natCast, setD_ne (by omega), setD_eq]
  have o1 : ∀ i, i ≠ 2 → i ≠ 59 + 4 * J → i ≠ 59 + 4 * J + 1 → i ≠ 59 + 4 * J + 2 → jobW D a b c i = D i := fun i e1 e2 e3 e4 => by unfold jobW; rw [hJ, Int.toNat_natCast, setD_ne e1, setD_ne e4, setD_ne e3, setD_ne e2]
  have hj := h2 J hJ6
  rw [hJ, Int.toNat_natCast]
  generalize jobW D a b c = E at *
  refine ⟨⟨?_, fun j hj6 => ?_, fun o ho6 => ?_, fun o u ho6 hu6 he hlo hlu heq => ?_, fun mm hm6 => ?_, fun i hi => by rw [o1 i (by omega) (by omega) (by omega) (by omega)]; exact h7 i hi⟩, hJ6, by omega, by rw [o1 _ (by omega) (by omega) (by omega) (by omega)]; exact hj.2.2.2.2.2.2.2.2.2 (by omega), fun i e1 e2 => o1 i e1 (by omega) (by omega) (by omega), v2⟩
  · rw [o1 0 (by decide) (by omega) (by omega) (by omega), o1 1 (by decide) (by omega) (by omega) (by omega), o1 3 (by decide) (by omega) (by omega) (by omega), v2]; omega
  · obtain ⟨aa, bb, cc, dd, e, f, g, i, k, l⟩ := h2 j hj6
    rw [o1 (59 + 4 * j + 3) (by omega) (by omega) (by omega) (by omega), v2]
    by_cases ej : j = J
    · rw [ej, va, vb, vc]
      rw [ej] at l g i
      exact ⟨ha.1, ha.2, hb.1, hb.2, hc.1, hc.2, g, i, fun _ q => absurd rfl q, fun q => by omega⟩
    · rw [o1 (59 + 4 * j) (by omega) (by omega) (by omega) (by omega), o1 (59 + 4 * j + 1) (by omega) (by omega) (by omega) (by omega), o1 (59 + 4 * j + 2) (by omega) (by omega) (by omega) (by omega)]
      exact ⟨aa, bb, cc, dd, e, f, g, i, fun q _ => k (by omega) (by omega), fun q => l (by omega)⟩
  · rw [o1 (83 + 2 * o) (by omega) (by omega) (by omega) (by omega), o1 (83 + 2 * o + 1) (by omega) (by omega) (by omega) (by omega), o1 (59 + 4 * (o / 6) + 3) (by omega) (by omega) (by omega) (by omega), o1 0 (by decide) (by omega) (by omega) (by omega)]
    exact h3 o ho6
  · rw [o1 (59 + 4 * (o / 6) + 3) (by omega) (by omega) (by omega) (by omega)] at hlo
    rw [o1 (59 + 4 * (u / 6) + 3) (by omega) (by omega) (by omega) (by omega)] at hlu
    rw [o1 (83 + 2 * o) (by omega) (by omega) (by omega) (by omega), o1 (83 + 2 * u) (by omega) (by omega) (by omega) (by omega)] at heq
    exact h4 o u ho6 hu6 he hlo hlu heq
  · rw [o1 _ (by omega) (by omega) (by omega) (by omega), o1 _ (by omega) (by omega) (by omega) (by omega), o1 _ (by omega) (by omega) (by omega) (by omega)]
    obtain ⟨aa, bb, cc, dd, e, f⟩ := h5 mm hm6
    exact ⟨aa, bb, cc, dd, e, fun k hk => by rw [o1 _ (by omega) (by omega) (by omega) (by omega)]; exact f k hk⟩
theorem jobS_ok {T : Nat → Int} {L p s0 : Nat} {D : Nat → Int} {r : Nat × (Nat → Int)} (h : RDx D 6) (ho : jobS T L D p s0 = .ok r) : RDx r.2 6 ∧ (∀ i, i ≠ 2 → (i < 59 ∨ 155 ≤ i) → r.2 i = D i) ∧ p < r.1 ∧ r.1 ≤ L := by
  unfold jobS at ho
  by_cases e6 : D 2 = 6
  · rw [if_pos e6] at ho; cases ho
  · rw [if_neg e6] at ho
    obtain ⟨a, ha, ho⟩ := bnd_ok ho
    obtain ⟨b, hb, ho⟩ := bnd_ok ho
    obtain ⟨c, hc, ho⟩ := bnd_ok ho
    obtain ⟨-, -, -, a1, a2, a3, a4⟩ := numS_ok ha
    obtain ⟨-, -, -, b1, b2, b3, b4⟩ := numS_ok hb
    obtain ⟨-, -, -, c1, c2, c3, c4⟩ := numS_ok hc
    obtain ⟨j1, j2, j3, j4, j5, j6⟩ := jobW_ok h e6 ⟨a1, a2⟩ ⟨b1, b2⟩ ⟨c1, c2⟩
    obtain ⟨g1, g2, g3, g4⟩ := opsS_ok j2 7 (jobW D a.2 b.2 c.2) c.1 r j1 j3 (by rw [j4]; rfl) c4 ho
    exact ⟨g1, fun i hi hi2 => (g2 i hi2).trans (j5 i hi (by omega)), by omega, g4⟩
theorem machS_ok {T : Nat → Int} {L p : Nat} {D : Nat → Int} {r : Nat × (Nat → Int)} (h : RDx D 6) (ho : machS T L D p = .ok r) : RDx r.2 6 ∧ (∀ i, (i < 5 ∨ 59 ≤ i) → r.2 i = D i) ∧ p < r.1 ∧ r.1 ≤ L := by
  obtain ⟨h1, h2, h3, h4, h5, h7⟩ := h
  unfold machS at ho
  obtain ⟨a, ha, ho⟩ := bnd_ok ho
  obtain ⟨b, hb, ho⟩ := bnd_ok ho
  obtain ⟨c, hc, ho⟩ := bnd_ok ho
  obtain ⟨-, -, -, a1, a2, a3, a4⟩ := numS_ok ha
  obtain ⟨-, -, -, b1, b2, b3, b4⟩ := numS_ok hb
  obtain ⟨-, -, -, c1, c2, c3, c4⟩ := numS_ok hc
  cases ho
  simp only
  obtain ⟨M, hM⟩ : ∃ M : Nat, a.2 = (M : Int) := ⟨a.2.toNat, by omega⟩
  rw [hM, Int.toNat_natCast]
  have hM6 : M < 6 := by omega
  have o1 : ∀ i, i ≠ 5 + 9 * M → i ≠ 5 + 9 * M + 1 → setD (setD D (5 + 9 * M) (1 - b.2)) (5 + 9 * M + 1) c.2 i = D i := fun i e1 e2 => by rw [setD_ne e2, setD_ne e1]
  have v1 : setD (setD D (5 + 9 * M) (1 - b.2)) (5 + 9 * M + 1) c.2 (5 + 9 * M) = 1 - b.2 := by rw [setD_ne (by omega), setD_eq]
  have v2 : setD (setD D (5 + 9 * M) (1 - b.2)) (5 + 9 * M + 1) c.2 (5 + 9 * M + 1) = c.2 := setD_eq
  generalize setD (setD D (5 + 9 * M) (1 - b.2)) (5 + 9 * M + 1) c.2 = E at o1 v1 v2 ⊢
  have lo : ∀ i, (i < 5 ∨ 59 ≤ i) → E i = D i := fun i hi => o1 i (by omega) (by omega)
  refine ⟨⟨?_, fun j hj6 => ?_, fun o ho6 => ?_, fun o u ho6 hu6 he hlo hlu heq => ?_, fun mm hm6 => ?_, fun i hi => by rw [lo i (by omega)]; exact h7 i hi⟩, lo, by omega, c4⟩
  · rw [lo 0 (by decide), lo 1 (by decide), lo 2 (by decide), lo 3 (by decide)]; exact h1
  · rw [lo _ (by omega), lo _ (by omega), lo _ (by omega), lo _ (by omega), lo 2 (by decide)]; exact h2 j hj6
  · rw [lo _ (by omega), lo _ (by omega), lo _ (by omega), lo 0 (by decide)]; exact h3 o ho6
  · rw [lo _ (by omega)] at hlo hlu
    rw [lo _ (by omega), lo _ (by omega)] at heq
    exact h4 o u ho6 hu6 he hlo hlu heq
  · obtain ⟨aa, bb, cc, dd, e, f⟩ := h5 mm hm6
    rw [o1 (5 + 9 * mm + 2) (by omega) (by omega)]
    have f2 : ∀ k, k < 6 → E (5 + 9 * mm + 3 + k) = 0 := fun k hk => by rw [o1 _ (by omega) (by omega)]; exact f k hk
    by_cases em : mm = M
    · rw [em, v1, v2]
      rw [em] at e f2
      exact ⟨by omega, by omega, c1, c2, e, f2⟩
    · rw [o1 (5 + 9 * mm) (by omega) (by omega), o1 (5 + 9 * mm + 1) (by omega) (by omega)]
      exact ⟨aa, bb, cc, dd, e, f2⟩
theorem cdW_ok {D : Nat → Int} {cs : List Int} {L p p' : Nat} (h : RDx D 6) (hL : L ≤ 900) (hq : QR L p p' cs 11) : RDx (cdW D cs) 6 ∧ RCx (cdW D cs) cs := by
  have hl : (encL cs).length ≤ 1400 := by have := hq.2.2.1; have := hq.2.1; have := hq.1; omega
  obtain ⟨h1, h2, h3, h4, h5, h7⟩ := h
  have o1 : ∀ i, i ≠ 3 → i ≠ 4 → (i < 155 ∨ 155 + (encL cs).length ≤ i) → cdW D cs i = D i := fun i e1 e2 e3 => by unfold cdW; rw [if_neg e1, if_neg e2, if_neg (by omega)]
  have v3 : cdW D cs 3 = 1 := by unfold cdW; rw [if_pos rfl]
  have v4 : cdW D cs 4 = ((encL cs).length : Int) := by unfold cdW; rw [if_neg (by decide), if_pos rfl]
  have v5 : ∀ i, i < (encL cs).length → (encL cs)[i]? = some (cdW D cs (155 + i)) := fun i hi => by
    unfold cdW
    rw [if_neg (by omega), if_neg (by omega), if_pos (by omega), show 155 + i - 155 = i by omega]
    simp [List.getD, hi]
  have okc : okC cs := ⟨hq.2.2.2.2.1, by
    have := hq.2.2.2.2.2 0 [] (Nat.le_refl _)
    rw [List.append_nil] at this
    rw [this]; rfl⟩
  generalize cdW D cs = E at *
  have lo : ∀ i, i ≠ 3 → i ≠ 4 → i < 155 → E i = D i := fun i a b c => o1 i a b (Or.inl c)
  refine ⟨⟨?_, fun j hj6 => ?_, fun o ho6 => ?_, fun o u ho6 hu6 he hlo hlu heq => ?_, fun mm hm6 => ?_, fun i hi => by rw [o1 i (by omega) (by omega) (by omega)]; exact h7 i hi⟩, okc, by omega, by have := hq.2.2.2.1; have := hq.2.1; omega, fun q => by rw [v3] at q; exact absurd q (by decide), fun _ => ⟨v4, v5⟩⟩
  · rw [lo 0 (by decide) (by decide) (by decide), lo 1 (by decide) (by decide) (by decide), lo 2 (by decide) (by decide) (by decide), v3]; omega
  · rw [lo _ (by omega) (by omega) (by omega), lo _ (by omega) (by omega) (by omega), lo _ (by omega) (by omega) (by omega), lo _ (by omega) (by omega) (by omega), lo 2 (by decide) (by decide) (by decide)]; exact h2 j hj6
  · rw [lo _ (by omega) (by omega) (by omega), lo _ (by omega) (by omega) (by omega), lo _ (by omega) (by omega) (by omega), lo 0 (by decide) (by decide) (by decide)]; exact h3 o ho6
  · rw [lo _ (by omega) (by omega) (by omega)] at hlo hlu
    rw [lo _ (by omega) (by omega) (by omega), lo _ (by omega) (by omega) (by omega)] at heq
    exact h4 o u ho6 hu6 he hlo hlu heq
  · rw [lo _ (by omega) (by omega) (by omega), lo _ (by omega) (by omega) (by omega), lo _ (by omega) (by omega) (by omega)]
    obtain ⟨aa, bb, cc, dd, e, f⟩ := h5 mm hm6
    exact ⟨aa, bb, cc, dd, e, fun k hk => by rw [lo _ (by omega) (by omega) (by omega)]; exact f k hk⟩
theorem stmS_ok {T : Nat → Int} {L p : Nat} {D : Nat → Int} {cs : List Int} {r : Nat × (Nat → Int) × List Int} (h : RDx D 6) (hc : RCx D cs) (hL : L ≤ 900) (ho : stmS T L D cs p = .ok r) : RDx r.2.1 6 ∧ RCx r.2.1 r.2.2 ∧ p < r.1 ∧ r.1 ≤ L := by
  obtain ⟨x, hx, ho⟩ := bnd_ok ho
  obtain ⟨e, he, ho⟩ := bnd_ok ho
  cases ho
  obtain ⟨-, -, e3, e4⟩ := expS_ok (by decide) he
  have hsp := spc_ge (T := T) (L := L) (k := p)
  suffices hs : RDx x.2.1 6 ∧ RCx x.2.1 x.2.2 ∧ p ≤ x.1 from ⟨hs.1, hs.2.1, by have := hs.2.2; simp only; omega, e4⟩
  by_cases w3 : WD T L 3 (spc T L p)
  · rw [pIf_t w3] at hx
    obtain ⟨y, hy, hx⟩ := bnd_ok hx
    cases hx
    obtain ⟨j1, j2, j3, j4⟩ := jobS_ok h hy
    exact ⟨j1, hc.keep (j2 3 (by decide) (Or.inl (by decide))) (j2 4 (by decide) (Or.inl (by decide))) (fun i hi => j2 i (by omega) (Or.inr hi)), by simp only; omega⟩
  · rw [pIf_f w3] at hx
    by_cases w4 : WD T L 4 (spc T L p)
    · rw [pIf_t w4] at hx
      obtain ⟨y, hy, hx⟩ := bnd_ok hx
      cases hx
      obtain ⟨j1, j2, j3, j4⟩ := machS_ok h hy
      exact ⟨j1, hc.keep (j2 3 (Or.inl (by decide))) (j2 4 (Or.inl (by decide))) (fun i hi => j2 i (Or.inr (by omega))), by simp only; omega⟩
    · rw [pIf_f w4] at hx
      by_cases w1 : WD T L 1 (spc T L p) ∧ D 3 = 0
      · rw [pIf_t w1] at hx
        obtain ⟨y, hy, hx⟩ := bnd_ok hx
        cases hx
        have q := sumS_q (facS_q 4) hy
        obtain ⟨c1, c2⟩ := cdW_ok h hL q
        exact ⟨c1, c2, by have := q.1; simp only; omega⟩
      · rw [pIf_f w1] at hx; cases hx
theorem prgS_ok {T : Nat → Int} {L : Nat} (hL : L ≤ 900) : ∀ (n : Nat) (D : Nat → Int) (cs : List Int) (p : Nat) (r : (Nat → Int) × List Int), RDx D 6 → RCx D cs → prgS T L n D cs p = .ok r → RDx r.1 6 ∧ RCx r.1 r.2
  | 0, D, cs, p, r, h, hc, ho => by simp only [prgS] at ho; cases ho; exact ⟨h, hc⟩
  | n + 1, D, cs, p, r, h, hc, ho => by
    unfold prgS at ho
    by_cases e : bt T L (spc T L p) = -1
    · rw [if_pos e] at ho; cases ho; exact ⟨h, hc⟩
    · rw [if_neg e] at ho
      obtain ⟨x, hx, ho⟩ := bnd_ok ho
      obtain ⟨a, b, -, -⟩ := stmS_ok h hc hL hx
      exact prgS_ok hL n _ _ _ r a b ho
theorem okC1 : okC [-1] := ⟨fun c hc => by rw [List.mem_singleton] at hc; rw [hc]; exact ⟨by decide, by decide⟩, rfl⟩
/-- the head of a draft -/
def hdW (a b : Int) : Nat → Int := setD (setD (fun _ => 0) 0 a) 1 b
theorem hdW_ok {a b : Int} (ha : 1 ≤ a ∧ a ≤ 6) (hb : 0 ≤ b ∧ b ≤ 1) : RDx (hdW a b) 6 ∧ RCx (hdW a b) [-1] := by
  have v0 : hdW a b 0 = a := by unfold hdW; rw [setD_ne (by decide), setD_eq]
  have v1 : hdW a b 1 = b := setD_eq
  have o1 : ∀ i, 2 ≤ i → hdW a b i = 0 := fun i hi => by unfold hdW; rw [setD_ne (by omega), setD_ne (by omega)]
  generalize hdW a b = E at *
  refine ⟨⟨?_, fun j hj6 => ?_, fun o ho6 => ?_, fun o u ho6 hu6 he hlo hlu heq => ?_, fun mm hm6 => ?_, fun i hi => o1 i (by omega)⟩, okC1, by decide, by decide, fun _ => ⟨rfl, o1 4 (by decide)⟩, fun q => absurd (o1 3 (by decide)) q⟩
  · rw [v0, v1, o1 2 (by decide), o1 3 (by decide)]; omega
  · rw [o1 _ (by omega), o1 _ (by omega), o1 _ (by omega), o1 _ (by omega), o1 2 (by decide)]
    exact ⟨by decide, by decide, by decide, by decide, by decide, by decide, by decide, by decide, fun q => by omega, fun _ => rfl⟩
  · rw [o1 _ (by omega), o1 _ (by omega), o1 _ (by omega)]
    exact ⟨by decide, by decide, by decide, by decide, fun q => by omega⟩
  · rw [o1 _ (by omega)] at hlo
    omega
  · rw [o1 _ (by omega), o1 _ (by omega), o1 _ (by omega)]
    exact ⟨by decide, by decide, by decide, by decide, rfl, fun k hk => o1 _ (by omega)⟩
theorem lodS_ok {T : Nat → Int} {L : Nat} {r : (Nat → Int) × List Int} (hL : L ≤ 900) (ho : lodS T L = .ok r) : RDx r.1 6 ∧ RCx r.1 r.2 ∧ r.1 2 ≠ 0 := by
  unfold lodS at ho
  by_cases w7 : WD T L 7 (spc T L 0)
  · rw [pIf_t w7] at ho
    obtain ⟨a, ha, ho⟩ := bnd_ok ho
    obtain ⟨b, hb, ho⟩ := bnd_ok ho
    obtain ⟨e, he, ho⟩ := bnd_ok ho
    obtain ⟨x, hx, ho⟩ := bnd_ok ho
    obtain ⟨-, -, -, a1, a2, a3, a4⟩ := numS_ok ha
    obtain ⟨-, -, -, b1, b2, b3, b4⟩ := numS_ok hb
    obtain ⟨h1, h2⟩ := hdW_ok ⟨a1, a2⟩ ⟨b1, b2⟩
    obtain ⟨g1, g2⟩ := prgS_ok hL L _ _ _ x h1 h2 hx
    by_cases e0 : x.1 2 = 0
    · rw [if_pos e0] at ho; cases ho
    · rw [if_neg e0] at ho; cases ho; exact ⟨g1, g2, e0⟩
  · rw [pIf_f w7] at ho; cases ho
