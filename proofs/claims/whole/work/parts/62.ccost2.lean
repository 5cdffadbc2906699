/-! THE CLASS READS COST EXPRESSIONS -/
def KC (I : MM) (T : Nat → Int) (L p : Nat) (cs : List Int) : Prop := TK I T L p ∧ I 31 9 = (cs.length : Int) ∧ cs.length ≤ 900 ∧ ∀ i : Nat, i < cs.length → cs[i]? = some (I 33 i)
def KB (I : MM) (L : Nat) (e : Er) : Prop := TKb I L e ∧ 0 ≤ I 31 9 ∧ I 31 9 ≤ 900
def ccF (I J : MM) : Prop := (∀ r : Nat, r ≠ 31 → r ≠ 33 → J r = I r) ∧ ∀ i : Nat, (i < 2 ∨ i = 7 ∨ i = 8) → J 31 i = I 31 i
theorem ccF.refl (I : MM) : ccF I I := ⟨fun _ _ _ => rfl, fun _ _ => rfl⟩
theorem ccF.trans {A B C : MM} (h : ccF A B) (k : ccF B C) : ccF A C := ⟨fun r a b => (k.1 r a b).trans (h.1 r a b), fun i a => (k.2 i a).trans (h.2 i a)⟩
theorem tcF.cc {I J : MM} (h : tcF I J) : ccF I J := ⟨fun r a _ => h.1 r a, fun i a => h.2 i (by omega)⟩
section M3
variable {Γ : GG} {P : MP} {I : MM} {R : Int → MM → Prop} {Rv : MM → Prop} {T : Nat → Int} {L p : Nat}
theorem KC.t {J : MM} {cs : List Int} {q : Nat} (h : KC I T L p cs) (k : tcF I J) (t : TK J T L q) : KC J T L q cs := ⟨t, by rw [k.2 9 (by decide)]; exact h.2.1, h.2.2.1, fun i hi => by rw [k.1 33 (by decide)]; exact h.2.2.2 i hi⟩
theorem KC.b {J : MM} {cs : List Int} {e : Er} (h : KC I T L p cs) (k : tcF I J) (t : TKb J L e) : KB J L e := ⟨t, by rw [k.2 9 (by decide), h.2.1]; omega, by rw [k.2 9 (by decide), h.2.1]; have := h.2.2.1; omega⟩
theorem KB.t {J : MM} {e e' : Er} (h : KB I L e) (k : tcF I J) (t : TKb J L e') : KB J L e' := ⟨t, by rw [k.2 9 (by decide)]; exact h.2.1, by rw [k.2 9 (by decide)]; exact h.2.2⟩
theorem d_add0 (hr : LRead Γ P) {e : Er} (h : KB I L e) {c : Int} (hR : ∀ J, ccF I J → KB J L e → Rv J) : Cl Γ m_X3_addToCost [vR 31, vI c] P I (rv P Rv) := by
  obtain ⟨t, a, b⟩ := h
  refine cl_of n_X3_addToCost (Nat.le_of_ble_eq_true rfl) (t_X3_addToCost_0 hr ⟨⟨by omega, by omega⟩, fun z => hR I (ccF.refl I) ⟨t, a, b⟩, fun z => ⟨a, by omega, ?_⟩⟩)
  intro A hA B hB
  have a9 : A 31 9 = I 31 9 := by rw [hA, up2_ne (by decide)]
  rw [a9] at hB
  refine hR B ⟨fun r x y => by rw [hB, up2_ne x, hA, up2_ne y], fun i hi => by rw [hB, up2_nj (by omega), hA, up2_ne (by decide)]⟩ ⟨t.k (fun i hi => by rw [hB, up2_nj (by omega), hA, up2_ne (by decide)]), by rw [hB, up2_eq]; omega, by rw [hB, up2_eq]; omega⟩
theorem d_add (hr : LRead Γ P) {cs : List Int} (h : KC I T L p cs) (hl : cs.length < 900) {c : Int} (hR : ∀ J, ccF I J → KC J T L p (cs ++ [c]) → Rv J) : Cl Γ m_X3_addToCost [vR 31, vI c] P I (rv P Rv) := by
  obtain ⟨t, a, b, d⟩ := h
  refine cl_of n_X3_addToCost (Nat.le_of_ble_eq_true rfl) (t_X3_addToCost_0 hr ?_)
  rw [a]
  refine ⟨⟨by omega, by omega⟩, fun z => by omega, fun z => ⟨by omega, by omega, ?_⟩⟩
  intro A hA B hB
  rw [Int.toNat_natCast] at hA
  have a9 : A 31 9 = (cs.length : Int) := by rw [hA, up2_ne (by decide)]; exact a
  rw [a9] at hB
  have f31 : ∀ i, i ≠ 9 → B 31 i = I 31 i := fun i hi => by rw [hB, up2_nj hi, hA, up2_ne (by decide)]
  have fr : ∀ r, r ≠ 31 → r ≠ 33 → B r = I r := fun r x y => by rw [hB, up2_ne x, hA, up2_ne y]
  refine hR B ⟨fr, fun i hi => f31 i (by omega)⟩ ⟨?_, by rw [hB, up2_eq, List.length_append]; push_cast; rfl, by rw [List.length_append]; simp only [List.length_cons, List.length_nil]; omega, fun i hi => ?_⟩
  · obtain ⟨⟨x1, x2, x3⟩, t5, t6, tp, t2, t3, t4⟩ := t
    exact ⟨⟨fun k hk => by rw [fr 32 (by decide) (by decide)]; exact x1 k hk, by rw [f31 1 (by decide)]; exact x2, x3⟩, by rw [f31 5 (by decide)]; exact t5, by rw [f31 6 (by decide)]; exact t6, tp, by rw [f31 2 (by decide)]; exact t2, by rw [f31 3 (by decide)]; exact t3, by rw [f31 4 (by decide)]; exact t4⟩
  · rw [List.length_append] at hi
    simp only [List.length_cons, List.length_nil] at hi
    rw [hB, up2_ne (by decide), hA, up2_row]
    by_cases e : i = cs.length
    · rw [e, setF_eq]; simp
    · rw [setF_ne e, List.getElem?_append_left (by omega)]
      exact d i (by omega)
/-- a part of an expression -/
def FD (Γ : GG) (P : MP) (T : Nat → Int) (L : Nat) (μ : MI) (f : Nat → Except Er (Nat × List Int)) (dep : Int) : Prop :=
  ∀ (I : MM) (p : Nat) (acc : List Int) (Rv : MM → Prop), KC I T L p acc → acc.length ≤ p →
    (∀ J r, f p = .ok r → ccF I J → KC J T L r.1 (acc ++ r.2) → Rv J) → (∀ J e, f p = .error e → ccF I J → KB J L e → Rv J) → Cl Γ μ [vR 31, vI dep] P I (rv P Rv)
theorem dt_loop (hr : LRead Γ P) {dd : Nat} {f : Nat → Except Er (Nat × List Int)} {dep : Int} {k : Nat} (hf : ∀ p r, f p = .ok r → QR L p r.1 r.2 k) (hF : FD Γ P T L (m_X3_readFactor dd) f dep) {a0 : List Int} {p0 : Nat} (h0 : a0.length ≤ p0) {I0 : MM} :
    ∀ (n x : Nat) (p : Nat) (acc : List Int) (I : MM) (Rv : MM → Prop), x + n = L → ccF I0 I → KC I T L p (a0 ++ acc) → QR L p0 p acc (k + 1) →
      (∀ J r, lopS T L f 42 47 (-7) (-8) n p acc = .ok r → ccF I0 J → KC J T L r.1 (a0 ++ r.2) → Rv J) → (∀ J e, lopS T L f 42 47 (-7) (-8) n p acc = .error e → ccF I0 J → KB J L e → Rv J) → XM Γ (m_X3_readTerm dd) 0 0 7 [(0, vR 31), (1, vI dep), (2, vI (x : Int))] [] P I (rv P Rv) := by
  intro n
  induction n with
  | zero =>
    intro x p acc I Rv hx hc hK hq h1 h2
    have h9 := hK.1.l9
    refine t_X3_readTerm_7 hr ?_
    rw [hK.1.1.2.1]
    exact ⟨⟨by omega, by omega⟩, ⟨by omega, by omega⟩, fun _ => h1 I (p, acc) rfl hc hK, fun z => absurd (by omega) z⟩
  | succ n ih =>
    intro x p acc I Rv hx hc hK hq h1 h2
    have h9 := hK.1.l9
    have hb := tkK_b (T := T) (L := L) (p := p)
    have s1 := tkK_sign (p := p) (c := 42) hK.1.1.2.2.2 h9 (by decide) (by decide) (by decide)
    have s2 := tkK_sign (p := p) (c := 47) hK.1.1.2.2.2 h9 (by decide) (by decide) (by decide)
    unfold lopS at h1 h2
    have step : ∀ (c : Int), (if bt T L (spc T L p) = 42 then (-7 : Int) else -8) = c → -8 ≤ c ∧ c ≤ -5 → (bt T L (spc T L p) = 42 ∨ bt T L (spc T L p) = 47) → Cl Γ m_X3_next [vR 31] P I (rv P (fun (I13 : MM) => (Cl Γ (m_X3_readFactor dd) [vR 31, vI dep] P I13 (rv P (fun (I14 : MM) => (Cl Γ m_X3_addToCost [vR 31, vI c] P I14 (rv P (fun (I15 : MM) => XM Γ (m_X3_readTerm dd) 0 0 7 [(0, vR 31), (1, vI dep), (2, vI ((x : Int) + 1))] [] P I15 (rv P Rv))))))))) := by
      intro c hcc hcb hop
      rw [if_pos hop, hcc] at h1 h2
      have hge := spc_ge (T := T) (L := L) (k := p)
      have te : tkE T L p = spc T L p + 1 := by
        rcases hop with z | z
        · exact tkE_sign (c := 42) (by decide) (by decide) (by decide) z
        · exact tkE_sign (c := 47) (by decide) (by decide) (by decide) z
      refine d_take hr hK.1 (fun A tA kA => ?_)
      rw [te] at kA
      have ql := hq.2.2.2.1
      have ql1 := hq.1
      refine hF A (spc T L p + 1) (a0 ++ acc) _ (hK.t tA kA) (by rw [List.length_append]; omega) (fun J r hr2 j1 j2 => ?_) (fun J e he j1 j2 => ?_)
      · rw [hr2] at h1 h2
        have q1 := hf _ _ hr2
        have q2 := QR.op hq hge q1 hcb
        have room : (a0 ++ acc ++ r.2).length < 900 := by
          have w1 := q1.2.2.2.1
          have w2 := q1.1
          have w3 := q1.2.1
          rw [List.length_append, List.length_append]; omega
        refine d_add hr j2 room (fun K k1 k2 => ?_)
        have := ih (x + 1) r.1 (acc ++ r.2 ++ [c]) K Rv (by omega) (((hc.trans tA.cc).trans j1).trans k1) (by rw [List.append_assoc, List.append_assoc] at k2; rw [List.append_assoc]; exact k2) q2 h1 h2
        push_cast at this
        exact this
      · rw [he] at h2
        refine d_add0 hr j2 (fun K k1 k2 => t_X3_readTerm_7 hr ?_)
        rw [k2.1.2.2.2.2.2.1, k2.1.1]
        exact ⟨⟨by omega, by omega⟩, ⟨by omega, by omega⟩, fun _ => h2 K e rfl (((hc.trans tA.cc).trans j1).trans k1) k2, fun _ => ⟨⟨by decide, by decide⟩, fun z => absurd z (by decide), fun _ => ⟨fun _ => h2 K e rfl (((hc.trans tA.cc).trans j1).trans k1) k2, fun z => absurd z (by decide)⟩⟩⟩
    refine t_X3_readTerm_7 hr ?_
    rw [hK.1.1.2.1, hK.1.2.2.2.2.2.2]
    refine ⟨⟨by omega, by omega⟩, ⟨by omega, by omega⟩, fun z => absurd z (by omega), fun _ => ⟨⟨by omega, by omega⟩, fun z => ⟨fun y => absurd z y, fun _ => ?_⟩, fun z => ⟨fun y => ?_, fun y => ⟨fun _ => ?_, fun w => absurd w z⟩⟩⟩⟩
    · exact step (-7) (if_pos (s1.mp z)) (by decide) (Or.inl (s1.mp z))
    · rw [if_neg (fun q => q.elim (fun a => z (s1.mpr a)) (fun a => y (s2.mpr a)))] at h1
      exact h1 I (p, acc) rfl hc hK
    · exact step (-8) (if_neg (fun a => z (s1.mpr a))) (by decide) (Or.inr (s2.mp y))
theorem d_term (hr : LRead Γ P) {dd : Nat} {f : Nat → Except Er (Nat × List Int)} {dep : Int} {k : Nat} (hf : ∀ p r, f p = .ok r → QR L p r.1 r.2 k) (hF : FD Γ P T L (m_X3_readFactor dd) f dep) : FD Γ P T L (m_X3_readTerm dd) (trmS T L f) dep := by
  intro I p acc Rv hK hl h1 h2
  unfold trmS at h1 h2
  refine cl_of n_X3_readTerm (Nat.le_of_ble_eq_true rfl) (t_X3_readTerm_0 hr (hF I p acc _ hK hl (fun J r hr2 j1 j2 => ?_) (fun J e he j1 j2 => ?_)))
  · rw [hr2] at h1 h2
    exact dt_loop hr hf hF hl L 0 r.1 r.2 J Rv (Nat.zero_add _) j1 j2 ((hf _ _ hr2).wide (by omega)) h1 h2
  · rw [he] at h2
    have h9 := j2.1.2.2.2.2.2.2
    refine t_X3_readTerm_7 hr ?_
    rw [j2.1.2.2.2.2.2.1, j2.1.1]
    exact ⟨⟨by decide, by decide⟩, ⟨by omega, by omega⟩, fun _ => h2 J e rfl j1 j2, fun _ => ⟨⟨by decide, by decide⟩, fun z => absurd z (by decide), fun _ => ⟨fun _ => h2 J e rfl j1 j2, fun z => absurd z (by decide)⟩⟩⟩
theorem ds_loop (hr : LRead Γ P) {dd : Nat} {f : Nat → Except Er (Nat × List Int)} {dep : Int} {k : Nat} (hf : ∀ p r, f p = .ok r → QR L p r.1 r.2 k) (hF : FD Γ P T L (m_X3_readTerm dd) f dep) {a0 : List Int} {p0 : Nat} (h0 : a0.length ≤ p0) {I0 : MM} :
    ∀ (n x : Nat) (p : Nat) (acc : List Int) (I : MM) (Rv : MM → Prop), x + n = L → ccF I0 I → KC I T L p (a0 ++ acc) → QR L p0 p acc (k + 1) →
      (∀ J r, lopS T L f 43 45 (-5) (-6) n p acc = .ok r → ccF I0 J → KC J T L r.1 (a0 ++ r.2) → Rv J) → (∀ J e, lopS T L f 43 45 (-5) (-6) n p acc = .error e → ccF I0 J → KB J L e → Rv J) → XM Γ (m_X3_readSum dd) 0 0 7 [(0, vR 31), (1, vI dep), (2, vI (x : Int))] [] P I (rv P Rv) := by
  intro n
  induction n with
  | zero =>
    intro x p acc I Rv hx hc hK hq h1 h2
    have h9 := hK.1.l9
    refine t_X3_readSum_7 hr ?_
    rw [hK.1.1.2.1]
    exact ⟨⟨by omega, by omega⟩, ⟨by omega, by omega⟩, fun _ => h1 I (p, acc) rfl hc hK, fun z => absurd (by omega) z⟩
  | succ n ih =>
    intro x p acc I Rv hx hc hK hq h1 h2
    have h9 := hK.1.l9
    have hb := tkK_b (T := T) (L := L) (p := p)
    have s1 := tkK_sign (p := p) (c := 43) hK.1.1.2.2.2 h9 (by decide) (by decide) (by decide)
    have s2 := tkK_sign (p := p) (c := 45) hK.1.1.2.2.2 h9 (by decide) (by decide) (by decide)
    unfold lopS at h1 h2
    have step : ∀ (c : Int), (if bt T L (spc T L p) = 43 then (-5 : Int) else -6) = c → -8 ≤ c ∧ c ≤ -5 → (bt T L (spc T L p) = 43 ∨ bt T L (spc T L p) = 45) → Cl Γ m_X3_next [vR 31] P I (rv P (fun (I13 : MM) => (Cl Γ (m_X3_readTerm dd) [vR 31, vI dep] P I13 (rv P (fun (I14 : MM) => (Cl Γ m_X3_addToCost [vR 31, vI c] P I14 (rv P (fun (I15 : MM) => XM Γ (m_X3_readSum dd) 0 0 7 [(0, vR 31), (1, vI dep), (2, vI ((x : Int) + 1))] [] P I15 (rv P Rv))))))))) := by
      intro c hcc hcb hop
      rw [if_pos hop, hcc] at h1 h2
      have hge := spc_ge (T := T) (L := L) (k := p)
      have te : tkE T L p = spc T L p + 1 := by
        rcases hop with z | z
        · exact tkE_sign (c := 43) (by decide) (by decide) (by decide) z
        · exact tkE_sign (c := 45) (by decide) (by decide) (by decide) z
      refine d_take hr hK.1 (fun A tA kA => ?_)
      rw [te] at kA
      have ql := hq.2.2.2.1
      have ql1 := hq.1
      refine hF A (spc T L p + 1) (a0 ++ acc) _ (hK.t tA kA) (by rw [List.length_append]; omega) (fun J r hr2 j1 j2 => ?_) (fun J e he j1 j2 => ?_)
      · rw [hr2] at h1 h2
        have q1 := hf _ _ hr2
        have q2 := QR.op hq hge q1 hcb
        have room : (a0 ++ acc ++ r.2).length < 900 := by
          have w1 := q1.2.2.2.1
          have w2 := q1.1
          have w3 := q1.2.1
          rw [List.length_append, List.length_append]; omega
        refine d_add hr j2 room (fun K k1 k2 => ?_)
        have := ih (x + 1) r.1 (acc ++ r.2 ++ [c]) K Rv (by omega) (((hc.trans tA.cc).trans j1).trans k1) (by rw [List.append_assoc, List.append_assoc] at k2; rw [List.append_assoc]; exact k2) q2 h1 h2
        push_cast at this
        exact this
      · rw [he] at h2
        refine d_add0 hr j2 (fun K k1 k2 => t_X3_readSum_7 hr ?_)
        rw [k2.1.2.2.2.2.2.1, k2.1.1]
        exact ⟨⟨by omega, by omega⟩, ⟨by omega, by omega⟩, fun _ => h2 K e rfl (((hc.trans tA.cc).trans j1).trans k1) k2, fun _ => ⟨⟨by decide, by decide⟩, fun z => absurd z (by decide), fun _ => ⟨fun _ => h2 K e rfl (((hc.trans tA.cc).trans j1).trans k1) k2, fun z => absurd z (by decide)⟩⟩⟩
    refine t_X3_readSum_7 hr ?_
    rw [hK.1.1.2.1, hK.1.2.2.2.2.2.2]
    refine ⟨⟨by omega, by omega⟩, ⟨by omega, by omega⟩, fun z => absurd z (by omega), fun _ => ⟨⟨by omega, by omega⟩, fun z => ⟨fun y => absurd z y, fun _ => ?_⟩, fun z => ⟨fun y => ?_, fun y => ⟨fun _ => ?_, fun w => absurd w z⟩⟩⟩⟩
    · exact step (-5) (if_pos (s1.mp z)) (by decide) (Or.inl (s1.mp z))
    · rw [if_neg (fun q => q.elim (fun a => z (s1.mpr a)) (fun a => y (s2.mpr a)))] at h1
      exact h1 I (p, acc) rfl hc hK
    · exact step (-6) (if_neg (fun a => z (s1.mpr a))) (by decide) (Or.inr (s2.mp y))
theorem d_sum1 (hr : LRead Γ P) {dd : Nat} {f : Nat → Except Er (Nat × List Int)} {dep : Int} {k : Nat} (hf : ∀ p r, f p = .ok r → QR L p r.1 r.2 k) (hF : FD Γ P T L (m_X3_readTerm dd) f dep) : FD Γ P T L (m_X3_readSum dd) (sumS0 T L f) dep := by
  intro I p acc Rv hK hl h1 h2
  unfold sumS0 at h1 h2
  refine cl_of n_X3_readSum (Nat.le_of_ble_eq_true rfl) (t_X3_readSum_0 hr (hF I p acc _ hK hl (fun J r hr2 j1 j2 => ?_) (fun J e he j1 j2 => ?_)))
  · rw [hr2] at h1 h2
    exact ds_loop hr hf hF hl L 0 r.1 r.2 J Rv (Nat.zero_add _) j1 j2 ((hf _ _ hr2).wide (by omega)) h1 h2
  · rw [he] at h2
    have h9 := j2.1.2.2.2.2.2.2
    refine t_X3_readSum_7 hr ?_
    rw [j2.1.2.2.2.2.2.1, j2.1.1]
    exact ⟨⟨by decide, by decide⟩, ⟨by omega, by omega⟩, fun _ => h2 J e rfl j1 j2, fun _ => ⟨⟨by decide, by decide⟩, fun z => absurd z (by decide), fun _ => ⟨fun _ => h2 J e rfl j1 j2, fun z => absurd z (by decide)⟩⟩⟩
theorem d_sum2 (hr : LRead Γ P) {dd : Nat} {f : Nat → Except Er (Nat × List Int)} {dep : Int} {k : Nat} (hf : ∀ p r, f p = .ok r → QR L p r.1 r.2 k) (hF : FD Γ P T L (m_X3_readFactor dd) f dep) : FD Γ P T L (m_X3_readSum dd) (sumS T L f) dep :=
  d_sum1 hr (k := k + 1) (fun p r h => trmS_q hf h) (d_term hr hf hF)
theorem nameS_wd {T : Nat → Int} {L s : Nat} : nameS T L s = pIf (WD T L 0 s) (.ok (s + lenS.getD 0 0, [-1])) (pIf (WD T L 2 s) (.ok (s + lenS.getD 2 0, [-2])) (pIf (WD T L 8 s) (.ok (s + lenS.getD 8 0, [-3])) (pIf (WD T L 6 s) (.ok (s + lenS.getD 6 0, [-4])) (.error (-2, s))))) := rfl
theorem d_readName (hr : LRead Γ P) {acc : List Int} (hK : KC I T L p acc) (hl : acc.length < 900) (h1 : ∀ J r, nameS T L (spc T L p) = .ok r → ccF I J → KC J T L r.1 (acc ++ r.2) → Rv J) (h0 : ∀ J e, nameS T L (spc T L p) = .error e → ccF I J → KB J L e → Rv J) : Cl Γ m_X3_readName [vR 31] P I (rv P Rv) := by
  rw [nameS_wd] at h1 h0
  have go : ∀ (i : Nat) (c : Int), i < 9 → WD T L i (spc T L p) → (∀ J, ccF I J → KC J T L (spc T L p + lenS.getD i 0) (acc ++ [c]) → Rv J) → Cl Γ m_X3_addToCost [vR 31, vI c] P I (rv P (fun (I29 : MM) => (Cl Γ m_X3_next [vR 31] P I29 (rv P (fun (I30 : MM) => Rv I30))))) := by
    intro i c hi hw hk
    refine d_add hr hK hl (fun J j1 j2 => d_take hr j2.1 (fun A tA kA => ?_))
    rw [tkE_WD hi hw] at kA
    exact hk A (j1.trans tA.cc) (j2.t tA kA)
  refine cl_of n_X3_readName (Nat.le_of_ble_eq_true rfl) (t_X3_readName_0 hr ?_)
  refine d_isWord hr hK.1 (by decide) (fun w0 => ⟨⟨by decide, by decide⟩, fun x => absurd x (by decide), fun _ => ?_⟩) (fun w0 => ⟨⟨by decide, by decide⟩, fun _ => ?_, fun x => absurd rfl x⟩)
  · rw [pIf_t w0] at h1
    exact go 0 (-1) (by decide) w0 (fun J a b => h1 J _ rfl a b)
  · rw [pIf_f w0] at h1 h0
    refine d_isWord hr hK.1 (by decide) (fun w1 => ⟨⟨by decide, by decide⟩, fun x => absurd x (by decide), fun _ => ?_⟩) (fun w1 => ⟨⟨by decide, by decide⟩, fun _ => ?_, fun x => absurd rfl x⟩)
    · rw [pIf_t w1] at h1
      exact go 2 (-2) (by decide) w1 (fun J a b => h1 J _ rfl a b)
    · rw [pIf_f w1] at h1 h0
      refine d_isWord hr hK.1 (by decide) (fun w2 => ⟨⟨by decide, by decide⟩, fun x => absurd x (by decide), fun _ => ?_⟩) (fun w2 => ⟨⟨by decide, by decide⟩, fun _ => ?_, fun x => absurd rfl x⟩)
      · rw [pIf_t w2] at h1
        exact go 8 (-3) (by decide) w2 (fun J a b => h1 J _ rfl a b)
      · rw [pIf_f w2] at h1 h0
        refine d_isWord hr hK.1 (by decide) (fun w3 => ⟨⟨by decide, by decide⟩, fun x => absurd x (by decide), fun _ => ?_⟩) (fun w3 => ⟨⟨by decide, by decide⟩, fun _ => ?_, fun x => absurd rfl x⟩)
        · rw [pIf_t w3] at h1
          exact go 6 (-4) (by decide) w3 (fun J a b => h1 J _ rfl a b)
        · rw [pIf_f w3] at h0
          refine d_fail hr hK.1 ⟨by decide, by decide, by decide⟩ (fun J j1 j2 => d_next0 hr j2 ?_)
          exact h0 J _ rfl j1.cc (hK.b j1 j2)
theorem d_fac1 (hr : LRead Γ P) {d : Nat} (hd : d ≤ 4) (hS : ∀ c : Nat, d = c + 1 → FD Γ P T L (m_X3_readSum (d + 1)) (sumS T L (facS T L c)) (4 - (c : Int))) : FD Γ P T L (m_X3_readFactor (d + 2)) (facS T L d) (4 - (d : Int)) := by
  intro I p acc Rv hK hlen h1 h2
  have h9 := hK.1.l9
  have hsp := hK.1.sp
  have hge := spc_ge (T := T) (L := L) (k := p)
  have hb := tkK_b (T := T) (L := L) (p := p)
  have s40 := tkK_sign (p := p) (c := 40) hK.1.1.2.2.2 h9 (by decide) (by decide) (by decide)
  rw [facS_eq] at h1 h2
  have leaf : ¬ tkK T L p = 40 → (((tkK T L p) ≠ 40 → (((tkK T L p) ≠ (-1001) → (Cl Γ m_X3_readName [vR 31] P I (rv P (fun (I8 : MM) => Rv I8)))) ∧ ((tkK T L p) = (-1001) → (Cl Γ m_X3_readNumber [vR 31, vI 0, vI 9999] P I (ri P (fun (z9 : Int) (I10 : MM) => (Cl Γ m_X3_addToCost [vR 31, vI z9] P I10 (rv P (fun (I11 : MM) => Rv I11))))))))) ) := by
    intro z _
    rw [if_neg (fun q => z (s40.mpr q))] at h1 h2
    unfold lefS at h1 h2
    refine ⟨fun y => ?_, fun y => ?_⟩
    · have nd : ¬ isDg T L (spc T L p) = true := fun q => y (tkK_num.mpr q)
      rw [if_neg nd] at h1 h2
      by_cases hlt : spc T L p < L
      · exact d_readName hr hK (by omega) h1 h2
      · -- the end: no name
        have nw : ∀ i, i < 9 → ¬ WD T L i (spc T L p) := fun i hi w => by have := WD_end hi w; omega
        rw [nameS_wd, pIf_f (nw 0 (by decide)), pIf_f (nw 2 (by decide)), pIf_f (nw 8 (by decide)), pIf_f (nw 6 (by decide))] at h2
        refine cl_of n_X3_readName (Nat.le_of_ble_eq_true rfl) (t_X3_readName_0 hr ?_)
        refine d_isWord hr hK.1 (by decide) (fun w => absurd w (nw 0 (by decide))) (fun _ => ⟨⟨by decide, by decide⟩, fun _ => ?_, fun x => absurd rfl x⟩)
        refine d_isWord hr hK.1 (by decide) (fun w => absurd w (nw 2 (by decide))) (fun _ => ⟨⟨by decide, by decide⟩, fun _ => ?_, fun x => absurd rfl x⟩)
        refine d_isWord hr hK.1 (by decide) (fun w => absurd w (nw 8 (by decide))) (fun _ => ⟨⟨by decide, by decide⟩, fun _ => ?_, fun x => absurd rfl x⟩)
        refine d_isWord hr hK.1 (by decide) (fun w => absurd w (nw 6 (by decide))) (fun _ => ⟨⟨by decide, by decide⟩, fun _ => ?_, fun x => absurd rfl x⟩)
        refine d_fail hr hK.1 ⟨by decide, by decide, by decide⟩ (fun J j1 j2 => d_next0 hr j2 ?_)
        exact h2 J _ rfl j1.cc (hK.b j1 j2)
    · have hd2 := tkK_num.mp y
      have hlt := dg_lt hd2
      rw [if_pos hd2] at h1 h2
      refine d_readNumber hr hK.1 (by decide) (by decide) (fun J r hr2 j1 j2 => ?_) (fun J e he j1 j2 => ?_)
      · rw [hr2] at h1
        exact d_add hr (hK.t j1 j2) (by omega) (fun K k1 k2 => h1 K (r.1, [r.2]) rfl (j1.cc.trans k1) k2)
      · rw [he] at h2
        exact d_add0 hr (hK.b j1 j2) (fun K k1 k2 => h2 K e rfl (j1.cc.trans k1) k2)
  refine cl_of n_X3_readFactor (Nat.le_of_ble_eq_true rfl) (t_X3_readFactor_0 hr ?_)
  rw [hK.1.2.2.2.2.2.2]
  refine ⟨⟨by omega, by omega⟩, fun z => ⟨leaf z, fun y => absurd y z⟩, fun z => ⟨⟨by omega, by omega⟩, fun y => ⟨fun w => absurd z w, fun _ => ?_⟩, fun y => ?_⟩⟩
  · have b40 := s40.mp z
    rw [if_pos b40] at h1 h2
    match d, hd, hS, h1, h2, y with
    | 0, _, _, _, _, y => omega
    | c + 1, hd, hS, h1, h2, y =>
      simp only [parS] at h1 h2
      have te := tkE_sign (T := T) (L := L) (p := p) (c := 40) (by decide) (by decide) (by decide) b40
      refine d_take hr hK.1 (fun A tA kA => ?_)
      rw [te] at kA
      rw [show 4 - (((c + 1 : Nat) : Int)) + 1 = 4 - (c : Int) by push_cast; omega]
      refine hS c rfl A (spc T L p + 1) acc _ (hK.t tA kA) (by omega) (fun J r hr2 j1 j2 => ?_) (fun J e he j1 j2 => ?_)
      · rw [hr2] at h1 h2
        refine d_expect hr j2.1 (by decide) (by decide) (by decide) (fun K e he k1 k2 => ?_) (fun K e he k1 k2 => ?_)
        · simp only [bnd] at h1
          rw [he] at h1
          exact h1 K (e, r.2) rfl ((tA.cc.trans j1).trans k1.cc) (j2.t k1 k2)
        · simp only [bnd] at h2
          rw [he] at h2
          exact h2 K e rfl ((tA.cc.trans j1).trans k1.cc) (j2.b k1 k2)
      · rw [he] at h2
        exact d_expect0 hr j2.1 (by decide) (fun K k1 k2 => h2 K e rfl ((tA.cc.trans j1).trans k1.cc) (j2.t k1 k2))
  · have hd0 : d = 0 := by omega
    subst hd0
    rw [if_pos (s40.mp z)] at h2
    simp only [parS] at h2
    exact d_fail hr hK.1 ⟨by decide, by decide, by decide⟩ (fun J j1 j2 => h2 J _ rfl j1.cc (hK.b j1 j2))
theorem d_factor (hr : LRead Γ P) : ∀ d : Nat, d ≤ 4 → FD Γ P T L (m_X3_readFactor (d + 2)) (facS T L d) (4 - (d : Int))
  | 0, h => d_fac1 hr h (fun c hc => absurd hc (Nat.succ_ne_zero c).symm)
  | d + 1, h => d_fac1 hr h (fun c hc => by
    have e : c = d := by omega
    subst e
    exact d_sum2 hr (facS_q c) (d_factor hr c (by omega)))
theorem d_sum6 (hr : LRead Γ P) : FD Γ P T L (m_X3_readSum 6) (sumS T L (facS T L 4)) 0 := d_sum2 hr (facS_q 4) (d_factor hr 4 (Nat.le_refl _))
end M3
