/-! COST EXPRESSIONS: what the text says of them is well formed; the reference's emit, factor, term, sum -/
/-- codes from p to p', that need k places -/
def QR (L p p' : Nat) (cs : List Int) (k : Nat) : Prop := p < p' ∧ p' ≤ L ∧ 2 * (encL cs).length ≤ 3 * (p' - p) + 1 ∧ cs.length ≤ p' - p ∧ (∀ c, c ∈ cs → -8 ≤ c ∧ c ≤ 9999) ∧ ∀ (d : Nat) (rest : List Int), d + k ≤ 11 → dpF (cs ++ rest) d = dpF rest (d + 1)
theorem encL_app (a b : List Int) : encL (a ++ b) = encL a ++ encL b := by unfold encL; rw [List.flatMap_append]
theorem encL_one (c : Int) : encL [c] = encF c := by unfold encL; simp
theorem QR.one {L p p' k : Nat} {c : Int} (h1 : p < p') (h2 : p' ≤ L) (hc : -5 < c ∧ c ≤ 9999) (hk : 1 ≤ k) : QR L p p' [c] k := by
  refine ⟨h1, h2, ?_, by simp; omega, fun x hx => ?_, fun d rest hd => ?_⟩
  · rw [encL_one, encF_len, if_pos hc.1]; omega
  · rw [List.mem_singleton] at hx; rw [hx]; omega
  · show dpF (c :: rest) d = _
    simp only [dpF]
    rw [if_pos hc.1, if_pos (by omega)]
theorem QR.wide {L p p' k k2 : Nat} {cs : List Int} (h : QR L p p' cs k) (hk : k ≤ k2) : QR L p p' cs k2 := ⟨h.1, h.2.1, h.2.2.1, h.2.2.2.1, h.2.2.2.2.1, fun d rest hd => h.2.2.2.2.2 d rest (by omega)⟩
theorem QR.grow {L p0 p p' e k : Nat} {cs : List Int} (h : QR L p p' cs k) (h0 : p0 ≤ p) (he : p' ≤ e) (hL : e ≤ L) : QR L p0 e cs k :=
  ⟨by have := h.1; omega, hL, by have := h.2.2.1; have := h.1; omega, by have := h.2.2.2.1; omega, h.2.2.2.2.1, h.2.2.2.2.2⟩
theorem QR.op {L p p1 s p2 k : Nat} {a b : List Int} {o : Int} (ha : QR L p p1 a (k + 1)) (hs : p1 ≤ s) (hb : QR L (s + 1) p2 b k) (ho : -8 ≤ o ∧ o ≤ -5) : QR L p p2 (a ++ b ++ [o]) (k + 1) := by
  obtain ⟨a1, a2, a3, a4, a5, a6⟩ := ha
  obtain ⟨b1, b2, b3, b4, b5, b6⟩ := hb
  refine ⟨by omega, b2, ?_, ?_, fun x hx => ?_, fun d rest hd => ?_⟩
  · rw [encL_app, encL_app, encL_one, List.length_append, List.length_append, encF_len, if_neg (by omega)]; omega
  · rw [List.length_append, List.length_append]; simp only [List.length_cons, List.length_nil]; omega
  · rw [List.mem_append, List.mem_append, List.mem_singleton] at hx
    rcases hx with (y | y) | y
    · exact a5 x y
    · exact b5 x y
    · rw [y]; omega
  · rw [List.append_assoc, List.append_assoc, a6 d _ (by omega), b6 (d + 1) _ (by omega)]
    show dpF (o :: rest) (d + 1 + 1) = _
    simp only [dpF]
    rw [if_neg (by omega), if_pos (by omega)]
    rfl
theorem lopS_q {T : Nat → Int} {L : Nat} {f : Nat → Except Er (Nat × List Int)} {a b ca cb : Int} {k p0 : Nat} (hca : -8 ≤ ca ∧ ca ≤ -5) (hcb : -8 ≤ cb ∧ cb ≤ -5) (hf : ∀ p r, f p = .ok r → QR L p r.1 r.2 k) : ∀ (n p : Nat) (acc : List Int) (r : Nat × List Int), lopS T L f a b ca cb n p acc = .ok r → QR L p0 p acc (k + 1) → QR L p0 r.1 r.2 (k + 1)
  | 0, p, acc, r, h, hq => by simp only [lopS] at h; cases h; exact hq
  | n + 1, p, acc, r, h, hq => by
    unfold lopS at h
    by_cases hc : bt T L (spc T L p) = a ∨ bt T L (spc T L p) = b
    · rw [if_pos hc] at h
      obtain ⟨x, h1, h2⟩ := bnd_ok h
      refine lopS_q hca hcb hf n x.1 _ r h2 (QR.op hq spc_ge (hf _ _ h1) ?_)
      split
      · exact hca
      · exact hcb
    · rw [if_neg hc] at h; cases h; exact hq
theorem trmS_q {T : Nat → Int} {L k : Nat} {f : Nat → Except Er (Nat × List Int)} (hf : ∀ p r, f p = .ok r → QR L p r.1 r.2 k) {p : Nat} {r : Nat × List Int} (h : trmS T L f p = .ok r) : QR L p r.1 r.2 (k + 1) := by
  obtain ⟨x, h1, h2⟩ := bnd_ok h
  exact lopS_q ⟨by decide, by decide⟩ ⟨by decide, by decide⟩ hf _ _ _ _ h2 ((hf _ _ h1).wide (by omega))
theorem sumS_q {T : Nat → Int} {L k : Nat} {f : Nat → Except Er (Nat × List Int)} (hf : ∀ p r, f p = .ok r → QR L p r.1 r.2 k) {p : Nat} {r : Nat × List Int} (h : sumS T L f p = .ok r) : QR L p r.1 r.2 (k + 2) := by
  obtain ⟨x, h1, h2⟩ := bnd_ok h
  exact lopS_q (k := k + 1) ⟨by decide, by decide⟩ ⟨by decide, by decide⟩ (fun p r hr => trmS_q hf hr) _ _ _ _ h2 ((trmS_q hf h1).wide (by omega))
theorem WD_end {T : Nat → Int} {L i s : Nat} (hi : i < 9) (h : WD T L i s) : s < s + lenS.getD i 0 ∧ s + lenS.getD i 0 ≤ L := by
  have hl := lenS_b i hi
  have := (h.1 (lenS.getD i 0 - 1) (by omega)).1
  omega
theorem nameS_q {T : Nat → Int} {L s k : Nat} (hk : 1 ≤ k) {r : Nat × List Int} (h : nameS T L s = .ok r) : QR L s r.1 r.2 k := by
  unfold nameS at h
  by_cases h0 : WD T L 0 s
  · rw [pIf_t h0] at h; cases h; have := WD_end (by decide) h0; exact QR.one this.1 this.2 ⟨by decide, by decide⟩ hk
  · rw [pIf_f h0] at h
    by_cases h1 : WD T L 2 s
    · rw [pIf_t h1] at h; cases h; have := WD_end (by decide) h1; exact QR.one this.1 this.2 ⟨by decide, by decide⟩ hk
    · rw [pIf_f h1] at h
      by_cases h2 : WD T L 8 s
      · rw [pIf_t h2] at h; cases h; have := WD_end (by decide) h2; exact QR.one this.1 this.2 ⟨by decide, by decide⟩ hk
      · rw [pIf_f h2] at h
        by_cases h3 : WD T L 6 s
        · rw [pIf_t h3] at h; cases h; have := WD_end (by decide) h3; exact QR.one this.1 this.2 ⟨by decide, by decide⟩ hk
        · rw [pIf_f h3] at h; cases h
theorem facS_q {T : Nat → Int} {L : Nat} : ∀ (d p : Nat) (r : Nat × List Int), facS T L d p = .ok r → QR L p r.1 r.2 (2 * d + 1) := by
  have leaf : ∀ (k p : Nat) (r : Nat × List Int), 1 ≤ k → (if isDg T L (spc T L p) then bnd (numS T L p 0 9999) (fun r => .ok (r.1, [r.2])) else nameS T L (spc T L p)) = Except.ok r → QR L p r.1 r.2 k := by
    intro k p r hk h
    by_cases hd : isDg T L (spc T L p) = true
    · rw [if_pos hd] at h
      obtain ⟨x, h1, h2⟩ := bnd_ok h
      cases h2
      obtain ⟨-, -, -, n1, n2, n3, n4⟩ := numS_ok h1
      exact QR.one n3 n4 ⟨by omega, n2⟩ hk
    · rw [if_neg hd] at h
      have q := nameS_q hk h
      exact q.grow spc_ge (Nat.le_refl _) q.2.1
  intro d
  induction d with
  | zero =>
    intro p r h
    unfold facS at h
    by_cases hb : bt T L (spc T L p) = 40
    · rw [if_pos hb] at h; cases h
    · rw [if_neg hb] at h
      exact leaf _ p r (by omega) h
  | succ d ih =>
    intro p r h
    unfold facS at h
    by_cases hb : bt T L (spc T L p) = 40
    · rw [if_pos hb] at h
      obtain ⟨x, h1, h2⟩ := bnd_ok h
      obtain ⟨e, h3, h4⟩ := bnd_ok h2
      cases h4
      have q := sumS_q ih h1
      obtain ⟨-, -, e3, e4⟩ := expS_ok (by decide) h3
      have := spc_ge (T := T) (L := L) (k := p)
      exact (q.grow (p0 := p) (e := e) (by omega) (by omega) e4).wide (by omega)
    · rw [if_neg hb] at h
      exact leaf _ p r (by omega) h
/-- the codes written behind the data -/
def emW (D : Nat → Int) (l : List Int) : Nat → Int := fun i => if i = 4 then (l.length : Int) else if 155 ≤ i ∧ i < 155 + l.length then l.getD (i - 155) 0 else D i
theorem emW_nil {D : Nat → Int} (h : D 4 = 0) : emW D [] = D := by
  funext i
  unfold emW
  by_cases e : i = 4
  · rw [if_pos e, e, h]; rfl
  · rw [if_neg e, if_neg (by simp only [List.length_nil]; omega)]
theorem emW_snoc {D : Nat → Int} {l : List Int} {v : Int} : setD (setD (emW D l) (155 + l.length) v) 4 ((l.length : Int) + 1) = emW D (l ++ [v]) := by
  funext i
  unfold setD emW
  by_cases e : i = 4
  · rw [if_pos e, if_pos e, List.length_append]; rfl
  · simp only [e, if_false]
    by_cases e2 : i = 155 + l.length
    · rw [if_pos e2, if_pos (by rw [List.length_append]; simp only [List.length_cons, List.length_nil]; omega), e2, show 155 + l.length - 155 = l.length by omega]
      simp
    · rw [if_neg e2]
      by_cases e3 : 155 ≤ i ∧ i < 155 + l.length
      · rw [if_pos e3, if_pos (by rw [List.length_append]; omega)]
        have : i - 155 < l.length := by omega
        simp [List.getD, List.getElem?_append_left this]
      · rw [if_neg e3, if_neg (by rw [List.length_append]; simp only [List.length_cons, List.length_nil]; omega)]
/-- a draft, also one that is given up -/
def zbE (D : Nat → Int) : Prop := zbD D ∧ inR (D 2)
theorem emW_z {D : Nat → Int} {l : List Int} (h : zbE D) (hl : l.length ≤ 1500) : zbE (emW D l) := ⟨fun i hi => by
  unfold emW; rw [if_neg (by omega), if_neg (by omega)]; exact h.1 i hi, by
  unfold emW; rw [if_neg (by decide), if_neg (by omega)]; exact h.2⟩
/-- what reading a cost may change -/
def cfF (I J : MM) : Prop := (∀ r : Nat, r ≠ 1 → r ≠ 4 → J r = I r) ∧ ∀ i : Nat, i ≠ 4 → i ≠ 5 → i ≠ 6 → i ≠ 13 → i ≠ 14 → J 1 i = I 1 i
theorem cfF.refl (I : MM) : cfF I I := ⟨fun _ _ _ => rfl, fun _ _ _ _ _ _ => rfl⟩
theorem cfF.trans {A B C : MM} (h : cfF A B) (k : cfF B C) : cfF A C := ⟨fun r a b => (k.1 r a b).trans (h.1 r a b), fun i a b c d e => (k.2 i a b c d e).trans (h.2 i a b c d e)⟩
theorem tkF.cf {I J : MM} (h : tkF I J) : cfF I J := ⟨fun r a _ => h.1 r a, fun i a b c d _ => h.2 i a b c d⟩
section M1
variable {Γ : GG} {P : MP} {I : MM} {R : Int → MM → Prop} {Rv : MM → Prop} {T : Nat → Int} {L p : Nat} {D : Nat → Int}
theorem c_emit0 (hM : LM Γ P) (h0 : I 1 5 ≠ 0 ∧ inR (I 1 5)) {v : Int} (h : Rv I) : Cl Γ m_X6_emit [vR 1, vI v] P I (rv P Rv) :=
  cl_of n_X6_emit (Nat.le_of_ble_eq_true rfl) (t_X6_emit_0 hM (c_isGood0 hM h0 ⟨⟨by decide, by decide⟩, fun z => absurd rfl z, fun _ => h⟩))
/-- reading a cost goes well, with l written -/
def CG (I : MM) (T : Nat → Int) (L p : Nat) (D : Nat → Int) (l : List Int) : Prop := GS I T L p ∧ I 4 = emW D l
theorem c_emit (hM : LM Γ P) {l : List Int} (G : CG I T L p D l) (hl : l.length < 1500) {v : Int} (h : ∀ J, cfF I J → CG J T L p D (l ++ [v]) → (∀ i, J 1 i = I 1 i) → Rv J) : Cl Γ m_X6_emit [vR 1, vI v] P I (rv P Rv) := by
  have e4 : I 4 4 = (l.length : Int) := by rw [G.2]; unfold emW; rw [if_pos rfl]
  refine cl_of n_X6_emit (Nat.le_of_ble_eq_true rfl) (t_X6_emit_0 hM (c_isGood1 hM G.1.2.2.1 ⟨⟨by decide, by decide⟩, fun _ => ?_, fun z => absurd z (by decide)⟩))
  rw [e4]
  refine ⟨by omega, by omega, ?_⟩
  intro A hA B hB
  rw [show (155 + (l.length : Int)).toNat = 155 + l.length by omega] at hA
  rw [hA, up2_nj (by omega), e4, ← hA] at hB
  have r1 : ∀ r, r ≠ 4 → B r = I r := fun r hr => by rw [hB, up2_ne hr, hA, up2_ne hr]
  refine h B ⟨fun r _ b => r1 r b, fun i _ _ _ _ _ => by rw [r1 1 (by decide)]⟩ ⟨G.1.keep (r1 2 (by decide)) (fun i _ => by rw [r1 1 (by decide)]), ?_⟩ (fun i => by rw [r1 1 (by decide)])
  rw [← emW_snoc, ← G.2]
  rw [hB, up2_row, hA, up2_row]
  rfl
/-- two codes -/
theorem c_emit2 (hM : LM Γ P) {l : List Int} (G : CG I T L p D l) (hl : l.length < 1499) {a b : Int} (h : ∀ J, cfF I J → CG J T L p D (l ++ [a, b]) → (∀ i, J 1 i = I 1 i) → Rv J) : Cl Γ m_X6_emit [vR 1, vI a] P I (rv P (fun J => Cl Γ m_X6_emit [vR 1, vI b] P J (rv P Rv))) :=
  c_emit hM G (by omega) (fun J j1 j2 j3 => c_emit hM j2 (by rw [List.length_append]; simp only [List.length_cons, List.length_nil]; omega) (fun K k1 k2 k3 => h K (j1.trans k1) (by rw [List.append_assoc] at k2; exact k2) (fun i => (k3 i).trans (j3 i))))
/-- what a part of an expression must do: it reads what the text says, or reports -/
def FC (Γ : GG) (P : MP) (T : Nat → Int) (L : Nat) (D : Nat → Int) (μ : MI) (f : Nat → Except Er (Nat × List Int)) (ns : Int) : Prop :=
  ∀ (I : MM) (p : Nat) (acc : List Int) (Rv : MM → Prop), CG I T L p D (encL acc) → I 1 14 = ns → 2 * (encL acc).length ≤ 3 * p →
    (∀ J r, f p = .ok r → cfF I J → CG J T L r.1 D (encL (acc ++ r.2)) → J 1 14 = ns → Rv J) → (∀ J e, f p = .error e → cfF I J → bad J e → zbE (J 4) → Rv J) → Cl Γ μ [vR 1] P I (rv P Rv)
def FE (Γ : GG) (P : MP) (μ : MI) : Prop := ∀ (I : MM) (Rv : MM → Prop), I 1 5 ≠ 0 ∧ inR (I 1 5) → Rv I → Cl Γ μ [vR 1] P I (rv P Rv)
theorem e_factor (hM : LM Γ P) (d : Nat) : FE Γ P (m_X6_factor (d + 1)) := fun I Rv h0 h =>
  cl_of n_X6_factor (Nat.le_of_ble_eq_true rfl) (t_X6_factor_0 hM (c_isGood0 hM h0 ⟨⟨by decide, by decide⟩, fun z => absurd rfl z, fun _ => h⟩))
theorem e_term (hM : LM Γ P) (d : Nat) : FE Γ P (m_X6_term (d + 1)) := fun I Rv h0 h =>
  cl_of n_X6_term (Nat.le_of_ble_eq_true rfl) (t_X6_term_0 hM (e_factor hM d I _ h0 (t_X6_term_4 hM (c_isGood0 hM h0 ⟨⟨by decide, by decide⟩, fun _ => h, fun z => absurd rfl z⟩))))
theorem e_sum (hM : LM Γ P) (d : Nat) : FE Γ P (m_X6_sum (d + 1)) := fun I Rv h0 h =>
  cl_of n_X6_sum (Nat.le_of_ble_eq_true rfl) (t_X6_sum_0 hM (e_term hM d I _ h0 (t_X6_sum_4 hM (c_isGood0 hM h0 ⟨⟨by decide, by decide⟩, fun _ => h, fun z => absurd rfl z⟩))))
theorem CG.at_ {l : List Int} (G : CG I T L p D l) {y : Nat} (hy : y ≤ L) : CG (up2 I 1 4 (y : Int)) T L y D l := ⟨G.1.at_ hy, by rw [up2_ne (by decide)]; exact G.2⟩
theorem encF_op {c : Int} (hc : -8 ≤ c ∧ c ≤ -5) : encF c = [-3 - c] := by unfold encF; rw [if_neg (by omega), if_neg (by omega)]
/-- behind an operand of a term -/
theorem lop_room {L p0 p s k : Nat} {acc : List Int} {a0 : List Int} (h0 : 2 * (encL a0).length ≤ 3 * p0) (hq : QR L p0 p acc k) (hs : p ≤ s) : 2 * (encL (a0 ++ acc)).length ≤ 3 * (s + 1) := by
  have := hq.2.2.1
  have := hq.1
  rw [encL_app, List.length_append]; omega
theorem t_loop4 (hM : LM Γ P) (hz : zbE D) {dd : Nat} {f : Nat → Except Er (Nat × List Int)} {ns : Int} {k : Nat} (hf : ∀ p r, f p = .ok r → QR L p r.1 r.2 k) (hF : FC Γ P T L D (m_X6_factor (dd + 1)) f ns) {a0 : List Int} {p0 : Nat} (h0 : 2 * (encL a0).length ≤ 3 * p0) {I0 : MM} :
    ∀ (n p : Nat) (acc : List Int) (I : MM) (Rv : MM → Prop), L ≤ p + n → cfF I0 I → CG I T L p D (encL (a0 ++ acc)) → I 1 14 = ns → QR L p0 p acc (k + 1) →
      (∀ J r, lopS T L f 42 47 (-7) (-8) n p acc = .ok r → cfF I0 J → CG J T L r.1 D (encL (a0 ++ r.2)) → J 1 14 = ns → Rv J) → (∀ J e, lopS T L f 42 47 (-7) (-8) n p acc = .error e → cfF I0 J → bad J e → zbE (J 4) → Rv J) → XM Γ (m_X6_term (dd + 1)) 0 0 4 [(0, vR 1)] [] P I (rv P Rv) := by
  intro n
  have stop : ∀ (p : Nat) (acc : List Int) (I : MM) (Rv : MM → Prop), cfF I0 I → CG I T L p D (encL (a0 ++ acc)) → I 1 14 = ns → bt T L (spc T L p) ≠ 42 → bt T L (spc T L p) ≠ 47 → (∀ J, cfF I0 J → CG J T L p D (encL (a0 ++ acc)) → J 1 14 = ns → Rv J) → XM Γ (m_X6_term (dd + 1)) 0 0 4 [(0, vR 1)] [] P I (rv P Rv) := by
    intro p acc I Rv hc hG h14 b1 b2 hR
    have hs := hG.1.sp
    have hb := bt_b (k := spc T L p) hG.1.2.2.2.1 hG.1.2.2.2.2.1
    have G1 := hG.at_ hs
    have e1 : spc T L (spc T L p) = spc T L p := spc_spc
    refine t_X6_term_4 hM (c_isGood1 hM hG.1.2.2.1 ⟨⟨by decide, by decide⟩, fun z => absurd z (by decide), fun _ => c_next hM hG.1 ⟨⟨by omega, by omega⟩, fun z => absurd z b1, fun _ => c_next hM G1.1 ?_⟩⟩)
    rw [e1, up22]
    refine ⟨⟨by omega, by omega⟩, fun _ => hR _ (hc.trans (tkF.f (Or.inl rfl)).cf) ⟨G1.1.eq eqp.spc, G1.2⟩ (by rw [up2_nj (by decide)]; exact h14), fun z => absurd z b2⟩
  induction n with
  | zero =>
    intro p acc I Rv hn hc hG h14 hq h1 h2
    have hs := spc_ge (T := T) (L := L) (k := p)
    have hb : bt T L (spc T L p) = -1 := bt_out (by omega)
    refine stop p acc I Rv hc hG h14 (by rw [hb]; decide) (by rw [hb]; decide) (fun J j1 j2 j3 => h1 J (p, acc) rfl j1 j2 j3)
  | succ n ih =>
    intro p acc I Rv hn hc hG h14 hq h1 h2
    have hs := hG.1.sp
    have hge := spc_ge (T := T) (L := L) (k := p)
    have hb := bt_b (k := spc T L p) hG.1.2.2.2.1 hG.1.2.2.2.2.1
    have G1 := hG.at_ hs
    have e1 : spc T L (spc T L p) = spc T L p := spc_spc
    unfold lopS at h1 h2
    by_cases hop : bt T L (spc T L p) = 42 ∨ bt T L (spc T L p) = 47
    · rw [if_pos hop] at h1 h2
      have hlt : spc T L p < L := bt_lt (T := T) (by omega)
      have step : ∀ (c : Int), (if bt T L (spc T L p) = 42 then (-7 : Int) else -8) = c → -8 ≤ c ∧ c ≤ -5 → Cl Γ (m_X6_factor (dd + 1)) [vR 1] P (up2 I 1 4 ((spc T L p + 1 : Nat) : Int)) (rv P (fun I17 => Cl Γ m_X6_emit [vR 1, vI (-3 - c)] P I17 (rv P (fun I18 => XM Γ (m_X6_term (dd + 1)) 0 0 4 [(0, vR 1)] [] P I18 (rv P Rv))))) := by
        intro c hcc hcb
        rw [hcc] at h1 h2
        have G2 := hG.at_ (y := spc T L p + 1) (by omega)
        have c2 : cfF I0 (up2 I 1 4 ((spc T L p + 1 : Nat) : Int)) := hc.trans (tkF.f (Or.inl rfl)).cf
        refine hF _ (spc T L p + 1) (a0 ++ acc) _ G2 (by rw [up2_nj (by decide)]; exact h14) (lop_room h0 hq hge) (fun J r hr j1 j2 j3 => ?_) (fun J e he j1 j2 j3 => ?_)
        · rw [hr] at h1 h2
          have q2 := QR.op hq hge (hf _ _ hr) hcb
          have room : (encL (a0 ++ acc ++ r.2)).length < 1500 := by
            have w1 := (hf _ _ hr).2.2.1
            have w2 := (hf _ _ hr).1
            have w3 := (hf _ _ hr).2.1
            have w4 := hq.2.2.1
            have w5 := hq.1
            have w6 := hG.1.2.2.2.1
            rw [encL_app, encL_app, List.length_append, List.length_append]
            omega
          refine c_emit hM j2 room (fun K k1 k2 k3 => ?_)
          have ek : encL (a0 ++ acc ++ r.2) ++ [-3 - c] = encL (a0 ++ (acc ++ r.2 ++ [c])) := by
            rw [← encF_op hcb, ← encL_one c, ← encL_app]
            congr 1
            simp [List.append_assoc]
          rw [ek] at k2
          refine ih r.1 (acc ++ r.2 ++ [c]) K Rv (by have := (hf _ _ hr).1; omega) ((c2.trans j1).trans k1) k2 (by rw [k3]; exact j3) q2 h1 h2
        · rw [he] at h2
          refine c_emit0 hM j2.n (t_X6_term_4 hM (c_isGood0 hM j2.n ⟨⟨by decide, by decide⟩, fun _ => h2 J e rfl (c2.trans j1) j2 j3, fun z => absurd rfl z⟩))
      refine t_X6_term_4 hM (c_isGood1 hM hG.1.2.2.1 ⟨⟨by decide, by decide⟩, fun z => absurd z (by decide), fun _ => c_next hM hG.1 ⟨⟨by omega, by omega⟩, fun z => c_next hM G1.1 ?_, fun z => c_next hM G1.1 ?_⟩⟩)
      · rw [e1, up22]
        refine ⟨⟨by omega, by omega⟩, fun y => absurd z y, fun _ => ?_⟩
        intro A hA
        rw [hA, up2_eq, up22, show (spc T L p : Int) + 1 = ((spc T L p + 1 : Nat) : Int) by push_cast; rfl]
        exact step (-7) (if_pos z) ⟨by decide, by decide⟩
      · rw [e1, up22]
        refine ⟨⟨by omega, by omega⟩, fun y => absurd (by omega) y, fun _ => c_next hM G1.1 ?_⟩
        rw [e1, up22]
        refine ⟨⟨by omega, by omega⟩, fun _ => ?_, fun y => absurd y z⟩
        intro A hA
        rw [hA, up2_eq, up22, show (spc T L p : Int) + 1 = ((spc T L p + 1 : Nat) : Int) by push_cast; rfl]
        exact step (-8) (if_neg z) ⟨by decide, by decide⟩
    · rw [if_neg hop] at h1
      exact stop p acc I Rv hc hG h14 (fun z => hop (Or.inl z)) (fun z => hop (Or.inr z)) (fun J j1 j2 j3 => h1 J (p, acc) rfl j1 j2 j3)
theorem f_term (hM : LM Γ P) (hz : zbE D) {dd : Nat} {f : Nat → Except Er (Nat × List Int)} {ns : Int} {k : Nat} (hf : ∀ p r, f p = .ok r → QR L p r.1 r.2 k) (hF : FC Γ P T L D (m_X6_factor (dd + 1)) f ns) : FC Γ P T L D (m_X6_term (dd + 1)) (trmS T L f) ns := by
  intro I p acc Rv hG h14 hroom h1 h2
  unfold trmS at h1 h2
  refine cl_of n_X6_term (Nat.le_of_ble_eq_true rfl) (t_X6_term_0 hM (hF I p acc _ hG h14 hroom (fun J r hr j1 j2 j3 => ?_) (fun J e he j1 j2 j3 => ?_)))
  · rw [hr] at h1 h2
    exact t_loop4 hM hz hf hF hroom L r.1 r.2 J Rv (by omega) j1 j2 j3 ((hf _ _ hr).wide (by omega)) h1 h2
  · rw [he] at h2
    exact t_X6_term_4 hM (c_isGood0 hM j2.n ⟨⟨by decide, by decide⟩, fun _ => h2 J e rfl j1 j2 j3, fun z => absurd rfl z⟩)
/-- a sum over a part f -/
noncomputable def sumS0 (T : Nat → Int) (L : Nat) (f : Nat → Except Er (Nat × List Int)) (p : Nat) : Except Er (Nat × List Int) := bnd (f p) (fun r => lopS T L f 43 45 (-5) (-6) L r.1 r.2)
theorem s_loop4 (hM : LM Γ P) (hz : zbE D) {dd : Nat} {f : Nat → Except Er (Nat × List Int)} {ns : Int} {k : Nat} (hf : ∀ p r, f p = .ok r → QR L p r.1 r.2 k) (hF : FC Γ P T L D (m_X6_term (dd + 1)) f ns) {a0 : List Int} {p0 : Nat} (h0 : 2 * (encL a0).length ≤ 3 * p0) {I0 : MM} :
    ∀ (n p : Nat) (acc : List Int) (I : MM) (Rv : MM → Prop), L ≤ p + n → cfF I0 I → CG I T L p D (encL (a0 ++ acc)) → I 1 14 = ns → QR L p0 p acc (k + 1) →
      (∀ J r, lopS T L f 43 45 (-5) (-6) n p acc = .ok r → cfF I0 J → CG J T L r.1 D (encL (a0 ++ r.2)) → J 1 14 = ns → Rv J) → (∀ J e, lopS T L f 43 45 (-5) (-6) n p acc = .error e → cfF I0 J → bad J e → zbE (J 4) → Rv J) → XM Γ (m_X6_sum (dd + 1)) 0 0 4 [(0, vR 1)] [] P I (rv P Rv) := by
  intro n
  have stop : ∀ (p : Nat) (acc : List Int) (I : MM) (Rv : MM → Prop), cfF I0 I → CG I T L p D (encL (a0 ++ acc)) → I 1 14 = ns → bt T L (spc T L p) ≠ 43 → bt T L (spc T L p) ≠ 45 → (∀ J, cfF I0 J → CG J T L p D (encL (a0 ++ acc)) → J 1 14 = ns → Rv J) → XM Γ (m_X6_sum (dd + 1)) 0 0 4 [(0, vR 1)] [] P I (rv P Rv) := by
    intro p acc I Rv hc hG h14 b1 b2 hR
    have hs := hG.1.sp
    have hb := bt_b (k := spc T L p) hG.1.2.2.2.1 hG.1.2.2.2.2.1
    have G1 := hG.at_ hs
    have e1 : spc T L (spc T L p) = spc T L p := spc_spc
    refine t_X6_sum_4 hM (c_isGood1 hM hG.1.2.2.1 ⟨⟨by decide, by decide⟩, fun z => absurd z (by decide), fun _ => c_next hM hG.1 ⟨⟨by omega, by omega⟩, fun z => absurd z b1, fun _ => c_next hM G1.1 ?_⟩⟩)
    rw [e1, up22]
    refine ⟨⟨by omega, by omega⟩, fun _ => hR _ (hc.trans (tkF.f (Or.inl rfl)).cf) ⟨G1.1.eq eqp.spc, G1.2⟩ (by rw [up2_nj (by decide)]; exact h14), fun z => absurd z b2⟩
  induction n with
  | zero =>
    intro p acc I Rv hn hc hG h14 hq h1 h2
    have hs := spc_ge (T := T) (L := L) (k := p)
    have hb : bt T L (spc T L p) = -1 := bt_out (by omega)
    refine stop p acc I Rv hc hG h14 (by rw [hb]; decide) (by rw [hb]; decide) (fun J j1 j2 j3 => h1 J (p, acc) rfl j1 j2 j3)
  | succ n ih =>
    intro p acc I Rv hn hc hG h14 hq h1 h2
    have hs := hG.1.sp
    have hge := spc_ge (T := T) (L := L) (k := p)
    have hb := bt_b (k := spc T L p) hG.1.2.2.2.1 hG.1.2.2.2.2.1
    have G1 := hG.at_ hs
    have e1 : spc T L (spc T L p) = spc T L p := spc_spc
    unfold lopS at h1 h2
    by_cases hop : bt T L (spc T L p) = 43 ∨ bt T L (spc T L p) = 45
    · rw [if_pos hop] at h1 h2
      have hlt : spc T L p < L := bt_lt (T := T) (by omega)
      have step : ∀ (c : Int), (if bt T L (spc T L p) = 43 then (-5 : Int) else -6) = c → -8 ≤ c ∧ c ≤ -5 → Cl Γ (m_X6_term (dd + 1)) [vR 1] P (up2 I 1 4 ((spc T L p + 1 : Nat) : Int)) (rv P (fun I17 => Cl Γ m_X6_emit [vR 1, vI (-3 - c)] P I17 (rv P (fun I18 => XM Γ (m_X6_sum (dd + 1)) 0 0 4 [(0, vR 1)] [] P I18 (rv P Rv))))) := by
        intro c hcc hcb
        rw [hcc] at h1 h2
        have G2 := hG.at_ (y := spc T L p + 1) (by omega)
        have c2 : cfF I0 (up2 I 1 4 ((spc T L p + 1 : Nat) : Int)) := hc.trans (tkF.f (Or.inl rfl)).cf
        refine hF _ (spc T L p + 1) (a0 ++ acc) _ G2 (by rw [up2_nj (by decide)]; exact h14) (lop_room h0 hq hge) (fun J r hr j1 j2 j3 => ?_) (fun J e he j1 j2 j3 => ?_)
        · rw [hr] at h1 h2
          have q2 := QR.op hq hge (hf _ _ hr) hcb
          have room : (encL (a0 ++ acc ++ r.2)).length < 1500 := by
            have w1 := (hf _ _ hr).2.2.1
            have w2 := (hf _ _ hr).1
            have w3 := (hf _ _ hr).2.1
            have w4 := hq.2.2.1
            have w5 := hq.1
            have w6 := hG.1.2.2.2.1
            rw [encL_app, encL_app, List.length_append, List.length_append]
            omega
          refine c_emit hM j2 room (fun K k1 k2 k3 => ?_)
          have ek : encL (a0 ++ acc ++ r.2) ++ [-3 - c] = encL (a0 ++ (acc ++ r.2 ++ [c])) := by
            rw [← encF_op hcb, ← encL_one c, ← encL_app]
            congr 1
            simp [List.append_assoc]
          rw [ek] at k2
          refine ih r.1 (acc ++ r.2 ++ [c]) K Rv (by have := (hf _ _ hr).1; omega) ((c2.trans j1).trans k1) k2 (by rw [k3]; exact j3) q2 h1 h2
        · rw [he] at h2
          refine c_emit0 hM j2.n (t_X6_sum_4 hM (c_isGood0 hM j2.n ⟨⟨by decide, by decide⟩, fun _ => h2 J e rfl (c2.trans j1) j2 j3, fun z => absurd rfl z⟩))
      refine t_X6_sum_4 hM (c_isGood1 hM hG.1.2.2.1 ⟨⟨by decide, by decide⟩, fun z => absurd z (by decide), fun _ => c_next hM hG.1 ⟨⟨by omega, by omega⟩, fun z => c_next hM G1.1 ?_, fun z => c_next hM G1.1 ?_⟩⟩)
      · rw [e1, up22]
        refine ⟨⟨by omega, by omega⟩, fun y => absurd z y, fun _ => ?_⟩
        intro A hA
        rw [hA, up2_eq, up22, show (spc T L p : Int) + 1 = ((spc T L p + 1 : Nat) : Int) by push_cast; rfl]
        exact step (-5) (if_pos z) ⟨by decide, by decide⟩
      · rw [e1, up22]
        refine ⟨⟨by omega, by omega⟩, fun y => absurd (by omega) y, fun _ => c_next hM G1.1 ?_⟩
        rw [e1, up22]
        refine ⟨⟨by omega, by omega⟩, fun _ => ?_, fun y => absurd y z⟩
        intro A hA
        rw [hA, up2_eq, up22, show (spc T L p : Int) + 1 = ((spc T L p + 1 : Nat) : Int) by push_cast; rfl]
        exact step (-6) (if_neg z) ⟨by decide, by decide⟩
    · rw [if_neg hop] at h1
      exact stop p acc I Rv hc hG h14 (fun z => hop (Or.inl z)) (fun z => hop (Or.inr z)) (fun J j1 j2 j3 => h1 J (p, acc) rfl j1 j2 j3)
theorem f_sum (hM : LM Γ P) (hz : zbE D) {dd : Nat} {f : Nat → Except Er (Nat × List Int)} {ns : Int} {k : Nat} (hf : ∀ p r, f p = .ok r → QR L p r.1 r.2 k) (hF : FC Γ P T L D (m_X6_term (dd + 1)) f ns) : FC Γ P T L D (m_X6_sum (dd + 1)) (sumS0 T L f) ns := by
  intro I p acc Rv hG h14 hroom h1 h2
  unfold sumS0 at h1 h2
  refine cl_of n_X6_sum (Nat.le_of_ble_eq_true rfl) (t_X6_sum_0 hM (hF I p acc _ hG h14 hroom (fun J r hr j1 j2 j3 => ?_) (fun J e he j1 j2 j3 => ?_)))
  · rw [hr] at h1 h2
    exact s_loop4 hM hz hf hF hroom L r.1 r.2 J Rv (by omega) j1 j2 j3 ((hf _ _ hr).wide (by omega)) h1 h2
  · rw [he] at h2
    exact t_X6_sum_4 hM (c_isGood0 hM j2.n ⟨⟨by decide, by decide⟩, fun _ => h2 J e rfl j1 j2 j3, fun z => absurd rfl z⟩)
theorem f_sum2 (hM : LM Γ P) (hz : zbE D) {dd : Nat} {f : Nat → Except Er (Nat × List Int)} {ns : Int} {k : Nat} (hf : ∀ p r, f p = .ok r → QR L p r.1 r.2 k) (hF : FC Γ P T L D (m_X6_factor (dd + 1)) f ns) : FC Γ P T L D (m_X6_sum (dd + 1)) (sumS T L f) ns :=
  f_sum hM hz (k := k + 1) (fun p r h => trmS_q hf h) (f_term hM hz hf hF)
theorem c_numE (hM : LM Γ P) {l : List Int} (G : CG I T L p D l) (hl : l.length < 1499) (hz : zbE (I 4)) (h1 : ∀ J r, numS T L p 0 9999 = .ok r → cfF I J → CG J T L r.1 D (l ++ encF r.2) → J 1 14 = I 1 14 → Rv J) (h0 : ∀ J e, numS T L p 0 9999 = .error e → cfF I J → bad J e → zbE (J 4) → Rv J) :
    Cl Γ m_X6_number [vR 1, vI 0, vI 9999] P I (ri P (fun (z48 : Int) (I49 : MM) => (Cl Γ m_X6_emit [vR 1, vI 0] P I49 (rv P (fun (I50 : MM) => (Cl Γ m_X6_emit [vR 1, vI z48] P I50 (rv P (fun (I51 : MM) => Rv I51)))))))) := by
  refine c_number hM G.1 ⟨by decide, by decide⟩ ⟨by decide, by decide⟩ (fun J r hr hok _ => ?_) (fun J e v he hb => ?_)
  · obtain ⟨-, -, -, n1, -, -, -⟩ := numS_ok hr
    have GJ : CG J T L r.1 D l := ⟨hok.2, by rw [hok.1.1 4 (by decide)]; exact G.2⟩
    refine c_emit2 hM GJ hl (fun K k1 k2 k3 => h1 K r hr (hok.1.cf.trans k1) ?_ (by rw [k3]; exact hok.1.2 14 (by decide) (by decide) (by decide) (by decide)))
    rw [show encF r.2 = [0, r.2] by unfold encF; rw [if_pos n1]]
    exact k2
  · refine c_emit0 hM hb.2.n (c_emit0 hM hb.2.n (h0 J e he hb.1.cf hb.2 (by rw [hb.1.1 4 (by decide)]; exact hz)))
theorem numS_nd {T : Nat → Int} {L p : Nat} {lo hi : Int} (h : ¬ isDg T L (spc T L p) = true) : numS T L p lo hi = .error (-2, spc T L p) := by unfold numS; rw [if_neg h]
noncomputable def parS (T : Nat → Int) (L : Nat) : Nat → Nat → Except Er (Nat × List Int)
  | 0, p => .error (-5, spc T L p)
  | d + 1, p => bnd (sumS T L (facS T L d) (spc T L p + 1)) (fun r => bnd (expS T L r.1 41) (fun e => .ok (e, r.2)))
noncomputable def lefS (T : Nat → Int) (L p : Nat) : Except Er (Nat × List Int) := if isDg T L (spc T L p) then bnd (numS T L p 0 9999) (fun r => .ok (r.1, [r.2])) else nameS T L (spc T L p)
theorem facS_eq {T : Nat → Int} {L d p : Nat} : facS T L d p = if bt T L (spc T L p) = 40 then parS T L d p else lefS T L p := by
  cases d <;> rfl
theorem f_fac1 (hM : LM Γ P) (hz : zbE D) {d : Nat} (hd : d ≤ 4) (hS : ∀ c : Nat, d = c + 1 → FC Γ P T L D (m_X6_sum (d + 1)) (sumS T L (facS T L c)) (4 - (c : Int))) : FC Γ P T L D (m_X6_factor (d + 2)) (facS T L d) (4 - (d : Int)) := by
  intro I p acc Rv hG h14 hroom h1 h2
  have hs := hG.1.sp
  have hge := spc_ge (T := T) (L := L) (k := p)
  have hb := bt_b (k := spc T L p) hG.1.2.2.2.1 hG.1.2.2.2.2.1
  have hL := hG.1.2.2.2.1
  have e7 : up2 (up2 I 1 4 (spc T L p : Int)) 1 4 (spc T L p : Int) = up2 I 1 4 (spc T L p : Int) := up22
  have G7 : CG (up2 I 1 4 (spc T L p : Int)) T L p D (encL acc) := ⟨(hG.1.at_ hs).eq eqp.spc, (hG.at_ hs).2⟩
  have c7 : cfF I (up2 I 1 4 (spc T L p : Int)) := (tkF.f (Or.inl rfl)).cf
  have n7 : (up2 I 1 4 (spc T L p : Int)) 1 14 = 4 - (d : Int) := by rw [up2_nj (by decide)]; exact h14
  have z7 : zbE ((up2 I 1 4 (spc T L p : Int)) 4) := by rw [G7.2]; exact emW_z hz (by omega)
  have room : (encL acc).length < 1499 := by omega
  rw [facS_eq] at h1 h2
  refine cl_of n_X6_factor (Nat.le_of_ble_eq_true rfl) (t_X6_factor_0 hM (c_isGood1 hM hG.1.2.2.1 ⟨⟨by decide, by decide⟩, fun _ => c_next hM hG.1 ⟨⟨by omega, by omega⟩, fun z => ?_, fun z => ?_⟩, fun z => absurd z (by decide)⟩))
  · rw [if_neg z] at h1 h2
    unfold lefS at h1 h2
    have num : (∀ J r, numS T L p 0 9999 = .ok r → cfF I J → CG J T L r.1 D (encL acc ++ encF r.2) → J 1 14 = 4 - (d : Int) → Rv J) → (∀ J e, numS T L p 0 9999 = .error e → cfF I J → bad J e → zbE (J 4) → Rv J) →
        Cl Γ m_X6_number [vR 1, vI 0, vI 9999] P (up2 I 1 4 (spc T L p : Int)) (ri P (fun (z48 : Int) (I49 : MM) => (Cl Γ m_X6_emit [vR 1, vI 0] P I49 (rv P (fun (I50 : MM) => (Cl Γ m_X6_emit [vR 1, vI z48] P I50 (rv P (fun (I51 : MM) => Rv I51)))))))) :=
      fun k1 k0 => c_numE hM G7 room z7 (fun J r hr j1 j2 j3 => k1 J r hr (c7.trans j1) j2 (j3.trans n7)) (fun J e he j1 j2 j3 => k0 J e he (c7.trans j1) j2 j3)
    refine c_isDigit ⟨by omega, by omega⟩ (fun y1 y2 => ⟨⟨by decide, by decide⟩, fun x => absurd x (by decide), fun _ => ?_⟩) (fun y => ⟨⟨by decide, by decide⟩, fun _ => ?_, fun x => absurd rfl x⟩)
    · rw [if_pos (isDg_bt.mpr ⟨y1, y2⟩)] at h1 h2
      refine num (fun J r hr j1 j2 j3 => ?_) (fun J e he j1 j2 j3 => ?_)
      · rw [hr] at h1
        exact h1 J (r.1, [r.2]) rfl j1 (by rw [encL_app, encL_one]; exact j2) j3
      · rw [he] at h2
        exact h2 J e rfl j1 j2 j3
    · have nd : ¬ isDg T L (spc T L p) = true := fun x => by have := isDg_bt.mp x; omega
      rw [if_neg nd] at h1 h2
      unfold nameS at h1 h2
      have es : spc T L (spc T L p) = spc T L p := spc_spc
      have var : ∀ (i : Nat) (c v : Int), i < 9 → WD T L i (spc T L p) → encF c = [1, v] → (∀ J, cfF I J → CG J T L (spc T L p + lenS.getD i 0) D (encL (acc ++ [c])) → J 1 14 = 4 - (d : Int) → Rv J) →
          Cl Γ m_X6_emit [vR 1, vI 1] P (up2 (up2 I 1 4 (spc T L p : Int)) 1 4 ((spc T L p + lenS.getD i 0 : Nat) : Int)) (rv P (fun (I40 : MM) => (Cl Γ m_X6_emit [vR 1, vI v] P I40 (rv P (fun (I41 : MM) => Rv I41))))) := by
        intro i c v hi hw hc hk
        have we := WD_end hi hw
        rw [up22]
        have Gi := hG.at_ (y := spc T L p + lenS.getD i 0) we.2
        refine c_emit2 hM Gi room (fun J j1 j2 j3 => hk J ((tkF.f (Or.inl rfl)).cf.trans j1) ?_ (by rw [j3, up2_nj (by decide)]; exact h14))
        rw [encL_app, encL_one, hc]
        exact j2
      refine c_takeWord hM G7.1 (by decide) (fun w0 => ⟨⟨by decide, by decide⟩, fun x => absurd x (by decide), fun _ => ?_⟩) (fun w0 => ⟨⟨by decide, by decide⟩, fun _ => ?_, fun x => absurd rfl x⟩)
      · rw [pIf_t w0] at h1
        exact var 0 (-1) 0 (by decide) w0 rfl (fun J j1 j2 j3 => h1 J _ rfl j1 j2 j3)
      · rw [e7]
        rw [pIf_f w0] at h1 h2
        refine c_takeWord hM G7.1 (by decide) (fun w1 => ⟨⟨by decide, by decide⟩, fun x => absurd x (by decide), fun _ => ?_⟩) (fun w1 => ⟨⟨by decide, by decide⟩, fun _ => ?_, fun x => absurd rfl x⟩)
        · rw [pIf_t w1] at h1
          exact var 2 (-2) 1 (by decide) w1 rfl (fun J j1 j2 j3 => h1 J _ rfl j1 j2 j3)
        · rw [e7]
          rw [pIf_f w1] at h1 h2
          refine c_takeWord hM G7.1 (by decide) (fun w2 => ⟨⟨by decide, by decide⟩, fun x => absurd x (by decide), fun _ => ?_⟩) (fun w2 => ⟨⟨by decide, by decide⟩, fun _ => ?_, fun x => absurd rfl x⟩)
          · rw [pIf_t w2] at h1
            exact var 8 (-3) 2 (by decide) w2 rfl (fun J j1 j2 j3 => h1 J _ rfl j1 j2 j3)
          · rw [e7]
            rw [pIf_f w2] at h1 h2
            refine c_takeWord hM G7.1 (by decide) (fun w3 => ⟨⟨by decide, by decide⟩, fun x => absurd x (by decide), fun _ => ?_⟩) (fun w3 => ⟨⟨by decide, by decide⟩, fun _ => ?_, fun x => absurd rfl x⟩)
            · rw [pIf_t w3] at h1
              exact var 6 (-4) 3 (by decide) w3 rfl (fun J j1 j2 j3 => h1 J _ rfl j1 j2 j3)
            · rw [e7]
              rw [pIf_f w3] at h2
              have en := numS_nd (lo := 0) (hi := 9999) nd
              refine num (fun J r hr _ _ _ => ?_) (fun J e he j1 j2 j3 => ?_)
              · rw [en] at hr; cases hr
              · rw [en] at he
                cases he
                exact h2 J _ rfl j1 j2 j3
  · rw [if_pos z] at h1 h2
    rw [n7]
    refine ⟨⟨by omega, by omega⟩, fun y => ?_, fun y => ?_⟩
    · match d, hd, hS, h1, h2, h14, n7, y with
      | 0, _, _, _, _, _, _, y => exact absurd rfl y
      | c + 1, hd, hS, h1, h2, h14, n7, y =>
        simp only [parS] at h1 h2
        have hlt : spc T L p < L := bt_lt (T := T) (by omega)
        intro A hA B hB
        rw [up2_eq, up22, show (spc T L p : Int) + 1 = ((spc T L p + 1 : Nat) : Int) by push_cast; rfl] at hA
        have GA := hG.at_ (y := spc T L p + 1) (by omega)
        rw [← hA] at GA
        have cA : cfF I A := by rw [hA]; exact (tkF.f (Or.inl rfl)).cf
        have a14 : A 1 14 = 4 - ((c + 1 : Nat) : Int) := by rw [hA, up2_nj (by decide)]; exact h14
        have cB : cfF A B := by rw [hB]; exact ⟨fun r a _ => up2_ne a, fun i _ _ _ _ e => up2_nj e⟩
        have GB : CG B T L (spc T L p + 1) D (encL acc) := ⟨GA.1.keep (by rw [hB, up2_ne (by decide)]) (fun i hi => by rw [hB, up2_nj (by omega)]), by rw [hB, up2_ne (by decide)]; exact GA.2⟩
        refine hS c rfl B (spc T L p + 1) acc _ GB (by rw [hB, up2_eq, a14]; push_cast; omega) (by omega) (fun J r hr j1 j2 j3 => ?_) (fun J e he j1 j2 j3 => ?_)
        · rw [hr] at h1 h2
          have q := sumS_q (fun p r hh => facS_q c p r hh) hr
          refine c_expect hM j2.1 ⟨by decide, by decide⟩ (by decide) (fun K e he hk => ?_) (fun K e he hk => ?_)
          · simp only [bnd] at h1
            rw [he] at h1
            intro M hM2
            have rM : ∀ r, r ≠ 1 → M r = K r := fun r hr2 => by rw [hM2, up2_ne hr2]
            refine h1 M (e, r.2) rfl (((cA.trans cB).trans (j1.trans hk.1.cf)).trans ⟨fun r a _ => rM r a, fun i _ _ _ _ f => by rw [hM2, up2_nj f]⟩) ⟨hk.2.keep (rM 2 (by decide)) (fun i hi => by rw [hM2, up2_nj (by omega)]), by rw [rM 4 (by decide), hk.1.1 4 (by decide)]; exact j2.2⟩ ?_
            rw [hM2, up2_eq, hk.1.2 14 (by decide) (by decide) (by decide) (by decide), j3]
            push_cast
            omega
          · simp only [bnd] at h2
            rw [he] at h2
            intro M hM2
            have rM : ∀ r, r ≠ 1 → M r = K r := fun r hr2 => by rw [hM2, up2_ne hr2]
            refine h2 M e rfl (((cA.trans cB).trans (j1.trans hk.1.cf)).trans ⟨fun r a _ => rM r a, fun i _ _ _ _ f => by rw [hM2, up2_nj f]⟩) ?_ ?_
            · have hb2 := hk.2
              unfold bad at hb2 ⊢
              rw [hM2, up2_nj (by decide), up2_nj (by decide)]
              exact hb2
            · rw [rM 4 (by decide), hk.1.1 4 (by decide), j2.2]
              refine emW_z hz ?_
              have := q.2.2.1
              have := q.2.1
              have := q.1
              rw [encL_app, List.length_append]; omega
        · rw [he] at h2
          refine c_expect0 hM j2.n ?_
          intro M hM2
          have rM : ∀ r, r ≠ 1 → M r = J r := fun r hr2 => by rw [hM2, up2_ne hr2]
          refine h2 M e rfl (((cA.trans cB).trans j1).trans ⟨fun r a _ => rM r a, fun i _ _ _ _ f => by rw [hM2, up2_nj f]⟩) ?_ (by rw [rM 4 (by decide)]; exact j3)
          unfold bad at j2 ⊢
          rw [hM2, up2_nj (by decide), up2_nj (by decide)]
          exact j2
    · have hd0 : d = 0 := by omega
      subst hd0
      simp only [parS] at h2
      rw [up2_eq]
      refine c_report1 hM (by rw [up2_nj (by decide)]; exact hG.1.2.2.1) ⟨by decide, by decide, by decide⟩ (fun J hJ _ => ?_)
      intro A hA B hB
      have cA : cfF J B := by
        rw [hB, hA]
        exact ⟨fun r a _ => by rw [up2_ne a, up2_ne a], fun i a _ _ _ f => by rw [up2_nj f, up2_nj a]⟩
      have bB : bad B (-5, spc T L p) := by
        have := hJ.2
        unfold bad at this ⊢
        rw [hB, up2_nj (by decide), hA, up2_nj (by decide), up2_nj (by decide), up2_nj (by decide)]
        exact this
      refine e_sum hM 0 B _ bB.n (c_expect0 hM bB.n ?_)
      intro M hM2
      have rM : ∀ r, r ≠ 1 → M r = B r := fun r hr2 => by rw [hM2, up2_ne hr2]
      refine h2 M _ rfl (((c7.trans hJ.1.cf).trans cA).trans ⟨fun r a _ => rM r a, fun i _ _ _ _ f => by rw [hM2, up2_nj f]⟩) ?_ ?_
      · unfold bad at bB ⊢
        rw [hM2, up2_nj (by decide), up2_nj (by decide)]
        exact bB
      · rw [rM 4 (by decide), hB, up2_ne (by decide), hA, up2_ne (by decide), hJ.1.1 4 (by decide)]
        exact z7
theorem f_factor (hM : LM Γ P) (hz : zbE D) : ∀ d : Nat, d ≤ 4 → FC Γ P T L D (m_X6_factor (d + 2)) (facS T L d) (4 - (d : Int))
  | 0, h => f_fac1 hM hz h (fun c hc => absurd hc (Nat.succ_ne_zero c).symm)
  | d + 1, h => f_fac1 hM hz h (fun c hc => by
    have e : c = d := by omega
    subst e
    exact f_sum2 hM hz (facS_q c) (f_factor hM hz c (by omega)))
/-- a whole expression -/
theorem c_sum6 (hM : LM Γ P) (hz : zbE D) : FC Γ P T L D (m_X6_sum 6) (sumS T L (facS T L 4)) 0 := f_sum2 hM hz (facS_q 4) (f_factor hM hz 4 (Nat.le_refl _))
end M1
