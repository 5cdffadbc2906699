/-! THE REFERENCE READS TOKENS -/
theorem lenS_b : ∀ i : Nat, i < 9 → 1 ≤ lenS.getD i 0 ∧ lenS.getD i 0 ≤ 10 := by decide
theorem chS_b : ∀ i : Nat, i < 9 → ∀ k : Nat, k < lenS.getD i 0 → 97 ≤ chS i k ∧ chS i k ≤ 122 := by decide +kernel
/-- reading goes well, at p -/
def GS (I : MM) (T : Nat → Int) (L p : Nat) : Prop := I 2 = T ∧ I 1 3 = (L : Int) ∧ I 1 5 = 0 ∧ L ≤ 900 ∧ (∀ k : Nat, k < 900 → 0 ≤ T k ∧ T k ≤ 255) ∧ ∃ x : Nat, I 1 4 = (x : Int) ∧ x ≤ L ∧ eqp T L x p ∧ I 1 6 = -1
def tkF (I J : MM) : Prop := (∀ r : Nat, r ≠ 1 → J r = I r) ∧ ∀ i : Nat, i ≠ 4 → i ≠ 5 → i ≠ 6 → i ≠ 13 → J 1 i = I 1 i
theorem tkF.refl (I : MM) : tkF I I := ⟨fun _ _ => rfl, fun _ _ _ _ _ => rfl⟩
theorem tkF.trans {A B C : MM} (h : tkF A B) (k : tkF B C) : tkF A C := ⟨fun r a => (k.1 r a).trans (h.1 r a), fun i a b c d => (k.2 i a b c d).trans (h.2 i a b c d)⟩
theorem tkF.f {I : MM} {i : Nat} {v : Int} (h : i = 4 ∨ i = 5 ∨ i = 6 ∨ i = 13) : tkF I (up2 I 1 i v) := ⟨fun r a => up2_ne a, fun j a b c d => up2_nj (by omega)⟩
def okS (I J : MM) (T : Nat → Int) (L p : Nat) : Prop := tkF I J ∧ GS J T L p
def bad (J : MM) (e : Er) : Prop := J 1 5 = e.1 ∧ J 1 6 = (e.2 : Int) ∧ e.1 ≠ 0 ∧ inR e.1
def erS (I J : MM) (e : Er) : Prop := tkF I J ∧ bad J e
theorem bad.n {J : MM} {e : Er} (h : bad J e) : J 1 5 ≠ 0 ∧ inR (J 1 5) := by rw [h.1]; exact ⟨h.2.2.1, h.2.2.2⟩
theorem bt_b {T : Nat → Int} {L k : Nat} (hL : L ≤ 900) (hT : ∀ k : Nat, k < 900 → 0 ≤ T k ∧ T k ≤ 255) : -1 ≤ bt T L k ∧ bt T L k ≤ 255 := by
  unfold bt
  by_cases h : k < L
  · rw [if_pos h]; have := hT k (by omega); omega
  · rw [if_neg h]; omega
theorem bt_in {T : Nat → Int} {L k : Nat} (h : k < L) : bt T L k = T k := by unfold bt; rw [if_pos h]
theorem bt_out {T : Nat → Int} {L k : Nat} (h : L ≤ k) : bt T L k = -1 := by unfold bt; rw [if_neg (by omega)]
theorem isDg_bt {T : Nat → Int} {L k : Nat} : isDg T L k = true ↔ 48 ≤ bt T L k ∧ bt T L k ≤ 57 := by
  rw [isDg_t]; unfold bt
  by_cases h : k < L
  · rw [if_pos h]; omega
  · rw [if_neg h]; omega
theorem isLt_bt {T : Nat → Int} {L k : Nat} : isLt T L k = true ↔ 97 ≤ bt T L k ∧ bt T L k ≤ 122 := by
  rw [isLt_t]; unfold bt
  by_cases h : k < L
  · rw [if_pos h]; omega
  · rw [if_neg h]; omega
theorem isSp_bt {T : Nat → Int} {L k : Nat} : isSp T L k = true ↔ bt T L k = 32 := by
  rw [isSp_t]; unfold bt
  by_cases h : k < L
  · rw [if_pos h]; omega
  · rw [if_neg h]; omega
theorem eqp.refl {T : Nat → Int} {L p : Nat} : eqp T L p p := rfl
theorem eqp.spc {T : Nat → Int} {L p : Nat} : eqp T L (spc T L p) p := spc_spc
theorem GS.at_ {I : MM} {T : Nat → Int} {L p y : Nat} (h : GS I T L p) (hy : y ≤ L) : GS (up2 I 1 4 (y : Int)) T L y := by
  obtain ⟨a, b, c, d, e, x0, -, -, -, g⟩ := h
  exact ⟨by rw [up2_ne (by decide)]; exact a, by rw [up2_nj (by decide)]; exact b, by rw [up2_nj (by decide)]; exact c, d, e, y, up2_eq, hy, rfl, by rw [up2_nj (by decide)]; exact g⟩
theorem GS.eq {I : MM} {T : Nat → Int} {L p q : Nat} (h : GS I T L p) (e : eqp T L p q) : GS I T L q := by
  obtain ⟨a, b, c, d, f, x, x1, x2, x3⟩ := h
  exact ⟨a, b, c, d, f, x, x1, x2, x3.1.trans e, x3.2⟩
theorem GS.sp {I : MM} {T : Nat → Int} {L p : Nat} (h : GS I T L p) : spc T L p ≤ L := by
  obtain ⟨a, b, c, d, f, x, x1, x2, x3⟩ := h
  rw [← (x3.1 : spc T L x = spc T L p)]; exact spc_le x2
theorem GS.keep {I J : MM} {T : Nat → Int} {L p : Nat} (h : GS I T L p) (k2 : J 2 = I 2) (k1 : ∀ i, i = 3 ∨ i = 4 ∨ i = 5 ∨ i = 6 → J 1 i = I 1 i) : GS J T L p := by
  unfold GS
  rw [k2, k1 3 (Or.inl rfl), k1 4 (Or.inr (Or.inl rfl)), k1 5 (Or.inr (Or.inr (Or.inl rfl))), k1 6 (Or.inr (Or.inr (Or.inr rfl)))]
  exact h
section M1
variable {Γ : GG} {P : MP} {I : MM} {R : Int → MM → Prop} {Rv : MM → Prop} {T : Nat → Int} {L p : Nat}
theorem c_byteAt (hM : LM Γ P) (h2 : I 2 = T) (h3 : I 1 3 = (L : Int)) (hL : L ≤ 900) {k : Nat} (hk : k ≤ 100000) (h : R (bt T L k) I) : Cl Γ m_X6_byteAt [vR 1, vI (k : Int)] P I (ri P R) := by
  refine cl_of n_X6_byteAt (Nat.le_of_ble_eq_true rfl) (t_X6_byteAt_0 hM ⟨⟨by omega, by omega⟩, ?_⟩)
  rw [h3, h2]
  refine ⟨⟨by omega, by omega⟩, fun z => ?_, fun z => ⟨by omega, by omega, ?_⟩⟩
  · rwa [bt_out (by omega)] at h
  · rw [Int.toNat_natCast]
    rwa [bt_in (by omega)] at h
theorem up2_self {a i : Nat} {v : Int} (h : I a i = v) : up2 I a i v = I := by
  funext b j
  unfold up2
  by_cases e : b = a
  · by_cases e2 : j = i
    · rw [if_pos e, if_pos e2, e, e2]; exact h.symm
    · rw [if_pos e, if_neg e2]
  · rw [if_neg e]
theorem c_next (hM : LM Γ P) (G : GS I T L p) (h : R (bt T L (spc T L p)) (up2 I 1 4 (spc T L p : Int))) : Cl Γ m_X6_next [vR 1] P I (ri P R) := by
  obtain ⟨a, b, c, d, f, x, x1, x2, x3, -⟩ := G
  have x3' : spc T L x = spc T L p := x3
  have key : ∀ (n y : Nat), y + n = L → spc T L y = spc T L p → XM Γ m_X6_next 0 0 0 [(0, vR 1)] [] P (up2 I 1 4 (y : Int)) (ri P R) := by
    intro n
    induction n with
    | zero =>
      intro y hy hs
      have e2 : (up2 I 1 4 (y : Int)) 2 = T := by rw [up2_ne (by decide)]; exact a
      have e3 : (up2 I 1 4 (y : Int)) 1 3 = (L : Int) := by rw [up2_nj (by decide)]; exact b
      have hb := bt_b (k := y) d f
      have ns : isSp T L y = false := by
        cases hb : isSp T L y with
        | false => rfl
        | true => have := sp_lt hb; omega
      rw [spc_stop ns] at hs
      refine t_X6_next_0 hM ?_
      rw [show (up2 I 1 4 (y : Int)) 1 4 = (y : Int) from up2_eq]
      refine c_byteAt hM e2 e3 d (by omega) ⟨⟨by omega, by omega⟩, fun _ => ?_, fun z => ?_⟩
      · rw [show (up2 I 1 4 (y : Int)) 1 4 = (y : Int) from up2_eq]
        refine c_byteAt hM e2 e3 d (by omega) ?_
        rw [hs]; exact h
      · rw [isSp_bt.mpr z] at ns; exact Bool.noConfusion ns
    | succ n ih =>
      intro y hy hs
      have e2 : (up2 I 1 4 (y : Int)) 2 = T := by rw [up2_ne (by decide)]; exact a
      have e3 : (up2 I 1 4 (y : Int)) 1 3 = (L : Int) := by rw [up2_nj (by decide)]; exact b
      have hb := bt_b (k := y) d f
      refine t_X6_next_0 hM ?_
      rw [show (up2 I 1 4 (y : Int)) 1 4 = (y : Int) from up2_eq]
      refine c_byteAt hM e2 e3 d (by omega) ⟨⟨by omega, by omega⟩, fun z => ?_, fun z => ?_⟩
      · have ns : isSp T L y = false := by
          cases hb2 : isSp T L y with
          | false => rfl
          | true => exact absurd (isSp_bt.mp hb2) z
        rw [spc_stop ns] at hs
        rw [show (up2 I 1 4 (y : Int)) 1 4 = (y : Int) from up2_eq]
        refine c_byteAt hM e2 e3 d (by omega) ?_
        rw [hs]; exact h
      · intro J hJ
        rw [hJ, show (up2 I 1 4 (y : Int)) 1 4 = (y : Int) from up2_eq, up22, show (y : Int) + 1 = ((y + 1 : Nat) : Int) by push_cast; rfl]
        exact ih (y + 1) (by omega) (by rw [← spc_step (isSp_bt.mpr z)]; exact hs)
  refine cl_of n_X6_next (Nat.le_of_ble_eq_true rfl) ?_
  have := key (L - x) x (by omega) x3'
  rwa [up2_self x1] at this
theorem c_isGood1 (hM : LM Γ P) (h0 : I 1 5 = 0) (h : R 1 I) : Cl Γ m_X6_isGood [vR 1] P I (ri P R) := c_isGood hM (by rw [h0]; exact ⟨by decide, by decide⟩) (fun _ => h) (fun z => absurd h0 z)
theorem c_isGood0 (hM : LM Γ P) (h0 : I 1 5 ≠ 0 ∧ inR (I 1 5)) (h : R 0 I) : Cl Γ m_X6_isGood [vR 1] P I (ri P R) := c_isGood hM h0.2 (fun z => absurd z h0.1) (fun _ => h)
theorem c_report0 (hM : LM Γ P) (h0 : I 1 5 ≠ 0 ∧ inR (I 1 5)) {a b : Int} (h : Rv I) : Cl Γ m_X6_report [vR 1, vI a, vI b] P I (rv P Rv) := c_report hM h0.2 (fun z => absurd z h0.1) (fun _ => h)
theorem c_report1 (hM : LM Γ P) (h0 : I 1 5 = 0) {a : Int} {b : Nat} (ha : a ≠ 0 ∧ inR a) (h : ∀ J, erS I J (a, b) → J 1 4 = I 1 4 → Rv J) : Cl Γ m_X6_report [vR 1, vI a, vI (b : Int)] P I (rv P Rv) :=
  c_report hM (by rw [h0]; exact ⟨by decide, by decide⟩) (fun _ => h _ ⟨(tkF.f (Or.inr (Or.inl rfl))).trans (tkF.f (Or.inr (Or.inr (Or.inl rfl)))), by rw [up2_nj (by decide), up2_eq], up2_eq, ha.1, ha.2⟩ (by rw [up2_nj (by decide), up2_nj (by decide)])) (fun z => absurd h0 z)
theorem c_takeWord0 (hM : LM Γ P) (h0 : I 1 5 ≠ 0 ∧ inR (I 1 5)) {i : Nat} (hi : i < 9) (h : R 0 I) : Cl Γ m_X6_takeWord [vR 1, vR (500 + i)] P I (ri P R) :=
  cl_of n_X6_takeWord (Nat.le_of_ble_eq_true rfl) (t_X6_takeWord_0 hM hi (c_isGood0 hM h0 ⟨⟨by decide, by decide⟩, fun z => absurd rfl z, fun _ => h⟩))
theorem c_takeWord (hM : LM Γ P) (G : GS I T L p) {i : Nat} (hi : i < 9) (h1 : WD T L i (spc T L p) → R 1 (up2 I 1 4 ((spc T L p + lenS.getD i 0 : Nat) : Int))) (h0 : ¬ WD T L i (spc T L p) → R 0 (up2 I 1 4 (spc T L p : Int))) : Cl Γ m_X6_takeWord [vR 1, vR (500 + i)] P I (ri P R) := by
  have G2 := G
  obtain ⟨a, b, c, d, f, -⟩ := G2
  have hs := G.sp
  have hlen := lenS_b i hi
  have e2 : (up2 I 1 4 (spc T L p : Int)) 2 = T := by rw [up2_ne (by decide)]; exact a
  have e3 : (up2 I 1 4 (spc T L p : Int)) 1 3 = (L : Int) := by rw [up2_nj (by decide)]; exact b
  have e4 : (up2 I 1 4 (spc T L p : Int)) 1 4 = (spc T L p : Int) := up2_eq
  have key : ∀ (n k : Nat), k + n = lenS.getD i 0 → (∀ k2, k2 < k → spc T L p + k2 < L ∧ T (spc T L p + k2) = chS i k2) → XM Γ m_X6_takeWord 0 0 16 [(0, vR 1), (1, vR (500 + i)), (2, vI (k : Int))] [] P (up2 I 1 4 (spc T L p : Int)) (ri P R) := by
    intro n
    induction n with
    | zero =>
      intro k hk hm
      refine t_X6_takeWord_16 hM hi ⟨⟨by omega, by omega⟩, ⟨by omega, by omega⟩, fun _ => ⟨fun z => by omega, fun _ => ?_⟩, fun z => absurd (by omega) z⟩
      rw [e4, show (spc T L p : Int) + (k : Int) = ((spc T L p + k : Nat) : Int) by push_cast; rfl]
      have hb := bt_b (k := spc T L p + k) d f
      have ek : k = lenS.getD i 0 := by omega
      refine c_byteAt hM e2 e3 d (by omega) (c_in ⟨by omega, by omega⟩ ⟨by decide, by decide⟩ ⟨by decide, by decide⟩ (fun y1 y2 => ⟨⟨by decide, by decide⟩, fun z => absurd z (by decide), fun _ => h0 (fun w => ?_)⟩) (fun y => ⟨⟨by decide, by decide⟩, fun _ => ?_, fun z => absurd rfl z⟩))
      · have := w.2
        rw [← ek] at this
        rw [isLt_bt.mpr ⟨y1, y2⟩] at this
        exact Bool.noConfusion this
      · intro J hJ
        rw [hJ, e4, up22, show (spc T L p : Int) + (k : Int) = ((spc T L p + k : Nat) : Int) by push_cast; rfl, ek]
        refine h1 ⟨fun k2 hk2 => hm k2 (by omega), ?_⟩
        rw [← ek]
        cases hl : isLt T L (spc T L p + k) with
        | false => rfl
        | true => have := isLt_bt.mp hl; omega
    | succ n ih =>
      intro k hk hm
      have hc := chS_b i hi k (by omega)
      have hb := bt_b (k := spc T L p + k) d f
      refine t_X6_takeWord_16 hM hi ⟨⟨by omega, by omega⟩, ⟨by omega, by omega⟩, fun z => absurd z (by omega), fun _ => ?_⟩
      rw [e4, show (spc T L p : Int) + (k : Int) = ((spc T L p + k : Nat) : Int) by push_cast; rfl]
      refine c_byteAt hM e2 e3 d (by omega) ⟨by omega, by omega, ⟨by omega, by omega⟩, ?_⟩
      rw [Int.toNat_natCast]
      refine ⟨⟨by omega, by omega⟩, fun z => ⟨fun _ => h0 (fun w => z ?_), fun y => absurd (by omega) y⟩, fun z => ?_⟩
      · have := w.1 k (by omega)
        rw [bt_in this.1]; exact this.2
      · have hlt : spc T L p + k < L := bt_lt (T := T) (by omega)
        rw [bt_in hlt] at z
        have := ih (k + 1) (by omega) (fun k2 hk2 => by
          by_cases e : k2 = k
          · rw [e]; exact ⟨hlt, z⟩
          · exact hm k2 (by omega))
        push_cast at this
        exact this
  refine cl_of n_X6_takeWord (Nat.le_of_ble_eq_true rfl) (t_X6_takeWord_0 hM hi (c_isGood1 hM c ⟨⟨by decide, by decide⟩, fun _ => c_next hM G ?_, fun z => absurd z (by decide)⟩))
  exact key (lenS.getD i 0) 0 (Nat.zero_add _) (fun k2 h => absurd h (Nat.not_lt_zero _))
theorem c_expect0 (hM : LM Γ P) (h0 : I 1 5 ≠ 0 ∧ inR (I 1 5)) {c : Int} (h : Rv I) : Cl Γ m_X6_expect [vR 1, vI c] P I (rv P Rv) :=
  cl_of n_X6_expect (Nat.le_of_ble_eq_true rfl) (t_X6_expect_0 hM (c_isGood0 hM h0 ⟨⟨by decide, by decide⟩, fun z => absurd rfl z, fun _ => h⟩))
theorem c_expect (hM : LM Γ P) (G : GS I T L p) {c : Int} (hc : inR c) (hc1 : c ≠ -1) (h1 : ∀ J e, expS T L p c = .ok e → okS I J T L e → Rv J) (h0 : ∀ J e, expS T L p c = .error e → erS I J e → Rv J) : Cl Γ m_X6_expect [vR 1, vI c] P I (rv P Rv) := by
  have G2 := G
  obtain ⟨a, b, c5, d, f, -⟩ := G2
  have hs := G.sp
  have hb := bt_b (k := spc T L p) d f
  have tk : tkF I (up2 I 1 4 (spc T L p : Int)) := tkF.f (Or.inl rfl)
  unfold expS at h1 h0
  refine cl_of n_X6_expect (Nat.le_of_ble_eq_true rfl) (t_X6_expect_0 hM (c_isGood1 hM c5 ⟨⟨by decide, by decide⟩, fun _ => c_next hM G ⟨⟨by omega, by omega⟩, hc, fun z => ?_, fun z => ?_⟩, fun z => absurd z (by decide)⟩))
  · rw [show (up2 I 1 4 (spc T L p : Int)) 1 4 = (spc T L p : Int) from up2_eq]
    refine c_report1 hM (by rw [up2_nj (by decide)]; exact c5) ⟨by decide, by decide, by decide⟩ (fun J hJ _ => ?_)
    exact h0 J _ (by rw [if_neg z]) ⟨tk.trans hJ.1, hJ.2⟩
  · intro J hJ
    rw [show (up2 I 1 4 (spc T L p : Int)) 1 4 = (spc T L p : Int) from up2_eq, up22, show (spc T L p : Int) + 1 = ((spc T L p + 1 : Nat) : Int) by push_cast; rfl] at hJ
    have hlt : spc T L p < L := bt_lt (T := T) (by rw [z]; exact hc1)
    rw [hJ]
    exact h1 _ _ (by rw [if_pos z]) ⟨tkF.f (Or.inl rfl), G.at_ (by omega)⟩
theorem c_number0 (hM : LM Γ P) (h0 : I 1 5 ≠ 0 ∧ inR (I 1 5)) {lo hi : Int} (h : R 0 I) : Cl Γ m_X6_number [vR 1, vI lo, vI hi] P I (ri P R) :=
  cl_of n_X6_number (Nat.le_of_ble_eq_true rfl) (t_X6_number_0 hM (c_isGood0 hM h0 ⟨⟨by decide, by decide⟩, fun z => absurd rfl z, fun _ => h⟩))
theorem vlN_b {s : Nat} (hT : ∀ k : Nat, k < 900 → 0 ≤ T k ∧ T k ≤ 255) : ∀ i : Nat, s + i ≤ 900 → (∀ k, k < i → 48 ≤ T (s + k)) → 0 ≤ vlN T s i ∧ vlN T s i ≤ 1000000
  | 0, _, _ => by simp only [vlN]; omega
  | i + 1, hi, hd => by
    have h1 := vlN_b hT i (by omega) (fun k hk => hd k (by omega))
    have h2 := hd i (by omega)
    simp only [vlN]
    omega
theorem vlE_b {s : Nat} (hL : L ≤ 900) (hT : ∀ k : Nat, k < 900 → 0 ≤ T k ∧ T k ≤ 255) (hs : s ≤ L) : 0 ≤ vlE T L s ∧ vlE T L s ≤ 1000000 := by
  have h1 := dgE_le (T := T) hs
  have h2 := dgE_ge (T := T) (L := L) (k := s)
  exact vlN_b hT _ (by omega) (fun k hk => (isDg_t.mp (rnE_in (p := isDg T L) (L - s) s (s + k) (by omega) (by have : dgE T L s = rnE (isDg T L) (L - s) s := rfl; omega))).2.1)
theorem c_number (hM : LM Γ P) (G : GS I T L p) {lo hi : Int} (hlo : inR lo) (hhi : inR hi) (h1 : ∀ J r, numS T L p lo hi = .ok r → okS I J T L r.1 → J 1 13 = (spc T L p : Int) → R r.2 J) (h0 : ∀ J e v, numS T L p lo hi = .error e → erS I J e → R v J) : Cl Γ m_X6_number [vR 1, vI lo, vI hi] P I (ri P R) := by
  have G2 := G
  obtain ⟨a, b, c5, d, f, x9, -, -, -, g6⟩ := G2
  have hs := G.sp
  have hb := bt_b (k := spc T L p) d f
  unfold numS at h1 h0
  have tk : tkF I (up2 I 1 4 (spc T L p : Int)) := tkF.f (Or.inl rfl)
  refine cl_of n_X6_number (Nat.le_of_ble_eq_true rfl) (t_X6_number_0 hM (c_isGood1 hM c5 ⟨⟨by decide, by decide⟩, fun _ => c_next hM G (c_isDigit ⟨by omega, by omega⟩ (fun y1 y2 => ⟨⟨by decide, by decide⟩, fun _ => ?_, fun z => absurd z (by decide)⟩) (fun y => ⟨⟨by decide, by decide⟩, fun z => absurd rfl z, fun _ => ?_⟩)), fun z => absurd z (by decide)⟩))
  · have hd := isDg_bt.mpr ⟨y1, y2⟩
    rw [if_pos hd] at h1 h0
    intro A hA
    rw [show (up2 I 1 4 (spc T L p : Int)) 1 4 = (spc T L p : Int) from up2_eq] at hA
    have key : ∀ (n y : Nat), y + n = L → spc T L p ≤ y → dgE T L y = dgE T L (spc T L p) → (∀ k, k < y - spc T L p → 48 ≤ T (spc T L p + k)) → XM Γ m_X6_number 0 0 41 [(0, vR 1), (1, vI lo), (2, vI hi), (3, vI (vlN T (spc T L p) (y - spc T L p)))] [] P (up2 A 1 4 (y : Int)) (ri P R) := by
      have fin : ∀ y : Nat, y ≤ L → spc T L p ≤ y → dgE T L (spc T L p) = y → Cl Γ m_X6_in [vI (vlN T (spc T L p) (y - spc T L p)), vI lo, vI hi] P (up2 A 1 4 (y : Int)) (ri P (fun (z8 : Int) (I9 : MM) => (inR z8) ∧ ((z8 ≠ 0 → R (vlN T (spc T L p) (y - spc T L p)) I9) ∧ (z8 = 0 → (Cl Γ m_X6_report [vR 1, vI (-3), vI (I9 1 13)] P I9 (rv P (fun (I13 : MM) => R (vlN T (spc T L p) (y - spc T L p)) I13))))))) := by
        intro y hy hsy e
        have ev : vlN T (spc T L p) (y - spc T L p) = vlE T L (spc T L p) := by unfold vlE; rw [e]
        have hv := vlE_b (s := spc T L p) d f hs
        rw [ev]
        have a13 : (up2 A 1 4 (y : Int)) 1 13 = (spc T L p : Int) := by rw [up2_nj (by decide), hA, up2_eq]
        have tkA : tkF I (up2 A 1 4 (y : Int)) := tk.trans (tkF.trans (by rw [hA]; exact tkF.f (Or.inr (Or.inr (Or.inr rfl)))) (tkF.f (Or.inl rfl)))
        have GA : GS (up2 A 1 4 (y : Int)) T L y := ⟨by rw [tkA.1 2 (by decide)]; exact a, by rw [tkA.2 3 (by decide) (by decide) (by decide) (by decide)]; exact b, by rw [up2_nj (by decide), hA, up2_nj (by decide), up2_nj (by decide)]; exact c5, d, f, y, up2_eq, hy, rfl, by rw [up2_nj (by decide), hA, up2_nj (by decide), up2_nj (by decide)]; exact g6⟩
        refine c_in ⟨by omega, by omega⟩ hlo hhi (fun w1 w2 => ⟨⟨by decide, by decide⟩, fun _ => ?_, fun z => absurd z (by decide)⟩) (fun w => ⟨⟨by decide, by decide⟩, fun z => absurd rfl z, fun _ => ?_⟩)
        · rw [pIf_t ⟨w1, w2⟩] at h1
          refine h1 _ _ rfl ⟨tkA, ?_⟩ a13
          rw [e]; exact GA
        · rw [pIf_f (fun z => by omega)] at h0
          rw [a13]
          refine c_report1 hM GA.2.2.1 ⟨by decide, by decide, by decide⟩ (fun J hJ _ => h0 J _ _ rfl ⟨tkA.trans hJ.1, hJ.2⟩)
      intro n
      induction n with
      | zero =>
        intro y hy hsy he hk
        have nd : isDg T L y = false := by
          cases hq : isDg T L y with
          | false => rfl
          | true => have := dg_lt hq; omega
        rw [dgE_stop nd] at he
        have e2 : (up2 A 1 4 (y : Int)) 2 = T := by rw [up2_ne (by decide), hA, up2_ne (by decide), up2_ne (by decide)]; exact a
        have e3 : (up2 A 1 4 (y : Int)) 1 3 = (L : Int) := by rw [up2_nj (by decide), hA, up2_nj (by decide), up2_nj (by decide)]; exact b
        have hb2 := bt_b (k := y) d f
        have nb : bt T L y < 48 ∨ 57 < bt T L y := by rw [bt_out (by omega)]; omega
        refine t_X6_number_41 hM ?_
        rw [show (up2 A 1 4 (y : Int)) 1 4 = (y : Int) from up2_eq]
        refine c_byteAt hM e2 e3 d (by omega) (c_isDigit ⟨by omega, by omega⟩ (fun w1 w2 => by omega) (fun _ => ⟨⟨by decide, by decide⟩, fun _ => fin y (by omega) hsy he.symm, fun z => absurd rfl z⟩))
      | succ n ih =>
        intro y hy hsy he hk
        have e2 : (up2 A 1 4 (y : Int)) 2 = T := by rw [up2_ne (by decide), hA, up2_ne (by decide), up2_ne (by decide)]; exact a
        have e3 : (up2 A 1 4 (y : Int)) 1 3 = (L : Int) := by rw [up2_nj (by decide), hA, up2_nj (by decide), up2_nj (by decide)]; exact b
        have hb2 := bt_b (k := y) d f
        have hv := vlN_b (T := T) (s := spc T L p) f (y - spc T L p) (by omega) hk
        refine t_X6_number_41 hM ?_
        rw [show (up2 A 1 4 (y : Int)) 1 4 = (y : Int) from up2_eq]
        refine c_byteAt hM e2 e3 d (by omega) (c_isDigit ⟨by omega, by omega⟩ (fun w1 w2 => ⟨⟨by decide, by decide⟩, fun z => absurd z (by decide), fun _ => ?_⟩) (fun w => ⟨⟨by decide, by decide⟩, fun _ => ?_, fun z => absurd rfl z⟩))
        · rw [show (up2 A 1 4 (y : Int)) 1 4 = (y : Int) from up2_eq]
          refine c_byteAt hM e2 e3 d (by omega) (c_min ⟨by decide, by decide⟩ ⟨by omega, by omega⟩ ?_)
          intro J hJ
          rw [hJ, show (up2 A 1 4 (y : Int)) 1 4 = (y : Int) from up2_eq, up22, show (y : Int) + 1 = ((y + 1 : Nat) : Int) by push_cast; rfl]
          have hdy := isDg_bt.mpr ⟨w1, w2⟩
          have hyL := dg_lt hdy
          have := ih (y + 1) (by omega) (by omega) (by rw [← dgE_step hdy]; exact he) (fun k hk2 => by
            by_cases e : k = y - spc T L p
            · rw [e, show spc T L p + (y - spc T L p) = y by omega]
              rw [bt_in hyL] at w1
              exact w1
            · exact hk k (by omega))
          rw [show y + 1 - spc T L p = y - spc T L p + 1 by omega] at this
          simp only [vlN] at this
          rw [show spc T L p + (y - spc T L p) = y by omega] at this
          rw [bt_in hyL]
          exact this
        · have nd : isDg T L y = false := by
            cases hq : isDg T L y with
            | false => rfl
            | true => have := isDg_bt.mp hq; omega
          rw [dgE_stop nd] at he
          exact fin y (by omega) hsy he.symm
    have := key (L - spc T L p) (spc T L p) (by omega) (Nat.le_refl _) rfl (fun k hk => absurd hk (by omega))
    rw [Nat.sub_self] at this
    have e14 : up2 A 1 4 (spc T L p : Int) = A := up2_self (by rw [hA, up2_nj (by decide), up2_eq])
    rw [e14] at this
    exact this
  · have nd : ¬ isDg T L (spc T L p) = true := fun z => by have := isDg_bt.mp z; omega
    rw [if_neg nd] at h0
    rw [show (up2 I 1 4 (spc T L p : Int)) 1 4 = (spc T L p : Int) from up2_eq]
    refine c_report1 hM (by rw [up2_nj (by decide)]; exact c5) ⟨by decide, by decide, by decide⟩ (fun J hJ _ => ?_)
    exact h0 J _ _ rfl ⟨tk.trans hJ.1, hJ.2⟩
end M1
