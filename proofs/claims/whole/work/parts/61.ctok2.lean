/-! THE CLASS'S fail, expect, isWord, readNumber -/
/-- the value as the class computes it -/
def cvN (T : Nat → Int) (s : Nat) : Nat → Int
  | 0 => 0
  | i + 1 => if 100000 ≤ cvN T s i then cvN T s i else 10 * cvN T s i + T (s + i) - 48
theorem cv_vl {T : Nat → Int} {s : Nat} : ∀ n : Nat, (∀ i, i < n → 48 ≤ T (s + i) ∧ T (s + i) ≤ 57) → 0 ≤ cvN T s n ∧ cvN T s n ≤ 1000000 ∧ ((cvN T s n = vlN T s n ∧ vlN T s n < 100000) ∨ (100000 ≤ cvN T s n ∧ 100000 ≤ vlN T s n))
  | 0, _ => by simp [cvN, vlN]
  | n + 1, h => by
    obtain ⟨a, b, c⟩ := cv_vl (T := T) (s := s) n (fun i hi => h i (by omega))
    have hd := h n (by omega)
    simp only [cvN, vlN]
    rcases c with ⟨c1, c2⟩ | ⟨c1, c2⟩
    · rw [if_neg (by omega), c1]
      omega
    · rw [if_pos c1]
      omega
section M3
variable {Γ : GG} {P : MP} {I : MM} {R : Int → MM → Prop} {Rv : MM → Prop} {T : Nat → Int} {L p : Nat}
theorem TK.tx (h : TK I T L p) : TX I T L := h.1
theorem TK.pl (h : TK I T L p) : p ≤ L := h.2.2.2.1
theorem TK.l9 (h : TK I T L p) : L ≤ 900 := h.1.2.2.1
theorem TK.sp (h : TK I T L p) : spc T L p ≤ L := spc_le h.pl
theorem TKb.k {J : MM} {e : Er} (h : TKb I L e) (e4 : ∀ i, i = 1 ∨ i = 4 ∨ i = 5 ∨ i = 6 → J 31 i = I 31 i) : TKb J L e := by
  unfold TKb; rw [e4 4 (by decide), e4 5 (by decide), e4 6 (by decide), e4 1 (by decide)]; exact h
theorem d_fail0 (hr : LRead Γ P) {e : Er} (h : TKb I L e) {c : Int} (hR : ∀ J, tcF I J → TKb J L e → Rv J) : Cl Γ m_X3_fail [vR 31, vI c] P I (rv P Rv) := by
  refine cl_of n_X3_fail (Nat.le_of_ble_eq_true rfl) (t_X3_fail_0 hr ?_)
  rw [h.2.1]
  refine ⟨h.2.2.2.1, fun _ => ?_, fun z => absurd z h.2.2.1⟩
  intro J hJ
  refine hR J (by rw [hJ]; exact tcF.f (by decide)) ?_
  obtain ⟨a, b, c, d, e5, f, g⟩ := h
  exact ⟨by rw [hJ, up2_eq], by rw [hJ, up2_nj (by decide)]; exact b, c, d, by rw [hJ, up2_nj (by decide)]; exact e5, by rw [hJ, up2_nj (by decide)]; exact f, g⟩
theorem d_fail (hr : LRead Γ P) (h : TK I T L p) {c : Int} (hc : c ≠ 0 ∧ inR c) (hR : ∀ J, tcF I J → TKb J L (c, spc T L p) → Rv J) : Cl Γ m_X3_fail [vR 31, vI c] P I (rv P Rv) := by
  obtain ⟨h1, h5, h6, hp, h2, h3, h4⟩ := h
  refine cl_of n_X3_fail (Nat.le_of_ble_eq_true rfl) (t_X3_fail_0 hr ?_)
  rw [h5]
  refine ⟨⟨by decide, by decide⟩, fun z => absurd rfl z, fun _ => ?_⟩
  intro A hA B hB C hC
  have a2 : A 31 2 = (spc T L p : Int) := by rw [hA, up2_nj (by decide)]; exact h2
  rw [a2] at hB
  refine hR C (by rw [hC, hB, hA]; exact ((tcF.f (by decide)).trans (tcF.f (by decide))).trans (tcF.f (by decide))) ⟨by rw [hC, up2_eq], by rw [hC, up2_nj (by decide), hB, up2_nj (by decide), hA, up2_eq], hc.1, hc.2, by rw [hC, up2_nj (by decide), hB, up2_eq], by rw [hC, up2_nj (by decide), hB, up2_nj (by decide), hA, up2_nj (by decide)]; exact h1.2.1, h1.2.2.1⟩
/-- the token that is there is taken -/
theorem d_take (hr : LRead Γ P) (h : TK I T L p) (hR : ∀ J, tcF I J → TK J T L (tkE T L p) → Rv J) : Cl Γ m_X3_next [vR 31] P I (rv P Rv) :=
  d_next hr h.1 h.2.1 h.2.2.1 h.2.2.2.2.2.1 (tkE_le h.pl) hR
theorem d_expect0 (hr : LRead Γ P) {e : Er} (h : TKb I L e) {c : Int} (hc : 0 ≤ c ∧ c ≤ 127) (hR : ∀ J, tcF I J → TKb J L e → Rv J) : Cl Γ m_X3_expect [vR 31, vI c] P I (rv P Rv) := by
  refine cl_of n_X3_expect (Nat.le_of_ble_eq_true rfl) (t_X3_expect_0 hr ?_)
  rw [h.1]
  exact ⟨⟨by decide, by decide⟩, ⟨by omega, by omega⟩, fun _ => d_fail0 hr h hR, fun z => by omega⟩
theorem d_expect (hr : LRead Γ P) (h : TK I T L p) {c : Int} (hc : 0 ≤ c ∧ c ≤ 127) (c1 : c < 48 ∨ 57 < c) (c2 : c < 97 ∨ 122 < c) (h1 : ∀ J e, expS T L p c = .ok e → tcF I J → TK J T L e → Rv J) (h0 : ∀ J e, expS T L p c = .error e → tcF I J → TKb J L e → Rv J) : Cl Γ m_X3_expect [vR 31, vI c] P I (rv P Rv) := by
  have hb := tkK_b (T := T) (L := L) (p := p)
  have hs := tkK_sign (p := p) h.1.2.2.2 h.l9 hc c1 c2
  unfold expS at h1 h0
  refine cl_of n_X3_expect (Nat.le_of_ble_eq_true rfl) (t_X3_expect_0 hr ?_)
  rw [h.2.2.2.2.2.2]
  refine ⟨⟨by omega, by omega⟩, ⟨by omega, by omega⟩, fun z => ?_, fun z => ?_⟩
  · rw [if_neg (fun q => z (hs.mpr q))] at h0
    exact d_fail hr h ⟨by decide, by decide, by decide⟩ (fun J a b => h0 J _ rfl a b)
  · rw [if_pos (hs.mp z)] at h1
    refine d_take hr h (fun J a b => ?_)
    rw [tkE_sign (by omega) c1 c2 (hs.mp z)] at b
    exact h1 J _ rfl a b
/-- the word i is the token that is there -/
theorem WD_tk {i s : Nat} (hi : i < 9) (h : WD T L i s) : isLt T L s = true ∧ ltE T L s = s + lenS.getD i 0 := by
  have hl := lenS_b i hi
  have we := WD_end hi h
  have c : ∀ k, k < lenS.getD i 0 → isLt T L (s + k) = true := fun k hk => by
    obtain ⟨a, b⟩ := h.1 k hk
    have := chS_b i hi k hk
    exact isLt_t.mpr ⟨a, by omega, by omega⟩
  refine ⟨by have := c 0 (by omega); rwa [Nat.add_zero] at this, ?_⟩
  exact rnE_at (L - s) s (s + lenS.getD i 0) (by omega) (by omega) (fun k a b => by have := c (k - s) (by omega); rwa [show s + (k - s) = k by omega] at this) (fun _ => h.2)
theorem d_isWord0 (hr : LRead Γ P) {e : Er} (h : TKb I L e) {i : Nat} (hi : i < 9) (hR : R 0 I) : Cl Γ m_X3_isWord [vR 31, vR (500 + i)] P I (ri P R) := by
  refine cl_of n_X3_isWord (Nat.le_of_ble_eq_true rfl) (t_X3_isWord_0 hr hi ?_)
  rw [h.1]
  exact ⟨⟨by decide, by decide⟩, fun _ => hR, fun z => absurd z (by decide)⟩
theorem d_isWord (hr : LRead Γ P) (h : TK I T L p) {i : Nat} (hi : i < 9) (h1 : WD T L i (spc T L p) → R 1 I) (h0 : ¬ WD T L i (spc T L p) → R 0 I) : Cl Γ m_X3_isWord [vR 31, vR (500 + i)] P I (ri P R) := by
  have hb := tkK_b (T := T) (L := L) (p := p)
  have hl := lenS_b i hi
  have hsp := h.sp
  have h9 := h.l9
  have hte := tkE_le (T := T) h.pl
  obtain ⟨hx, h5, h6, hp, h2, h3, h4⟩ := h
  refine cl_of n_X3_isWord (Nat.le_of_ble_eq_true rfl) (t_X3_isWord_0 hr hi ?_)
  rw [h4, h3, h2]
  refine ⟨⟨by omega, by omega⟩, fun z => h0 (fun w => z (tkK_word.mpr (WD_tk hi w).1)), fun z => ?_⟩
  have hlt := tkK_word.mp z
  obtain ⟨e1, -⟩ := tkE_lt (p := p) hlt
  refine ⟨⟨by omega, by omega⟩, ⟨by omega, by omega⟩, fun y => ?_, fun y => h0 (fun w => y (by have := (WD_tk hi w).2; omega))⟩
  have key : ∀ (f k : Nat), k + f = lenS.getD i 0 → (∀ k2, k2 < k → spc T L p + k2 < L ∧ T (spc T L p + k2) = chS i k2) → XM Γ m_X3_isWord 0 0 30 [(0, vR 31), (1, vR (500 + i)), (2, vI (k : Int))] [] P I (ri P R) := by
    intro f
    induction f with
    | zero =>
      intro k hk hm
      have ek : k = lenS.getD i 0 := by omega
      refine t_X3_isWord_30 hr hi ⟨⟨by omega, by omega⟩, ⟨by omega, by omega⟩, fun _ => h1 ⟨fun k2 hk2 => hm k2 (by omega), ?_⟩, fun w => absurd (by omega) w⟩
      have := ltE_end (T := T) (L := L) (k := spc T L p)
      rwa [show ltE T L (spc T L p) = spc T L p + lenS.getD i 0 by omega] at this
    | succ f ih =>
      intro k hk hm
      have hc := chS_b i hi k (by omega)
      have hv := hx.2.2.2 (spc T L p + k) (by omega)
      have hb2 := b8_b (T (spc T L p + k))
      refine t_X3_isWord_30 hr hi ⟨⟨by omega, by omega⟩, ⟨by omega, by omega⟩, fun w => absurd w (by omega), fun _ => ?_⟩
      rw [h2, show ((spc T L p : Int) + (k : Int)).toNat = spc T L p + k by omega, hx.1 _ (by omega), Int.toNat_natCast]
      refine ⟨by omega, by omega, by omega, by omega, ⟨by omega, by omega⟩, ⟨by omega, by omega⟩, fun w => ?_, fun w => h0 (fun q => w ((b8_c hv ⟨by omega, by omega⟩).mpr (q.1 k (by omega)).2))⟩
      have := ih (k + 1) (by omega) (fun k2 hk2 => by
        by_cases e : k2 = k
        · rw [e]; exact ⟨by omega, (b8_c hv ⟨by omega, by omega⟩).mp w⟩
        · exact hm k2 (by omega))
      push_cast at this
      exact this
  exact key (lenS.getD i 0) 0 (Nat.zero_add _) (fun k2 hk2 => absurd hk2 (Nat.not_lt_zero _))
theorem tkE_WD {i : Nat} (hi : i < 9) (h : WD T L i (spc T L p)) : tkE T L p = spc T L p + lenS.getD i 0 := by
  obtain ⟨a, b⟩ := WD_tk hi h
  rw [(tkE_lt a).1, b]
theorem d_expectWord0 (hr : LRead Γ P) {e : Er} (h : TKb I L e) {i : Nat} (hi : i < 9) (hR : ∀ J, tcF I J → TKb J L e → Rv J) : Cl Γ m_X3_expectWord [vR 31, vR (500 + i)] P I (rv P Rv) :=
  cl_of n_X3_expectWord (Nat.le_of_ble_eq_true rfl) (t_X3_expectWord_0 hr hi (d_isWord0 hr h hi ⟨⟨by decide, by decide⟩, fun _ => d_fail0 hr h hR, fun z => absurd rfl z⟩))
theorem d_expectWord (hr : LRead Γ P) (h : TK I T L p) {i : Nat} (hi : i < 9) (h1 : ∀ J, WD T L i (spc T L p) → tcF I J → TK J T L (spc T L p + lenS.getD i 0) → Rv J) (h0 : ∀ J, ¬ WD T L i (spc T L p) → tcF I J → TKb J L (-2, spc T L p) → Rv J) : Cl Γ m_X3_expectWord [vR 31, vR (500 + i)] P I (rv P Rv) := by
  refine cl_of n_X3_expectWord (Nat.le_of_ble_eq_true rfl) (t_X3_expectWord_0 hr hi (d_isWord hr h hi (fun w => ⟨⟨by decide, by decide⟩, fun z => absurd z (by decide), fun _ => d_take hr h (fun J a b => ?_)⟩) (fun w => ⟨⟨by decide, by decide⟩, fun _ => d_fail hr h ⟨by decide, by decide, by decide⟩ (fun J a b => h0 J w a b), fun z => absurd rfl z⟩)))
  rw [tkE_WD hi w] at b
  exact h1 J w a b
theorem dg_run {s k : Nat} (h : s + k < dgE T L s) : s + k < L ∧ 48 ≤ T (s + k) ∧ T (s + k) ≤ 57 := isDg_t.mp (rnE_in (p := isDg T L) (L - s) s (s + k) (by omega) h)
/-- a number is there: its value -/
theorem d_valueOfToken (hr : LRead Γ P) (h : TK I T L p) (hd : isDg T L (spc T L p) = true) (hR : R (cvN T (spc T L p) (dgE T L (spc T L p) - spc T L p)) I) : Cl Γ m_X3_valueOfToken [vR 31] P I (ri P R) := by
  have hsp := h.sp
  have h9 := h.l9
  have hge := dgE_ge (T := T) (L := L) (k := spc T L p)
  have hle := dgE_le (T := T) (L := L) (k := spc T L p) hsp
  obtain ⟨hx, h5, h6, hp, h2, h3, h4⟩ := h
  obtain ⟨e1, -⟩ := tkE_dg (p := p) hd
  rw [e1] at h3
  have key : ∀ (f k : Nat), spc T L p + k + f = dgE T L (spc T L p) → XM Γ m_X3_valueOfToken 0 0 7 [(0, vR 31), (1, vI (cvN T (spc T L p) k)), (2, vI ((spc T L p + k : Nat) : Int))] [] P I (ri P R) := by
    intro f
    induction f with
    | zero =>
      intro k hk
      refine t_X3_valueOfToken_7 hr ?_
      rw [h3]
      refine ⟨⟨by omega, by omega⟩, ⟨by omega, by omega⟩, fun _ => ?_, fun z => absurd (by omega) z⟩
      rwa [show dgE T L (spc T L p) - spc T L p = k by omega] at hR
    | succ f ih =>
      intro k hk
      obtain ⟨v1, v2, -⟩ := cv_vl (T := T) (s := spc T L p) k (fun i hi => (dg_run (L := L) (by omega)).2)
      obtain ⟨d1, d2, d3⟩ := dg_run (T := T) (L := L) (s := spc T L p) (k := k) (by omega)
      refine t_X3_valueOfToken_7 hr ?_
      rw [h3]
      refine ⟨⟨by omega, by omega⟩, ⟨by omega, by omega⟩, fun z => absurd z (by omega), fun _ => ⟨⟨by omega, by omega⟩, fun z => ?_, fun z => ⟨by omega, by omega, ?_⟩⟩⟩
      · -- it stays
        have st : ∀ m : Nat, cvN T (spc T L p) (k + m) = cvN T (spc T L p) k := by
          intro m
          induction m with
          | zero => rfl
          | succ m ihm =>
            show (if 100000 ≤ cvN T (spc T L p) (k + m) then cvN T (spc T L p) (k + m) else _) = _
            rw [ihm, if_pos z]
        have := st (f + 1)
        rw [show k + (f + 1) = dgE T L (spc T L p) - spc T L p by omega] at this
        rwa [this] at hR
      · intro u hu
        rw [Int.toNat_natCast, hx.1 _ (by omega), (b8_c (v := T (spc T L p + k)) (c := T (spc T L p + k)) ⟨by omega, by omega⟩ ⟨by omega, by omega⟩).mpr rfl] at hu
        have := ih (k + 1) (by omega)
        simp only [cvN] at this
        rw [if_neg z] at this
        rw [hu, show ((spc T L p + k : Nat) : Int) + 1 = ((spc T L p + (k + 1) : Nat) : Int) by push_cast; omega]
        exact this
  refine cl_of n_X3_valueOfToken (Nat.le_of_ble_eq_true rfl) (t_X3_valueOfToken_0 hr ?_)
  intro u hu
  rw [hu, h2]
  exact key (dgE T L (spc T L p) - spc T L p) 0 (by omega)
theorem vl_cv (hd : isDg T L (spc T L p) = true) : 0 ≤ cvN T (spc T L p) (dgE T L (spc T L p) - spc T L p) ∧ cvN T (spc T L p) (dgE T L (spc T L p) - spc T L p) ≤ 1000000 ∧ ((cvN T (spc T L p) (dgE T L (spc T L p) - spc T L p) = vlE T L (spc T L p) ∧ vlE T L (spc T L p) < 100000) ∨ (100000 ≤ cvN T (spc T L p) (dgE T L (spc T L p) - spc T L p) ∧ 100000 ≤ vlE T L (spc T L p))) :=
  cv_vl _ (fun i hi => (dg_run (L := L) (by omega)).2)
theorem d_readNumber0 (hr : LRead Γ P) {e : Er} (h : TKb I L e) {lo hi : Int} (hR : ∀ J, tcF I J → TKb J L e → R lo J) : Cl Γ m_X3_readNumber [vR 31, vI lo, vI hi] P I (ri P R) := by
  refine cl_of n_X3_readNumber (Nat.le_of_ble_eq_true rfl) (t_X3_readNumber_0 hr ?_)
  rw [h.1]
  exact ⟨⟨by decide, by decide⟩, fun z => absurd z (by decide), fun _ => d_fail0 hr h hR⟩
theorem d_readNumber (hr : LRead Γ P) (h : TK I T L p) {lo hi : Int} (hlo : 0 ≤ lo ∧ lo ≤ 10) (hhi : -10 ≤ hi ∧ hi ≤ 9999) (h1 : ∀ J r, numS T L p lo hi = .ok r → tcF I J → TK J T L r.1 → R r.2 J) (h0 : ∀ J e, numS T L p lo hi = .error e → tcF I J → TKb J L e → R lo J) : Cl Γ m_X3_readNumber [vR 31, vI lo, vI hi] P I (ri P R) := by
  have hb := tkK_b (T := T) (L := L) (p := p)
  unfold numS at h1 h0
  refine cl_of n_X3_readNumber (Nat.le_of_ble_eq_true rfl) (t_X3_readNumber_0 hr ?_)
  rw [h.2.2.2.2.2.2]
  refine ⟨⟨by omega, by omega⟩, fun z => ?_, fun z => ?_⟩
  · have hd := tkK_num.mp z
    rw [if_pos hd] at h1 h0
    obtain ⟨v1, v2, v3⟩ := vl_cv hd
    obtain ⟨e1, -⟩ := tkE_dg (p := p) hd
    refine d_valueOfToken hr h hd ⟨⟨by omega, by omega⟩, ⟨by omega, by omega⟩, fun y => ?_, fun y => ⟨⟨by omega, by omega⟩, fun w => d_take hr h (fun J a b => ?_), fun w => ?_⟩⟩
    · rw [pIf_f (fun q => by omega)] at h0
      exact d_fail hr h ⟨by decide, by decide, by decide⟩ (fun J a b => h0 J _ rfl a b)
    · rw [pIf_t (by omega)] at h1
      rw [e1] at b
      have := h1 J _ rfl a b
      rwa [show cvN T (spc T L p) (dgE T L (spc T L p) - spc T L p) = vlE T L (spc T L p) by omega]
    · rw [pIf_f (fun q => by omega)] at h0
      exact d_fail hr h ⟨by decide, by decide, by decide⟩ (fun J a b => h0 J _ rfl a b)
  · rw [if_neg (fun q => z (tkK_num.mpr q))] at h0
    exact d_fail hr h ⟨by decide, by decide, by decide⟩ (fun J a b => h0 J _ rfl a b)
end M3
