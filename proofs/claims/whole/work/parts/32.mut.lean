/-! THE REFERENCE'S CHANGES: its state D, cs, n, H -/
/-- the shop is the same; orders and durations may differ -/
def sameS (D E : Nat → Int) : Prop := ∀ i : Nat, (∀ m k : Nat, m < 6 → k < 6 → i ≠ 5 + 9 * m + 3 + k) → (∀ o : Nat, o < 36 → i ≠ 83 + 2 * o + 1) → E i = D i
theorem sameS.refl (D : Nat → Int) : sameS D D := fun _ _ _ => rfl
theorem sameS.symm {D E : Nat → Int} (h : sameS D E) : sameS E D := fun i a b => (h i a b).symm
theorem sameS.trans {A B C : Nat → Int} (h : sameS A B) (k : sameS B C) : sameS A C := fun i a b => (k i a b).trans (h i a b)
theorem sameD.s {D E : Nat → Int} (h : sameD D E) : sameS D E := fun i a _ => h i a
theorem duF_s {D : Nat → Int} {o : Nat} (ho : o < 36) {d : Int} : sameS D (duF D o d) := fun _ _ b => duF_o (b o ho)
theorem FPn.s {D E : Nat → Int} (hP : NP D) (h : FPn D 36 E) : sameS D E := fun i a b => by
  by_cases h1 : i < 7 ∨ 59 ≤ i
  · exact h.1 i h1
  · by_cases e : (i - 5) % 9 < 3
    · have hm : (i - 5) / 9 < 6 := by omega
      by_cases e0 : (i - 5) % 9 = 0
      · have := (h.2.1 _ hm).1
        rwa [show 5 + 9 * ((i - 5) / 9) = i by omega] at this
      · by_cases e1 : (i - 5) % 9 = 1
        · have := (h.2.1 _ hm).2
          rwa [show 5 + 9 * ((i - 5) / 9) + 1 = i by omega] at this
        · have e2 : 5 + 9 * ((i - 5) / 9) + 2 = i := by omega
          by_cases hq : (((i - 5) / 9 : Nat) : Int) < D 0
          · have h2 := h.2.2.1 _ hq
            have h3 := hP _ hq
            rw [e2] at h2 h3
            rw [h2, h3]
          · have h2 := h.2.2.2.1 _ hm hq
            rwa [e2] at h2
    · exact absurd rfl (fun q : i = i => a ((i - 5) / 9) ((i - 5) % 9 - 3) (by omega) (by omega) (by omega))
def zbR (I : MM) : Prop := ∀ q : Nat, (q = 3 ∨ q = 4 ∨ q = 5 ∨ (13 ≤ q ∧ q < 21)) → zbD (I q)
def RF (I : MM) (D : Nat → Int) (cs : List Int) (n : Nat) (H : Nat → (Nat → Int) × List Int) : Prop :=
  I 3 = D ∧ GN D cs ∧ n ≤ 8 ∧ I 1 12 = (n : Int) ∧ (∀ k : Nat, k < n → I (13 + k) = (H k).1 ∧ GN (H k).1 (H k).2) ∧ zbR I
theorem RF.d {I : MM} {D : Nat → Int} {cs : List Int} {n : Nat} {H : Nat → (Nat → Int) × List Int} (r : RF I D cs n H) : I 3 = D := r.1
theorem RF.g {I : MM} {D : Nat → Int} {cs : List Int} {n : Nat} {H : Nat → (Nat → Int) × List Int} (r : RF I D cs n H) : GN D cs := r.2.1
theorem RF.n8 {I : MM} {D : Nat → Int} {cs : List Int} {n : Nat} {H : Nat → (Nat → Int) × List Int} (r : RF I D cs n H) : n ≤ 8 := r.2.2.1
theorem RF.c {I : MM} {D : Nat → Int} {cs : List Int} {n : Nat} {H : Nat → (Nat → Int) × List Int} (r : RF I D cs n H) : I 1 12 = (n : Int) := r.2.2.2.1
theorem RF.h {I : MM} {D : Nat → Int} {cs : List Int} {n : Nat} {H : Nat → (Nat → Int) × List Int} (r : RF I D cs n H) : ∀ k : Nat, k < n → I (13 + k) = (H k).1 ∧ GN (H k).1 (H k).2 := r.2.2.2.2.1
theorem RF.z {I : MM} {D : Nat → Int} {cs : List Int} {n : Nat} {H : Nat → (Nat → Int) × List Int} (r : RF I D cs n H) : zbR I := r.2.2.2.2.2
def kpM (I J : MM) : Prop := (∀ q : Nat, q ≠ 1 → q ≠ 3 → q ≠ 5 → q ≠ 7 → q ≠ 8 → q ≠ 9 → q ≠ 10 → q ≠ 11 → q ≠ 12 → (q < 13 ∨ 21 ≤ q) → J q = I q) ∧ (∀ i : Nat, i ≠ 0 → i ≠ 12 → i ≠ 21 → i ≠ 22 → i ≠ 24 → J 1 i = I 1 i)
theorem kpM.refl (I : MM) : kpM I I := ⟨fun _ _ _ _ _ _ _ _ _ _ _ => rfl, fun _ _ _ _ _ _ => rfl⟩
theorem kpM.trans {A B C : MM} (h : kpM A B) (k : kpM B C) : kpM A C := ⟨fun q a b c d e f g i j l => (k.1 q a b c d e f g i j l).trans (h.1 q a b c d e f g i j l), fun i a b c d e => (k.2 i a b c d e).trans (h.2 i a b c d e)⟩
theorem kpQ.m {I J : MM} (h : kpQ I J) : kpM I J := ⟨fun q a _ _ d e f g i j _ => h.1 q a d e f g i j, fun i a _ c d e => h.2 i a c d e⟩
theorem dtOnly.m {I J : MM} (h : dtOnly I J) : kpM I J := ⟨fun q _ b _ _ _ _ _ _ _ _ => h q b, fun i _ _ _ _ _ => by rw [h 1 (by decide)]⟩
theorem RF.q {I J : MM} {D : Nat → Int} {cs : List Int} {n : Nat} {H : Nat → (Nat → Int) × List Int} (r : RF I D cs n H) (h : kpQ I J) : RF J D cs n H :=
  ⟨h.d.trans r.d, r.g, r.n8, (h.2 12 (by decide) (by decide) (by decide) (by decide)).trans r.c, fun k hk => by
    have := r.n8
    rw [h.1 (13 + k) (by omega) (by omega) (by omega) (by omega) (by omega) (by omega) (by omega)]; exact r.h k hk, fun q hq => by
    rw [h.1 q (by omega) (by omega) (by omega) (by omega) (by omega) (by omega) (by omega)]; exact r.z q hq⟩
theorem RF.gd {I : MM} {D : Nat → Int} {cs : List Int} {n : Nat} {H : Nat → (Nat → Int) × List Int} (r : RF I D cs n H) : GD (I 3) cs := by rw [r.d]; exact r.g.1
/-- another plan in the row 3 -/
theorem RF.dt {I J : MM} {D E : Nat → Int} {cs : List Int} {n : Nat} {H : Nat → (Nat → Int) × List Int} (r : RF I D cs n H) (h : dtOnly I J) (hE : J 3 = E) (hg : GN E cs) (hz : zbD E) : RF J E cs n H :=
  ⟨hE, hg, r.n8, by rw [h 1 (by decide)]; exact r.c, fun k hk => by
    rw [h (13 + k) (by omega)]
    exact r.h k hk, fun q hq => by
    by_cases e : q = 3
    · rw [e, hE]; exact hz
    · rw [h q e]; exact r.z q hq⟩
def rmN (n : Nat) : Nat := if n = 8 then 8 else n + 1
def rmH (D : (Nat → Int) × List Int) (n : Nat) (H : Nat → (Nat → Int) × List Int) : Nat → (Nat → Int) × List Int := fun k => if n = 8 then (if k = 7 then D else H (k + 1)) else (if k = n then D else H k)
theorem cp2_row {I : MM} {a b : Nat} (ha : zbD (I a)) (hb : zbD (I b)) : cp2 I a b 1655 b = I a := by
  funext j
  simp only [cp2, if_true]
  by_cases h : j < 1655
  · rw [if_pos h]
  · rw [if_neg h, ha j (by omega), hb j (by omega)]
theorem zbR.cp {I : MM} {a b : Nat} (h : zbR I) (ha : zbD (I a)) (hb : zbD (I b)) : zbR (cp2 I a b 1655) := fun q hq => by
  by_cases e : q = b
  · rw [e, cp2_row ha hb]; exact ha
  · rw [cp2_ne e]; exact h q hq
section M1
variable {Γ : GG} {P : MP} {I : MM} {R : Int → MM → Prop} {Rv : MM → Prop} {cs : List Int} {D : Nat → Int} {n : Nat} {H : Nat → (Nat → Int) × List Int}
theorem LM_r (hM : LM Γ P) {k : Nat} (hk : k < 8) : Ob Γ (13 + k) (.inr (0, 1655)) := (LM_hh hM k hk).2
theorem c_remember (hM : LM Γ P) (r : RF I D cs n H) (hR : ∀ J, RF J D cs (rmN n) (rmH (D, cs) n H) → kpM I J → J 1 0 = I 1 0 → Rv J) : Cl Γ m_X6_remember [vR 1] P I (rv P Rv) := by
  have hn := r.n8
  have last : ∀ (x : Nat) (J A B : MM), x < 8 → J 1 12 = (x : Int) → J 3 = D → zbR J → kpM I J → J 1 0 = I 1 0 → A = cp2 J 3 (13 + x) 1655 → B = up2 A 1 12 (A 1 12 + 1) →
      B 1 12 = (x : Int) + 1 ∧ B 3 = D ∧ zbR B ∧ kpM I B ∧ B 1 0 = I 1 0 ∧ B (13 + x) = D ∧ ∀ k, k < 8 → k ≠ x → B (13 + k) = J (13 + k) := by
    intro x J A B hx h1 h2 h3 h4 h5 hA hB
    have z3 := h3 3 (Or.inl rfl)
    have zx := h3 (13 + x) (by omega)
    have a1 : A 1 = J 1 := by rw [hA]; exact cp2_ne (by omega)
    refine ⟨by rw [hB, up2_eq, a1, h1], by rw [hB, up2_ne (by decide), hA, cp2_ne (by omega), h2], ?_, ?_, by rw [hB, up2_nj (by decide), a1, h5], by rw [hB, up2_ne (by omega), hA, cp2_row z3 zx, h2], fun k hk hne => by rw [hB, up2_ne (by omega), hA, cp2_ne (by omega)]⟩
    · intro q hq
      rw [hB, up2_ne (by omega), hA]
      exact h3.cp z3 zx q hq
    · refine h4.trans ⟨fun q q1 q3 q5 q7 q8 q9 q10 q11 q12 q13 => ?_, fun i i0 i12 _ _ _ => ?_⟩
      · rw [hB, up2_ne q1, hA, cp2_ne (by omega)]
      · rw [hB, up2_nj i12, a1]
  have lp : ∀ (m i : Nat) (J : MM), n = 8 → i + m = 8 → 1 ≤ i → J 1 = I 1 → (∀ q, (q < 13 ∨ 21 ≤ q) → J q = I q) → zbR J → (∀ k, k < 8 → J (13 + k) = if k < i - 1 then (H (k + 1)).1 else (H k).1) → XM Γ m_X6_remember 0 0 11 [(0, vR 1), (1, vI (i : Int))] [] P J (rv P Rv) := by
    intro m
    induction m with
    | zero =>
      intro i J h8 hi h1i h1 h2 hz hk
      refine t_X6_remember_11 hM ⟨⟨by omega, by omega⟩, fun _ => ?_, fun q => absurd (by omega) q⟩
      intro A hA
      have hc : J 1 12 = 8 := by rw [h1, r.c, h8]; rfl
      have hA12 : A 1 12 = ((7 : Nat) : Int) := by rw [hA, up2_eq, hc]; rfl
      rw [hA12]
      have hA3 : A 3 = D := by rw [hA, up2_ne (by decide), h2 3 (by omega)]; exact r.d
      have hAz : zbR A := fun q hq => by rw [hA, up2_ne (by omega)]; exact hz q hq
      have hAr : ∀ k, A (13 + k) = J (13 + k) := fun k => by rw [hA, up2_ne (by omega)]
      refine ⟨by omega, by omega, c_copy (LM_a8 hM) (LM_r hM (by omega)) ?_⟩
      intro B hB
      obtain ⟨b1, b2, b3, b4, b5, b6, b7⟩ := last 7 A _ B (by omega) hA12 hA3 hAz ⟨fun q q1 q3 q5 q7 q8 q9 q10 q11 q12 q13 => by rw [hA, up2_ne q1, h2 q q13], fun i i0 i12 _ _ _ => by rw [hA, up2_nj i12, h1]⟩ (by rw [hA, up2_nj (by decide), h1]) rfl hB
      refine hR B ⟨b2, r.g, by unfold rmN; rw [if_pos h8]; exact Nat.le_refl _, by rw [b1]; unfold rmN; rw [if_pos h8]; rfl, fun k hk2 => ?_, b3⟩ b4 b5
      unfold rmN at hk2
      rw [if_pos h8] at hk2
      unfold rmH
      rw [if_pos h8]
      by_cases e : k = 7
      · rw [if_pos e, e]
        exact ⟨b6, r.g⟩
      · rw [if_neg e, b7 k hk2 e, hAr, hk k hk2, if_pos (by omega)]
        exact ⟨rfl, (r.h (k + 1) (by omega)).2⟩
    | succ m ih =>
      intro i J h8 hi h1i h1 h2 hz hk
      refine t_X6_remember_11 hM ⟨⟨by omega, by omega⟩, fun q => absurd q (by omega), fun _ => ⟨by omega, by omega, by omega, by omega, ?_⟩⟩
      rw [Int.toNat_natCast, show ((i : Int) - 1).toNat = i - 1 by omega]
      have za := hz (13 + i) (by omega)
      have zb := hz (13 + (i - 1)) (by omega)
      refine c_copy (LM_r hM (by omega)) (LM_r hM (by omega)) ?_
      refine ih (i + 1) _ h8 (by omega) (by omega) (by rw [cp2_ne (by omega)]; exact h1) (fun q hq => by rw [cp2_ne (by omega)]; exact h2 q hq) (hz.cp za zb) (fun k hk2 => ?_)
      by_cases e : k = i - 1
      · rw [e, cp2_row za zb, hk i (by omega), if_neg (by omega), if_pos (by omega), show i - 1 + 1 = i by omega]
      · rw [cp2_ne (by omega), hk k hk2]
        by_cases e2 : k < i - 1
        · rw [if_pos e2, if_pos (by omega)]
        · rw [if_neg e2, if_neg (by omega)]
  refine cl_of n_X6_remember (Nat.le_of_ble_eq_true rfl) (t_X6_remember_0 hM ?_)
  rw [r.c]
  refine ⟨⟨by omega, by omega⟩, fun q => ⟨by omega, by omega, ?_⟩, fun q => ?_⟩
  · rw [Int.toNat_natCast]
    refine c_copy (LM_a8 hM) (LM_r hM (by omega)) ?_
    intro B hB
    obtain ⟨b1, b2, b3, b4, b5, b6, b7⟩ := last n I _ B (by omega) r.c r.d r.z (kpM.refl I) rfl rfl hB
    have h8 : n ≠ 8 := by omega
    refine hR B ⟨b2, r.g, by unfold rmN; rw [if_neg h8]; omega, by rw [b1]; unfold rmN; rw [if_neg h8]; push_cast; rfl, fun k hk2 => ?_, b3⟩ b4 b5
    unfold rmN at hk2
    rw [if_neg h8] at hk2
    unfold rmH
    rw [if_neg h8]
    by_cases e : k = n
    · rw [if_pos e, e]
      exact ⟨b6, r.g⟩
    · rw [if_neg e, b7 k (by omega) e]
      exact r.h k (by omega)
  · refine lp 7 1 I (by omega) (by omega) (Nat.le_refl _) rfl (fun _ _ => rfl) r.z (fun k hk => ?_)
    rw [if_neg (by omega)]
    exact (r.h k (by omega)).1
abbrev KM (I : MM) (t : Int) (J : MM) : Prop := kpM I J ∧ J 1 0 = t
theorem K0.m {t : Int} {J : MM} (h : K0 I t J) : KM I t J := ⟨h.1.m, h.2⟩
theorem KM.go {t : Int} {J J' : MM} (h : KM I t J) (k : kpM J J') (e : J' 1 0 = J 1 0) : KM I t J' := ⟨h.1.trans k, e.trans h.2⟩
theorem KM.as {t : Int} {J J' : MM} (h : KM I t J) (k : asOnly J J') : KM I t J' := h.go k.kp.m (by rw [k 1 (by decide) (by decide) (by decide)])
/-- the last row of a change: the makespan -/
theorem e_span (hM : LM Γ P) {J : MM} (r : RF J D cs n H) (h : ∀ K, asOnly J K → RF K D cs n H → R (spanX D) K) : Cl Γ m_X6_spanNow [vR 1] P J (ri P R) := by
  have hg := r.gd
  refine k_spanNow hM hg.1 hg.2.1 hg.2.2.2.1 (fun K a _ _ => ?_)
  rw [r.d]
  exact h K a (r.q a.kp)
theorem exD_dt {J : MM} {m p : Nat} : dtOnly J (exD J m p) := fun _ h => exD_q h
theorem exF_gn {m p : Nat} (hg : GN D cs) (hm : (m : Int) < D 0) (hp : (p : Int) + 1 < D (5 + 9 * m + 2)) (hf : Fr (exF D m p)) : GN (exF D m p) cs := by
  have pre := exF_pre hg.1.1 hm hp
  exact (exF_same pre.1 pre.2).gn hg (exF_WR hg.1.1 pre.1 pre.2) (exF_WO hg.1.1 hg.1.2.1 hm hp) hf
theorem exF_z {m p : Nat} (hm : m < 6) (hp : p + 1 < 6) (h : zbD D) : zbD (exF D m p) := fun i hi => by
  rw [exF_o ⟨by omega, by omega⟩]; exact h i hi
theorem RF.ex {J : MM} (r : RF J D cs n H) {m p : Nat} (hm : (m : Int) < D 0) (hp : (p : Int) + 1 < D (5 + 9 * m + 2)) (hf : Fr (exF D m p)) : RF (exD J m p) (exF D m p) cs n H := by
  have pre := exF_pre r.g.1.1 hm hp
  have hz := r.z 3 (Or.inl rfl)
  rw [r.d] at hz
  exact r.dt exD_dt (by rw [exD_3, r.d]) (exF_gn r.g hm hp hf) (exF_z pre.1 pre.2 hz)
theorem q_swap (hM : LM Γ P) (r : RF I D cs n H) {m p : Int} (hm : inR m) (hp : inR p) (hy : sOk D m p → Fr (exF D m.toNat p.toNat) → ∀ J, KM I 0 J → RF J (exF D m.toNat p.toNat) cs (rmN n) (rmH (D, cs) n H) → R (spanX (exF D m.toNat p.toNat)) J)
    (hd : sOk D m p → ¬ Fr (exF D m.toNat p.toNat) → ∀ J, K0 I 2 J → R 0 J) (hn : ¬ sOk D m p → ∀ J, K0 I 1 J → R 0 J) : Cl Γ m_X6_swap [vR 1, vI m, vI p] P I (ri P R) := by
  have hG := r.gd
  have hW := hG.1
  refine cl_of n_X6_swap (Nat.le_of_ble_eq_true rfl) (t_X6_swap_0 hM (by
    intro A hA
    rw [hA]
    refine c_noSwap hM (by rw [th3]; exact hW) th0 hm hp (fun q => ?_) (fun q => ?_)
    · rw [th3] at q
      rw [r.d] at q
      have em : m = (m.toNat : Int) := by have := q.1.1; omega
      have ep : p = (p.toNat : Int) := by have := q.2.1; omega
      have q1 : (m.toNat : Int) < D 0 := by have := q.1.2; omega
      have q2 : (p.toNat : Int) + 1 < D (5 + 9 * m.toNat + 2) := by have := q.2.2; omega
      have pre := exF_pre r.g.1.1 q1 q2
      refine ⟨⟨by decide, by decide⟩, fun z => absurd rfl z, fun _ => ?_⟩
      have hy1 := hy q
      have hd1 := hd q
      rw [em, ep]
      generalize m.toNat = a at *
      generalize p.toNat = b at *
      refine k_spanAfter hM (by rw [th3]; exact hW) (by rw [th3]; exact hG.2.1) (by rw [th3, r.d]; exact q1) (by rw [th3, r.d]; exact q2) (fun J j1 j2 => ?_)
      rw [th3, r.d] at j2 ⊢
      have kJ := (K0.mk (I := I) (t := 0)).tr j1
      rcases j2 with ⟨f1, f2, f3⟩ | ⟨f1, f2⟩
      · refine ⟨⟨by omega, by omega⟩, fun _ => c_fails0 hM kJ.2 ⟨⟨by decide, by decide⟩, fun _ => c_remember hM (r.q kJ.1) (fun K k1 k2 k3 => ?_), fun z => absurd rfl z⟩, fun z => by omega⟩
        refine c_exchange hM pre.1 (by omega) (e_span hM (k1.ex q1 q2 f1) (fun L l1 l2 => ?_))
        exact hy1 f1 L (((kJ.m.go k2 k3).go exD_dt.m (by rw [exD_q (by decide)])).as l1) l2
      · rw [f2]
        refine ⟨⟨by decide, by decide⟩, fun z => absurd rfl z, fun _ => c_fails1 hM kJ.2 (Or.inr rfl) ⟨⟨by decide, by decide⟩, fun z => absurd z (by decide), fun _ => hd1 f1 _ ⟨kJ.1.trans (kpQ.f (Or.inl rfl)), up2_eq⟩⟩⟩
    · rw [th3] at q
      rw [r.d] at q
      exact ⟨⟨by decide, by decide⟩, fun _ => hn q _ K0.mk2, fun z => absurd z (by decide)⟩))
theorem q_restart (hM : LM Γ P) (r : RF I D cs n H) (hy : ∀ J, KM I 0 J → RF J (fpD D 36) cs (rmN n) (rmH (D, cs) n H) → R (spanX (fpD D 36)) J) : Cl Γ m_X6_restart [vR 1] P I (ri P R) := by
  refine cl_of n_X6_restart (Nat.le_of_ble_eq_true rfl) (t_X6_restart_0 hM (by
    intro A hA
    rw [hA]
    have kA := (K0.mk (I := I) (t := 0))
    refine c_remember hM (r.q kA.1) (fun K k1 k2 k3 => ?_)
    refine c_layFirst hM (by rw [k1.d]; exact r.g.1.1) (by rw [k1.d]; exact r.g.2.1) (k1.z 3 (Or.inl rfl)) (fun L l1 l2 l3 => ?_)
    rw [k1.d] at l2
    have rL := k1.dt l1 l2 ((fpD_ok r.g.1.1 r.g.2.1 36 (Nat.le_refl _)).gn r.g.1.1 r.g.2.1 r.g.1.2.2.1) (by rw [← l2]; exact l3)
    refine e_span hM rL (fun M m1 m2 => ?_)
    exact hy M (((kA.m.go k2 k3).go l1.m (by rw [l1 1 (by decide)])).as m1) m2))
theorem q_undo (hM : LM Γ P) (r : RF I D cs n H) (h0 : n = 0 → ∀ J, K0 I 0 J → R (-1) J) (h1 : n ≠ 0 → ∀ J, KM I 0 J → RF J (H (n - 1)).1 (H (n - 1)).2 (n - 1) H → R ((n - 1 : Nat) : Int) J) : Cl Γ m_X6_undo [vR 1] P I (ri P R) := by
  have hn := r.n8
  refine cl_of n_X6_undo (Nat.le_of_ble_eq_true rfl) (t_X6_undo_0 hM (by
    intro A hA
    rw [hA]
    have kA := (K0.mk (I := I) (t := 0))
    have rA := r.q kA.1
    rw [rA.c]
    refine ⟨⟨by omega, by omega⟩, fun q => ?_, fun q => h0 (by omega) _ kA⟩
    intro B hB
    have hB12 : B 1 12 = ((n - 1 : Nat) : Int) := by rw [hB, up2_eq]; omega
    rw [hB12]
    refine ⟨by omega, by omega, ?_⟩
    rw [Int.toNat_natCast]
    have hBr : ∀ k : Nat, k ≠ 1 → B k = up2 I 1 0 0 k := fun k hk => by rw [hB, up2_ne hk]
    have zB : zbR B := fun k hk => by rw [hBr k (by omega)]; exact rA.z k hk
    have z3 := zB 3 (Or.inl rfl)
    have zx := zB (13 + (n - 1)) (by omega)
    refine c_copy (LM_r hM (by omega)) (LM_a8 hM) ?_
    have e1 : cp2 B (13 + (n - 1)) 3 1655 1 = B 1 := cp2_ne (by decide)
    rw [e1, hB12]
    have hh := rA.h (n - 1) (by omega)
    refine h1 (by omega) _ ⟨⟨fun q q1 q3 q5 q7 q8 q9 q10 q11 q12 q13 => ?_, fun i i0 i12 _ _ _ => ?_⟩, ?_⟩ ⟨?_, hh.2, by omega, by rw [e1]; exact hB12, fun k hk => ?_, zB.cp zx z3⟩
    · rw [cp2_ne q3, hBr q q1, up2_ne q1]
    · rw [e1, hB, up2_nj i12, up2_nj i0]
    · rw [e1, hB, up2_nj (by decide), up2_eq]
    · rw [cp2_row zx z3, hBr _ (by omega)]; exact hh.1
    · have hk2 := rA.h k (by omega)
      rw [cp2_ne (by omega), hBr _ (by omega)]
      exact hk2))
end M1
