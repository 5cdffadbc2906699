/-! THE REFERENCE READS STATEMENTS -/
section M1
variable {Γ : GG} {P : MP} {I : MM} {R : Int → MM → Prop} {Rv : MM → Prop} {T : Nat → Int} {L p : Nat} {D : Nat → Int}
set_option maxRecDepth 100000 in
set_option maxHeartbeats 4000000 in
theorem t_X6_once_0 {x2 : Int} (hM : LM Γ P) (hs : I 1 15 = 0 ∨ I 1 15 = 1)
    (h1 : I 1 15 = 1 → Cl Γ m_X6_report [vR 1, vI (-2), vI x2] P I (rv P (fun J => (J 1 15 = 1) ∧ Rv (up2 J 1 15 1)))) (h0 : I 1 15 = 0 → Rv (up2 I 1 15 1)) :
    XM Γ m_X6_once 0 0 0 [(0, vR 1), (1, vI 0), (2, vI x2)] [] P I (rv P Rv) := by
  have tail : ∀ (c s : Nat) (J : MM), c ≤ 0 → s ≤ 0 → (J 1 15 = 0 ∨ J 1 15 = 1) → Rv (up2 J 1 15 1) → XM Γ m_X6_once c s 19 [(0, vR 1), (1, vI 0), (2, vI x2)] [] P J (rv P Rv) := by
    intro c s J hc hsl hJ hR
    refine x_aload_n (pc := 19) 0 dX6_once_19 rfl ?_
    refine x_dup (pc := 20) dX6_once_20 rfl ?_
    refine x_getI (pc := 21) dX6_once_21 FC6 15 (by decide) rfl fl_X6_144 (LM_ob hM) ?_
    refine x_iconst (pc := 24) dX6_once_24 ?_
    refine x_iload_n (pc := 25) 1 dX6_once_25 rfl ?_
    refine x_ishl1 (pc := 26) dX6_once_26 ?_
    refine x_ior (pc := 27) dX6_once_27 hJ (Or.inr rfl) ?_
    refine x_putI (pc := 28) dX6_once_28 FC6 15 (by decide) rfl rfl fl_X6_144 (LM_ob hM) ?_
    rw [show max (J 1 15) 1 = 1 by omega]
    exact x_vret (pc := 31) dX6_once_31 rfl hc hsl ⟨rfl, rfl, hR⟩
  refine x_aload_n (pc := 0) 0 dX6_once_0 rfl ?_
  refine x_getI (pc := 1) dX6_once_1 FC6 15 (by decide) rfl fl_X6_144 (LM_ob hM) ?_
  refine x_iload_n (pc := 4) 1 dX6_once_4 rfl ?_
  refine x_ishr (pc := 5) dX6_once_5 ⟨by omega, by omega⟩ (by decide) (by decide) ?_
  refine x_iconst (pc := 6) dX6_once_6 ?_
  refine x_iandM (pc := 7) dX6_once_7 1 (by decide) (by decide) ?_
  refine x_iconst (pc := 8) dX6_once_8 ?_
  rw [show I 1 15 / ((2 ^ (0 : Int).toNat : Nat) : Int) % ((2 ^ 1 : Nat) : Int) = I 1 15 by rcases hs with e | e <;> rw [e] <;> rfl]
  refine x_icmp_ne (pc := 9) 19 dX6_once_9 (by decide) ⟨by omega, by omega⟩ ⟨by decide, by decide⟩ (fun hc => ?_) (fun hc => ?_)
  · exact tail 0 0 I (Nat.le_refl _) (Nat.le_refl _) hs (h0 (by omega))
  · have h := h1 hc
    refine x_aload_n (pc := 12) 0 dX6_once_12 rfl ?_
    refine x_bipush (pc := 13) dX6_once_13 rfl ?_
    refine x_iload_n (pc := 15) 2 dX6_once_15 rfl ?_
    refine x_Vv (μ := m_X6_once) (pc := 16) dX6_once_16 h k_X6_report ml_X6_94 ⟨Nat.le_of_ble_eq_true rfl, Nat.le_of_ble_eq_true rfl⟩ ⟨rfl, rfl⟩ ⟨Nat.zero_le _, Nat.zero_le _⟩ rfl (LM_ob hM) rfl (Nat.le_of_ble_eq_true rfl) _ rfl (fun J h => ?_)
    exact tail _ _ J (Nat.le_refl _) (Nat.le_refl _) (Or.inr h.1) h.2
/-- what a statement may change -/
def rdF (I J : MM) : Prop := (∀ r : Nat, r ≠ 1 → r ≠ 4 → J r = I r) ∧ ∀ i : Nat, i ≠ 4 → i ≠ 5 → i ≠ 6 → i ≠ 13 → i ≠ 14 → i ≠ 15 → J 1 i = I 1 i
theorem rdF.refl (I : MM) : rdF I I := ⟨fun _ _ _ => rfl, fun _ _ _ _ _ _ _ => rfl⟩
theorem rdF.trans {A B C : MM} (h : rdF A B) (k : rdF B C) : rdF A C := ⟨fun r a b => (k.1 r a b).trans (h.1 r a b), fun i a b c d e f => (k.2 i a b c d e f).trans (h.2 i a b c d e f)⟩
theorem cfF.rd {I J : MM} (h : cfF I J) : rdF I J := ⟨h.1, fun i a b c d e _ => h.2 i a b c d e⟩
/-- reading a job or a machine: the fields 14 and 15 stay -/
def rkF (I J : MM) : Prop := (∀ r : Nat, r ≠ 1 → r ≠ 4 → J r = I r) ∧ ∀ i : Nat, i ≠ 4 → i ≠ 5 → i ≠ 6 → i ≠ 13 → J 1 i = I 1 i
theorem rkF.refl (I : MM) : rkF I I := ⟨fun _ _ _ => rfl, fun _ _ _ _ _ => rfl⟩
theorem rkF.trans {A B C : MM} (h : rkF A B) (k : rkF B C) : rkF A C := ⟨fun r a b => (k.1 r a b).trans (h.1 r a b), fun i a b c d => (k.2 i a b c d).trans (h.2 i a b c d)⟩
theorem tkF.rk {I J : MM} (h : tkF I J) : rkF I J := ⟨fun r a _ => h.1 r a, h.2⟩
theorem rkF.rd {I J : MM} (h : rkF I J) : rdF I J := ⟨h.1, fun i a b c d _ _ => h.2 i a b c d⟩
theorem rkF.u {I : MM} {i : Nat} {v : Int} : rkF I (up2 I 4 i v) := ⟨fun r _ b => up2_ne b, fun i _ _ _ _ => by rw [up2_ne (by decide)]⟩
def JS (I : MM) (T : Nat → Int) (L p : Nat) (D : Nat → Int) : Prop := GS I T L p ∧ I 4 = D
theorem JS.u {i : Nat} {v : Int} (h : JS I T L p D) : JS (up2 I 4 i v) T L p (setD D i v) := ⟨h.1.keep (up2_ne (by decide)) (fun _ _ => by rw [up2_ne (by decide)]), by rw [up2_row, h.2]; rfl⟩
theorem okS.js {J : MM} {q : Nat} (h : JS I T L p D) (k : okS I J T L q) : JS J T L q D := ⟨k.2, by rw [k.1.1 4 (by decide)]; exact h.2⟩
theorem erS.z {J : MM} {e : Er} (h : JS I T L p D) (hz : zbE D) (k : erS I J e) : zbE (J 4) := by rw [k.1.1 4 (by decide), h.2]; exact hz
theorem c_readMachine (hM : LM Γ P) (G : JS I T L p D) (h : RDx D 6) (h1 : ∀ J r, machS T L D p = .ok r → rkF I J → JS J T L r.1 r.2 → Rv J) (h0 : ∀ J e, machS T L D p = .error e → rkF I J → bad J e → zbE (J 4) → Rv J) : Cl Γ m_X6_readMachine [vR 1] P I (rv P Rv) := by
  have hz := h.ze
  have hd := h.1
  unfold machS at h1 h0
  refine cl_of n_X6_readMachine (Nat.le_of_ble_eq_true rfl) (t_X6_readMachine_0 hM ?_)
  rw [G.2]
  refine c_number hM G.1 ⟨by decide, by decide⟩ ⟨by omega, by omega⟩ (fun J1 a ha o1 _ => ?_) (fun J1 e v he b1 => ?_)
  · rw [ha] at h1 h0
    have G1 := o1.js G
    refine c_number hM G1.1 ⟨by decide, by decide⟩ ⟨by decide, by decide⟩ (fun J2 b hb o2 _ => ?_) (fun J2 e v he b2 => ?_)
    · simp only [bnd] at h1 h0
      rw [hb] at h1 h0
      have G2 := o2.js G1
      refine c_number hM G2.1 ⟨by decide, by decide⟩ ⟨by decide, by decide⟩ (fun J3 c hc o3 _ => ?_) (fun J3 e v he b3 => ?_)
      · simp only at h1
        rw [hc] at h1
        have G3 := o3.js G2
        obtain ⟨-, -, -, a1, a2, -, -⟩ := numS_ok ha
        obtain ⟨M, hMM⟩ : ∃ M : Nat, a.2 = (M : Int) := ⟨a.2.toNat, by omega⟩
        have hM6 : M < 6 := by omega
        refine c_isGood1 hM G3.1.2.2.1 ⟨⟨by decide, by decide⟩, fun _ => c_machine ?_, fun z => absurd z (by decide)⟩
        rw [hMM]
        refine ⟨by omega, by omega, ?_⟩
        intro A hA
        refine c_machine ⟨by omega, by omega, ?_⟩
        intro B hB
        rw [show (5 + 9 * (M : Int)).toNat = 5 + 9 * M by omega] at hA
        rw [show (5 + 9 * (M : Int) + 1).toNat = 5 + 9 * M + 1 by omega] at hB
        refine h1 B _ rfl ((((o1.1.trans o2.1).trans o3.1).rk).trans (by rw [hB, hA]; exact rkF.u.trans rkF.u)) ?_
        simp only
        rw [hMM, Int.toNat_natCast, hB, hA]
        exact G3.u.u
      · simp only at h0
        rw [he] at h0
        exact c_isGood0 hM b3.2.n ⟨⟨by decide, by decide⟩, fun z => absurd rfl z, fun _ => h0 J3 e rfl ((o1.1.trans o2.1).trans b3.1).rk b3.2 (b3.z G2 hz)⟩
    · simp only [bnd] at h0
      rw [he] at h0
      exact c_number0 hM b2.2.n (c_isGood0 hM b2.2.n ⟨⟨by decide, by decide⟩, fun z => absurd rfl z, fun _ => h0 J2 e rfl (o1.1.trans b2.1).rk b2.2 (b2.z G1 hz)⟩)
  · rw [he] at h0
    exact c_number0 hM b1.2.n (c_number0 hM b1.2.n (c_isGood0 hM b1.2.n ⟨⟨by decide, by decide⟩, fun z => absurd rfl z, fun _ => h0 J1 e rfl b1.1.rk b1.2 (b1.z G hz)⟩))
theorem c_readOperation (hM : LM Γ P) {J s0 : Nat} (G : JS I T L p D) (h : RDx D J) (hJ : J < 6) (hs0 : s0 ≤ 1000) (h1 : ∀ K r, opS T L D J p s0 = .ok r → rkF I K → JS K T L r.1 r.2 → Rv K) (h0 : ∀ K e, opS T L D J p s0 = .error e → rkF I K → bad K e → zbE (K 4) → Rv K) : Cl Γ m_X6_readOperation [vR 1, vI (J : Int), vI (s0 : Int)] P I (rv P Rv) := by
  have hz := h.ze
  have hd := h.1
  have hj := h.2.1 J hJ
  obtain ⟨nn, hn⟩ : ∃ nn : Nat, D (59 + 4 * J + 3) = (nn : Int) := ⟨(D (59 + 4 * J + 3)).toNat, by omega⟩
  unfold opS at h1 h0
  have badL : ∀ (x3 x4 x5 : Int) (K : MM) (e : Er), inR x3 → inR x5 → rkF I K → bad K e → zbE (K 4) → (∀ e', e' = e → Rv K) → XM Γ m_X6_readOperation 0 0 43 [(0, vR 1), (1, vI (J : Int)), (3, vI x3), (4, vI x4), (5, vI x5)] [] P K (rv P Rv) := by
    intro x3 x4 x5 K e r3 r5 hk hb hzz hR
    refine t_X6_readOperation_43 hM ⟨r5, r3, fun _ => c_number0 hM hb.n (c_isGood0 hM hb.n ⟨⟨by decide, by decide⟩, fun z => absurd rfl z, fun _ => hR e rfl⟩), fun _ => c_isGood0 hM hb.n ⟨⟨by decide, by decide⟩, fun _ => c_number0 hM hb.n (c_isGood0 hM hb.n ⟨⟨by decide, by decide⟩, fun z => absurd rfl z, fun _ => hR e rfl⟩), fun z => absurd rfl z⟩⟩
  refine cl_of n_X6_readOperation (Nat.le_of_ble_eq_true rfl) (t_X6_readOperation_0 hM (c_job ⟨by omega, by omega, ?_⟩))
  rw [G.2, show (59 + 4 * (J : Int) + 3).toNat = 59 + 4 * J + 3 by omega, hn]
  intro u hu
  rw [hu]
  refine ⟨⟨by omega, by omega⟩, fun z => ?_, fun z => ?_⟩
  · have n6 : ¬ D (59 + 4 * J + 3) = 6 := by omega
    have hnn : nn < 6 := by omega
    rw [if_neg n6] at h1 h0
    refine c_number hM G.1 ⟨by decide, by decide⟩ ⟨by omega, by omega⟩ (fun J1 m hm o1 n13 => ?_) (fun J1 e v he b1 => ?_)
    · rw [hm] at h1 h0
      simp only [bnd] at h1 h0
      have G1 := o1.js G
      obtain ⟨-, -, -, m1, m2, -, -⟩ := numS_ok hm
      obtain ⟨M, hMM⟩ : ∃ M : Nat, m.2 = (M : Int) := ⟨m.2.toNat, by omega⟩
      have key : ∀ (f k : Nat), k + f = nn → (∀ k2, k2 < k → D (83 + 2 * (6 * J + k2)) ≠ m.2) → XM Γ m_X6_readOperation 0 0 43 [(0, vR 1), (1, vI (J : Int)), (3, vI (nn : Int)), (4, vI m.2), (5, vI (k : Int))] [] P J1 (rv P Rv) := by
        intro f
        induction f with
        | zero =>
          intro k hk hne
          have hx : ¬ ∃ k : Nat, (k : Int) < D (59 + 4 * J + 3) ∧ D (83 + 2 * (6 * J + k)) = m.2 := fun ⟨k2, a, b⟩ => hne k2 (by omega) b
          rw [pIf_f hx] at h1 h0
          refine t_X6_readOperation_43 hM ⟨⟨by omega, by omega⟩, ⟨by omega, by omega⟩, fun _ => ?_, fun y => absurd (by omega) y⟩
          refine c_number hM G1.1 ⟨by decide, by decide⟩ ⟨by decide, by decide⟩ (fun J2 d hd2 o2 _ => ?_) (fun J2 e v he b2 => ?_)
          · rw [hd2] at h1
            have G2 := o2.js G1
            refine c_isGood1 hM G2.1.2.2.1 ⟨⟨by decide, by decide⟩, fun _ => ?_, fun z => absurd z (by decide)⟩
            rw [show 6 * (J : Int) + (nn : Int) = ((6 * J + nn : Nat) : Int) by push_cast; rfl]
            refine c_operationAt ⟨by omega, by omega, ?_⟩
            intro A hA
            refine c_operationAt ⟨by omega, by omega, ?_⟩
            intro B hB
            refine c_job ⟨by omega, by omega, ?_⟩
            intro C hC
            rw [show (83 + 2 * ((6 * J + nn : Nat) : Int)).toNat = 83 + 2 * (6 * J + nn) by omega] at hA
            rw [show (83 + 2 * ((6 * J + nn : Nat) : Int) + 1).toNat = 83 + 2 * (6 * J + nn) + 1 by omega] at hB
            have GA := G2.u (i := 83 + 2 * (6 * J + nn)) (v := m.2)
            rw [← hA] at GA
            have GB := GA.u (i := 83 + 2 * (6 * J + nn) + 1) (v := d.2)
            rw [← hB] at GB
            have eB : B 4 (59 + 4 * J + 3) = (nn : Int) := by rw [GB.2, setD_ne (by omega), setD_ne (by omega)]; exact hn
            rw [show (59 + 4 * (J : Int) + 3).toNat = 59 + 4 * J + 3 by omega, eB] at hC
            have GC := GB.u (i := 59 + 4 * J + 3) (v := (nn : Int) + 1)
            rw [← hC] at GC
            refine h1 C _ rfl (((o1.1.trans o2.1).rk).trans (by rw [hC, hB, hA]; exact (rkF.u.trans rkF.u).trans rkF.u)) ?_
            simp only
            rw [hn, Int.toNat_natCast]
            exact GC
          · rw [he] at h0
            exact c_isGood0 hM b2.2.n ⟨⟨by decide, by decide⟩, fun z => absurd rfl z, fun _ => h0 J2 e rfl (o1.1.trans b2.1).rk b2.2 (b2.z G1 hz)⟩
        | succ f ih =>
          intro k hk hne
          have ho := h.2.2.1 (6 * J + k) (by omega)
          refine t_X6_readOperation_43 hM ⟨⟨by omega, by omega⟩, ⟨by omega, by omega⟩, fun y => absurd y (by omega), fun _ => c_isGood1 hM G1.1.2.2.1 ⟨⟨by decide, by decide⟩, fun y => absurd y (by decide), fun _ => ?_⟩⟩
          rw [show 6 * (J : Int) + (k : Int) = ((6 * J + k : Nat) : Int) by push_cast; rfl]
          refine c_operationAt ⟨by omega, by omega, ?_⟩
          rw [G1.2, show (83 + 2 * ((6 * J + k : Nat) : Int)).toNat = 83 + 2 * (6 * J + k) by omega]
          refine ⟨⟨by omega, by omega⟩, ⟨by omega, by omega⟩, fun y => ?_, fun y => ?_⟩
          · have := ih (k + 1) (by omega) (fun k2 hk2 => by
              by_cases e : k2 = k
              · rw [e]; exact y
              · exact hne k2 (by omega))
            push_cast at this
            exact this
          · have hx : ∃ k : Nat, (k : Int) < D (59 + 4 * J + 3) ∧ D (83 + 2 * (6 * J + k)) = m.2 := ⟨k, by omega, y⟩
            rw [pIf_t hx] at h0
            rw [n13]
            refine c_report1 hM G1.1.2.2.1 ⟨by decide, by decide, by decide⟩ (fun K hK _ => ?_)
            exact badL _ _ _ K _ ⟨by omega, by omega⟩ ⟨by omega, by omega⟩ ((o1.1.trans hK.1).rk) hK.2 (hK.z G1 hz) (fun e' he' => h0 K _ rfl (o1.1.trans hK.1).rk hK.2 (hK.z G1 hz))
      exact key nn 0 (Nat.zero_add _) (fun k2 hk2 => absurd hk2 (Nat.not_lt_zero _))
    · rw [he] at h0
      exact badL _ _ _ J1 e ⟨by omega, by omega⟩ ⟨by decide, by decide⟩ b1.1.rk b1.2 (b1.z G hz) (fun e' he' => h0 J1 e rfl b1.1.rk b1.2 (b1.z G hz))
  · have n6 : D (59 + 4 * J + 3) = 6 := by omega
    rw [if_pos n6] at h0
    refine c_report1 hM G.1.2.2.1 ⟨by decide, by decide, by decide⟩ (fun K hK _ => c_number0 hM hK.2.n ?_)
    exact badL _ _ _ K _ ⟨by omega, by omega⟩ ⟨by decide, by decide⟩ hK.1.rk hK.2 (hK.z G hz) (fun e' he' => h0 K _ rfl hK.1.rk hK.2 (hK.z G hz))
theorem readJob_110 (hM : LM Γ P) {J : Nat} (hJ : J < 6) {I0 : MM} : ∀ (n : Nat) (I : MM) (D : Nat → Int) (p : Nat), JS I T L p D → RDx D J → (J : Int) < D 2 → D (59 + 4 * J + 3) + n = 7 → rkF I0 I →
    (∀ K r, opsS T L J n D p = .ok r → rkF I0 K → JS K T L r.1 r.2 → Rv K) → (∀ K e, opsS T L J n D p = .error e → rkF I0 K → bad K e → zbE (K 4) → Rv K) → XM Γ m_X6_readJob 0 0 110 [(0, vR 1), (5, vI (J : Int)), (6, vI (59 + 4 * (J : Int))), (7, vI 1)] [] P I (rv P Rv)
  | 0, I, D, p, G, h, h2, h7, hF, h1, h0 => by have := h.2.1 J hJ; omega
  | n + 1, I, D, p, G, h, h2, h7, hF, h1, h0 => by
    have hz := h.ze
    have hj := h.2.1 J hJ
    have hs := G.1.sp
    have hL := G.1.2.2.2.1
    have tn : tkF I (up2 I 1 4 (spc T L p : Int)) := tkF.f (Or.inl rfl)
    have G1 : JS (up2 I 1 4 (spc T L p : Int)) T L p D := ⟨(G.1.at_ hs).eq eqp.spc, by rw [up2_ne (by decide)]; exact G.2⟩
    unfold opsS at h1 h0
    refine t_X6_readJob_110 hM ⟨⟨by decide, by decide⟩, fun z => absurd z (by decide), fun _ => c_next hM G.1 ?_⟩
    intro u hu
    rw [up2_eq] at hu
    rw [hu]
    refine c_takeWord hM G1.1 (by decide) (fun w => ⟨⟨by decide, by decide⟩, fun _ => ?_, fun z => absurd z (by decide)⟩) (fun w => ⟨⟨by decide, by decide⟩, fun z => absurd rfl z, fun _ => ⟨by omega, by omega, ?_⟩⟩)
    · rw [pIf_t w] at h1 h0
      rw [up22]
      have we := WD_end (i := 5) (by decide) w
      have G2 : JS (up2 I 1 4 ((spc T L p + lenS.getD 5 0 : Nat) : Int)) T L (spc T L p + lenS.getD 5 0) D := ⟨G.1.at_ we.2, by rw [up2_ne (by decide)]; exact G.2⟩
      have k2 : rkF I (up2 I 1 4 ((spc T L p + lenS.getD 5 0 : Nat) : Int)) := (tkF.f (Or.inl rfl)).rk
      refine c_readOperation hM G2 h hJ (by omega) (fun K r hr k3 G3 => ?_) (fun K e he k3 b3 z3 => ?_)
      · rw [hr] at h1 h0
        obtain ⟨a, b, c, d, e, f⟩ := opS_ok h hJ hr h2
        refine c_isGood1 hM G3.1.2.2.1 ?_
        exact readJob_110 hM hJ n K r.2 r.1 G3 a (by rw [d 2 (Or.inl (by decide))]; exact h2) (by rw [b]; omega) (hF.trans (k2.trans k3)) h1 h0
      · rw [he] at h0
        refine c_isGood0 hM b3.n (t_X6_readJob_110 hM ⟨⟨by decide, by decide⟩, fun _ => h0 K e rfl (hF.trans (k2.trans k3)) b3 z3, fun z => absurd rfl z⟩)
    · rw [pIf_f w] at h1 h0
      rw [up22, G1.2, show (59 + 4 * (J : Int) + 3).toNat = 59 + 4 * J + 3 by omega]
      refine ⟨⟨by omega, by omega⟩, fun z => ?_, fun z => ?_⟩
      · rw [if_neg z] at h1
        exact h1 _ _ rfl (hF.trans tn.rk) ⟨G.1.at_ hs, G1.2⟩
      · rw [if_pos z] at h0
        refine c_report1 hM G1.1.2.2.1 ⟨by decide, by decide, by decide⟩ (fun K hK _ => ?_)
        exact h0 K _ rfl (hF.trans (tn.trans hK.1).rk) hK.2 (hK.z G1 hz)
theorem c_readJob (hM : LM Γ P) {s0 : Nat} (G : JS I T L p D) (h : RDx D 6) (hs0 : s0 ≤ 1000) (h1 : ∀ K r, jobS T L D p s0 = .ok r → rkF I K → JS K T L r.1 r.2 → Rv K) (h0 : ∀ K e, jobS T L D p s0 = .error e → rkF I K → bad K e → zbE (K 4) → Rv K) : Cl Γ m_X6_readJob [vR 1, vI (s0 : Int)] P I (rv P Rv) := by
  have hz := h.ze
  have hd := h.1
  unfold jobS at h1 h0
  refine cl_of n_X6_readJob (Nat.le_of_ble_eq_true rfl) (t_X6_readJob_0 hM ?_)
  rw [G.2]
  refine ⟨⟨by omega, by omega⟩, fun z => ?_, fun z => ?_⟩
  · rw [if_neg z] at h1 h0
    refine c_number hM G.1 ⟨by decide, by decide⟩ ⟨by decide, by decide⟩ (fun J1 a ha o1 _ => ?_) (fun J1 e v he b1 => ?_)
    · rw [ha] at h1 h0
      have G1 := o1.js G
      refine c_number hM G1.1 ⟨by decide, by decide⟩ ⟨by decide, by decide⟩ (fun J2 b hb o2 _ => ?_) (fun J2 e v he b2 => ?_)
      · simp only [bnd] at h1 h0
        rw [hb] at h1 h0
        have G2 := o2.js G1
        refine c_number hM G2.1 ⟨by decide, by decide⟩ ⟨by decide, by decide⟩ (fun J3 c hc o3 _ => ?_) (fun J3 e v he b3 => ?_)
        · simp only at h1 h0
          rw [hc] at h1 h0
          have G3 := o3.js G2
          obtain ⟨-, -, -, a1, a2, -, -⟩ := numS_ok ha
          obtain ⟨-, -, -, b1, b2, -, -⟩ := numS_ok hb
          obtain ⟨-, -, -, c1, c2, -, -⟩ := numS_ok hc
          obtain ⟨j1, j2, j3, j4, j5, j6⟩ := jobW_ok h z ⟨a1, a2⟩ ⟨b1, b2⟩ ⟨c1, c2⟩
          obtain ⟨J, hJ⟩ : ∃ J : Nat, D 2 = (J : Int) := ⟨(D 2).toNat, by omega⟩
          have hJ6 : J < 6 := by omega
          refine c_isGood1 hM G3.1.2.2.1 ⟨⟨by decide, by decide⟩, fun _ => ?_, fun y => absurd y (by decide)⟩
          intro u hu
          rw [G3.2, hJ] at hu
          rw [hu]
          refine c_job ⟨by omega, by omega, ?_⟩
          intro A hA
          refine ⟨by omega, by omega, ?_⟩
          intro B hB
          refine ⟨by omega, by omega, ?_⟩
          intro C hC E hE
          rw [show (59 + 4 * (J : Int)).toNat = 59 + 4 * J by omega] at hA
          rw [show (59 + 4 * (J : Int) + 1).toNat = 59 + 4 * J + 1 by omega] at hB
          rw [show (59 + 4 * (J : Int) + 2).toNat = 59 + 4 * J + 2 by omega] at hC
          have GA := G3.u (i := 59 + 4 * J) (v := a.2)
          rw [← hA] at GA
          have GB := GA.u (i := 59 + 4 * J + 1) (v := b.2)
          rw [← hB] at GB
          have GC := GB.u (i := 59 + 4 * J + 2) (v := c.2)
          rw [← hC] at GC
          have eC : C 4 2 = (J : Int) := by rw [GC.2, setD_ne (by omega), setD_ne (by omega), setD_ne (by omega)]; exact hJ
          rw [eC] at hE
          have GE := GC.u (i := 2) (v := (J : Int) + 1)
          rw [← hE] at GE
          have eW : setD (setD (setD (setD D (59 + 4 * J) a.2) (59 + 4 * J + 1) b.2) (59 + 4 * J + 2) c.2) 2 ((J : Int) + 1) = jobW D a.2 b.2 c.2 := by unfold jobW; rw [hJ, Int.toNat_natCast]
          rw [eW] at GE
          have k3 : rkF I E := ((o1.1.trans o2.1).trans o3.1).rk.trans (by rw [hE, hC, hB, hA]; exact ((rkF.u.trans rkF.u).trans rkF.u).trans rkF.u)
          rw [hJ, Int.toNat_natCast] at j1 j3 j4
          refine readJob_110 hM hJ6 7 E (jobW D a.2 b.2 c.2) c.1 GE j1 j3 (by rw [j4]; rfl) k3 (fun K r hr => h1 K r ?_) (fun K e he => h0 K e ?_)
          · show opsS T L (D 2).toNat 7 (jobW D a.2 b.2 c.2) c.1 = _
            rw [hJ, Int.toNat_natCast]; exact hr
          · show opsS T L (D 2).toNat 7 (jobW D a.2 b.2 c.2) c.1 = _
            rw [hJ, Int.toNat_natCast]; exact he
        · simp only at h0
          rw [he] at h0
          exact c_isGood0 hM b3.2.n ⟨⟨by decide, by decide⟩, fun z => absurd rfl z, fun _ => h0 J3 e rfl ((o1.1.trans o2.1).trans b3.1).rk b3.2 (b3.z G2 hz)⟩
      · simp only [bnd] at h0
        rw [he] at h0
        exact c_number0 hM b2.2.n (c_isGood0 hM b2.2.n ⟨⟨by decide, by decide⟩, fun z => absurd rfl z, fun _ => h0 J2 e rfl (o1.1.trans b2.1).rk b2.2 (b2.z G1 hz)⟩)
    · rw [he] at h0
      exact c_number0 hM b1.2.n (c_number0 hM b1.2.n (c_isGood0 hM b1.2.n ⟨⟨by decide, by decide⟩, fun z => absurd rfl z, fun _ => h0 J1 e rfl b1.1.rk b1.2 (b1.z G hz)⟩))
  · rw [if_pos z] at h0
    refine c_report1 hM G.1.2.2.1 ⟨by decide, by decide, by decide⟩ (fun K hK _ => ?_)
    exact c_number0 hM hK.2.n (c_number0 hM hK.2.n (c_number0 hM hK.2.n (c_isGood0 hM hK.2.n ⟨⟨by decide, by decide⟩, fun z => absurd rfl z, fun _ => h0 K _ rfl hK.1.rk hK.2 (hK.z G hz)⟩)))
end M1
