/-! THE REFERENCE'S load, append -/
section M1
variable {Γ : GG} {P : MP} {I : MM} {R : Int → MM → Prop} {Rv : MM → Prop} {D0 : Nat → Int} {c0 : List Int} {n : Nat} {H : Nat → (Nat → Int) × List Int}
theorem q_load (hM : LM Γ P) (r : RF I D0 c0 n H) {B : Nat} (hB : I 1 2 = (B : Int)) (hB9 : B ≤ 900) (hT : ∀ k : Nat, k < 900 → 0 ≤ I 2 k ∧ I 2 k ≤ 255) {x : Int} (hx : inR x)
    (h1 : ∀ J D cs, 0 ≤ x → x ≤ B → RDx D 6 → RCx D cs → D 2 ≠ 0 → ldF I J → RF J (fpD D 36) cs (rmN n) (rmH (D0, c0) n H) → J 1 0 = 0 → J 1 2 = 0 → J 1 7 = -1 → lodS (I 2) x.toNat = .ok (D, cs) → R (D 2) J)
    (h0 : ∀ J e, 0 ≤ x → x ≤ B → lodS (I 2) x.toNat = .error e → ldF I J → RF J D0 c0 n H → J 1 0 = 0 → J 1 2 = 0 → J 1 7 = (e.2 : Int) → R e.1 J)
    (hn : ¬ (0 ≤ x ∧ x ≤ B) → ∀ J, K0 I 1 J → R 0 J) : Cl Γ m_X6_load [vR 1, vI x] P I (ri P R) := by
  have lp : ∀ (f k : Nat) (A : MM) (L : Nat), k + f = 1655 → x = (L : Int) → L ≤ B → ldF I A → RF A D0 c0 n H → A 1 0 = 0 → A 1 2 = 0 → A 1 3 = (L : Int) → A 1 4 = 0 → A 1 5 = 0 → A 1 6 = -1 → A 1 14 = 0 → A 1 15 = 0 → (∀ i, i < k → A 4 i = 0) → XM Γ m_X6_load 0 0 69 [(0, vR 1), (2, vI (k : Int))] [] P A (ri P R) := by
    intro f
    induction f with
    | zero =>
      intro k A L hk hxL hLB hF rA i0 i2 i3 i4 i5 i6 i14 i15 hz
      have z4 := rA.z 4 (Or.inr (Or.inl rfl))
      have e4 : A 4 = fun _ => 0 := by
        funext i
        by_cases hi : i < k
        · exact hz i hi
        · exact z4 i (by omega)
      have x0 : x.toNat = L := by omega
      rw [x0] at h1 h0
      have h1' := fun J D cs => h1 J D cs (by omega) (by omega)
      have h0' := fun J e => h0 J e (by omega) (by omega)
      have GA : GS A (I 2) L 0 := ⟨hF 2 (Or.inl rfl), i3, i5, by omega, hT, 0, i4, Nat.zero_le _, rfl, i6⟩
      have ze : zbE (A 4) := ⟨z4, by rw [e4]; exact ⟨by decide, by decide⟩⟩
      have tkK : ∀ {K K2 : MM}, tkF K K2 → K2 1 0 = K 1 0 ∧ K2 1 2 = K 1 2 := fun h => ⟨h.2 0 (by decide) (by decide) (by decide) (by decide), h.2 2 (by decide) (by decide) (by decide) (by decide)⟩
      have lst : ∀ (K K2 : MM), rkF K K2 → ldF I K → ldF I K2 := fun K K2 hk2 hK q hq => (hk2.1 q (by omega) (by omega)).trans (hK q hq)
      -- a report in the head: the rest does nothing
      have badHead : ∀ (K : MM) (e : Er), rdF A K → bad K e → zbE (K 4) → lodS (I 2) L = .error e → XM Γ m_X6_load 0 0 139 [(0, vR 1)] [] P K (ri P R) := by
        intro K e hk hb hzz hl
        refine ld_bad hM (rA.rd hk hzz.1) (fun q hq => (hk.1 q (by omega) (by omega)).trans (hF q hq)) hb hzz (by rw [hk.2 0 (by decide) (by decide) (by decide) (by decide) (by decide) (by decide)]; exact i0) (by rw [hk.2 2 (by decide) (by decide) (by decide) (by decide) (by decide) (by decide)]; exact i2) (fun J j1 j2 j3 j4 j5 => h0' J e hl j1 j2 j3 j4 j5)
      have bu : ∀ (K : MM) (e : Er) (i : Nat) (v : Int), i ≠ 2 → i < 1655 → bad K e → zbE (K 4) → bad (up2 K 4 i v) e ∧ zbE ((up2 K 4 i v) 4) := by
        intro K e i v hi hi2 hb hzz
        refine ⟨?_, ?_⟩
        · unfold bad at hb ⊢
          rw [up2_ne (by decide)]
          exact hb
        · rw [up2_row]
          exact ⟨fun j hj => by rw [setF_ne (by omega)]; exact hzz.1 j hj, by rw [setF_ne (fun q => hi q.symm)]; exact hzz.2⟩
      have bad3 : ∀ (K : MM) (e : Er), rdF A K → bad K e → zbE (K 4) → lodS (I 2) L = .error e → Cl Γ m_X6_expect [vR 1, vI 59] P K (rv P (fun (I15 : MM) => XM Γ m_X6_load 0 0 139 [(0, vR 1)] [] P I15 (ri P R))) := fun K e hk hb hzz hl => c_expect0 hM hb.n (badHead K e hk hb hzz hl)
      have bad2 : ∀ (K : MM) (e : Er), rdF A K → bad K e → zbE (K 4) → lodS (I 2) L = .error e → Cl Γ m_X6_number [vR 1, vI 0, vI 1] P K (ri P (fun (z12 : Int) (I13 : MM) => (∀ I14 : MM, I14 = up2 I13 4 1 z12 → (Cl Γ m_X6_expect [vR 1, vI 59] P I14 (rv P (fun (I15 : MM) => XM Γ m_X6_load 0 0 139 [(0, vR 1)] [] P I15 (ri P R))))))) := by
        intro K e hk hb hzz hl
        refine c_number0 hM hb.n ?_
        intro M hM2
        obtain ⟨b1, b2⟩ := bu K e 1 0 (by decide) (by decide) hb hzz
        rw [hM2]
        exact bad3 _ e (hk.trans rkF.u.rd) b1 b2 hl
      have bad1 : ∀ (K : MM) (e : Er), rdF A K → bad K e → zbE (K 4) → lodS (I 2) L = .error e → Cl Γ m_X6_number [vR 1, vI 1, vI 6] P K (ri P (fun (z9 : Int) (I10 : MM) => (∀ I11 : MM, I11 = up2 I10 4 0 z9 → (Cl Γ m_X6_number [vR 1, vI 0, vI 1] P I11 (ri P (fun (z12 : Int) (I13 : MM) => (∀ I14 : MM, I14 = up2 I13 4 1 z12 → (Cl Γ m_X6_expect [vR 1, vI 59] P I14 (rv P (fun (I15 : MM) => XM Γ m_X6_load 0 0 139 [(0, vR 1)] [] P I15 (ri P R))))))))))) := by
        intro K e hk hb hzz hl
        refine c_number0 hM hb.n ?_
        intro M hM2
        obtain ⟨b1, b2⟩ := bu K e 0 0 (by decide) (by decide) hb hzz
        rw [hM2]
        exact bad2 _ e (hk.trans rkF.u.rd) b1 b2 hl
      refine t_X6_load_69 hM ⟨⟨by omega, by omega⟩, fun _ => ?_, fun z => absurd (by omega) z⟩
      refine c_takeWord hM GA (by decide) (fun w => ⟨⟨by decide, by decide⟩, fun _ => ?_, fun z => absurd z (by decide)⟩) (fun w => ⟨⟨by decide, by decide⟩, fun z => absurd rfl z, fun _ => ?_⟩)
      · have we := WD_end (i := 7) (by decide) w
        have GB := GA.at_ (y := spc (I 2) L 0 + lenS.getD 7 0) we.2
        have JB : JS (up2 A 1 4 ((spc (I 2) L 0 + lenS.getD 7 0 : Nat) : Int)) (I 2) L (spc (I 2) L 0 + lenS.getD 7 0) (fun _ => 0) := ⟨GB, by rw [up2_ne (by decide)]; exact e4⟩
        have kB : rkF A (up2 A 1 4 ((spc (I 2) L 0 + lenS.getD 7 0 : Nat) : Int)) := (tkF.f (Or.inl rfl)).rk
        have zB : zbE (fun _ : Nat => (0 : Int)) := by rw [← e4]; exact ze
        generalize up2 A 1 4 ((spc (I 2) L 0 + lenS.getD 7 0 : Nat) : Int) = A1 at GB JB kB ⊢
        refine c_number hM GB ⟨by decide, by decide⟩ ⟨by decide, by decide⟩ (fun J1 a ha o1 _ => ?_) (fun J1 e v he b1 => ?_)
        · intro A2 hA2
          have G1 := (o1.js JB).u (i := 0) (v := a.2)
          rw [← hA2] at G1
          have k1 : rkF A A2 := kB.trans (o1.1.rk.trans (by rw [hA2]; exact rkF.u))
          refine c_number hM G1.1 ⟨by decide, by decide⟩ ⟨by decide, by decide⟩ (fun J2 b hb o2 _ => ?_) (fun J2 e v he b2 => ?_)
          · intro A3 hA3
            have G2 := (o2.js G1).u (i := 1) (v := b.2)
            rw [← hA3] at G2
            have k2 : rkF A A3 := k1.trans (o2.1.rk.trans (by rw [hA3]; exact rkF.u))
            obtain ⟨-, -, -, a1, a2, a3, a4⟩ := numS_ok ha
            obtain ⟨-, -, -, b1, b2, b3, b4⟩ := numS_ok hb
            obtain ⟨d1, d2⟩ := hdW_ok ⟨a1, a2⟩ ⟨b1, b2⟩
            refine c_expect hM G2.1 ⟨by decide, by decide⟩ (by decide) (fun J3 e he o3 => ?_) (fun J3 e he b3 => ?_)
            · have G3 := o3.js G2
              have k3 : rkF A J3 := k2.trans o3.1.rk
              have S3 : SS J3 (I 2) L e (hdW a.2 b.2) := ⟨G3, by rw [k3.2 14 (by decide) (by decide) (by decide) (by decide)]; exact i14, by rw [k3.2 15 (by decide) (by decide) (by decide) (by decide), i15]; exact (show hdW a.2 b.2 3 = 0 from by unfold hdW; rw [setD_ne (by decide), setD_ne (by decide)]).symm⟩
              have z3 : zbD (J3 4) := by rw [G3.2]; exact d1.2.2.2.2.2
              refine ld_139 hM h1' h0' L J3 (hdW a.2 b.2) [-1] e S3 d1 d2 (by omega) (rA.rd k3.rd z3) (lst A J3 k3 hF) (by rw [k3.2 0 (by decide) (by decide) (by decide) (by decide)]; exact i0) (by rw [k3.2 2 (by decide) (by decide) (by decide) (by decide)]; exact i2) (fun y hy => ?_)
              unfold lodS
              rw [pIf_t w, ha]
              simp only [bnd]
              rw [hb]
              simp only
              rw [he]
              simp only
              have hy2 : prgS (I 2) L L (setD (setD (fun _ => 0) 0 a.2) 1 b.2) [-1] e = y := hy
              rw [hy2]
            · refine badHead J3 e (k2.trans b3.1.rk).rd b3.2 (b3.z G2 d1.ze) ?_
              unfold lodS
              rw [pIf_t w, ha]
              simp only [bnd]
              rw [hb]
              simp only
              rw [he]
          · intro A3 hA3
            have zJ : zbE (J2 4) := by
              rw [b2.1.1 4 (by decide), G1.2]
              exact ⟨fun i hi => by rw [setD_ne (by omega)], by rw [setD_ne (by decide)]; exact ⟨by decide, by decide⟩⟩
            obtain ⟨c1, c2⟩ := bu J2 e 1 v (by decide) (by decide) b2.2 zJ
            rw [hA3]
            refine bad3 _ e (((k1.trans b2.1.rk).trans rkF.u).rd) c1 c2 ?_
            unfold lodS
            rw [pIf_t w, ha]
            simp only [bnd]
            rw [he]
        · intro A2 hA2
          obtain ⟨c1, c2⟩ := bu J1 e 0 v (by decide) (by decide) b1.2 (b1.z JB zB)
          rw [hA2]
          refine bad2 _ e (((kB.trans b1.1.rk).trans rkF.u).rd) c1 c2 ?_
          unfold lodS
          rw [pIf_t w, he]
          rfl
      · rw [up2_eq]
        have GB := GA.at_ GA.sp
        have kB : rkF A (up2 A 1 4 (spc (I 2) L 0 : Int)) := (tkF.f (Or.inl rfl)).rk
        refine c_report1 hM GB.2.2.1 ⟨by decide, by decide, by decide⟩ (fun K hK _ => ?_)
        refine bad1 K _ (kB.trans hK.1.rk).rd hK.2 (by rw [hK.1.1 4 (by decide), up2_ne (by decide)]; exact ze) ?_
        unfold lodS
        rw [pIf_f w]
    | succ f ih =>
      intro k A L hk hxL hLB hF rA i0 i2 i3 i4 i5 i6 i14 i15 hz
      refine t_X6_load_69 hM ⟨⟨by omega, by omega⟩, fun z => absurd z (by omega), fun _ => ⟨by omega, by omega, ?_⟩⟩
      intro C hC
      rw [Int.toNat_natCast] at hC
      have rC : ∀ q, q ≠ 4 → C q = A q := fun q hq => by rw [hC, up2_ne hq]
      have c1 : C 1 = A 1 := rC 1 (by decide)
      have c4 : C 4 = setF (A 4) k 0 := by rw [hC, up2_row]
      have z4 := rA.z 4 (Or.inr (Or.inl rfl))
      have := ih (k + 1) C L (by omega) hxL hLB (fun q hq => (rC q (by omega)).trans (hF q hq)) ⟨(rC 3 (by decide)).trans rA.d, rA.g, rA.n8, by rw [c1]; exact rA.c, fun j hj => by rw [rC (13 + j) (by omega)]; exact rA.h j hj, fun q hq => by
        by_cases e : q = 4
        · rw [e, c4]
          intro i hi
          rw [setF_ne (by omega)]
          exact z4 i hi
        · rw [rC q e]; exact rA.z q hq⟩ (by rw [c1]; exact i0) (by rw [c1]; exact i2) (by rw [c1]; exact i3) (by rw [c1]; exact i4) (by rw [c1]; exact i5) (by rw [c1]; exact i6) (by rw [c1]; exact i14) (by rw [c1]; exact i15) (fun i hi => by
        rw [c4]
        by_cases e : i = k
        · rw [e, setF_eq]
        · rw [setF_ne e]; exact hz i (by omega))
      push_cast at this
      exact this
  have start : ∀ A : MM, A = up2 I 1 0 0 → 0 ≤ x → x ≤ B → (∀ I12 : MM, I12 = up2 A 1 2 0 → (∀ I13 : MM, I13 = up2 I12 1 3 x → (∀ I14 : MM, I14 = up2 I13 1 4 0 → (∀ I15 : MM, I15 = up2 I14 1 5 0 → (∀ I16 : MM, I16 = up2 I15 1 6 (-1) → (∀ I17 : MM, I17 = up2 I16 1 14 0 → (∀ I18 : MM, I18 = up2 I17 1 15 0 → XM Γ m_X6_load 0 0 69 [(0, vR 1), (2, vI 0)] [] P I18 (ri P R)))))))) := by
    intro A hA x0 xB A1 e1 A2 e2 A3 e3 A4 e4 A5 e5 A6 e6 A7 e7
    have rA : ∀ q, q ≠ 1 → A7 q = I q := fun q hq => by rw [e7, up2_ne hq, e6, up2_ne hq, e5, up2_ne hq, e4, up2_ne hq, e3, up2_ne hq, e2, up2_ne hq, e1, up2_ne hq, hA, up2_ne hq]
    refine lp 1655 0 A7 x.toNat (by omega) (by omega) (by omega) (fun q hq => rA q (by omega)) ⟨(rA 3 (by decide)).trans r.d, r.g, r.n8, ?_, fun k hk => by rw [rA (13 + k) (by omega)]; exact r.h k hk, fun q hq => by rw [rA q (by omega)]; exact r.z q hq⟩ ?_ ?_ ?_ ?_ ?_ ?_ ?_ ?_ (fun i hi => absurd hi (Nat.not_lt_zero _))
    · rw [e7, up2_nj (by decide), e6, up2_nj (by decide), e5, up2_nj (by decide), e4, up2_nj (by decide), e3, up2_nj (by decide), e2, up2_nj (by decide), e1, up2_nj (by decide), hA, up2_nj (by decide)]; exact r.c
    · rw [e7, up2_nj (by decide), e6, up2_nj (by decide), e5, up2_nj (by decide), e4, up2_nj (by decide), e3, up2_nj (by decide), e2, up2_nj (by decide), e1, up2_nj (by decide), hA, up2_eq]
    · rw [e7, up2_nj (by decide), e6, up2_nj (by decide), e5, up2_nj (by decide), e4, up2_nj (by decide), e3, up2_nj (by decide), e2, up2_nj (by decide), e1, up2_eq]
    · rw [e7, up2_nj (by decide), e6, up2_nj (by decide), e5, up2_nj (by decide), e4, up2_nj (by decide), e3, up2_nj (by decide), e2, up2_eq]; omega
    · rw [e7, up2_nj (by decide), e6, up2_nj (by decide), e5, up2_nj (by decide), e4, up2_nj (by decide), e3, up2_eq]
    · rw [e7, up2_nj (by decide), e6, up2_nj (by decide), e5, up2_nj (by decide), e4, up2_eq]
    · rw [e7, up2_nj (by decide), e6, up2_nj (by decide), e5, up2_eq]
    · rw [e7, up2_nj (by decide), e6, up2_eq]
    · rw [e7, up2_eq]
  refine cl_of n_X6_load (Nat.le_of_ble_eq_true rfl) (t_X6_load_0 hM (by
    intro A hA
    have a2 : A 1 2 = (B : Int) := by rw [hA, up2_nj (by decide)]; exact hB
    have a0 : A 1 0 = 0 := by rw [hA, up2_eq]
    rw [a2]
    refine c_in hx ⟨by decide, by decide⟩ ⟨by omega, by omega⟩ (fun x0 xB => ?_) (fun w => ?_)
    · exact ⟨⟨by decide, by decide⟩, fun _ => c_fails0 hM a0 ⟨⟨by decide, by decide⟩, fun _ => start A hA x0 xB, fun z => absurd rfl z⟩, fun z => absurd z (by decide)⟩
    · refine ⟨⟨by decide, by decide⟩, fun z => absurd rfl z, fun _ => c_fails1 hM a0 (Or.inl rfl) ⟨⟨by decide, by decide⟩, fun z => absurd z (by decide), fun _ => ?_⟩⟩
      rw [hA]
      exact hn (fun z => by omega) _ K0.mk2))
/-- the bytes of a word -/
def byW (w0 w1 w2 w3 w4 : Int) (k : Nat) : Int := ((if k < 4 then w0 else if k < 8 then w1 else if k < 12 then w2 else if k < 16 then w3 else w4) / ((2 ^ (24 - 8 * (k % 4)) : Nat) : Int)) % 256
theorem q_append (hM : LM Γ P) {B : Nat} (hB : I 1 2 = (B : Int)) (hB9 : B ≤ 900) {w0 w1 w2 w3 w4 : Int} (r0 : inR w0) (r1 : inR w1) (r2 : inR w2) (r3 : inR w3) (r4 : inR w4)
    (hy : B + 20 ≤ 900 → ∀ J, (∀ r, r ≠ 1 → r ≠ 2 → J r = I r) → (∀ i, i ≠ 0 → i ≠ 2 → J 1 i = I 1 i) → J 1 0 = 0 → J 1 2 = ((B + 20 : Nat) : Int) → (∀ k, J 2 k = if B ≤ k ∧ k < B + 20 then byW w0 w1 w2 w3 w4 (k - B) else I 2 k) → R ((B + 20 : Nat) : Int) J)
    (hn : ¬ B + 20 ≤ 900 → ∀ J, K0 I 0 J → R (-1) J) : Cl Γ m_X6_append [vR 1, vI w0, vI w1, vI w2, vI w3, vI w4] P I (ri P R) := by
  refine cl_of n_X6_append (Nat.le_of_ble_eq_true rfl) (t_X6_append_0 hM (by
    intro A hA
    have a2 : A 1 2 = (B : Int) := by rw [hA, up2_nj (by decide)]; exact hB
    rw [a2]
    refine ⟨⟨by omega, by omega⟩, fun z => ?_, fun z => ?_⟩
    · have key : ∀ (f k : Nat) (J : MM), k + f = 20 → (∀ r, r ≠ 1 → r ≠ 2 → J r = I r) → (∀ i, i ≠ 0 → i ≠ 2 → J 1 i = I 1 i) → J 1 0 = 0 → J 1 2 = ((B + k : Nat) : Int) → (∀ q, J 2 q = if B ≤ q ∧ q < B + k then byW w0 w1 w2 w3 w4 (q - B) else I 2 q) → XM Γ m_X6_append 0 0 23 [(0, vR 1), (1, vI w0), (2, vI w1), (3, vI w2), (4, vI w3), (5, vI w4), (6, vI (k : Int))] [] P J (ri P R) := by
        intro f
        induction f with
        | zero =>
          intro k J hk j1 j2 j3 j4 j5
          have ek : k = 20 := by omega
          refine t_X6_append_23 hM ⟨⟨by omega, by omega⟩, fun _ => ?_, fun y => absurd (by omega) y⟩
          rw [j4, ek]
          rw [ek] at j4 j5
          exact hy (by omega) J j1 j2 j3 j4 j5
        | succ f ih =>
          intro k J hk j1 j2 j3 j4 j5
          have go : ∀ w : Int, (if k < 4 then w0 else if k < 8 then w1 else if k < 12 then w2 else if k < 16 then w3 else w4) = w → inR w → (0 ≤ (k : Int)) ∧ (inR w) ∧ (0 ≤ (24 - (8 * ((k : Int) % 4)))) ∧ ((24 - (8 * ((k : Int) % 4))) < 32) ∧ (0 ≤ (J 1 2)) ∧ ((J 1 2) < 900) ∧ (∀ I18 : MM, I18 = up2 J 2 ((J 1 2)).toNat ((w / ((2 ^ ((24 - (8 * ((k : Int) % 4))) : Int).toNat : Nat) : Int)) % 256) → (∀ I19 : MM, I19 = up2 I18 1 2 ((I18 1 2) + 1) → XM Γ m_X6_append 0 0 23 [(0, vR 1), (1, vI w0), (2, vI w1), (3, vI w2), (4, vI w3), (5, vI w4), (6, vI ((k : Int) + 1))] [] P I19 (ri P R))) := by
            intro w hw rw1
            refine ⟨by omega, rw1, by omega, by omega, by omega, by omega, ?_⟩
            intro C hC E hE
            rw [j4, Int.toNat_natCast, show (24 - 8 * ((k : Int) % 4)).toNat = 24 - 8 * (k % 4) by omega] at hC
            rw [hC, up2_ne (by decide), j4, ← hC] at hE
            have := ih (k + 1) E (by omega) (fun r a b => by rw [hE, up2_ne a, hC, up2_ne b]; exact j1 r a b) (fun i a b => by rw [hE, up2_nj b, hC, up2_ne (by decide)]; exact j2 i a b) (by rw [hE, up2_nj (by decide), hC, up2_ne (by decide)]; exact j3) (by rw [hE, up2_eq]; push_cast; omega) (fun q => ?_)
            · push_cast at this
              exact this
            · rw [hE, up2_ne (by decide), hC, up2_row]
              by_cases e : q = B + k
              · rw [e, setF_eq, if_pos (by omega), show B + k - B = k by omega]
                unfold byW
                rw [hw]
              · rw [setF_ne e, j5 q]
                by_cases e2 : B ≤ q ∧ q < B + k
                · rw [if_pos e2, if_pos (by omega)]
                · rw [if_neg e2, if_neg (by omega)]
          refine t_X6_append_23 hM ⟨⟨by omega, by omega⟩, fun y => absurd y (by omega), fun _ => ⟨fun y4 => ⟨fun y8 => ⟨fun y12 => ⟨fun y16 => go w4 ?_ r4, fun y16 => go w3 ?_ r3⟩, fun y12 => go w2 ?_ r2⟩, fun y8 => go w1 ?_ r1⟩, fun y4 => go w0 ?_ r0⟩⟩
          · rw [if_neg (by omega), if_neg (by omega), if_neg (by omega), if_neg (by omega)]
          · rw [if_neg (by omega), if_neg (by omega), if_neg (by omega), if_pos (by omega)]
          · rw [if_neg (by omega), if_neg (by omega), if_pos (by omega)]
          · rw [if_neg (by omega), if_pos (by omega)]
          · rw [if_pos (by omega)]
      refine key 20 0 A (by omega) (fun r a _ => by rw [hA, up2_ne a]) (fun i a _ => by rw [hA, up2_nj a]) (by rw [hA, up2_eq]) a2 (fun q => ?_)
      rw [if_neg (by omega), hA, up2_ne (by decide)]
    · rw [hA]
      exact hn (by omega) _ K0.mk))
end M1
