/-! THE CLASS READS JOBS AND MACHINES -/
/-- how many operations need a machine -/
def unB (D : Nat → Int) (m : Nat) (o : Nat) : Bool := decide (((o % 6 : Nat) : Int) < D (59 + 4 * (o / 6) + 3)) && (D (83 + 2 * o) == (m : Int))
def uN (D : Nat → Int) (m : Nat) : Nat := cntF (unB D m) 36
/-- the shop as the draft says; the count of jobs aside -/
def SHd (I : MM) (σ : Nat) (D : Nat → Int) : Prop :=
  I σ 0 = D 0 ∧ I σ 2 = D 1 ∧ (∀ m : Nat, m < 6 → I (σ + 1) m = D (5 + 9 * m) ∧ I (σ + 2) m = D (5 + 9 * m + 1) ∧ I (σ + 3) m = (uN D m : Int)) ∧
  (∀ j : Nat, j < 6 → I (σ + 4) j = D (59 + 4 * j) ∧ I (σ + 5) j = D (59 + 4 * j + 1) ∧ I (σ + 6) j = D (59 + 4 * j + 2) ∧ I (σ + 7) j = D (59 + 4 * j + 3)) ∧
  (∀ o : Nat, o < 36 → ((o % 6 : Nat) : Int) < D (59 + 4 * (o / 6) + 3) → I (σ + 8) o = D (83 + 2 * o) ∧ I (σ + 9) o = D (83 + 2 * o + 1))
def BSh (I : MM) (σ : Nat) : Prop := inR (I σ 1) ∧ ∀ j : Nat, j < 6 → 0 ≤ I (σ + 7) j ∧ I (σ + 7) j ≤ 6
def jsF (σ : Nat) (I J : MM) : Prop := (∀ r : Nat, r ≠ 31 → (r < σ ∨ σ + 10 ≤ r) → J r = I r) ∧ ∀ i : Nat, (i < 2 ∨ 6 < i) → J 31 i = I 31 i
theorem jsF.refl {σ : Nat} (I : MM) : jsF σ I I := ⟨fun _ _ _ => rfl, fun _ _ => rfl⟩
theorem jsF.trans {σ : Nat} {A B C : MM} (h : jsF σ A B) (k : jsF σ B C) : jsF σ A C := ⟨fun r a b => (k.1 r a b).trans (h.1 r a b), fun i a => (k.2 i a).trans (h.2 i a)⟩
theorem tcF.js {σ : Nat} {I J : MM} (h : tcF I J) : jsF σ I J := ⟨fun r a _ => h.1 r a, h.2⟩
theorem jsF.u {σ : Nat} (hσ : 1000 ≤ σ) {I : MM} {r i : Nat} {v : Int} (h : σ ≤ r ∧ r < σ + 10) : jsF σ I (up2 I r i v) := ⟨fun q _ b => up2_ne (by omega), fun i _ => by rw [up2_ne (by omega)]⟩
theorem SHd.k {I J : MM} {σ : Nat} {D : Nat → Int} (hσ : 1000 ≤ σ) (h : SHd I σ D) (k : tcF I J) : SHd J σ D := by
  unfold SHd
  rw [k.1 σ (by omega), k.1 (σ + 1) (by omega), k.1 (σ + 2) (by omega), k.1 (σ + 3) (by omega), k.1 (σ + 4) (by omega), k.1 (σ + 5) (by omega), k.1 (σ + 6) (by omega), k.1 (σ + 7) (by omega), k.1 (σ + 8) (by omega), k.1 (σ + 9) (by omega)]
  exact h
theorem BSh.k {I J : MM} {σ : Nat} (hσ : 1000 ≤ σ) (h : BSh I σ) (k : tcF I J) : BSh J σ := by
  unfold BSh; rw [k.1 σ (by omega), k.1 (σ + 7) (by omega)]; exact h
theorem TK.u {I : MM} {T : Nat → Int} {L p r i : Nat} {v : Int} (h : TK I T L p) (hr : 1000 ≤ r) : TK (up2 I r i v) T L p := by
  unfold TK TX; rw [up2_ne (by omega), up2_ne (by omega)]; exact h
theorem TKb.u {I : MM} {L r i : Nat} {v : Int} {e : Er} (h : TKb I L e) (hr : 1000 ≤ r) : TKb (up2 I r i v) L e := by
  unfold TKb; rw [up2_ne (by omega)]; exact h
section M3
variable {Γ : GG} {P : MP} {I : MM} {R : Int → MM → Prop} {Rv : MM → Prop} {T : Nat → Int} {L p : Nat} {D : Nat → Int} {σ κ N : Nat}
/-- bad goes on bad -/
def BB (I : MM) (L σ : Nat) (e : Er) : Prop := TKb I L e ∧ BSh I σ
theorem BB.t {J : MM} {e : Er} (hσ : 1000 ≤ σ) (h : BB I L σ e) (k : tcF I J) (t : TKb J L e) : BB J L σ e := ⟨t, h.2.k hσ k⟩
theorem BB.u {e : Er} {r i : Nat} {v : Int} (hσ : 1000 ≤ σ) (h : BB I L σ e) (hr : σ < r ∧ r < σ + 10 ∧ r ≠ σ + 7) : BB (up2 I r i v) L σ e := ⟨h.1.u (by omega), by unfold BSh; rw [up2_ne (by omega), up2_ne (by omega)]; exact h.2⟩
theorem d_rd0 (hr : LRead Γ P) (hσ : 1000 ≤ σ) {e : Er} (h : BB I L σ e) {lo hi : Int} (hR : ∀ J, jsF σ I J → BB J L σ e → R lo J) : Cl Γ m_X3_readNumber [vR 31, vI lo, vI hi] P I (ri P R) := d_readNumber0 hr h.1 (fun J a b => hR J a.js (h.t hσ a b))
/-- an operation, in an error -/
theorem d_op0tail (hr : LRead Γ P) (hσ : 1000 ≤ σ) {J : Nat} (hJ : J < 6) {e : Er} (h : BB I L σ e) {u m : Int} (hu : 0 ≤ u ∧ u < 6) (hm : 0 ≤ m ∧ m < 6) (hR : ∀ K, jsF σ I K → BB K L σ e → Rv K) :
    Cl Γ m_X5_idOf [vI (J : Int), vI u] P I (ri P (fun (z13 : Int) (I14 : MM) => (0 ≤ z13) ∧ (z13 < 36) ∧ (∀ I17 : MM, I17 = up2 I14 (σ + 8) (z13).toNat m → (Cl Γ m_X5_idOf [vI (J : Int), vI u] P I17 (ri P (fun (z18 : Int) (I19 : MM) => (Cl Γ m_X3_readNumber [vR 31, vI 1, vI 99] P I19 (ri P (fun (z20 : Int) (I21 : MM) => (0 ≤ z18) ∧ (z18 < 36) ∧ (∀ I24 : MM, I24 = up2 I21 (σ + 9) (z18).toNat z20 → (∀ I25 : MM, I25 = up2 I24 (σ + 7) (J : Int).toNat (u + 1) → (0 ≤ m) ∧ (m < 6) ∧ (∀ I28 : MM, I28 = up2 I25 (σ + 3) (m).toNat ((I25 (σ + 3) (m).toNat) + 1) → Rv I28)))))))))))) := by
  rw [show u = ((u.toNat : Nat) : Int) by omega]
  refine d_idOf ⟨by omega, by omega, ?_⟩
  intro A hA
  have bA : BB A L σ e := by rw [hA]; exact h.u hσ ⟨by omega, by omega, by omega⟩
  have jA : jsF σ I A := by rw [hA]; exact jsF.u hσ ⟨by omega, by omega⟩
  refine d_idOf (d_rd0 hr hσ bA (fun B jB bB => ⟨by omega, by omega, ?_⟩))
  intro C hC E hE
  have bC : BB C L σ e := by rw [hC]; exact bB.u hσ ⟨by omega, by omega, by omega⟩
  have bE : BB E L σ e := by
    refine ⟨by rw [hE]; exact bC.1.u (by omega), ?_⟩
    rw [hE]
    refine ⟨by rw [up2_ne (by omega)]; exact bC.2.1, fun j hj => ?_⟩
    rw [up2_row, Int.toNat_natCast]
    by_cases q : j = J
    · rw [q, setF_eq]; omega
    · rw [setF_ne q]; exact bC.2.2 j hj
  refine ⟨hm.1, hm.2, ?_⟩
  intro F hF
  refine hR F (((jA.trans jB).trans (by rw [hC]; exact jsF.u hσ ⟨by omega, by omega⟩)).trans ((by rw [hE]; exact jsF.u hσ ⟨by omega, by omega⟩ : jsF σ C E).trans (by rw [hF]; exact jsF.u hσ ⟨by omega, by omega⟩))) ?_
  rw [hF]
  exact bE.u hσ ⟨by omega, by omega, by omega⟩
theorem d_readOperation0 (hr : LRead Γ P) (hh : LShop Γ P σ κ N) (hσ : 1000 ≤ σ) {J : Nat} (hJ : J < 6) {e : Er} (h : BB I L σ e) (hR : ∀ K, jsF σ I K → BB K L σ e → Rv K) : Cl Γ m_X3_readOperation [vR 31, vR σ, vI (J : Int)] P I (rv P Rv) := by
  have hj := h.2.2 J hJ
  refine cl_of n_X3_readOperation (Nat.le_of_ble_eq_true rfl) (t_X3_readOperation_0 hr hh ⟨by omega, by omega, ?_⟩)
  intro u hu
  rw [Int.toNat_natCast] at hu
  refine ⟨⟨by omega, by omega⟩, fun z => ?_, fun z => d_fail0 hr h.1 (fun K k1 k2 => hR K k1.js (h.t hσ k1 k2))⟩
  refine d_expectWord0 hr h.1 (by decide) (fun A a1 a2 => ?_)
  have bA := h.t hσ a1 a2
  rw [a2.1]
  refine ⟨⟨by decide, by decide⟩, fun _ => ?_, fun y => absurd y (by decide)⟩
  refine d_rd0 hr hσ bA (fun B jB bB => ?_)
  exact d_op0tail hr hσ hJ bB ⟨by omega, by omega⟩ (by decide) (fun K k1 k2 => hR K (a1.js.trans (jB.trans k1)) k2)
theorem d_needsAlready (hr : LRead Γ P) (hh : LShop Γ P σ κ N) {J : Nat} (hJ : J < 6) {n : Nat} (hn : I (σ + 7) J = (n : Int)) (hn6 : n ≤ 6) {F : Nat → Int} (hF : ∀ k : Nat, k < n → I (σ + 8) (6 * J + k) = F k ∧ 0 ≤ F k ∧ F k ≤ 5) {v : Int} (hv : inR v) (h1 : (∃ k, k < n ∧ F k = v) → R 1 I) (h0 : (¬ ∃ k, k < n ∧ F k = v) → R 0 I) : Cl Γ m_X3_needsAlready [vR 31, vR σ, vI (J : Int), vI v] P I (ri P R) := by
  have key : ∀ (f k : Nat), k + f = n → (∀ k2, k2 < k → F k2 ≠ v) → XM Γ m_X3_needsAlready 0 0 3 [(1, vR σ), (2, vI (J : Int)), (3, vI v), (4, vI (k : Int))] [] P I (ri P R) := by
    intro f
    induction f with
    | zero =>
      intro k hk hne
      refine t_X3_needsAlready_3 hr hh ⟨by omega, by omega, ⟨by omega, by omega⟩, ?_⟩
      rw [Int.toNat_natCast, hn]
      exact ⟨⟨by omega, by omega⟩, fun _ => h0 (fun ⟨k2, a, b⟩ => hne k2 (by omega) b), fun z => absurd (by omega) z⟩
    | succ f ih =>
      intro k hk hne
      obtain ⟨f1, f2, f3⟩ := hF k (by omega)
      refine t_X3_needsAlready_3 hr hh ⟨by omega, by omega, ⟨by omega, by omega⟩, ?_⟩
      rw [Int.toNat_natCast, hn]
      refine ⟨⟨by omega, by omega⟩, fun z => absurd z (by omega), fun _ => d_idOf ⟨by omega, by omega, ?_⟩⟩
      rw [Int.toNat_natCast, f1]
      refine ⟨⟨by omega, by omega⟩, hv, fun z => ?_, fun z => h1 ⟨k, by omega, z⟩⟩
      have := ih (k + 1) (by omega) (fun k2 hk2 => by
        by_cases e : k2 = k
        · rw [e]; exact z
        · exact hne k2 (by omega))
      push_cast at this
      exact this
  exact cl_of n_X3_needsAlready (Nat.le_of_ble_eq_true rfl) (t_X3_needsAlready_0 hr hh (key n 0 (Nat.zero_add _) (fun k2 h => absurd h (Nat.not_lt_zero _))))
theorem SHd.bad {J : MM} {e : Er} {j0 : Nat} (h : SHd I σ D) (hD : RDx D j0) (hj : inR (I σ 1)) (t : TKb J L e) (k : tcF I J) (hσ : 1000 ≤ σ) : BB J L σ e := by
  refine ⟨t, by rw [k.1 σ (by omega)]; exact hj, fun j hj2 => ?_⟩
  rw [k.1 (σ + 7) (by omega), (h.2.2.2.1 j hj2).2.2.2]
  have := hD.2.1 j hj2
  omega
/-- an operation: its word may be there -/
theorem d_readOperation (hr : LRead Γ P) (hh : LShop Γ P σ κ N) (hσ : 1000 ≤ σ) (h : TK I T L p) (hS : SHd I σ D) (hjb : inR (I σ 1)) {J : Nat} (hD : RDx D J) (hJ : J < 6) (hJ2 : (J : Int) < D 2) (hw : WD T L 5 (spc T L p) ∨ D (59 + 4 * J + 3) = 0)
    (h1 : ∀ K r, WD T L 5 (spc T L p) → opS T L D J (spc T L p + lenS.getD 5 0) (spc T L p) = .ok r → jsF σ I K → TK K T L r.1 → SHd K σ r.2 → K σ 1 = I σ 1 → Rv K)
    (h0 : ∀ K e, WD T L 5 (spc T L p) → opS T L D J (spc T L p + lenS.getD 5 0) (spc T L p) = .error e → jsF σ I K → BB K L σ e → Rv K)
    (hn : ∀ K, ¬ WD T L 5 (spc T L p) → jsF σ I K → BB K L σ (-2, spc T L p) → Rv K) : Cl Γ m_X3_readOperation [vR 31, vR σ, vI (J : Int)] P I (rv P Rv) := by
  have hj := hD.2.1 J hJ
  have hd := hD.1
  have e7 : I (σ + 7) J = D (59 + 4 * J + 3) := (hS.2.2.2.1 J hJ).2.2.2
  obtain ⟨nn, hnn⟩ : ∃ nn : Nat, D (59 + 4 * J + 3) = (nn : Int) := ⟨(D (59 + 4 * J + 3)).toNat, by omega⟩
  refine cl_of n_X3_readOperation (Nat.le_of_ble_eq_true rfl) (t_X3_readOperation_0 hr hh ⟨by omega, by omega, ?_⟩)
  intro u hu
  rw [Int.toNat_natCast, e7, hnn] at hu
  rw [hu]
  refine ⟨⟨by omega, by omega⟩, fun z => ?_, fun z => ?_⟩
  · have n6 : ¬ D (59 + 4 * J + 3) = 6 := by omega
    refine d_expectWord hr h (by decide) (fun A w a1 a2 => ?_) (fun A w a1 a2 => ?_)
    · have h1' := fun K r => h1 K r w
      have h0' := fun K e => h0 K e w
      have sA := hS.k hσ a1
      have jA : inR (A σ 1) := by rw [a1.1 σ (by omega)]; exact hjb
      have aj : A σ 1 = I σ 1 := by rw [a1.1 σ (by omega)]
      unfold opS at h1' h0'
      rw [if_neg n6] at h1' h0'
      have hb := tkK_b (T := T) (L := L) (p := spc T L p + lenS.getD 5 0)
      generalize hp1 : spc T L p + lenS.getD 5 0 = p1 at *
      have a0 : A σ 0 = D 0 := sA.1
      -- behind the machine's number
      have tail : (∀ m : Nat × Int, numS T L p1 0 (D 0 - 1) = .ok m → ¬ ∃ k : Nat, (k : Int) < D (59 + 4 * J + 3) ∧ D (83 + 2 * (6 * J + k)) = m.2) → Cl Γ m_X3_readNumber [vR 31, vI 0, vI ((A σ 0) - 1)] P A (ri P (fun (z11 : Int) (I12 : MM) => (Cl Γ m_X5_idOf [vI (J : Int), vI (nn : Int)] P I12 (ri P (fun (z13 : Int) (I14 : MM) => (0 ≤ z13) ∧ (z13 < 36) ∧ (∀ I17 : MM, I17 = up2 I14 (σ + 8) (z13).toNat z11 → (Cl Γ m_X5_idOf [vI (J : Int), vI (nn : Int)] P I17 (ri P (fun (z18 : Int) (I19 : MM) => (Cl Γ m_X3_readNumber [vR 31, vI 1, vI 99] P I19 (ri P (fun (z20 : Int) (I21 : MM) => (0 ≤ z18) ∧ (z18 < 36) ∧ (∀ I24 : MM, I24 = up2 I21 (σ + 9) (z18).toNat z20 → (∀ I25 : MM, I25 = up2 I24 (σ + 7) (J : Int).toNat ((nn : Int) + 1) → (0 ≤ z11) ∧ (z11 < 6) ∧ (∀ I28 : MM, I28 = up2 I25 (σ + 3) (z11).toNat ((I25 (σ + 3) (z11).toNat) + 1) → Rv I28))))))))))))))) := by
        intro hx
        rw [a0]
        refine d_readNumber hr a2 (by decide) (by omega) (fun B m hm b1 b2 => ?_) (fun B e he b1 b2 => ?_)
        · rw [hm] at h1' h0'
          simp only [bnd] at h1' h0'
          rw [pIf_f (hx m hm)] at h1' h0'
          obtain ⟨-, -, -, m1, m2, -, -⟩ := numS_ok hm
          obtain ⟨M, hM⟩ : ∃ M : Nat, m.2 = (M : Int) := ⟨m.2.toNat, by omega⟩
          have hM6 : M < 6 := by omega
          have sB := sA.k hσ b1
          have bj : B σ 1 = I σ 1 := by rw [b1.1 σ (by omega)]; exact aj
          refine d_idOf ⟨by omega, by omega, ?_⟩
          intro C hC
          rw [Int.toNat_natCast] at hC
          have tC : TK C T L m.1 := by rw [hC]; exact b2.u (by omega)
          have cB : jsF σ B C := by rw [hC]; exact jsF.u hσ ⟨by omega, by omega⟩
          refine d_idOf ?_
          refine d_readNumber hr tC (by decide) (by decide) (fun E d hd2 e1 e2 => ⟨by omega, by omega, ?_⟩) (fun E e he e1 e2 => ⟨by omega, by omega, ?_⟩)
          · rw [hd2] at h1'
            intro F hF G hG
            refine ⟨by omega, by omega, ?_⟩
            intro K hK
            rw [Int.toNat_natCast] at hF hG
            rw [hM, Int.toNat_natCast] at hK
            have g3 : G (σ + 3) M = (uN D M : Int) := by
              rw [hG, up2_ne (by omega), hF, up2_ne (by omega), e1.1 (σ + 3) (by omega), hC, up2_ne (by omega)]
              exact (sB.2.2.1 M hM6).2.2
            rw [g3] at hK
            have r8 : K (σ + 8) = setF (B (σ + 8)) (6 * J + nn) m.2 := by rw [hK, up2_ne (by omega), hG, up2_ne (by omega), hF, up2_ne (by omega), e1.1 _ (by omega), hC, up2_row]
            have r9 : K (σ + 9) = setF (B (σ + 9)) (6 * J + nn) d.2 := by rw [hK, up2_ne (by omega), hG, up2_ne (by omega), hF, up2_row, e1.1 _ (by omega), hC, up2_ne (by omega)]
            have r7 : K (σ + 7) = setF (B (σ + 7)) J ((nn : Int) + 1) := by rw [hK, up2_ne (by omega), hG, up2_row, hF, up2_ne (by omega), e1.1 _ (by omega), hC, up2_ne (by omega)]
            have r3 : K (σ + 3) = setF (B (σ + 3)) M ((uN D M : Int) + 1) := by rw [hK, up2_row, hG, up2_ne (by omega), hF, up2_ne (by omega), e1.1 _ (by omega), hC, up2_ne (by omega)]
            have ro : ∀ q, q ≠ 31 → q ≠ σ + 3 → q ≠ σ + 7 → q ≠ σ + 8 → q ≠ σ + 9 → K q = B q := fun q c0 c1 c2 c3 c4 => by rw [hK, up2_ne c1, hG, up2_ne c2, hF, up2_ne c4, e1.1 _ c0, hC, up2_ne c3]
            have tK2 : TK K T L d.1 := by rw [hK, hG, hF]; exact ((e2.u (by omega)).u (by omega)).u (by omega)
            have jK : jsF σ I K := ((a1.js.trans b1.js).trans (cB.trans e1.js)).trans (by rw [hK, hG, hF]; exact ((jsF.u hσ ⟨by omega, by omega⟩).trans (jsF.u hσ ⟨by omega, by omega⟩)).trans (jsF.u hσ ⟨by omega, by omega⟩))
            refine h1' K _ rfl jK tK2 ?_ (by rw [ro σ (by omega) (by omega) (by omega) (by omega) (by omega)]; exact bj)
            simp only
            rw [hnn, Int.toNat_natCast]
            -- the new draft
            have o1 : ∀ i, i ≠ 83 + 2 * (6 * J + nn) → i ≠ 83 + 2 * (6 * J + nn) + 1 → i ≠ 59 + 4 * J + 3 → setD (setD (setD D (83 + 2 * (6 * J + nn)) m.2) (83 + 2 * (6 * J + nn) + 1) d.2) (59 + 4 * J + 3) ((nn : Int) + 1) i = D i := fun i a b c => by rw [setD_ne c, setD_ne b, setD_ne a]
            have vm : setD (setD (setD D (83 + 2 * (6 * J + nn)) m.2) (83 + 2 * (6 * J + nn) + 1) d.2) (59 + 4 * J + 3) ((nn : Int) + 1) (83 + 2 * (6 * J + nn)) = m.2 := by rw [setD_ne (by omega), setD_ne (by omega), setD_eq]
            have vd : setD (setD (setD D (83 + 2 * (6 * J + nn)) m.2) (83 + 2 * (6 * J + nn) + 1) d.2) (59 + 4 * J + 3) ((nn : Int) + 1) (83 + 2 * (6 * J + nn) + 1) = d.2 := by rw [setD_ne (by omega), setD_eq]
            have vc : setD (setD (setD D (83 + 2 * (6 * J + nn)) m.2) (83 + 2 * (6 * J + nn) + 1) d.2) (59 + 4 * J + 3) ((nn : Int) + 1) (59 + 4 * J + 3) = (nn : Int) + 1 := setD_eq
            generalize setD (setD (setD D (83 + 2 * (6 * J + nn)) m.2) (83 + 2 * (6 * J + nn) + 1) d.2) (59 + 4 * J + 3) ((nn : Int) + 1) = X at o1 vm vd vc ⊢
            have cnt : ∀ j, j < 6 → j ≠ J → X (59 + 4 * j + 3) = D (59 + 4 * j + 3) := fun j hj6 hne => o1 _ (by omega) (by omega) (by omega)
            have isin : ∀ o, o < 36 → o ≠ 6 * J + nn → (((o % 6 : Nat) : Int) < X (59 + 4 * (o / 6) + 3) ↔ ((o % 6 : Nat) : Int) < D (59 + 4 * (o / 6) + 3)) := fun o ho6 hne => by
              by_cases e : o / 6 = J
              · rw [e, vc, hnn]; omega
              · rw [cnt _ (by omega) e]
            have uo : ∀ m2, m2 < 6 → uN X m2 = uN D m2 + (if m2 = M then 1 else 0) := by
              intro m2 hm2
              have oth : ∀ c, c < 36 → c ≠ 6 * J + nn → unB X m2 c = unB D m2 c := fun c hc hne => by
                unfold unB
                rw [o1 (83 + 2 * c) (by omega) (by omega) (by omega)]
                by_cases e : ((c % 6 : Nat) : Int) < X (59 + 4 * (c / 6) + 3)
                · rw [decide_eq_true e, decide_eq_true ((isin c hc hne).mp e)]
                · rw [decide_eq_false e, decide_eq_false (fun q => e ((isin c hc hne).mpr q))]
              have oldf : unB D m2 (6 * J + nn) = false := by
                unfold unB
                rw [show (6 * J + nn) / 6 = J by omega, show (6 * J + nn) % 6 = nn by omega, hnn, decide_eq_false (by omega)]
                rfl
              by_cases e : m2 = M
              · rw [if_pos e]
                have newt : unB X m2 (6 * J + nn) = true := by
                  unfold unB
                  rw [show (6 * J + nn) / 6 = J by omega, show (6 * J + nn) % 6 = nn by omega, vc, vm, decide_eq_true (by omega), e, hM]
                  simp
                -- counting over 36
                have := (cnt_flip (p := fun c => if c < 36 then unB X m2 c else false) (q := fun c => if c < 36 then unB D m2 c else false) (o := 6 * J + nn) (by rw [if_pos (by omega)]; exact newt) (by rw [if_pos (by omega)]; exact oldf) (fun c hne => by
                  by_cases hc : c < 36
                  · rw [if_pos hc, if_pos hc, oth c hc hne]
                  · rw [if_neg hc, if_neg hc]) 36).1 (by omega)
                rw [cnt_cong (r := unB D m2) 36 (fun c hc => if_pos hc), cnt_cong (r := unB X m2) 36 (fun c hc => if_pos hc)] at this
                exact this.symm
              · rw [if_neg e, Nat.add_zero]
                refine cnt_cong 36 (fun c hc => ?_)
                by_cases hne : c = 6 * J + nn
                · rw [hne, oldf]
                  unfold unB
                  rw [vm, hM]
                  have : ((M : Int) == (m2 : Int)) = false := by simp; omega
                  rw [this, Bool.and_false]
                · exact oth c hc hne
            refine ⟨by rw [ro σ (by omega) (by omega) (by omega) (by omega) (by omega), o1 0 (by omega) (by omega) (by omega)]; exact sB.1, by rw [ro σ (by omega) (by omega) (by omega) (by omega) (by omega), o1 1 (by omega) (by omega) (by omega)]; exact sB.2.1, fun m2 hm2 => ⟨?_, ?_, ?_⟩, fun j hj6 => ⟨?_, ?_, ?_, ?_⟩, fun o ho6 hlt => ?_⟩
            · rw [ro _ (by omega) (by omega) (by omega) (by omega) (by omega), o1 _ (by omega) (by omega) (by omega)]; exact (sB.2.2.1 m2 hm2).1
            · rw [ro _ (by omega) (by omega) (by omega) (by omega) (by omega), o1 _ (by omega) (by omega) (by omega)]; exact (sB.2.2.1 m2 hm2).2.1
            · rw [r3, uo m2 hm2]
              by_cases e : m2 = M
              · rw [e, setF_eq, if_pos rfl]; push_cast; rfl
              · rw [setF_ne e, if_neg e]; exact (sB.2.2.1 m2 hm2).2.2
            · rw [ro _ (by omega) (by omega) (by omega) (by omega) (by omega), o1 _ (by omega) (by omega) (by omega)]; exact (sB.2.2.2.1 j hj6).1
            · rw [ro _ (by omega) (by omega) (by omega) (by omega) (by omega), o1 _ (by omega) (by omega) (by omega)]; exact (sB.2.2.2.1 j hj6).2.1
            · rw [ro _ (by omega) (by omega) (by omega) (by omega) (by omega), o1 _ (by omega) (by omega) (by omega)]; exact (sB.2.2.2.1 j hj6).2.2.1
            · rw [r7]
              by_cases e : j = J
              · rw [e, setF_eq, vc]
              · rw [setF_ne e, cnt j hj6 e]; exact (sB.2.2.2.1 j hj6).2.2.2
            · rw [r8, r9]
              by_cases e : o = 6 * J + nn
              · rw [e, setF_eq, setF_eq, vm, vd]; exact ⟨rfl, rfl⟩
              · rw [setF_ne e, setF_ne e, o1 _ (by omega) (by omega) (by omega), o1 _ (by omega) (by omega) (by omega)]
                exact sB.2.2.2.2 o ho6 ((isin o ho6 e).mp hlt)
          · rw [he] at h0'
            intro F hF G hG
            refine ⟨by omega, by omega, ?_⟩
            intro K hK
            rw [Int.toNat_natCast] at hG
            have bE : BB E L σ e := by
              refine ⟨e2, by rw [e1.1 σ (by omega), hC, up2_ne (by omega), bj]; exact hjb, fun j hj6 => ?_⟩
              rw [e1.1 (σ + 7) (by omega), hC, up2_ne (by omega), (sB.2.2.2.1 j hj6).2.2.2]
              have := hD.2.1 j hj6
              omega
            have bG : BB G L σ e := by
              have bF : BB F L σ e := by rw [hF]; exact bE.u hσ ⟨by omega, by omega, by omega⟩
              refine ⟨by rw [hG]; exact bF.1.u (by omega), ?_⟩
              rw [hG]
              refine ⟨by rw [up2_ne (by omega)]; exact bF.2.1, fun j hj6 => ?_⟩
              rw [up2_row]
              by_cases q : j = J
              · rw [q, setF_eq]; omega
              · rw [setF_ne q]; exact bF.2.2 j hj6
            refine h0' K e rfl (((a1.js.trans b1.js).trans (cB.trans e1.js)).trans (by rw [hK, hG, hF]; exact ((jsF.u hσ ⟨by omega, by omega⟩).trans (jsF.u hσ ⟨by omega, by omega⟩)).trans (jsF.u hσ ⟨by omega, by omega⟩))) ?_
            rw [hK]
            exact bG.u hσ ⟨by omega, by omega, by omega⟩
        · rw [he] at h0'
          refine d_op0tail hr hσ hJ (sA.bad hD jA b2 b1 hσ) ⟨by omega, by omega⟩ (by decide) (fun K k1 k2 => h0' K e rfl ((a1.js.trans b1.js).trans k1) k2)
      rw [a2.2.2.2.2.2.2]
      refine ⟨⟨by omega, by omega⟩, fun y => ?_, fun y => ?_⟩
      · refine tail (fun m hm => ?_)
        exact absurd (tkK_num.mpr (numS_ok hm).1) y
      · have hd2 := tkK_num.mp y
        obtain ⟨v1, v2, v3⟩ := vl_cv hd2
        have hF : ∀ k : Nat, k < nn → A (σ + 8) (6 * J + k) = D (83 + 2 * (6 * J + k)) ∧ 0 ≤ D (83 + 2 * (6 * J + k)) ∧ D (83 + 2 * (6 * J + k)) ≤ 5 := fun k hk => by
          have := hD.2.2.1 (6 * J + k) (by omega)
          refine ⟨(sA.2.2.2.2 (6 * J + k) (by omega) (by rw [show (6 * J + k) / 6 = J by omega, show (6 * J + k) % 6 = k by omega]; omega)).1, this.1, this.2.1⟩
        refine d_valueOfToken hr a2 hd2 (d_needsAlready hr hh hJ (n := nn) (by rw [(sA.2.2.2.1 J hJ).2.2.2]; exact hnn) (by omega) (F := fun k => D (83 + 2 * (6 * J + k))) hF ⟨by omega, by omega⟩ (fun ⟨k, k1, k2⟩ => ⟨⟨by decide, by decide⟩, fun x => absurd x (by decide), fun _ => ?_⟩) (fun x => ⟨⟨by decide, by decide⟩, fun _ => tail (fun m hm => ?_), fun w => absurd rfl w⟩))
        · -- the machine is needed already
          obtain ⟨f1, f2, f3⟩ := hF k k1
          have lt0 := (hD.2.2.1 (6 * J + k) (by omega)).2.2.2.2 (by rw [show (6 * J + k) / 6 = J by omega, show (6 * J + k) % 6 = k by omega]; omega)
          have ev : vlE T L (spc T L p1) = D (83 + 2 * (6 * J + k)) := by omega
          have hm : numS T L p1 0 (D 0 - 1) = .ok (dgE T L (spc T L p1), vlE T L (spc T L p1)) := by
            unfold numS
            rw [if_pos hd2, pIf_t (by omega)]
          rw [hm] at h0'
          simp only [bnd] at h0'
          rw [pIf_t ⟨k, by omega, ev.symm⟩] at h0'
          refine d_fail hr a2 ⟨by decide, by decide, by decide⟩ (fun B b1 b2 => ?_)
          have bB := sA.bad hD jA b2 b1 hσ
          refine d_rd0 hr hσ bB (fun C c1 c2 => ?_)
          exact d_op0tail hr hσ hJ c2 ⟨by omega, by omega⟩ (by decide) (fun K k1 k2 => h0' K _ rfl ((a1.js.trans b1.js).trans (c1.trans k1)) k2)
        · rintro ⟨k, q1, q2⟩
          have := (numS_ok hm).2.2.1
          refine x ⟨k, by omega, ?_⟩
          show D (83 + 2 * (6 * J + k)) = _
          have f3 := (hF k (by omega)).2.2
          omega
    · have bA := hS.bad hD hjb a2 a1 hσ
      rw [a2.1]
      exact ⟨⟨by decide, by decide⟩, fun _ => d_rd0 hr hσ bA (fun B jB bB => d_op0tail hr hσ hJ bB ⟨by omega, by omega⟩ (by decide) (fun K k1 k2 => hn K w (a1.js.trans (jB.trans k1)) k2)), fun y => absurd y (by decide)⟩
  · have n6 : D (59 + 4 * J + 3) = 6 := by omega
    have w : WD T L 5 (spc T L p) := by rcases hw with q | q; exact q; omega
    refine d_fail hr h ⟨by decide, by decide, by decide⟩ (fun A a1 a2 => h0 A _ w ?_ a1.js (hS.bad hD hjb a2 a1 hσ))
    unfold opS
    rw [if_pos n6]
/-- the operations behind the first -/
theorem d_job71 (hr : LRead Γ P) (hh : LShop Γ P σ κ N) (hσ : 1000 ≤ σ) {J : Nat} (hJ : J < 6) {I0 : MM} : ∀ (n x : Nat) (I : MM) (D : Nat → Int) (p : Nat), TK I T L p → SHd I σ D → inR (I σ 1) → RDx D J → (J : Int) < D 2 → x + n = 6 → D (59 + 4 * J + 3) = (x : Int) + 1 → jsF σ I0 I →
    (∀ K r, opsS T L J n D p = .ok r → jsF σ I0 K → TK K T L r.1 → SHd K σ r.2 → K σ 1 = (J : Int) + 1 → Rv K) → (∀ K e, opsS T L J n D p = .error e → jsF σ I0 K → BB K L σ e → Rv K) → XM Γ m_X3_readJob 0 0 71 [(0, vR 31), (1, vR σ), (2, vI (J : Int)), (3, vI (x : Int))] [] P I (rv P Rv)
  | 0, x, I, D, p, h, hS, hj1, hD, hJ2, hx, hc, hF, h1, h0 => by have := hD.2.1 J hJ; omega
  | n + 1, x, I, D, p, h, hS, hj1, hD, hJ2, hx, hc, hF, h1, h0 => by
    unfold opsS at h1 h0
    have hge := h.sp
    refine t_X3_readJob_71 hr hh ⟨⟨by omega, by omega⟩, fun z => by omega, fun _ => ?_⟩
    refine d_isWord hr h (by decide) (fun w => ⟨⟨by decide, by decide⟩, fun z => absurd z (by decide), fun _ => ?_⟩) (fun w => ⟨⟨by decide, by decide⟩, fun _ => ?_, fun z => absurd rfl z⟩)
    · rw [pIf_t w] at h1 h0
      refine d_readOperation hr hh hσ h hS hj1 hD hJ hJ2 (Or.inl w) (fun K r _ hr2 k1 k2 k3 k4 => ?_) (fun K e _ he k1 k2 => ?_) (fun K nw _ _ => absurd w nw)
      · rw [hr2] at h1 h0
        obtain ⟨a, b, c, d, -, -⟩ := opS_ok hD hJ hr2 hJ2
        have := d_job71 hr hh hσ hJ n (x + 1) K r.2 r.1 k2 k3 (by rw [k4]; exact hj1) a (by rw [d 2 (Or.inl (by decide))]; exact hJ2) (by omega) (by rw [b, hc]; push_cast; rfl) (hF.trans k1) h1 h0
        push_cast at this
        exact this
      · rw [he] at h0
        refine t_X3_readJob_71 hr hh ⟨⟨by omega, by omega⟩, fun _ => ?_, fun _ => d_isWord0 hr k2.1 (by decide) ⟨⟨by decide, by decide⟩, fun _ => ?_, fun z => absurd rfl z⟩⟩
        · intro A hA
          refine h0 A e rfl ((hF.trans k1).trans (by rw [hA]; exact jsF.u hσ ⟨by omega, by omega⟩)) ⟨by rw [hA]; exact k2.1.u (by omega), by rw [hA]; exact ⟨by rw [up2_eq]; exact ⟨by omega, by omega⟩, fun j hj => by rw [up2_ne (by omega)]; exact k2.2.2 j hj⟩⟩
        · intro A hA
          refine h0 A e rfl ((hF.trans k1).trans (by rw [hA]; exact jsF.u hσ ⟨by omega, by omega⟩)) ⟨by rw [hA]; exact k2.1.u (by omega), by rw [hA]; exact ⟨by rw [up2_eq]; exact ⟨by omega, by omega⟩, fun j hj => by rw [up2_ne (by omega)]; exact k2.2.2 j hj⟩⟩
    · rw [pIf_f w, if_neg (by omega)] at h1
      intro A hA
      have fA : ∀ q, q ≠ σ → A q = I q := fun q hq => by rw [hA, up2_ne hq]
      have tA : TK A T L (spc T L p) := by
        rw [hA]
        have := h.u (r := σ) (i := 1) (v := (J : Int) + 1) (by omega)
        obtain ⟨a, b, c, d, e, f, g⟩ := this
        refine ⟨a, b, c, hge, by rw [spc_spc]; exact e, ?_, ?_⟩
        · rw [f]; unfold tkE; rw [spc_spc]
        · rw [g]; unfold tkK; rw [spc_spc]
      refine h1 A _ rfl (hF.trans (by rw [hA]; exact jsF.u hσ ⟨by omega, by omega⟩)) tA ?_ (by rw [hA, up2_eq])
      obtain ⟨s0, s2, s3, s4, s5⟩ := hS
      exact ⟨by rw [hA, up2_nj (by decide)]; exact s0, by rw [hA, up2_nj (by decide)]; exact s2, fun m hm => by rw [fA _ (by omega), fA _ (by omega), fA _ (by omega)]; exact s3 m hm, fun j hj => by rw [fA _ (by omega), fA _ (by omega), fA _ (by omega), fA _ (by omega)]; exact s4 j hj, fun o ho hlt => by rw [fA _ (by omega), fA _ (by omega)]; exact s5 o ho hlt⟩
theorem uN_cong {D E : Nat → Int} {m : Nat} (h : ∀ i, (59 ≤ i ∧ i < 155) → (∀ j, j < 6 → i = 59 + 4 * j + 3 → E i = D i) ∧ (83 ≤ i → E i = D i)) : uN E m = uN D m := by
  refine cnt_cong 36 (fun o ho => ?_)
  unfold unB
  rw [(h (59 + 4 * (o / 6) + 3) (by omega)).1 (o / 6) (by omega) rfl, (h (83 + 2 * o) (by omega)).2 (by omega)]
theorem SHd.job {A K : MM} (sA : SHd A σ D) (hσ : 1000 ≤ σ) {J : Nat} (hJ : D 2 = (J : Int)) (hJ6 : J < 6) {a b c : Int} (r4 : K (σ + 4) = setF (A (σ + 4)) J a) (r5 : K (σ + 5) = setF (A (σ + 5)) J b) (r6 : K (σ + 6) = setF (A (σ + 6)) J c) (ro : ∀ q, q ≠ 31 → q ≠ σ + 4 → q ≠ σ + 5 → q ≠ σ + 6 → K q = A q) : SHd K σ (jobW D a b c) := by
  have x2 : jobW D a b c = setD (setD (setD (setD D (59 + 4 * J) a) (59 + 4 * J + 1) b) (59 + 4 * J + 2) c) 2 ((J : Int) + 1) := by unfold jobW; rw [hJ, Int.toNat_natCast]
  have xo : ∀ i, i ≠ 2 → i ≠ 59 + 4 * J → i ≠ 59 + 4 * J + 1 → i ≠ 59 + 4 * J + 2 → jobW D a b c i = D i := fun i c0 c1 c2 c3 => by rw [x2, setD_ne c0, setD_ne c3, setD_ne c2, setD_ne c1]
  have xa : jobW D a b c (59 + 4 * J) = a := by rw [x2, setD_ne (by omega), setD_ne (by omega), setD_ne (by omega), setD_eq]
  have xb : jobW D a b c (59 + 4 * J + 1) = b := by rw [x2, setD_ne (by omega), setD_ne (by omega), setD_eq]
  have xc : jobW D a b c (59 + 4 * J + 2) = c := by rw [x2, setD_ne (by omega), setD_eq]
  generalize jobW D a b c = X at xo xa xb xc ⊢
  obtain ⟨s0, s2, s3, s4, s5⟩ := sA
  refine ⟨by rw [ro σ (by omega) (by omega) (by omega) (by omega), xo 0 (by decide) (by omega) (by omega) (by omega)]; exact s0, by rw [ro σ (by omega) (by omega) (by omega) (by omega), xo 1 (by decide) (by omega) (by omega) (by omega)]; exact s2, fun m hm => ?_, fun j hj => ?_, fun o ho hlt => ?_⟩
  · have hu : uN X m = uN D m := uN_cong (fun i hi => ⟨fun j hj e => xo i (by omega) (by omega) (by omega) (by omega), fun h8 => xo i (by omega) (by omega) (by omega) (by omega)⟩)
    rw [ro _ (by omega) (by omega) (by omega) (by omega), ro _ (by omega) (by omega) (by omega) (by omega), ro _ (by omega) (by omega) (by omega) (by omega), xo _ (by omega) (by omega) (by omega) (by omega), xo _ (by omega) (by omega) (by omega) (by omega), hu]
    exact s3 m hm
  · rw [r4, r5, r6, ro (σ + 7) (by omega) (by omega) (by omega) (by omega), xo (59 + 4 * j + 3) (by omega) (by omega) (by omega) (by omega)]
    by_cases e : j = J
    · rw [e, setF_eq, setF_eq, setF_eq, xa, xb, xc]
      exact ⟨rfl, rfl, rfl, (s4 J hJ6).2.2.2⟩
    · rw [setF_ne e, setF_ne e, setF_ne e, xo _ (by omega) (by omega) (by omega) (by omega), xo _ (by omega) (by omega) (by omega) (by omega), xo _ (by omega) (by omega) (by omega) (by omega)]
      exact s4 j hj
  · rw [xo _ (by omega) (by omega) (by omega) (by omega)] at hlt
    rw [ro _ (by omega) (by omega) (by omega) (by omega), ro _ (by omega) (by omega) (by omega) (by omega), xo _ (by omega) (by omega) (by omega) (by omega), xo _ (by omega) (by omega) (by omega) (by omega)]
    exact s5 o ho hlt
theorem d_readJob (hr : LRead Γ P) (hh : LShop Γ P σ κ N) (hσ : 1000 ≤ σ) (h : TK I T L p) (hw : WD T L 3 (spc T L p)) (hS : SHd I σ D) (hjb : I σ 1 = D 2) (hD : RDx D 6)
    (h1 : ∀ K r, jobS T L D (spc T L p + lenS.getD 3 0) (spc T L p) = .ok r → jsF σ I K → TK K T L r.1 → SHd K σ r.2 → K σ 1 = r.2 2 → Rv K)
    (h0 : ∀ K e, jobS T L D (spc T L p + lenS.getD 3 0) (spc T L p) = .error e → jsF σ I K → TKb K L e → Rv K) : Cl Γ m_X3_readJob [vR 31, vR σ] P I (rv P Rv) := by
  have hd := hD.1
  obtain ⟨J, hJ⟩ : ∃ J : Nat, D 2 = (J : Int) := ⟨(D 2).toNat, by omega⟩
  refine cl_of n_X3_readJob (Nat.le_of_ble_eq_true rfl) (t_X3_readJob_0 hr hh ?_)
  intro u hu
  rw [hjb, hJ] at hu
  rw [hu]
  refine ⟨⟨by omega, by omega⟩, fun z => ?_, fun z => ?_⟩
  · have hJ6 : J < 6 := by omega
    have n6 : ¬ D 2 = 6 := by omega
    refine d_take hr h (fun A a1 a2 => ?_)
    rw [tkE_WD (by decide) hw] at a2
    unfold jobS at h1 h0
    rw [if_neg n6] at h1 h0
    generalize hp1 : spc T L p + lenS.getD 3 0 = p1 at *
    have sA := hS.k hσ a1
    have jA : A σ 1 = (J : Int) := by rw [a1.1 σ (by omega), hjb]; exact hJ
    have inA : ∀ K : MM, K σ 1 = (J : Int) → inR (K σ 1) := fun K hK => by rw [hK]; exact ⟨by omega, by omega⟩
    -- what is left in an error
    have bt4 : ∀ (K : MM) (e : Er), jsF σ I K → BB K L σ e → (∀ M, jsF σ I M → TKb M L e → Rv M) → Cl Γ m_X3_readOperation [vR 31, vR σ, vI (J : Int)] P K (rv P (fun (I17 : MM) => XM Γ m_X3_readJob 0 0 71 [(0, vR 31), (1, vR σ), (2, vI (J : Int)), (3, vI 0)] [] P I17 (rv P Rv))) := by
      intro K e kF kB hR
      refine d_readOperation0 hr hh hσ hJ6 kB (fun M m1 m2 => ?_)
      refine t_X3_readJob_71 hr hh ⟨⟨by decide, by decide⟩, fun y => absurd y (by decide), fun _ => d_isWord0 hr m2.1 (by decide) ⟨⟨by decide, by decide⟩, fun _ => ?_, fun y => absurd rfl y⟩⟩
      intro B hB
      exact hR B ((kF.trans m1).trans (by rw [hB]; exact jsF.u hσ ⟨by omega, by omega⟩)) (by rw [hB]; exact m2.1.u (by omega))
    refine d_readNumber hr a2 (by decide) (by decide) (fun B a ha b1 b2 => ⟨by omega, by omega, ?_⟩) (fun B e he b1 b2 => ⟨by omega, by omega, ?_⟩)
    · rw [ha] at h1 h0
      simp only [bnd] at h1 h0
      intro C hC
      rw [Int.toNat_natCast] at hC
      have tC : TK C T L a.1 := by rw [hC]; exact b2.u (by omega)
      refine d_readNumber hr tC (by decide) (by decide) (fun E b hb e1 e2 => ?_) (fun E e he e1 e2 => ?_)
      · rw [hb] at h1 h0
        simp only at h1 h0
        intro F hF
        rw [Int.toNat_natCast] at hF
        have tF : TK F T L b.1 := by rw [hF]; exact e2.u (by omega)
        refine d_readNumber hr tF (by decide) (by decide) (fun G c hc g1 g2 => ?_) (fun G e he g1 g2 => ?_)
        · rw [hc] at h1 h0
          simp only at h1 h0
          obtain ⟨-, -, -, a3, a4, -, -⟩ := numS_ok ha
          obtain ⟨-, -, -, b3, b4, -, -⟩ := numS_ok hb
          obtain ⟨-, -, -, c3, c4, -, -⟩ := numS_ok hc
          obtain ⟨w1, w2, w3, w4, w5, w6⟩ := jobW_ok hD n6 ⟨a3, a4⟩ ⟨b3, b4⟩ ⟨c3, c4⟩
          rw [hJ, Int.toNat_natCast] at w1 w3 w4
          intro K hK
          rw [Int.toNat_natCast] at hK
          have r4 : K (σ + 4) = setF (A (σ + 4)) J a.2 := by rw [hK, up2_ne (by omega), g1.1 _ (by omega), hF, up2_ne (by omega), e1.1 _ (by omega), hC, up2_row, b1.1 _ (by omega)]
          have r5 : K (σ + 5) = setF (A (σ + 5)) J b.2 := by rw [hK, up2_ne (by omega), g1.1 _ (by omega), hF, up2_row, e1.1 _ (by omega), hC, up2_ne (by omega), b1.1 _ (by omega)]
          have r6 : K (σ + 6) = setF (A (σ + 6)) J c.2 := by rw [hK, up2_row, g1.1 _ (by omega), hF, up2_ne (by omega), e1.1 _ (by omega), hC, up2_ne (by omega), b1.1 _ (by omega)]
          have ro : ∀ q, q ≠ 31 → q ≠ σ + 4 → q ≠ σ + 5 → q ≠ σ + 6 → K q = A q := fun q c0 c1 c2 c3 => by rw [hK, up2_ne c3, g1.1 _ c0, hF, up2_ne c2, e1.1 _ c0, hC, up2_ne c1, b1.1 _ c0]
          have tK2 : TK K T L c.1 := by rw [hK]; exact g2.u (by omega)
          have jK : jsF σ I K := (((a1.js.trans b1.js).trans ((by rw [hC]; exact jsF.u hσ ⟨by omega, by omega⟩ : jsF σ B C).trans e1.js)).trans ((by rw [hF]; exact jsF.u hσ ⟨by omega, by omega⟩ : jsF σ E F).trans g1.js)).trans (by rw [hK]; exact jsF.u hσ ⟨by omega, by omega⟩)
          have kj : K σ 1 = (J : Int) := by rw [ro σ (by omega) (by omega) (by omega) (by omega)]; exact jA
          have sK : SHd K σ (jobW D a.2 b.2 c.2) := sA.job hσ hJ hJ6 r4 r5 r6 ro
          have h1'' : ∀ K r, opsS T L J 7 (jobW D a.2 b.2 c.2) c.1 = .ok r → jsF σ I K → TK K T L r.1 → SHd K σ r.2 → K σ 1 = r.2 2 → Rv K := fun K r hr2 => h1 K r (by show opsS T L (D 2).toNat 7 (jobW D a.2 b.2 c.2) c.1 = _; rw [hJ, Int.toNat_natCast]; exact hr2)
          have h0'' : ∀ K e, opsS T L J 7 (jobW D a.2 b.2 c.2) c.1 = .error e → jsF σ I K → TKb K L e → Rv K := fun K r hr2 => h0 K r (by show opsS T L (D 2).toNat 7 (jobW D a.2 b.2 c.2) c.1 = _; rw [hJ, Int.toNat_natCast]; exact hr2)
          unfold opsS at h1'' h0''
          have j2' : jobW D a.2 b.2 c.2 2 = (J : Int) + 1 := by rw [w6, hJ]
          refine d_readOperation hr hh hσ tK2 sK (inA K kj) w1 hJ6 w3 (Or.inr w4) (fun M r w hr2 m1 m2 m3 m4 => ?_) (fun M e w he m1 m2 => ?_) (fun M w m1 m2 => ?_)
          · rw [pIf_t w, hr2] at h1'' h0''
            obtain ⟨y1, y2, y3, y4, -, y6⟩ := opS_ok w1 hJ6 hr2 w3
            refine d_job71 hr hh hσ hJ6 6 0 M r.2 r.1 m2 m3 (by rw [m4]; exact inA K kj) y1 (by rw [y4 2 (Or.inl (by decide))]; exact w3) rfl (by rw [y2, w4]; rfl) (jK.trans m1) (fun X q hq x1 x2 x3 x4 => ?_) (fun X e he x1 x2 => h0'' X e he x1 x2.1)
            have := opsS_ok hJ6 6 r.2 r.1 q y1 (by rw [y4 2 (Or.inl (by decide))]; exact w3) (by rw [y2, w4]; rfl) y6 hq
            exact h1'' X q hq x1 x2 x3 (by rw [x4, this.2.1 2 (Or.inl (by decide)), y4 2 (Or.inl (by decide)), j2'])
          · rw [pIf_t w, he] at h0''
            refine t_X3_readJob_71 hr hh ⟨⟨by decide, by decide⟩, fun y => absurd y (by decide), fun _ => d_isWord0 hr m2.1 (by decide) ⟨⟨by decide, by decide⟩, fun _ => ?_, fun y => absurd rfl y⟩⟩
            intro X hX
            exact h0'' X e rfl ((jK.trans m1).trans (by rw [hX]; exact jsF.u hσ ⟨by omega, by omega⟩)) (by rw [hX]; exact m2.1.u (by omega))
          · rw [pIf_f w, if_pos w4] at h0''
            refine t_X3_readJob_71 hr hh ⟨⟨by decide, by decide⟩, fun y => absurd y (by decide), fun _ => d_isWord0 hr m2.1 (by decide) ⟨⟨by decide, by decide⟩, fun _ => ?_, fun y => absurd rfl y⟩⟩
            intro X hX
            exact h0'' X _ rfl ((jK.trans m1).trans (by rw [hX]; exact jsF.u hσ ⟨by omega, by omega⟩)) (by rw [hX]; exact m2.1.u (by omega))
        · rw [he] at h0
          intro K hK
          have bG : BB G L σ e := by
            refine ⟨g2, by rw [g1.1 σ (by omega), hF, up2_ne (by omega), e1.1 σ (by omega), hC, up2_ne (by omega), b1.1 σ (by omega)]; exact inA A jA, fun j hj => ?_⟩
            rw [g1.1 (σ + 7) (by omega), hF, up2_ne (by omega), e1.1 (σ + 7) (by omega), hC, up2_ne (by omega), b1.1 (σ + 7) (by omega), (sA.2.2.2.1 j hj).2.2.2]
            have := hD.2.1 j hj
            omega
          refine bt4 K e ((((a1.js.trans b1.js).trans ((by rw [hC]; exact jsF.u hσ ⟨by omega, by omega⟩ : jsF σ B C).trans e1.js)).trans ((by rw [hF]; exact jsF.u hσ ⟨by omega, by omega⟩ : jsF σ E F).trans g1.js)).trans (by rw [hK]; exact jsF.u hσ ⟨by omega, by omega⟩)) (by rw [hK]; exact bG.u hσ ⟨by omega, by omega, by omega⟩) (fun M m1 m2 => h0 M e rfl m1 m2)
      · rw [he] at h0
        intro F hF
        have bE : BB E L σ e := by
          refine ⟨e2, by rw [e1.1 σ (by omega), hC, up2_ne (by omega), b1.1 σ (by omega)]; exact inA A jA, fun j hj => ?_⟩
          rw [e1.1 (σ + 7) (by omega), hC, up2_ne (by omega), b1.1 (σ + 7) (by omega), (sA.2.2.2.1 j hj).2.2.2]
          have := hD.2.1 j hj
          omega
        have jF : jsF σ I F := ((a1.js.trans b1.js).trans ((by rw [hC]; exact jsF.u hσ ⟨by omega, by omega⟩ : jsF σ B C).trans e1.js)).trans (by rw [hF]; exact jsF.u hσ ⟨by omega, by omega⟩)
        have bF : BB F L σ e := by rw [hF]; exact bE.u hσ ⟨by omega, by omega, by omega⟩
        refine d_rd0 hr hσ bF (fun G g1 g2 => ?_)
        intro K hK
        exact bt4 K e ((jF.trans g1).trans (by rw [hK]; exact jsF.u hσ ⟨by omega, by omega⟩)) (by rw [hK]; exact g2.u hσ ⟨by omega, by omega, by omega⟩) (fun M m1 m2 => h0 M e rfl m1 m2)
    · rw [he] at h0
      intro C hC
      have bB : BB B L σ e := sA.bad hD (inA A jA) b2 b1 hσ
      have bC : BB C L σ e := by rw [hC]; exact bB.u hσ ⟨by omega, by omega, by omega⟩
      have jC : jsF σ I C := (a1.js.trans b1.js).trans (by rw [hC]; exact jsF.u hσ ⟨by omega, by omega⟩)
      refine d_rd0 hr hσ bC (fun E e1 e2 => ?_)
      intro F hF
      have bF : BB F L σ e := by rw [hF]; exact e2.u hσ ⟨by omega, by omega, by omega⟩
      refine d_rd0 hr hσ bF (fun G g1 g2 => ?_)
      intro K hK
      exact bt4 K e (((jC.trans e1).trans ((by rw [hF]; exact jsF.u hσ ⟨by omega, by omega⟩ : jsF σ E F).trans g1)).trans (by rw [hK]; exact jsF.u hσ ⟨by omega, by omega⟩)) (by rw [hK]; exact g2.u hσ ⟨by omega, by omega, by omega⟩) (fun M m1 m2 => h0 M e rfl m1 m2)
  · unfold jobS at h0
    rw [if_pos (by omega)] at h0
    exact d_fail hr h ⟨by decide, by decide, by decide⟩ (fun A a1 a2 => h0 A _ rfl a1.js a2)
end M3
