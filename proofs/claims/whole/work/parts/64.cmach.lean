/-! THE CLASS READS MACHINES AND THE HEAD -/
section M3
variable {Γ : GG} {P : MP} {I : MM} {R : Int → MM → Prop} {Rv : MM → Prop} {T : Nat → Int} {L p : Nat} {D : Nat → Int} {σ κ N : Nat}
theorem SHd.mach {A K : MM} (sA : SHd A σ D) (hσ : 1000 ≤ σ) {M : Nat} (hM : M < 6) {x c : Int} (r1 : K (σ + 1) = setF (A (σ + 1)) M x) (r2 : K (σ + 2) = setF (A (σ + 2)) M c) (ro : ∀ q, q ≠ 31 → q ≠ σ + 1 → q ≠ σ + 2 → K q = A q) : SHd K σ (setD (setD D (5 + 9 * M) x) (5 + 9 * M + 1) c) := by
  have xo : ∀ i, i ≠ 5 + 9 * M → i ≠ 5 + 9 * M + 1 → setD (setD D (5 + 9 * M) x) (5 + 9 * M + 1) c i = D i := fun i c0 c1 => by rw [setD_ne c1, setD_ne c0]
  have xa : setD (setD D (5 + 9 * M) x) (5 + 9 * M + 1) c (5 + 9 * M) = x := by rw [setD_ne (by omega), setD_eq]
  have xb : setD (setD D (5 + 9 * M) x) (5 + 9 * M + 1) c (5 + 9 * M + 1) = c := setD_eq
  generalize setD (setD D (5 + 9 * M) x) (5 + 9 * M + 1) c = X at xo xa xb ⊢
  obtain ⟨s0, s2, s3, s4, s5⟩ := sA
  refine ⟨by rw [ro σ (by omega) (by omega) (by omega), xo 0 (by omega) (by omega)]; exact s0, by rw [ro σ (by omega) (by omega) (by omega), xo 1 (by omega) (by omega)]; exact s2, fun m hm => ?_, fun j hj => ?_, fun o ho hlt => ?_⟩
  · have hu : uN X m = uN D m := uN_cong (fun i hi => ⟨fun j hj e => xo i (by omega) (by omega), fun h8 => xo i (by omega) (by omega)⟩)
    rw [r1, r2, ro (σ + 3) (by omega) (by omega) (by omega), hu]
    by_cases e : m = M
    · rw [e, setF_eq, setF_eq, xa, xb]
      exact ⟨rfl, rfl, (s3 M hM).2.2⟩
    · rw [setF_ne e, setF_ne e, xo _ (by omega) (by omega), xo _ (by omega) (by omega)]
      exact s3 m hm
  · rw [ro _ (by omega) (by omega) (by omega), ro _ (by omega) (by omega) (by omega), ro _ (by omega) (by omega) (by omega), ro _ (by omega) (by omega) (by omega), xo _ (by omega) (by omega), xo _ (by omega) (by omega), xo _ (by omega) (by omega), xo _ (by omega) (by omega)]
    exact s4 j hj
  · rw [xo _ (by omega) (by omega)] at hlt
    rw [ro _ (by omega) (by omega) (by omega), ro _ (by omega) (by omega) (by omega), xo _ (by omega) (by omega), xo _ (by omega) (by omega)]
    exact s5 o ho hlt
theorem d_readMachine (hr : LRead Γ P) (hh : LShop Γ P σ κ N) (hσ : 1000 ≤ σ) (h : TK I T L p) (hw : WD T L 4 (spc T L p)) (hS : SHd I σ D) (hD : RDx D 6)
    (h1 : ∀ K r, machS T L D (spc T L p + lenS.getD 4 0) = .ok r → jsF σ I K → TK K T L r.1 → SHd K σ r.2 → K σ = I σ → Rv K)
    (h0 : ∀ K e, machS T L D (spc T L p + lenS.getD 4 0) = .error e → jsF σ I K → TKb K L e → Rv K) : Cl Γ m_X3_readMachine [vR 31, vR σ] P I (rv P Rv) := by
  have hd := hD.1
  refine cl_of n_X3_readMachine (Nat.le_of_ble_eq_true rfl) (t_X3_readMachine_0 hr hh (d_take hr h (fun A a1 a2 => ?_)))
  rw [tkE_WD (by decide) hw] at a2
  unfold machS at h1 h0
  generalize spc T L p + lenS.getD 4 0 = p1 at *
  have sA := hS.k hσ a1
  rw [sA.1]
  -- behind an error: the writes
  have w2 : ∀ (B : MM) (e : Er) (v : Int), jsF σ I B → TKb B L e → (∀ M, jsF σ I M → TKb M L e → Rv M) → ∀ C : MM, C = up2 B (σ + 1) (0 : Int).toNat v → Cl Γ m_X3_readNumber [vR 31, vI 0, vI 99] P C (ri P (fun (z12 : Int) (I13 : MM) => (∀ I14 : MM, I14 = up2 I13 (σ + 2) (0 : Int).toNat z12 → Rv I14))) := by
    intro B e v jB tB hR C hC
    have tC : TKb C L e := by rw [hC]; exact tB.u (by omega)
    have jC : jsF σ I C := jB.trans (by rw [hC]; exact jsF.u hσ ⟨by omega, by omega⟩)
    refine d_readNumber0 hr tC (fun E e1 e2 => ?_)
    intro F hF
    exact hR F ((jC.trans e1.js).trans (by rw [hF]; exact jsF.u hσ ⟨by omega, by omega⟩)) (by rw [hF]; exact e2.u (by omega))
  refine d_readNumber hr a2 (by decide) (by omega) (fun B a ha b1 b2 => ?_) (fun B e he b1 b2 => ?_)
  · rw [ha] at h1 h0
    simp only [bnd] at h1 h0
    obtain ⟨-, -, -, m1, m2, -, -⟩ := numS_ok ha
    obtain ⟨M, hM⟩ : ∃ M : Nat, a.2 = (M : Int) := ⟨a.2.toNat, by omega⟩
    have hM6 : M < 6 := by omega
    refine d_readNumber hr b2 (by decide) (by decide) (fun C x hx c1 c2 => ?_) (fun C e he c1 c2 => ?_)
    · rw [hx] at h1 h0
      simp only at h1 h0
      obtain ⟨-, -, -, x1, x2, -, -⟩ := numS_ok hx
      have fin : ∀ v : Int, v = 1 - x.2 → ∀ E : MM, E = up2 C (σ + 1) (a.2).toNat v → Cl Γ m_X3_readNumber [vR 31, vI 0, vI 99] P E (ri P (fun (z12 : Int) (I13 : MM) => (∀ I14 : MM, I14 = up2 I13 (σ + 2) (a.2).toNat z12 → Rv I14))) := by
        intro v hv E hE
        rw [hM, Int.toNat_natCast] at hE
        have tE : TK E T L x.1 := by rw [hE]; exact c2.u (by omega)
        have jE : jsF σ I E := ((a1.js.trans b1.js).trans c1.js).trans (by rw [hE]; exact jsF.u hσ ⟨by omega, by omega⟩)
        refine d_readNumber hr tE (by decide) (by decide) (fun F c hc f1 f2 => ?_) (fun F e he f1 f2 => ?_)
        · rw [hc] at h1
          intro K hK
          rw [hM, Int.toNat_natCast] at hK
          have r1 : K (σ + 1) = setF (A (σ + 1)) M (1 - x.2) := by rw [hK, up2_ne (by omega), f1.1 _ (by omega), hE, up2_row, c1.1 _ (by omega), b1.1 _ (by omega), hv]
          have r2 : K (σ + 2) = setF (A (σ + 2)) M c.2 := by rw [hK, up2_row, f1.1 _ (by omega), hE, up2_ne (by omega), c1.1 _ (by omega), b1.1 _ (by omega)]
          have ro : ∀ q, q ≠ 31 → q ≠ σ + 1 → q ≠ σ + 2 → K q = A q := fun q q1 q2 q3 => by rw [hK, up2_ne q3, f1.1 _ q1, hE, up2_ne q2, c1.1 _ q1, b1.1 _ q1]
          have sK := sA.mach hσ hM6 r1 r2 ro
          refine h1 K _ rfl ((jE.trans f1.js).trans (by rw [hK]; exact jsF.u hσ ⟨by omega, by omega⟩)) (by rw [hK]; exact f2.u (by omega)) ?_ (by rw [ro σ (by omega) (by omega) (by omega), a1.1 σ (by omega)])
          simp only
          rw [hM, Int.toNat_natCast]
          exact sK
        · rw [he] at h0
          intro K hK
          exact h0 K e rfl ((jE.trans f1.js).trans (by rw [hK, hM]; exact jsF.u hσ ⟨by omega, by omega⟩)) (by rw [hK]; exact f2.u (by omega))
      exact ⟨⟨by omega, by omega⟩, fun z => ⟨by omega, by omega, fin 0 (by omega)⟩, fun z => ⟨by omega, by omega, fin 1 (by omega)⟩⟩
    · rw [he] at h0
      refine ⟨⟨by decide, by decide⟩, fun z => absurd rfl z, fun _ => ⟨by omega, by omega, ?_⟩⟩
      intro E hE
      have tE : TKb E L e := by rw [hE]; exact c2.u (by omega)
      have jE : jsF σ I E := ((a1.js.trans b1.js).trans c1.js).trans (by rw [hE, hM]; exact jsF.u hσ ⟨by omega, by omega⟩)
      refine d_readNumber0 hr tE (fun F f1 f2 => ?_)
      intro K hK
      exact h0 K e rfl ((jE.trans f1.js).trans (by rw [hK, hM]; exact jsF.u hσ ⟨by omega, by omega⟩)) (by rw [hK]; exact f2.u (by omega))
  · rw [he] at h0
    refine d_readNumber0 hr b2 (fun C c1 c2 => ?_)
    refine ⟨⟨by decide, by decide⟩, fun z => absurd rfl z, fun _ => ⟨by decide, by decide, ?_⟩⟩
    exact w2 C e 1 ((a1.js.trans b1.js).trans c1.js) c2 (fun M m1 m2 => h0 M e rfl m1 m2)
/-- a new shop -/
def SH0 (I : MM) (σ : Nat) : Prop := ∀ r i : Nat, σ ≤ r → r < σ + 10 → I r i = 0
theorem d_readHead (hr : LRead Γ P) (hh : LShop Γ P σ κ N) (hσ : 1000 ≤ σ) (h : TK I T L 0) (hS : SH0 I σ)
    (h1 : ∀ K (a b : Nat × Int) e, WD T L 7 (spc T L 0) → numS T L (spc T L 0 + lenS.getD 7 0) 1 6 = .ok a → numS T L a.1 0 1 = .ok b → expS T L b.1 59 = .ok e → jsF σ I K → TK K T L e → SHd K σ (hdW a.2 b.2) → K σ 1 = 0 → Rv K)
    (h0 : ∀ K e, (∀ f : Nat × Int → Nat × Int → Nat → Except Er ((Nat → Int) × List Int), pIf (WD T L 7 (spc T L 0)) (bnd (numS T L (spc T L 0 + lenS.getD 7 0) 1 6) (fun a => bnd (numS T L a.1 0 1) (fun b => bnd (expS T L b.1 59) (fun e => f a b e)))) (.error (-2, spc T L 0)) = .error e) → jsF σ I K → TKb K L e → inR (K σ 1) → Rv K) : Cl Γ m_X3_readHead [vR 31, vR σ] P I (rv P Rv) := by
  have i1 : I σ 1 = 0 := hS σ 1 (Nat.le_refl _) (by omega)
  have semi0 : ∀ (E : MM) (e : Er) (v : Int), jsF σ I E → TKb E L e → inR (E σ 1) → (∀ M, jsF σ I M → TKb M L e → inR (M σ 1) → Rv M) → ∀ F : MM, F = up2 E σ 2 v → Cl Γ m_X3_expect [vR 31, vI 59] P F (rv P (fun (I11 : MM) => Rv I11)) := by
    intro E e v jE tE nE hR F hF
    have tF : TKb F L e := by rw [hF]; exact tE.u (by omega)
    have jF : jsF σ I F := jE.trans (by rw [hF]; exact jsF.u hσ ⟨by omega, by omega⟩)
    refine d_expect0 hr tF (by decide) (fun M m1 m2 => hR M (jF.trans m1.js) m2 ?_)
    rw [m1.1 σ (by omega), hF, up2_nj (by decide)]
    exact nE
  have num0 : ∀ (B : MM) (e : Er) (v : Int), jsF σ I B → TKb B L e → inR (B σ 1) → (∀ M, jsF σ I M → TKb M L e → inR (M σ 1) → Rv M) → ∀ C : MM, C = up2 B σ 0 v → Cl Γ m_X3_readNumber [vR 31, vI 0, vI 1] P C (ri P (fun (z5 : Int) (I6 : MM) => (inR z5) ∧ ((z5 ≠ 1 → (∀ I10 : MM, I10 = up2 I6 σ 2 0 → (Cl Γ m_X3_expect [vR 31, vI 59] P I10 (rv P (fun (I11 : MM) => Rv I11))))) ∧ (z5 = 1 → (∀ I12 : MM, I12 = up2 I6 σ 2 1 → (Cl Γ m_X3_expect [vR 31, vI 59] P I12 (rv P (fun (I13 : MM) => Rv I13)))))))) := by
    intro B e v jB tB nB hR C hC
    have tC : TKb C L e := by rw [hC]; exact tB.u (by omega)
    have jC : jsF σ I C := jB.trans (by rw [hC]; exact jsF.u hσ ⟨by omega, by omega⟩)
    refine d_readNumber0 hr tC (fun E e1 e2 => ⟨⟨by decide, by decide⟩, fun _ => ?_, fun z => absurd z (by decide)⟩)
    exact semi0 E e 0 (jC.trans e1.js) e2 (by rw [e1.1 σ (by omega), hC, up2_nj (by decide)]; exact nB) hR
  refine cl_of n_X3_readHead (Nat.le_of_ble_eq_true rfl) (t_X3_readHead_0 hr hh (d_expectWord hr h (by decide) (fun A w a1 a2 => ?_) (fun A w a1 a2 => ?_)))
  · refine d_readNumber hr a2 (by decide) (by decide) (fun B a ha b1 b2 => ?_) (fun B e he b1 b2 => ?_)
    · intro C hC
      have tC : TK C T L a.1 := by rw [hC]; exact b2.u (by omega)
      have jC : jsF σ I C := (a1.js.trans b1.js).trans (by rw [hC]; exact jsF.u hσ ⟨by omega, by omega⟩)
      have cI : ∀ q i, σ ≤ q → q < σ + 10 → ¬ (q = σ ∧ i = 0) → C q i = 0 := fun q i q1 q2 q3 => by
        rw [hC]
        by_cases e : q = σ
        · rw [e, up2_nj (fun x => q3 ⟨e, x⟩), b1.1 σ (by omega), a1.1 σ (by omega)]; exact hS σ i (Nat.le_refl _) (by omega)
        · rw [up2_ne e, b1.1 q (by omega), a1.1 q (by omega)]; exact hS q i q1 q2
      refine d_readNumber hr tC (by decide) (by decide) (fun E b hb e1 e2 => ?_) (fun E e he e1 e2 => ?_)
      · obtain ⟨-, -, -, x1, x2, -, -⟩ := numS_ok hb
        have fin : ∀ v : Int, v = b.2 → ∀ F : MM, F = up2 E σ 2 v → Cl Γ m_X3_expect [vR 31, vI 59] P F (rv P (fun (I11 : MM) => Rv I11)) := by
          intro v hv F hF
          have tF : TK F T L b.1 := by rw [hF]; exact e2.u (by omega)
          have jF : jsF σ I F := (jC.trans e1.js).trans (by rw [hF]; exact jsF.u hσ ⟨by omega, by omega⟩)
          have f1 : F σ 1 = 0 := by rw [hF, up2_nj (by decide), e1.1 σ (by omega)]; exact cI σ 1 (Nat.le_refl _) (by omega) (by omega)
          refine d_expect hr tF (by decide) (by decide) (by decide) (fun K e he k1 k2 => ?_) (fun K e he k1 k2 => ?_)
          · refine h1 K a b e w ha hb he (jF.trans k1.js) k2 (SHd.k hσ ?_ k1) (by rw [k1.1 σ (by omega)]; exact f1)
            have ho : ∀ i, 2 ≤ i → hdW a.2 b.2 i = 0 := fun i hi => by unfold hdW; rw [setD_ne (by omega), setD_ne (by omega)]
            have hu : ∀ m, uN (hdW a.2 b.2) m = 0 := fun m => by
              have : ∀ n, n ≤ 36 → cntF (unB (hdW a.2 b.2) m) n = 0 := by
                intro n
                induction n with
                | zero => intro _; rfl
                | succ n ih =>
                  intro hn
                  simp only [cntF]
                  rw [ih (by omega)]
                  have : unB (hdW a.2 b.2) m n = false := by
                    unfold unB
                    rw [ho _ (by omega), decide_eq_false (by omega)]
                    rfl
                  rw [this]; rfl
              exact this 36 (Nat.le_refl _)
            have fq : ∀ q i, σ < q → q < σ + 10 → F q i = 0 := fun q i q1 q2 => by rw [hF, up2_ne (by omega), e1.1 q (by omega)]; exact cI q i (by omega) q2 (by omega)
            refine ⟨?_, ?_, fun m hm => ?_, fun j hj => ?_, fun o ho6 hlt => ?_⟩
            · rw [hF, up2_nj (by decide), e1.1 σ (by omega), hC, up2_eq]
              unfold hdW; rw [setD_ne (by decide), setD_eq]
            · rw [hF, up2_eq, hv]
              unfold hdW; rw [setD_eq]
            · rw [fq _ _ (by omega) (by omega), fq _ _ (by omega) (by omega), fq _ _ (by omega) (by omega), ho _ (by omega), ho _ (by omega), hu]; exact ⟨rfl, rfl, rfl⟩
            · rw [fq _ _ (by omega) (by omega), fq _ _ (by omega) (by omega), fq _ _ (by omega) (by omega), fq _ _ (by omega) (by omega), ho _ (by omega), ho _ (by omega), ho _ (by omega), ho _ (by omega)]; exact ⟨rfl, rfl, rfl, rfl⟩
            · rw [ho _ (by omega)] at hlt
              omega
          · refine h0 K e (fun f => by rw [pIf_t w, ha]; simp only [bnd]; rw [hb]; simp only; rw [he]) (jF.trans k1.js) k2 (by rw [k1.1 σ (by omega), f1]; exact ⟨by decide, by decide⟩)
        exact ⟨⟨by omega, by omega⟩, fun z => fin 0 (by omega), fun z => fin 1 (by omega)⟩
      · have n1 : inR (E σ 1) := by rw [e1.1 σ (by omega), cI σ 1 (Nat.le_refl _) (by omega) (by omega)]; exact ⟨by decide, by decide⟩
        refine ⟨⟨by decide, by decide⟩, fun _ => semi0 E e 0 (jC.trans e1.js) e2 n1 (fun M m1 m2 m3 => h0 M e (fun f => by rw [pIf_t w, ha]; simp only [bnd]; rw [he]) m1 m2 m3), fun z => absurd z (by decide)⟩
    · have n1 : inR (B σ 1) := by rw [b1.1 σ (by omega), a1.1 σ (by omega), i1]; exact ⟨by decide, by decide⟩
      exact num0 B e 1 (a1.js.trans b1.js) b2 n1 (fun M m1 m2 m3 => h0 M e (fun f => by rw [pIf_t w, he]; rfl) m1 m2 m3)
  · have n1 : inR (A σ 1) := by rw [a1.1 σ (by omega), i1]; exact ⟨by decide, by decide⟩
    refine d_readNumber0 hr a2 (fun B b1 b2 => ?_)
    exact num0 B _ 1 (a1.js.trans b1.js) b2 (by rw [b1.1 σ (by omega)]; exact n1) (fun M m1 m2 m3 => h0 M _ (fun f => by rw [pIf_f w]) m1 m2 m3)
end M3
