/-! THE CLASS'S settleSome, sizeOfRing, startTogether, settleRing -/
def atN (D : Nat → Int) (o : Nat) : Nat → Nat
  | 0 => o
  | i + 1 => (sD D (atN D o i)).toNat
theorem atN_add {D : Nat → Int} {o i : Nat} : ∀ d : Nat, atN D o (i + d) = atN D (atN D o i) d
  | 0 => rfl
  | d + 1 => by
    rw [show i + (d + 1) = i + d + 1 by omega]
    simp only [atN]
    rw [atN_add d]
def rgO (D F : Nat → Int) (o : Nat) : Prop := o % 6 ≠ 0 ∧ F (o - 1) ≠ 0 ∧ sD D o ≠ -1 ∧ lD D o = 0
def ring (D F : Nat → Int) (o z : Nat) : Prop := (∀ i : Nat, i < z → rgO D F (atN D o i)) ∧ atN D o z = o ∧ ∀ i : Nat, 0 < i → i < z → atN D o i ≠ o
theorem ring.dist {D F : Nat → Int} {o z : Nat} (h : ring D F o z) {i j : Nat} (hij : i < j) (hj : j < z) : atN D o i ≠ atN D o j := by
  intro e
  have h1 : atN D o (i + (z - j)) = o := by
    rw [atN_add, e, ← atN_add, show j + (z - j) = z by omega]; exact h.2.1
  exact h.2.2 (i + (z - j)) (by omega) (by omega) h1
theorem chain_v {D F : Nat → Int} (hA : ArcV D (sD D) (lD D)) {o : Nat} (ho : vO D o) : ∀ i : Nat, (∀ k, k < i → rgO D F (atN D o k)) → vO D (atN D o i) ∧ (i ≠ 0 → (sD D (atN D o (i - 1)) = (atN D o i : Int)))
  | 0, _ => ⟨ho, fun h => absurd rfl h⟩
  | i + 1, h => by
    have hv := (chain_v hA ho i (fun k hk => h k (by omega))).1
    rcases hA _ hv with y | ⟨y1, -, y3, -⟩
    · exact absurd y (h i (by omega)).2.2.1
    · refine ⟨y3, fun _ => ?_⟩
      rw [Nat.add_sub_cancel]
      simp only [atN]
      omega
/-- all of a ring are unsettled -/
theorem ring.un {D T F : Nat → Int} {B : Int} (hA : ArcV D (sD D) (lD D)) (hS : SI D T F B) {o z : Nat} (ho : vO D o) (hF : F o = 0) (h : ring D F o z) {i : Nat} (hi : i < z) : F (atN D o i) = 0 := by
  by_cases hz : F (atN D o i) = 0
  · exact hz
  · exfalso
    have key : ∀ d : Nat, i + d ≤ z → F (atN D o (i + d)) ≠ 0 := by
      intro d
      induction d with
      | zero => intro _; exact hz
      | succ d ih =>
        intro hd
        have hv := (chain_v hA ho (i + d) (fun k hk => h.1 k (by omega))).1
        exact (hS.2.2.2.1 _ hv (ih (by omega))).2.1 (h.1 (i + d) (by omega)).2.2.1
    have := key (z - i) (by omega)
    rw [show i + (z - i) = z by omega, h.2.1] at this
    exact this hF
def tmN (D T : Nat → Int) (o : Nat) : Nat → Int
  | 0 => 0
  | i + 1 => max (tmN D T o i) (esF D T (atN D o i))
theorem tmN_ge {D T : Nat → Int} {o : Nat} : ∀ z i : Nat, i < z → esF D T (atN D o i) ≤ tmN D T o z
  | 0, i, h => absurd h (Nat.not_lt_zero _)
  | z + 1, i, h => by
    simp only [tmN]
    by_cases e : i = z
    · rw [e]; omega
    · have := tmN_ge (D := D) (T := T) (o := o) z i (by omega); omega
theorem tmN_le {D T : Nat → Int} {o : Nat} {c : Int} (hc : 0 ≤ c) : ∀ z : Nat, (∀ i, i < z → esF D T (atN D o i) ≤ c) → tmN D T o z ≤ c
  | 0, _ => hc
  | z + 1, h => by
    simp only [tmN]
    have h1 := tmN_le hc z (fun i hi => h i (by omega))
    have h2 := h z (by omega)
    omega
theorem tmN_0 {D T : Nat → Int} {o : Nat} : ∀ z : Nat, 0 ≤ tmN D T o z
  | 0 => Int.le_refl _
  | z + 1 => by have := tmN_0 (D := D) (T := T) (o := o) z; simp only [tmN]; omega
theorem SI.mono {D T F : Nat → Int} {B B' : Int} (h : SI D T F B) (hB : B ≤ B') : SI D T F B' :=
  ⟨by have := h.1; omega, h.2.1, fun o ho => by have := h.2.2.1 o ho; omega, h.2.2.2⟩
/-- what is behind i updates of the ring -/
def rgU (D T F : Nat → Int) (o i : Nat) (tm : Int) (T' F' : Nat → Int) : Prop :=
  (∀ k : Nat, k < i → T' (atN D o k) = tm ∧ F' (atN D o k) = 1) ∧ ∀ c : Nat, (∀ k : Nat, k < i → atN D o k ≠ c) → T' c = T c ∧ F' c = F c
theorem SI.ring {D T F T' F' : Nat → Int} {B : Int} (hW : WR D) (hA : ArcV D (sD D) (lD D)) (h : SI D T F B) (h1 : D 1 ≠ 0) {o z : Nat} (ho : vO D o) (hF : F o = 0) (hr : ring D F o z) (hu : rgU D T F o z (tmN D T o z) T' F') : SI D T' F' (B + 300) := by
  obtain ⟨u1, u2⟩ := hu
  have hv : ∀ i, i < z → vO D (atN D o i) := fun i hi => (chain_v hA ho i (fun k hk => hr.1 k (by omega))).1
  have nS : ∀ c, F c ≠ 0 → ∀ k : Nat, k < z → atN D o k ≠ c := fun c hc k hk e => hc (by rw [← e]; exact hr.un hA h ho hF hk)
  have cases : ∀ c : Nat, (∃ k, k < z ∧ atN D o k = c) ∨ (∀ k : Nat, k < z → atN D o k ≠ c) := fun c => by
    by_cases e : ∃ k, k < z ∧ atN D o k = c
    · exact Or.inl e
    · exact Or.inr (fun k hk q => e ⟨k, hk, q⟩)
  have nxt : ∀ k, k < z → ∃ k2, k2 < z ∧ (sD D (atN D o k)).toNat = atN D o k2 := fun k hk => by
    by_cases e : k + 1 < z
    · exact ⟨k + 1, e, rfl⟩
    · refine ⟨0, by omega, ?_⟩
      have := hr.2.1
      rw [show z = k + 1 by omega] at this
      exact this
  have tb : tmN D T o z ≤ B + 300 := tmN_le (by have := h.1; omega) z (fun i hi => (esF_b hW hA h.1 h.2.2.1 (hv i hi)).2)
  have t0 := tmN_0 (D := D) (T := T) (o := o) z
  refine ⟨by have := h.1; omega, fun c hc => ?_, fun c hc => ?_, fun c hc hFc => ?_, fun T2 hT2 c hc => ?_, fun q => absurd q h1, fun c hc => ?_⟩
  · rcases cases c with ⟨k, hk, rfl⟩ | q
    · exact Or.inr (u1 k hk).2
    · rw [(u2 c q).2]; exact h.2.1 c hc
  · rcases cases c with ⟨k, hk, rfl⟩ | q
    · rw [(u1 k hk).1]; exact ⟨t0, tb⟩
    · rw [(u2 c q).1]; have := h.2.2.1 c hc; omega
  · rcases cases c with ⟨k, hk, rfl⟩ | q
    · obtain ⟨r1, r2, r3, r4⟩ := hr.1 k hk
      obtain ⟨k2, hk2, e2⟩ := nxt k hk
      have p1 := u2 _ (nS _ r2)
      refine ⟨fun _ => by rw [p1.2]; exact r2, fun _ => by rw [e2, (u1 k2 hk2).2]; decide, ?_⟩
      have hle := tmN_ge (D := D) (T := T) (o := o) z k hk
      rw [(u1 k hk).1]
      unfold needA baseA
      rw [if_neg r3, if_neg r1, p1.1, e2, (u1 k2 hk2).1, r4]
      unfold esF at hle
      rw [if_neg r1, if_neg r3] at hle
      omega
    · rw [(u2 c q).2] at hFc
      obtain ⟨g1, g2, g3⟩ := h.2.2.2.1 c hc hFc
      refine ⟨fun y => by rw [(u2 _ (nS _ (g1 y))).2]; exact g1 y, fun y => by rw [(u2 _ (nS _ (g2 y))).2]; exact g2 y, ?_⟩
      rw [(u2 c q).1, needA_cong (T := T) (fun y => (u2 _ (nS _ (g1 y))).1) (fun y => (u2 _ (nS _ (g2 y))).1)]
      exact g3
  · rcases cases c with ⟨k, hk, rfl⟩ | q
    · rw [(u1 k hk).1]
      have dn : ∀ i, i < z → T2 (atN D o (i + 1)) ≤ T2 (atN D o i) := fun i hi => by
        have hs := hT2 _ (hv i hi)
        obtain ⟨r1, r2, r3, r4⟩ := hr.1 i hi
        unfold needA at hs
        rw [if_neg r3, r4] at hs
        simp only [atN]
        omega
      have le1 : ∀ i, i ≤ z → T2 (atN D o i) ≤ T2 o := by
        intro i
        induction i with
        | zero => intro _; exact Int.le_refl _
        | succ i ih => intro hi; have := ih (by omega); have := dn i (by omega); omega
      have le2 : ∀ d, d ≤ z → T2 o ≤ T2 (atN D o (z - d)) := by
        intro d
        induction d with
        | zero => intro _; rw [Nat.sub_zero, hr.2.1]; exact Int.le_refl _
        | succ d ih =>
          intro hd
          have h3 := ih (by omega)
          have h4 := dn (z - (d + 1)) (by omega)
          rw [show z - (d + 1) + 1 = z - d by omega] at h4
          omega
      have e : T2 o ≤ T2 (atN D o k) := by have := le2 (z - k) (by omega); rwa [show z - (z - k) = k by omega] at this
      refine Int.le_trans (tmN_le (Int.le_trans (h.2.2.1 o ho).1 (h.2.2.2.2.1 T2 hT2 o ho)) z (fun i hi => ?_)) e
      exact Int.le_trans (esF_sol hW hA hT2 (h.2.2.2.2.1 T2 hT2) (hv i hi)) (le1 i (by omega))
    · rw [(u2 c q).1]; exact h.2.2.2.2.1 T2 hT2 c hc
  · rcases cases c with ⟨k, hk, rfl⟩ | q
    · rw [(u1 k hk).1]; exact Int.le_trans esF_rel (tmN_ge z k hk)
    · rw [(u2 c q).1]; exact h.2.2.2.2.2.2 c hc
section M2
variable {Γ : GG} {P : MP} {I : MM} {R : Int → MM → Prop} {Rv : MM → Prop} {cs : List Int} {D : Nat → Int} {q σ κ N : Nat}
theorem F_in {T F : Nat → Int} {B : Int} (h : SI D T F B) {o : Nat} (ho : vO D o) : inR (F o) := by
  rcases h.2.1 o ho with z | z <;> rw [z]
  · exact ⟨by decide, by decide⟩
  · exact ⟨by decide, by decide⟩
theorem lft_le {F : Nat → Int} : lft D F ≤ 36 := cnt_le _ 36
theorem d_settleSome (hR : CR Γ P I q σ κ N D cs) (hA : arcA I q D) {B : Int} (hS : SI D (I (q + 1)) (I (q + 4)) B) (hB : B ≤ 80000)
    (h0 : (∀ o : Nat, vO D o → I (q + 4) o = 0 → blkd (sD D) (I (q + 4)) o) → R 0 I)
    (h1 : ∀ (c : Nat) (J : MM), 1 ≤ c → stO q I J → SI D (J (q + 1)) (J (q + 4)) (B + 300 * c) → lft D (J (q + 4)) + c = lft D (I (q + 4)) → R (c : Int) J) : Cl Γ m_X2_settleSome [vR q] P I (ri P R) := by
  have hW := hR.wr
  have ha := hW.a
  have hAv := hR.av
  let ok : Nat → Nat → MM → Prop := fun c p J => stO q I J ∧ SI D (J (q + 1)) (J (q + 4)) (B + 300 * c) ∧ lft D (J (q + 4)) + c = lft D (I (q + 4)) ∧ (c = 0 → J = I ∧ ∀ o : Nat, o < p → vO D o → I (q + 4) o = 0 → blkd (sD D) (I (q + 4)) o)
  have more : ∀ (c p p2 : Nat) (J : MM), p ≤ p2 → (∀ o, p ≤ o → o < p2 → ¬ vO D o) → ok c p J → ok c p2 J := fun c p p2 J _ hn hk =>
    ⟨hk.1, hk.2.1, hk.2.2.1, fun e => ⟨(hk.2.2.2 e).1, fun o ho hv => by
      by_cases e2 : o < p
      · exact (hk.2.2.2 e).2 o e2 hv
      · exact absurd hv (hn o (by omega) ho)⟩⟩
  have lp20 : ∀ (j : Nat), (j : Int) < D 2 → (∀ (c : Nat) (J : MM), ok c (6 * (j + 1)) J → XM Γ m_X2_settleSome 0 0 4 [(0, vR q), (1, vI (c : Int)), (2, vI ((j : Int) + 1))] [] P J (ri P R)) → ∀ (n k c : Nat) (J : MM), (k : Int) + n = D (59 + 4 * j + 3) → ok c (6 * j + k) J → XM Γ m_X2_settleSome 0 0 20 [(0, vR q), (1, vI (c : Int)), (2, vI (j : Int)), (3, vI (k : Int))] [] P J (ri P R) := by
    intro j hj hX n
    have hjj := hW.2.1 j (by omega)
    induction n with
    | zero =>
      intro k c J hk hok
      have hC := hok.1.cr hR
      refine t_X2_settleSome_20 hR.s ⟨by omega, by omega, ⟨by omega, by omega⟩, ?_⟩
      rw [Int.toNat_natCast, hC.sh.ops hj]
      refine ⟨⟨by omega, by omega⟩, fun _ => hX c J (more c (6 * j + k) (6 * (j + 1)) J (by omega) (fun o h1 h2 => ?_) hok), fun z => absurd (by omega) z⟩
      have := not_vO (D := D) (j := j) (k := k) (i := o - (6 * j + k)) (by omega) (by omega)
      rwa [show 6 * j + k + (o - (6 * j + k)) = o by omega] at this
    | succ n ih =>
      intro k c J hk hok
      have hC := hok.1.cr hR
      have hv := is_vO hW hj (k := k) (by omega)
      have h36 := hv.1
      obtain ⟨k1, k2, k3, k4⟩ := hok
      have hAJ := k1.arc hA
      have hc36 : c ≤ 36 := by have := lft_le (D := D) (F := I (q + 4)); omega
      refine t_X2_settleSome_20 hR.s ⟨by omega, by omega, ⟨by omega, by omega⟩, ?_⟩
      rw [Int.toNat_natCast, hC.sh.ops hj]
      refine ⟨⟨by omega, by omega⟩, fun z => absurd z (by omega), fun _ => d_idOf ⟨by omega, by omega, ?_⟩⟩
      rw [Int.toNat_natCast]
      have skip : (c = 0 → I (q + 4) (6 * j + k) = 0 → blkd (sD D) (I (q + 4)) (6 * j + k)) → XM Γ m_X2_settleSome 0 0 20 [(0, vR q), (1, vI (c : Int)), (2, vI (j : Int)), (3, vI ((k : Int) + 1))] [] P J (ri P R) := fun hs => by
        refine ih (k + 1) c J (by omega) ⟨k1, k2, k3, fun e => ⟨(k4 e).1, fun o ho hvo => ?_⟩⟩
        by_cases e2 : o = 6 * j + k
        · rw [e2]; exact hs e
        · exact (k4 e).2 o (by omega) hvo
      refine ⟨F_in k2 hv, fun z => skip (fun e y => absurd (by rw [(k4 e).1]; exact y) z), fun z => ?_⟩
      refine d_isReady hC hAJ k2.2.1 hv (fun y => ⟨⟨by decide, by decide⟩, fun x => absurd x (by decide), fun _ => ?_⟩) (fun y => ⟨⟨by decide, by decide⟩, fun _ => skip (fun e _ => ?_), fun x => absurd rfl x⟩)
      · refine d_earliestStart hC hAJ ⟨k2.1, by omega⟩ k2.2.2.1 k2.2.2.2.2.2.2 hv ?_
        intro A hA2 E hE
        have fE : stO q J E := fun r a b => by rw [hE, up2_ne b, hA2, up2_ne a]
        have e1 : E (q + 1) = setF (J (q + 1)) (6 * j + k) (esF D (J (q + 1)) (6 * j + k)) := by rw [hE, up2_ne (by omega), hA2, up2_row]
        have e4 : E (q + 4) = setF (J (q + 4)) (6 * j + k) 1 := by rw [hE, up2_row, hA2, up2_ne (by omega)]
        have hl := lft_step hv z
        have := ih (k + 1) (c + 1) E (by omega) ⟨k1.trans fE, ?_, by rw [e4]; omega, fun e => absurd e (Nat.succ_ne_zero _)⟩
        · push_cast at this
          exact this
        · rw [e1, e4]
          have := k2.step hW hAv hv z y
          push_cast
          rwa [show B + 300 * ((c : Int) + 1) = B + 300 * (c : Int) + 300 by omega]
      · have := (k4 e).1
        rw [this] at y
        exact y
  have lp4 : ∀ (n j c : Nat) (J : MM), (j : Int) + n = D 2 → ok c (6 * j) J → XM Γ m_X2_settleSome 0 0 4 [(0, vR q), (1, vI (c : Int)), (2, vI (j : Int))] [] P J (ri P R) := by
    intro n
    induction n with
    | zero =>
      intro j c J hj hok
      have hC := hok.1.cr hR
      refine t_X2_settleSome_4 hR.s ⟨⟨by omega, by omega⟩, ?_⟩
      rw [hC.sh.2.1]
      refine ⟨⟨by omega, by omega⟩, fun _ => ?_, fun z => absurd (by omega) z⟩
      obtain ⟨k1, k2, k3, k4⟩ := more c (6 * j) 36 J (by omega) (fun o h1 _ h2 => by have := h2.2.1; omega) hok
      by_cases e : c = 0
      · obtain ⟨g1, g2⟩ := k4 e
        rw [e, g1]
        exact h0 (fun o ho => g2 o ho.1 ho)
      · exact h1 c J (by omega) k1 k2 k3
    | succ n ih =>
      intro j c J hj hok
      have hC := hok.1.cr hR
      refine t_X2_settleSome_4 hR.s ⟨⟨by omega, by omega⟩, ?_⟩
      rw [hC.sh.2.1]
      have hjj := hW.2.1 j (by omega)
      refine ⟨⟨by omega, by omega⟩, fun z => absurd z (by omega), fun _ => ?_⟩
      exact lp20 j (by omega) (fun c2 J2 a => ih (j + 1) c2 J2 (by omega) a) (D (59 + 4 * j + 3)).toNat 0 c J (by omega) hok
  refine cl_of n_X2_settleSome (Nat.le_of_ble_eq_true rfl) (t_X2_settleSome_0 hR.s ?_)
  exact lp4 (D 2).toNat 0 0 I (by omega) ⟨fun _ _ _ => rfl, by simpa using hS, rfl, fun _ => ⟨rfl, fun o ho => absurd ho (Nat.not_lt_zero _)⟩⟩
theorem d_sizeOfRing (hR : CR Γ P I q σ κ N D cs) (hA : arcA I q D) {B : Int} (hS : SI D (I (q + 1)) (I (q + 4)) B) {o : Nat} (ho : vO D o)
    (h1 : ∀ z : Nat, 1 ≤ z → z ≤ 36 → ring D (I (q + 4)) o z → R (z : Int) I) (h0 : (∀ z : Nat, 1 ≤ z → z ≤ 36 → ¬ ring D (I (q + 4)) o z) → R 0 I) : Cl Γ m_X2_sizeOfRing [vR q, vI (o : Int)] P I (ri P R) := by
  have hAv := hR.av
  have h36 := ho.1
  have lp : ∀ (n i : Nat), i + n = 36 → (∀ k, k < i → rgO D (I (q + 4)) (atN D o k)) → (∀ k, 0 < k → k ≤ i → atN D o k ≠ o) → XM Γ m_X2_sizeOfRing 0 0 4 [(0, vR q), (1, vI (o : Int)), (2, vI (atN D o i : Int)), (3, vI ((i : Int) + 1))] [] P I (ri P R) := by
    intro n
    induction n with
    | zero =>
      intro i hi hr hne
      exact t_X2_sizeOfRing_4 hR.s ⟨⟨by omega, by omega⟩, fun _ => h0 (fun z a b c => hne z (by omega) (by omega) c.2.1), fun z => absurd (by omega) z⟩
    | succ n ih =>
      intro i hi hr hne
      have hv := (chain_v hAv ho i hr).1
      have hv36 := hv.1
      obtain ⟨a1, a2⟩ := hA _ hv
      have bad : ¬ rgO D (I (q + 4)) (atN D o i) → R 0 I := fun hb => h0 (fun z a b c => by
        by_cases e : i < z
        · exact hb (c.1 i e)
        · exact hne z (by omega) (by omega) c.2.1)
      refine t_X2_sizeOfRing_4 hR.s ⟨⟨by omega, by omega⟩, fun z => absurd z (by omega), fun _ => ⟨⟨by omega, by omega⟩, by omega, ⟨by omega, by omega⟩, fun z => bad (fun y => y.1 (by omega)), fun z => ⟨by omega, by omega, ?_⟩⟩⟩
      rw [show ((atN D o i : Int) - 1).toNat = atN D o i - 1 by omega, Int.toNat_natCast, a1]
      have hp := (vO_pred hv (by omega)).1
      refine ⟨F_in hS hp, fun y => bad (fun x => x.2.1 y), fun y => ⟨by omega, ?_⟩⟩
      rcases hAv _ hv with x | ⟨x1, x2, x3, x4, x5⟩
      · rw [x]
        exact ⟨⟨by decide, by decide⟩, fun _ => bad (fun w => w.2.2.1 x), fun w => absurd (by decide) w⟩
      · rw [a2 (by omega)]
        refine ⟨⟨by omega, by omega⟩, fun w => by omega, fun _ => ⟨⟨by omega, by omega⟩, fun w => ?_, fun w => bad (fun v => by have := v.2.2.2; omega)⟩⟩
        intro u hu
        have eN : sD D (atN D o i) = (atN D o (i + 1) : Int) := by simp only [atN]; omega
        have hrg : rgO D (I (q + 4)) (atN D o i) := ⟨by omega, y, by omega, by omega⟩
        have hr2 : ∀ k, k < i + 1 → rgO D (I (q + 4)) (atN D o k) := fun k hk => by
          by_cases e : k = i
          · rw [e]; exact hrg
          · exact hr k (by omega)
        rw [hu, eN]
        refine ⟨⟨by omega, by omega⟩, ⟨by omega, by omega⟩, fun v => ?_, fun v => ?_⟩
        · have := ih (i + 1) (by omega) hr2 (fun k k0 hk => by
            by_cases e : k = i + 1
            · rw [e]; omega
            · exact hne k k0 (by omega))
          push_cast at this
          exact this
        · have := h1 (i + 1) (by omega) (by omega) ⟨hr2, by omega, fun k k0 hk => hne k k0 (by omega)⟩
          push_cast at this
          exact this
  refine cl_of n_X2_sizeOfRing (Nat.le_of_ble_eq_true rfl) (t_X2_sizeOfRing_0 hR.s ?_)
  exact lp 36 0 (by omega) (fun k hk => absurd hk (Nat.not_lt_zero _)) (fun k a b => by omega)
theorem d_startTogether (hR : CR Γ P I q σ κ N D cs) (hA : arcA I q D) {B : Int} (hS : SI D (I (q + 1)) (I (q + 4)) B) (hB : B ≤ 80000) (hD1 : D 1 ≠ 0) {o z : Nat} (ho : vO D o) (hF : I (q + 4) o = 0) (hz : z ≤ 36) (hr : ring D (I (q + 4)) o z)
    (h : ∀ J : MM, stO q I J → SI D (J (q + 1)) (J (q + 4)) (B + 300) → lft D (J (q + 4)) + z = lft D (I (q + 4)) → Rv J) : Cl Γ m_X2_startTogether [vR q, vI (o : Int), vI (z : Int)] P I (rv P Rv) := by
  have hAv := hR.av
  have hv : ∀ i, i ≤ z → vO D (atN D o i) := fun i hi => (chain_v hAv ho i (fun k hk => hr.1 k (by omega))).1
  have nx : ∀ i, i < z → sD D (atN D o i) = (atN D o (i + 1) : Int) := fun i hi => by
    have := (chain_v hAv ho (i + 1) (fun k hk => hr.1 k (by omega))).2 (Nat.succ_ne_zero _)
    rwa [Nat.add_sub_cancel] at this
  have tb : tmN D (I (q + 1)) o z ≤ B + 300 := tmN_le (by have := hS.1; omega) z (fun i hi => (esF_b hR.wr hAv hS.1 hS.2.2.1 (hv i (by omega))).2)
  have lp48 : ∀ (n i : Nat) (J : MM), i + n = z → stO q I J → rgU D (I (q + 1)) (I (q + 4)) o i (tmN D (I (q + 1)) o z) (J (q + 1)) (J (q + 4)) → lft D (J (q + 4)) + i = lft D (I (q + 4)) → XM Γ m_X2_startTogether 0 0 48 [(0, vR q), (2, vI (z : Int)), (3, vI (tmN D (I (q + 1)) o z)), (4, vI (atN D o i : Int)), (5, vI (i : Int))] [] P J (rv P Rv) := by
    intro n
    induction n with
    | zero =>
      intro i J hi hf hu hl
      refine t_X2_startTogether_48 hR.s ⟨⟨by omega, by omega⟩, ⟨by omega, by omega⟩, fun _ => ?_, fun y => absurd (by omega) y⟩
      have e : i = z := by omega
      rw [e] at hu hl
      exact h J hf (SI.ring hR.wr hAv hS hD1 ho hF hr hu) hl
    | succ n ih =>
      intro i J hi hf hu hl
      have hvi := hv i (by omega)
      have h36 := hvi.1
      refine t_X2_startTogether_48 hR.s ⟨⟨by omega, by omega⟩, ⟨by omega, by omega⟩, fun y => absurd y (by omega), fun _ => ⟨⟨by omega, by omega⟩, fun y => by omega, fun _ => ⟨by omega, by omega, ?_⟩⟩⟩
      intro A hA2 E hE u hu2
      rw [Int.toNat_natCast] at hA2 hE hu2
      have fE : stO q J E := fun r a b => by rw [hE, up2_ne b, hA2, up2_ne a]
      have e1 : E (q + 1) = setF (J (q + 1)) (atN D o i) (tmN D (I (q + 1)) o z) := by rw [hE, up2_ne (by omega), hA2, up2_row]
      have e4 : E (q + 4) = setF (J (q + 4)) (atN D o i) 1 := by rw [hE, up2_row, hA2, up2_ne (by omega)]
      have aE := (hf.trans fE).arc hA
      rw [hu2, (aE _ hvi).1, nx i (by omega)]
      have hFi : J (q + 4) (atN D o i) = 0 := by
        rw [(hu.2 _ (fun k hk => hr.dist hk (by omega))).2]
        exact hr.un hAv hS ho hF (by omega)
      have hl2 := lft_step hvi hFi
      have := ih (i + 1) E (by omega) (hf.trans fE) ⟨fun k hk => ?_, fun c hc => ?_⟩ (by rw [e4]; omega)
      · push_cast at this
        exact this
      · rw [e1, e4]
        by_cases e : k = i
        · rw [e, setF_eq, setF_eq]; exact ⟨rfl, rfl⟩
        · have hne := hr.dist (i := k) (j := i) (by omega) (by omega)
          rw [setF_ne hne, setF_ne hne]
          exact hu.1 k (by omega)
      · have hne : c ≠ atN D o i := fun e => hc i (by omega) e.symm
        rw [e1, e4, setF_ne hne, setF_ne hne]
        exact hu.2 c (fun k hk => hc k (by omega))
  have lp8 : ∀ (n i : Nat), i + n = z → XM Γ m_X2_startTogether 0 0 8 [(0, vR q), (2, vI (z : Int)), (3, vI (tmN D (I (q + 1)) o i)), (4, vI (atN D o i : Int)), (5, vI (i : Int))] [] P I (rv P Rv) := by
    intro n
    induction n with
    | zero =>
      intro i hi
      refine t_X2_startTogether_8 hR.s ⟨⟨by omega, by omega⟩, ⟨by omega, by omega⟩, fun _ => ?_, fun y => absurd (by omega) y⟩
      have e : i = z := by omega
      rw [e, hr.2.1]
      have := lp48 z 0 I (Nat.zero_add _) (fun _ _ _ => rfl) ⟨fun k hk => absurd hk (Nat.not_lt_zero _), fun c _ => ⟨rfl, rfl⟩⟩ rfl
      exact this
    | succ n ih =>
      intro i hi
      have hvi := hv i (by omega)
      have h36 := hvi.1
      have t0 := tmN_0 (D := D) (T := I (q + 1)) (o := o) i
      have ti : tmN D (I (q + 1)) o i ≤ B + 300 := tmN_le (by have := hS.1; omega) i (fun k hk => (esF_b hR.wr hAv hS.1 hS.2.2.1 (hv k (by omega))).2)
      have es := esF_b hR.wr hAv hS.1 hS.2.2.1 hvi
      refine t_X2_startTogether_8 hR.s ⟨⟨by omega, by omega⟩, ⟨by omega, by omega⟩, fun y => absurd y (by omega), fun _ => ⟨⟨by omega, by omega⟩, fun y => by omega, fun _ => ?_⟩⟩
      refine d_earliestStart hR hA ⟨hS.1, by omega⟩ hS.2.2.1 hS.2.2.2.2.2.2 hvi ⟨⟨by omega, by omega⟩, ⟨by omega, by omega⟩, ?_⟩
      intro u hu
      refine ⟨by omega, by omega, ?_⟩
      intro w hw
      rw [Int.toNat_natCast, (hA _ hvi).1, nx i (by omega)] at hw
      rw [hu, hw]
      have := ih (i + 1) (by omega)
      push_cast at this
      exact this
  refine cl_of n_X2_startTogether (Nat.le_of_ble_eq_true rfl) (t_X2_startTogether_0 hR.s ?_)
  exact lp8 z 0 (Nat.zero_add _)
theorem d_settleRing (hR : CR Γ P I q σ κ N D cs) (hA : arcA I q D) {B : Int} (hS : SI D (I (q + 1)) (I (q + 4)) B) (hB : B ≤ 80000) (hD1 : D 1 ≠ 0)
    (h0 : (∀ o : Nat, vO D o → I (q + 4) o = 0 → ∀ z : Nat, 1 ≤ z → z ≤ 36 → ¬ ring D (I (q + 4)) o z) → R 0 I)
    (h1 : ∀ (z : Nat) (J : MM), 1 ≤ z → stO q I J → SI D (J (q + 1)) (J (q + 4)) (B + 300) → lft D (J (q + 4)) + z = lft D (I (q + 4)) → R (z : Int) J) : Cl Γ m_X2_settleRing [vR q] P I (ri P R) := by
  have hW := hR.wr
  have ha := hW.a
  let ok : Nat → Prop := fun p => ∀ o : Nat, o < p → vO D o → I (q + 4) o = 0 → ∀ z : Nat, 1 ≤ z → z ≤ 36 → ¬ ring D (I (q + 4)) o z
  have more : ∀ (p p2 : Nat), (∀ o, p ≤ o → o < p2 → ¬ vO D o) → ok p → ok p2 := fun p p2 hn hk o ho hv => by
    by_cases e2 : o < p
    · exact hk o e2 hv
    · exact absurd hv (hn o (by omega) ho)
  have lp18 : ∀ (j : Nat), (j : Int) < D 2 → (ok (6 * (j + 1)) → XM Γ m_X2_settleRing 0 0 2 [(0, vR q), (1, vI ((j : Int) + 1))] [] P I (ri P R)) → ∀ (n k : Nat), (k : Int) + n = D (59 + 4 * j + 3) → ok (6 * j + k) → XM Γ m_X2_settleRing 0 0 18 [(0, vR q), (1, vI (j : Int)), (2, vI (k : Int))] [] P I (ri P R) := by
    intro j hj hX n
    have hjj := hW.2.1 j (by omega)
    induction n with
    | zero =>
      intro k hk hok
      refine t_X2_settleRing_18 hR.s ⟨by omega, by omega, ⟨by omega, by omega⟩, ?_⟩
      rw [Int.toNat_natCast, hR.sh.ops hj]
      refine ⟨⟨by omega, by omega⟩, fun _ => hX (more (6 * j + k) (6 * (j + 1)) (fun o h1 h2 => ?_) hok), fun z => absurd (by omega) z⟩
      have := not_vO (D := D) (j := j) (k := k) (i := o - (6 * j + k)) (by omega) (by omega)
      rwa [show 6 * j + k + (o - (6 * j + k)) = o by omega] at this
    | succ n ih =>
      intro k hk hok
      have hv := is_vO hW hj (k := k) (by omega)
      have h36 := hv.1
      refine t_X2_settleRing_18 hR.s ⟨by omega, by omega, ⟨by omega, by omega⟩, ?_⟩
      rw [Int.toNat_natCast, hR.sh.ops hj]
      refine ⟨⟨by omega, by omega⟩, fun z => absurd z (by omega), fun _ => d_idOf ⟨by omega, by omega, ?_⟩⟩
      rw [Int.toNat_natCast]
      have skip : (I (q + 4) (6 * j + k) = 0 → ∀ z : Nat, 1 ≤ z → z ≤ 36 → ¬ ring D (I (q + 4)) (6 * j + k) z) → XM Γ m_X2_settleRing 0 0 18 [(0, vR q), (1, vI (j : Int)), (2, vI ((k : Int) + 1))] [] P I (ri P R) := fun hs => by
        refine ih (k + 1) (by omega) (fun o ho hvo => ?_)
        by_cases e2 : o = 6 * j + k
        · rw [e2]; exact hs
        · exact hok o (by omega) hvo
      refine ⟨F_in hS hv, fun z => ?_, fun z => skip (fun y => absurd y z)⟩
      refine d_sizeOfRing hR hA hS hv (fun w w1 w2 w3 => ⟨⟨by omega, by omega⟩, fun y => by omega, fun _ => ?_⟩) (fun w => ⟨⟨by decide, by decide⟩, fun _ => skip (fun _ => w), fun y => absurd (by decide) y⟩)
      exact d_startTogether hR hA hS hB hD1 hv z w2 w3 (fun J a b c => h1 w J w1 a b c)
  have lp2 : ∀ (n j : Nat), (j : Int) + n = D 2 → ok (6 * j) → XM Γ m_X2_settleRing 0 0 2 [(0, vR q), (1, vI (j : Int))] [] P I (ri P R) := by
    intro n
    induction n with
    | zero =>
      intro j hj hok
      refine t_X2_settleRing_2 hR.s ⟨⟨by omega, by omega⟩, ?_⟩
      rw [hR.sh.2.1]
      refine ⟨⟨by omega, by omega⟩, fun _ => ?_, fun z => absurd (by omega) z⟩
      have := more (6 * j) 36 (fun o h1 _ h2 => by have := h2.2.1; omega) hok
      exact h0 (fun o ho => this o ho.1 ho)
    | succ n ih =>
      intro j hj hok
      refine t_X2_settleRing_2 hR.s ⟨⟨by omega, by omega⟩, ?_⟩
      rw [hR.sh.2.1]
      have hjj := hW.2.1 j (by omega)
      refine ⟨⟨by omega, by omega⟩, fun z => absurd z (by omega), fun _ => ?_⟩
      exact lp18 j (by omega) (fun a => ih (j + 1) (by omega) a) (D (59 + 4 * j + 3)).toNat 0 (by omega) hok
  refine cl_of n_X2_settleRing (Nat.le_of_ble_eq_true rfl) (t_X2_settleRing_0 hR.s ?_)
  exact lp2 (D 2).toNat 0 (by omega) (fun o ho => absurd ho (Nat.not_lt_zero _))
end M2
