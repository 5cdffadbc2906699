/-! THE CLASS'S critical path -/
theorem endN_none {D T : Nat → Int} {s : Int} : ∀ (n : Nat) (o : Int), (∀ j, j < n → cmpF D T j ≠ s) → endN D T s n o = o
  | 0, o, _ => rfl
  | n + 1, o, h => by
    unfold endN
    rw [if_neg (h n (by omega))]
    exact endN_none n o (fun j hj => h j (by omega))
theorem endN_first {D T : Nat → Int} {s : Int} {j : Nat} (h1 : ∀ i, i < j → cmpF D T i ≠ s) (h2 : cmpF D T j = s) : ∀ (n : Nat) (o : Int), j < n → endN D T s n o = (lastP D j : Int)
  | 0, o, h => absurd h (Nat.not_lt_zero _)
  | n + 1, o, h => by
    unfold endN
    by_cases e : j = n
    · subst e
      rw [if_pos h2]
      exact endN_none j _ h1
    · exact endN_first h1 h2 n _ (by omega)
section M2
variable {Γ : GG} {P : MP} {I : MM} {R : Int → MM → Prop} {Rv : MM → Prop} {cs : List Int} {D : Nat → Int} {q σ κ N : Nat}
theorem d_criticalEnd (hR : CR Γ P I q σ κ N D cs) (hT : TBc D (I (q + 1))) (h : R (endF D (I (q + 1))) I) : Cl Γ m_X2_criticalEnd [vR q] P I (ri P R) := by
  have ha := hR.wr.a
  have hs := spN_c hR.wr hT (D 2).toNat (by omega)
  have key : ∀ (n j : Nat), (j : Int) + n = D 2 → (∀ i, i < j → cmpF D (I (q + 1)) i ≠ spanF D (I (q + 1))) → XM Γ m_X2_criticalEnd 0 0 7 [(0, vR q), (1, vI (spanF D (I (q + 1)))), (2, vI (j : Int))] [] P I (ri P R) := by
    intro n
    unfold endF at h
    induction n with
    | zero =>
      intro j hj hn
      refine t_X2_criticalEnd_7 hR.s ⟨⟨by omega, by omega⟩, ?_⟩
      rw [hR.sh.2.1]
      refine ⟨⟨by omega, by omega⟩, fun _ => ?_, fun y => absurd (by omega) y⟩
      rwa [endN_none _ _ (fun i hi => hn i (by omega))] at h
    | succ n ih =>
      intro j hj hn
      have h2 := cmpF_c hR.wr hT (j := j) (by omega)
      refine t_X2_criticalEnd_7 hR.s ⟨⟨by omega, by omega⟩, ?_⟩
      rw [hR.sh.2.1]
      refine ⟨⟨by omega, by omega⟩, fun y => absurd y (by omega), fun _ => d_completionOf hR (by omega) ⟨⟨by omega, by omega⟩, by unfold spanF; exact ⟨by omega, by omega⟩, fun y => ?_, fun y => d_lastOf hR (by omega) ?_⟩⟩
      · have := ih (j + 1) (by omega) (fun i hi => by
          by_cases e : i = j
          · rw [e]; exact y
          · exact hn i (by omega))
        push_cast at this
        exact this
      · rwa [endN_first hn y _ _ (by omega)] at h
  exact cl_of n_X2_criticalEnd (Nat.le_of_ble_eq_true rfl) (t_X2_criticalEnd_0 hR.s (d_greatest hR hT (key (D 2).toNat 0 (by omega) (fun i hi => absurd hi (Nat.not_lt_zero _)))))
theorem d_isOnPath (hR : CR Γ P I q σ κ N D cs) {acc : List Int} (hl : I q 6 = (acc.length : Int)) (h36 : acc.length ≤ 36) (hs : stkR (I (q + 5)) acc) (hb : ∀ v, v ∈ acc → inR v) {o : Int} (ho : inR o) (h1 : o ∈ acc → R 1 I) (h0 : ¬ o ∈ acc → R 0 I) : Cl Γ m_X2_isOnPath [vR q, vI o] P I (ri P R) := by
  have key : ∀ (n k : Nat), k + n = acc.length → (∀ i, i < k → getR acc i ≠ o) → XM Γ m_X2_isOnPath 0 0 2 [(0, vR q), (1, vI o), (2, vI (k : Int))] [] P I (ri P R) := by
    intro n
    induction n with
    | zero =>
      intro k hk hn
      refine t_X2_isOnPath_2 hR.s ⟨⟨by omega, by omega⟩, ?_⟩
      rw [hl]
      refine ⟨⟨by omega, by omega⟩, fun _ => h0 (fun y => ?_), fun y => absurd (by omega) y⟩
      obtain ⟨i, i1, i2⟩ := mem_getR y
      exact hn i (by omega) i2
    | succ n ih =>
      intro k hk hn
      refine t_X2_isOnPath_2 hR.s ⟨⟨by omega, by omega⟩, ?_⟩
      rw [hl]
      refine ⟨⟨by omega, by omega⟩, fun y => absurd y (by omega), fun _ => ⟨by omega, by omega, ?_⟩⟩
      rw [Int.toNat_natCast, stkR_get hs k (by omega)]
      have hmem := getR_mem (l := acc) (k := k) (by omega)
      refine ⟨hb _ hmem, ho, fun y => ?_, fun y => h1 (by rw [← y]; exact hmem)⟩
      have := ih (k + 1) (by omega) (fun i hi => by
        by_cases e : i = k
        · rw [e]; exact y
        · exact hn i (by omega))
      push_cast at this
      exact this
  exact cl_of n_X2_isOnPath (Nat.le_of_ble_eq_true rfl) (t_X2_isOnPath_0 hR.s (key acc.length 0 (Nat.zero_add _) (fun i hi => absurd hi (Nat.not_lt_zero _))))
theorem d_criticalSource (hR : CR Γ P I q σ κ N D cs) (hT : TBc D (I (q + 1))) (hA : arcA I q D) {o : Nat} (ho : vO D o) (h : R (nxtF D (I (q + 1)) o) I) : Cl Γ m_X2_criticalSource [vR q, vI (o : Int)] P I (ri P R) := by
  have h36 := ho.1
  have ht := hT o ho
  have hj := hR.wr.2.1 (o / 6) (by omega)
  have hrel := (hR.sh.2.2.2.2.1 _ ho.2.1).1
  unfold nxtF at h
  refine cl_of n_X2_criticalSource (Nat.le_of_ble_eq_true rfl) (t_X2_criticalSource_0 hR.s ⟨⟨by omega, by omega⟩, by omega, ⟨by omega, by omega⟩, fun y => ?_, fun y => ⟨by omega, by omega, by omega, ?_⟩⟩)
  · have hp := (vO_pred ho (by omega)).1
    have ht2 := hT _ hp
    have hd := hR.wr.2.2.1 _ hp.1
    rw [if_neg (by omega)] at h
    rw [show (o : Int) - 1 = ((o - 1 : Nat) : Int) by omega]
    refine d_completedAt hR hp ⟨by omega, ⟨by omega, by omega⟩, ?_⟩
    rw [Int.toNat_natCast, (hA o ho).1]
    refine ⟨⟨by omega, by omega⟩, fun z => ?_, fun z => ?_⟩
    · rwa [if_neg z] at h
    · rw [if_pos z] at h
      rwa [show ((o - 1 : Nat) : Int) = (o : Int) - 1 by omega]
  · rw [if_pos (by omega)] at h
    rw [Int.toNat_natCast, show ((o : Int) / 6).toNat = o / 6 by omega, hrel, (hA o ho).1]
    refine ⟨⟨by omega, by omega⟩, ⟨by omega, by omega⟩, fun z => ?_, fun z => ?_⟩
    · rwa [if_neg z] at h
    · rwa [if_pos z] at h
/-- but for the path nothing changes -/
def ptO (q : Nat) (I J : MM) : Prop := (∀ r : Nat, r ≠ q → r ≠ q + 5 → J r = I r) ∧ ∀ i : Nat, i ≠ 6 → J q i = I q i
theorem ptO.cr {J : MM} (h : ptO q I J) (hR : CR Γ P I q σ κ N D cs) : CR Γ P J q σ κ N D cs := hR.keep (fun r hr => h.1 r (by omega) (by omega))
theorem ptO.trans {J K : MM} (h : ptO q I J) (k : ptO q J K) : ptO q I K := ⟨fun r a b => (k.1 r a b).trans (h.1 r a b), fun i a => (k.2 i a).trans (h.2 i a)⟩
theorem d_trace (hR : CR Γ P I q σ κ N D cs) (hS : SCr I q D) (h : ∀ J, ptO q I J → J q 6 = ((pathX D).length : Int) → stkR (J (q + 5)) (pathX D) → Rv J) : Cl Γ m_X2_traceCriticalPath [vR q] P I (rv P Rv) := by
  have hW := hR.wr
  have hO := hR.wo
  have hX : pathF D (I (q + 1)) = pathX D := pathF_same hW hO hS.1.td
  rw [← hX] at h
  have key : ∀ (n : Nat) (acc : List Int) (o : Int) (J : MM), acc.length + n = 36 → ptO q I J → J q 6 = (acc.length : Int) → stkR (J (q + 5)) acc → opsL D acc → opN D o → pathL D (I (q + 1)) n acc o = pathF D (I (q + 1)) → XM Γ m_X2_traceCriticalPath 0 0 12 [(0, vR q), (1, vI o), (2, vI (acc.length : Int))] [] P J (rv P Rv) := by
    intro n
    induction n with
    | zero =>
      intro acc o J hl hp h6 hs ho hn he
      refine t_X2_traceCriticalPath_12 hR.s ⟨⟨by omega, by omega⟩, fun _ => ?_, fun y => absurd (by omega) y⟩
      have e : acc = pathF D (I (q + 1)) := he
      rw [e] at h6 hs
      exact h J hp h6 hs
    | succ n ih =>
      intro acc o J hl hp h6 hs ho hn he
      have hC := hp.cr hR
      unfold pathL at he
      have hin : inR o := by
        rcases hn with y | ⟨y, z⟩
        · rw [y]; exact ⟨by decide, by decide⟩
        · have := z.1; exact ⟨by omega, by omega⟩
      refine t_X2_traceCriticalPath_12 hR.s ⟨⟨by omega, by omega⟩, fun y => absurd y (by omega), fun _ => ⟨hin, fun y => ?_, fun y => ?_⟩⟩
      · have : o = -1 := by
          rcases hn with z | ⟨z, -⟩
          · exact z
          · omega
        rw [if_pos (Or.inl this)] at he
        rw [he] at h6 hs
        exact h J hp h6 hs
      · have h0 : 0 ≤ o := by omega
        have hv : vO D o.toNat := by
          rcases hn with z | ⟨-, z⟩
          · omega
          · exact z
        have e1 : J (q + 1) = I (q + 1) := hp.1 (q + 1) (by omega) (by omega)
        refine d_isOnPath hC h6 (by omega) hs (fun v hv2 => ?_) hin (fun z => ⟨⟨by decide, by decide⟩, fun _ => ?_, fun x => absurd x (by decide)⟩) (fun z => ⟨⟨by decide, by decide⟩, fun x => absurd rfl x, fun _ => ⟨by omega, by omega, ?_⟩⟩)
        · have := opsL_v ho v hv2
          have h36 := this.2.1
          exact ⟨by omega, by omega⟩
        · rw [if_pos (Or.inr z)] at he
          rw [he] at h6 hs
          exact h J hp h6 hs
        · rw [if_neg (by rintro (x | x); omega; exact z x)] at he
          intro A hA B hB
          rw [Int.toNat_natCast] at hA
          have pB : ptO q J B := ⟨fun r a b => by rw [hB, up2_ne a, hA, up2_ne b], fun i a => by rw [hB, up2_nj a, hA, up2_ne (by omega)]⟩
          have hC2 := pB.cr hC
          have e2 : B (q + 1) = I (q + 1) := by rw [pB.1 (q + 1) (by omega) (by omega), e1]
          have aB : arcA B q D := fun u hu => by
            unfold arcO
            rw [pB.1 (q + 2) (by omega) (by omega), pB.1 (q + 3) (by omega) (by omega), hp.1 (q + 2) (by omega) (by omega), hp.1 (q + 3) (by omega) (by omega)]
            exact hS.2.2 u hu
          have := ih (o :: acc) (nxtF D (I (q + 1)) o.toNat) B (by rw [List.length_cons]; omega) (hp.trans pB) (by rw [hB, up2_eq, List.length_cons]; push_cast; rfl) ?_ ⟨h0, hv, z, ho⟩ (nxtF_ok hW hO hv) he
          · rw [List.length_cons] at this
            push_cast at this
            rw [show o = ((o.toNat : Nat) : Int) by omega]
            refine d_criticalSource hC2 (by rw [e2]; exact hS.2.1) aB hv ?_
            rw [e2]
            exact this
          · rw [hB, up2_ne (by omega), hA]
            exact ⟨up2_eq, stkR_of hs (fun k hk => up2_nj (by omega))⟩
  refine cl_of n_X2_traceCriticalPath (Nat.le_of_ble_eq_true rfl) (t_X2_traceCriticalPath_0 hR.s (by
    intro A hA
    have pA : ptO q I A := ⟨fun r a b => by rw [hA, up2_ne a], fun i a => by rw [hA, up2_nj a]⟩
    have e1 : A (q + 1) = I (q + 1) := pA.1 (q + 1) (by omega) (by omega)
    refine d_criticalEnd (pA.cr hR) (by rw [e1]; exact hS.2.1) ?_
    rw [e1]
    exact key 36 [] _ A rfl pA (by rw [hA, up2_eq]; rfl) trivial trivial (endF_ok hW) rfl))
/-- where the path is there -/
theorem d_continuesBlock (hR : CR Γ P I q σ κ N D cs) {l : List Int} (hl : opsL D l) (hs : stkR (I (q + 5)) l) {k : Nat} (hk : k < l.length) (h1 : k ≠ 0 → mcO D (getR l k).toNat = mcO D (getR l (k - 1)).toNat → R 1 I) (h0 : (k = 0 ∨ mcO D (getR l k).toNat ≠ mcO D (getR l (k - 1)).toNat) → R 0 I) : Cl Γ m_X2_continuesBlock [vR q, vI (k : Int)] P I (ri P R) := by
  have h36 := opsL_len hl
  have v1 := opsL_v hl _ (getR_mem (l := l) (k := k) hk)
  have v2 := opsL_v hl _ (getR_mem (l := l) (k := k - 1) (by omega))
  have a1 := v1.2.1
  have a2 := v2.2.1
  obtain ⟨m1, m2⟩ := mcO_lt hR.wr a1
  obtain ⟨m3, m4⟩ := mcO_lt hR.wr a2
  refine cl_of n_X2_continuesBlock (Nat.le_of_ble_eq_true rfl) (t_X2_continuesBlock_0 hR.s ⟨⟨by omega, by omega⟩, fun y => h0 (Or.inl (by omega)), fun y => ⟨by omega, by omega, ?_⟩⟩)
  rw [Int.toNat_natCast, show ((k : Int) - 1).toNat = k - 1 by omega, stkR_get hs k hk, stkR_get hs (k - 1) (by omega), hR.sh.2.2.2.2.2 _ v1.2, hR.sh.2.2.2.2.2 _ v2.2, m2, m4]
  exact ⟨by omega, by omega, by omega, by omega, by omega, by omega, ⟨by omega, by omega⟩, ⟨by omega, by omega⟩, fun z => h0 (Or.inr (by omega)), fun z => h1 (by omega) (by omega)⟩
end M2
