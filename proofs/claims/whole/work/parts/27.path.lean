/-! THE CRITICAL PATH: its operations, the last one first; the reference's findPath -/
def endN (D T : Nat → Int) (s : Int) : Nat → Int → Int
  | 0, o => o
  | j + 1, o => endN D T s j (if cmpF D T j = s then (lastP D j : Int) else o)
def endF (D T : Nat → Int) : Int := endN D T (spanF D T) (D 2).toNat (-1)
def nxtF (D T : Nat → Int) (o : Nat) : Int := if o % 6 = 0 then (if T o = D (59 + 4 * (o / 6)) then -1 else sD D o) else (if T (o - 1) + D (83 + 2 * (o - 1) + 1) = T o then (o : Int) - 1 else sD D o)
def pathL (D T : Nat → Int) : Nat → List Int → Int → List Int
  | 0, acc, _ => acc
  | n + 1, acc, o => if o = -1 ∨ o ∈ acc then acc else pathL D T n (o :: acc) (nxtF D T o.toNat)
def pathF (D T : Nat → Int) : List Int := pathL D T 36 [] (endF D T)
/-- the entry that was the k-th to come in -/
def getR : List Int → Nat → Int
  | [], _ => 0
  | v :: r, k => if k = r.length then v else getR r k
theorem stkR_get {A : Nat → Int} : ∀ {l : List Int}, stkR A l → ∀ k, k < l.length → A k = getR l k
  | [], _, k, hk => absurd hk (Nat.not_lt_zero _)
  | v :: r, h, k, hk => by
    unfold getR
    by_cases e : k = r.length
    · subst e; rw [if_pos rfl]; exact h.1
    · rw [if_neg e]
      refine stkR_get h.2 k ?_
      simp only [List.length_cons] at hk
      omega
theorem getR_mem : ∀ {l : List Int} {k : Nat}, k < l.length → getR l k ∈ l
  | [], k, hk => absurd hk (Nat.not_lt_zero _)
  | v :: r, k, hk => by
    unfold getR
    by_cases e : k = r.length
    · rw [if_pos e]; exact List.mem_cons_self
    · rw [if_neg e]
      refine List.mem_cons_of_mem _ (getR_mem ?_)
      simp only [List.length_cons] at hk
      omega
theorem mem_getR : ∀ {l : List Int} {v : Int}, v ∈ l → ∃ k, k < l.length ∧ getR l k = v
  | [], v, h => absurd h List.not_mem_nil
  | w :: r, v, h => by
    rcases List.mem_cons.mp h with rfl | q
    · exact ⟨r.length, by simp, by unfold getR; rw [if_pos rfl]⟩
    · obtain ⟨k, h1, h2⟩ := mem_getR q
      exact ⟨k, by simp only [List.length_cons]; omega, by unfold getR; rw [if_neg (by omega)]; exact h2⟩
/-- operations, each once -/
def opsL (D : Nat → Int) : List Int → Prop
  | [] => True
  | v :: r => 0 ≤ v ∧ vO D v.toNat ∧ ¬ v ∈ r ∧ opsL D r
theorem opsL_v {D : Nat → Int} : ∀ {l : List Int}, opsL D l → ∀ v, v ∈ l → 0 ≤ v ∧ vO D v.toNat
  | [], _, v, h => absurd h List.not_mem_nil
  | w :: r, h, v, hv => by
    rcases List.mem_cons.mp hv with rfl | q
    · exact ⟨h.1, h.2.1⟩
    · exact opsL_v h.2.2.2 v q
theorem opsL_cnt {D : Nat → Int} : ∀ {l : List Int}, opsL D l → cntF (fun o => decide ((o : Int) ∈ l)) 36 = l.length
  | [], _ => by
    have : ∀ n, cntF (fun o => decide ((o : Int) ∈ ([] : List Int))) n = 0 := fun n => by
      induction n with
      | zero => rfl
      | succ n ih =>
        simp only [cntF]
        rw [ih]
        simp
    rw [this]; rfl
  | v :: r, h => by
    obtain ⟨h1, h2, h3, h4⟩ := h
    have e : ((v.toNat : Nat) : Int) = v := by omega
    have := (cnt_flip (p := fun o => decide ((o : Int) ∈ v :: r)) (q := fun o => decide ((o : Int) ∈ r)) (o := v.toNat) (by rw [e]; simp) (by rw [e]; simpa using h3) (fun w hw => by
      have : (w : Int) ≠ v := fun q => hw (by omega)
      simp [this]) 36).1 h2.1
    rw [← this, opsL_cnt h4]
    rfl
theorem opsL_len {D : Nat → Int} {l : List Int} (h : opsL D l) : l.length ≤ 36 := by rw [← opsL_cnt h]; exact cnt_le _ 36
theorem opsL_lt {D : Nat → Int} {l : List Int} (h : opsL D l) {o : Int} (h0 : 0 ≤ o) (hv : vO D o.toNat) (hn : ¬ o ∈ l) : l.length < 36 := by
  have := opsL_len (l := o :: l) (D := D) ⟨h0, hv, hn, h⟩
  simp only [List.length_cons] at this
  omega
/-- an operation, or none -/
def opN (D : Nat → Int) (o : Int) : Prop := o = -1 ∨ (0 ≤ o ∧ vO D o.toNat)
theorem nxtF_ok {D T : Nat → Int} (hW : WR D) (hO : WO D) {o : Nat} (ho : vO D o) : opN D (nxtF D T o) := by
  have hs : opN D (sD D o) := by
    rcases ArcR.can hW hO o ho with q | ⟨q1, -, q2, -⟩
    · exact Or.inl q
    · exact Or.inr ⟨q1, q2⟩
  unfold nxtF
  split
  · split
    · exact Or.inl rfl
    · exact hs
  · rename_i h6
    split
    · refine Or.inr ⟨by omega, ?_⟩
      rw [show ((o : Int) - 1).toNat = o - 1 by omega]
      exact (vO_pred ho h6).1
    · exact hs
theorem endN_ok {D T : Nat → Int} {s : Int} (hW : WR D) : ∀ (j : Nat) (o : Int), (j : Int) ≤ D 2 → opN D o → opN D (endN D T s j o)
  | 0, o, _, h => h
  | j + 1, o, hj, h => by
    unfold endN
    refine endN_ok hW j _ (by omega) ?_
    split
    · refine Or.inr ⟨by omega, ?_⟩
      rw [Int.toNat_natCast]
      exact (lastP_v hW (j := j) (by omega)).1
    · exact h
theorem endF_ok {D T : Nat → Int} (hW : WR D) : opN D (endF D T) := endN_ok hW _ _ (by have := hW.a; omega) (Or.inl rfl)
theorem pathL_ok {D T : Nat → Int} (hW : WR D) (hO : WO D) : ∀ (n : Nat) (acc : List Int) (o : Int), opsL D acc → opN D o → opsL D (pathL D T n acc o)
  | 0, acc, o, h, _ => h
  | n + 1, acc, o, h, ho => by
    unfold pathL
    by_cases hc : o = -1 ∨ o ∈ acc
    · rw [if_pos hc]; exact h
    · rw [if_neg hc]
      rcases ho with q | ⟨q1, q2⟩
      · exact absurd (Or.inl q) hc
      · exact pathL_ok hW hO n _ _ ⟨q1, q2, fun z => hc (Or.inr z), h⟩ (nxtF_ok hW hO q2)
theorem pathF_ok {D T : Nat → Int} (hW : WR D) (hO : WO D) : opsL D (pathF D T) := pathL_ok hW hO _ _ _ trivial (endF_ok hW)
theorem endN_same {D T T' : Nat → Int} {s : Int} (hW : WR D) (h : ∀ o : Nat, vO D o → T o = T' o) : ∀ (j : Nat) (o : Int), (j : Int) ≤ D 2 → endN D T s j o = endN D T' s j o
  | 0, o, _ => rfl
  | j + 1, o, hj => by
    unfold endN
    rw [cmpF_same hW h (by omega)]
    exact endN_same hW h j _ (by omega)
theorem nxtF_same {D T T' : Nat → Int} (h : ∀ o : Nat, vO D o → T o = T' o) {o : Nat} (ho : vO D o) : nxtF D T o = nxtF D T' o := by
  unfold nxtF
  by_cases h6 : o % 6 = 0
  · rw [if_pos h6, if_pos h6, h o ho]
  · rw [if_neg h6, if_neg h6, h o ho, h _ (vO_pred ho h6).1]
theorem pathL_same {D T T' : Nat → Int} (hW : WR D) (hO : WO D) (h : ∀ o : Nat, vO D o → T o = T' o) : ∀ (n : Nat) (acc : List Int) (o : Int), opN D o → pathL D T n acc o = pathL D T' n acc o
  | 0, acc, o, _ => rfl
  | n + 1, acc, o, ho => by
    unfold pathL
    by_cases hc : o = -1 ∨ o ∈ acc
    · rw [if_pos hc, if_pos hc]
    · rw [if_neg hc, if_neg hc]
      rcases ho with q | ⟨q1, q2⟩
      · exact absurd (Or.inl q) hc
      · rw [nxtF_same h q2]
        exact pathL_same hW hO h n _ _ (nxtF_ok hW hO q2)
theorem pathF_same {D T T' : Nat → Int} (hW : WR D) (hO : WO D) (h : ∀ o : Nat, vO D o → T o = T' o) : pathF D T = pathF D T' := by
  have e : endF D T = endF D T' := by unfold endF; rw [spanF_same hW h]; exact endN_same hW h _ _ (by have := hW.a; omega)
  unfold pathF
  rw [e]
  exact pathL_same hW hO h _ _ _ (endF_ok hW)
noncomputable def pathX (D : Nat → Int) : List Int := pathF D (TD D)
section M1
variable {Γ : GG} {P : MP} {I : MM} {R : Int → MM → Prop} {Rv : MM → Prop}
theorem c_isOnPath (hM : LM Γ P) {acc : List Int} (hl : I 1 24 = (acc.length : Int)) (h36 : acc.length ≤ 36) (hs : stkR (I 12) acc) (hb : ∀ v, v ∈ acc → inR v) {o : Int} (ho : inR o) (h1 : o ∈ acc → R 1 I) (h0 : ¬ o ∈ acc → R 0 I) : Cl Γ m_X6_isOnPath [vR 1, vI o] P I (ri P R) := by
  have key : ∀ (n k : Nat), k + n = acc.length → (∀ k', k' < k → getR acc k' ≠ o) → XM Γ m_X6_isOnPath 0 0 2 [(0, vR 1), (1, vI o), (2, vI (k : Int))] [] P I (ri P R) := by
    intro n
    induction n with
    | zero =>
      intro k hk hn
      refine t_X6_isOnPath_2 hM ⟨⟨by omega, by omega⟩, ⟨by omega, by omega⟩, fun _ => h0 (fun q => ?_), fun q => absurd (by omega) q⟩
      obtain ⟨k2, g1, g2⟩ := mem_getR q
      exact hn k2 (by omega) g2
    | succ n ih =>
      intro k hk hn
      refine t_X6_isOnPath_2 hM ⟨⟨by omega, by omega⟩, ⟨by omega, by omega⟩, fun q => absurd q (by omega), fun _ => ⟨by omega, by omega, ?_⟩⟩
      rw [Int.toNat_natCast, stkR_get hs k (by omega)]
      have hm := getR_mem (l := acc) (k := k) (by omega)
      refine ⟨hb _ hm, ho, fun q => ih (k + 1) (by omega) (fun k' h => ?_), fun q => h1 (by rw [← q]; exact hm)⟩
      by_cases e : k' = k
      · rw [e]; exact q
      · exact hn k' (by omega)
  exact cl_of n_X6_isOnPath (Nat.le_of_ble_eq_true rfl) (t_X6_isOnPath_0 hM (key acc.length 0 (by omega) (fun k' h => absurd h (Nat.not_lt_zero _))))
/-- but for the path, nothing changes -/
def paOnly (I J : MM) : Prop := (∀ q : Nat, q ≠ 1 → q ≠ 12 → J q = I q) ∧ ∀ i : Nat, i ≠ 24 → J 1 i = I 1 i
theorem findPath_62 (hM : LM Γ P) (hW : WR (I 3)) (hO : WO (I 3)) (hA : ∀ o : Nat, vO (I 3) o → I 7 o = sD (I 3) o) (hT : TB (I 9)) {l : List Int}
    (h : ∀ J, paOnly I J → J 1 24 = (l.length : Int) → stkR (J 12) l → Rv J) : ∀ (n : Nat) (acc : List Int) (o : Int) (J : MM), acc.length + n = 36 → paOnly I J → opsL (I 3) acc → opN (I 3) o → J 1 24 = (acc.length : Int) → stkR (J 12) acc → l = pathL (I 3) (I 9) n acc o →
      XM Γ m_X6_findPath 0 0 62 [(0, vR 1), (1, vI 1), (2, vI o)] [] P J (rv P Rv) := by
  intro n
  induction n with
  | zero =>
    intro acc o J hn hJ ha ho h24 hs hl
    unfold pathL at hl
    subst hl
    have hor : inR o := by
      rcases ho with q | ⟨q1, q2⟩
      · rw [q]; exact ⟨by decide, by decide⟩
      · have := q2.1; exact ⟨by omega, by omega⟩
    refine t_X6_findPath_62 hM ⟨⟨by decide, by decide⟩, fun q => absurd q (by decide), fun _ => ⟨hor, fun _ => h J hJ h24 hs, fun q1 => ?_⟩⟩
    refine c_isOnPath hM h24 (by omega) hs (fun v hv => by have := opsL_v ha v hv; have h2 := this.2.1; exact ⟨by omega, by omega⟩) hor (fun _ => ⟨⟨by decide, by decide⟩, fun _ => h J hJ h24 hs, fun q => absurd q (by decide)⟩) (fun q => ?_)
    rcases ho with q2 | ⟨q2, q3⟩
    · exact absurd q2 q1
    · have := opsL_lt ha q2 q3 q
      omega
  | succ n ih =>
    intro acc o J hn hJ ha ho h24 hs hl
    unfold pathL at hl
    have hor : inR o := by
      rcases ho with q | ⟨q1, q2⟩
      · rw [q]; exact ⟨by decide, by decide⟩
      · have := q2.1; exact ⟨by omega, by omega⟩
    refine t_X6_findPath_62 hM ⟨⟨by decide, by decide⟩, fun q => absurd q (by decide), fun _ => ⟨hor, fun q => ?_, fun q1 => ?_⟩⟩
    · rw [if_pos (Or.inl q)] at hl
      subst hl
      exact h J hJ h24 hs
    · refine c_isOnPath hM h24 (by omega) hs (fun v hv => by have := opsL_v ha v hv; have h2 := this.2.1; exact ⟨by omega, by omega⟩) hor (fun q => ⟨⟨by decide, by decide⟩, fun _ => ?_, fun q => absurd q (by decide)⟩) (fun q => ?_)
      · rw [if_pos (Or.inr q)] at hl
        subst hl
        exact h J hJ h24 hs
      · rw [if_neg (by rintro (z | z); exact q1 z; exact q z)] at hl
        rcases ho with q2 | ⟨q2, q3⟩
        · exact absurd q2 q1
        · have h36 := q3.1
          have eo : ((o.toNat : Nat) : Int) = o := by omega
          have hc36 := opsL_lt ha q2 q3 q
          refine ⟨⟨by decide, by decide⟩, fun z => absurd rfl z, fun _ => ⟨by omega, by omega, ?_⟩⟩
          rw [h24, Int.toNat_natCast]
          rintro J1 hJ1 J2 hJ2
          have k3 : J2 3 = I 3 := by rw [hJ2, up2_ne (by decide), hJ1, up2_ne (by decide)]; exact hJ.1 3 (by decide) (by decide)
          have k9 : J2 9 = I 9 := by rw [hJ2, up2_ne (by decide), hJ1, up2_ne (by decide)]; exact hJ.1 9 (by decide) (by decide)
          have k7 : J2 7 = I 7 := by rw [hJ2, up2_ne (by decide), hJ1, up2_ne (by decide)]; exact hJ.1 7 (by decide) (by decide)
          have k24 : J2 1 24 = ((acc.length + 1 : Nat) : Int) := by rw [hJ2, up2_eq, hJ1, up2_ne (by decide), h24]; omega
          have kp : paOnly I J2 := by
            refine ⟨fun q hq1 hq2 => ?_, fun i hi => ?_⟩
            · rw [hJ2, up2_ne hq1, hJ1, up2_ne hq2]; exact hJ.1 q hq1 hq2
            · rw [hJ2, up2_nj hi, hJ1, up2_ne (by decide)]; exact hJ.2 i hi
          have ks : stkR (J2 12) (o :: acc) := by
            rw [hJ2, up2_ne (by decide), hJ1]
            exact ⟨up2_eq, stkR_of hs (fun k hk => up2_nj (by omega))⟩
          have go : XM Γ m_X6_findPath 0 0 62 [(0, vR 1), (1, vI 1), (2, vI (nxtF (I 3) (I 9) o.toNat))] [] P J2 (rv P Rv) :=
            ih (o :: acc) _ J2 (by rw [List.length_cons]; omega) kp ⟨q2, q3, q, ha⟩ (nxtF_ok hW hO q3) k24 ks hl
          have hsd := hA _ q3
          have htb := hT _ h36
          refine ⟨by omega, ⟨by omega, by omega⟩, fun q6 => ?_, fun q6 => ?_⟩
          · have h6 : o.toNat % 6 ≠ 0 := by omega
            have hp := vO_pred q3 h6
            have hp36 := hp.1.1
            have htp := hT _ hp36
            have hd := hW.2.2.1 _ hp36
            refine ⟨by omega, by omega, ?_⟩
            rw [show o - 1 = ((o.toNat - 1 : Nat) : Int) by omega]
            refine c_durationOf hM hp36 ?_
            rw [k3, k9, k7, Int.toNat_natCast]
            refine ⟨by omega, ⟨by omega, by omega⟩, ⟨by omega, by omega⟩, fun z => ?_, fun z => ?_⟩
            · intro u hu
              rw [hu, hsd]
              unfold nxtF at go
              rw [if_neg h6, if_neg z] at go
              exact go
            · intro u hu
              rw [hu]
              unfold nxtF at go
              rw [if_neg h6, if_pos z] at go
              rw [show ((o.toNat - 1 : Nat) : Int) = (o.toNat : Int) - 1 by omega]
              exact go
          · have h6 : o.toNat % 6 = 0 := by omega
            have hj := hW.2.1 (o.toNat / 6) (by omega)
            refine ⟨by omega, c_job ⟨by omega, by omega, ?_⟩⟩
            rw [show (59 + 4 * (o / 6)).toNat = 59 + 4 * (o.toNat / 6) by omega, k3, k9, k7]
            refine ⟨⟨by omega, by omega⟩, ⟨by omega, by omega⟩, fun z => ?_, fun z => ?_⟩
            · intro u hu
              rw [hu, hsd]
              unfold nxtF at go
              rw [if_pos h6, if_neg z] at go
              exact go
            · have e1 : l = o :: acc := by
                rw [hl]
                unfold nxtF
                rw [if_pos h6, if_pos z]
                match n with
                | 0 => rfl
                | n + 1 => unfold pathL; rw [if_pos (Or.inl rfl)]
              refine h J2 kp ?_ (by rw [e1]; exact ks)
              rw [e1, k24, List.length_cons]
theorem c_findPath (hM : LM Γ P) (hW : WR (I 3)) (hO : WO (I 3)) (hf : ∃ T, Stt (I 3) T)
    (h : ∀ J, (∀ q : Nat, q ≠ 1 → q ≠ 7 → q ≠ 8 → q ≠ 9 → q ≠ 12 → J q = I q) → (∀ i : Nat, i ≠ 24 → J 1 i = I 1 i) → J 1 24 = ((pathX (I 3)).length : Int) → stkR (J 12) (pathX (I 3)) → Rv J) : Cl Γ m_X6_findPath [vR 1] P I (rv P Rv) := by
  have ha := hW.a
  refine cl_of n_X6_findPath (Nat.le_of_ble_eq_true rfl) (t_X6_findPath_0 hM (k_findStarts hM hW hO (fun J h1 h2 h3 h4 => ?_) (fun J h1 h2 => absurd hf h2)))
  rintro A hA
  have a3 : A 3 = I 3 := by rw [hA, up2_ne (by decide)]; exact h1 3 (by decide) (by decide) (by decide)
  have a7 : A 7 = J 7 := by rw [hA, up2_ne (by decide)]
  have a9 : A 9 = J 9 := by rw [hA, up2_ne (by decide)]
  have fin : ∀ B, paOnly A B → B 1 24 = ((pathX (I 3)).length : Int) → stkR (B 12) (pathX (I 3)) → Rv B := fun B b1 b2 b3 => by
    refine h B (fun q q1 q7 q8 q9 q12 => ?_) (fun i hi => ?_) b2 b3
    · rw [b1.1 q q1 q12, hA, up2_ne q1]; exact h1 q q7 q8 q9
    · rw [b1.2 i hi, hA, up2_nj hi, h1 1 (by decide) (by decide) (by decide)]
  have key : ∀ (k : Nat) (o : Int), (k : Int) ≤ I 3 2 → opN (I 3) o → pathX (I 3) = pathL (I 3) (J 9) 36 [] (endN (I 3) (J 9) (spanF (I 3) (J 9)) k o) → XM Γ m_X6_findPath 0 0 21 [(0, vR 1), (1, vI 1), (2, vI o), (3, vI ((k : Int) - 1))] [] P A (rv P Rv) := by
    intro k
    induction k with
    | zero =>
      intro o hk ho he
      refine t_X6_findPath_21 hM ⟨⟨by omega, by omega⟩, fun _ => ?_, fun q => absurd (by omega) q⟩
      refine findPath_62 hM (by rw [a3]; exact hW) (by rw [a3]; exact hO) (by rw [a3, a7]; exact h2) (by rw [a9]; exact h4) (l := pathX (I 3)) fin 36 [] o A rfl ⟨fun _ _ _ => rfl, fun _ _ => rfl⟩ trivial (by rw [a3]; exact ho) (by rw [hA, up2_eq]; rfl) trivial ?_
      rw [a3, a9]
      exact he
    | succ k ih =>
      intro o hk ho he
      have hl := lastP_v hW (j := k) (by omega)
      have hc := cmpF_b hW (h4.v (D := I 3)) (j := k) (by omega)
      have hsb := spanF_b hW (h4.v (D := I 3))
      have h36 := hl.1.1
      refine t_X6_findPath_21 hM ⟨⟨by omega, by omega⟩, fun q => absurd q (by omega), fun _ => ?_⟩
      rw [show ((k + 1 : Nat) : Int) - 1 = (k : Int) by omega]
      refine c_completionOf hM (by rw [a3]; exact hW) (by rw [a3]; omega) (c_makespanOf hM (by rw [a3]; exact hW) (by rw [a3, a9]; exact h4.v) ?_)
      rw [a3, a9]
      unfold endN at he
      refine ⟨⟨by omega, by omega⟩, ⟨by omega, by omega⟩, fun q => ?_, fun q => c_job ⟨by omega, by omega, ?_⟩⟩
      · rw [if_neg q] at he
        exact ih o (by omega) ho he
      · rw [if_pos q] at he
        rw [a3, show (59 + 4 * (k : Int) + 3).toNat = 59 + 4 * k + 3 by omega]
        intro u hu
        rw [hu, ← hl.2.2.2]
        exact ih _ (by omega) (Or.inr ⟨by omega, by rw [Int.toNat_natCast]; exact hl.1⟩) he
  rw [a3]
  intro u hu
  rw [hu, show (I 3 2) - 1 = (((I 3 2).toNat : Nat) : Int) - 1 by omega]
  refine key (I 3 2).toNat (-1) (by omega) (Or.inl rfl) ?_
  unfold pathX
  rw [← pathF_same hW hO h3.td]
  rfl
end M1
