/-! THE REFERENCE'S QUESTIONS -/
def GD (D : Nat → Int) (cs : List Int) : Prop := WR D ∧ WO D ∧ RC D cs ∧ Fr D
def kpQ (I J : MM) : Prop := (∀ q : Nat, q ≠ 1 → q ≠ 7 → q ≠ 8 → q ≠ 9 → q ≠ 10 → q ≠ 11 → q ≠ 12 → J q = I q) ∧ (∀ i : Nat, i ≠ 0 → i ≠ 21 → i ≠ 22 → i ≠ 24 → J 1 i = I 1 i)
theorem kpQ.refl (I : MM) : kpQ I I := ⟨fun _ _ _ _ _ _ _ _ => rfl, fun _ _ _ _ _ => rfl⟩
theorem kpQ.trans {A B C : MM} (h : kpQ A B) (k : kpQ B C) : kpQ A C := ⟨fun q a b c d e f g => (k.1 q a b c d e f g).trans (h.1 q a b c d e f g), fun i a b c d => (k.2 i a b c d).trans (h.2 i a b c d)⟩
theorem kpQ.f {I : MM} {i : Nat} {v : Int} (h : i = 0 ∨ i = 21 ∨ i = 22 ∨ i = 24) : kpQ I (up2 I 1 i v) := ⟨fun q a _ _ _ _ _ _ => up2_ne a, fun j a b c d => up2_nj (by rcases h with rfl | rfl | rfl | rfl <;> assumption)⟩
theorem kpQ.of {I J : MM} (h : ∀ q : Nat, q ≠ 7 → q ≠ 8 → q ≠ 9 → q ≠ 10 → q ≠ 11 → q ≠ 12 → J q = I q) : kpQ I J := ⟨fun q _ b c d e f g => h q b c d e f g, fun i _ _ _ _ => by rw [h 1 (by decide) (by decide) (by decide) (by decide) (by decide) (by decide)]⟩
theorem asOnly.kp {I J : MM} (h : asOnly I J) : kpQ I J := kpQ.of (fun q a b c _ _ _ => h q a b c)
theorem trOnly.kp {I J : MM} (h : trOnly I J) : kpQ I J := kpQ.of (fun q a b c d _ _ => h q a b c d)
theorem skOnly.kp {I J : MM} (h : skOnly I J) : kpQ I J := kpQ.of (fun q _ _ _ _ e _ => h q e)
theorem kpQ.d {I J : MM} (h : kpQ I J) : J 3 = I 3 := h.1 3 (by decide) (by decide) (by decide) (by decide) (by decide) (by decide) (by decide)
def mOk (D : Nat → Int) (m : Int) : Prop := 0 ≤ m ∧ m < D 0
def jOk (D : Nat → Int) (j : Int) : Prop := 0 ≤ j ∧ j < D 2
def oOk (D : Nat → Int) (j k : Int) : Prop := jOk D j ∧ 0 ≤ k ∧ k < D (59 + 4 * j.toNat + 3)
def sOk (D : Nat → Int) (m p : Int) : Prop := mOk D m ∧ 0 ≤ p ∧ p + 1 < D (5 + 9 * m.toNat + 2)
def pOk (D : Nat → Int) (m p : Int) : Prop := mOk D m ∧ 0 ≤ p ∧ p < D (5 + 9 * m.toNat + 2)
theorem oOk.nat {D : Nat → Int} (hW : WR D) {j k : Int} (h : oOk D j k) : ∃ o : Nat, vO D o ∧ 6 * j + k = (o : Int) ∧ o / 6 = j.toNat ∧ o % 6 = k.toNat := by
  obtain ⟨⟨h1, h2⟩, h3, h4⟩ := h
  have ha := hW.a
  have hj := hW.2.1 j.toNat (by omega)
  have e1 : (6 * j + k).toNat / 6 = j.toNat := by omega
  have e2 : (6 * j + k).toNat % 6 = k.toNat := by omega
  refine ⟨(6 * j + k).toNat, ⟨by omega, by rw [e1]; omega, by rw [e1, e2]; omega⟩, by omega, e1, e2⟩
/-! bounds of the costs -/
theorem stF_b {D : Nat → Int} (hW : WR D) {j : Nat} (hj : j < 6) {x : Int} (hx : 0 ≤ x ∧ x ≤ 1000099) {st : List Int} (hb : bdS st) {c : Int} (hc : c ≤ 9999) : bdS (stF D j x st c) := by
  unfold stF
  by_cases h : -5 < c
  · rw [if_pos h]
    intro v hv
    rcases List.mem_cons.mp hv with e | q
    · rw [e]; exact valF_b hW hj hx ⟨h, hc⟩
    · exact hb v q
  · rw [if_neg h]
    split
    · intro v hv
      rcases List.mem_cons.mp hv with e | q
      · rw [e]; exact opF_b (hb _ (by simp))
      · exact hb v (by simp [q])
    · exact hb
theorem evF_b {D : Nat → Int} (hW : WR D) {j : Nat} (hj : j < 6) {x : Int} (hx : 0 ≤ x ∧ x ≤ 1000099) {cs : List Int} (hc : ∀ c, c ∈ cs → c ≤ 9999) : -1000099 ≤ evF D j x cs ∧ evF D j x cs ≤ 1000099 := by
  have key : ∀ (cs st : List Int), (∀ c, c ∈ cs → c ≤ 9999) → bdS st → bdS (cs.foldl (stF D j x) st) := by
    intro cs
    induction cs with
    | nil => intro st _ h; exact h
    | cons w ws ih =>
      intro st h1 h2
      exact ih _ (fun v hv => h1 v (List.mem_cons_of_mem _ hv)) (stF_b hW hj hx h2 (h1 w List.mem_cons_self))
  have h := key cs [] hc (fun v hv => absurd hv List.not_mem_nil)
  unfold evF
  cases he : cs.foldl (stF D j x) [] with
  | nil => simp
  | cons v r =>
    rw [he] at h
    exact h v List.mem_cons_self
theorem costF_b {D T : Nat → Int} {cs : List Int} (hW : WR D) (hC : RC D cs) (hT : TBv D T) {j : Nat} (hj : (j : Int) < D 2) : -1000099 ≤ costF D cs T j ∧ costF D cs T j ≤ 1000099 :=
  evF_b hW (by have := hW.a; omega) (cmpF_b hW hT hj) (fun c hc => (hC.1.1 c hc).2)
theorem sumN_b {D T : Nat → Int} {cs : List Int} (hW : WR D) (hC : RC D cs) (hT : TBv D T) : ∀ j : Nat, (j : Int) ≤ D 2 → -(1000099 * (j : Int)) ≤ sumN D cs T j ∧ sumN D cs T j ≤ 1000099 * (j : Int)
  | 0, _ => by simp [sumN]
  | j + 1, hj => by
    have h1 := sumN_b hW hC hT j (by omega)
    have h2 := costF_b hW hC hT (j := j) (by omega)
    simp only [sumN]
    push_cast
    omega
theorem sumF_b {D T : Nat → Int} {cs : List Int} (hW : WR D) (hC : RC D cs) (hT : TBv D T) : -6000594 ≤ sumF D cs T ∧ sumF D cs T ≤ 6000594 := by
  have ha := hW.a
  have := sumN_b hW hC hT (D 2).toNat (by omega)
  unfold sumF
  omega
/-! what questions answer -/
def bkN (D T : Nat → Int) (m : Nat) : Nat → Int
  | 0 => 0
  | k + 1 => bkN D T m k + (leaveF D T (oN D m k) - T (oN D m k) - D (83 + 2 * oN D m k + 1))
def bcN (D : Nat → Int) (l : List Int) : Nat → Int
  | 0 => 0
  | k + 1 => bcN D l k + (if k = 0 ∨ mcO D (getR l k).toNat ≠ mcO D (getR l (k - 1)).toNat then 1 else 0)
def lbN (D : Nat → Int) (l : List Int) : Nat → Int × Int
  | 0 => (0, 0)
  | k + 1 => if k = 0 ∨ mcO D (getR l k).toNat ≠ mcO D (getR l (k - 1)).toNat then (max (lbN D l k).1 1, 1) else (max (lbN D l k).1 ((lbN D l k).2 + 1), (lbN D l k).2 + 1)
def tlF (o : Nat) : Int := 10 * (o / 6 : Nat) + (o % 6 : Nat)
def ordN (D : Nat → Int) (m : Nat) : Nat → Int → Int
  | 0, v => v
  | k + 1, v => 31 * ordN D m k v + tlF (oN D m k)
def ordA (D : Nat → Int) : Nat → Int → Int
  | 0, v => v
  | m + 1, v => ordN D m (D (5 + 9 * m + 2)).toNat (ordA D m v)
def stN (D T : Nat → Int) : Nat → Int → Int
  | 0, v => v
  | o + 1, v => if vB D o then 31 * stN D T o v + T o else stN D T o v
def ckF (D : Nat → Int) (cs : List Int) (T : Nat → Int) : Int := stN D T 36 (ordA D (D 0).toNat (31 * spanF D T + sumF D cs T))
theorem stN_same {D T T' : Nat → Int} (h : ∀ o : Nat, vO D o → T o = T' o) : ∀ (n : Nat) (v : Int), n ≤ 36 → stN D T n v = stN D T' n v
  | 0, v, _ => rfl
  | n + 1, v, hn => by
    simp only [stN]
    rw [stN_same h n v (by omega)]
    cases hb : vB D n with
    | true => rw [h n ((vB_t (by omega)).mp hb)]
    | false => rfl
theorem ckF_same {D T T' : Nat → Int} {cs : List Int} (hW : WR D) (h : ∀ o : Nat, vO D o → T o = T' o) : ckF D cs T = ckF D cs T' := by
  unfold ckF
  rw [spanF_same hW h, sumF_same hW h, stN_same h _ _ (Nat.le_refl _)]
theorem leaveF_same {D T T' : Nat → Int} (hW : WR D) (h : ∀ o : Nat, vO D o → T o = T' o) {o : Nat} (ho : vO D o) : leaveF D T o = leaveF D T' o := by
  unfold leaveF
  cases hb : blB D o with
  | true => exact h _ (vO_succ hW ho (blB_t.mp hb).2).1
  | false => simp only [Bool.false_eq_true, if_false]; rw [h o ho]
theorem bkN_same {D T T' : Nat → Int} (hW : WR D) (hO : WO D) (h : ∀ o : Nat, vO D o → T o = T' o) {m : Nat} (hm : (m : Int) < D 0) : ∀ k : Nat, (k : Int) ≤ D (5 + 9 * m + 2) → bkN D T m k = bkN D T' m k
  | 0, _ => rfl
  | k + 1, hk => by
    have hv := (hO.1 m k hm (by omega)).1
    simp only [bkN]
    rw [bkN_same hW hO h hm k (by omega), leaveF_same hW h hv, h _ hv]
section M1
variable {Γ : GG} {P : MP} {I : MM} {R : Int → MM → Prop} {Rv : MM → Prop} {cs : List Int}
theorem c_fails0 (hM : LM Γ P) {e : Int} (h0 : I 1 0 = 0) (h : R 0 I) : Cl Γ m_X6_fails [vR 1, vI 0, vI e] P I (ri P R) :=
  cl_of n_X6_fails (Nat.le_of_ble_eq_true rfl) (t_X6_fails_0 hM ⟨⟨by decide, by decide⟩, fun _ => ⟨by rw [h0]; exact ⟨by decide, by decide⟩, fun _ => h, fun q => absurd h0 q⟩, fun q => absurd rfl q⟩)
theorem c_fails1 (hM : LM Γ P) {e : Int} (h0 : I 1 0 = 0) (he : e = 1 ∨ e = 2) (h : R 1 (up2 I 1 0 e)) : Cl Γ m_X6_fails [vR 1, vI 1, vI e] P I (ri P R) := by
  refine cl_of n_X6_fails (Nat.le_of_ble_eq_true rfl) (t_X6_fails_0 hM ⟨⟨by decide, by decide⟩, fun q => absurd q (by decide), fun _ => ⟨by rw [h0]; exact ⟨by decide, by decide⟩, fun q => absurd h0 q, fun _ => ?_⟩⟩)
  intro J hJ
  have e1 : J 1 0 = e := by rw [hJ]; exact up2_eq
  rw [e1, hJ]
  exact ⟨⟨by omega, by omega⟩, fun q => by omega, fun _ => h⟩
theorem c_noMachine (hM : LM Γ P) (hW : WR (I 3)) (h0 : I 1 0 = 0) {m : Int} (hm : inR m) (hy : mOk (I 3) m → R 0 I) (hn : ¬ mOk (I 3) m → R 1 (up2 I 1 0 1)) : Cl Γ m_X6_noMachine [vR 1, vI m] P I (ri P R) := by
  have ha := hW.a
  refine cl_of n_X6_noMachine (Nat.le_of_ble_eq_true rfl) (t_X6_noMachine_0 hM (c_in hm ⟨by decide, by decide⟩ ⟨by omega, by omega⟩ (fun q1 q2 => ?_) (fun q => ?_)))
  · exact ⟨⟨by decide, by decide⟩, fun _ => c_fails0 hM h0 ⟨Or.inl rfl, hy ⟨q1, by omega⟩⟩, fun q => absurd q (by decide)⟩
  · exact ⟨⟨by decide, by decide⟩, fun z => absurd rfl z, fun _ => c_fails1 hM h0 (Or.inl rfl) ⟨Or.inr rfl, hn (fun z => by have := z.1; have := z.2; omega)⟩⟩
theorem c_noJob (hM : LM Γ P) (hW : WR (I 3)) (h0 : I 1 0 = 0) {j : Int} (hj : inR j) (hy : jOk (I 3) j → R 0 I) (hn : ¬ jOk (I 3) j → R 1 (up2 I 1 0 1)) : Cl Γ m_X6_noJob [vR 1, vI j] P I (ri P R) := by
  have ha := hW.a
  refine cl_of n_X6_noJob (Nat.le_of_ble_eq_true rfl) (t_X6_noJob_0 hM (c_in hj ⟨by decide, by decide⟩ ⟨by omega, by omega⟩ (fun q1 q2 => ?_) (fun q => ?_)))
  · exact ⟨⟨by decide, by decide⟩, fun _ => c_fails0 hM h0 ⟨Or.inl rfl, hy ⟨q1, by omega⟩⟩, fun q => absurd q (by decide)⟩
  · exact ⟨⟨by decide, by decide⟩, fun z => absurd rfl z, fun _ => c_fails1 hM h0 (Or.inl rfl) ⟨Or.inr rfl, hn (fun z => by have := z.1; have := z.2; omega)⟩⟩
theorem c_noOperation (hM : LM Γ P) (hW : WR (I 3)) (h0 : I 1 0 = 0) {j k : Int} (hj : inR j) (hk : inR k) (hy : oOk (I 3) j k → R 0 I) (hn : ¬ oOk (I 3) j k → R 1 (up2 I 1 0 1)) : Cl Γ m_X6_noOperation [vR 1, vI j, vI k] P I (ri P R) := by
  have ha := hW.a
  refine cl_of n_X6_noOperation (Nat.le_of_ble_eq_true rfl) (t_X6_noOperation_0 hM (c_noJob hM hW h0 hj (fun q => ?_) (fun q => ?_)))
  · have hw := hW.2.1 j.toNat (by have := q.1; have := q.2; omega)
    have q1 := q.1
    refine ⟨⟨by decide, by decide⟩, fun z => absurd rfl z, fun _ => c_job ⟨by omega, by have := q.2; omega, ?_⟩⟩
    rw [show (59 + 4 * j + 3).toNat = 59 + 4 * j.toNat + 3 by omega]
    refine c_in hk ⟨by decide, by decide⟩ ⟨by omega, by omega⟩ (fun a b => ?_) (fun a => ?_)
    · exact ⟨⟨by decide, by decide⟩, fun _ => c_fails0 hM h0 ⟨⟨by decide, by decide⟩, fun _ => hy ⟨q, a, by omega⟩, fun z => absurd rfl z⟩, fun z => absurd z (by decide)⟩
    · exact ⟨⟨by decide, by decide⟩, fun z => absurd rfl z, fun _ => c_fails1 hM h0 (Or.inl rfl) ⟨⟨by decide, by decide⟩, fun z => absurd z (by decide), fun _ => hn (fun z => by have := z.2; omega)⟩⟩
  · exact ⟨⟨by decide, by decide⟩, fun _ => hn (fun z => q z.1), fun z => absurd z (by decide)⟩
theorem c_noSwap (hM : LM Γ P) (hW : WR (I 3)) (h0 : I 1 0 = 0) {m p : Int} (hm : inR m) (hp : inR p) (hy : sOk (I 3) m p → R 0 I) (hn : ¬ sOk (I 3) m p → R 1 (up2 I 1 0 1)) : Cl Γ m_X6_noSwap [vR 1, vI m, vI p] P I (ri P R) := by
  have ha := hW.a
  refine cl_of n_X6_noSwap (Nat.le_of_ble_eq_true rfl) (t_X6_noSwap_0 hM (c_noMachine hM hW h0 hm (fun q => ?_) (fun q => ?_)))
  · have hw := hW.2.2.2 m.toNat (by have := q.1; have := q.2; omega)
    have q1 := q.1
    refine ⟨⟨by decide, by decide⟩, fun z => absurd rfl z, fun _ => c_machine ⟨by omega, by have := q.2; omega, ?_⟩⟩
    rw [show (5 + 9 * m + 2).toNat = 5 + 9 * m.toNat + 2 by omega]
    refine c_in hp ⟨by decide, by decide⟩ ⟨by omega, by omega⟩ (fun a b => ?_) (fun a => ?_)
    · exact ⟨⟨by decide, by decide⟩, fun _ => c_fails0 hM h0 ⟨⟨by decide, by decide⟩, fun _ => hy ⟨q, a, by omega⟩, fun z => absurd rfl z⟩, fun z => absurd z (by decide)⟩
    · exact ⟨⟨by decide, by decide⟩, fun z => absurd rfl z, fun _ => c_fails1 hM h0 (Or.inl rfl) ⟨⟨by decide, by decide⟩, fun z => absurd z (by decide), fun _ => hn (fun z => by have := z.2; omega)⟩⟩
  · exact ⟨⟨by decide, by decide⟩, fun _ => hn (fun z => q z.1), fun z => absurd z (by decide)⟩
/-- behind the first row of a public method -/
theorem th0 {v : Int} : (up2 I 1 0 v) 1 0 = v := up2_eq
theorem th3 {v : Int} : (up2 I 1 0 v) 3 = I 3 := up2_ne (by decide)
theorem up22 {a i : Nat} {v w : Int} : up2 (up2 I a i v) a i w = up2 I a i w := by
  funext b j
  unfold up2
  by_cases h : b = a
  · by_cases h2 : j = i
    · simp [h, h2]
    · simp [h, h2]
  · simp [h]
abbrev K0 (I : MM) (t : Int) (J : MM) : Prop := kpQ I J ∧ J 1 0 = t
theorem K0.mk {t : Int} : K0 I t (up2 I 1 0 t) := ⟨kpQ.f (Or.inl rfl), up2_eq⟩
theorem K0.mk2 {v t : Int} : K0 I t (up2 (up2 I 1 0 v) 1 0 t) := by rw [up22]; exact K0.mk
theorem K0.go {t : Int} {J J' : MM} (h : K0 I t J) (k : kpQ J J') (e : J' 1 0 = J 1 0) : K0 I t J' := ⟨h.1.trans k, e.trans h.2⟩
theorem K0.as {t : Int} {J J' : MM} (h : K0 I t J) (k : asOnly J J') : K0 I t J' := h.go k.kp (by rw [k 1 (by decide) (by decide) (by decide)])
theorem K0.tr {t : Int} {J J' : MM} (h : K0 I t J) (k : trOnly J J') : K0 I t J' := h.go k.kp (by rw [k 1 (by decide) (by decide) (by decide) (by decide)])
theorem K0.sk {t : Int} {J J' : MM} (h : K0 I t J) (k : skOnly J J') : K0 I t J' := h.go k.kp (by rw [k 1 (by decide)])
theorem q_machineCount (hM : LM Γ P) (h : ∀ J, K0 I 0 J → R (I 3 0) J) : Cl Γ m_X6_machineCount [vR 1] P I (ri P R) :=
  cl_of n_X6_machineCount (Nat.le_of_ble_eq_true rfl) (t_X6_machineCount_0 hM (by intro A hA; rw [hA, th3]; exact h _ K0.mk))
theorem q_jobCount (hM : LM Γ P) (h : ∀ J, K0 I 0 J → R (I 3 2) J) : Cl Γ m_X6_jobCount [vR 1] P I (ri P R) :=
  cl_of n_X6_jobCount (Nat.le_of_ble_eq_true rfl) (t_X6_jobCount_0 hM (by intro A hA; rw [hA, th3]; exact h _ K0.mk))
theorem q_errorOffset (hM : LM Γ P) (h : ∀ J, K0 I 0 J → R (I 1 7) J) : Cl Γ m_X6_errorOffset [vR 1] P I (ri P R) :=
  cl_of n_X6_errorOffset (Nat.le_of_ble_eq_true rfl) (t_X6_errorOffset_0 hM (by intro A hA; rw [hA, up2_nj (by decide)]; exact h _ K0.mk))
theorem q_thrown (hM : LM Γ P) (h : R (I 1 0) I) : Cl Γ m_X6_thrown [vR 1] P I (ri P R) := cl_of n_X6_thrown (Nat.le_of_ble_eq_true rfl) (t_X6_thrown_0 hM h)
theorem q_operationCount (hM : LM Γ P) (hW : WR (I 3)) {j : Int} (hj : inR j) (hy : jOk (I 3) j → ∀ J, K0 I 0 J → R (I 3 (59 + 4 * j.toNat + 3)) J) (hn : ¬ jOk (I 3) j → ∀ z J, K0 I 1 J → R z J) : Cl Γ m_X6_operationCount [vR 1, vI j] P I (ri P R) := by
  have ha := hW.a
  refine cl_of n_X6_operationCount (Nat.le_of_ble_eq_true rfl) (t_X6_operationCount_0 hM (by
    intro A hA
    rw [hA]
    refine c_noJob hM (by rw [th3]; exact hW) th0 hj (fun q => ?_) (fun q => ?_)
    · rw [th3] at q
      have q1 := q.1
      have q2 := q.2
      refine ⟨⟨by decide, by decide⟩, fun _ => c_job ⟨by omega, by omega, ?_⟩, fun z => absurd rfl z⟩
      rw [th3, show (59 + 4 * j + 3).toNat = 59 + 4 * j.toNat + 3 by omega]
      exact hy q _ K0.mk
    · rw [th3] at q
      exact ⟨⟨by decide, by decide⟩, fun z => absurd z (by decide), fun _ => hn q _ _ K0.mk2⟩))
theorem q_operation (hM : LM Γ P) (hW : WR (I 3)) (hO : WO (I 3)) {j k w : Int} (hj : inR j) (hk : inR k) (hw : inR w) (hy : oOk (I 3) j k → 0 ≤ w → w ≤ 2 → ∀ J, K0 I 0 J → R (if w = 2 then (plD (I 3) (6 * j + k).toNat : Int) else I 3 (83 + 2 * (6 * j + k).toNat + w.toNat)) J) (hn : ¬ oOk (I 3) j k → ∀ z J, K0 I 1 J → R z J) (hn2 : oOk (I 3) j k → (w < 0 ∨ 2 < w) → ∀ z J, K0 I 2 J → R z J) : Cl Γ m_X6_operation [vR 1, vI j, vI k, vI w] P I (ri P R) := by
  have ha := hW.a
  refine cl_of n_X6_operation (Nat.le_of_ble_eq_true rfl) (t_X6_operation_0 hM (by
    intro A hA
    rw [hA]
    refine c_noOperation hM (by rw [th3]; exact hW) th0 hj hk (fun q => ?_) (fun q => ?_)
    · rw [th3] at q
      obtain ⟨o, ho, eo, -, -⟩ := q.nat hW
      have h36 := ho.1
      refine ⟨⟨by decide, by decide⟩, fun z => absurd rfl z, fun _ => c_in hw ⟨by decide, by decide⟩ ⟨by decide, by decide⟩ (fun a b => ⟨⟨by decide, by decide⟩, fun _ => c_fails0 hM th0 ⟨⟨by decide, by decide⟩, fun _ => ?_, fun z => absurd rfl z⟩, fun z => absurd z (by decide)⟩) (fun a => ⟨⟨by decide, by decide⟩, fun z => absurd rfl z, fun _ => c_fails1 hM th0 (Or.inr rfl) ⟨⟨by decide, by decide⟩, fun z => absurd z (by decide), fun _ => hn2 q a _ _ K0.mk2⟩⟩)⟩
      have := hy q a b
      rw [eo, Int.toNat_natCast] at this
      rw [eo]
      intro u hu
      rw [hu]
      refine ⟨hw, fun z => c_operationAt ⟨by omega, by omega, ?_⟩, fun z => c_placeOf hM (by rw [th3]; exact hW) (by rw [th3]; exact hO) (by rw [th3]; exact ho) ?_⟩
      · rw [if_neg z] at this
        rw [th3, show (83 + 2 * (o : Int) + w).toNat = 83 + 2 * o + w.toNat by omega]
        exact this _ K0.mk
      · rw [if_pos z] at this
        rw [th3]
        exact this _ K0.mk
    · rw [th3] at q
      exact ⟨⟨by decide, by decide⟩, fun _ => hn q _ _ K0.mk2, fun z => absurd z (by decide)⟩))
theorem q_orderLength (hM : LM Γ P) (hW : WR (I 3)) {m : Int} (hm : inR m) (hy : mOk (I 3) m → ∀ J, K0 I 0 J → R (I 3 (5 + 9 * m.toNat + 2)) J) (hn : ¬ mOk (I 3) m → ∀ z J, K0 I 1 J → R z J) : Cl Γ m_X6_orderLength [vR 1, vI m] P I (ri P R) := by
  have ha := hW.a
  refine cl_of n_X6_orderLength (Nat.le_of_ble_eq_true rfl) (t_X6_orderLength_0 hM (by
    intro A hA
    rw [hA]
    refine c_noMachine hM (by rw [th3]; exact hW) th0 hm (fun q => ?_) (fun q => ?_)
    · rw [th3] at q
      have q1 := q.1
      have q2 := q.2
      refine ⟨⟨by decide, by decide⟩, fun _ => c_machine ⟨by omega, by omega, ?_⟩, fun z => absurd rfl z⟩
      rw [th3, show (5 + 9 * m + 2).toNat = 5 + 9 * m.toNat + 2 by omega]
      exact hy q _ K0.mk
    · rw [th3] at q
      exact ⟨⟨by decide, by decide⟩, fun z => absurd z (by decide), fun _ => hn q _ _ K0.mk2⟩))
theorem q_orderAt (hM : LM Γ P) (hW : WR (I 3)) {m p : Int} (hm : inR m) (hp : inR p) (hy : pOk (I 3) m p → ∀ J, K0 I 0 J → R (tlF (oN (I 3) m.toNat p.toNat)) J) (hn : ¬ pOk (I 3) m p → ∀ z J, K0 I 1 J → R z J) : Cl Γ m_X6_orderAt [vR 1, vI m, vI p] P I (ri P R) := by
  have ha := hW.a
  refine cl_of n_X6_orderAt (Nat.le_of_ble_eq_true rfl) (t_X6_orderAt_0 hM (by
    intro A hA
    rw [hA]
    refine c_noMachine hM (by rw [th3]; exact hW) th0 hm (fun q => ?_) (fun q => ?_)
    · rw [th3] at q
      have q1 := q.1
      have q2 := q.2
      have hmm := hW.2.2.2 m.toNat (by omega)
      refine ⟨⟨by decide, by decide⟩, fun z => absurd rfl z, fun _ => c_machine ⟨by omega, by omega, ?_⟩⟩
      rw [th3, show (5 + 9 * m + 2).toNat = 5 + 9 * m.toNat + 2 by omega]
      refine c_in hp ⟨by decide, by decide⟩ ⟨by omega, by omega⟩ (fun a b => ⟨⟨by decide, by decide⟩, fun _ => c_fails0 hM th0 ⟨⟨by decide, by decide⟩, fun _ => c_machine ⟨by omega, by omega, ?_⟩, fun z => absurd rfl z⟩, fun z => absurd z (by decide)⟩) (fun a => ⟨⟨by decide, by decide⟩, fun z => absurd rfl z, fun _ => c_fails1 hM th0 (Or.inl rfl) ⟨⟨by decide, by decide⟩, fun z => absurd z (by decide), fun _ => hn (fun z => by have := z.2; omega) _ _ K0.mk2⟩⟩)
      have e := oN_int hW (m := m.toNat) (k := p.toNat) (by omega) (by omega)
      rw [th3, show (5 + 9 * m + 3 + p).toNat = 5 + 9 * m.toNat + 3 + p.toNat by omega, e.1]
      exact c_told e.2 (hy ⟨q, a, by omega⟩ _ K0.mk)
    · rw [th3] at q
      exact ⟨⟨by decide, by decide⟩, fun _ => hn (fun z => q z.1) _ _ K0.mk2, fun z => absurd z (by decide)⟩))
/-- questions that need the starts -/
theorem k_starts (hM : LM Γ P) (hG : GD (I 3) cs) {A : MM} (hA : K0 I 0 A) (hy : ∀ J, K0 I 0 J → J 3 = I 3 → J 9 = J 9 → Stt (I 3) (J 9) → TB (J 9) → R 1 J) : Cl Γ m_X6_findStarts [vR 1] P A (ri P R) := by
  have e := hA.1.d
  refine k_findStarts hM (by rw [e]; exact hG.1) (by rw [e]; exact hG.2.1) (fun J h1 h2 h3 h4 => ?_) (fun J h1 h2 => absurd (by rw [e]; exact hG.2.2.2.1) h2)
  rw [e] at h3
  exact hy J (hA.as h1) (by rw [h1 3 (by decide) (by decide) (by decide), e]) rfl h3 h4
theorem q_start (hM : LM Γ P) (hG : GD (I 3) cs) {j k : Int} (hj : inR j) (hk : inR k) (hy : oOk (I 3) j k → ∀ J, K0 I 0 J → R (TD (I 3) (6 * j + k).toNat) J) (hn : ¬ oOk (I 3) j k → ∀ z J, K0 I 1 J → R z J) : Cl Γ m_X6_start [vR 1, vI j, vI k] P I (ri P R) := by
  refine cl_of n_X6_start (Nat.le_of_ble_eq_true rfl) (t_X6_start_0 hM (by
    intro A hA
    rw [hA]
    refine c_noOperation hM (by rw [th3]; exact hG.1) th0 hj hk (fun q => ?_) (fun q => ?_)
    · rw [th3] at q
      obtain ⟨o, ho, eo, -, -⟩ := q.nat hG.1
      have h36 := ho.1
      refine ⟨⟨by decide, by decide⟩, fun z => absurd rfl z, fun _ => k_starts hM hG K0.mk (fun J a b _ c d => ⟨⟨by decide, by decide⟩, fun _ => ⟨by omega, by omega, ?_⟩, fun z => absurd z (by decide)⟩)⟩
      have := hy q J a
      rw [eo, Int.toNat_natCast, ← c.td o ho] at this
      rw [eo, Int.toNat_natCast]
      exact this
    · rw [th3] at q
      exact ⟨⟨by decide, by decide⟩, fun _ => hn q _ _ K0.mk2, fun z => absurd z (by decide)⟩))
theorem q_leave (hM : LM Γ P) (hG : GD (I 3) cs) {j k : Int} (hj : inR j) (hk : inR k) (hy : oOk (I 3) j k → ∀ J, K0 I 0 J → R (leaveF (I 3) (TD (I 3)) (6 * j + k).toNat) J) (hn : ¬ oOk (I 3) j k → ∀ z J, K0 I 1 J → R z J) : Cl Γ m_X6_leave [vR 1, vI j, vI k] P I (ri P R) := by
  refine cl_of n_X6_leave (Nat.le_of_ble_eq_true rfl) (t_X6_leave_0 hM (by
    intro A hA
    rw [hA]
    refine c_noOperation hM (by rw [th3]; exact hG.1) th0 hj hk (fun q => ?_) (fun q => ?_)
    · rw [th3] at q
      obtain ⟨o, ho, eo, -, -⟩ := q.nat hG.1
      have h36 := ho.1
      refine ⟨⟨by decide, by decide⟩, fun z => absurd rfl z, fun _ => k_starts hM hG K0.mk (fun J a b _ c d => ⟨⟨by decide, by decide⟩, fun _ => ?_, fun z => absurd z (by decide)⟩)⟩
      have := hy q J a
      rw [eo, Int.toNat_natCast, ← leaveF_same hG.1 c.td ho] at this
      rw [eo]
      exact c_leaveOf hM (by rw [b]; exact hG.1) (by rw [b]; exact ho) (by rw [b]; exact this)
    · rw [th3] at q
      exact ⟨⟨by decide, by decide⟩, fun _ => hn q _ _ K0.mk2, fun z => absurd z (by decide)⟩))
theorem q_completion (hM : LM Γ P) (hG : GD (I 3) cs) {j : Int} (hj : inR j) (hy : jOk (I 3) j → ∀ J, K0 I 0 J → R (cmpF (I 3) (TD (I 3)) j.toNat) J) (hn : ¬ jOk (I 3) j → ∀ z J, K0 I 1 J → R z J) : Cl Γ m_X6_completion [vR 1, vI j] P I (ri P R) := by
  refine cl_of n_X6_completion (Nat.le_of_ble_eq_true rfl) (t_X6_completion_0 hM (by
    intro A hA
    rw [hA]
    refine c_noJob hM (by rw [th3]; exact hG.1) th0 hj (fun q => ?_) (fun q => ?_)
    · rw [th3] at q
      have ej : j = (j.toNat : Int) := by have := q.1; omega
      have q2 : (j.toNat : Int) < I 3 2 := by have := q.2; omega
      refine ⟨⟨by decide, by decide⟩, fun z => absurd rfl z, fun _ => k_starts hM hG K0.mk (fun J a b _ c d => ⟨⟨by decide, by decide⟩, fun _ => ?_, fun z => absurd z (by decide)⟩)⟩
      have := hy q J a
      rw [← cmpF_same hG.1 c.td q2] at this
      rw [ej]
      exact c_completionOf hM (by rw [b]; exact hG.1) (by rw [b]; exact q2) (by rw [b]; exact this)
    · rw [th3] at q
      exact ⟨⟨by decide, by decide⟩, fun _ => hn q _ _ K0.mk2, fun z => absurd z (by decide)⟩))
theorem q_makespan (hM : LM Γ P) (hG : GD (I 3) cs) (hy : ∀ J, K0 I 0 J → R (spanX (I 3)) J) : Cl Γ m_X6_makespan [vR 1] P I (ri P R) := by
  refine cl_of n_X6_makespan (Nat.le_of_ble_eq_true rfl) (t_X6_makespan_0 hM (by
    intro A hA
    rw [hA]
    refine k_spanNow hM (by rw [th3]; exact hG.1) (by rw [th3]; exact hG.2.1) (by rw [th3]; exact hG.2.2.2.1) (fun J a b c => ?_)
    rw [th3]
    exact hy J (K0.mk.as a)))
theorem q_jobCost (hM : LM Γ P) (hG : GD (I 3) cs) {j : Int} (hj : inR j) (hy : jOk (I 3) j → ∀ J, K0 I 0 J → R (costF (I 3) cs (TD (I 3)) j.toNat) J) (hn : ¬ jOk (I 3) j → ∀ z J, K0 I 1 J → R z J) : Cl Γ m_X6_jobCost [vR 1, vI j] P I (ri P R) := by
  refine cl_of n_X6_jobCost (Nat.le_of_ble_eq_true rfl) (t_X6_jobCost_0 hM (by
    intro A hA
    rw [hA]
    refine c_noJob hM (by rw [th3]; exact hG.1) th0 hj (fun q => ?_) (fun q => ?_)
    · rw [th3] at q
      have ej : j = (j.toNat : Int) := by have := q.1; omega
      have q2 : (j.toNat : Int) < I 3 2 := by have := q.2; omega
      refine ⟨⟨by decide, by decide⟩, fun z => absurd rfl z, fun _ => k_starts hM hG K0.mk (fun J a b _ c d => ⟨⟨by decide, by decide⟩, fun _ => ?_, fun z => absurd z (by decide)⟩)⟩
      rw [ej]
      refine c_costOf hM (by rw [b]; exact hG.1) (by rw [b]; exact d.v) (cs := cs) (by rw [b]; exact hG.2.2.1) (by rw [b]; exact q2) (fun J2 hJ2 => ?_)
      rw [b, costF_same hG.1 c.td q2]
      exact hy q J2 (a.sk hJ2)
    · rw [th3] at q
      exact ⟨⟨by decide, by decide⟩, fun _ => hn q _ _ K0.mk2, fun z => absurd z (by decide)⟩))
theorem q_planCost (hM : LM Γ P) (hG : GD (I 3) cs) (hy : ∀ J, K0 I 0 J → R (costX (I 3) cs) J) : Cl Γ m_X6_planCost [vR 1] P I (ri P R) := by
  refine cl_of n_X6_planCost (Nat.le_of_ble_eq_true rfl) (t_X6_planCost_0 hM (by
    intro A hA
    rw [hA]
    refine k_starts hM hG K0.mk (fun J a b _ c d => ⟨⟨by decide, by decide⟩, fun z => absurd z (by decide), fun _ => ?_⟩)
    refine c_costOfPlan hM (by rw [b]; exact hG.1) (by rw [b]; exact d.v) (cs := cs) (by rw [b]; exact hG.2.2.1) (fun J2 hJ2 => ?_)
    rw [b, sumF_same hG.1 c.td]
    exact hy J2 (a.sk hJ2)))
theorem q_blockedTime (hM : LM Γ P) (hG : GD (I 3) cs) {m : Int} (hm : inR m) (hy : mOk (I 3) m → ∀ J, K0 I 0 J → R (bkN (I 3) (TD (I 3)) m.toNat (I 3 (5 + 9 * m.toNat + 2)).toNat) J) (hn : ¬ mOk (I 3) m → ∀ z J, K0 I 1 J → R z J) : Cl Γ m_X6_blockedTime [vR 1, vI m] P I (ri P R) := by
  have hW := hG.1
  have ha := hW.a
  refine cl_of n_X6_blockedTime (Nat.le_of_ble_eq_true rfl) (t_X6_blockedTime_0 hM (by
    intro A hA
    rw [hA]
    refine c_noMachine hM (by rw [th3]; exact hG.1) th0 hm (fun q => ?_) (fun q => ?_)
    · rw [th3] at q
      have em : m = (m.toNat : Int) := by have := q.1; omega
      have q2 : (m.toNat : Int) < I 3 0 := by have := q.2; omega
      have hmm := hW.2.2.2 m.toNat (by omega)
      refine ⟨⟨by decide, by decide⟩, fun z => absurd rfl z, fun _ => k_starts hM hG K0.mk (fun J a b _ c d => ⟨⟨by decide, by decide⟩, fun _ => ?_, fun z => absurd z (by decide)⟩)⟩
      have fin := hy q J a
      rw [← bkN_same hW hG.2.1 c.td q2 _ (by omega)] at fin
      have key : ∀ (n k : Nat), (k : Int) + n = I 3 (5 + 9 * m.toNat + 2) → XM Γ m_X6_blockedTime 0 0 26 [(0, vR 1), (1, vI m), (2, vI (bkN (I 3) (J 9) m.toNat k)), (3, vI (k : Int))] [] P J (ri P R) := by
        intro n
        induction n with
        | zero =>
          intro k hk
          refine t_X6_blockedTime_26 hM (c_machine ⟨by omega, by omega, ⟨by omega, by omega⟩, ?_⟩)
          rw [b, show (5 + 9 * m + 2).toNat = 5 + 9 * m.toNat + 2 by omega]
          refine ⟨⟨by omega, by omega⟩, fun _ => ?_, fun z => absurd (by omega) z⟩
          rwa [show (I 3 (5 + 9 * m.toNat + 2)).toNat = k by omega] at fin
        | succ n ih =>
          intro k hk
          have hv := hG.2.1.1 m.toNat k q2 (by omega)
          have e := oN_int hW (m := m.toNat) (k := k) (by omega) (by omega)
          refine t_X6_blockedTime_26 hM (c_machine ⟨by omega, by omega, ⟨by omega, by omega⟩, ?_⟩)
          rw [b, show (5 + 9 * m + 2).toNat = 5 + 9 * m.toNat + 2 by omega]
          refine ⟨⟨by omega, by omega⟩, fun z => absurd z (by omega), fun _ => c_machine ⟨by omega, by omega, ?_⟩⟩
          rw [b, show (5 + 9 * m + 3 + (k : Int)).toNat = 5 + 9 * m.toNat + 3 + k by omega, e.1]
          intro u hu
          rw [hu]
          refine c_leaveOf hM (by rw [b]; exact hW) (by rw [b]; exact hv.1) ⟨by omega, by omega, c_durationOf hM e.2 ?_⟩
          rw [b, Int.toNat_natCast]
          intro w hw
          rw [hw]
          exact ih (k + 1) (by omega)
      exact key (I 3 (5 + 9 * m.toNat + 2)).toNat 0 (by omega)
    · rw [th3] at q
      exact ⟨⟨by decide, by decide⟩, fun _ => hn q _ _ K0.mk2, fun z => absurd z (by decide)⟩))
theorem k_path (hM : LM Γ P) (hG : GD (I 3) cs) (hy : ∀ J, K0 I 0 J → J 3 = I 3 → J 1 24 = ((pathX (I 3)).length : Int) → stkR (J 12) (pathX (I 3)) → Rv J) : Cl Γ m_X6_findPath [vR 1] P (up2 I 1 0 0) (rv P Rv) := by
  refine c_findPath hM (by rw [th3]; exact hG.1) (by rw [th3]; exact hG.2.1) (by rw [th3]; exact hG.2.2.2.1) (fun J a b c d => ?_)
  rw [th3] at c d
  refine hy J ⟨⟨fun q q1 q7 q8 q9 q10 q11 q12 => ?_, fun i i0 i21 i22 i24 => ?_⟩, ?_⟩ ?_ c d
  · rw [a q q1 q7 q8 q9 q12, up2_ne q1]
  · rw [b i i24, up2_nj i0]
  · rw [b 0 (by decide), up2_eq]
  · rw [a 3 (by decide) (by decide) (by decide) (by decide) (by decide), th3]
theorem pathX_ok {D : Nat → Int} (hG : GD D cs) : opsL D (pathX D) := pathF_ok hG.1 hG.2.1
theorem q_criticalLength (hM : LM Γ P) (hG : GD (I 3) cs) (hy : ∀ J, K0 I 0 J → R ((pathX (I 3)).length : Int) J) : Cl Γ m_X6_criticalLength [vR 1] P I (ri P R) := by
  refine cl_of n_X6_criticalLength (Nat.le_of_ble_eq_true rfl) (t_X6_criticalLength_0 hM (by
    intro A hA
    rw [hA]
    refine k_path hM hG (fun J a b c d => ?_)
    rw [c]
    exact hy J a))
theorem q_critical (hM : LM Γ P) (hG : GD (I 3) cs) {k : Int} (hk : inR k) (hy : 0 ≤ k → k < ((pathX (I 3)).length : Int) → ∀ J, K0 I 0 J → R (tlF (getR (pathX (I 3)) k.toNat).toNat) J) (hn : ¬ (0 ≤ k ∧ k < ((pathX (I 3)).length : Int)) → ∀ z J, K0 I 1 J → R z J) : Cl Γ m_X6_critical [vR 1, vI k] P I (ri P R) := by
  have hl := opsL_len (pathX_ok hG)
  refine cl_of n_X6_critical (Nat.le_of_ble_eq_true rfl) (t_X6_critical_0 hM (by
    intro A hA
    rw [hA]
    refine k_path hM hG (fun J a b c d => ?_)
    rw [c]
    refine c_in hk ⟨by decide, by decide⟩ ⟨by omega, by omega⟩ (fun x y => ⟨⟨by decide, by decide⟩, fun _ => c_fails0 hM a.2 ⟨⟨by decide, by decide⟩, fun _ => ⟨by omega, by omega, ?_⟩, fun z => absurd rfl z⟩, fun z => absurd z (by decide)⟩) (fun x => ⟨⟨by decide, by decide⟩, fun z => absurd rfl z, fun _ => c_fails1 hM a.2 (Or.inl rfl) ⟨⟨by decide, by decide⟩, fun z => absurd z (by decide), fun _ => hn (by omega) _ _ ⟨a.1.trans (kpQ.f (Or.inl rfl)), up2_eq⟩⟩⟩)
    have hv := opsL_v (pathX_ok hG) _ (getR_mem (l := pathX (I 3)) (k := k.toNat) (by omega))
    rw [stkR_get d k.toNat (by omega), show getR (pathX (I 3)) k.toNat = ((getR (pathX (I 3)) k.toNat).toNat : Int) by omega]
    exact c_told hv.2.1 (hy x (by omega) J a)))
theorem q_blockCount (hM : LM Γ P) (hG : GD (I 3) cs) (hy : ∀ J, K0 I 0 J → R (bcN (I 3) (pathX (I 3)) (pathX (I 3)).length) J) : Cl Γ m_X6_blockCount [vR 1] P I (ri P R) := by
  have hl := opsL_len (pathX_ok hG)
  refine cl_of n_X6_blockCount (Nat.le_of_ble_eq_true rfl) (t_X6_blockCount_0 hM (by
    intro A hA
    rw [hA]
    refine k_path hM hG (fun J a b c d => ?_)
    have key : ∀ (n k : Nat), k + n = (pathX (I 3)).length → XM Γ m_X6_blockCount 0 0 13 [(0, vR 1), (1, vI (bcN (I 3) (pathX (I 3)) k)), (2, vI (k : Int))] [] P J (ri P R) := by
      intro n
      induction n with
      | zero =>
        intro k hk
        refine t_X6_blockCount_13 hM ⟨⟨by omega, by omega⟩, by rw [c]; exact ⟨by omega, by omega⟩, fun _ => ?_, fun z => absurd (by rw [c]; omega) z⟩
        have := hy J a
        rwa [← hk, Nat.add_zero] at this
      | succ n ih =>
        intro k hk
        have hv := opsL_v (pathX_ok hG) _ (getR_mem (l := pathX (I 3)) (k := k) (by omega))
        have hv2 := opsL_v (pathX_ok hG) _ (getR_mem (l := pathX (I 3)) (k := k - 1) (by omega))
        obtain ⟨m1, m2⟩ := mcO_lt hG.1 hv.2.1
        obtain ⟨m3, m4⟩ := mcO_lt hG.1 hv2.2.1
        have nx := ih (k + 1) (by omega)
        unfold bcN at nx
        refine t_X6_blockCount_13 hM ⟨⟨by omega, by omega⟩, by rw [c]; exact ⟨by omega, by omega⟩, fun z => absurd z (by rw [c]; omega), fun _ => ⟨fun z => ?_, fun z => ⟨by omega, by omega, ?_⟩⟩⟩
        · intro u hu
          rw [hu]
          rw [if_pos (Or.inl (by omega))] at nx
          exact nx
        · rw [Int.toNat_natCast, stkR_get d k (by omega), show getR (pathX (I 3)) k = ((getR (pathX (I 3)) k).toNat : Int) by omega]
          refine c_machineOf hM hv.2.1 ⟨by omega, by omega, ?_⟩
          rw [show ((k : Int) - 1).toNat = k - 1 by omega, stkR_get d (k - 1) (by omega), show getR (pathX (I 3)) (k - 1) = ((getR (pathX (I 3)) (k - 1)).toNat : Int) by omega]
          refine c_machineOf hM hv2.2.1 ?_
          rw [b, m2, m4]
          refine ⟨⟨by omega, by omega⟩, ⟨by omega, by omega⟩, fun y => ?_, fun y => ?_⟩
          · intro u hu
            rw [hu]
            rw [if_neg (by rintro (x | x) <;> omega)] at nx
            exact nx
          · intro u hu
            rw [hu]
            rw [if_pos (Or.inr (by omega))] at nx
            exact nx
    exact key _ 0 (Nat.zero_add _)))
theorem lbN_b {D : Nat → Int} {l : List Int} : ∀ k : Nat, 0 ≤ (lbN D l k).1 ∧ (lbN D l k).1 ≤ (k : Int) ∧ 0 ≤ (lbN D l k).2 ∧ (lbN D l k).2 ≤ (k : Int)
  | 0 => by simp [lbN]
  | k + 1 => by
    have h := lbN_b (D := D) (l := l) k
    unfold lbN
    split
    · simp only
      omega
    · simp only
      omega
theorem q_longestBlock (hM : LM Γ P) (hG : GD (I 3) cs) (hy : ∀ J, K0 I 0 J → R (lbN (I 3) (pathX (I 3)) (pathX (I 3)).length).1 J) : Cl Γ m_X6_longestBlock [vR 1] P I (ri P R) := by
  have hl := opsL_len (pathX_ok hG)
  refine cl_of n_X6_longestBlock (Nat.le_of_ble_eq_true rfl) (t_X6_longestBlock_0 hM (by
    intro A hA
    rw [hA]
    refine k_path hM hG (fun J a b c d => ?_)
    have key : ∀ (n k : Nat), k + n = (pathX (I 3)).length → XM Γ m_X6_longestBlock 0 0 15 [(0, vR 1), (1, vI (lbN (I 3) (pathX (I 3)) k).1), (2, vI (lbN (I 3) (pathX (I 3)) k).2), (3, vI (k : Int))] [] P J (ri P R) := by
      intro n
      induction n with
      | zero =>
        intro k hk
        refine t_X6_longestBlock_15 hM ⟨⟨by omega, by omega⟩, by rw [c]; exact ⟨by omega, by omega⟩, fun _ => ?_, fun z => absurd (by rw [c]; omega) z⟩
        have := hy J a
        rwa [← hk, Nat.add_zero] at this
      | succ n ih =>
        intro k hk
        have hv := opsL_v (pathX_ok hG) _ (getR_mem (l := pathX (I 3)) (k := k) (by omega))
        have hv2 := opsL_v (pathX_ok hG) _ (getR_mem (l := pathX (I 3)) (k := k - 1) (by omega))
        obtain ⟨m1, m2⟩ := mcO_lt hG.1 hv.2.1
        obtain ⟨m3, m4⟩ := mcO_lt hG.1 hv2.2.1
        have hb := lbN_b (D := I 3) (l := pathX (I 3)) k
        have nx := ih (k + 1) (by omega)
        unfold lbN at nx
        refine t_X6_longestBlock_15 hM ⟨⟨by omega, by omega⟩, by rw [c]; exact ⟨by omega, by omega⟩, fun z => absurd z (by rw [c]; omega), fun _ => ⟨fun z => ?_, fun z => ⟨by omega, by omega, ?_⟩⟩⟩
        · rw [if_pos (Or.inl (by omega))] at nx
          exact c_max ⟨by omega, by omega⟩ ⟨by decide, by decide⟩ nx
        · rw [Int.toNat_natCast, stkR_get d k (by omega), show getR (pathX (I 3)) k = ((getR (pathX (I 3)) k).toNat : Int) by omega]
          refine c_machineOf hM hv.2.1 ⟨by omega, by omega, ?_⟩
          rw [show ((k : Int) - 1).toNat = k - 1 by omega, stkR_get d (k - 1) (by omega), show getR (pathX (I 3)) (k - 1) = ((getR (pathX (I 3)) (k - 1)).toNat : Int) by omega]
          refine c_machineOf hM hv2.2.1 ?_
          rw [b, m2, m4]
          refine ⟨⟨by omega, by omega⟩, ⟨by omega, by omega⟩, fun y => ?_, fun y => ?_⟩
          · intro u hu
            rw [hu]
            rw [if_neg (by rintro (x | x) <;> omega)] at nx
            exact c_max ⟨by omega, by omega⟩ ⟨by omega, by omega⟩ nx
          · rw [if_pos (Or.inr (by omega))] at nx
            exact c_max ⟨by omega, by omega⟩ ⟨by decide, by decide⟩ nx
    exact key _ 0 (Nat.zero_add _)))
end M1
