/-! ROWS: an instruction of a method over the abstract memory -/
/-- a method: name, class, code, locals, what it returns, its room -/
abbrev MI : Type := MethodName × String × ByteArray × Nat × Option FieldType × Room
/-- the launch, the classes, the arrays' classes, the addresses of the numbers, the numbers in use, what each is -/
abbrev GG : Type := Launch × va_G × (Nat → ClassId) × (Nat → Nat) × List Nat × (Nat → CT) × SC
abbrev gl (Γ : GG) : Launch := Γ.1
abbrev gD (Γ : GG) : va_G := Γ.2.1
abbrev gk (Γ : GG) : Nat → ClassId := Γ.2.2.1
abbrev gr (Γ : GG) : Nat → Nat := Γ.2.2.2.1
abbrev gi (Γ : GG) : List Nat := Γ.2.2.2.2.1
abbrev gt (Γ : GG) : Nat → CT := Γ.2.2.2.2.2.1
abbrev gs (Γ : GG) : SC := Γ.2.2.2.2.2.2
abbrev gw (Γ : GG) (P : MP) (I : MM) : va_W := wl (gk Γ) (gr Γ) (gi Γ) (gt Γ) P I
def lwU : List Cond := lw_tbl.filter goodWord
def RG (Γ : GG) (sz : Nat) : Nat → Prop := fun q => (∃ i, i ∈ gi Γ ∧ gr Γ i = q) ∨ sz ≤ q
def Bd (p : Program) (s : State) (m : MethodId) (args : Array Value) (meth : Method) (c : Code) (μ : MI) : Prop :=
  p.tables.exec = Jvm.exec ∧ c.code = μ.2.2.1 ∧ c.maxLocals = μ.2.2.2.1 ∧ s.vm.findClass μ.2.1 = some m.cls ∧ (∀ w ∈ lwU, w.before args s = true) ∧ meth.sig.returnType = μ.2.2.2.2.1 ∧ meth.locks = false
abbrev QT : Type := Option AV → MP → MM → Prop
def PQ (Γ : GG) (Q : QT) : Array Value → State → Outcome → State → Prop := fun _ st o t =>
  (∃ (v : Option AV) (P' : MP) (I' : MM), o = .returned (v.map (cv (gr Γ))) ∧ Q v P' I' ∧ va_K (gD Γ) vwCl (tysK (gk Γ)) t ∧ va_P (gD Γ) vwCl (gw Γ P' I') t.heap) ∧ va_F (RG Γ st.heap.size) st t
/-- from the instruction at pc, with the locals al, the stack st, the memory P, I: the method ends as Q says -/
def XM (Γ : GG) (μ : MI) (cells slots pc : Nat) (al : List (Nat × AV)) (st : List AV) (P : MP) (I : MM) (Q : QT) : Prop :=
  ∀ (p : Program) (e : Env) (s : State) (m : MethodId) (args : Array Value) (below : List Frame) (meth : Method) (c : Code), Bd p s m args meth c μ → ∀ (H : Heap) (locs : List Loc) (ls : Array Slot), lv_has ls μ.2.2.2.1 (cvl (gr Γ) al) → va_K (gD Γ) vwCl (tysK (gk Γ)) s → va_P (gD Γ) vwCl (gw Γ P I) H → va_D (RG Γ s.heap.size) (gw Γ P I) → va_S (RG Γ s.heap.size) s.heap H locs → RO (gs Γ) (gr Γ) (RG Γ s.heap.size) s s.heap →
    W p (gl Γ) e μ.2.2.2.2.2 s m args below meth c H locs cells slots (MQ below (PQ Γ Q) args s μ.2.2.2.2.2.cells μ.2.2.2.2.2.slots (RG Γ s.heap.size)) (F0 m pc ls (st.map (cv (gr Γ))))
theorem gw_D {Γ : GG} {P P' : MP} {I I' : MM} {A : Nat → Prop} (h : va_D A (gw Γ P I)) : va_D A (gw Γ P' I') := by
  have key : ∀ (P P' : MP) (I I' : MM) (k : Nat) (q : Nat × va_E), (gw Γ P' I')[k]? = some q → ∃ q0 : Nat × va_E, (gw Γ P I)[k]? = some q0 ∧ q0.1 = q.1 := by
    intro P P' I I' k q h
    simp only [gw, wl, List.getElem?_map] at h ⊢
    cases hi : (gi Γ)[k]? with
    | none => rw [hi] at h; cases h
    | some i => rw [hi] at h; cases h; exact ⟨_, rfl, rfl⟩
  refine ⟨fun i j x y hi hj hxy => ?_, fun k q hk => ?_⟩
  · obtain ⟨x0, h1, h2⟩ := key P P' I I' i x hi
    obtain ⟨y0, h3, h4⟩ := key P P' I I' j y hj
    exact h.1 i j x0 y0 h1 h3 (h2.trans (hxy.trans h4.symm))
  · obtain ⟨q0, h1, h2⟩ := key P P' I I' k q hk
    rw [← h2]
    exact h.2 k q0 h1
/-! locals -/
def isLv : AV → Bool := fun v => match v with
  | Sum.inr (Sum.inl _) => true
  | _ => false
def noL (i : Nat) (l : List (Nat × AV)) : Bool := l.all (fun q => !(Nat.beq (q.1 + 1) i && isLv q.2))
def noK (i : Nat) (l : List (Nat × AV)) : Bool := l.all (fun q => !(Nat.beq q.1 i))
def stL (i : Nat) (v : AV) (l : List (Nat × AV)) : List (Nat × AV) := cond (l.any (fun q => Nat.beq q.1 i)) (l.map (fun q => cond (Nat.beq q.1 i) (i, v) q)) (l ++ [(i, v)])
def pkL (l : List (Nat × AV)) (ks : List Nat) : List (Nat × AV) := ks.filterMap (fun k => l[k]?)
theorem cvl_at {ρ : Nat → Nat} {al : List (Nat × AV)} {n i : Nat} {v : AV} (h : al[n]? = some (i, v)) : (cvl ρ al)[n]? = some (i, cv ρ v) := by simp [cvl, h]
theorem cv_cat (ρ : Nat → Nat) (v : AV) : (cv ρ v).category = if isLv v then 2 else 1 := by
  rcases v with z | z | (_ | i) <;> rfl
theorem stL_mem {i : Nat} {v : AV} {l : List (Nat × AV)} {q : Nat × AV} (h : q ∈ stL i v l) : q = (i, v) ∨ (q ∈ l ∧ q.1 ≠ i) := by
  unfold stL at h
  cases hc : l.any (fun q => Nat.beq q.1 i) with
  | true =>
    rw [hc] at h
    simp only [cond_true, List.mem_map] at h
    obtain ⟨r, hr, he⟩ := h
    cases hb : Nat.beq r.1 i with
    | true => rw [hb] at he; exact Or.inl he.symm
    | false => rw [hb] at he; simp only [cond_false] at he; subst he; exact Or.inr ⟨hr, fun z => by rw [z, Nat.beq_refl] at hb; cases hb⟩
  | false =>
    rw [hc] at h
    simp only [cond_false, List.mem_append, List.mem_singleton] at h
    rcases h with h | h
    · refine Or.inr ⟨h, fun z => ?_⟩
      have := List.any_eq_false.mp hc q h
      rw [z, Nat.beq_refl] at this
      exact this rfl
    · exact Or.inl h
theorem st_has {ρ : Nat → Nat} {ls : Array Slot} {nL i : Nat} {v : AV} {al : List (Nat × AV)} (h : lv_has ls nL ((i, cv ρ v) :: (cvl ρ al).filter (fun q => !(q.1 == i) && !(q.1 + 1 == i && q.2.category == 2)))) (hn : noL i al = true) : lv_has ls nL (cvl ρ (stL i v al)) := by
  refine ⟨h.1, h.2.1, fun q hq => ?_⟩
  obtain ⟨r, hr, he⟩ := List.mem_map.mp hq
  subst he
  rcases stL_mem hr with rfl | ⟨h1, h2⟩
  · exact h.2.2 _ List.mem_cons_self
  · refine h.2.2 _ (List.mem_cons_of_mem _ (List.mem_filter.mpr ⟨List.mem_map.mpr ⟨r, h1, rfl⟩, ?_⟩))
    have h3 := List.all_eq_true.mp hn r h1
    simp only [cv_cat]
    have h4 : (r.1 == i) = false := by simpa using h2
    rw [h4]
    cases hl : isLv r.2 with
    | false => simp
    | true =>
      rw [hl] at h3
      have : ¬ r.1 + 1 = i := fun z => by rw [z, Nat.beq_refl] at h3; simp at h3
      simp [this]
theorem st2_has {ρ : Nat → Nat} {ls : Array Slot} {nL i : Nat} {v : AV} {al : List (Nat × AV)} (h : lv_has ls nL ((i, cv ρ v) :: (cvl ρ al).filter (fun q => !(q.1 == i) && (!(q.1 == i + 1) && !(q.1 + 1 == i && q.2.category == 2))))) (hn : noL i al = true) (hk : noK (i + 1) al = true) : lv_has ls nL (cvl ρ (stL i v al)) := by
  refine ⟨h.1, h.2.1, fun q hq => ?_⟩
  obtain ⟨r, hr, he⟩ := List.mem_map.mp hq
  subst he
  rcases stL_mem hr with rfl | ⟨h1, h2⟩
  · exact h.2.2 _ List.mem_cons_self
  · refine h.2.2 _ (List.mem_cons_of_mem _ (List.mem_filter.mpr ⟨List.mem_map.mpr ⟨r, h1, rfl⟩, ?_⟩))
    have h3 := List.all_eq_true.mp hn r h1
    have h5 := List.all_eq_true.mp hk r h1
    simp only [cv_cat]
    have h4 : (r.1 == i) = false := by simpa using h2
    have h6 : (r.1 == i + 1) = false := by
      by_cases z : r.1 = i + 1
      · rw [z, Nat.beq_refl] at h5; cases h5
      · simpa using z
    rw [h4, h6]
    cases hl : isLv r.2 with
    | false => simp
    | true =>
      rw [hl] at h3
      have : ¬ r.1 + 1 = i := fun z => by rw [z, Nat.beq_refl] at h3; simp at h3
      simp [this]
theorem pk_has {ρ : Nat → Nat} {ls : Array Slot} {nL : Nat} {al al' : List (Nat × AV)} (h : lv_has ls nL (cvl ρ al)) (ks : List Nat) (hl : pkL al ks = al') : lv_has ls nL (cvl ρ al') := by
  refine ⟨h.1, h.2.1, fun q hq => ?_⟩
  obtain ⟨r, hr, he⟩ := List.mem_map.mp hq
  subst he
  rw [← hl] at hr
  obtain ⟨k, -, hk⟩ := List.mem_filterMap.mp hr
  exact h.2.2 _ (List.mem_map.mpr ⟨r, List.mem_of_getElem? hk, rfl⟩)
section XR
variable {Γ : GG} {μ : MI} {cells slots pc : Nat} {al al' : List (Nat × AV)} {st : List AV} {P : MP} {I : MM} {Q : QT}
theorem x_sub (ks : List Nat) (hl : pkL al ks = al') (k : XM Γ μ cells slots pc al' st P I Q) : XM Γ μ cells slots pc al st P I Q := fun p e s m args below meth c B H locs ls hl2 hK hP hD hS hX => k p e s m args below meth c B H locs ls (pk_has hl2 ks hl) hK hP hD hS hX
theorem x_iconst {n : Int} (hd : decode μ.2.2.1 pc = .ok (.iconst n, 1))  (k : XM Γ μ cells slots (pc + 1) al (vI n :: st) P I Q) : XM Γ μ cells slots pc al (st) P I Q := by
  intro p e s m args below meth c B H locs ls hl hK hP hD hS hX
  exact lv_iconst B.1 B.2.1 hd rfl (k p e s m args below meth c B H locs ls hl hK hP hD hS hX)
theorem x_bipush {n : Int} (hd : decode μ.2.2.1 pc = .ok (.bipush n, 2)) (hn : (Int8.ofInt n).toInt32 = Int32.ofInt n) (k : XM Γ μ cells slots (pc + 2) al (vI n :: st) P I Q) : XM Γ μ cells slots pc al (st) P I Q := by
  intro p e s m args below meth c B H locs ls hl hK hP hD hS hX
  exact lv_bipush B.1 B.2.1 hd hn (k p e s m args below meth c B H locs ls hl hK hP hD hS hX)
theorem x_sipush {n : Int} (hd : decode μ.2.2.1 pc = .ok (.sipush n, 3)) (hn : (Int16.ofInt n).toInt32 = Int32.ofInt n) (k : XM Γ μ cells slots (pc + 3) al (vI n :: st) P I Q) : XM Γ μ cells slots pc al (st) P I Q := by
  intro p e s m args below meth c B H locs ls hl hK hP hD hS hX
  exact lv_sipush B.1 B.2.1 hd hn (k p e s m args below meth c B H locs ls hl hK hP hD hS hX)
theorem x_lconst {n : Fin 2} (z : Int) (hd : decode μ.2.2.1 pc = .ok (.lconst n, 1)) (hn : Int64.ofNat (n : Nat) = Int64.ofInt z) (k : XM Γ μ cells slots (pc + 1) al (vL z :: st) P I Q) : XM Γ μ cells slots pc al (st) P I Q := by
  intro p e s m args below meth c B H locs ls hl hK hP hD hS hX
  exact lv_lconst B.1 B.2.1 hd hn (k p e s m args below meth c B H locs ls hl hK hP hD hS hX)
theorem x_ldc {n : Nat} (z : Int) (hd : decode μ.2.2.1 pc = .ok (.ldc n, 2)) (hc : Cond.constant μ.2.1 n (Int32.ofInt z) ∈ lwU) (k : XM Γ μ cells slots (pc + 2) al (vI z :: st) P I Q) : XM Γ μ cells slots pc al (st) P I Q := by
  intro p e s m args below meth c B H locs ls hl hK hP hD hS hX
  exact lv_ldc B.1 B.2.1 B.2.2.2.1 (B.2.2.2.2.1 _ hc) hd (k p e s m args below meth c B H locs ls hl hK hP hD hS hX)
theorem x_ldc2 {n : Nat} (z : Int) (hd : decode μ.2.2.1 pc = .ok (.ldc2_w n, 3)) (hc : Cond.constantLong μ.2.1 n (Int64.ofInt z) ∈ lwU) (k : XM Γ μ cells slots (pc + 3) al (vL z :: st) P I Q) : XM Γ μ cells slots pc al (st) P I Q := by
  intro p e s m args below meth c B H locs ls hl hK hP hD hS hX
  exact lv_ldc2 B.1 B.2.1 B.2.2.2.1 (B.2.2.2.2.1 _ hc) hd (k p e s m args below meth c B H locs ls hl hK hP hD hS hX)
theorem x_iload_n {i : Fin 4} {z : Int} (n : Nat) (hd : decode μ.2.2.1 pc = .ok (.iload_n i, 1)) (hv : al[n]? = some ((i : Nat), vI z)) (k : XM Γ μ cells slots (pc + 1) al (vI z :: st) P I Q) : XM Γ μ cells slots pc al (st) P I Q := by
  intro p e s m args below meth c B H locs ls hl hK hP hD hS hX
  exact lv_iload_n B.1 B.2.1 hd rfl (lv_at hl n (cvl_at hv)) (k p e s m args below meth c B H locs ls hl hK hP hD hS hX)
theorem x_iload {i : Nat} {z : Int} (n : Nat) (hd : decode μ.2.2.1 pc = .ok (.iload i, 2)) (hv : al[n]? = some (i, vI z)) (k : XM Γ μ cells slots (pc + 2) al (vI z :: st) P I Q) : XM Γ μ cells slots pc al (st) P I Q := by
  intro p e s m args below meth c B H locs ls hl hK hP hD hS hX
  exact lv_iload B.1 B.2.1 hd (lv_at hl n (cvl_at hv)) (k p e s m args below meth c B H locs ls hl hK hP hD hS hX)
theorem x_lload_n {i : Fin 4} {z : Int} (n : Nat) (hd : decode μ.2.2.1 pc = .ok (.lload_n i, 1)) (hv : al[n]? = some ((i : Nat), vL z)) (k : XM Γ μ cells slots (pc + 1) al (vL z :: st) P I Q) : XM Γ μ cells slots pc al (st) P I Q := by
  intro p e s m args below meth c B H locs ls hl hK hP hD hS hX
  exact lv_lload_n B.1 B.2.1 hd rfl (lv_at hl n (cvl_at hv)) (k p e s m args below meth c B H locs ls hl hK hP hD hS hX)
theorem x_aload_n {i : Fin 4} {z : Nat} (n : Nat) (hd : decode μ.2.2.1 pc = .ok (.aload_n i, 1)) (hv : al[n]? = some ((i : Nat), vR z)) (k : XM Γ μ cells slots (pc + 1) al (vR z :: st) P I Q) : XM Γ μ cells slots pc al (st) P I Q := by
  intro p e s m args below meth c B H locs ls hl hK hP hD hS hX
  exact lv_aload_n B.1 B.2.1 hd rfl (lv_at hl n (cvl_at hv)) (k p e s m args below meth c B H locs ls hl hK hP hD hS hX)
theorem x_aload {i : Nat} {z : Nat} (n : Nat) (hd : decode μ.2.2.1 pc = .ok (.aload i, 2)) (hv : al[n]? = some (i, vR z)) (k : XM Γ μ cells slots (pc + 2) al (vR z :: st) P I Q) : XM Γ μ cells slots pc al (st) P I Q := by
  intro p e s m args below meth c B H locs ls hl hK hP hD hS hX
  exact lv_aload B.1 B.2.1 hd (lv_at hl n (cvl_at hv)) (k p e s m args below meth c B H locs ls hl hK hP hD hS hX)
theorem x_istore_n {i : Fin 4} {z : Int} (hd : decode μ.2.2.1 pc = .ok (.istore_n i, 1)) (ha : stL (i : Nat) (vI z) al = al') (hn : noL (i : Nat) al = true) (hL : (i : Nat) < μ.2.2.2.1) (k : XM Γ μ cells slots (pc + 1) al' st P I Q) : XM Γ μ cells slots pc al (vI z :: st) P I Q := by
  intro p e s m args below meth c B H locs ls hl hK hP hD hS hX
  subst ha
  exact lv_istore_n B.1 B.2.1 hd rfl hl hL rfl (fun ls hl2 => k p e s m args below meth c B H locs ls (st_has hl2 hn) hK hP hD hS hX)
theorem x_istore {i : Nat} {z : Int} (hd : decode μ.2.2.1 pc = .ok (.istore i, 2)) (ha : stL i (vI z) al = al') (hn : noL i al = true) (hL : i < μ.2.2.2.1) (k : XM Γ μ cells slots (pc + 2) al' st P I Q) : XM Γ μ cells slots pc al (vI z :: st) P I Q := by
  intro p e s m args below meth c B H locs ls hl hK hP hD hS hX
  subst ha
  exact lv_istore B.1 B.2.1 hd hl hL rfl (fun ls hl2 => k p e s m args below meth c B H locs ls (st_has hl2 hn) hK hP hD hS hX)
theorem x_astore_n {i : Fin 4} {z : Nat} (hd : decode μ.2.2.1 pc = .ok (.astore_n i, 1)) (ha : stL (i : Nat) (vR z) al = al') (hn : noL (i : Nat) al = true) (hL : (i : Nat) < μ.2.2.2.1) (k : XM Γ μ cells slots (pc + 1) al' st P I Q) : XM Γ μ cells slots pc al (vR z :: st) P I Q := by
  intro p e s m args below meth c B H locs ls hl hK hP hD hS hX
  subst ha
  exact lv_astore_n B.1 B.2.1 hd rfl hl hL rfl (fun ls hl2 => k p e s m args below meth c B H locs ls (st_has hl2 hn) hK hP hD hS hX)
theorem x_astore {i : Nat} {z : Nat} (hd : decode μ.2.2.1 pc = .ok (.astore i, 2)) (ha : stL i (vR z) al = al') (hn : noL i al = true) (hL : i < μ.2.2.2.1) (k : XM Γ μ cells slots (pc + 2) al' st P I Q) : XM Γ μ cells slots pc al (vR z :: st) P I Q := by
  intro p e s m args below meth c B H locs ls hl hK hP hD hS hX
  subst ha
  exact lv_astore B.1 B.2.1 hd hl hL rfl (fun ls hl2 => k p e s m args below meth c B H locs ls (st_has hl2 hn) hK hP hD hS hX)
theorem x_lstore_n {i : Fin 4} {z : Int} (hd : decode μ.2.2.1 pc = .ok (.lstore_n i, 1)) (ha : stL (i : Nat) (vL z) al = al') (hn : noL (i : Nat) al = true) (hk : noK ((i : Nat) + 1) al = true) (hL : (i : Nat) + 1 < μ.2.2.2.1) (k : XM Γ μ cells slots (pc + 1) al' st P I Q) : XM Γ μ cells slots pc al (vL z :: st) P I Q := by
  intro p e s m args below meth c B H locs ls hl hK hP hD hS hX
  subst ha
  exact lv_lstore_n B.1 B.2.1 hd rfl hl hL rfl (fun ls hl2 => k p e s m args below meth c B H locs ls (st2_has hl2 hn hk) hK hP hD hS hX)
theorem x_iinc {i : Nat} {c0 z : Int} (n : Nat) (hd : decode μ.2.2.1 pc = .ok (.iinc i c0, 3)) (hv : al[n]? = some (i, vI z)) (ha : stL i (vI (z + c0)) al = al') (hn : noL i al = true) (hL : i < μ.2.2.2.1) (k : XM Γ μ cells slots (pc + 3) al' st P I Q) : XM Γ μ cells slots pc al st P I Q := by
  intro p e s m args below meth c B H locs ls hl hK hP hD hS hX
  subst ha
  exact lv_iinc B.1 B.2.1 hd hl (cvl_at hv) (zi_add z c0) hL rfl (fun ls hl2 => k p e s m args below meth c B H locs ls (st_has hl2 hn) hK hP hD hS hX)
theorem x_iadd {a b : Int} (hd : decode μ.2.2.1 pc = .ok (.iadd, 1))  (k : XM Γ μ cells slots (pc + 1) al (vI (a + b) :: st) P I Q) : XM Γ μ cells slots pc al (vI b :: vI a :: st) P I Q := by
  intro p e s m args below meth c B H locs ls hl hK hP hD hS hX
  refine lv_iadd B.1 B.2.1 hd ?_
  rw [zi_add]
  exact k p e s m args below meth c B H locs ls hl hK hP hD hS hX
theorem x_isub {a b : Int} (hd : decode μ.2.2.1 pc = .ok (.isub, 1))  (k : XM Γ μ cells slots (pc + 1) al (vI (a - b) :: st) P I Q) : XM Γ μ cells slots pc al (vI b :: vI a :: st) P I Q := by
  intro p e s m args below meth c B H locs ls hl hK hP hD hS hX
  refine lv_isub B.1 B.2.1 hd ?_
  rw [zi_sub]
  exact k p e s m args below meth c B H locs ls hl hK hP hD hS hX
theorem x_imul {a b : Int} (hd : decode μ.2.2.1 pc = .ok (.imul, 1))  (k : XM Γ μ cells slots (pc + 1) al (vI (a * b) :: st) P I Q) : XM Γ μ cells slots pc al (vI b :: vI a :: st) P I Q := by
  intro p e s m args below meth c B H locs ls hl hK hP hD hS hX
  refine lv_imul B.1 B.2.1 hd ?_
  rw [zi_mul]
  exact k p e s m args below meth c B H locs ls hl hK hP hD hS hX
theorem x_ladd {a b : Int} (hd : decode μ.2.2.1 pc = .ok (.ladd, 1))  (k : XM Γ μ cells slots (pc + 1) al (vL (a + b) :: st) P I Q) : XM Γ μ cells slots pc al (vL b :: vL a :: st) P I Q := by
  intro p e s m args below meth c B H locs ls hl hK hP hD hS hX
  refine lv_ladd B.1 B.2.1 hd ?_
  rw [zl_add]
  exact k p e s m args below meth c B H locs ls hl hK hP hD hS hX
theorem x_lsub {a b : Int} (hd : decode μ.2.2.1 pc = .ok (.lsub, 1))  (k : XM Γ μ cells slots (pc + 1) al (vL (a - b) :: st) P I Q) : XM Γ μ cells slots pc al (vL b :: vL a :: st) P I Q := by
  intro p e s m args below meth c B H locs ls hl hK hP hD hS hX
  refine lv_lsub B.1 B.2.1 hd ?_
  rw [zl_sub]
  exact k p e s m args below meth c B H locs ls hl hK hP hD hS hX
theorem x_lmul {a b : Int} (hd : decode μ.2.2.1 pc = .ok (.lmul, 1))  (k : XM Γ μ cells slots (pc + 1) al (vL (a * b) :: st) P I Q) : XM Γ μ cells slots pc al (vL b :: vL a :: st) P I Q := by
  intro p e s m args below meth c B H locs ls hl hK hP hD hS hX
  refine lv_lmul B.1 B.2.1 hd ?_
  rw [zl_mul]
  exact k p e s m args below meth c B H locs ls hl hK hP hD hS hX
theorem x_i2l {a : Int} (hd : decode μ.2.2.1 pc = .ok (.i2l, 1)) (h : inR a) (k : XM Γ μ cells slots (pc + 1) al (vL a :: st) P I Q) : XM Γ μ cells slots pc al (vI a :: st) P I Q := by
  intro p e s m args below meth c B H locs ls hl hK hP hD hS hX
  exact lv_i2l B.1 B.2.1 hd (zi_l h) (k p e s m args below meth c B H locs ls hl hK hP hD hS hX)
theorem x_l2i {a : Int} (hd : decode μ.2.2.1 pc = .ok (.l2i, 1))  (k : XM Γ μ cells slots (pc + 1) al (vI a :: st) P I Q) : XM Γ μ cells slots pc al (vL a :: st) P I Q := by
  intro p e s m args below meth c B H locs ls hl hK hP hD hS hX
  exact lv_l2i B.1 B.2.1 hd (zl_i a) (k p e s m args below meth c B H locs ls hl hK hP hD hS hX)
theorem x_dup {v : AV} (hd : decode μ.2.2.1 pc = .ok (.dup, 1)) (h : isLv v = false) (k : XM Γ μ cells slots (pc + 1) al (v :: v :: st) P I Q) : XM Γ μ cells slots pc al (v :: st) P I Q := by
  intro p e s m args below meth c B H locs ls hl hK hP hD hS hX
  exact lv_dup B.1 B.2.1 hd (by rw [cv_cat, h]; rfl) (k p e s m args below meth c B H locs ls hl hK hP hD hS hX)
theorem x_pop {v : AV} (hd : decode μ.2.2.1 pc = .ok (.pop, 1)) (h : isLv v = false) (k : XM Γ μ cells slots (pc + 1) al (st) P I Q) : XM Γ μ cells slots pc al (v :: st) P I Q := by
  intro p e s m args below meth c B H locs ls hl hK hP hD hS hX
  exact lv_pop B.1 B.2.1 hd (by rw [cv_cat, h]; rfl) (k p e s m args below meth c B H locs ls hl hK hP hD hS hX)
theorem x_dup2 {v u : AV} (hd : decode μ.2.2.1 pc = .ok (.dup2, 1)) (h : isLv v = false) (h2 : isLv u = false) (k : XM Γ μ cells slots (pc + 1) al (v :: u :: v :: u :: st) P I Q) : XM Γ μ cells slots pc al (v :: u :: st) P I Q := by
  intro p e s m args below meth c B H locs ls hl hK hP hD hS hX
  exact lv_dup2_11 B.1 B.2.1 hd (by rw [cv_cat, h]; rfl) (by rw [cv_cat, h2]; rfl) (k p e s m args below meth c B H locs ls hl hK hP hD hS hX)
theorem x_icmp_eq {a b : Int} {off : Int} (tgt : Nat) (hd : decode μ.2.2.1 pc = .ok (.if_icmp .eq off, 3)) (ht : (pc : Int) + off = (tgt : Int)) (ha : inR a) (hb : inR b) (kt : a = b → XM Γ μ cells slots tgt al st P I Q) (kf : ¬ a = b → XM Γ μ cells slots (pc + 3) al st P I Q) : XM Γ μ cells slots pc al (vI b :: vI a :: st) P I Q := by
  intro p e s m args below meth c B H locs ls hl hK hP hD hS hX
  exact lv_icmp_eq B.1 B.2.1 hd ht (fun h => kt ((zi_eq ha hb).mp h) p e s m args below meth c B H locs ls hl hK hP hD hS hX) (fun h => kf (fun q => h ((zi_eq ha hb).mpr q)) p e s m args below meth c B H locs ls hl hK hP hD hS hX)
theorem x_icmp_lt {a b : Int} {off : Int} (tgt : Nat) (hd : decode μ.2.2.1 pc = .ok (.if_icmp .lt off, 3)) (ht : (pc : Int) + off = (tgt : Int)) (ha : inR a) (hb : inR b) (kt : a < b → XM Γ μ cells slots tgt al st P I Q) (kf : ¬ a < b → XM Γ μ cells slots (pc + 3) al st P I Q) : XM Γ μ cells slots pc al (vI b :: vI a :: st) P I Q := by
  intro p e s m args below meth c B H locs ls hl hK hP hD hS hX
  exact lv_icmp_lt B.1 B.2.1 hd ht (fun h => kt ((zi_lt ha hb).mp h) p e s m args below meth c B H locs ls hl hK hP hD hS hX) (fun h => kf (fun q => h ((zi_lt ha hb).mpr q)) p e s m args below meth c B H locs ls hl hK hP hD hS hX)
theorem x_icmp_le {a b : Int} {off : Int} (tgt : Nat) (hd : decode μ.2.2.1 pc = .ok (.if_icmp .le off, 3)) (ht : (pc : Int) + off = (tgt : Int)) (ha : inR a) (hb : inR b) (kt : a ≤ b → XM Γ μ cells slots tgt al st P I Q) (kf : ¬ a ≤ b → XM Γ μ cells slots (pc + 3) al st P I Q) : XM Γ μ cells slots pc al (vI b :: vI a :: st) P I Q := by
  intro p e s m args below meth c B H locs ls hl hK hP hD hS hX
  exact lv_icmp_le B.1 B.2.1 hd ht (fun h => kt ((zi_le ha hb).mp h) p e s m args below meth c B H locs ls hl hK hP hD hS hX) (fun h => kf (fun q => h ((zi_le ha hb).mpr q)) p e s m args below meth c B H locs ls hl hK hP hD hS hX)
theorem x_icmp_ne {a b : Int} {off : Int} (tgt : Nat) (hd : decode μ.2.2.1 pc = .ok (.if_icmp .ne off, 3)) (ht : (pc : Int) + off = (tgt : Int)) (ha : inR a) (hb : inR b) (kt : a ≠ b → XM Γ μ cells slots tgt al st P I Q) (kf : a = b → XM Γ μ cells slots (pc + 3) al st P I Q) : XM Γ μ cells slots pc al (vI b :: vI a :: st) P I Q := by
  intro p e s m args below meth c B H locs ls hl hK hP hD hS hX
  exact lv_icmp_ne B.1 B.2.1 hd ht (fun h => kt (fun q => h ((zi_eq ha hb).mpr q)) p e s m args below meth c B H locs ls hl hK hP hD hS hX) (fun h => kf ((zi_eq ha hb).mp h) p e s m args below meth c B H locs ls hl hK hP hD hS hX)
theorem x_icmp_ge {a b : Int} {off : Int} (tgt : Nat) (hd : decode μ.2.2.1 pc = .ok (.if_icmp .ge off, 3)) (ht : (pc : Int) + off = (tgt : Int)) (ha : inR a) (hb : inR b) (kt : b ≤ a → XM Γ μ cells slots tgt al st P I Q) (kf : ¬ b ≤ a → XM Γ μ cells slots (pc + 3) al st P I Q) : XM Γ μ cells slots pc al (vI b :: vI a :: st) P I Q := by
  intro p e s m args below meth c B H locs ls hl hK hP hD hS hX
  exact lv_icmp_ge B.1 B.2.1 hd ht (fun h => kt ((zi_le hb ha).mp h) p e s m args below meth c B H locs ls hl hK hP hD hS hX) (fun h => kf (fun q => h ((zi_le hb ha).mpr q)) p e s m args below meth c B H locs ls hl hK hP hD hS hX)
theorem x_icmp_gt {a b : Int} {off : Int} (tgt : Nat) (hd : decode μ.2.2.1 pc = .ok (.if_icmp .gt off, 3)) (ht : (pc : Int) + off = (tgt : Int)) (ha : inR a) (hb : inR b) (kt : b < a → XM Γ μ cells slots tgt al st P I Q) (kf : ¬ b < a → XM Γ μ cells slots (pc + 3) al st P I Q) : XM Γ μ cells slots pc al (vI b :: vI a :: st) P I Q := by
  intro p e s m args below meth c B H locs ls hl hK hP hD hS hX
  exact lv_icmp_gt B.1 B.2.1 hd ht (fun h => kt ((zi_lt hb ha).mp h) p e s m args below meth c B H locs ls hl hK hP hD hS hX) (fun h => kf (fun q => h ((zi_lt hb ha).mpr q)) p e s m args below meth c B H locs ls hl hK hP hD hS hX)
theorem x_if_eq {a : Int} {off : Int} (tgt : Nat) (hd : decode μ.2.2.1 pc = .ok (.ifCond .eq off, 3)) (ht : (pc : Int) + off = (tgt : Int)) (ha : inR a) (kt : a = 0 → XM Γ μ cells slots tgt al st P I Q) (kf : ¬ a = 0 → XM Γ μ cells slots (pc + 3) al st P I Q) : XM Γ μ cells slots pc al (vI a :: st) P I Q := by
  intro p e s m args below meth c B H locs ls hl hK hP hD hS hX
  exact lv_if_eq B.1 B.2.1 hd ht (fun h => kt ((zi_eq0 ha).mp h) p e s m args below meth c B H locs ls hl hK hP hD hS hX) (fun h => kf (fun q => h ((zi_eq0 ha).mpr q)) p e s m args below meth c B H locs ls hl hK hP hD hS hX)
theorem x_if_ne {a : Int} {off : Int} (tgt : Nat) (hd : decode μ.2.2.1 pc = .ok (.ifCond .ne off, 3)) (ht : (pc : Int) + off = (tgt : Int)) (ha : inR a) (kt : a ≠ 0 → XM Γ μ cells slots tgt al st P I Q) (kf : a = 0 → XM Γ μ cells slots (pc + 3) al st P I Q) : XM Γ μ cells slots pc al (vI a :: st) P I Q := by
  intro p e s m args below meth c B H locs ls hl hK hP hD hS hX
  exact lv_if_ne B.1 B.2.1 hd ht (fun h => kt (fun q => h ((zi_eq0 ha).mpr q)) p e s m args below meth c B H locs ls hl hK hP hD hS hX) (fun h => kf ((zi_eq0 ha).mp h) p e s m args below meth c B H locs ls hl hK hP hD hS hX)
theorem x_if_lt {a : Int} {off : Int} (tgt : Nat) (hd : decode μ.2.2.1 pc = .ok (.ifCond .lt off, 3)) (ht : (pc : Int) + off = (tgt : Int)) (ha : inR a) (kt : a < 0 → XM Γ μ cells slots tgt al st P I Q) (kf : ¬ a < 0 → XM Γ μ cells slots (pc + 3) al st P I Q) : XM Γ μ cells slots pc al (vI a :: st) P I Q := by
  intro p e s m args below meth c B H locs ls hl hK hP hD hS hX
  exact lv_if_lt B.1 B.2.1 hd ht (fun h => kt ((zi_lt0 ha).mp h) p e s m args below meth c B H locs ls hl hK hP hD hS hX) (fun h => kf (fun q => h ((zi_lt0 ha).mpr q)) p e s m args below meth c B H locs ls hl hK hP hD hS hX)
theorem x_if_ge {a : Int} {off : Int} (tgt : Nat) (hd : decode μ.2.2.1 pc = .ok (.ifCond .ge off, 3)) (ht : (pc : Int) + off = (tgt : Int)) (ha : inR a) (kt : 0 ≤ a → XM Γ μ cells slots tgt al st P I Q) (kf : ¬ 0 ≤ a → XM Γ μ cells slots (pc + 3) al st P I Q) : XM Γ μ cells slots pc al (vI a :: st) P I Q := by
  intro p e s m args below meth c B H locs ls hl hK hP hD hS hX
  exact lv_if_ge B.1 B.2.1 hd ht (fun h => kt ((zi_ge0 ha).mp h) p e s m args below meth c B H locs ls hl hK hP hD hS hX) (fun h => kf (fun q => h ((zi_ge0 ha).mpr q)) p e s m args below meth c B H locs ls hl hK hP hD hS hX)
theorem x_if_gt {a : Int} {off : Int} (tgt : Nat) (hd : decode μ.2.2.1 pc = .ok (.ifCond .gt off, 3)) (ht : (pc : Int) + off = (tgt : Int)) (ha : inR a) (kt : 0 < a → XM Γ μ cells slots tgt al st P I Q) (kf : ¬ 0 < a → XM Γ μ cells slots (pc + 3) al st P I Q) : XM Γ μ cells slots pc al (vI a :: st) P I Q := by
  intro p e s m args below meth c B H locs ls hl hK hP hD hS hX
  exact lv_if_gt B.1 B.2.1 hd ht (fun h => kt ((zi_gt0 ha).mp h) p e s m args below meth c B H locs ls hl hK hP hD hS hX) (fun h => kf (fun q => h ((zi_gt0 ha).mpr q)) p e s m args below meth c B H locs ls hl hK hP hD hS hX)
theorem x_if_le {a : Int} {off : Int} (tgt : Nat) (hd : decode μ.2.2.1 pc = .ok (.ifCond .le off, 3)) (ht : (pc : Int) + off = (tgt : Int)) (ha : inR a) (kt : a ≤ 0 → XM Γ μ cells slots tgt al st P I Q) (kf : ¬ a ≤ 0 → XM Γ μ cells slots (pc + 3) al st P I Q) : XM Γ μ cells slots pc al (vI a :: st) P I Q := by
  intro p e s m args below meth c B H locs ls hl hK hP hD hS hX
  exact lv_if_le B.1 B.2.1 hd ht (fun h => kt ((zi_le0 ha).mp h) p e s m args below meth c B H locs ls hl hK hP hD hS hX) (fun h => kf (fun q => h ((zi_le0 ha).mpr q)) p e s m args below meth c B H locs ls hl hK hP hD hS hX)
theorem x_goto {off : Int} (tgt : Nat) (hd : decode μ.2.2.1 pc = .ok (.goto off, 3)) (ht : (pc : Int) + off = (tgt : Int)) (k : XM Γ μ cells slots tgt al st P I Q) : XM Γ μ cells slots pc al st P I Q := by
  intro p e s m args below meth c B H locs ls hl hK hP hD hS hX
  exact lv_goto B.1 B.2.1 hd ht (k p e s m args below meth c B H locs ls hl hK hP hD hS hX)
theorem x_ifnull {off : Int} {i : Nat} (hd : decode μ.2.2.1 pc = .ok (.ifnull off, 3)) (k : XM Γ μ cells slots (pc + 3) al st P I Q) : XM Γ μ cells slots pc al (vR i :: st) P I Q := by
  intro p e s m args below meth c B H locs ls hl hK hP hD hS hX
  exact lv_ifnull B.1 B.2.1 hd (k p e s m args below meth c B H locs ls hl hK hP hD hS hX)
theorem x_tableOut {dflt lo hi a : Int} {offs : Array Int} {len : Nat} (tgt : Nat) (hd : decode μ.2.2.1 pc = .ok (.tableswitch dflt lo hi offs, len)) (ha : inR a) (h : a < lo ∨ hi < a) (ht : (pc : Int) + dflt = (tgt : Int)) (k : XM Γ μ cells slots tgt al st P I Q) : XM Γ μ cells slots pc al (vI a :: st) P I Q := by
  intro p e s m args below meth c B H locs ls hl hK hP hD hS hX
  exact lv_tableOut B.1 B.2.1 hd (by rw [zi_toInt ha]; exact h) ht (k p e s m args below meth c B H locs ls hl hK hP hD hS hX)
theorem x_tableIn {dflt lo hi a off : Int} {offs : Array Int} {len : Nat} (tgt : Nat) (hd : decode μ.2.2.1 pc = .ok (.tableswitch dflt lo hi offs, len)) (ha : inR a) (h1 : ¬ a < lo) (h2 : ¬ hi < a) (ho : offs[(a - lo).toNat]? = some off) (ht : (pc : Int) + off = (tgt : Int)) (k : XM Γ μ cells slots tgt al st P I Q) : XM Γ μ cells slots pc al (vI a :: st) P I Q := by
  intro p e s m args below meth c B H locs ls hl hK hP hD hS hX
  exact lv_tableIn B.1 B.2.1 hd (by rw [zi_toInt ha]; exact h1) (by rw [zi_toInt ha]; exact h2) (by rw [zi_toInt ha]; exact ho) ht (k p e s m args below meth c B H locs ls hl hK hP hD hS hX)
end XR
