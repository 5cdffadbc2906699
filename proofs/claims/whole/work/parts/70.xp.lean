/-! ROWS with any end: as XM's, by a program (mkxp.py) -/
abbrev KT : Type := Array Value → State → Outcome → State → Prop
/-- any end at all -/
abbrev ET : Type := List Frame → Array Value → State → State → Prop
/-- a method's own table of handlers, where it matters -/
abbrev HTB : Type := Option (List (Nat × Nat × Nat × Nat))
def Bn (tb : HTB) (p : Program) (s : State) (m : MethodId) (args : Array Value) (meth : Method) (c : Code) (μ : MI) : Prop := Bd p s m args meth c μ ∧ (μ.1.name = "<init>" → meth.name = μ.1.name) ∧ ∀ h, tb = some h → c.exceptionTable.toList = tableOf h
def XE (tb : HTB) (Γ0 Γ : GG) (μ : MI) (cells slots pc : Nat) (al : List (Nat × AV)) (st : List AV) (P : MP) (I : MM) (Q : ET) : Prop :=
  ∀ (p : Program) (e : Env) (s : State) (m : MethodId) (args : Array Value) (below : List Frame) (meth : Method) (c : Code), Bn tb p s m args meth c μ → ∀ (H : Heap) (locs : List Loc) (ls : Array Slot), lv_has ls μ.2.2.2.1 (cvl (gr Γ) al) → va_K (gD Γ) vwCl (tysK (gk Γ)) s → va_P (gD Γ) vwCl (gw Γ P I) H → va_D (RG Γ0 s.heap.size) (gw Γ P I) → va_S (RG Γ0 s.heap.size) s.heap H locs → RO (gs Γ) (gr Γ) (RG Γ0 s.heap.size) s s.heap →
    W p (gl Γ) e μ.2.2.2.2.2 s m args below meth c H locs cells slots (Q below args s) (F0 m pc ls (st.map (cv (gr Γ))))
/-- the end that is a return -/
abbrev EM (Γ0 : GG) (μ : MI) (Q : KT) : ET := fun below args s => MQ below Q args s μ.2.2.2.2.2.cells μ.2.2.2.2.2.slots (RG Γ0 s.heap.size)
abbrev XP (Γ0 Γ : GG) (μ : MI) (cells slots pc : Nat) (al : List (Nat × AV)) (st : List AV) (P : MP) (I : MM) (Q : KT) : Prop := XE none Γ0 Γ μ cells slots pc al st P I (EM Γ0 μ Q)
theorem rg_of {Γ0 Γ : GG} {P : MP} {I : MM} {a b : Nat} (hD : va_D (RG Γ0 a) (gw Γ P I)) (h : a ≤ b) : ∀ q, RG Γ b q → RG Γ0 a q := by
  intro q hq
  rcases hq with ⟨i, hi, rfl⟩ | hq
  · obtain ⟨k, -, h2⟩ := wl_at (κ := gk Γ) (ρ := gr Γ) (ty := gt Γ) (P := P) (I := I) hi
    exact hD.2 k _ h2
  · exact Or.inr (Nat.le_trans h hq)
theorem ro_call0 {Γ0 Γ : GG} {P : MP} {I : MM} {s U : State} {H : Heap} {locs : List Loc} (hD : va_D (RG Γ0 s.heap.size) (gw Γ P I)) (hU : U.heap = H) (hW : s.WarmedH U.vm) (hS : va_S (RG Γ0 s.heap.size) s.heap H locs) (hX : RO (gs Γ) (gr Γ) (RG Γ0 s.heap.size) s s.heap) : RO (gs Γ) (gr Γ) (RG Γ H.size) U U.heap := by
  rw [hU]
  exact RO.warm hW ((hX.kept (fun a h1 h2 => hS.2.1 a h1 h2)).narrow (rg_of hD hS.1))
/-- behind a call -/
theorem y_run {Γ0 Γ : GG} {P : MP} {I : MM} {cells slots pc : Nat} {st : List AV} {R : QT} {p : Program} {e : Env} {s : State} {m : MethodId} {args : Array Value} {below : List Frame} {meth : Method} {c : Code} {Rm : Room} {Qw : State → Prop} {H : Heap} {locs : List Loc} {ls : Array Slot} {st0 : List Value} {a : Array Value} {mc ms : Nat}
    (hD : va_D (RG Γ0 s.heap.size) (gw Γ P I))
    (hr : va_Run p (gl Γ) e Rm s m args below meth c H locs cells slots mc ms (F0 m pc ls st0) (st.map (cv (gr Γ))) (PQ Γ R a) (RG Γ H.size)) (hS : va_S (RG Γ0 s.heap.size) s.heap H locs)
    (kk : ∀ (v : Option AV) (P' : MP) (I' : MM) (H1 : Heap) (locs1 : List Loc), R v P' I' → va_P (gD Γ) vwCl (gw Γ P' I') H1 → va_S (RG Γ0 s.heap.size) s.heap H1 locs1 → W p (gl Γ) e Rm s m args below meth c H1 locs1 (cells + mc) (slots + ms) Qw (F0 m (pc + 3) ls ((v.toList ++ st).map (cv (gr Γ))))) :
    W p (gl Γ) e Rm s m args below meth c H locs cells slots Qw (F0 m pc ls st0) := by
  intro T hT X
  obtain ⟨v, st₀, t, T', L, h0, X', hL, e1, e2, ⟨⟨v', P', I', hv, hR, hK', hP'⟩, hz, hk⟩, hst⟩ := hr T hT X
  cases hv
  rw [h0] at hz hk
  have hA : ∀ q, RG Γ H.size q → RG Γ0 s.heap.size q := rg_of hD hS.1
  obtain ⟨t2, a1, b1⟩ := kk v' P' I' T'.heap (locs ++ L) hR (by rw [e1]; exact hP')
    ⟨Nat.le_trans hS.1 (by rw [e1]; exact hz), fun q h1 h2 => by rw [e1, hk q (Nat.lt_of_lt_of_le h1 hS.1) (fun z => h2 (hA q z))]; exact hS.2.1 q h1 h2, fun q hq => by
      rcases List.mem_append.mp hq with h | h
      · exact hS.2.2 q h
      · exact hA _ (hL q h)⟩ T' rfl X'
  have e : (v'.map (cv (gr Γ))).toList ++ st.map (cv (gr Γ)) = (v'.toList ++ st).map (cv (gr Γ)) := by cases v' <;> rfl
  rw [e] at hst
  exact ⟨t2, hst t2 a1, b1⟩
section XR
variable {tb : HTB} {Γ0 Γ : GG} {μ : MI} {cells slots pc : Nat} {al al' : List (Nat × AV)} {st : List AV} {P : MP} {I : MM} {Q : ET}
theorem y_sub (ks : List Nat) (hl : pkL al ks = al') (k : XE tb Γ0 Γ μ cells slots pc al' st P I Q) : XE tb Γ0 Γ μ cells slots pc al st P I Q := fun p e s m args below meth c B H locs ls hl2 hK hP hD hS hX => k p e s m args below meth c B H locs ls (pk_has hl2 ks hl) hK hP hD hS hX
theorem y_iconst {n : Int} (hd : decode μ.2.2.1 pc = .ok (.iconst n, 1))  (k : XE tb Γ0 Γ μ cells slots (pc + 1) al (vI n :: st) P I Q) : XE tb Γ0 Γ μ cells slots pc al (st) P I Q := by
  intro p e s m args below meth c B H locs ls hl hK hP hD hS hX
  exact lv_iconst B.1.1 B.1.2.1 hd rfl (k p e s m args below meth c B H locs ls hl hK hP hD hS hX)
theorem y_bipush {n : Int} (hd : decode μ.2.2.1 pc = .ok (.bipush n, 2)) (hn : (Int8.ofInt n).toInt32 = Int32.ofInt n) (k : XE tb Γ0 Γ μ cells slots (pc + 2) al (vI n :: st) P I Q) : XE tb Γ0 Γ μ cells slots pc al (st) P I Q := by
  intro p e s m args below meth c B H locs ls hl hK hP hD hS hX
  exact lv_bipush B.1.1 B.1.2.1 hd hn (k p e s m args below meth c B H locs ls hl hK hP hD hS hX)
theorem y_sipush {n : Int} (hd : decode μ.2.2.1 pc = .ok (.sipush n, 3)) (hn : (Int16.ofInt n).toInt32 = Int32.ofInt n) (k : XE tb Γ0 Γ μ cells slots (pc + 3) al (vI n :: st) P I Q) : XE tb Γ0 Γ μ cells slots pc al (st) P I Q := by
  intro p e s m args below meth c B H locs ls hl hK hP hD hS hX
  exact lv_sipush B.1.1 B.1.2.1 hd hn (k p e s m args below meth c B H locs ls hl hK hP hD hS hX)
theorem y_lconst {n : Fin 2} (z : Int) (hd : decode μ.2.2.1 pc = .ok (.lconst n, 1)) (hn : Int64.ofNat (n : Nat) = Int64.ofInt z) (k : XE tb Γ0 Γ μ cells slots (pc + 1) al (vL z :: st) P I Q) : XE tb Γ0 Γ μ cells slots pc al (st) P I Q := by
  intro p e s m args below meth c B H locs ls hl hK hP hD hS hX
  exact lv_lconst B.1.1 B.1.2.1 hd hn (k p e s m args below meth c B H locs ls hl hK hP hD hS hX)
theorem y_ldc {n : Nat} (z : Int) (hd : decode μ.2.2.1 pc = .ok (.ldc n, 2)) (hc : Cond.constant μ.2.1 n (Int32.ofInt z) ∈ lwU) (k : XE tb Γ0 Γ μ cells slots (pc + 2) al (vI z :: st) P I Q) : XE tb Γ0 Γ μ cells slots pc al (st) P I Q := by
  intro p e s m args below meth c B H locs ls hl hK hP hD hS hX
  exact lv_ldc B.1.1 B.1.2.1 B.1.2.2.2.1 (B.1.2.2.2.2.1 _ hc) hd (k p e s m args below meth c B H locs ls hl hK hP hD hS hX)
theorem y_ldc2 {n : Nat} (z : Int) (hd : decode μ.2.2.1 pc = .ok (.ldc2_w n, 3)) (hc : Cond.constantLong μ.2.1 n (Int64.ofInt z) ∈ lwU) (k : XE tb Γ0 Γ μ cells slots (pc + 3) al (vL z :: st) P I Q) : XE tb Γ0 Γ μ cells slots pc al (st) P I Q := by
  intro p e s m args below meth c B H locs ls hl hK hP hD hS hX
  exact lv_ldc2 B.1.1 B.1.2.1 B.1.2.2.2.1 (B.1.2.2.2.2.1 _ hc) hd (k p e s m args below meth c B H locs ls hl hK hP hD hS hX)
theorem y_iload_n {i : Fin 4} {z : Int} (n : Nat) (hd : decode μ.2.2.1 pc = .ok (.iload_n i, 1)) (hv : al[n]? = some ((i : Nat), vI z)) (k : XE tb Γ0 Γ μ cells slots (pc + 1) al (vI z :: st) P I Q) : XE tb Γ0 Γ μ cells slots pc al (st) P I Q := by
  intro p e s m args below meth c B H locs ls hl hK hP hD hS hX
  exact lv_iload_n B.1.1 B.1.2.1 hd rfl (lv_at hl n (cvl_at hv)) (k p e s m args below meth c B H locs ls hl hK hP hD hS hX)
theorem y_iload {i : Nat} {z : Int} (n : Nat) (hd : decode μ.2.2.1 pc = .ok (.iload i, 2)) (hv : al[n]? = some (i, vI z)) (k : XE tb Γ0 Γ μ cells slots (pc + 2) al (vI z :: st) P I Q) : XE tb Γ0 Γ μ cells slots pc al (st) P I Q := by
  intro p e s m args below meth c B H locs ls hl hK hP hD hS hX
  exact lv_iload B.1.1 B.1.2.1 hd (lv_at hl n (cvl_at hv)) (k p e s m args below meth c B H locs ls hl hK hP hD hS hX)
theorem y_lload_n {i : Fin 4} {z : Int} (n : Nat) (hd : decode μ.2.2.1 pc = .ok (.lload_n i, 1)) (hv : al[n]? = some ((i : Nat), vL z)) (k : XE tb Γ0 Γ μ cells slots (pc + 1) al (vL z :: st) P I Q) : XE tb Γ0 Γ μ cells slots pc al (st) P I Q := by
  intro p e s m args below meth c B H locs ls hl hK hP hD hS hX
  exact lv_lload_n B.1.1 B.1.2.1 hd rfl (lv_at hl n (cvl_at hv)) (k p e s m args below meth c B H locs ls hl hK hP hD hS hX)
theorem y_aload_n {i : Fin 4} {z : Nat} (n : Nat) (hd : decode μ.2.2.1 pc = .ok (.aload_n i, 1)) (hv : al[n]? = some ((i : Nat), vR z)) (k : XE tb Γ0 Γ μ cells slots (pc + 1) al (vR z :: st) P I Q) : XE tb Γ0 Γ μ cells slots pc al (st) P I Q := by
  intro p e s m args below meth c B H locs ls hl hK hP hD hS hX
  exact lv_aload_n B.1.1 B.1.2.1 hd rfl (lv_at hl n (cvl_at hv)) (k p e s m args below meth c B H locs ls hl hK hP hD hS hX)
theorem y_aload {i : Nat} {z : Nat} (n : Nat) (hd : decode μ.2.2.1 pc = .ok (.aload i, 2)) (hv : al[n]? = some (i, vR z)) (k : XE tb Γ0 Γ μ cells slots (pc + 2) al (vR z :: st) P I Q) : XE tb Γ0 Γ μ cells slots pc al (st) P I Q := by
  intro p e s m args below meth c B H locs ls hl hK hP hD hS hX
  exact lv_aload B.1.1 B.1.2.1 hd (lv_at hl n (cvl_at hv)) (k p e s m args below meth c B H locs ls hl hK hP hD hS hX)
theorem y_istore_n {i : Fin 4} {z : Int} (hd : decode μ.2.2.1 pc = .ok (.istore_n i, 1)) (ha : stL (i : Nat) (vI z) al = al') (hn : noL (i : Nat) al = true) (hL : (i : Nat) < μ.2.2.2.1) (k : XE tb Γ0 Γ μ cells slots (pc + 1) al' st P I Q) : XE tb Γ0 Γ μ cells slots pc al (vI z :: st) P I Q := by
  intro p e s m args below meth c B H locs ls hl hK hP hD hS hX
  subst ha
  exact lv_istore_n B.1.1 B.1.2.1 hd rfl hl hL rfl (fun ls hl2 => k p e s m args below meth c B H locs ls (st_has hl2 hn) hK hP hD hS hX)
theorem y_istore {i : Nat} {z : Int} (hd : decode μ.2.2.1 pc = .ok (.istore i, 2)) (ha : stL i (vI z) al = al') (hn : noL i al = true) (hL : i < μ.2.2.2.1) (k : XE tb Γ0 Γ μ cells slots (pc + 2) al' st P I Q) : XE tb Γ0 Γ μ cells slots pc al (vI z :: st) P I Q := by
  intro p e s m args below meth c B H locs ls hl hK hP hD hS hX
  subst ha
  exact lv_istore B.1.1 B.1.2.1 hd hl hL rfl (fun ls hl2 => k p e s m args below meth c B H locs ls (st_has hl2 hn) hK hP hD hS hX)
theorem y_astore_n {i : Fin 4} {z : Nat} (hd : decode μ.2.2.1 pc = .ok (.astore_n i, 1)) (ha : stL (i : Nat) (vR z) al = al') (hn : noL (i : Nat) al = true) (hL : (i : Nat) < μ.2.2.2.1) (k : XE tb Γ0 Γ μ cells slots (pc + 1) al' st P I Q) : XE tb Γ0 Γ μ cells slots pc al (vR z :: st) P I Q := by
  intro p e s m args below meth c B H locs ls hl hK hP hD hS hX
  subst ha
  exact lv_astore_n B.1.1 B.1.2.1 hd rfl hl hL rfl (fun ls hl2 => k p e s m args below meth c B H locs ls (st_has hl2 hn) hK hP hD hS hX)
theorem y_astore {i : Nat} {z : Nat} (hd : decode μ.2.2.1 pc = .ok (.astore i, 2)) (ha : stL i (vR z) al = al') (hn : noL i al = true) (hL : i < μ.2.2.2.1) (k : XE tb Γ0 Γ μ cells slots (pc + 2) al' st P I Q) : XE tb Γ0 Γ μ cells slots pc al (vR z :: st) P I Q := by
  intro p e s m args below meth c B H locs ls hl hK hP hD hS hX
  subst ha
  exact lv_astore B.1.1 B.1.2.1 hd hl hL rfl (fun ls hl2 => k p e s m args below meth c B H locs ls (st_has hl2 hn) hK hP hD hS hX)
theorem y_lstore_n {i : Fin 4} {z : Int} (hd : decode μ.2.2.1 pc = .ok (.lstore_n i, 1)) (ha : stL (i : Nat) (vL z) al = al') (hn : noL (i : Nat) al = true) (hk : noK ((i : Nat) + 1) al = true) (hL : (i : Nat) + 1 < μ.2.2.2.1) (k : XE tb Γ0 Γ μ cells slots (pc + 1) al' st P I Q) : XE tb Γ0 Γ μ cells slots pc al (vL z :: st) P I Q := by
  intro p e s m args below meth c B H locs ls hl hK hP hD hS hX
  subst ha
  exact lv_lstore_n B.1.1 B.1.2.1 hd rfl hl hL rfl (fun ls hl2 => k p e s m args below meth c B H locs ls (st2_has hl2 hn hk) hK hP hD hS hX)
theorem y_iinc {i : Nat} {c0 z : Int} (n : Nat) (hd : decode μ.2.2.1 pc = .ok (.iinc i c0, 3)) (hv : al[n]? = some (i, vI z)) (ha : stL i (vI (z + c0)) al = al') (hn : noL i al = true) (hL : i < μ.2.2.2.1) (k : XE tb Γ0 Γ μ cells slots (pc + 3) al' st P I Q) : XE tb Γ0 Γ μ cells slots pc al st P I Q := by
  intro p e s m args below meth c B H locs ls hl hK hP hD hS hX
  subst ha
  exact lv_iinc B.1.1 B.1.2.1 hd hl (cvl_at hv) (zi_add z c0) hL rfl (fun ls hl2 => k p e s m args below meth c B H locs ls (st_has hl2 hn) hK hP hD hS hX)
theorem y_iadd {a b : Int} (hd : decode μ.2.2.1 pc = .ok (.iadd, 1))  (k : XE tb Γ0 Γ μ cells slots (pc + 1) al (vI (a + b) :: st) P I Q) : XE tb Γ0 Γ μ cells slots pc al (vI b :: vI a :: st) P I Q := by
  intro p e s m args below meth c B H locs ls hl hK hP hD hS hX
  refine lv_iadd B.1.1 B.1.2.1 hd ?_
  rw [zi_add]
  exact k p e s m args below meth c B H locs ls hl hK hP hD hS hX
theorem y_isub {a b : Int} (hd : decode μ.2.2.1 pc = .ok (.isub, 1))  (k : XE tb Γ0 Γ μ cells slots (pc + 1) al (vI (a - b) :: st) P I Q) : XE tb Γ0 Γ μ cells slots pc al (vI b :: vI a :: st) P I Q := by
  intro p e s m args below meth c B H locs ls hl hK hP hD hS hX
  refine lv_isub B.1.1 B.1.2.1 hd ?_
  rw [zi_sub]
  exact k p e s m args below meth c B H locs ls hl hK hP hD hS hX
theorem y_imul {a b : Int} (hd : decode μ.2.2.1 pc = .ok (.imul, 1))  (k : XE tb Γ0 Γ μ cells slots (pc + 1) al (vI (a * b) :: st) P I Q) : XE tb Γ0 Γ μ cells slots pc al (vI b :: vI a :: st) P I Q := by
  intro p e s m args below meth c B H locs ls hl hK hP hD hS hX
  refine lv_imul B.1.1 B.1.2.1 hd ?_
  rw [zi_mul]
  exact k p e s m args below meth c B H locs ls hl hK hP hD hS hX
theorem y_ladd {a b : Int} (hd : decode μ.2.2.1 pc = .ok (.ladd, 1))  (k : XE tb Γ0 Γ μ cells slots (pc + 1) al (vL (a + b) :: st) P I Q) : XE tb Γ0 Γ μ cells slots pc al (vL b :: vL a :: st) P I Q := by
  intro p e s m args below meth c B H locs ls hl hK hP hD hS hX
  refine lv_ladd B.1.1 B.1.2.1 hd ?_
  rw [zl_add]
  exact k p e s m args below meth c B H locs ls hl hK hP hD hS hX
theorem y_lsub {a b : Int} (hd : decode μ.2.2.1 pc = .ok (.lsub, 1))  (k : XE tb Γ0 Γ μ cells slots (pc + 1) al (vL (a - b) :: st) P I Q) : XE tb Γ0 Γ μ cells slots pc al (vL b :: vL a :: st) P I Q := by
  intro p e s m args below meth c B H locs ls hl hK hP hD hS hX
  refine lv_lsub B.1.1 B.1.2.1 hd ?_
  rw [zl_sub]
  exact k p e s m args below meth c B H locs ls hl hK hP hD hS hX
theorem y_lmul {a b : Int} (hd : decode μ.2.2.1 pc = .ok (.lmul, 1))  (k : XE tb Γ0 Γ μ cells slots (pc + 1) al (vL (a * b) :: st) P I Q) : XE tb Γ0 Γ μ cells slots pc al (vL b :: vL a :: st) P I Q := by
  intro p e s m args below meth c B H locs ls hl hK hP hD hS hX
  refine lv_lmul B.1.1 B.1.2.1 hd ?_
  rw [zl_mul]
  exact k p e s m args below meth c B H locs ls hl hK hP hD hS hX
theorem y_i2l {a : Int} (hd : decode μ.2.2.1 pc = .ok (.i2l, 1)) (h : inR a) (k : XE tb Γ0 Γ μ cells slots (pc + 1) al (vL a :: st) P I Q) : XE tb Γ0 Γ μ cells slots pc al (vI a :: st) P I Q := by
  intro p e s m args below meth c B H locs ls hl hK hP hD hS hX
  exact lv_i2l B.1.1 B.1.2.1 hd (zi_l h) (k p e s m args below meth c B H locs ls hl hK hP hD hS hX)
theorem y_l2i {a : Int} (hd : decode μ.2.2.1 pc = .ok (.l2i, 1))  (k : XE tb Γ0 Γ μ cells slots (pc + 1) al (vI a :: st) P I Q) : XE tb Γ0 Γ μ cells slots pc al (vL a :: st) P I Q := by
  intro p e s m args below meth c B H locs ls hl hK hP hD hS hX
  exact lv_l2i B.1.1 B.1.2.1 hd (zl_i a) (k p e s m args below meth c B H locs ls hl hK hP hD hS hX)
theorem y_dup {v : AV} (hd : decode μ.2.2.1 pc = .ok (.dup, 1)) (h : isLv v = false) (k : XE tb Γ0 Γ μ cells slots (pc + 1) al (v :: v :: st) P I Q) : XE tb Γ0 Γ μ cells slots pc al (v :: st) P I Q := by
  intro p e s m args below meth c B H locs ls hl hK hP hD hS hX
  exact lv_dup B.1.1 B.1.2.1 hd (by rw [cv_cat, h]; rfl) (k p e s m args below meth c B H locs ls hl hK hP hD hS hX)
theorem y_pop {v : AV} (hd : decode μ.2.2.1 pc = .ok (.pop, 1)) (h : isLv v = false) (k : XE tb Γ0 Γ μ cells slots (pc + 1) al (st) P I Q) : XE tb Γ0 Γ μ cells slots pc al (v :: st) P I Q := by
  intro p e s m args below meth c B H locs ls hl hK hP hD hS hX
  exact lv_pop B.1.1 B.1.2.1 hd (by rw [cv_cat, h]; rfl) (k p e s m args below meth c B H locs ls hl hK hP hD hS hX)
theorem y_dup2 {v u : AV} (hd : decode μ.2.2.1 pc = .ok (.dup2, 1)) (h : isLv v = false) (h2 : isLv u = false) (k : XE tb Γ0 Γ μ cells slots (pc + 1) al (v :: u :: v :: u :: st) P I Q) : XE tb Γ0 Γ μ cells slots pc al (v :: u :: st) P I Q := by
  intro p e s m args below meth c B H locs ls hl hK hP hD hS hX
  exact lv_dup2_11 B.1.1 B.1.2.1 hd (by rw [cv_cat, h]; rfl) (by rw [cv_cat, h2]; rfl) (k p e s m args below meth c B H locs ls hl hK hP hD hS hX)
theorem y_icmp_eq {a b : Int} {off : Int} (tgt : Nat) (hd : decode μ.2.2.1 pc = .ok (.if_icmp .eq off, 3)) (ht : (pc : Int) + off = (tgt : Int)) (ha : inR a) (hb : inR b) (kt : a = b → XE tb Γ0 Γ μ cells slots tgt al st P I Q) (kf : ¬ a = b → XE tb Γ0 Γ μ cells slots (pc + 3) al st P I Q) : XE tb Γ0 Γ μ cells slots pc al (vI b :: vI a :: st) P I Q := by
  intro p e s m args below meth c B H locs ls hl hK hP hD hS hX
  exact lv_icmp_eq B.1.1 B.1.2.1 hd ht (fun h => kt ((zi_eq ha hb).mp h) p e s m args below meth c B H locs ls hl hK hP hD hS hX) (fun h => kf (fun q => h ((zi_eq ha hb).mpr q)) p e s m args below meth c B H locs ls hl hK hP hD hS hX)
theorem y_icmp_lt {a b : Int} {off : Int} (tgt : Nat) (hd : decode μ.2.2.1 pc = .ok (.if_icmp .lt off, 3)) (ht : (pc : Int) + off = (tgt : Int)) (ha : inR a) (hb : inR b) (kt : a < b → XE tb Γ0 Γ μ cells slots tgt al st P I Q) (kf : ¬ a < b → XE tb Γ0 Γ μ cells slots (pc + 3) al st P I Q) : XE tb Γ0 Γ μ cells slots pc al (vI b :: vI a :: st) P I Q := by
  intro p e s m args below meth c B H locs ls hl hK hP hD hS hX
  exact lv_icmp_lt B.1.1 B.1.2.1 hd ht (fun h => kt ((zi_lt ha hb).mp h) p e s m args below meth c B H locs ls hl hK hP hD hS hX) (fun h => kf (fun q => h ((zi_lt ha hb).mpr q)) p e s m args below meth c B H locs ls hl hK hP hD hS hX)
theorem y_icmp_le {a b : Int} {off : Int} (tgt : Nat) (hd : decode μ.2.2.1 pc = .ok (.if_icmp .le off, 3)) (ht : (pc : Int) + off = (tgt : Int)) (ha : inR a) (hb : inR b) (kt : a ≤ b → XE tb Γ0 Γ μ cells slots tgt al st P I Q) (kf : ¬ a ≤ b → XE tb Γ0 Γ μ cells slots (pc + 3) al st P I Q) : XE tb Γ0 Γ μ cells slots pc al (vI b :: vI a :: st) P I Q := by
  intro p e s m args below meth c B H locs ls hl hK hP hD hS hX
  exact lv_icmp_le B.1.1 B.1.2.1 hd ht (fun h => kt ((zi_le ha hb).mp h) p e s m args below meth c B H locs ls hl hK hP hD hS hX) (fun h => kf (fun q => h ((zi_le ha hb).mpr q)) p e s m args below meth c B H locs ls hl hK hP hD hS hX)
theorem y_icmp_ne {a b : Int} {off : Int} (tgt : Nat) (hd : decode μ.2.2.1 pc = .ok (.if_icmp .ne off, 3)) (ht : (pc : Int) + off = (tgt : Int)) (ha : inR a) (hb : inR b) (kt : a ≠ b → XE tb Γ0 Γ μ cells slots tgt al st P I Q) (kf : a = b → XE tb Γ0 Γ μ cells slots (pc + 3) al st P I Q) : XE tb Γ0 Γ μ cells slots pc al (vI b :: vI a :: st) P I Q := by
  intro p e s m args below meth c B H locs ls hl hK hP hD hS hX
  exact lv_icmp_ne B.1.1 B.1.2.1 hd ht (fun h => kt (fun q => h ((zi_eq ha hb).mpr q)) p e s m args below meth c B H locs ls hl hK hP hD hS hX) (fun h => kf ((zi_eq ha hb).mp h) p e s m args below meth c B H locs ls hl hK hP hD hS hX)
theorem y_icmp_ge {a b : Int} {off : Int} (tgt : Nat) (hd : decode μ.2.2.1 pc = .ok (.if_icmp .ge off, 3)) (ht : (pc : Int) + off = (tgt : Int)) (ha : inR a) (hb : inR b) (kt : b ≤ a → XE tb Γ0 Γ μ cells slots tgt al st P I Q) (kf : ¬ b ≤ a → XE tb Γ0 Γ μ cells slots (pc + 3) al st P I Q) : XE tb Γ0 Γ μ cells slots pc al (vI b :: vI a :: st) P I Q := by
  intro p e s m args below meth c B H locs ls hl hK hP hD hS hX
  exact lv_icmp_ge B.1.1 B.1.2.1 hd ht (fun h => kt ((zi_le hb ha).mp h) p e s m args below meth c B H locs ls hl hK hP hD hS hX) (fun h => kf (fun q => h ((zi_le hb ha).mpr q)) p e s m args below meth c B H locs ls hl hK hP hD hS hX)
theorem y_icmp_gt {a b : Int} {off : Int} (tgt : Nat) (hd : decode μ.2.2.1 pc = .ok (.if_icmp .gt off, 3)) (ht : (pc : Int) + off = (tgt : Int)) (ha : inR a) (hb : inR b) (kt : b < a → XE tb Γ0 Γ μ cells slots tgt al st P I Q) (kf : ¬ b < a → XE tb Γ0 Γ μ cells slots (pc + 3) al st P I Q) : XE tb Γ0 Γ μ cells slots pc al (vI b :: vI a :: st) P I Q := by
  intro p e s m args below meth c B H locs ls hl hK hP hD hS hX
  exact lv_icmp_gt B.1.1 B.1.2.1 hd ht (fun h => kt ((zi_lt hb ha).mp h) p e s m args below meth c B H locs ls hl hK hP hD hS hX) (fun h => kf (fun q => h ((zi_lt hb ha).mpr q)) p e s m args below meth c B H locs ls hl hK hP hD hS hX)
theorem y_if_eq {a : Int} {off : Int} (tgt : Nat) (hd : decode μ.2.2.1 pc = .ok (.ifCond .eq off, 3)) (ht : (pc : Int) + off = (tgt : Int)) (ha : inR a) (kt : a = 0 → XE tb Γ0 Γ μ cells slots tgt al st P I Q) (kf : ¬ a = 0 → XE tb Γ0 Γ μ cells slots (pc + 3) al st P I Q) : XE tb Γ0 Γ μ cells slots pc al (vI a :: st) P I Q := by
  intro p e s m args below meth c B H locs ls hl hK hP hD hS hX
  exact lv_if_eq B.1.1 B.1.2.1 hd ht (fun h => kt ((zi_eq0 ha).mp h) p e s m args below meth c B H locs ls hl hK hP hD hS hX) (fun h => kf (fun q => h ((zi_eq0 ha).mpr q)) p e s m args below meth c B H locs ls hl hK hP hD hS hX)
theorem y_if_ne {a : Int} {off : Int} (tgt : Nat) (hd : decode μ.2.2.1 pc = .ok (.ifCond .ne off, 3)) (ht : (pc : Int) + off = (tgt : Int)) (ha : inR a) (kt : a ≠ 0 → XE tb Γ0 Γ μ cells slots tgt al st P I Q) (kf : a = 0 → XE tb Γ0 Γ μ cells slots (pc + 3) al st P I Q) : XE tb Γ0 Γ μ cells slots pc al (vI a :: st) P I Q := by
  intro p e s m args below meth c B H locs ls hl hK hP hD hS hX
  exact lv_if_ne B.1.1 B.1.2.1 hd ht (fun h => kt (fun q => h ((zi_eq0 ha).mpr q)) p e s m args below meth c B H locs ls hl hK hP hD hS hX) (fun h => kf ((zi_eq0 ha).mp h) p e s m args below meth c B H locs ls hl hK hP hD hS hX)
theorem y_if_lt {a : Int} {off : Int} (tgt : Nat) (hd : decode μ.2.2.1 pc = .ok (.ifCond .lt off, 3)) (ht : (pc : Int) + off = (tgt : Int)) (ha : inR a) (kt : a < 0 → XE tb Γ0 Γ μ cells slots tgt al st P I Q) (kf : ¬ a < 0 → XE tb Γ0 Γ μ cells slots (pc + 3) al st P I Q) : XE tb Γ0 Γ μ cells slots pc al (vI a :: st) P I Q := by
  intro p e s m args below meth c B H locs ls hl hK hP hD hS hX
  exact lv_if_lt B.1.1 B.1.2.1 hd ht (fun h => kt ((zi_lt0 ha).mp h) p e s m args below meth c B H locs ls hl hK hP hD hS hX) (fun h => kf (fun q => h ((zi_lt0 ha).mpr q)) p e s m args below meth c B H locs ls hl hK hP hD hS hX)
theorem y_if_ge {a : Int} {off : Int} (tgt : Nat) (hd : decode μ.2.2.1 pc = .ok (.ifCond .ge off, 3)) (ht : (pc : Int) + off = (tgt : Int)) (ha : inR a) (kt : 0 ≤ a → XE tb Γ0 Γ μ cells slots tgt al st P I Q) (kf : ¬ 0 ≤ a → XE tb Γ0 Γ μ cells slots (pc + 3) al st P I Q) : XE tb Γ0 Γ μ cells slots pc al (vI a :: st) P I Q := by
  intro p e s m args below meth c B H locs ls hl hK hP hD hS hX
  exact lv_if_ge B.1.1 B.1.2.1 hd ht (fun h => kt ((zi_ge0 ha).mp h) p e s m args below meth c B H locs ls hl hK hP hD hS hX) (fun h => kf (fun q => h ((zi_ge0 ha).mpr q)) p e s m args below meth c B H locs ls hl hK hP hD hS hX)
theorem y_if_gt {a : Int} {off : Int} (tgt : Nat) (hd : decode μ.2.2.1 pc = .ok (.ifCond .gt off, 3)) (ht : (pc : Int) + off = (tgt : Int)) (ha : inR a) (kt : 0 < a → XE tb Γ0 Γ μ cells slots tgt al st P I Q) (kf : ¬ 0 < a → XE tb Γ0 Γ μ cells slots (pc + 3) al st P I Q) : XE tb Γ0 Γ μ cells slots pc al (vI a :: st) P I Q := by
  intro p e s m args below meth c B H locs ls hl hK hP hD hS hX
  exact lv_if_gt B.1.1 B.1.2.1 hd ht (fun h => kt ((zi_gt0 ha).mp h) p e s m args below meth c B H locs ls hl hK hP hD hS hX) (fun h => kf (fun q => h ((zi_gt0 ha).mpr q)) p e s m args below meth c B H locs ls hl hK hP hD hS hX)
theorem y_if_le {a : Int} {off : Int} (tgt : Nat) (hd : decode μ.2.2.1 pc = .ok (.ifCond .le off, 3)) (ht : (pc : Int) + off = (tgt : Int)) (ha : inR a) (kt : a ≤ 0 → XE tb Γ0 Γ μ cells slots tgt al st P I Q) (kf : ¬ a ≤ 0 → XE tb Γ0 Γ μ cells slots (pc + 3) al st P I Q) : XE tb Γ0 Γ μ cells slots pc al (vI a :: st) P I Q := by
  intro p e s m args below meth c B H locs ls hl hK hP hD hS hX
  exact lv_if_le B.1.1 B.1.2.1 hd ht (fun h => kt ((zi_le0 ha).mp h) p e s m args below meth c B H locs ls hl hK hP hD hS hX) (fun h => kf (fun q => h ((zi_le0 ha).mpr q)) p e s m args below meth c B H locs ls hl hK hP hD hS hX)
theorem y_goto {off : Int} (tgt : Nat) (hd : decode μ.2.2.1 pc = .ok (.goto off, 3)) (ht : (pc : Int) + off = (tgt : Int)) (k : XE tb Γ0 Γ μ cells slots tgt al st P I Q) : XE tb Γ0 Γ μ cells slots pc al st P I Q := by
  intro p e s m args below meth c B H locs ls hl hK hP hD hS hX
  exact lv_goto B.1.1 B.1.2.1 hd ht (k p e s m args below meth c B H locs ls hl hK hP hD hS hX)
theorem y_ifnull {off : Int} {i : Nat} (hd : decode μ.2.2.1 pc = .ok (.ifnull off, 3)) (k : XE tb Γ0 Γ μ cells slots (pc + 3) al st P I Q) : XE tb Γ0 Γ μ cells slots pc al (vR i :: st) P I Q := by
  intro p e s m args below meth c B H locs ls hl hK hP hD hS hX
  exact lv_ifnull B.1.1 B.1.2.1 hd (k p e s m args below meth c B H locs ls hl hK hP hD hS hX)
theorem y_tableOut {dflt lo hi a : Int} {offs : Array Int} {len : Nat} (tgt : Nat) (hd : decode μ.2.2.1 pc = .ok (.tableswitch dflt lo hi offs, len)) (ha : inR a) (h : a < lo ∨ hi < a) (ht : (pc : Int) + dflt = (tgt : Int)) (k : XE tb Γ0 Γ μ cells slots tgt al st P I Q) : XE tb Γ0 Γ μ cells slots pc al (vI a :: st) P I Q := by
  intro p e s m args below meth c B H locs ls hl hK hP hD hS hX
  exact lv_tableOut B.1.1 B.1.2.1 hd (by rw [zi_toInt ha]; exact h) ht (k p e s m args below meth c B H locs ls hl hK hP hD hS hX)
theorem y_tableIn {dflt lo hi a off : Int} {offs : Array Int} {len : Nat} (tgt : Nat) (hd : decode μ.2.2.1 pc = .ok (.tableswitch dflt lo hi offs, len)) (ha : inR a) (h1 : ¬ a < lo) (h2 : ¬ hi < a) (ho : offs[(a - lo).toNat]? = some off) (ht : (pc : Int) + off = (tgt : Int)) (k : XE tb Γ0 Γ μ cells slots tgt al st P I Q) : XE tb Γ0 Γ μ cells slots pc al (vI a :: st) P I Q := by
  intro p e s m args below meth c B H locs ls hl hK hP hD hS hX
  exact lv_tableIn B.1.1 B.1.2.1 hd (by rw [zi_toInt ha]; exact h1) (by rw [zi_toInt ha]; exact h2) (by rw [zi_toInt ha]; exact ho) ht (k p e s m args below meth c B H locs ls hl hK hP hD hS hX)
end XR
section XR
variable {tb : HTB} {Γ0 Γ : GG} {μ : MI} {cells slots pc : Nat} {al al' : List (Nat × AV)} {st : List AV} {P : MP} {I : MM} {Q : ET}
theorem y_getI {ci i index : Nat} {C : String} {T : u_T} {N : Nat} (hd : decode μ.2.2.1 pc = .ok (.getfield index, 3)) (F : FCok ci C T N) (k : Nat) (hk : k < N) (hr : isRefT (tyC ci k) = false) (hf : Cond.fieldLink μ.2.1 index (T k).1 (T k).2.1 (T k).2.2.1 ∈ lwU) (ho : Ob Γ i (.inl ci)) (kk : XE tb Γ0 Γ μ cells slots (pc + 3) al (vI (I i k) :: st) P I Q) : XE tb Γ0 Γ μ cells slots pc al (vR i :: st) P I Q := by
  intro p e s m args below meth c B H locs ls hl hK hP hD hS hX
  obtain ⟨q0, hq, he⟩ := ho.obj P I
  refine va_get B.1.1 B.1.2.1 B.1.2.2.2.2.1 F.2.2.1 B.1.2.2.2.1 hK hP q0 he F.1 k hk (B.1.2.2.2.2.1 _ hf) (fun _ h => h) (v := .int (Int32.ofInt (I i k))) ?_ hd (kk p e s m args below meth c B H locs ls hl hK hP hD hS hX)
  rw [fvs_at (by rw [← F.2.1]; exact hk)]
  simp [fv, hr]
theorem y_getP {ci i r index : Nat} {C : String} {T : u_T} {N : Nat} (hd : decode μ.2.2.1 pc = .ok (.getfield index, 3)) (F : FCok ci C T N) (k : Nat) (hk : k < N) (hr : isRefT (tyC ci k) = true) (hf : Cond.fieldLink μ.2.1 index (T k).1 (T k).2.1 (T k).2.2.1 ∈ lwU) (ho : Ob Γ i (.inl ci)) (hp : P i k = some r) (kk : XE tb Γ0 Γ μ cells slots (pc + 3) al (vR r :: st) P I Q) : XE tb Γ0 Γ μ cells slots pc al (vR i :: st) P I Q := by
  intro p e s m args below meth c B H locs ls hl hK hP hD hS hX
  obtain ⟨q0, hq, he⟩ := ho.obj P I
  refine va_get B.1.1 B.1.2.1 B.1.2.2.2.2.1 F.2.2.1 B.1.2.2.2.1 hK hP q0 he F.1 k hk (B.1.2.2.2.2.1 _ hf) (fun _ h => h) (v := .ref (gr Γ r)) ?_ hd (kk p e s m args below meth c B H locs ls hl hK hP hD hS hX)
  rw [fvs_at (by rw [← F.2.1]; exact hk)]
  simp [fv, hr, hp, va_rf]
theorem y_putI0 {ci i index : Nat} {z : Int} {C : String} {T : u_T} {N : Nat} (hd : decode μ.2.2.1 pc = .ok (.putfield index, 3)) (F : FCok ci C T N) (k : Nat) (hk : k < N) (hr : isRefT (tyC ci k) = false) (hfin : (T k).2.2.2 = false) (hn : narrow (tyC ci k) (.int (Int32.ofInt z)) = .int (Int32.ofInt z)) (hfit : fits (tyC ci k) (.int (Int32.ofInt z)) = true) (hf : Cond.fieldLink μ.2.1 index (T k).1 (T k).2.1 (T k).2.2.1 ∈ lwU) (ho : Ob Γ i (.inl ci)) (kk : XE tb Γ0 Γ μ cells slots (pc + 3) al st P (up2 I i k z) Q) : XE tb Γ0 Γ μ cells slots pc al (vI z :: vR i :: st) P I Q := by
  intro p e s m args below meth c B H locs ls hl hK hP hD hS hX
  obtain ⟨q0, hq, he⟩ := ho.obj P I
  refine va_put B.1.1 B.1.2.1 B.1.2.2.2.2.1 F.2.2.1 (tyC ci) F.2.2.2.1 F.2.2.2.2 B.1.2.2.2.1 hK hP hD hS q0 he F.1 k hk (B.1.2.2.2.2.1 _ hf) (fun _ h => h) hfin (F.2.2.2.1 k hk) hn hfit (by simp only [fvs, List.length_map, List.length_range]; rw [← F.2.1]; exact hk) hd (fun H1 locs1 hP1 hD1 hS1 => ?_)
  have hP1 : va_P (gD Γ) vwCl ((gw Γ P I).set q0 (gr Γ i, .inr (ci, (fvs (gr Γ) P I i ci).set k (.int (Int32.ofInt z))))) H1 := hP1
  have hset : (gw Γ P I).set q0 (gr Γ i, .inr (ci, (fvs (gr Γ) P I i ci).set k (.int (Int32.ofInt z)))) = gw Γ P (up2 I i k z) := wl_set hD hq (by simp only [cw, ho.2]; rw [fvs_setI hr]) cw_neI
  rw [hset] at hP1
  exact kk p e s m args below meth c B H1 locs1 ls hl hK hP1 (gw_D hD) hS1 hX
theorem y_putI {ci i index : Nat} {z : Int} {C : String} {T : u_T} {N : Nat} (hd : decode μ.2.2.1 pc = .ok (.putfield index, 3)) (F : FCok ci C T N) (k : Nat) (hk : k < N) (hr : tyC ci k = .int) (hfin : (T k).2.2.2 = false) (hf : Cond.fieldLink μ.2.1 index (T k).1 (T k).2.1 (T k).2.2.1 ∈ lwU) (ho : Ob Γ i (.inl ci)) (kk : XE tb Γ0 Γ μ cells slots (pc + 3) al st P (up2 I i k z) Q) : XE tb Γ0 Γ μ cells slots pc al (vI z :: vR i :: st) P I Q :=
  y_putI0 hd F k hk (by rw [hr]; rfl) hfin (by rw [hr]; rfl) (by rw [hr]; rfl) hf ho kk
theorem y_putZ {ci i index : Nat} {z : Int} {C : String} {T : u_T} {N : Nat} (hd : decode μ.2.2.1 pc = .ok (.putfield index, 3)) (F : FCok ci C T N) (k : Nat) (hk : k < N) (hr : tyC ci k = .boolean) (hfin : (T k).2.2.2 = false) (hz : z = 0 ∨ z = 1) (hf : Cond.fieldLink μ.2.1 index (T k).1 (T k).2.1 (T k).2.2.1 ∈ lwU) (ho : Ob Γ i (.inl ci)) (kk : XE tb Γ0 Γ μ cells slots (pc + 3) al st P (up2 I i k z) Q) : XE tb Γ0 Γ μ cells slots pc al (vI z :: vR i :: st) P I Q :=
  y_putI0 hd F k hk (by rw [hr]; rfl) hfin (by rw [hr]; rcases hz with rfl | rfl <;> rfl) (by rw [hr]; rcases hz with rfl | rfl <;> rfl) hf ho kk
theorem y_putP {ci i r index : Nat} {C : String} {T : u_T} {N : Nat} (hd : decode μ.2.2.1 pc = .ok (.putfield index, 3)) (F : FCok ci C T N) (k : Nat) (hk : k < N) (hr : isRefT (tyC ci k) = true) (hfin : (T k).2.2.2 = false) (hf : Cond.fieldLink μ.2.1 index (T k).1 (T k).2.1 (T k).2.2.1 ∈ lwU) (ho : Ob Γ i (.inl ci)) (kk : XE tb Γ0 Γ μ cells slots (pc + 3) al st (up2 P i k (some r)) I Q) : XE tb Γ0 Γ μ cells slots pc al (vR r :: vR i :: st) P I Q := by
  intro p e s m args below meth c B H locs ls hl hK hP hD hS hX
  obtain ⟨q0, hq, he⟩ := ho.obj P I
  have hnf : narrow (tyC ci k) (.ref (gr Γ r)) = .ref (gr Γ r) ∧ fits (tyC ci k) (.ref (gr Γ r)) = true := by
    generalize tyC ci k = t at hr
    cases t <;> first | (simp [isRefT] at hr; done) | exact ⟨rfl, rfl⟩
  refine va_put B.1.1 B.1.2.1 B.1.2.2.2.2.1 F.2.2.1 (tyC ci) F.2.2.2.1 F.2.2.2.2 B.1.2.2.2.1 hK hP hD hS q0 he F.1 k hk (B.1.2.2.2.2.1 _ hf) (fun _ h => h) hfin (F.2.2.2.1 k hk) hnf.1 hnf.2 (by simp only [fvs, List.length_map, List.length_range]; rw [← F.2.1]; exact hk) hd (fun H1 locs1 hP1 hD1 hS1 => ?_)
  have hP1 : va_P (gD Γ) vwCl ((gw Γ P I).set q0 (gr Γ i, .inr (ci, (fvs (gr Γ) P I i ci).set k (.ref (gr Γ r))))) H1 := hP1
  have hset : (gw Γ P I).set q0 (gr Γ i, .inr (ci, (fvs (gr Γ) P I i ci).set k (.ref (gr Γ r)))) = gw Γ (up2 P i k (some r)) I := wl_set hD hq (by simp only [cw, ho.2]; rw [← fvs_setP hr]; rfl) cw_neP
  rw [hset] at hP1
  exact kk p e s m args below meth c B H1 locs1 ls hl hK hP1 (gw_D hD) hS1 hX
/-! arrays -/
theorem y_iald {i n : Nat} {j : Int} (hd : decode μ.2.2.1 pc = .ok (.iaload, 1)) (ho : Ob Γ i (.inr (0, n))) (h0 : 0 ≤ j) (h1 : j < n) (hn : n < 2147483648) (kk : XE tb Γ0 Γ μ cells slots (pc + 1) al (vI (I i j.toNat) :: st) P I Q) : XE tb Γ0 Γ μ cells slots pc al (vI j :: vR i :: st) P I Q := by
  intro p e s m args below meth c B H locs ls hl hK hP hD hS hX
  obtain ⟨q0, hq, he⟩ := ho.arr P I
  refine va_iald B.1.1 B.1.2.1 hK hP q0 0 he rfl (zi_in h0 h1 hn) hd ?_
  rw [zi_nat h0 (by omega)]
  exact kk p e s m args below meth c B H locs ls hl hK hP hD hS hX
theorem y_bald {i n : Nat} {j : Int} (hd : decode μ.2.2.1 pc = .ok (.baload, 1)) (ho : Ob Γ i (.inr (1, n))) (h0 : 0 ≤ j) (h1 : j < n) (hn : n < 2147483648) (kk : XE tb Γ0 Γ μ cells slots (pc + 1) al (vI (I i j.toNat) :: st) P I Q) : XE tb Γ0 Γ μ cells slots pc al (vI j :: vR i :: st) P I Q := by
  intro p e s m args below meth c B H locs ls hl hK hP hD hS hX
  obtain ⟨q0, hq, he⟩ := ho.arr P I
  refine va_bald B.1.1 B.1.2.1 hK hP q0 1 he rfl (zi_in h0 h1 hn) hd ?_
  rw [zi_nat h0 (by omega)]
  exact kk p e s m args below meth c B H locs ls hl hK hP hD hS hX
theorem y_zald {i n : Nat} {j : Int} (hd : decode μ.2.2.1 pc = .ok (.baload, 1)) (ho : Ob Γ i (.inr (2, n))) (h0 : 0 ≤ j) (h1 : j < n) (hn : n < 2147483648) (kk : XE tb Γ0 Γ μ cells slots (pc + 1) al (vI (I i j.toNat) :: st) P I Q) : XE tb Γ0 Γ μ cells slots pc al (vI j :: vR i :: st) P I Q := by
  intro p e s m args below meth c B H locs ls hl hK hP hD hS hX
  obtain ⟨q0, hq, he⟩ := ho.arr P I
  refine va_zald B.1.1 B.1.2.1 hK hP q0 2 he rfl (zi_in h0 h1 hn) hd ?_
  rw [zi_nat h0 (by omega)]
  exact kk p e s m args below meth c B H locs ls hl hK hP hD hS hX
theorem y_lald {i n : Nat} {j : Int} (hd : decode μ.2.2.1 pc = .ok (.laload, 1)) (ho : Ob Γ i (.inr (3, n))) (h0 : 0 ≤ j) (h1 : j < n) (hn : n < 2147483648) (kk : XE tb Γ0 Γ μ cells slots (pc + 1) al (vL (I i j.toNat) :: st) P I Q) : XE tb Γ0 Γ μ cells slots pc al (vI j :: vR i :: st) P I Q := by
  intro p e s m args below meth c B H locs ls hl hK hP hD hS hX
  obtain ⟨q0, hq, he⟩ := ho.arr P I
  refine va_lald B.1.1 B.1.2.1 hK hP q0 3 he rfl (zi_in h0 h1 hn) hd ?_
  rw [zi_nat h0 (by omega)]
  exact kk p e s m args below meth c B H locs ls hl hK hP hD hS hX
theorem y_aald {i n r : Nat} {j : Int} (hd : decode μ.2.2.1 pc = .ok (.aaload, 1)) (ek : Nat) (ho : Ob Γ i (.inr (ek, n))) (hek : ek = 4 ∨ ek = 5) (h0 : 0 ≤ j) (h1 : j < n) (hn : n < 2147483648) (hp : P i j.toNat = some r) (kk : XE tb Γ0 Γ μ cells slots (pc + 1) al (vR r :: st) P I Q) : XE tb Γ0 Γ μ cells slots pc al (vI j :: vR i :: st) P I Q := by
  intro p e s m args below meth c B H locs ls hl hK hP hD hS hX
  obtain ⟨q0, hq, he⟩ := ho.arr P I
  have hin := zi_in h0 h1 hn
  have hlt : j.toNat < n := by omega
  have hc : H[gr Γ i]? = some (arrV (gk Γ ek) n (fun j => va_rf ((P i j).map (gr Γ)))) := by
    have := hP q0 _ he
    rcases hek with rfl | rfl <;> exact this
  have hty : s.isArrayOf (arrV (gk Γ ek) n (fun j => va_rf ((P i j).map (gr Γ)))) (ekT ek) := by
    rcases hek with rfl | rfl
    · exact (hK.2 4 _ rfl).1 n _
    · exact (hK.2 5 _ rfl).1 n _
  refine W.aald (v := .ref (gr Γ r)) (ty := ekT ek) B.1.1 B.1.2.1 hc hty (by rcases hek with rfl | rfl <;> rfl) (fun q => by cases q) (by show ¬ (Int32.ofInt j < 0 ∨ (arrV _ _ _).slots.size ≤ _); rw [arrV_size]; exact hin) (by rw [zi_nat h0 (by omega), arrV_read _ _ hlt, hp]; rfl) rfl rfl hd (kk p e s m args below meth c B H locs ls hl hK hP hD hS hX)
theorem y_iast {i n : Nat} {j z : Int} (hd : decode μ.2.2.1 pc = .ok (.iastore, 1)) (ho : Ob Γ i (.inr (0, n))) (h0 : 0 ≤ j) (h1 : j < n) (hn : n < 2147483648) (kk : XE tb Γ0 Γ μ cells slots (pc + 1) al st P (up2 I i j.toNat z) Q) : XE tb Γ0 Γ μ cells slots pc al (vI z :: vI j :: vR i :: st) P I Q := by
  intro p e s m args below meth c B H locs ls hl hK hP hD hS hX
  obtain ⟨q0, hq, he⟩ := ho.arr P I
  refine va_iast B.1.1 B.1.2.1 hK hP hD hS q0 0 he rfl (zi_in h0 h1 hn) hd (fun H1 locs1 hP1 hD1 hS1 => ?_)
  rw [zi_nat h0 (by omega)] at hP1
  have hset : (gw Γ P I).set q0 (gr Γ i, .inl (gk Γ 0, n, .inl (upd (fun k => Int32.ofInt (I i k)) j.toNat (Int32.ofInt z)))) = gw Γ P (up2 I i j.toNat z) := wl_set hD hq (by simp only [cw, ho.2]; rw [ar_up (Or.inl rfl)]) cw_neI
  rw [hset] at hP1
  exact kk p e s m args below meth c B H1 locs1 ls hl hK hP1 (gw_D hD) hS1 hX
theorem y_zast {i n : Nat} {j z : Int} (hd : decode μ.2.2.1 pc = .ok (.bastore, 1)) (ho : Ob Γ i (.inr (2, n))) (h0 : 0 ≤ j) (h1 : j < n) (hn : n < 2147483648) (hz : z = 0 ∨ z = 1) (kk : XE tb Γ0 Γ μ cells slots (pc + 1) al st P (up2 I i j.toNat z) Q) : XE tb Γ0 Γ μ cells slots pc al (vI z :: vI j :: vR i :: st) P I Q := by
  intro p e s m args below meth c B H locs ls hl hK hP hD hS hX
  obtain ⟨q0, hq, he⟩ := ho.arr P I
  refine va_zast B.1.1 B.1.2.1 hK hP hD hS q0 2 he rfl (zi_in h0 h1 hn) hd (fun H1 locs1 hP1 hD1 hS1 => ?_)
  have hz2 : vp_nar .boolean (Int32.ofInt z) = Int32.ofInt z := by rcases hz with rfl | rfl <;> rfl
  rw [zi_nat h0 (by omega), hz2] at hP1
  have hset : (gw Γ P I).set q0 (gr Γ i, .inl (gk Γ 2, n, .inl (upd (fun k => Int32.ofInt (I i k)) j.toNat (Int32.ofInt z)))) = gw Γ P (up2 I i j.toNat z) := wl_set hD hq (by simp only [cw, ho.2]; rw [ar_up (Or.inr (Or.inr rfl))]) cw_neI
  rw [hset] at hP1
  exact kk p e s m args below meth c B H1 locs1 ls hl hK hP1 (gw_D hD) hS1 hX
theorem y_bast {i n : Nat} {j z : Int} (hd : decode μ.2.2.1 pc = .ok (.bastore, 1)) (ho : Ob Γ i (.inr (1, n))) (h0 : 0 ≤ j) (h1 : j < n) (hn : n < 2147483648) (hz0 : -128 ≤ z) (hz1 : z < 128) (kk : XE tb Γ0 Γ μ cells slots (pc + 1) al st P (up2 I i j.toNat z) Q) : XE tb Γ0 Γ μ cells slots pc al (vI z :: vI j :: vR i :: st) P I Q := by
  intro p e s m args below meth c B H locs ls hl hK hP hD hS hX
  obtain ⟨q0, hq, he⟩ := ho.arr P I
  refine va_bast B.1.1 B.1.2.1 hK hP hD hS q0 1 he rfl (zi_in h0 h1 hn) hd (fun H1 locs1 hP1 hD1 hS1 => ?_)
  have hz2 : vp_nar .byte (Int32.ofInt z) = Int32.ofInt z := by rw [vp_nar_byte, zi_b8 hz0 hz1]
  rw [zi_nat h0 (by omega), hz2] at hP1
  have hset : (gw Γ P I).set q0 (gr Γ i, .inl (gk Γ 1, n, .inl (upd (fun k => Int32.ofInt (I i k)) j.toNat (Int32.ofInt z)))) = gw Γ P (up2 I i j.toNat z) := wl_set hD hq (by simp only [cw, ho.2]; rw [ar_up (Or.inr (Or.inl rfl))]) cw_neI
  rw [hset] at hP1
  exact kk p e s m args below meth c B H1 locs1 ls hl hK hP1 (gw_D hD) hS1 hX
theorem y_last {i n : Nat} {j z : Int} (hd : decode μ.2.2.1 pc = .ok (.lastore, 1)) (ho : Ob Γ i (.inr (3, n))) (h0 : 0 ≤ j) (h1 : j < n) (hn : n < 2147483648) (kk : XE tb Γ0 Γ μ cells slots (pc + 1) al st P (up2 I i j.toNat z) Q) : XE tb Γ0 Γ μ cells slots pc al (vL z :: vI j :: vR i :: st) P I Q := by
  intro p e s m args below meth c B H locs ls hl hK hP hD hS hX
  obtain ⟨q0, hq, he⟩ := ho.arr P I
  refine va_last B.1.1 B.1.2.1 hK hP hD hS q0 3 he rfl (zi_in h0 h1 hn) hd (fun H1 locs1 hP1 hD1 hS1 => ?_)
  rw [zi_nat h0 (by omega)] at hP1
  have hset : (gw Γ P I).set q0 (gr Γ i, .inl (gk Γ 3, n, .inr (.inl (vp_updL (fun k => Int64.ofInt (I i k)) j.toNat (Int64.ofInt z))))) = gw Γ P (up2 I i j.toNat z) := wl_set hD hq (by simp only [cw, ho.2]; rw [ar_upL]) cw_neI
  rw [hset] at hP1
  exact kk p e s m args below meth c B H1 locs1 ls hl hK hP1 (gw_D hD) hS1 hX
theorem y_alen {i ek n : Nat} (hd : decode μ.2.2.1 pc = .ok (.arraylength, 1)) (ho : Ob Γ i (.inr (ek, n))) (hek : ek < 6) (kk : XE tb Γ0 Γ μ cells slots (pc + 1) al (vI n :: st) P I Q) : XE tb Γ0 Γ μ cells slots pc al (vR i :: st) P I Q := by
  intro p e s m args below meth c B H locs ls hl hK hP hD hS hX
  obtain ⟨q0, hq, he⟩ := ho.arr P I
  refine va_alen B.1.1 B.1.2.1 hK hP q0 ek he (ty := ekT ek) ?_ (v := Int32.ofInt n) (Int32.ofInt_eq_ofNat).symm hd (kk p e s m args below meth c B H locs ls hl hK hP hD hS hX)
  match ek, hek with
  | 0, _ => rfl
  | 1, _ => rfl
  | 2, _ => rfl
  | 3, _ => rfl
  | 4, _ => rfl
  | 5, _ => rfl
/-! returns -/
end XR
section XR
variable {tb : HTB} {Γ0 Γ : GG} {μ ν : MI} {cells slots pc : Nat} {al al' : List (Nat × AV)} {st as : List AV} {P : MP} {I : MM} {Q : ET} {R : QT}
theorem y_callV {i ci index n : Nat} (hd : decode μ.2.2.1 pc = .ok (.invokevirtual index, 3)) (hC : Cl Γ ν (vR i :: as) P I R) (hk : LkV ν n) (hm : Cond.methodLink μ.2.1 index ν.1 ∈ lwU) (hR : LkR μ ν) (hc : (vwCl[ci]?).map (fun q => q.1) = some ν.1.cls) (ho : Ob Γ i (.inl ci)) (hn : as.length = n) (hs : avLen st ≤ 8) (hf : cells + ν.2.2.2.2.2.cells ≤ μ.2.2.2.2.2.cells ∧ slots + ν.2.2.2.2.2.slots ≤ μ.2.2.2.2.2.slots)
    (k : ∀ v P' I', R v P' I' → XE tb Γ0 Γ μ (cells + ν.2.2.2.2.2.cells) (slots + ν.2.2.2.2.2.slots) (pc + 3) al (v.toList ++ st) P' I' Q) (ast : List AV) (hst : ast = as.reverse ++ vR i :: st) : XE tb Γ0 Γ μ cells slots pc al ast P I Q := by
  subst hst
  intro p e s m args below meth c B H locs ls hl hK hP hD hS hX
  obtain ⟨q0, hq, he⟩ := ho.obj P I
  obtain ⟨r, hr1, hr2⟩ : ∃ r : vw_C, vwCl[ci]? = some r ∧ r.1 = ν.1.cls := by
    cases h : vwCl[ci]? with
    | none => rw [h] at hc; cases hc
    | some r => rw [h] at hc; exact ⟨r, rfl, Option.some.inj hc⟩
  have hrecv : ∃ cell : Cell, H[gr Γ i]? = some cell ∧ cell.vm.isStatics = false ∧ s.vm.findClass ν.1.cls = some cell.cls := by
    rw [← hr2]
    exact va_recv hK hP hr1 he
  have hrun := va_runV (C := ν.1.cls) (b := gr Γ i) (As := as.map (cv (gr Γ))) (rest := st.map (cv (gr Γ))) (g := F0 m pc ls ((as.reverse ++ vR i :: st).map (cv (gr Γ)))) (cells := cells) (slots := slots) (locs := locs)
    (⟨B.1.1, B.1.2.1, B.1.2.2.1, B.1.2.2.2.1, B.1.2.2.2.2.1⟩ : CallFix p m c μ.2.2.1 μ.2.2.2.1 s args lwU μ.2.1) (hC H.size) (cwV n B.1.2.2.2.2.1 (goodV hk hm) rfl rfl rfl ⟨rfl, hk.2.2.2.2⟩ hR)
    ⟨pq_blind, hrecv, fun U hU hW => ⟨rfl, by rw [hU], va_K.moved hW.alike hK, by rw [hU]; exact hP, gw_DR _ hD, ro_call0 hD hU hW hS hX⟩⟩ rfl (by rw [List.length_map]; exact hn) hl.1 (by simp [cv]) (lv_room (by rw [cat_sum]; exact hs)) hd hf (below := below) (meth := meth) (e := e)
  exact y_run hD hrun hS (fun v P' I' H1 locs1 hR' hP' hS' => k v P' I' hR' p e s m args below meth c B H1 locs1 ls hl hK hP' (gw_D hD) hS' hX)
theorem y_callS {index n : Nat} (hd : decode μ.2.2.1 pc = .ok (.invokestatic index, 3)) (hC : Cl Γ ν as P I R) (hk : LkS ν n) (hm : Cond.methodLink μ.2.1 index ν.1 ∈ lwU) (hR : LkR μ ν) (hn : as.length = n) (hs : avLen st ≤ 8) (hf : cells + ν.2.2.2.2.2.cells ≤ μ.2.2.2.2.2.cells ∧ slots + ν.2.2.2.2.2.slots ≤ μ.2.2.2.2.2.slots)
    (k : ∀ v P' I', R v P' I' → XE tb Γ0 Γ μ (cells + ν.2.2.2.2.2.cells) (slots + ν.2.2.2.2.2.slots) (pc + 3) al (v.toList ++ st) P' I' Q) (ast : List AV) (hst : ast = as.reverse ++ st) : XE tb Γ0 Γ μ cells slots pc al ast P I Q := by
  subst hst
  intro p e s m args below meth c B H locs ls hl hK hP hD hS hX
  have hrun := va_runS (As := as.map (cv (gr Γ))) (rest := st.map (cv (gr Γ))) (g := F0 m pc ls ((as.reverse ++ st).map (cv (gr Γ)))) (cells := cells) (slots := slots) (locs := locs)
    (⟨B.1.1, B.1.2.1, B.1.2.2.1, B.1.2.2.2.1, B.1.2.2.2.2.1⟩ : CallFix p m c μ.2.2.1 μ.2.2.2.1 s args lwU μ.2.1) (hC H.size) (va_cwS n B.1.2.2.2.2.1 (goodS hk hm) rfl rfl rfl hk.2.2.2 hR)
    ⟨pq_blind, fun U hU hW => ⟨rfl, by rw [hU], va_K.moved hW.alike hK, by rw [hU]; exact hP, gw_DR _ hD, ro_call0 hD hU hW hS hX⟩⟩ rfl (by rw [List.length_map]; exact hn) hl.1 (by simp) (lv_room (by rw [cat_sum]; exact hs)) hd hf (below := below) (meth := meth) (e := e)
  exact y_run hD hrun hS (fun v P' I' H1 locs1 hR' hP' hS' => k v P' I' hR' p e s m args below meth c B H1 locs1 ls hl hK hP' (gw_D hD) hS' hX)
theorem y_callSN {index n : Nat} (host : String) (hd : decode μ.2.2.1 pc = .ok (.invokestatic index, 3)) (hC : Cl Γ ν as P I R) (hk : LkS ν n) (hm : (μ.2.1, index, ν.1, host) ∈ nstS) (hR : LkR μ ν) (hn : as.length = n) (hs : avLen st ≤ 8) (hf : cells + ν.2.2.2.2.2.cells ≤ μ.2.2.2.2.2.cells ∧ slots + ν.2.2.2.2.2.slots ≤ μ.2.2.2.2.2.slots)
    (k : ∀ v P' I', R v P' I' → XE tb Γ0 Γ μ (cells + ν.2.2.2.2.2.cells) (slots + ν.2.2.2.2.2.slots) (pc + 3) al (v.toList ++ st) P' I' Q) {ast : List AV} (hst : ast = as.reverse ++ st) : XE tb Γ0 Γ μ cells slots pc al ast P I Q := by
  subst hst
  intro p e s m args below meth c B H locs ls hl hK hP hD hS hX
  have hrun := va_runSN (host := host) (As := as.map (cv (gr Γ))) (rest := st.map (cv (gr Γ))) (g := F0 m pc ls ((as.reverse ++ st).map (cv (gr Γ)))) (cells := cells) (slots := slots) (locs := locs)
    (⟨B.1.1, B.1.2.1, B.1.2.2.1, B.1.2.2.2.1, B.1.2.2.2.2.1⟩ : CallFix p m c μ.2.2.1 μ.2.2.2.1 s args lwU μ.2.1) (hC H.size) ⟨va_cnB n B.1.2.2.2.2.1 (goodM hk.2.2.1) rfl rfl rfl (hX.2.2.2.2.2.2.2 _ hm) (B.1.2.2.2.2.1 _ hk.2.1) hk.2.2.2 hR, B.1.2.2.2.2.1 _ hk.1, trivial⟩
    ⟨pq_blind, fun U hU hW => ⟨rfl, by rw [hU], va_K.moved hW.alike hK, by rw [hU]; exact hP, gw_DR _ hD, ro_call0 hD hU hW hS hX⟩⟩ rfl (by rw [List.length_map]; exact hn) hl.1 (by simp) (lv_room (by rw [cat_sum]; exact hs)) hd hf (below := below) (meth := meth) (e := e)
  exact y_run hD hrun hS (fun v P' I' H1 locs1 hR' hP' hS' => k v P' I' hR' p e s m args below meth c B H1 locs1 ls hl hK hP' (gw_D hD) hS' hX)
end XR
section XR
variable {tb : HTB} {Γ0 Γ : GG} {μ ν : MI} {cells slots pc : Nat} {al al' : List (Nat × AV)} {st as : List AV} {P : MP} {I : MM} {Q : ET}
theorem y_V0 {R : QT} {i ci index n : Nat} (hd : decode μ.2.2.1 pc = .ok (.invokevirtual index, 3)) (hC : Cl Γ ν (vR i :: as) P I R) (hk : LkV ν n) (hm : Cond.methodLink μ.2.1 index ν.1 ∈ lwU) (hR : LkR μ ν) (h0 : Mk0 ν) (hf : cells ≤ μ.2.2.2.2.2.cells ∧ slots ≤ μ.2.2.2.2.2.slots) (hc : (vwCl[ci]?).map (fun q => q.1) = some ν.1.cls) (ho : Ob Γ i (.inl ci)) (hn : as.length = n) (hs : avLen st ≤ 8)
    (ast : List AV) (hst : ast = as.reverse ++ vR i :: st) (k : ∀ v P' I', R v P' I' → XE tb Γ0 Γ μ cells slots (pc + 3) al (v.toList ++ st) P' I' Q) : XE tb Γ0 Γ μ cells slots pc al ast P I Q :=
  y_callV hd hC hk hm hR hc ho hn hs (by rw [h0.1, h0.2]; exact hf) (fun v P' I' h => by rw [h0.1, h0.2]; exact k v P' I' h) ast hst
theorem y_S0 {R : QT} {index n : Nat} (hd : decode μ.2.2.1 pc = .ok (.invokestatic index, 3)) (hC : Cl Γ ν as P I R) (hk : LkS ν n) (hm : Cond.methodLink μ.2.1 index ν.1 ∈ lwU) (hR : LkR μ ν) (h0 : Mk0 ν) (hf : cells ≤ μ.2.2.2.2.2.cells ∧ slots ≤ μ.2.2.2.2.2.slots) (hn : as.length = n) (hs : avLen st ≤ 8)
    (ast : List AV) (hst : ast = as.reverse ++ st) (k : ∀ v P' I', R v P' I' → XE tb Γ0 Γ μ cells slots (pc + 3) al (v.toList ++ st) P' I' Q) : XE tb Γ0 Γ μ cells slots pc al ast P I Q :=
  y_callS hd hC hk hm hR hn hs (by rw [h0.1, h0.2]; exact hf) (fun v P' I' h => by rw [h0.1, h0.2]; exact k v P' I' h) ast hst
theorem y_Vi {R : Int → MM → Prop} {i ci index n : Nat} (hd : decode μ.2.2.1 pc = .ok (.invokevirtual index, 3)) (hC : Cl Γ ν (vR i :: as) P I (ri P R)) (hk : LkV ν n) (hm : Cond.methodLink μ.2.1 index ν.1 ∈ lwU) (hR : LkR μ ν) (h0 : Mk0 ν) (hf : cells ≤ μ.2.2.2.2.2.cells ∧ slots ≤ μ.2.2.2.2.2.slots) (hc : (vwCl[ci]?).map (fun q => q.1) = some ν.1.cls) (ho : Ob Γ i (.inl ci)) (hn : as.length = n) (hs : avLen st ≤ 8)
    (ast : List AV) (hst : ast = as.reverse ++ vR i :: st) (k : ∀ z I', R z I' → XE tb Γ0 Γ μ cells slots (pc + 3) al (vI z :: st) P I' Q) : XE tb Γ0 Γ μ cells slots pc al ast P I Q :=
  y_V0 hd hC hk hm hR h0 hf hc ho hn hs ast hst (fun v P' I' h => by obtain ⟨z, rfl, rfl, h⟩ := h; exact k z I' h)
theorem y_Vl {R : Int → MM → Prop} {i ci index n : Nat} (hd : decode μ.2.2.1 pc = .ok (.invokevirtual index, 3)) (hC : Cl Γ ν (vR i :: as) P I (rl P R)) (hk : LkV ν n) (hm : Cond.methodLink μ.2.1 index ν.1 ∈ lwU) (hR : LkR μ ν) (h0 : Mk0 ν) (hf : cells ≤ μ.2.2.2.2.2.cells ∧ slots ≤ μ.2.2.2.2.2.slots) (hc : (vwCl[ci]?).map (fun q => q.1) = some ν.1.cls) (ho : Ob Γ i (.inl ci)) (hn : as.length = n) (hs : avLen st ≤ 8)
    (ast : List AV) (hst : ast = as.reverse ++ vR i :: st) (k : ∀ z I', R z I' → XE tb Γ0 Γ μ cells slots (pc + 3) al (vL z :: st) P I' Q) : XE tb Γ0 Γ μ cells slots pc al ast P I Q :=
  y_V0 hd hC hk hm hR h0 hf hc ho hn hs ast hst (fun v P' I' h => by obtain ⟨z, rfl, rfl, h⟩ := h; exact k z I' h)
theorem y_Vv {R : MM → Prop} {i ci index n : Nat} (hd : decode μ.2.2.1 pc = .ok (.invokevirtual index, 3)) (hC : Cl Γ ν (vR i :: as) P I (rv P R)) (hk : LkV ν n) (hm : Cond.methodLink μ.2.1 index ν.1 ∈ lwU) (hR : LkR μ ν) (h0 : Mk0 ν) (hf : cells ≤ μ.2.2.2.2.2.cells ∧ slots ≤ μ.2.2.2.2.2.slots) (hc : (vwCl[ci]?).map (fun q => q.1) = some ν.1.cls) (ho : Ob Γ i (.inl ci)) (hn : as.length = n) (hs : avLen st ≤ 8)
    (ast : List AV) (hst : ast = as.reverse ++ vR i :: st) (k : ∀ I', R I' → XE tb Γ0 Γ μ cells slots (pc + 3) al st P I' Q) : XE tb Γ0 Γ μ cells slots pc al ast P I Q :=
  y_V0 hd hC hk hm hR h0 hf hc ho hn hs ast hst (fun v P' I' h => by obtain ⟨rfl, rfl, h⟩ := h; exact k I' h)
theorem y_Vp {R : MP → MM → Prop} {i ci index n : Nat} (hd : decode μ.2.2.1 pc = .ok (.invokevirtual index, 3)) (hC : Cl Γ ν (vR i :: as) P I (rp R)) (hk : LkV ν n) (hm : Cond.methodLink μ.2.1 index ν.1 ∈ lwU) (hR : LkR μ ν) (h0 : Mk0 ν) (hf : cells ≤ μ.2.2.2.2.2.cells ∧ slots ≤ μ.2.2.2.2.2.slots) (hc : (vwCl[ci]?).map (fun q => q.1) = some ν.1.cls) (ho : Ob Γ i (.inl ci)) (hn : as.length = n) (hs : avLen st ≤ 8)
    (ast : List AV) (hst : ast = as.reverse ++ vR i :: st) (k : ∀ P' I', R P' I' → XE tb Γ0 Γ μ cells slots (pc + 3) al st P' I' Q) : XE tb Γ0 Γ μ cells slots pc al ast P I Q :=
  y_V0 hd hC hk hm hR h0 hf hc ho hn hs ast hst (fun v P' I' h => by obtain ⟨rfl, h⟩ := h; exact k P' I' h)
theorem y_Vpi {R : Int → MP → MM → Prop} {i ci index n : Nat} (hd : decode μ.2.2.1 pc = .ok (.invokevirtual index, 3)) (hC : Cl Γ ν (vR i :: as) P I (rpi R)) (hk : LkV ν n) (hm : Cond.methodLink μ.2.1 index ν.1 ∈ lwU) (hR : LkR μ ν) (h0 : Mk0 ν) (hf : cells ≤ μ.2.2.2.2.2.cells ∧ slots ≤ μ.2.2.2.2.2.slots) (hc : (vwCl[ci]?).map (fun q => q.1) = some ν.1.cls) (ho : Ob Γ i (.inl ci)) (hn : as.length = n) (hs : avLen st ≤ 8)
    (ast : List AV) (hst : ast = as.reverse ++ vR i :: st) (k : ∀ z P' I', R z P' I' → XE tb Γ0 Γ μ cells slots (pc + 3) al (vI z :: st) P' I' Q) : XE tb Γ0 Γ μ cells slots pc al ast P I Q :=
  y_V0 hd hC hk hm hR h0 hf hc ho hn hs ast hst (fun v P' I' h => by obtain ⟨z, rfl, h⟩ := h; exact k z P' I' h)
theorem y_Si {R : Int → MM → Prop} {index n : Nat} (hd : decode μ.2.2.1 pc = .ok (.invokestatic index, 3)) (hC : Cl Γ ν as P I (ri P R)) (hk : LkS ν n) (hm : Cond.methodLink μ.2.1 index ν.1 ∈ lwU) (hR : LkR μ ν) (h0 : Mk0 ν) (hf : cells ≤ μ.2.2.2.2.2.cells ∧ slots ≤ μ.2.2.2.2.2.slots) (hn : as.length = n) (hs : avLen st ≤ 8)
    (ast : List AV) (hst : ast = as.reverse ++ st) (k : ∀ z I', R z I' → XE tb Γ0 Γ μ cells slots (pc + 3) al (vI z :: st) P I' Q) : XE tb Γ0 Γ μ cells slots pc al ast P I Q :=
  y_S0 hd hC hk hm hR h0 hf hn hs ast hst (fun v P' I' h => by obtain ⟨z, rfl, rfl, h⟩ := h; exact k z I' h)
theorem y_Sl {R : Int → MM → Prop} {index n : Nat} (hd : decode μ.2.2.1 pc = .ok (.invokestatic index, 3)) (hC : Cl Γ ν as P I (rl P R)) (hk : LkS ν n) (hm : Cond.methodLink μ.2.1 index ν.1 ∈ lwU) (hR : LkR μ ν) (h0 : Mk0 ν) (hf : cells ≤ μ.2.2.2.2.2.cells ∧ slots ≤ μ.2.2.2.2.2.slots) (hn : as.length = n) (hs : avLen st ≤ 8)
    (ast : List AV) (hst : ast = as.reverse ++ st) (k : ∀ z I', R z I' → XE tb Γ0 Γ μ cells slots (pc + 3) al (vL z :: st) P I' Q) : XE tb Γ0 Γ μ cells slots pc al ast P I Q :=
  y_S0 hd hC hk hm hR h0 hf hn hs ast hst (fun v P' I' h => by obtain ⟨z, rfl, rfl, h⟩ := h; exact k z I' h)
theorem y_Sv {R : MM → Prop} {index n : Nat} (hd : decode μ.2.2.1 pc = .ok (.invokestatic index, 3)) (hC : Cl Γ ν as P I (rv P R)) (hk : LkS ν n) (hm : Cond.methodLink μ.2.1 index ν.1 ∈ lwU) (hR : LkR μ ν) (h0 : Mk0 ν) (hf : cells ≤ μ.2.2.2.2.2.cells ∧ slots ≤ μ.2.2.2.2.2.slots) (hn : as.length = n) (hs : avLen st ≤ 8)
    (ast : List AV) (hst : ast = as.reverse ++ st) (k : ∀ I', R I' → XE tb Γ0 Γ μ cells slots (pc + 3) al st P I' Q) : XE tb Γ0 Γ μ cells slots pc al ast P I Q :=
  y_S0 hd hC hk hm hR h0 hf hn hs ast hst (fun v P' I' h => by obtain ⟨rfl, rfl, h⟩ := h; exact k I' h)
theorem y_Ni {R : Int → MM → Prop} {index n : Nat} (host : String) (hd : decode μ.2.2.1 pc = .ok (.invokestatic index, 3)) (hC : Cl Γ ν as P I (ri P R)) (hk : LkS ν n) (hm : (μ.2.1, index, ν.1, host) ∈ nstS) (hR : LkR μ ν) (h0 : Mk0 ν) (hf : cells ≤ μ.2.2.2.2.2.cells ∧ slots ≤ μ.2.2.2.2.2.slots) (hn : as.length = n) (hs : avLen st ≤ 8)
    (ast : List AV) (hst : ast = as.reverse ++ st) (k : ∀ z I', R z I' → XE tb Γ0 Γ μ cells slots (pc + 3) al (vI z :: st) P I' Q) : XE tb Γ0 Γ μ cells slots pc al ast P I Q :=
  y_callSN host hd hC hk hm hR hn hs (by rw [h0.1, h0.2]; exact hf) (fun v P' I' h => by rw [h0.1, h0.2]; obtain ⟨z, rfl, rfl, h⟩ := h; exact k z I' h) hst
/-! names for what was computed -/
theorem y_nmI (k : ∀ I' : MM, I' = I → XE tb Γ0 Γ μ cells slots pc al st P I' Q) : XE tb Γ0 Γ μ cells slots pc al st P I Q := k I rfl
theorem y_nmP (k : ∀ P' : MP, P' = P → XE tb Γ0 Γ μ cells slots pc al st P' I Q) : XE tb Γ0 Γ μ cells slots pc al st P I Q := k P rfl
theorem y_nmT {z : Int} (k : ∀ x : Int, x = z → XE tb Γ0 Γ μ cells slots pc al (vI x :: st) P I Q) : XE tb Γ0 Γ μ cells slots pc al (vI z :: st) P I Q := k z rfl
theorem y_nmL {z : Int} (k : ∀ x : Int, x = z → XE tb Γ0 Γ μ cells slots pc al (vL x :: st) P I Q) : XE tb Γ0 Γ μ cells slots pc al (vL z :: st) P I Q := k z rfl
/-! further rows -/
theorem y_lcmp {a b : Int} (hd : decode μ.2.2.1 pc = .ok (.lcmp, 1)) (ha : inL a) (hb : inL b) (k : XE tb Γ0 Γ μ cells slots (pc + 1) al (vI (lc a b) :: st) P I Q) : XE tb Γ0 Γ μ cells slots pc al (vL b :: vL a :: st) P I Q := by
  intro p e s m args below meth c B H locs ls hl hK hP hD hS hX
  have h := k p e s m args below meth c B H locs ls hl hK hP hD hS hX
  refine W.lcmp B.1.1 B.1.2.1 hd ?_
  have e1 : lg_cmp (Int64.ofInt a) (Int64.ofInt b) = Int32.ofInt (lc a b) := by
    unfold lg_cmp lc
    by_cases h1 : b < a
    · rw [if_pos ((zl_lt hb ha).mpr h1), if_pos h1]; rfl
    · rw [if_neg (fun q => h1 ((zl_lt hb ha).mp q)), if_neg h1]
      by_cases h2 : a = b
      · rw [if_pos ((zl_eq ha hb).mpr h2), if_pos h2]; rfl
      · rw [if_neg (fun q => h2 ((zl_eq ha hb).mp q)), if_neg h2]; rfl
  rw [e1]
  exact h
theorem y_idiv {a b : Int} (hd : decode μ.2.2.1 pc = .ok (.idiv, 1)) (ha : inR a) (hb : inR b) (h0 : 0 ≤ a) (h1 : 0 < b) (k : XE tb Γ0 Γ μ cells slots (pc + 1) al (vI (a / b) :: st) P I Q) : XE tb Γ0 Γ μ cells slots pc al (vI b :: vI a :: st) P I Q := by
  intro p e s m args below meth c B H locs ls hl hK hP hD hS hX
  refine lv_idiv B.1.1 B.1.2.1 hd (fun q => by have := (zi_eq0 hb).mp q; omega) ?_
  rw [zi_div ha hb h0 h1]
  exact k p e s m args below meth c B H locs ls hl hK hP hD hS hX
theorem y_irem {a b : Int} (hd : decode μ.2.2.1 pc = .ok (.irem, 1)) (ha : inR a) (hb : inR b) (h0 : 0 ≤ a) (h1 : 0 < b) (k : XE tb Γ0 Γ μ cells slots (pc + 1) al (vI (a % b) :: st) P I Q) : XE tb Γ0 Γ μ cells slots pc al (vI b :: vI a :: st) P I Q := by
  intro p e s m args below meth c B H locs ls hl hK hP hD hS hX
  refine lv_irem B.1.1 B.1.2.1 hd (fun q => by have := (zi_eq0 hb).mp q; omega) ?_
  have e1 : Int32.ofInt a - Int32.ofInt a / Int32.ofInt b * Int32.ofInt b = Int32.ofInt (a % b) := by
    rw [zi_div ha hb h0 h1, zi_mul, zi_sub, Int.emod_def, Int.mul_comm]
  rw [e1]
  exact k p e s m args below meth c B H locs ls hl hK hP hD hS hX
end XR
section XR
variable {tb : HTB} {Γ0 Γ : GG} {μ ν : MI} {cells slots pc : Nat} {al al' : List (Nat × AV)} {st as : List AV} {P : MP} {I : MM} {Q : ET}
theorem y_mmax {index : Nat} {a b : Int} (hd : decode μ.2.2.1 pc = .ok (.invokestatic index, 3)) (hm : Cond.methodLink μ.2.1 index Lib.Math.max.name ∈ lwU) (h1 : Cond.static Lib.Math.max.name ∈ lwU) (h2 : Cond.initialized "java/lang/Math" ∈ lwU) (h3 : Cond.code Lib.Math.max.name Lib.Math.max.code 2 (some .int) ∈ lwU) (hR : 1 ≤ μ.2.2.2.2.2.frames ∧ avLen st + 13 ≤ μ.2.2.2.2.2.locals) (hf : cells ≤ μ.2.2.2.2.2.cells ∧ slots ≤ μ.2.2.2.2.2.slots) (ha : inR a) (hb : inR b) (k : XE tb Γ0 Γ μ cells slots (pc + 3) al (vI (max a b) :: st) P I Q) : XE tb Γ0 Γ μ cells slots pc al (vI b :: vI a :: st) P I Q := by
  intro p e s m args below meth c B H locs ls hl hK hP hD hS hX
  refine va_mmax B.1.1 B.1.2.1 (B.1.2.2.1.trans hl.1.symm) B.1.2.2.2.1 (B.1.2.2.2.2.1 _ hm) (B.1.2.2.2.2.1 _ h1) (B.1.2.2.2.2.1 _ h2) (B.1.2.2.2.2.1 _ h3) hR.1 (by rw [cat_sum]; exact hR.2) hf.1 hf.2 hd ?_
  have e1 : (if Int32.ofInt a < Int32.ofInt b then Int32.ofInt b else Int32.ofInt a) = Int32.ofInt (max a b) := by
    by_cases h : a < b
    · rw [if_pos ((zi_lt ha hb).mpr h), show max a b = b by omega]
    · rw [if_neg (fun q => h ((zi_lt ha hb).mp q)), show max a b = a by omega]
  rw [e1]
  exact k p e s m args below meth c B H locs ls hl hK hP hD hS hX
theorem y_mmin {index : Nat} {a b : Int} (hd : decode μ.2.2.1 pc = .ok (.invokestatic index, 3)) (hm : Cond.methodLink μ.2.1 index Lib.Math.min.name ∈ lwU) (h1 : Cond.static Lib.Math.min.name ∈ lwU) (h2 : Cond.initialized "java/lang/Math" ∈ lwU) (h3 : Cond.code Lib.Math.min.name Lib.Math.min.code 2 (some .int) ∈ lwU) (hR : 1 ≤ μ.2.2.2.2.2.frames ∧ avLen st + 13 ≤ μ.2.2.2.2.2.locals) (hf : cells ≤ μ.2.2.2.2.2.cells ∧ slots ≤ μ.2.2.2.2.2.slots) (ha : inR a) (hb : inR b) (k : XE tb Γ0 Γ μ cells slots (pc + 3) al (vI (min a b) :: st) P I Q) : XE tb Γ0 Γ μ cells slots pc al (vI b :: vI a :: st) P I Q := by
  intro p e s m args below meth c B H locs ls hl hK hP hD hS hX
  refine va_mmin B.1.1 B.1.2.1 (B.1.2.2.1.trans hl.1.symm) B.1.2.2.2.1 (B.1.2.2.2.2.1 _ hm) (B.1.2.2.2.2.1 _ h1) (B.1.2.2.2.2.1 _ h2) (B.1.2.2.2.2.1 _ h3) hR.1 (by rw [cat_sum]; exact hR.2) hf.1 hf.2 hd ?_
  have h := k p e s m args below meth c B H locs ls hl hK hP hD hS hX
  by_cases hlt : a < b
  · rw [show min a b = a by omega] at h
    first
      | (rw [if_pos ((zi_lt ha hb).mpr hlt)]; exact h)
      | (rw [if_neg (fun q => by have := (zi_lt hb ha).mp q; omega)]; exact h)
      | (rw [if_pos ((zi_le ha hb).mpr (by omega))]; exact h)
  · by_cases he : a = b
    · subst he
      rw [show min a a = a by omega] at h
      rw [ite_self]
      exact h
    · rw [show min a b = b by omega] at h
      first
        | (rw [if_neg (fun q => hlt ((zi_lt ha hb).mp q))]; exact h)
        | (rw [if_pos ((zi_lt hb ha).mpr (by omega))]; exact h)
        | (rw [if_neg (fun q => by have := (zi_le ha hb).mp q; omega)]; exact h)
theorem y_iandM {a b : Int} (hd : decode μ.2.2.1 pc = .ok (.iand, 1)) (j : Nat) (hj : (Int32.ofInt b).toBitVec.toNat = 2 ^ j - 1) (hj2 : j ≤ 31) (k : XE tb Γ0 Γ μ cells slots (pc + 1) al (vI (a % (2 ^ j : Nat)) :: st) P I Q) : XE tb Γ0 Γ μ cells slots pc al (vI b :: vI a :: st) P I Q := by
  intro p e s m args below meth c B H locs ls hl hK hP hD hS hX
  refine lv_iand B.1.1 B.1.2.1 hd ?_
  have e1 : Int32.ofInt a &&& Int32.ofInt b = Int32.ofInt (a % (2 ^ j : Nat)) := by
    rw [pk_and _ j hj, zi_bits, nI, ← Int32.ofInt_eq_ofNat]
    congr 1
    have h2 : (4294967296 : Int) = ((2 ^ j : Nat) : Int) * ((2 ^ (32 - j) : Nat) : Int) := by
      rw [← Int.natCast_mul, ← Nat.pow_add, show j + (32 - j) = 32 by omega]; rfl
    have h0 : 0 ≤ a % 4294967296 := Int.emod_nonneg _ (by decide)
    rw [Int.natCast_emod, Int.toNat_of_nonneg h0]
    rw [h2]
    exact Int.emod_emod_of_dvd a (Int.dvd_mul_right _ _)
  rw [e1]
  exact k p e s m args below meth c B H locs ls hl hK hP hD hS hX
theorem y_ishr {a s : Int} (hd : decode μ.2.2.1 pc = .ok (.ishr, 1)) (ha : inR a) (h0 : 0 ≤ s) (h1 : s < 32) (k : XE tb Γ0 Γ μ cells slots (pc + 1) al (vI (a / (2 ^ s.toNat : Nat)) :: st) P I Q) : XE tb Γ0 Γ μ cells slots pc al (vI s :: vI a :: st) P I Q := by
  intro p e s' m args below meth c B H locs ls hl hK hP hD hS hX
  refine lv_ishr B.1.1 B.1.2.1 hd ?_
  have e1 : Int32.ofInt a >>> Int32.ofInt s = Int32.ofInt (a / (2 ^ s.toNat : Nat)) := by
    rw [← Int32.ofInt_toInt (Int32.ofInt a >>> Int32.ofInt s), pk_shr _ _ _ (zi_sh s h0 h1), zi_toInt ha, Int.shiftRight_eq_div_pow]
  rw [zi_31 s h0 h1, e1]
  exact k p e s' m args below meth c B H locs ls hl hK hP hD hS hX
theorem y_iushr {a s : Int} (hd : decode μ.2.2.1 pc = .ok (.iushr, 1)) (j : Nat) (hj : ((( Int32.ofInt s).toUInt32 &&& Int32.toUInt32 31).toBitVec % 32).toNat = j) (k : XE tb Γ0 Γ μ cells slots (pc + 1) al (vI (a % 4294967296 / (2 ^ j : Nat)) :: st) P I Q) : XE tb Γ0 Γ μ cells slots pc al (vI s :: vI a :: st) P I Q := by
  intro p e s' m args below meth c B H locs ls hl hK hP hD hS hX
  refine lv_iushr B.1.1 B.1.2.1 hd (v := Int32.ofInt (a % 4294967296 / (2 ^ j : Nat))) ?_ (k p e s' m args below meth c B H locs ls hl hK hP hD hS hX)
  have h1 := pk_ushr (Int32.ofInt a) (Int32.ofInt s) j hj
  rw [zi_bits] at h1
  have h0 : 0 ≤ a % 4294967296 := Int.emod_nonneg _ (by decide)
  have h2 : a % 4294967296 < 4294967296 := Int.emod_lt_of_pos _ (by decide)
  have h3 : 0 ≤ a % 4294967296 / (2 ^ j : Nat) := Int.ediv_nonneg h0 (by first | exact Int.natCast_nonneg _ | exact Int.ofNat_nonneg _)
  have h4 : a % 4294967296 / (2 ^ j : Nat) ≤ a % 4294967296 := Int.ediv_le_self _ h0
  refine Int32.toBitVec.inj (BitVec.eq_of_toNat_eq ?_)
  rw [h1, zi_bits, Int.emod_eq_of_lt h3 (by omega)]
  obtain ⟨n, hn⟩ := Int.eq_ofNat_of_zero_le h0
  rw [hn]
  norm_cast
theorem y_i2b {a : Int} (hd : decode μ.2.2.1 pc = .ok (.i2b, 1)) (k : XE tb Γ0 Γ μ cells slots (pc + 1) al (vI (b8 a) :: st) P I Q) : XE tb Γ0 Γ μ cells slots pc al (vI a :: st) P I Q := by
  intro p e s' m args below meth c B H locs ls hl hK hP hD hS hX
  refine lv_i2b B.1.1 B.1.2.1 hd (v := Int32.ofInt (b8 a)) ?_ (k p e s' m args below meth c B H locs ls hl hK hP hD hS hX)
  have hb : inR (b8 a) := by unfold b8; constructor <;> omega
  rw [← Int32.toInt_inj, zi_toInt hb, Int32.toInt8_ofInt, Int8.toInt_toInt32, Int8.toInt_ofInt]
  unfold b8
  show Int.bmod a 256 = _
  rw [Int.bmod_def]
  split <;> omega
theorem y_ishl1 {a : Int} (hd : decode μ.2.2.1 pc = .ok (.ishl, 1)) (k : XE tb Γ0 Γ μ cells slots (pc + 1) al (vI a :: st) P I Q) : XE tb Γ0 Γ μ cells slots pc al (vI 0 :: vI a :: st) P I Q := by
  intro p e s' m args below meth c B H locs ls hl hK hP hD hS hX
  refine lv_ishl B.1.1 B.1.2.1 hd ?_
  have e1 : Int32.ofInt a <<< Int32.ofInt 0 = Int32.ofInt a := by
    refine Int32.toBitVec.inj (BitVec.eq_of_toNat_eq ?_)
    rw [pk_shl _ _ 0 (by decide +kernel)]
    have := (Int32.ofInt a).toBitVec.isLt
    omega
  rw [zi_31 0 (by decide) (by decide), e1]
  exact k p e s' m args below meth c B H locs ls hl hK hP hD hS hX
theorem y_ior {a b : Int} (hd : decode μ.2.2.1 pc = .ok (.ior, 1)) (ha : a = 0 ∨ a = 1) (hb : b = 0 ∨ b = 1) (k : XE tb Γ0 Γ μ cells slots (pc + 1) al (vI (max a b) :: st) P I Q) : XE tb Γ0 Γ μ cells slots pc al (vI b :: vI a :: st) P I Q := by
  intro p e s' m args below meth c B H locs ls hl hK hP hD hS hX
  refine lv_ior B.1.1 B.1.2.1 hd ?_
  have e1 : Int32.ofInt a ||| Int32.ofInt b = Int32.ofInt (max a b) := by
    rcases ha with rfl | rfl <;> rcases hb with rfl | rfl <;> rfl
  rw [e1]
  exact k p e s' m args below meth c B H locs ls hl hK hP hD hS hX
theorem y_ldiv {a b : Int} (hd : decode μ.2.2.1 pc = .ok (.ldiv, 1)) (ha : inR a) (hb : inL b) (h1 : b ≠ 0) (k : XE tb Γ0 Γ μ cells slots (pc + 1) al (vL (a.tdiv b) :: st) P I Q) : XE tb Γ0 Γ μ cells slots pc al (vL b :: vL a :: st) P I Q := by
  intro p e s' m args below meth c B H locs ls hl hK hP hD hS hX
  have ha2 : inL a := ⟨by have := ha.1; omega, by have := ha.2; omega⟩
  refine lv_ldiv B.1.1 B.1.2.1 hd (fun q => h1 ?_) ?_
  · have h := congrArg Int64.toInt q
    rw [zl_toInt hb] at h
    exact h
  have e1 : Int64.ofInt a / Int64.ofInt b = Int64.ofInt (a.tdiv b) := by
    have hn : (a.tdiv b).natAbs ≤ a.natAbs := by rw [Int.natAbs_tdiv]; exact Nat.div_le_self _ _
    have hr : inL (a.tdiv b) := ⟨by have := ha.1; have := ha.2; omega, by have := ha.1; have := ha.2; omega⟩
    rw [← Int64.toInt_inj, Int64.toInt_div, zl_toInt ha2, zl_toInt hb, zl_toInt hr]
    exact Int.bmod_eq_of_le (by have := hr.1; omega) (by have := hr.2; omega)
  rw [e1]
  exact k p e s' m args below meth c B H locs ls hl hK hP hD hS hX
end XR
section XR
variable {tb : HTB} {Γ0 Γ : GG} {μ ν : MI} {cells slots pc : Nat} {al al' : List (Nat × AV)} {st as : List AV} {P : MP} {I : MM} {Q : ET} {R : QT}
theorem y_ldcS {index : Nat} (tx : String) (i : Nat) (hd : decode μ.2.2.1 pc = .ok (.ldc index, 2)) (ho : (μ.2.1, index, tx, i) ∈ occS) (k : XE tb Γ0 Γ μ cells slots (pc + 2) al (vR (500 + i) :: st) P I Q) : XE tb Γ0 Γ μ cells slots pc al st P I Q := by
  intro p e s m args below meth c B H locs ls hl hK hP hD hS hX
  exact va_ldcS B.1.1 B.1.2.1 B.1.2.2.2.1 (hX.2.1 _ ho) hd (k p e s m args below meth c B H locs ls hl hK hP hD hS hX)
theorem y_getSv {index i : Nat} (hd : decode μ.2.2.1 pc = .ok (.getfield index, 3)) (hi : i < 9) (hf : Cond.fieldLink μ.2.1 index "java/lang/String" "value" "[B" ∈ lwU) (k : XE tb Γ0 Γ μ cells slots (pc + 3) al (vR (600 + i) :: st) P I Q) : XE tb Γ0 Γ μ cells slots pc al (vR (500 + i) :: st) P I Q := by
  intro p e s m args below meth c B H locs ls hl hK hP hD hS hX
  exact vk_getf B.1.1 B.1.2.1 (hX.1 i hi).2.2.1 hS B.1.2.2.2.1 (B.1.2.2.2.2.1 _ hf) (fun _ h => h) hd (k p e s m args below meth c B H locs ls hl hK hP hD hS hX)
theorem y_getSc {index i : Nat} (hd : decode μ.2.2.1 pc = .ok (.getfield index, 3)) (hi : i < 9) (hf : Cond.fieldLink μ.2.1 index "java/lang/String" "coder" "B" ∈ lwU) (k : XE tb Γ0 Γ μ cells slots (pc + 3) al (vI 0 :: st) P I Q) : XE tb Γ0 Γ μ cells slots pc al (vR (500 + i) :: st) P I Q := by
  intro p e s m args below meth c B H locs ls hl hK hP hD hS hX
  exact vk_getf B.1.1 B.1.2.1 (hX.1 i hi).2.1 hS B.1.2.2.2.1 (B.1.2.2.2.2.1 _ hf) (fun _ h => h) hd (k p e s m args below meth c B H locs ls hl hK hP hD hS hX)
theorem y_alenS {i : Nat} (hd : decode μ.2.2.1 pc = .ok (.arraylength, 1)) (hi : i < 9) (k : XE tb Γ0 Γ μ cells slots (pc + 1) al (vI (lenS.getD i 0) :: st) P I Q) : XE tb Γ0 Γ μ cells slots pc al (vR (600 + i) :: st) P I Q := by
  intro p e s m args below meth c B H locs ls hl hK hP hD hS hX
  exact va_tlen B.1.1 B.1.2.1 (hX.1 i hi).2.2.2 hS (v := Int32.ofInt (lenS.getD i 0)) (Int32.ofInt_eq_ofNat).symm hd (k p e s m args below meth c B H locs ls hl hK hP hD hS hX)
theorem y_baldS {i : Nat} {j : Int} (hd : decode μ.2.2.1 pc = .ok (.baload, 1)) (hi : i < 9) (h0 : 0 ≤ j) (h1 : j < lenS.getD i 0) (hL : lenS.getD i 0 < 100) (k : XE tb Γ0 Γ μ cells slots (pc + 1) al (vI (chS i j.toNat) :: st) P I Q) : XE tb Γ0 Γ μ cells slots pc al (vI j :: vR (600 + i) :: st) P I Q := by
  intro p e s m args below meth c B H locs ls hl hK hP hD hS hX
  refine va_tb B.1.1 B.1.2.1 (hX.1 i hi).2.2.2 hS (zi_in h0 h1 (by omega)) (v := .int (Int32.ofInt (chS i j.toNat))) ?_ hd (k p e s m args below meth c B H locs ls hl hK hP hD hS hX)
  rw [zi_nat h0 (by omega)]
  simp only [chS, Int32.ofInt_toInt]
theorem y_getsC {index : Nat} (hd : decode μ.2.2.1 pc = .ok (.getstatic index, 3)) (hf : Cond.fieldLink μ.2.1 index "java/lang/String" "COMPACT_STRINGS" "Z" ∈ lwU) (k : XE tb Γ0 Γ μ cells slots (pc + 3) al (vI 1 :: st) P I Q) : XE tb Γ0 Γ μ cells slots pc al st P I Q := by
  intro p e s m args below meth c B H locs ls hl hK hP hD hS hX
  exact va_gets B.1.1 B.1.2.1 hX.2.2.1 hS B.1.2.2.2.1 (B.1.2.2.2.2.1 _ hf) (fun _ h => h) hd (k p e s m args below meth c B H locs ls hl hK hP hD hS hX)
theorem y_getsF {index : Nat} (hd : decode μ.2.2.1 pc = .ok (.getstatic index, 3)) (hf : Cond.fieldLink μ.2.1 index "jdk/internal/util/Preconditions" "SIOOBE_FORMATTER" "Ljava/util/function/BiFunction;" ∈ lwU) (k : ∀ v, isLv v = false → XE tb Γ0 Γ μ cells slots (pc + 3) al (v :: st) P I Q) : XE tb Γ0 Γ μ cells slots pc al st P I Q := by
  intro p e s m args below meth c B H locs ls hl hK hP hD hS hX
  rcases hX.2.2.2.1 with h | h
  · exact va_gets B.1.1 B.1.2.1 h hS B.1.2.2.2.1 (B.1.2.2.2.2.1 _ hf) (fun _ h => h) hd (k vN rfl p e s m args below meth c B H locs ls hl hK hP hD hS hX)
  · exact va_gets B.1.1 B.1.2.1 h hS B.1.2.2.2.1 (B.1.2.2.2.2.1 _ hf) (fun _ h => h) hd (k (vR 700) rfl p e s m args below meth c B H locs ls hl hK hP hD hS hX)
theorem y_i2c {a : Int} (hd : decode μ.2.2.1 pc = .ok (.i2c, 1)) (h0 : 0 ≤ a) (h1 : a < 65536) (k : XE tb Γ0 Γ μ cells slots (pc + 1) al (vI a :: st) P I Q) : XE tb Γ0 Γ μ cells slots pc al (vI a :: st) P I Q := by
  intro p e s' m args below meth c B H locs ls hl hK hP hD hS hX
  refine lv_i2c B.1.1 B.1.2.1 hd (v := Int32.ofInt a) ?_ (k p e s' m args below meth c B H locs ls hl hK hP hD hS hX)
  rw [pk_char, zi_bits, nI, ← Int32.ofInt_eq_ofNat]
  congr 1
  omega
end XR
section XR
variable {tb : HTB} {Γ0 Γ : GG} {μ : MI} {cells slots pc : Nat} {al : List (Nat × AV)} {st : List AV} {P : MP} {I : MM} {Q : ET}
theorem y_acopy {index a b na nb n : Nat} (hd : decode μ.2.2.1 pc = .ok (.invokestatic index, 3)) (hm : Cond.methodLink μ.2.1 index arraycopyName ∈ lwU) (w1 : Cond.native arraycopyName ∈ lwU) (w2 : Cond.static arraycopyName ∈ lwU) (w3 : Cond.initialized "java/lang/System" ∈ lwU) (ha : Ob Γ a (.inr (0, na))) (hb : Ob Γ b (.inr (0, nb))) (h1 : n ≤ na) (h2 : n ≤ nb) (hn : n < 2147483648) (hR : 1 ≤ μ.2.2.2.2.2.frames ∧ avLen st + (nativeFrameWords "java/lang/System" "arraycopy" 5 + 11) ≤ μ.2.2.2.2.2.locals)
    (k : XE tb Γ0 Γ μ cells slots (pc + 3) al st P (cp2 I a b n) Q) : XE tb Γ0 Γ μ cells slots pc al (vI (n : Int) :: vI 0 :: vR b :: vI 0 :: vR a :: st) P I Q := by
  intro p e s m args below meth c B H locs ls hl hK hP hD hS hX
  obtain ⟨q0, hq0, he0⟩ := ha.arr P I
  obtain ⟨q1, hq1, he1⟩ := hb.arr P I
  have en : (Int32.ofInt (n : Int)).toNatClampNeg = n := by rw [zi_nat (by omega) (by omega)]; omega
  have e0 : (Int32.ofInt 0).toNatClampNeg = 0 := rfl
  refine va_copyi B.1.1 B.1.2.1 (B.1.2.2.1.trans hl.1.symm) B.1.2.2.2.1 (B.1.2.2.2.2.1 _ hm) (B.1.2.2.2.2.1 _ w1) (B.1.2.2.2.2.1 _ w2) (B.1.2.2.2.2.1 _ w3) hK hP hD hS q0 q1 0 0 he0 he1 rfl rfl rfl
    (sp := Int32.ofInt 0) (dp := Int32.ofInt 0) (n := Int32.ofInt (n : Int)) (by decide) (by decide) (fun q => by have := (zi_lt0 ⟨by omega, by omega⟩).mp q; omega) (by rw [en, e0]; omega) (by rw [en, e0]; omega) (fun i hi => rfl) hR.1 (by rw [cat_sum]; exact hR.2) hd (fun H1 locs1 hP1 hD1 hS1 => ?_)
  rw [en, e0] at hP1
  have hset : (gw Γ P I).set q1 (gr Γ b, .inl (gk Γ 0, nb, .inl (va_cpy (fun j => Int32.ofInt (I a j)) (fun j => Int32.ofInt (I b j)) 0 0 n))) = gw Γ P (cp2 I a b n) := by
    refine wl_set hD hq1 ?_ cw_neC
    simp only [cw, hb.2, ar]
    congr 3
    congr 1
    funext j
    by_cases hj : j < n
    · rw [pk_cpy_in (Nat.zero_le _) (by omega)]
      simp [cp2, hj]
    · rw [pk_cpy_out (Or.inr (by omega))]
      simp [cp2, hj]
  rw [hset] at hP1
  exact k p e s m args below meth c B H1 locs1 ls hl hK hP1 (gw_D hD) hS1 hX
end XR
