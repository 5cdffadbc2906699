/-! METHODS THAT THROW: their contracts, their calls, their handlers -/
abbrev XT : Type := String → MP → MM → Prop
def XQ (Γ : GG) (X : XT) : String → State → State → Prop := fun E st t => (∃ (P' : MP) (I' : MM), X E P' I' ∧ va_K (gD Γ) vwCl (tysK (gk Γ)) t ∧ va_P (gD Γ) vwCl (gw Γ P' I') t.heap) ∧ va_F (RG Γ st.heap.size) st t
def NoQ : Array Value → State → Outcome → State → Prop := fun _ _ _ _ => False
/-- the method throws, as X says -/
def ClT (Γ : GG) (μ : MI) (args : List AV) (P : MP) (I : MM) (X : XT) : Prop :=
  ∀ sz : Nat, vx_Met (gl Γ) μ.1 (wsM μ) μ.2.2.2.2.2 (va_Pc (args.map (cv (gr Γ))) (Pq Γ P I sz)) NoQ (XQ Γ X) μ.2.2.2.2.2.cells μ.2.2.2.2.2.slots (RG Γ sz)
abbrev EX (Γ0 : GG) (μ : MI) (X : XT) : ET := fun below args s => vx_MQ below NoQ (XQ Γ0 X) args s μ.2.2.2.2.2.cells μ.2.2.2.2.2.slots (RG Γ0 s.heap.size)
theorem clt_of {Γ : GG} {μ : MI} {args : List AV} {P : MP} {I : MM} {X : XT} (hn : Nm μ) (hL : avLen args ≤ μ.2.2.2.1) (h : XE (some []) Γ Γ μ 0 0 0 (avArgs 0 args) [] P I (EX Γ μ X)) : ClT Γ μ args P I X := by
  intro sz
  refine vx_ofW (cc := μ.2.2.1) (maxL := μ.2.2.2.1) (ret := μ.2.2.2.2.1) hn.1 rfl ?_
  intro p e s m args2 below meth c s₁ B hml htab hv
  obtain ⟨rfl, hsz, hK, hP, hD, hX⟩ := hv
  have hown : s.vm.findClass μ.2.1 = some m.cls := by rw [← hn.2]; exact findClass_of_methodNamed B.named
  have hts := atoms_spec (ws := wsM μ) B.pre
  have hl := lv_entry (args.map (cv (gr Γ))) (n := μ.2.2.2.1) (by rw [av_len]; exact hL)
  rw [av_args] at hl
  rw [lg_entry_eq]
  subst hsz
  have h0 : c.exceptionTable.toList = tableOf [] := List.eq_nil_iff_forall_not_mem.mpr htab
  exact h p e s m _ below meth c ⟨⟨B.exec, B.bytes, hml, hown, fun w hw => hts w (List.mem_cons_of_mem _ hw), B.returns, B.notSynchronized⟩, fun _ => (name_of_methodNamed B.named B.method).1, fun h9 e9 => by cases e9; exact h0⟩ s.heap [] _ hl hK hP hD va_S.rf hX
/-- the words of a throw -/
def exN : List String := ["java/lang/RuntimeException", "java/lang/Exception"]
def ThB (E : String) : List Cond := [.declares ⟨"java/lang/RuntimeException", "<init>", "(Ljava/lang/String;)V"⟩, .declares ⟨"java/lang/Exception", "<init>", "(Ljava/lang/String;)V"⟩, .declares ⟨"java/lang/Throwable", "<init>", "(Ljava/lang/String;)V"⟩, .castable E E]
def ThA (E : String) (L : List Cond) : Prop := (∀ w ∈ L.filter goodWord, w ∈ lwU) ∧ (∀ w ∈ L.filter (fun w => !goodWord w), w ∈ ThB E) ∧ ∀ w ∈ L, vx_ot w = true
theorem ThA.hat {E : String} {L : List Cond} (h : ThA E L) (hE : E ∈ excS) {sc : SC} {ρ : Nat → Nat} {A : Nat → Prop} {s : State} {H : Heap} {args : Array Value} (hU : ∀ w ∈ lwU, w.before args s = true) (hX : RO sc ρ A s H) : ∀ w ∈ L, w.before args s = true := by
  refine vx_hat (fun w hw => hU w (h.1 w hw)) h.2.1 (fun w hw => ?_)
  obtain ⟨-, -, -, -, -, ⟨-, -, -, c1, c2⟩, -, -⟩ := hX
  simp only [ThB, List.mem_cons, List.not_mem_nil, or_false] at hw
  rcases hw with rfl | rfl | rfl | rfl
  · exact va_Nw.use rfl (c2 _ (by decide +kernel))
  · exact va_Nw.use rfl (c2 _ (by decide +kernel))
  · exact va_Nw.use rfl (c2 _ (by decide +kernel))
  · exact va_Nw.use rfl (c1 E hE)
theorem tha_of {E : String} {L : List Cond} (ps : List Nat) (h1 : L.filter goodWord = ps.filterMap (fun i => tables_1[i]?)) (h2 : (L.filter (fun w => !goodWord w)).all (fun w => decide (w ∈ ThB E)) = true) (h3 : L.all vx_ot = true) : ThA E L := by
  refine ⟨fun w hw => ?_, fun w hw => of_decide_eq_true (List.all_eq_true.mp h2 w hw), fun w hw => List.all_eq_true.mp h3 w hw⟩
  have hg := (List.mem_filter.mp hw).2
  rw [h1] at hw
  obtain ⟨i, -, hi⟩ := List.mem_filterMap.mp hw
  exact inU i hi hg
section XG
variable {tb : HTB} {Γ0 Γ : GG} {μ ν : MI} {cells slots pc : Nat} {al al' : List (Nat × AV)} {st as : List AV} {P : MP} {I : MM} {Q : ET} {X X' : XT}
/-- what a throw needs of its method -/
def ThR (μ : MI) (cells slots : Nat) : Prop := 5 < μ.2.2.2.2.2.frames ∧ 90 ≤ μ.2.2.2.2.2.locals ∧ cells + 1 ≤ μ.2.2.2.2.2.cells ∧ slots + 6 ≤ μ.2.2.2.2.2.slots
theorem xq_of {E : String} {s t : State} {H : Heap} {locs : List Loc} (hq : X E P I) (hal : s.vm.Alike t.vm) (hz : H.size ≤ t.heap.size) (hh : ∀ q : Nat, q < H.size → t.heap[q]? = H[q]?) (hK : va_K (gD Γ) vwCl (tysK (gk Γ)) s) (hP : va_P (gD Γ) vwCl (gw Γ P I) H) (hS : va_S (RG Γ s.heap.size) s.heap H locs) : XQ Γ X E s t :=
  ⟨⟨P, I, hq, va_K.moved hal hK, hP.kept (fun k q hk => hh q.1 (hP k q hk).lt)⟩, Nat.le_trans hS.1 hz, fun q h1 h2 => (hh q (Nat.lt_of_lt_of_le h1 hS.1)).trans (hS.2.1 q h1 h2)⟩
theorem y_throw {ik is ic : Nat} (E tx : String) (i : Nat) (hst : (gl Γ).stackTraces = false) (hE : E ∈ excS) (hf : Bundle.fit E = true) (wk : Cond.classLink μ.2.1 ik E ∈ lwU) (wi : Cond.initialized E ∈ lwU) (ho : (μ.2.1, is, tx, i) ∈ occS) (hat : ThA E (vx_atS μ.2.1 ic E exN))
    (d0 : decode μ.2.2.1 pc = .ok (.new ik, 3)) (d3 : decode μ.2.2.1 (pc + 3) = .ok (.dup, 1)) (d4 : decode μ.2.2.1 (pc + 4) = .ok (.ldc is, 2)) (d6 : decode μ.2.2.1 (pc + 6) = .ok (.invokespecial ic, 3)) (d9 : decode μ.2.2.1 (pc + 9) = .ok (.athrow, 1))
    (hR : ThR μ cells slots) (hs : avLen st ≤ 8) (hq : X E P I) : XE (some []) Γ Γ μ cells slots pc al st P I (EX Γ μ X) := by
  intro p e s m args below meth c B H locs ls hl hK hP hD hS hX
  refine vx_throwS (names := exN) (sa := gr Γ (500 + i)) B.1.1 B.1.2.1 hst B.1.2.2.2.1 hf (by decide +kernel) (B.1.2.2.2.2.1 _ wk) (B.1.2.2.2.2.1 _ wi) (hX.2.1 _ ho) (hat.hat hE B.1.2.2.2.2.1 hX) (fun w hw => ?_) hX.2.2.2.2.1.1 hX.2.2.2.2.1.2 hS (by rw [B.1.2.2.1]; exact hl.1) d0 d3 d4 d6 d9
    (fun x hx => by rw [B.2.2 _ rfl] at hx; cases hx) (by have := hR.1; show 2 + 3 < _; omega) (by have := hR.2.1; rw [cat_sum]; show avLen st + (13 * (2 + 1) + 43) ≤ _; omega) hR.2.2.1 hR.2.2.2 B.1.2.2.2.2.2.2 (fun t hal hz hh => xq_of hq hal hz hh hK hP hS) hS.2.2 hR.2.2.1 hR.2.2.2
  rcases List.mem_cons.mp hw with rfl | hw
  · rfl
  · rcases List.mem_cons.mp hw with rfl | hw
    · rfl
    · exact hat.2.2 w hw
theorem y_throwN {ik is ic : Nat} (tx : String) (i : Nat) (hst : (gl Γ).stackTraces = false) (wk : Cond.classLink μ.2.1 ik nsE ∈ lwU) (wi : Cond.initialized nsE ∈ lwU) (ho : (μ.2.1, is, tx, i) ∈ occS) (hat : ThA nsE (nx_at μ.2.1 ic))
    (d0 : decode μ.2.2.1 pc = .ok (.new ik, 3)) (d3 : decode μ.2.2.1 (pc + 3) = .ok (.dup, 1)) (d4 : decode μ.2.2.1 (pc + 4) = .ok (.ldc is, 2)) (d6 : decode μ.2.2.1 (pc + 6) = .ok (.invokespecial ic, 3)) (d9 : decode μ.2.2.1 (pc + 9) = .ok (.athrow, 1))
    (hR : ThR μ cells slots) (hs : avLen st ≤ 8) (hq : X nsE P I) : XE (some []) Γ Γ μ cells slots pc al st P I (EX Γ μ X) := by
  intro p e s m args below meth c B H locs ls hl hK hP hD hS hX
  refine nx_throwS (sa := gr Γ (500 + i)) B.1.1 B.1.2.1 hst B.1.2.2.2.1 (B.1.2.2.2.2.1 _ wk) (B.1.2.2.2.2.1 _ wi) (hX.2.1 _ ho) (hat.hat (by decide +kernel) B.1.2.2.2.2.1 hX) (fun w hw => ?_) hX.2.2.2.2.1.1 hX.2.2.2.2.1.2 hS (by rw [B.1.2.2.1]; exact hl.1) d0 d3 d4 d6 d9
    (fun x hx => by rw [B.2.2 _ rfl] at hx; cases hx) hR.1 (by have := hR.2.1; rw [cat_sum]; omega) hR.2.2.1 hR.2.2.2 B.1.2.2.2.2.2.2 (fun t hal hz hh => xq_of hq hal hz hh hK hP hS) hS.2.2 hR.2.2.1 hR.2.2.2
  rcases List.mem_cons.mp hw with rfl | hw
  · rfl
  · rcases List.mem_cons.mp hw with rfl | hw
    · rfl
    · exact hat.2.2 w hw
/-- what a call that throws leaves -/
theorem y_tr {p : Program} {e : Env} {s : State} {m : MethodId} {args : Array Value} {below : List Frame} {meth : Method} {c : Code} {Rm : Room} {Qw : State → Prop} {H : Heap} {locs : List Loc} {ls : Array Slot} {st0 rest : List Value} {a : Array Value} {mc ms : Nat}
    (hD : va_D (RG Γ0 s.heap.size) (gw Γ P I)) (hr : vx_Run p (gl Γ) e Rm s m args below meth c H locs cells slots mc ms (F0 m pc ls st0) rest (NoQ a) (XQ Γ X) (RG Γ H.size)) (hS : va_S (RG Γ0 s.heap.size) s.heap H locs)
    (kk : ∀ (E : String) (ce : Cell) (q9 : Addr) (P' : MP) (I' : MM) (H1 : Heap) (locs1 : List Loc), X E P' I' → va_P (gD Γ) vwCl (gw Γ P' I') H1 → va_S (RG Γ0 s.heap.size) s.heap H1 locs1 → H1[q9]? = some ce → ce.vm = .none → s.vm.findClass E = some ce.cls → vx_W p (gl Γ) e Rm s m args below meth c H1 locs1 (cells + mc) (slots + ms) Qw (F0 m pc ls rest) q9) :
    W p (gl Γ) e Rm s m args below meth c H locs cells slots Qw (F0 m pc ls st0) := by
  intro T hT X0
  have hA : ∀ q, RG Γ H.size q → RG Γ0 s.heap.size q := rg_of hD hS.1
  rcases hr T hT X0 with ⟨v, st₀, t, T', L, h0, X', hL, e1, e2, hF, -⟩ | ⟨q, st₀, t, T', L, E, ce, h0, X', hL, e1, e2, ⟨⟨P', I', hq, hK', hP'⟩, hF⟩, hce, hcv, hcl, st⟩
  · exact hF.elim
  · rw [h0] at hF
    obtain ⟨k1, k2, k3⟩ := vx_keep h0 e1 hS (fun q _ h => hA q h) hA hL hF
    obtain ⟨t2, a1, b1⟩ := kk E ce q P' I' T'.heap (locs ++ L) hq (by rw [e1]; exact hP') k3 (by rw [e1]; exact hce) hcv hcl T' rfl X'
    exact ⟨t2, st.trans a1, b1⟩
theorem y_tV {i ci index n : Nat} (hd : decode μ.2.2.1 pc = .ok (.invokevirtual index, 3)) (hC : ClT Γ ν (vR i :: as) P I X) (hk : LkV ν n) (hm : Cond.methodLink μ.2.1 index ν.1 ∈ lwU) (hR : LkR μ ν) (hc : (vwCl[ci]?).map (fun q => q.1) = some ν.1.cls) (ho : Ob Γ i (.inl ci)) (hn : as.length = n) (hs : avLen st ≤ 8) (hf : cells + ν.2.2.2.2.2.cells ≤ μ.2.2.2.2.2.cells ∧ slots + ν.2.2.2.2.2.slots ≤ μ.2.2.2.2.2.slots)
    (ast : List AV) (hst : ast = as.reverse ++ vR i :: st) (hq : ∀ E P' I', X E P' I' → X' E P' I') : XE (some []) Γ Γ μ cells slots pc al ast P I (EX Γ μ X') := by
  subst hst
  intro p e s m args below meth c B H locs ls hl hK hP hD hS hX
  obtain ⟨q0, hq0, he⟩ := ho.obj P I
  obtain ⟨r, hr1, hr2⟩ : ∃ r : vw_C, vwCl[ci]? = some r ∧ r.1 = ν.1.cls := by
    cases h : vwCl[ci]? with
    | none => rw [h] at hc; cases hc
    | some r => rw [h] at hc; exact ⟨r, rfl, Option.some.inj hc⟩
  have hrecv : ∃ cell : Cell, H[gr Γ i]? = some cell ∧ cell.vm.isStatics = false ∧ s.vm.findClass ν.1.cls = some cell.cls := by
    rw [← hr2]
    exact va_recv hK hP hr1 he
  have hrun := vx_runV (C := ν.1.cls) (b := gr Γ i) (As := as.map (cv (gr Γ))) (rest := st.map (cv (gr Γ))) (g := F0 m pc ls ((as.reverse ++ vR i :: st).map (cv (gr Γ)))) (cells := cells) (slots := slots) (locs := locs)
    (⟨B.1.1, B.1.2.1, B.1.2.2.1, B.1.2.2.2.1, B.1.2.2.2.2.1⟩ : CallFix p m c μ.2.2.1 μ.2.2.2.1 s args lwU μ.2.1) (hC H.size) (cwV n B.1.2.2.2.2.1 (goodV hk hm) rfl rfl rfl ⟨rfl, hk.2.2.2.2⟩ hR)
    ⟨pq_blind, hrecv, fun U hU hW => ⟨rfl, by rw [hU], va_K.moved hW.alike hK, by rw [hU]; exact hP, gw_DR _ hD, ro_call0 hD hU hW hS hX⟩⟩ rfl (by rw [List.length_map]; exact hn) hl.1 (by simp [cv]) (lv_room (by rw [cat_sum]; exact hs)) hd hf (below := below) (meth := meth) (e := e)
  refine y_tr hD hrun hS (fun E ce q9 P' I' H1 locs1 hx hP' hS' hcell hv hcl => ?_)
  exact vx_out (fun x hx => by rw [B.2.2 _ rfl] at hx; cases hx) B.1.2.2.2.2.2.2 hcell hv hcl (fun t ht hal => ⟨⟨P', I', hq E P' I' hx, va_K.moved hal hK, by rw [ht]; exact hP'⟩, by rw [ht]; exact hS'.1, fun q h1 h2 => by rw [ht]; exact hS'.2.1 q h1 h2⟩) hS'.2.2 hf.1 hf.2
/-- .. caught here: the handler takes it off the stack, into a local that nobody reads -/
theorem y_cV {hh : List (Nat × Nat × Nat × Nat)} {i ci index n : Nat} {j : Fin 4} {E : String} (hd : decode μ.2.2.1 pc = .ok (.invokevirtual index, 3)) (hC : ClT Γ ν (vR i :: as) P I X) (hk : LkV ν n) (hm : Cond.methodLink μ.2.1 index ν.1 ∈ lwU) (hR : LkR μ ν) (hc : (vwCl[ci]?).map (fun q => q.1) = some ν.1.cls) (ho : Ob Γ i (.inl ci)) (hn : as.length = n) (hs : avLen st ≤ 8) (hf : cells + ν.2.2.2.2.2.cells ≤ μ.2.2.2.2.2.cells ∧ slots + ν.2.2.2.2.2.slots ≤ μ.2.2.2.2.2.slots)
    (ast : List AV) (hst : ast = as.reverse ++ vR i :: st) (hE : ∀ E' P' I', X E' P' I' → E' = E) (hEx : E ∈ excS) (pre suf : List (Nat × Nat × Nat × Nat)) (x : Nat × Nat × Nat × Nat) (hsp : hh = pre ++ x :: suf)
    (hpass : ∀ z ∈ pre, ∃ nm : String, z.2.2.2 ≠ 0 ∧ Cond.classLink μ.2.1 z.2.2.2 nm ∈ lwU ∧ (E, nm) ∈ ncS) (hx1 : x.1 ≤ pc ∧ pc < x.2.1) (hx2 : x.2.2.2 ≠ 0) (hlk : Cond.classLink μ.2.1 x.2.2.2 E ∈ lwU)
    (hda : decode μ.2.2.1 x.2.2.1 = .ok (.astore_n j, 1)) (hj : (j : Nat) < μ.2.2.2.1) (hal : ∀ q ∈ al', q ∈ al ∧ q.1 ≠ (j : Nat) ∧ isLv q.2 = false)
    (k : ∀ P' I', X E P' I' → XE (some hh) Γ0 Γ μ (cells + ν.2.2.2.2.2.cells) (slots + ν.2.2.2.2.2.slots) (x.2.2.1 + 1) al' [] P' I' Q) : XE (some hh) Γ0 Γ μ cells slots pc al ast P I Q := by
  subst hst
  intro p e s m args below meth c B H locs ls hl hK hP hD hS hX
  obtain ⟨q0, hq0, he⟩ := ho.obj P I
  obtain ⟨r, hr1, hr2⟩ : ∃ r : vw_C, vwCl[ci]? = some r ∧ r.1 = ν.1.cls := by
    cases h : vwCl[ci]? with
    | none => rw [h] at hc; cases hc
    | some r => rw [h] at hc; exact ⟨r, rfl, Option.some.inj hc⟩
  have hrecv : ∃ cell : Cell, H[gr Γ i]? = some cell ∧ cell.vm.isStatics = false ∧ s.vm.findClass ν.1.cls = some cell.cls := by
    rw [← hr2]
    exact va_recv hK hP hr1 he
  have hrun := vx_runV (C := ν.1.cls) (b := gr Γ i) (As := as.map (cv (gr Γ))) (rest := st.map (cv (gr Γ))) (g := F0 m pc ls ((as.reverse ++ vR i :: st).map (cv (gr Γ)))) (cells := cells) (slots := slots) (locs := locs)
    (⟨B.1.1, B.1.2.1, B.1.2.2.1, B.1.2.2.2.1, B.1.2.2.2.2.1⟩ : CallFix p m c μ.2.2.1 μ.2.2.2.1 s args lwU μ.2.1) (hC H.size) (cwV n B.1.2.2.2.2.1 (goodV hk hm) rfl rfl rfl ⟨rfl, hk.2.2.2.2⟩ hR)
    ⟨pq_blind, hrecv, fun U hU hW => ⟨rfl, by rw [hU], va_K.moved hW.alike hK, by rw [hU]; exact hP, gw_DR _ hD, ro_call0 hD hU hW hS hX⟩⟩ rfl (by rw [List.length_map]; exact hn) hl.1 (by simp [cv]) (lv_room (by rw [cat_sum]; exact hs)) hd hf (below := below) (meth := meth) (e := e)
  refine y_tr hD hrun hS (fun E' ce q9 P' I' H1 locs1 hx hP' hS' hcell hv hcl => ?_)
  obtain rfl := hE E' P' I' hx
  have htb := B.2.2 _ rfl
  rw [hsp] at htb
  have htb2 : c.exceptionTable.toList = tableOf pre ++ (⟨x.1, x.2.1, x.2.2.1, x.2.2.2⟩ : ExceptionTableEntry) :: tableOf suf := by
    rw [htb]
    simp only [tableOf, List.map_append, List.map_cons]
  refine vx_catch (own := μ.2.1) (name := E') B.1.2.2.2.1 (tableOf pre) _ (tableOf suf) htb2 (fun z hz => ?_) ?_ hx2 (B.1.2.2.2.2.1 _ hlk) (va_Nw.use rfl (hX.2.2.2.2.2.1.2.2.2.1 _ hEx)) hcell hv hcl ?_
  · obtain ⟨z0, hz0, rfl⟩ := List.mem_map.mp hz
    obtain ⟨nm, h1, h2, h3⟩ := hpass z0 hz0
    exact Or.inr ⟨h1, nm, B.1.2.2.2.2.1 _ h2, hX.2.2.2.2.2.2.1 _ h3⟩
  · simp only [covers, Bool.and_eq_true, decide_eq_true_eq]
    exact hx1
  · refine lv_astore_n (k := j) (x := q9) B.1.1 B.1.2.1 hda rfl hl hj rfl (fun ls2 hl2 => ?_)
    refine k P' I' hx p e s m args below meth c B H1 locs1 ls2 ⟨hl2.1, hl2.2.1, fun q hq => ?_⟩ hK hP' (gw_D hD) hS' hX
    obtain ⟨q1, hq1, rfl⟩ := List.mem_map.mp hq
    obtain ⟨h1, h2, h3⟩ := hal q1 hq1
    refine hl2.2.2 _ (List.mem_cons_of_mem _ (List.mem_filter.mpr ⟨List.mem_map.mpr ⟨q1, h1, rfl⟩, ?_⟩))
    have h4 : (q1.1 == (j : Nat)) = false := by simpa using h2
    simp only [cv_cat, h3, h4]
    simp
end XG
