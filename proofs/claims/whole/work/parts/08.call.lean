/-! CALLS: a method's contract over the abstract memory, its entry, and its calls -/
def wsM (μ : MI) : List Cond := .code μ.1 μ.2.2.1 μ.2.2.2.1 μ.2.2.2.2.1 :: lwU
def Pq (Γ : GG) (P : MP) (I : MM) (sz : Nat) : State → Prop := fun U => U.heap.size = sz ∧ va_K (gD Γ) vwCl (tysK (gk Γ)) U ∧ va_P (gD Γ) vwCl (gw Γ P I) U.heap ∧ va_D (RG Γ sz) (gw Γ P I) ∧ RO (gs Γ) (gr Γ) (RG Γ sz) U U.heap
/-- the method μ, called with args over the memory P, I, returns as Q says -/
def Cl (Γ : GG) (μ : MI) (args : List AV) (P : MP) (I : MM) (Q : QT) : Prop :=
  ∀ sz : Nat, Met (gl Γ) μ.1 (wsM μ) μ.2.2.2.2.2 (va_Pc (args.map (cv (gr Γ))) (Pq Γ P I sz)) (PQ Γ Q) μ.2.2.2.2.2.cells μ.2.2.2.2.2.slots (RG Γ sz)
def avArgs : Nat → List AV → List (Nat × AV)
  | _, [] => []
  | i, v :: vs => (i, v) :: avArgs (if isLv v then i + 2 else i + 1) vs
def avLen : List AV → Nat
  | [] => 0
  | v :: vs => (if isLv v then 2 else 1) + avLen vs
theorem av_args (ρ : Nat → Nat) : ∀ (vs : List AV) (i : Nat), lv_args i (vs.map (cv ρ)) = cvl ρ (avArgs i vs)
  | [], i => rfl
  | v :: vs, i => by
    simp only [List.map_cons, lv_args, avArgs, cvl, cv_cat]
    cases hl : isLv v with
    | true => simp only [if_true]; rw [av_args ρ vs (i + 2)]; rfl
    | false => simp only [Bool.false_eq_true, if_false]; rw [if_neg (by decide), av_args ρ vs (i + 1)]; rfl
theorem av_len (ρ : Nat → Nat) : ∀ (vs : List AV), (lg_sl (vs.map (cv ρ))).length = avLen vs
  | [] => rfl
  | v :: vs => by
    have h := av_len ρ vs
    simp only [lg_sl, List.map_cons, List.flatMap_cons, List.length_append, avLen, cv_cat] at h ⊢
    rw [h]
    cases hl : isLv v with
    | true => simp
    | false => simp
/-- what a method's name must be -/
def Nm (μ : MI) : Prop := plainName μ.1.cls = true ∧ μ.1.cls = μ.2.1
theorem cl_of {Γ : GG} {μ : MI} {args : List AV} {P : MP} {I : MM} {Q : QT} (hn : Nm μ) (hL : avLen args ≤ μ.2.2.2.1) (h : XM Γ μ 0 0 0 (avArgs 0 args) [] P I Q) : Cl Γ μ args P I Q := by
  intro sz
  refine Met.ofW (cc := μ.2.2.1) (maxL := μ.2.2.2.1) (ret := μ.2.2.2.2.1) hn.1 rfl ?_
  intro p e s m args2 below meth c s₁ B hml hv
  obtain ⟨rfl, hsz, hK, hP, hD, hX⟩ := hv
  have hown : s.vm.findClass μ.2.1 = some m.cls := by rw [← hn.2]; exact findClass_of_methodNamed B.named
  have hts := atoms_spec (ws := wsM μ) B.pre
  have hl := lv_entry (args.map (cv (gr Γ))) (n := μ.2.2.2.1) (by rw [av_len]; exact hL)
  rw [av_args] at hl
  rw [lg_entry_eq]
  subst hsz
  exact h p e s m _ below meth c ⟨B.exec, B.bytes, hml, hown, fun w hw => hts w (List.mem_cons_of_mem _ hw), B.returns, B.notSynchronized⟩ s.heap [] _ hl hK hP hD va_S.rf hX
/-- the words and the room of a call -/
def LkR (μ ν : MI) : Prop := ν.2.2.2.2.2.frames + 1 ≤ μ.2.2.2.2.2.frames ∧ 8 + (ν.2.2.2.1 + 11) + ν.2.2.2.2.2.locals ≤ μ.2.2.2.2.2.locals
def LkN (ν : MI) (n : Nat) : Prop := ν.1.cls ≠ "java/lang/invoke/MethodHandle" ∧ ν.1.cls ≠ "java/lang/invoke/VarHandle" ∧ (parseMethodDescriptor ν.1.desc).map (fun d => d.parameters.length) = some n
def LkV (ν : MI) (n : Nat) : Prop := Cond.instanceMethod ν.1 ∈ lwU ∧ Cond.selects ν.1.cls ν.1 ν.1 ∈ lwU ∧ Cond.initialized ν.1.cls ∈ lwU ∧ Cond.code ν.1 ν.2.2.1 ν.2.2.2.1 ν.2.2.2.2.1 ∈ lwU ∧ LkN ν n
def LkS (ν : MI) (n : Nat) : Prop := Cond.static ν.1 ∈ lwU ∧ Cond.initialized ν.1.cls ∈ lwU ∧ Cond.code ν.1 ν.2.2.1 ν.2.2.2.1 ν.2.2.2.2.1 ∈ lwU ∧ LkN ν n
theorem goodV {μ ν : MI} {n index : Nat} (h : LkV ν n) (hm : Cond.methodLink μ.2.1 index ν.1 ∈ lwU) : GoodIn lwU (wsV μ.2.1 index ν.1.cls ν.1 (wsM ν)) := by
  intro w hw
  have key : w ∈ lwU := by
    simp only [wsV, wsM, List.mem_append, List.mem_cons, List.not_mem_nil, or_false] at hw
    rcases hw with (rfl | rfl | rfl | rfl) | rfl | hw
    · exact hm
    · exact h.1
    · exact h.2.1
    · exact h.2.2.1
    · exact h.2.2.2.1
    · exact hw
  exact ⟨key, goodU w key⟩
theorem goodS {μ ν : MI} {n index : Nat} (h : LkS ν n) (hm : Cond.methodLink μ.2.1 index ν.1 ∈ lwU) : GoodIn lwU (va_wsS μ.2.1 index ν.1 (wsM ν)) := by
  intro w hw
  have key : w ∈ lwU := by
    simp only [va_wsS, wsM, List.mem_append, List.mem_cons, List.not_mem_nil, or_false] at hw
    rcases hw with (rfl | rfl | rfl) | rfl | hw
    · exact hm
    · exact h.1
    · exact h.2.1
    · exact h.2.2.1
    · exact hw
  exact ⟨key, goodU w key⟩
theorem pq_blind {Γ : GG} {P : MP} {I : MM} {sz : Nat} {as : List Value} : FrameBlind (va_Pc as (Pq Γ P I sz)) := fun a U g mk q => ⟨q.1, q.2.1, va_K.moved (u := U) (U := U.calling g mk a) (Vm.Alike.refl U.vm) q.2.2.1, q.2.2.2.1, q.2.2.2.2.1, RO.warm (s := U) (U := U.calling g mk a) (State.WarmedH.refl U) q.2.2.2.2.2⟩
theorem rg_sz {Γ : GG} {a b : Nat} (h : a ≤ b) : ∀ q, RG Γ b q → RG Γ a q := fun q hq => hq.elim Or.inl (fun z => Or.inr (Nat.le_trans h z))
theorem gw_DR {Γ : GG} {P : MP} {I : MM} {A : Nat → Prop} (sz : Nat) (h : va_D A (gw Γ P I)) : va_D (RG Γ sz) (gw Γ P I) := by
  refine ⟨h.1, fun k q hk => ?_⟩
  simp only [gw, wl, List.getElem?_map] at hk
  cases hi : (gi Γ)[k]? with
  | none => rw [hi] at hk; cases hk
  | some i => rw [hi] at hk; cases hk; exact Or.inl ⟨i, List.mem_of_getElem? hi, rfl⟩
theorem ro_call {Γ : GG} {s U : State} {H : Heap} {locs : List Loc} (hU : U.heap = H) (hW : s.WarmedH U.vm) (hS : va_S (RG Γ s.heap.size) s.heap H locs) (hX : RO (gs Γ) (gr Γ) (RG Γ s.heap.size) s s.heap) : RO (gs Γ) (gr Γ) (RG Γ H.size) U U.heap := by
  rw [hU]
  exact RO.warm hW ((hX.kept (fun a h1 h2 => hS.2.1 a h1 h2)).narrow (rg_sz hS.1))
section XR
variable {Γ : GG} {μ ν : MI} {cells slots pc : Nat} {al al' : List (Nat × AV)} {st as : List AV} {P : MP} {I : MM} {Q R : QT}
theorem cat_sum (ρ : Nat → Nat) : ∀ (st : List AV), ((st.map (cv ρ)).map fun v => v.category).sum = avLen st
  | [] => rfl
  | v :: vs => by
    simp only [List.map_cons, List.sum_cons, avLen, cv_cat]
    rw [cat_sum ρ vs]
/-- behind a call -/
theorem x_run {p : Program} {e : Env} {s : State} {m : MethodId} {args : Array Value} {below : List Frame} {meth : Method} {c : Code} {Rm : Room} {Qw : State → Prop} {H : Heap} {locs : List Loc} {ls : Array Slot} {st0 : List Value} {a : Array Value} {mc ms : Nat}
    (hr : va_Run p (gl Γ) e Rm s m args below meth c H locs cells slots mc ms (F0 m pc ls st0) (st.map (cv (gr Γ))) (PQ Γ R a) (RG Γ H.size)) (hS : va_S (RG Γ s.heap.size) s.heap H locs)
    (kk : ∀ (v : Option AV) (P' : MP) (I' : MM) (H1 : Heap) (locs1 : List Loc), R v P' I' → va_P (gD Γ) vwCl (gw Γ P' I') H1 → va_S (RG Γ s.heap.size) s.heap H1 locs1 → W p (gl Γ) e Rm s m args below meth c H1 locs1 (cells + mc) (slots + ms) Qw (F0 m (pc + 3) ls ((v.toList ++ st).map (cv (gr Γ))))) :
    W p (gl Γ) e Rm s m args below meth c H locs cells slots Qw (F0 m pc ls st0) := by
  intro T hT X
  obtain ⟨v, st₀, t, T', L, h0, X', hL, e1, e2, ⟨⟨v', P', I', hv, hR, hK', hP'⟩, hz, hk⟩, hst⟩ := hr T hT X
  cases hv
  rw [h0] at hz hk
  have hA : ∀ q, RG Γ H.size q → RG Γ s.heap.size q := rg_sz hS.1
  obtain ⟨t2, a1, b1⟩ := kk v' P' I' T'.heap (locs ++ L) hR (by rw [e1]; exact hP')
    ⟨Nat.le_trans hS.1 (by rw [e1]; exact hz), fun q h1 h2 => by rw [e1, hk q (Nat.lt_of_lt_of_le h1 hS.1) (fun z => h2 (hA q z))]; exact hS.2.1 q h1 h2, fun q hq => by
      rcases List.mem_append.mp hq with h | h
      · exact hS.2.2 q h
      · exact hA _ (hL q h)⟩ T' rfl X'
  have e : (v'.map (cv (gr Γ))).toList ++ st.map (cv (gr Γ)) = (v'.toList ++ st).map (cv (gr Γ)) := by cases v' <;> rfl
  rw [e] at hst
  exact ⟨t2, hst t2 a1, b1⟩
theorem x_callV {i ci index n : Nat} (hd : decode μ.2.2.1 pc = .ok (.invokevirtual index, 3)) (hC : Cl Γ ν (vR i :: as) P I R) (hk : LkV ν n) (hm : Cond.methodLink μ.2.1 index ν.1 ∈ lwU) (hR : LkR μ ν) (hc : (vwCl[ci]?).map (fun q => q.1) = some ν.1.cls) (ho : Ob Γ i (.inl ci)) (hn : as.length = n) (hs : avLen st ≤ 8) (hf : cells + ν.2.2.2.2.2.cells ≤ μ.2.2.2.2.2.cells ∧ slots + ν.2.2.2.2.2.slots ≤ μ.2.2.2.2.2.slots)
    (k : ∀ v P' I', R v P' I' → XM Γ μ (cells + ν.2.2.2.2.2.cells) (slots + ν.2.2.2.2.2.slots) (pc + 3) al (v.toList ++ st) P' I' Q) (ast : List AV) (hst : ast = as.reverse ++ vR i :: st) : XM Γ μ cells slots pc al ast P I Q := by
  subst hst
  intro p e s m args below meth c B H locs ls hl hK hP hD hS hX
  obtain ⟨q0, hq, he⟩ := ho.obj P I
  obtain ⟨r, hr1, hr2⟩ : ∃ r : vw_C, vwCl[ci]? = some r ∧ r.1 = ν.1.cls := by
    cases h : vwCl[ci]? with
    | none => rw [h] at hc; cases hc
    | some r => rw [h] at hc; exact ⟨r, rfl, Option.some.inj hc⟩
  have hrecv : ∃ cell : Cell, H[gr Γ i]? = some cell ∧ cell.vm.isStatics = false ∧ s.vm.findClass ν.1.cls = some cell.cls := by
    rw [← hr2]
    exact va_recv hK hP hr1 he
  have hrun := va_runV (C := ν.1.cls) (b := gr Γ i) (As := as.map (cv (gr Γ))) (rest := st.map (cv (gr Γ))) (g := F0 m pc ls ((as.reverse ++ vR i :: st).map (cv (gr Γ)))) (cells := cells) (slots := slots) (locs := locs)
    (⟨B.1, B.2.1, B.2.2.1, B.2.2.2.1, B.2.2.2.2.1⟩ : CallFix p m c μ.2.2.1 μ.2.2.2.1 s args lwU μ.2.1) (hC H.size) (cwV n B.2.2.2.2.1 (goodV hk hm) rfl rfl rfl ⟨rfl, hk.2.2.2.2⟩ hR)
    ⟨pq_blind, hrecv, fun U hU hW => ⟨rfl, by rw [hU], va_K.moved hW.alike hK, by rw [hU]; exact hP, gw_DR _ hD, ro_call hU hW hS hX⟩⟩ rfl (by rw [List.length_map]; exact hn) hl.1 (by simp [cv]) (lv_room (by rw [cat_sum]; exact hs)) hd hf (below := below) (meth := meth) (e := e)
  exact x_run hrun hS (fun v P' I' H1 locs1 hR' hP' hS' => k v P' I' hR' p e s m args below meth c B H1 locs1 ls hl hK hP' (gw_D hD) hS' hX)
theorem x_callS {index n : Nat} (hd : decode μ.2.2.1 pc = .ok (.invokestatic index, 3)) (hC : Cl Γ ν as P I R) (hk : LkS ν n) (hm : Cond.methodLink μ.2.1 index ν.1 ∈ lwU) (hR : LkR μ ν) (hn : as.length = n) (hs : avLen st ≤ 8) (hf : cells + ν.2.2.2.2.2.cells ≤ μ.2.2.2.2.2.cells ∧ slots + ν.2.2.2.2.2.slots ≤ μ.2.2.2.2.2.slots)
    (k : ∀ v P' I', R v P' I' → XM Γ μ (cells + ν.2.2.2.2.2.cells) (slots + ν.2.2.2.2.2.slots) (pc + 3) al (v.toList ++ st) P' I' Q) (ast : List AV) (hst : ast = as.reverse ++ st) : XM Γ μ cells slots pc al ast P I Q := by
  subst hst
  intro p e s m args below meth c B H locs ls hl hK hP hD hS hX
  have hrun := va_runS (As := as.map (cv (gr Γ))) (rest := st.map (cv (gr Γ))) (g := F0 m pc ls ((as.reverse ++ st).map (cv (gr Γ)))) (cells := cells) (slots := slots) (locs := locs)
    (⟨B.1, B.2.1, B.2.2.1, B.2.2.2.1, B.2.2.2.2.1⟩ : CallFix p m c μ.2.2.1 μ.2.2.2.1 s args lwU μ.2.1) (hC H.size) (va_cwS n B.2.2.2.2.1 (goodS hk hm) rfl rfl rfl hk.2.2.2 hR)
    ⟨pq_blind, fun U hU hW => ⟨rfl, by rw [hU], va_K.moved hW.alike hK, by rw [hU]; exact hP, gw_DR _ hD, ro_call hU hW hS hX⟩⟩ rfl (by rw [List.length_map]; exact hn) hl.1 (by simp) (lv_room (by rw [cat_sum]; exact hs)) hd hf (below := below) (meth := meth) (e := e)
  exact x_run hrun hS (fun v P' I' H1 locs1 hR' hP' hS' => k v P' I' hR' p e s m args below meth c B H1 locs1 ls hl hK hP' (gw_D hD) hS' hX)
theorem goodM {ν : MI} (h : Cond.code ν.1 ν.2.2.1 ν.2.2.2.1 ν.2.2.2.2.1 ∈ lwU) : GoodIn lwU (wsM ν) := by
  intro w hw
  have key : w ∈ lwU := by
    rcases List.mem_cons.mp hw with rfl | hw
    · exact h
    · exact hw
  exact ⟨key, goodU w key⟩
/-- a static method of a nest mate -/
theorem x_callSN {index n : Nat} (host : String) (hd : decode μ.2.2.1 pc = .ok (.invokestatic index, 3)) (hC : Cl Γ ν as P I R) (hk : LkS ν n) (hm : (μ.2.1, index, ν.1, host) ∈ nstS) (hR : LkR μ ν) (hn : as.length = n) (hs : avLen st ≤ 8) (hf : cells + ν.2.2.2.2.2.cells ≤ μ.2.2.2.2.2.cells ∧ slots + ν.2.2.2.2.2.slots ≤ μ.2.2.2.2.2.slots)
    (k : ∀ v P' I', R v P' I' → XM Γ μ (cells + ν.2.2.2.2.2.cells) (slots + ν.2.2.2.2.2.slots) (pc + 3) al (v.toList ++ st) P' I' Q) {ast : List AV} (hst : ast = as.reverse ++ st) : XM Γ μ cells slots pc al ast P I Q := by
  subst hst
  intro p e s m args below meth c B H locs ls hl hK hP hD hS hX
  have hrun := va_runSN (host := host) (As := as.map (cv (gr Γ))) (rest := st.map (cv (gr Γ))) (g := F0 m pc ls ((as.reverse ++ st).map (cv (gr Γ)))) (cells := cells) (slots := slots) (locs := locs)
    (⟨B.1, B.2.1, B.2.2.1, B.2.2.2.1, B.2.2.2.2.1⟩ : CallFix p m c μ.2.2.1 μ.2.2.2.1 s args lwU μ.2.1) (hC H.size) ⟨va_cnB n B.2.2.2.2.1 (goodM hk.2.2.1) rfl rfl rfl (hX.2.2.2.2.2.2.2 _ hm) (B.2.2.2.2.1 _ hk.2.1) hk.2.2.2 hR, B.2.2.2.2.1 _ hk.1, trivial⟩
    ⟨pq_blind, fun U hU hW => ⟨rfl, by rw [hU], va_K.moved hW.alike hK, by rw [hU]; exact hP, gw_DR _ hD, ro_call hU hW hS hX⟩⟩ rfl (by rw [List.length_map]; exact hn) hl.1 (by simp) (lv_room (by rw [cat_sum]; exact hs)) hd hf (below := below) (meth := meth) (e := e)
  exact x_run hrun hS (fun v P' I' H1 locs1 hR' hP' hS' => k v P' I' hR' p e s m args below meth c B H1 locs1 ls hl hK hP' (gw_D hD) hS' hX)
end XR
