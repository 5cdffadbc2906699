/-! multianewarray of two dimensions, of ints: the machine's step, with arrays of arrV's form (the library's law for it, Shelf42/MA1 and MA2, is one that a round cannot name: this proof goes its way) -/
def muO (c : ClassId) (N h0 i : Nat) : Cell := arrV c N (fun j => if j < i then Value.ref (h0 + 1 + j) else .null)
def muI (c : ClassId) (M : Nat) : Cell := arrV c M (fun _ => .int 0)
theorem muO_0 (c : ClassId) (N h0 : Nat) : ({ cls := c, slots := Array.replicate N .null, vm := .none } : Cell) = muO c N h0 0 := by
  rw [arrV_new]
  unfold muO
  congr 1
theorem muO_s (c : ClassId) (N h0 i : Nat) : (muO c N h0 i).setSlot i (.ref (h0 + 1 + i)) = muO c N h0 (i + 1) := by
  unfold muO
  rw [arrV_store]
  congr 1
  funext j
  unfold updV
  by_cases e : j = i
  · rw [if_pos e, if_pos (by omega), e]
  · rw [if_neg e]
    show (if j < i then Value.ref (h0 + 1 + j) else Value.null) = _
    by_cases h : j < i
    · rw [if_pos h, if_pos (by omega)]
    · rw [if_neg h, if_neg (by omega)]
def muF (s : State) (c comp : ClassId) (N M : Nat) : Nat → State
  | 0 => s.pushCell (muO c N s.heap.size 0)
  | i + 1 => ((muF s c comp N M i).pushCell (muI comp M)).setCell s.heap.size (muO c N s.heap.size (i + 1))
theorem muF_1 (s : State) (c comp : ClassId) (N M : Nat) : ∀ i, (muF s c comp N M i).heap.size = s.heap.size + 1 + i ∧ (muF s c comp N M i).heap[s.heap.size]? = some (muO c N s.heap.size i) ∧ (muF s c comp N M i).vm = s.vm ∧ (muF s c comp N M i).slotsUsed = s.slotsUsed + N + i * M
  | 0 => ⟨by simp [muF], by simp [muF], rfl, by simp [muF, muO, arrV_size]⟩
  | i + 1 => by
    obtain ⟨a, b, d, u⟩ := muF_1 s c comp N M i
    have hlt : s.heap.size < (muF s c comp N M i).heap.size := by rw [a]; omega
    have hb' : ((muF s c comp N M i).pushCell (muI comp M)).heap[s.heap.size]? = some (muO c N s.heap.size i) := by
      rw [State.heap_pushCell_of_lt (h := hlt)]
      exact b
    have e : (muI comp M).slots.size = M := by simp [muI, arrV_size]
    refine ⟨by simp [muF, State.setCell, a]; omega, State.heap_setCell_self hb', by simp [muF, d], ?_⟩
    simp [muF, u, e, Nat.succ_mul]
    omega
theorem muF_t (s : State) (f : JFrame) (c comp : ClassId) (N M : Nat) : ∀ i, muF (s.setTop f) c comp N M i = (muF s c comp N M i).setTop f
  | 0 => rfl
  | i + 1 => by simp only [muF, muF_t s f c comp N M i, State.heap_setTop, State.pushCell_setTop, State.setCell_setTop]
theorem muF_o (s : State) (c comp : ClassId) (N M : Nat) {a : Addr} (ha : a < s.heap.size) : ∀ i, (muF s c comp N M i).heap[a]? = s.heap[a]?
  | 0 => State.heap_pushCell_of_lt _ _ ha
  | i + 1 => by
    have f1 := (muF_1 s c comp N M i).1
    show (((muF s c comp N M i).pushCell (muI comp M)).setCell s.heap.size _).heap[a]? = _
    have hlt : a < (muF s c comp N M i).heap.size := Nat.lt_of_lt_of_le ha (by rw [f1]; omega)
    rw [State.heap_setCell_other (Nat.ne_of_gt ha), State.heap_pushCell_of_lt (h := hlt)]
    exact muF_o s c comp N M ha i
theorem muF_i (s : State) (c comp : ClassId) (N M : Nat) : ∀ i j, j < i → (muF s c comp N M i).heap[s.heap.size + 1 + j]? = some (muI comp M)
  | 0, _, h => absurd h (Nat.not_lt_zero _)
  | i + 1, j, h => by
    have f1 := (muF_1 s c comp N M i).1
    show (((muF s c comp N M i).pushCell (muI comp M)).setCell s.heap.size _).heap[s.heap.size + 1 + j]? = _
    rw [State.heap_setCell_other (show s.heap.size ≠ s.heap.size + 1 + j by omega)]
    by_cases hj : j < i
    · have hlt : s.heap.size + 1 + j < (muF s c comp N M i).heap.size := by rw [f1]; omega
      rw [State.heap_pushCell_of_lt (h := hlt)]
      exact muF_i s c comp N M i j hj
    · have e : s.heap.size + 1 + j = (muF s c comp N M i).heap.size := by omega
      rw [e]
      exact State.heap_pushCell_size _ _
section MU
variable {E : CtlPost} {e : Env} {d : Bool} {acts : List Action} {s : State}
theorem mu_ref (v : Value) (h : v = .null ∨ ∃ a, v = .ref a) : fits (.array .int) v = true := by
  rcases h with rfl | ⟨a, rfl⟩ <;> rfl
theorem mu_1 {comp cc : ClassId} {kc : Class} {m : Int32} (hkc : s.vm.classes[comp]? = some kc) (hkindc : kc.kind = .array cc .int) (hm : ¬ m < 0)
    (hl2 : ¬ m.toNatClampNeg > e.platform.arrayLengthLimit) (hh2 : ¬ m.toNatClampNeg * componentBytes .int > e.platform.maxHeapBytes)
    (h1 : s.heap.size < e.platform.maxCells) (h2 : s.slotsUsed + m.toNatClampNeg ≤ e.platform.maxSlots)
    {Q : Addr → Pre} (hq : ∀ acts', Q s.heap.size d acts' (s.pushCell (muI comp m.toNatClampNeg))) :
    wp (multianewarray.make comp [m]) Q E e d acts s := by
  rw [multianewarray.make]
  simp only [wp_bind', W.ite, hm, if_false, wp_pure', W.theClass, hkc, hkindc, Option.some.injEq, exists_eq_left']
  refine W.newArray_of hkc hkindc hl2 hh2 h1 h2 rfl (fun acts' => ?_)
  have e1 : ({ cls := comp, slots := Array.replicate m.toNatClampNeg (defaultValue .int) } : Cell) = muI comp m.toNatClampNeg := arrV_new comp m.toNatClampNeg (.int 0)
  rw [e1]
  exact hq acts'
theorem mu_2 {c comp cc : ClassId} {k kc : Class} {n m : Int32} (hk : s.vm.classes[c]? = some k) (hkind : k.kind = .array comp (.array .int))
    (hkc : s.vm.classes[comp]? = some kc) (hkindc : kc.kind = .array cc .int) (hn : ¬ n < 0) (hm : ¬ m < 0)
    (hl1 : ¬ n.toNatClampNeg > e.platform.arrayLengthLimit) (hh1 : ¬ n.toNatClampNeg * componentBytes (.array .int) > e.platform.maxHeapBytes)
    (hl2 : ¬ m.toNatClampNeg > e.platform.arrayLengthLimit) (hh2 : ¬ m.toNatClampNeg * componentBytes .int > e.platform.maxHeapBytes)
    (hc : s.heap.size + 1 + n.toNatClampNeg ≤ e.platform.maxCells) (hs : s.slotsUsed + n.toNatClampNeg + n.toNatClampNeg * m.toNatClampNeg ≤ e.platform.maxSlots)
    {Q : Addr → Pre} (hq : ∀ d' acts', Q s.heap.size d' acts' (muF s c comp n.toNatClampNeg m.toNatClampNeg n.toNatClampNeg)) :
    wp (multianewarray.make c [n, m]) Q E e d acts s := by
  have hfind : ([m].find? (· < 0)) = none := by simp [hm]
  rw [multianewarray.make]
  simp only [wp_bind', W.ite, hn, if_false, wp_pure', W.theClass, hk, hkind, Option.some.injEq, exists_eq_left']
  refine W.newArray_of hk hkind hl1 hh1 (by omega) (by have := Nat.zero_le (n.toNatClampNeg * m.toNatClampNeg); omega) rfl (fun acts1 => ?_)
  have e0 : ({ cls := c, slots := Array.replicate n.toNatClampNeg (defaultValue (.array .int)) } : Cell) = muO c n.toNatClampNeg s.heap.size 0 := muO_0 c n.toNatClampNeg s.heap.size
  simp only [hfind]
  have e0' : ({ cls := c, slots := Array.replicate n.toNatClampNeg Value.null } : Cell) = muO c n.toNatClampNeg s.heap.size 0 := e0
  first | rw [e0] | rw [e0']
  rw [ite_self, wp_bind', Std.Legacy.Range.forIn_eq_forIn_range']
  have hsz : ([:n.toNatClampNeg] : Std.Legacy.Range).size = n.toNatClampNeg := by simp [Std.Legacy.Range.size]
  rw [hsz]
  show wp (forIn (List.range' 0 n.toNatClampNeg 1) PUnit.unit _) _ E e d _ _
  refine wp_forIn_inv (fun rest s' => ∃ i, i ≤ n.toNatClampNeg ∧ rest = List.range' i (n.toNatClampNeg - i) ∧ s' = muF s c comp n.toNatClampNeg m.toNatClampNeg i) _ _ ⟨0, Nat.zero_le _, rfl, rfl⟩ ?_ ?_
  · rintro x rest s' d' acts' Q' ⟨i, hi, hl, rfl⟩ hnext
    have hlt : i < n.toNatClampNeg := by
      rcases Nat.lt_or_ge i n.toNatClampNeg with h | h
      · exact h
      · rw [show n.toNatClampNeg - i = 0 from by omega] at hl; simp at hl
    obtain ⟨rfl, hrest⟩ : x = i ∧ rest = List.range' (i + 1) (n.toNatClampNeg - (i + 1)) := by
      rw [show n.toNatClampNeg - i = (n.toNatClampNeg - (i + 1)) + 1 from by omega, List.range'_succ] at hl
      exact ⟨(List.cons.inj hl).1, (List.cons.inj hl).2⟩
    obtain ⟨f1, f2, f3, f4⟩ := muF_1 s c comp n.toNatClampNeg m.toNatClampNeg x
    have o3 : (muO c n.toNatClampNeg s.heap.size x).slots.size = n.toNatClampNeg := arrV_size _ _ _
    have hmul : x * m.toNatClampNeg + m.toNatClampNeg ≤ n.toNatClampNeg * m.toNatClampNeg := by
      have := Nat.mul_le_mul_right m.toNatClampNeg (show x + 1 ≤ n.toNatClampNeg from hlt)
      rw [Nat.succ_mul] at this; exact this
    simp only [wp_bind']
    refine mu_1 (by rw [f3]; exact hkc) hkindc hm hl2 hh2 (by rw [f1]; omega) (by rw [f4]; omega) (fun acts2 => ?_)
    have hlt0 : s.heap.size < (muF s c comp n.toNatClampNeg m.toNatClampNeg x).heap.size := by rw [f1]; omega
    simp only [wp_bind', W.writeLoc, wp_pure']
    refine ⟨muO c n.toNatClampNeg s.heap.size x, by rw [State.heap_pushCell_of_lt (h := hlt0)]; exact f2, by simp [muO, arrV], by rw [o3]; exact hlt, ?_, hnext _ _ _ ⟨x + 1, hlt, hrest, ?_⟩⟩
    · show State.fitsSlot _ c .none _ _ = true
      simp [State.fitsSlot, State.slotType?, f3, hk, hkind, mu_ref _ (Or.inr ⟨_, rfl⟩)]
    · rw [f1, muO_s]; rfl
  · rintro s' d' acts' ⟨i, hi, hl, rfl⟩
    have hiN : i = n.toNatClampNeg := by
      rcases Nat.lt_or_ge i n.toNatClampNeg with h | h
      · rw [show n.toNatClampNeg - i = (n.toNatClampNeg - (i + 1)) + 1 from by omega, List.range'_succ] at hl; cases hl
      · omega
    subst hiN
    simp only [wp_pure']
    exact hq _ _
end MU
section MW
variable {p : Program} {l : Launch} {e : Env} {R : Room} {s : State} {m : MethodId} {args : Array Value} {below : List Frame} {meth : Method} {c : Code} {T : State} {H : Heap} {locs : List Loc} {cells slots : Nat} {Q : State → Prop}
theorem mu_X (X : Stand p l e R s m args below meth c T locs cells slots) (cA comp : ClassId) (N M : Nat) :
    ∀ i, Stand p l e R s m args below meth c (muF T cA comp N M i) (locs ++ (List.range i).map fun j => ⟨T.heap.size, j⟩) (cells + 1 + i) (slots + N + i * M)
  | 0 => by
    have h := X.pushed (muO cA N T.heap.size 0)
    rw [show (muO cA N T.heap.size 0).slots.size = N from arrV_size _ _ _] at h
    simpa [muF] using h
  | i + 1 => by
    have Xi := mu_X X cA comp N M i
    obtain ⟨f1, f2, f3, f4⟩ := muF_1 T cA comp N M i
    have hcell : ((muF T cA comp N M i).pushCell (muI comp M)).heap[T.heap.size]? = some (muO cA N T.heap.size i) := by
      have hlt : T.heap.size < (muF T cA comp N M i).heap.size := by rw [f1]; omega
      rw [State.heap_pushCell_of_lt (h := hlt)]
      exact f2
    have h := (Xi.pushed (muI comp M)).stored hcell i (.ref (T.heap.size + 1 + i))
    rw [show (muI comp M).slots.size = M from arrV_size _ _ _, muO_s] at h
    have e2 : (locs ++ (List.range (i + 1)).map fun j => (⟨T.heap.size, j⟩ : Loc)) = (locs ++ (List.range i).map fun j => (⟨T.heap.size, j⟩ : Loc)) ++ [⟨T.heap.size, i⟩] := by simp [List.range_succ, List.append_assoc]
    have e3 : slots + N + (i + 1) * M = slots + N + i * M + M := by rw [Nat.succ_mul]; omega
    rw [e2, e3]
    exact h
theorem mu_W {cc : ByteArray} {pc : Nat} {ls : Array Slot} (hexec : p.tables.exec = Jvm.exec) (hb : c.code = cc) {own : String} {index : Nat}
    (hown : s.vm.findClass own = some m.cls) (hclink : (Cond.classLink own index ("[" ++ (FieldType.array .int).toString)).before args s = true)
    (hover : Mx s) (harr : (Cond.arrayClass .int).before args s = true)
    (hdg : decode cc pc = .ok (.multianewarray index 2, 4)) {n k : Int32} {rest : List Value}
    (hn : ¬ n < 0) (hk : ¬ k < 0) (hb1 : n.toNatClampNeg * 4 ≤ 536870912) (hb2 : k.toNatClampNeg * 4 ≤ 536870912)
    (hcells : cells + (1 + n.toNatClampNeg) ≤ R.cells) (hslots : slots + (n.toNatClampNeg + n.toNatClampNeg * k.toNatClampNeg) ≤ R.slots)
    (kk : ∀ (cA comp : ClassId) (H1 : Heap), s.vm.findClass ("[" ++ (FieldType.array .int).toString) = some cA → s.vm.findClass (FieldType.array .int).toString = some comp → H1.size = H.size + 1 + n.toNatClampNeg →
      (∀ a, a < H.size → H1[a]? = H[a]?) → H1[H.size]? = some (muO cA n.toNatClampNeg H.size n.toNatClampNeg) → (∀ j, j < n.toNatClampNeg → H1[H.size + 1 + j]? = some (muI comp k.toNatClampNeg)) →
      W p l e R s m args below meth c H1 (locs ++ (List.range n.toNatClampNeg).map fun j => ⟨H.size, j⟩) (cells + 1 + n.toNatClampNeg) (slots + n.toNatClampNeg + n.toNatClampNeg * k.toNatClampNeg) Q (F0 m (pc + 4) ls (.ref H.size :: rest))) :
    W p l e R s m args below meth c H locs cells slots Q (F0 m pc ls (.int k :: .int n :: rest)) := by
  intro T hT X
  subst hT; subst hb
  have hpl : e.platform.magicAccessors = ({} : Platform).magicAccessors := by rw [X.admits.platform]
  obtain ⟨comp, cA, kA, hcomp, hkA, hkindA, hnameA⟩ := hover
  obtain ⟨compZ, kC, cc, hcompZ, hkC, hkindC⟩ := Cond.arrayClass_spec harr
  obtain rfl : comp = compZ := Option.some.inj (hcomp.symm.trans hcompZ)
  obtain ⟨c0, hfc0, hcl⟩ := Cond.classLink_spec hown hclink e.platform hpl
  cases hnameA.symm.trans hfc0
  obtain ⟨hg₁, hwarm₁, hready₁⟩ := State.classEntry (e := e) X.warmed hcl
  generalize T.vm.noted m.cls index (.cls cA) = vm₁ at hg₁ hwarm₁ hready₁
  have hal : s.vm.Alike vm₁ := hwarm₁.alike
  obtain ⟨kA₁, hkA₁, heA⟩ := hal.2.2 _ _ hkA
  obtain ⟨kC₁, hkC₁, heC⟩ := hal.2.2 _ _ hkC
  have hkindA₁ : kA₁.kind = .array comp (.array .int) := by rw [heA]; exact hkindA
  have hkindC₁ : kC₁.kind = .array cc .int := by rw [heC]; exact hkindC
  have X₁ := X.noted hwarm₁
  obtain ⟨hr1, hr2⟩ := X.roomAbove hcells hslots
  have XF := mu_X X₁ cA comp n.toNatClampNeg k.toNatClampNeg n.toNatClampNeg
  obtain ⟨f1, f2, f3, f4⟩ := muF_1 (T.setVm vm₁) cA comp n.toNatClampNeg k.toNatClampNeg n.toNatClampNeg
  obtain ⟨t', a1, b1⟩ := kk cA comp _ hnameA hcomp f1 (fun a ha => muF_o (T.setVm vm₁) cA comp _ _ ha _) f2 (fun j hj => muF_i (T.setVm vm₁) cA comp _ _ _ j hj) _ rfl XF
  refine ⟨t', ?_, b1⟩
  have hl1 : ¬ n.toNatClampNeg > e.platform.arrayLengthLimit := by rw [Launch.admits_arrayLengthLimit X.admits]; omega
  have hh1 : ¬ n.toNatClampNeg * componentBytes (.array .int) > e.platform.maxHeapBytes := by
    rw [Launch.admits_maxHeapBytes X.admits]; show ¬ n.toNatClampNeg * 4 > 536870912; omega
  have hl2 : ¬ k.toNatClampNeg > e.platform.arrayLengthLimit := by rw [Launch.admits_arrayLengthLimit X.admits]; omega
  have hh2 : ¬ k.toNatClampNeg * componentBytes .int > e.platform.maxHeapBytes := by
    rw [Launch.admits_maxHeapBytes X.admits]; show ¬ k.toNatClampNeg * 4 > 536870912; omega
  generalize hgg : F0 m pc ls (.int k :: .int n :: rest) = g
  have hgm : g.method = m := by rw [← hgg]
  have hgp : g.pc = pc := by rw [← hgg]
  have hgs : g.stack = .int k :: .int n :: rest := by rw [← hgg]
  have hge : F0 m (pc + 4) ls (.ref T.heap.size :: rest) = { g with pc := g.pc + 4, stack := .ref T.heap.size :: rest } := by rw [← hgg]
  rw [hge] at a1
  have hdg' : decode c.code g.pc = .ok (.multianewarray index 2, 4) := by rw [hgp]; exact hdg
  clear hgg hge
  subst hgm
  jvm_step X.here [hexec, hdg']
  simp only [multianewarray.sem, wp_bind', W.resolveClassAt_links (State.method?_setTop g X.here.top) hg₁]
  rw [W.popN, if_neg (by decide)]
  refine ⟨g, State.topJava?_setTop' (s := T.setVm vm₁) g X.here.top, [.int n, .int k], rest, rfl, hgs, ?_⟩
  simp only [List.mapM_cons, List.mapM_nil, wp_bind', wp_pure']
  refine mu_2 (k := kA₁) (kc := kC₁) (comp := comp) (cc := cc) hkA₁ hkindA₁ hkC₁ hkindC₁ hn hk hl1 hh1 hl2 hh2 (by show T.heap.size + 1 + _ ≤ _; omega) (by show T.slotsUsed + _ + _ ≤ _; omega) (fun d' acts' => ?_)
  have eS : ((T.setTop g).setVm vm₁).setTop { g with stack := rest } = (T.setVm vm₁).setTop { g with stack := rest } := by
    show ((T.setVm vm₁).setTop g).setTop _ = _
    rw [State.setTop_setTop]
  rw [eS, muF_t]
  simp only [wp_bind', W.mark, W.pushRef, State.topJava?_setTop' _ XF.here.top, Option.some.injEq, exists_eq_left', State.setTop_setTop, State.heap_setTop]
  intro acts
  simp [jvm, XF.here.top]
  exact a1
end MW
theorem arw_int0 : Cond.arrayClass .int ∈ lwU := inU 71 (by decide +kernel) rfl
/-! the worlds that it makes: the row i of rows j0, j0 + 1 .. -/
def muId (i j0 j : Nat) : Nat := if j = 0 then i else j0 + (j - 1)
def muR (ρ : Nat → Nat) (i j0 n h : Nat) : Nat → Nat := fun x => if x = i then h else if j0 ≤ x ∧ x < j0 + n then h + 1 + (x - j0) else ρ x
def muT (ty : Nat → CT) (i j0 n k : Nat) : Nat → CT := fun x => if x = i then .inr (5, n) else if j0 ≤ x ∧ x < j0 + n then .inr (0, k) else ty x
def muP (P : MP) (i j0 n : Nat) : MP := fun x k => if x = i then (if k < n then some (j0 + k) else none) else if j0 ≤ x ∧ x < j0 + n then none else P x k
def muM (I : MM) (i j0 n : Nat) : MM := fun x k => if x = i then 0 else if j0 ≤ x ∧ x < j0 + n then 0 else I x k
abbrev gM (Γ : GG) (i j0 n k h : Nat) : GG := gX Γ (muR (gr Γ) i j0 n h) (gi Γ ++ (List.range (n + 1)).map (muId i j0)) (muT (gt Γ) i j0 n k)
/-- none of them is in use -/
def muF0 (Γ : GG) (P : MP) (i j0 n : Nat) : Prop := Fsh Γ P i ∧ (∀ j, j < n → Fsh Γ P (j0 + j)) ∧ (i < j0 ∨ j0 + n ≤ i)
theorem muF0.out {Γ : GG} {P : MP} {i j0 n x : Nat} (h : muF0 Γ P i j0 n) (hx : x ∈ gi Γ) : x ≠ i ∧ ¬ (j0 ≤ x ∧ x < j0 + n) := by
  refine ⟨fun e => h.1.1 (e ▸ hx), fun q => ?_⟩
  have := (h.2.1 (x - j0) (by omega)).1
  rw [show j0 + (x - j0) = x by omega] at this
  exact this hx
theorem gM_kp {Γ : GG} {P : MP} {i j0 n k h : Nat} (hF : muF0 Γ P i j0 n) : Kp Γ (gM Γ i j0 n k h) := by
  refine ⟨fun x hx => ?_, fun x h1 h2 => ?_⟩
  · obtain ⟨a, b⟩ := hF.out hx
    exact ⟨List.mem_append_left _ hx, by simp only [gr, gX, muR, a, b, if_false], by simp only [gt, gX, muT, a, b, if_false]⟩
  · have a : x ≠ i := by rcases hF.1.2.1 with z | z <;> omega
    have b : ¬ (j0 ≤ x ∧ x < j0 + n) := fun q => by
      have := (hF.2.1 (x - j0) (by omega)).2.1
      omega
    simp only [gr, gX, muR, a, b, if_false]
theorem gM_o {Γ : GG} {i j0 n k h : Nat} : Ob (gM Γ i j0 n k h) i (.inr (5, n)) :=
  ⟨List.mem_append_right _ (List.mem_map.mpr ⟨0, List.mem_range.mpr (by omega), by simp [muId]⟩), by simp only [gt, gX, muT, if_true]⟩
theorem gM_i {Γ : GG} {i j0 n k h j : Nat} (hi : i < j0 ∨ j0 + n ≤ i) (hj : j < n) : Ob (gM Γ i j0 n k h) (j0 + j) (.inr (0, k)) := by
  refine ⟨List.mem_append_right _ (List.mem_map.mpr ⟨j + 1, List.mem_range.mpr (by omega), by simp [muId]⟩), ?_⟩
  have a : j0 + j ≠ i := by omega
  have b : j0 ≤ j0 + j ∧ j0 + j < j0 + n := by omega
  simp only [gt, gX, muT, a, b, and_self, if_false, if_true]
def muE (Γ : GG) (n k h j : Nat) : va_E := if j = 0 then .inl (gk Γ 5, n, .inr (.inr (.inr (.inr (fun q => if q < n then some (h + 1 + q) else none))))) else .inl (gk Γ 0, k, .inl (fun _ => Int32.ofInt 0))
theorem gM_w {Γ : GG} {P : MP} {I : MM} {i j0 n k h : Nat} (hF : muF0 Γ P i j0 n) : gw (gM Γ i j0 n k h) (muP P i j0 n) (muM I i j0 n) = gw Γ P I ++ (List.range (n + 1)).map (fun j => (h + j, muE Γ n k h j)) := by
  have hA : ∀ x ∈ gi Γ, (muR (gr Γ) i j0 n h x, cw (gk Γ) (muR (gr Γ) i j0 n h) (muT (gt Γ) i j0 n k) (muP P i j0 n) (muM I i j0 n) x) = (gr Γ x, cw (gk Γ) (gr Γ) (gt Γ) P I x) := by
    intro x hx
    obtain ⟨a, b⟩ := hF.out hx
    have e1 : muR (gr Γ) i j0 n h x = gr Γ x := by simp only [muR, a, b, if_false]
    rw [e1]
    refine congrArg (Prod.mk _) ?_
    have e2 : ∀ q, muP P i j0 n x q = P x q := fun q => by simp only [muP, a, b, if_false]
    refine cw_ren2 (by simp only [muT, a, b, if_false]) (fun q hq => ?_) (fun ek m ht h4 q hq => ?_) (fun q => by simp only [muM, a, b, if_false])
    · rw [e2]
      cases hp : P x q with
      | none => rfl
      | some r =>
        have c : r ≠ i := fun e => hF.1.2.2.1 x hx q hq (by rw [hp, e])
        have d : ¬ (j0 ≤ r ∧ r < j0 + n) := fun z => by
          have := (hF.2.1 (r - j0) (by omega)).2.2.1 x hx q hq
          rw [show j0 + (r - j0) = r by omega] at this
          exact this hp
        simp only [Option.map_some, muR, c, d, if_false]
    · rw [e2, (hF.1.2.2.2 x hx ek m ht h4).2 q hq]
      rfl
  have hB : ∀ j ∈ List.range (n + 1), (muR (gr Γ) i j0 n h (muId i j0 j), cw (gk Γ) (muR (gr Γ) i j0 n h) (muT (gt Γ) i j0 n k) (muP P i j0 n) (muM I i j0 n) (muId i j0 j)) = (h + j, muE Γ n k h j) := by
    intro j hj
    have hj := List.mem_range.mp hj
    by_cases j0' : j = 0
    · subst j0'
      have e : muId i j0 0 = i := rfl
      rw [e]
      have e1 : muR (gr Γ) i j0 n h i = h + 0 := by simp only [muR, if_true, Nat.add_zero]
      rw [e1]
      refine congrArg (Prod.mk _) ?_
      have e2 : muT (gt Γ) i j0 n k i = .inr (5, n) := by simp only [muT, if_true]
      unfold cw muE
      rw [e2, if_pos rfl]
      simp only [ar]
      refine congrArg Sum.inl (congrArg (Prod.mk _) (congrArg (Prod.mk _) (congrArg Sum.inr (congrArg Sum.inr (congrArg Sum.inr (congrArg Sum.inr (funext fun q => ?_)))))))
      simp only [muP, if_true]
      by_cases hq : q < n
      · have c : j0 + q ≠ i := by have := hF.2.2; omega
        have d : j0 ≤ j0 + q ∧ j0 + q < j0 + n := by omega
        simp only [hq, if_true, Option.map_some, muR, c, d, and_self, if_false]
        congr 1
        omega
      · simp only [hq, if_false, Option.map_none]
    · have e : muId i j0 j = j0 + (j - 1) := by simp only [muId, j0', if_false]
      rw [e]
      have a : j0 + (j - 1) ≠ i := by have := hF.2.2; omega
      have b : j0 ≤ j0 + (j - 1) ∧ j0 + (j - 1) < j0 + n := by omega
      have e1 : muR (gr Γ) i j0 n h (j0 + (j - 1)) = h + j := by
        simp only [muR, a, b, and_self, if_false, if_true]
        omega
      rw [e1]
      refine congrArg (Prod.mk _) ?_
      have e2 : muT (gt Γ) i j0 n k (j0 + (j - 1)) = .inr (0, k) := by simp only [muT, a, b, and_self, if_false, if_true]
      unfold cw muE
      rw [e2, if_neg j0']
      simp only [ar]
      refine congrArg Sum.inl (congrArg (Prod.mk _) (congrArg (Prod.mk _) (congrArg Sum.inl (funext fun q => ?_))))
      simp only [muM, a, b, and_self, if_false, if_true]
  show List.map (fun x => (muR (gr Γ) i j0 n h x, cw (gk Γ) (muR (gr Γ) i j0 n h) (muT (gt Γ) i j0 n k) (muP P i j0 n) (muM I i j0 n) x)) (gi Γ ++ (List.range (n + 1)).map (muId i j0)) = _
  rw [List.map_append, List.map_congr_left hA, List.map_map]
  refine congrArg (fun z => _ ++ z) ?_
  exact List.map_congr_left hB
section XG
variable {tb : HTB} {Γ0 Γ : GG} {μ ν : MI} {cells slots pc : Nat} {al al' : List (Nat × AV)} {st as : List AV} {P : MP} {I : MM} {Q : ET}
theorem y_multi {index i j0 : Nat} {zn zk : Int} (n k : Nat) (en : zn = (n : Int)) (ek : zk = (k : Int)) (hd : decode μ.2.2.1 pc = .ok (.multianewarray index 2, 4)) (w1 : Cond.classLink μ.2.1 index ("[" ++ (FieldType.array .int).toString) ∈ lwU) (n1 : n < 100000) (k1 : k < 100000) (hF : muF0 Γ P i j0 n) (hr : Rfs Γ al st)
    (hc : cells + (1 + n) ≤ μ.2.2.2.2.2.cells) (hs : slots + (n + n * k) ≤ μ.2.2.2.2.2.slots)
    (kk : ∀ h, XE tb Γ0 (gM Γ i j0 n k h) μ (cells + 1 + n) (slots + n + n * k) (pc + 4) al (vR i :: st) (muP P i j0 n) (muM I i j0 n) Q) : XE tb Γ0 Γ μ cells slots pc al (vI zk :: vI zn :: st) P I Q := by
  subst en; subst ek
  intro p e s m args below meth c B H locs ls hl hK hP hD hS hX
  have tn : (Int32.ofInt (n : Int)).toNatClampNeg = n := by rw [zi_nat (by omega) (by omega)]; omega
  have tk : (Int32.ofInt (k : Int)).toNatClampNeg = k := by rw [zi_nat (by omega) (by omega)]; omega
  refine mu_W (n := Int32.ofInt (n : Int)) (k := Int32.ofInt (k : Int)) B.1.1 B.1.2.1 B.1.2.2.2.1 (B.1.2.2.2.2.1 _ w1) hX.2.2.2.2.2.1.2.1 (B.1.2.2.2.2.1 _ arw_int0) hd
    (fun q => by have := (zi_lt0 ⟨by omega, by omega⟩).mp q; omega) (fun q => by have := (zi_lt0 ⟨by omega, by omega⟩).mp q; omega) (by rw [tn]; omega) (by rw [tk]; omega) (by rw [tn]; exact hc) (by rw [tn, tk]; exact hs)
    (fun cA comp H1 hcA hcomp hz hold houter hinner => ?_)
  rw [tn] at hz houter hinner ⊢
  rw [tk] at hinner ⊢
  have c5 : cA = gk Γ 5 := Option.some.inj (hcA.symm.trans (hK.2 5 _ rfl).2)
  have c0 : comp = gk Γ 0 := Option.some.inj (hcomp.symm.trans (hK.2 0 _ rfl).2)
  subst c5; subst c0
  have hw := gM_w (Γ := Γ) (P := P) (I := I) (i := i) (j0 := j0) (n := n) (k := k) (h := H.size) hF
  have kp := gM_kp (k := k) (h := H.size) hF
  have hit : ∀ (t : Nat) (q : Nat × va_E), ((List.range (n + 1)).map (fun j => (H.size + j, muE Γ n k H.size j)))[t]? = some q → t < n + 1 ∧ q = (H.size + t, muE Γ n k H.size t) := by
    intro t q hq
    rw [List.getElem?_map] at hq
    by_cases ht : t < n + 1
    · rw [List.getElem?_range ht] at hq
      cases hq
      exact ⟨ht, rfl⟩
    · rw [List.getElem?_eq_none (by simp; omega)] at hq
      cases hq
  have hP1 : va_P (gD Γ) vwCl (gw (gM Γ i j0 n k H.size) (muP P i j0 n) (muM I i j0 n)) H1 := by
    rw [hw]
    refine (hP.kept (fun t q hq => hold q.1 (hP t q hq).lt)).app (fun t q hq => ?_)
    obtain ⟨ht, rfl⟩ := hit t q hq
    unfold va_at muE
    by_cases t0 : t = 0
    · subst t0
      simp only [if_true, Nat.add_zero]
      rw [houter, vp_cell_q]
      unfold muO
      congr 2
      funext j
      by_cases hj : j < n
      · simp only [hj, if_true, va_rf]
      · simp only [hj, if_false, va_rf]
    · simp only [t0, if_false]
      have := hinner (t - 1) (by omega)
      rw [show H.size + 1 + (t - 1) = H.size + t by omega] at this
      rw [this, vp_cell_i]
      rfl
  have hD1 : va_D (RG Γ0 s.heap.size) (gw (gM Γ i j0 n k H.size) (muP P i j0 n) (muM I i j0 n)) := by
    rw [hw]
    refine hD.app ⟨fun a b p q ha hb hpq => ?_, fun t q hq => ?_⟩ (fun a b p q ha hb hpq => ?_)
    · obtain ⟨-, rfl⟩ := hit a p ha
      obtain ⟨-, rfl⟩ := hit b q hb
      have : H.size + a = H.size + b := hpq
      omega
    · obtain ⟨-, rfl⟩ := hit t q hq
      exact Or.inr (Nat.le_trans hS.1 (Nat.le_add_right _ _))
    · obtain ⟨-, rfl⟩ := hit b q hb
      have h1 := (hP a p ha).lt
      have h2 : p.1 = H.size + b := hpq
      omega
  have hS1 : va_S (RG Γ0 s.heap.size) s.heap H1 (locs ++ (List.range n).map fun j => (⟨H.size, j⟩ : Loc)) := by
    refine ⟨by have := hS.1; omega, fun q h1 h2 => (hold q (Nat.lt_of_lt_of_le h1 hS.1)).trans (hS.2.1 q h1 h2), fun q hq => ?_⟩
    rcases List.mem_append.mp hq with h | h
    · exact hS.2.2 q h
    · obtain ⟨j, -, rfl⟩ := List.mem_map.mp h
      exact Or.inr hS.1
  have hv := cvs_ren (Γ := Γ) (ρ := gr (gM Γ i j0 n k H.size)) (fun j hj => (kp.1 j hj).2.1) kp.2 hr
  have h := kk H.size p e s m args below meth c B H1 _ ls (by rw [hv.1]; exact hl) hK hP1 hD1 hS1 (hX.ren kp.2)
  have e1 : (vR i :: st).map (cv (gr (gM Γ i j0 n k H.size))) = Value.ref H.size :: st.map (cv (gr Γ)) := by
    rw [List.map_cons, hv.2]
    simp only [cv, gr, gX, muR, if_true]
  rw [e1] at h
  exact h
theorem y_anewarr {index i : Nat} {zn : Int} (n : Nat) (en : zn = (n : Int)) (hd : decode μ.2.2.1 pc = .ok (.anewarray index, 3)) (w1 : Cond.classLink μ.2.1 index "BlockingShop$Plan" ∈ lwU) (n1 : n < 100000) (hF : Fsh Γ P i) (hr : Rfs Γ al st) (hc : cells + 1 ≤ μ.2.2.2.2.2.cells) (hs : slots + n ≤ μ.2.2.2.2.2.slots)
    (kk : ∀ q, XE tb Γ0 (gN Γ i q (.inr (4, n))) μ (cells + 1) (slots + n) (pc + 3) al (vR i :: st) (clr P i none) (clr I i 0) Q) : XE tb Γ0 Γ μ cells slots pc al (vI zn :: st) P I Q := by
  subst en
  intro p e s m args below meth c B H locs ls hl hK hP hD hS hX
  have tn : (Int32.ofInt (n : Int)).toNatClampNeg = n := by rw [zi_nat (by omega) (by omega)]; omega
  refine va_newq (N' := n) B.1.1 B.1.2.1 B.1.2.2.2.1 (B.1.2.2.2.2.1 _ w1) hX.2.2.2.2.2.1.1 hK hP hD hS (fun q h => Or.inr h) (fun q => by have := (zi_lt0 ⟨by omega, by omega⟩).mp q; omega) tn (by omega) hc hs hd (fun q cA H1 hK1 hP1 hD1 hS1 => ?_)
  have hcA : cA = gk Γ 4 := by
    obtain ⟨k1, c1, -, -, -, h1⟩ := (hK1.2 6 (cA, .object "BlockingShop$Plan") rfl).2
    obtain ⟨k2, c2, -, -, -, h2⟩ := (hK.2 4 _ rfl).2
    exact Option.some.inj (h1.symm.trans h2)
  subst hcA
  have hw := gN_w (Γ := Γ) (P := P) (I := I) (i := i) (q := q) (t := .inr (4, n)) hF
  have he : cw (gk Γ) (gr Γ) (fun _ => .inr (4, n)) (clr P i none) (clr I i 0) i = .inl (gk Γ 4, n, .inr (.inr (.inr (.inr (fun _ => none))))) := by
    unfold cw
    simp only [ar, clr_eq, Option.map_none]
  rw [he] at hw
  have kp := gN_kp (q := q) (t := .inr (4, n)) hF
  have hv := cvs_ren (Γ := Γ) (ρ := gr (gN Γ i q (.inr (4, n)))) (fun j hj => (kp.1 j hj).2.1) kp.2 hr
  have h := kk q p e s m args below meth c B H1 locs ls (by rw [hv.1]; exact hl) hK (by rw [hw]; exact hP1) (by rw [hw]; exact hD1) hS1 (hX.ren kp.2)
  have e1 : (vR i :: st).map (cv (gr (gN Γ i q (.inr (4, n))))) = Value.ref q :: st.map (cv (gr Γ)) := by
    rw [List.map_cons, hv.2]
    simp [cv, gr]
  rw [e1] at h
  exact h
/-- a Plan into an array of Plans -/
theorem y_astP {a v n : Nat} {j : Int} (hd : decode μ.2.2.1 pc = .ok (.aastore, 1)) (ho : Ob Γ a (.inr (4, n))) (hv : Ob Γ v (.inl 1)) (h0 : 0 ≤ j) (h1 : j < n) (hn : n < 2147483648) (kk : XE tb Γ0 Γ μ cells slots (pc + 1) al st (up2 P a j.toNat (some v)) I Q) : XE tb Γ0 Γ μ cells slots pc al (vR v :: vI j :: vR a :: st) P I Q := by
  intro p e s m args below meth c B H locs ls hl hK hP hD hS hX
  obtain ⟨q0, hq, he⟩ := ho.arr P I
  obtain ⟨qk, hqk, hek⟩ := hv.obj P I
  refine va_astq B.1.1 B.1.2.1 hK hP hD hS q0 4 qk 1 he rfl hek FC1.1 (zi_in h0 h1 hn) hd (fun H1 locs1 hP1 hD1 hS1 => ?_)
  rw [zi_nat h0 (by omega)] at hP1
  have hset : (gw Γ P I).set q0 (gr Γ a, .inl (gk Γ 4, n, .inr (.inr (.inr (.inr (va_up (fun q => (P a q).map (gr Γ)) j.toNat (some (gr Γ v)))))))) = gw Γ (up2 P a j.toNat (some v)) I := wl_set hD hq (by
    simp only [cw, ho.2, ar]
    refine congrArg Sum.inl (congrArg (Prod.mk _) (congrArg (Prod.mk _) (congrArg Sum.inr (congrArg Sum.inr (congrArg Sum.inr (congrArg Sum.inr (funext fun q => ?_)))))))
    unfold va_up up2
    by_cases hz : q = j.toNat
    · simp [hz]
    · simp [hz]) cw_neP
  have hP1' : va_P (gD Γ) vwCl ((gw Γ P I).set q0 (gr Γ a, .inl (gk Γ 4, n, .inr (.inr (.inr (.inr (va_up (fun q => (P a q).map (gr Γ)) j.toNat (some (gr Γ v))))))))) H1 := hP1
  rw [hset] at hP1'
  exact kk p e s m args below meth c B H1 locs1 ls hl hK hP1' (gw_D hD) hS1 hX
end XG
