/-! ALLOCATION: a memory that grows; the new numbers are the caller's to choose -/
abbrev gX (Γ : GG) (ρ : Nat → Nat) (ids : List Nat) (ty : Nat → CT) : GG := (Γ.1, Γ.2.1, Γ.2.2.1, ρ, ids, ty, gs Γ)
/-- Γ' keeps what Γ holds -/
def Kp (Γ Γ' : GG) : Prop := (∀ i ∈ gi Γ, i ∈ gi Γ' ∧ gr Γ' i = gr Γ i ∧ gt Γ' i = gt Γ i) ∧ ∀ i, 500 ≤ i → i < 701 → gr Γ' i = gr Γ i
theorem Kp.rf {Γ : GG} : Kp Γ Γ := ⟨fun _ h => ⟨h, rfl, rfl⟩, fun _ _ _ => rfl⟩
theorem Kp.tr {Γ Γ1 Γ2 : GG} (h : Kp Γ Γ1) (h2 : Kp Γ1 Γ2) : Kp Γ Γ2 := ⟨fun i hi => ⟨(h2.1 i (h.1 i hi).1).1, (h2.1 i (h.1 i hi).1).2.1.trans (h.1 i hi).2.1, (h2.1 i (h.1 i hi).1).2.2.trans (h.1 i hi).2.2⟩, fun i a b => (h2.2 i a b).trans (h.2 i a b)⟩
theorem Ob.keep {Γ Γ' : GG} {i : Nat} {t : CT} (h : Ob Γ i t) (k : Kp Γ Γ') : Ob Γ' i t := ⟨(k.1 i h.1).1, (k.1 i h.1).2.2.trans h.2⟩
abbrev KG : Type := GG → Option AV → MP → MM → Prop
def KQ (Γ : GG) (QG : KG) : KT := fun _ st o t =>
  (∃ (ρ : Nat → Nat) (ids : List Nat) (ty : Nat → CT) (v : Option AV) (P' : MP) (I' : MM), Kp Γ (gX Γ ρ ids ty) ∧ o = .returned (v.map (cv ρ)) ∧ QG (gX Γ ρ ids ty) v P' I' ∧ va_K (gD Γ) vwCl (tysK (gk Γ)) t ∧ va_P (gD Γ) vwCl (gw (gX Γ ρ ids ty) P' I') t.heap ∧ va_D (RG Γ st.heap.size) (gw (gX Γ ρ ids ty) P' I')) ∧ va_F (RG Γ st.heap.size) st t
/-- a method that may make objects -/
def ClG (Γ : GG) (μ : MI) (args : List AV) (P : MP) (I : MM) (QG : KG) : Prop :=
  ∀ sz : Nat, Met (gl Γ) μ.1 (wsM μ) μ.2.2.2.2.2 (va_Pc (args.map (cv (gr Γ))) (Pq Γ P I sz)) (KQ Γ QG) μ.2.2.2.2.2.cells μ.2.2.2.2.2.slots (RG Γ sz)
theorem clg_of {Γ : GG} {μ : MI} {args : List AV} {P : MP} {I : MM} {QG : KG} (hn : Nm μ) (hL : avLen args ≤ μ.2.2.2.1) (h : XP Γ Γ μ 0 0 0 (avArgs 0 args) [] P I (KQ Γ QG)) : ClG Γ μ args P I QG := by
  intro sz
  refine Met.ofW (cc := μ.2.2.1) (maxL := μ.2.2.2.1) (ret := μ.2.2.2.2.1) hn.1 rfl ?_
  intro p e s m args2 below meth c s₁ B hml hv
  obtain ⟨rfl, hsz, hK, hP, hD, hX⟩ := hv
  have hown : s.vm.findClass μ.2.1 = some m.cls := by rw [← hn.2]; exact findClass_of_methodNamed B.named
  have hts := atoms_spec (ws := wsM μ) B.pre
  have hl := lv_entry (args.map (cv (gr Γ))) (n := μ.2.2.2.1) (by rw [av_len]; exact hL)
  rw [av_args] at hl
  rw [lg_entry_eq]
  subst hsz
  exact h p e s m _ below meth c ⟨⟨B.exec, B.bytes, hml, hown, fun w hw => hts w (List.mem_cons_of_mem _ hw), B.returns, B.notSynchronized⟩, fun _ => (name_of_methodNamed B.named B.method).1, fun h e => nomatch e⟩ s.heap [] _ hl hK hP hD va_S.rf hX
/-- the references of a frame -/
def Rf (Γ : GG) (v : AV) : Prop := match v with
  | Sum.inr (Sum.inr (some i)) => i ∈ gi Γ ∨ (500 ≤ i ∧ i < 701)
  | _ => True
def Rfs (Γ : GG) (al : List (Nat × AV)) (st : List AV) : Prop := (∀ q ∈ al, Rf Γ q.2) ∧ ∀ v ∈ st, Rf Γ v
theorem cv_ren {Γ : GG} {ρ : Nat → Nat} (h1 : ∀ i ∈ gi Γ, ρ i = gr Γ i) (h2 : ∀ i, 500 ≤ i → i < 701 → ρ i = gr Γ i) {v : AV} (h : Rf Γ v) : cv ρ v = cv (gr Γ) v := by
  rcases v with z | z | _ | i
  · rfl
  · rfl
  · rfl
  · have : ρ i = gr Γ i := h.elim (fun q => h1 i q) (fun q => h2 i q.1 q.2)
    simp only [cv, this]
theorem cvs_ren {Γ : GG} {ρ : Nat → Nat} (h1 : ∀ i ∈ gi Γ, ρ i = gr Γ i) (h2 : ∀ i, 500 ≤ i → i < 701 → ρ i = gr Γ i) {al : List (Nat × AV)} {st : List AV} (h : Rfs Γ al st) : cvl ρ al = cvl (gr Γ) al ∧ st.map (cv ρ) = st.map (cv (gr Γ)) :=
  ⟨List.map_congr_left (fun q hq => by simp only [cv_ren h1 h2 (h.1 q hq)]), List.map_congr_left (fun v hv => cv_ren h1 h2 (h.2 v hv))⟩
/-- an array of references holds none from its place 30 on -/
def Ra (Γ : GG) (P : MP) : Prop := ∀ j ∈ gi Γ, ∀ ek n : Nat, gt Γ j = .inr (ek, n) → 4 ≤ ek → j < 48 ∧ ∀ k : Nat, 30 ≤ k → P j k = none
/-- a new number, not in use and not in the memory -/
def Fsh (Γ : GG) (P : MP) (i : Nat) : Prop := i ∉ gi Γ ∧ (i < 500 ∨ 701 ≤ i) ∧ (∀ j ∈ gi Γ, ∀ k : Nat, k < 30 → P j k ≠ some i) ∧ Ra Γ P
def clr {α : Type} (f : Nat → Nat → α) (i : Nat) (d : α) : Nat → Nat → α := fun j k => if j = i then d else f j k
theorem clr_ne {α : Type} {f : Nat → Nat → α} {i j : Nat} {d : α} (h : j ≠ i) : clr f i d j = f j := by funext k; simp [clr, h]
theorem clr_eq {α : Type} {f : Nat → Nat → α} {i k : Nat} {d : α} : clr f i d i k = d := by simp [clr]
abbrev gN (Γ : GG) (i q : Nat) (t : CT) : GG := gX Γ (fun j => if j = i then q else gr Γ j) (gi Γ ++ [i]) (fun j => if j = i then t else gt Γ j)
theorem gN_kp {Γ : GG} {i q : Nat} {t : CT} {P : MP} (h : Fsh Γ P i) : Kp Γ (gN Γ i q t) := by
  refine ⟨fun j hj => ?_, fun j h1 h2 => ?_⟩
  · have hne : j ≠ i := fun e => h.1 (e ▸ hj)
    exact ⟨List.mem_append_left _ hj, by simp [gr, hne], by simp [gt, hne]⟩
  · have hne : j ≠ i := by rcases h.2.1 with z | z <;> omega
    simp [gr, hne]
theorem gN_ob {Γ : GG} {i q : Nat} {t : CT} : Ob (gN Γ i q t) i t := ⟨List.mem_append_right _ (List.mem_singleton.mpr rfl), by simp [gt]⟩
theorem fvs_ren {ρ ρ' : Nat → Nat} {P P' : MP} {I I' : MM} {i c : Nat} (hP : ∀ k, (P' i k).map ρ' = (P i k).map ρ) (hI : ∀ k, I' i k = I i k) : fvs ρ' P' I' i c = fvs ρ P I i c := by
  unfold fvs
  refine List.map_congr_left (fun k _ => ?_)
  unfold fv
  rw [hP, hI]
theorem ar_ren {ρ ρ' : Nat → Nat} {P P' : MP} {I I' : MM} {i ek : Nat} (hP : ∀ k, (P' i k).map ρ' = (P i k).map ρ) (hI : ∀ k, I' i k = I i k) : ar ρ' P' I' i ek = ar ρ P I i ek := by
  unfold ar
  split <;> simp only [hP, hI]
theorem cw_ren {κ : Nat → ClassId} {ρ ρ' : Nat → Nat} {ty ty' : Nat → CT} {P P' : MP} {I I' : MM} {i : Nat} (ht : ty' i = ty i) (hP : ∀ k, (P' i k).map ρ' = (P i k).map ρ) (hI : ∀ k, I' i k = I i k) : cw κ ρ' ty' P' I' i = cw κ ρ ty P I i := by
  unfold cw
  rw [ht]
  split
  · rw [fvs_ren hP hI]
  · rw [ar_ren hP hI]
theorem nFC_le (c : Nat) : nFC c ≤ 30 := by
  unfold nFC
  split <;> decide
theorem cw_ren2 {κ : Nat → ClassId} {ρ ρ' : Nat → Nat} {ty ty' : Nat → CT} {P P' : MP} {I I' : MM} {i : Nat} (ht : ty' i = ty i) (hP : ∀ k, k < 30 → (P' i k).map ρ' = (P i k).map ρ) (hA : ∀ ek n, ty i = .inr (ek, n) → 4 ≤ ek → ∀ k, 30 ≤ k → (P' i k).map ρ' = (P i k).map ρ) (hI : ∀ k, I' i k = I i k) : cw κ ρ' ty' P' I' i = cw κ ρ ty P I i := by
  unfold cw
  rw [ht]
  cases hc : ty i with
  | inl c =>
    have e : fvs ρ' P' I' i c = fvs ρ P I i c := by
      unfold fvs
      refine List.map_congr_left (fun k hk => ?_)
      have hk := List.mem_range.mp hk
      have := nFC_le c
      unfold fv
      rw [hP k (by omega), hI]
    simp only [e]
  | inr q =>
    obtain ⟨ek, n⟩ := q
    have e : ar ρ' P' I' i ek = ar ρ P I i ek := by
      match ek, hc with
      | 0, _ => simp only [ar, hI]
      | 1, _ => simp only [ar, hI]
      | 2, _ => simp only [ar, hI]
      | 3, _ => simp only [ar, hI]
      | ek + 4, hc =>
        have key : ∀ k, (P' i k).map ρ' = (P i k).map ρ := fun k => by
          by_cases hk : k < 30
          · exact hP k hk
          · exact hA (ek + 4) n hc (by omega) k (by omega)
        simp only [ar, key]
    simp only [e]
theorem gN_w {Γ : GG} {P : MP} {I : MM} {i q : Nat} {t : CT} (h : Fsh Γ P i) : gw (gN Γ i q t) (clr P i none) (clr I i 0) = gw Γ P I ++ [(q, cw (gk Γ) (gr Γ) (fun _ => t) (clr P i none) (clr I i 0) i)] := by
  have hA : ∀ j ∈ gi Γ, ((if j = i then q else gr Γ j), cw (gk Γ) (fun j => if j = i then q else gr Γ j) (fun j => if j = i then t else gt Γ j) (clr P i none) (clr I i 0) j) = (gr Γ j, cw (gk Γ) (gr Γ) (gt Γ) P I j) := by
    intro j hj
    have hne : j ≠ i := fun e => h.1 (e ▸ hj)
    rw [if_neg hne]
    refine congrArg (Prod.mk _) ?_
    refine cw_ren2 (if_neg hne) (fun k hk => ?_) (fun ek n ht h4 k hk => ?_) (fun k => ?_)
    · rw [clr_ne hne]
      cases hp : P j k with
      | none => rfl
      | some r =>
        have : r ≠ i := fun e => h.2.2.1 j hj k hk (by rw [hp, e])
        simp [this]
    · rw [clr_ne hne, (h.2.2.2 j hj ek n ht h4).2 k hk]
      rfl
    · rw [clr_ne hne]
  have hB : ((if i = i then q else gr Γ i), cw (gk Γ) (fun j => if j = i then q else gr Γ j) (fun j => if j = i then t else gt Γ j) (clr P i none) (clr I i 0) i) = (q, cw (gk Γ) (gr Γ) (fun _ => t) (clr P i none) (clr I i 0) i) := by
    rw [if_pos rfl]
    refine congrArg (Prod.mk _) ?_
    refine cw_ren (if_pos rfl) (fun k => ?_) (fun k => rfl)
    rw [clr_eq]
    rfl
  show List.map (fun j => ((if j = i then q else gr Γ j), cw (gk Γ) (fun j => if j = i then q else gr Γ j) (fun j => if j = i then t else gt Γ j) (clr P i none) (clr I i 0) j)) (gi Γ ++ [i]) = _
  rw [List.map_append, List.map_congr_left hA, List.map_singleton, hB]
  rfl
section XG
variable {tb : HTB} {Γ0 Γ : GG} {μ ν : MI} {cells slots pc : Nat} {al al' : List (Nat × AV)} {st as : List AV} {P : MP} {I : MM} {Q : ET} {QG R : KG}
theorem y_new {ci index N i : Nat} {C : String} {T : u_T} (hd : decode μ.2.2.1 pc = .ok (.new index, 3)) (F : FCok ci C T N) (hdf : ∀ j, j < N → defaultValue (tyC ci j) = if isRefT (tyC ci j) then Value.null else .int 0) (w1 : Cond.classLink μ.2.1 index C ∈ lwU) (w2 : Cond.instantiable C N ∈ lwU) (w3 : Cond.initialized C ∈ lwU) (hF : Fsh Γ P i) (hr : Rfs Γ al st) (hc : cells + 1 ≤ μ.2.2.2.2.2.cells) (hs : slots + N ≤ μ.2.2.2.2.2.slots)
    (kk : ∀ q, XE tb Γ0 (gN Γ i q (.inl ci)) μ (cells + 1) (slots + N) (pc + 3) al (vR i :: st) (clr P i none) (clr I i 0) Q) : XE tb Γ0 Γ μ cells slots pc al st P I Q := by
  intro p e s m args below meth c B H locs ls hl hK hP hD hS hX
  refine va_new B.1.1 B.1.2.1 B.1.2.2.2.2.1 F.2.2.1 (tyC ci) F.2.2.2.1 B.1.2.2.2.1 (B.1.2.2.2.2.1 _ w1) (B.1.2.2.2.2.1 _ w2) (B.1.2.2.2.2.1 _ w3) hK hP hD hS (fun q h => Or.inr h) F.1 (fs := fvs (gr Γ) (clr P i none) (clr I i 0) i ci) (fun j hj => ?_) hc hs hd (fun q H1 hP1 hD1 hS1 => ?_)
  · rw [hdf j hj]
    simp only [vp_V, List.getD_eq_getElem?_getD]
    rw [fvs_at (by rw [← F.2.1]; exact hj)]
    simp only [fv, clr_eq, Option.getD_some]
    rfl
  · have hw := gN_w (Γ := Γ) (P := P) (I := I) (i := i) (q := q) (t := .inl ci) hF
    have kp := gN_kp (q := q) (t := .inl ci) hF
    have hv := cvs_ren (Γ := Γ) (ρ := gr (gN Γ i q (.inl ci))) (fun j hj => (kp.1 j hj).2.1) kp.2 hr
    have h := kk q p e s m args below meth c B H1 locs ls (by rw [hv.1]; exact hl) hK (by rw [hw]; exact hP1) (by rw [hw]; exact hD1) hS1 (hX.ren kp.2)
    have e1 : (vR i :: st).map (cv (gr (gN Γ i q (.inl ci)))) = Value.ref q :: st.map (cv (gr Γ)) := by
      rw [List.map_cons, hv.2]
      simp [cv, gr]
    rw [e1] at h
    exact h
theorem y_newarr {ek i : Nat} {n : Int} {atype : ArrayType} (hd : decode μ.2.2.1 pc = .ok (.newarray atype, 2)) (hek : ek < 4) (hty : newarray.typeOf atype = ekT ek) (w1 : Cond.arrayClass (ekT ek) ∈ lwU) (h0 : 0 ≤ n) (h1 : n < 100000) (hF : Fsh Γ P i) (hr : Rfs Γ al st) (hc : cells + 1 ≤ μ.2.2.2.2.2.cells) (hs : slots + n.toNat ≤ μ.2.2.2.2.2.slots)
    (kk : ∀ q, XE tb Γ0 (gN Γ i q (.inr (ek, n.toNat))) μ (cells + 1) (slots + n.toNat) (pc + 2) al (vR i :: st) (clr P i none) (clr I i 0) Q) : XE tb Γ0 Γ μ cells slots pc al (vI n :: st) P I Q := by
  intro p e s m args below meth c B H locs ls hl hK hP hD hS hX
  have hn0 : ¬ Int32.ofInt n < 0 := fun q => by have := (zi_lt0 ⟨by omega, by omega⟩).mp q; omega
  have hb : n.toNat * componentBytes (ekT ek) ≤ 536870912 := by
    have : componentBytes (ekT ek) ≤ 8 := by
      match ek, hek with
      | 0, _ => decide
      | 1, _ => decide
      | 2, _ => decide
      | 3, _ => decide
    have h2 : n.toNat * componentBytes (ekT ek) ≤ n.toNat * 8 := Nat.mul_le_mul_left _ this
    omega
  have hva : va_RA s (gk Γ ek) (ekT ek) := by
    match ek, hek with
    | 0, _ => exact (hK.2 0 _ rfl).2
    | 1, _ => exact (hK.2 1 _ rfl).2
    | 2, _ => exact (hK.2 2 _ rfl).2
    | 3, _ => exact (hK.2 3 _ rfl).2
  refine va_newa (atype := atype) B.1.1 B.1.2.1 (B.1.2.2.2.2.1 _ (by rw [hty]; exact w1)) hty hK hP hD hS (fun q h => Or.inr h) (N' := n.toNat) (a0 := (n.toNat, ar (gr Γ) (clr P i none) (clr I i 0) i ek)) (fun cA => ?_) hn0 (zi_nat h0 (by omega)) hb hc hs hd (fun q cA H1 hK1 hP1 hD1 hS1 => ?_)
  · match ek, hek with
    | 0, _ => simp only [vp_cell, ar, clr_eq]; rfl
    | 1, _ => simp only [vp_cell, ar, clr_eq]; rfl
    | 2, _ => simp only [vp_cell, ar, clr_eq]; rfl
    | 3, _ => simp only [vp_cell, ar, clr_eq]; rfl
  · have hcA : cA = gk Γ ek := by
      have h6 := (hK1.2 6 (cA, ekT ek) rfl).2
      match ek, hek with
      | 0, _ => exact Option.some.inj (h6.symm.trans hva)
      | 1, _ => exact Option.some.inj (h6.symm.trans hva)
      | 2, _ => exact Option.some.inj (h6.symm.trans hva)
      | 3, _ => exact Option.some.inj (h6.symm.trans hva)
    subst hcA
    have hw := gN_w (Γ := Γ) (P := P) (I := I) (i := i) (q := q) (t := .inr (ek, n.toNat)) hF
    have kp := gN_kp (q := q) (t := .inr (ek, n.toNat)) hF
    have hv := cvs_ren (Γ := Γ) (ρ := gr (gN Γ i q (.inr (ek, n.toNat)))) (fun j hj => (kp.1 j hj).2.1) kp.2 hr
    have h := kk q p e s m args below meth c B H1 locs ls (by rw [hv.1]; exact hl) hK (by rw [hw]; exact hP1) (by rw [hw]; exact hD1) hS1 (hX.ren kp.2)
    have e1 : (vR i :: st).map (cv (gr (gN Γ i q (.inr (ek, n.toNat))))) = Value.ref q :: st.map (cv (gr Γ)) := by
      rw [List.map_cons, hv.2]
      simp [cv, gr]
    rw [e1] at h
    exact h
end XG
