/-! ALLOCATION, calls and returns -/
theorem objW : Cond.instanceMethod objectInit ∈ lwU ∧ Cond.code objectInit ⟨#[0xb1]⟩ 1 none ∈ lwU := ⟨inU 28 (by decide +kernel) rfl, inU 29 (by decide +kernel) rfl⟩
section XG
variable {tb : HTB} {Γ0 Γ : GG} {μ ν : MI} {cells slots pc : Nat} {al al' : List (Nat × AV)} {st as : List AV} {P : MP} {I : MM} {Q : ET} {QG R : KG}
theorem y_objI {index i : Nat} (hd : decode μ.2.2.1 pc = .ok (.invokespecial index, 3)) (w1 : Cond.methodLink μ.2.1 index objectInit ∈ lwU) (hf : 1 ≤ μ.2.2.2.2.2.frames) (hl : avLen st + 12 ≤ μ.2.2.2.2.2.locals) (k : XE tb Γ0 Γ μ cells slots (pc + 3) al st P I Q) : XE tb Γ0 Γ μ cells slots pc al (vR i :: st) P I Q := by
  intro p e s m args below meth c B H locs ls hlv hK hP hD hS hX
  refine W.objInit B.1.1 B.1.2.1 B.1.2.2.2.1 (B.1.2.2.2.2.1 _ w1) (B.1.2.2.2.2.1 _ objW.1) (B.1.2.2.2.2.1 _ objW.2) rfl (by rw [B.1.2.2.1]; exact hlv.1) rfl hd hf ?_ ?_
  · have hz := cat_sum (gr Γ) st
    simp only [hz]
    omega
  · exact k p e s m args below meth c B H locs ls hlv hK hP hD hS hX
theorem y_putF {ci i r index : Nat} {C : String} {T : u_T} {N : Nat} (hd : decode μ.2.2.1 pc = .ok (.putfield index, 3)) (F : FCok ci C T N) (k : Nat) (hk : k < N) (hr : isRefT (tyC ci k) = true) (hfin : (T k).2.2.2 = true) (hin : μ.1.name = "<init>") (hdecl : (T k).1 = μ.2.1) (hf : Cond.fieldLink μ.2.1 index (T k).1 (T k).2.1 (T k).2.2.1 ∈ lwU) (ho : Ob Γ i (.inl ci)) (kk : XE tb Γ0 Γ μ cells slots (pc + 3) al st (up2 P i k (some r)) I Q) : XE tb Γ0 Γ μ cells slots pc al (vR r :: vR i :: st) P I Q := by
  intro p e s m args below meth c B H locs ls hl hK hP hD hS hX
  obtain ⟨q0, hq, he⟩ := ho.obj P I
  have hnf : narrow (tyC ci k) (.ref (gr Γ r)) = .ref (gr Γ r) ∧ fits (tyC ci k) (.ref (gr Γ r)) = true := by
    generalize tyC ci k = t at hr
    cases t <;> first | (simp [isRefT] at hr; done) | exact ⟨rfl, rfl⟩
  refine va_putF B.1.1 B.1.2.1 B.1.2.2.2.2.1 F.2.2.1 (tyC ci) F.2.2.2.1 F.2.2.2.2 B.1.2.2.2.1 hK hP hD hS q0 he F.1 k hk (B.1.2.2.2.2.1 _ hf) (fun _ h => h) hfin ((B.2.1 hin).trans hin) hdecl (F.2.2.2.1 k hk) hnf.1 hnf.2 (by simp only [fvs, List.length_map, List.length_range]; rw [← F.2.1]; exact hk) hd (fun H1 locs1 hP1 hD1 hS1 => ?_)
  have hP1 : va_P (gD Γ) vwCl ((gw Γ P I).set q0 (gr Γ i, .inr (ci, (fvs (gr Γ) P I i ci).set k (.ref (gr Γ r))))) H1 := hP1
  have hset : (gw Γ P I).set q0 (gr Γ i, .inr (ci, (fvs (gr Γ) P I i ci).set k (.ref (gr Γ r)))) = gw Γ (up2 P i k (some r)) I := wl_set hD hq (by simp only [cw, ho.2]; rw [← fvs_setP hr]; rfl) cw_neP
  rw [hset] at hP1
  exact kk p e s m args below meth c B H1 locs1 ls hl hK hP1 (gw_D hD) hS1 hX
/-- behind a call of a method that may make objects -/
theorem y_runG {p : Program} {e : Env} {s : State} {m : MethodId} {args : Array Value} {below : List Frame} {meth : Method} {c : Code} {Rm : Room} {Qw : State → Prop} {H : Heap} {locs : List Loc} {ls : Array Slot} {st0 : List Value} {a : Array Value} {mc ms : Nat}
    (hD : va_D (RG Γ0 s.heap.size) (gw Γ P I)) (hst : ∀ v ∈ st, Rf Γ v)
    (hr : va_Run p (gl Γ) e Rm s m args below meth c H locs cells slots mc ms (F0 m pc ls st0) (st.map (cv (gr Γ))) (KQ Γ QG a) (RG Γ H.size)) (hS : va_S (RG Γ0 s.heap.size) s.heap H locs)
    (kk : ∀ (ρ : Nat → Nat) (ids : List Nat) (ty : Nat → CT) (v : Option AV) (P' : MP) (I' : MM) (H1 : Heap) (locs1 : List Loc), Kp Γ (gX Γ ρ ids ty) → QG (gX Γ ρ ids ty) v P' I' → va_P (gD Γ) vwCl (gw (gX Γ ρ ids ty) P' I') H1 → va_D (RG Γ0 s.heap.size) (gw (gX Γ ρ ids ty) P' I') → va_S (RG Γ0 s.heap.size) s.heap H1 locs1 → W p (gl Γ) e Rm s m args below meth c H1 locs1 (cells + mc) (slots + ms) Qw (F0 m (pc + 3) ls ((v.toList ++ st).map (cv ρ)))) :
    W p (gl Γ) e Rm s m args below meth c H locs cells slots Qw (F0 m pc ls st0) := by
  intro T hT X
  obtain ⟨v, st₀, t, T', L, h0, X', hL, e1, e2, ⟨⟨ρ, ids, ty, v', P', I', hkp, hv, hR, hK', hP', hD'⟩, hz, hk⟩, hst2⟩ := hr T hT X
  cases hv
  rw [h0] at hz hk hD'
  have hA : ∀ q, RG Γ H.size q → RG Γ0 s.heap.size q := rg_of hD hS.1
  obtain ⟨t2, a1, b1⟩ := kk ρ ids ty v' P' I' T'.heap (locs ++ L) hkp hR (by rw [e1]; exact hP') (hD'.weaken (fun _ q _ h => hA q.1 h))
    ⟨Nat.le_trans hS.1 (by rw [e1]; exact hz), fun q h1 h2 => by rw [e1, hk q (Nat.lt_of_lt_of_le h1 hS.1) (fun z => h2 (hA q z))]; exact hS.2.1 q h1 h2, fun q hq => by
      rcases List.mem_append.mp hq with h | h
      · exact hS.2.2 q h
      · exact hA _ (hL q h)⟩ T' rfl X'
  have e3 : st.map (cv ρ) = st.map (cv (gr Γ)) := List.map_congr_left (fun v hv => cv_ren (fun i hi => (hkp.1 i hi).2.1) hkp.2 (hst v hv))
  have e : (v'.map (cv ρ)).toList ++ st.map (cv (gr Γ)) = (v'.toList ++ st).map (cv ρ) := by
    rw [List.map_append, e3]
    cases v' <;> rfl
  rw [e] at hst2
  exact ⟨t2, hst2 t2 a1, b1⟩
def LkI (ν : MI) (n : Nat) : Prop := Cond.instanceMethod ν.1 ∈ lwU ∧ Cond.initialized ν.1.cls ∈ lwU ∧ Cond.code ν.1 ν.2.2.1 ν.2.2.2.1 ν.2.2.2.2.1 ∈ lwU ∧ LkN ν n ∧ ν.1.name = "<init>" ∧ ν.2.2.2.2.1 = none
theorem y_callI {i index n : Nat} (hd : decode μ.2.2.1 pc = .ok (.invokespecial index, 3)) (hC : ClG Γ ν (vR i :: as) P I R) (hk : LkI ν n) (hm : Cond.methodLink μ.2.1 index ν.1 ∈ lwU) (hR : LkR μ ν) (hn : as.length = n) (hrf : Rfs Γ al st) (hs : avLen st ≤ 8) (hf : cells + ν.2.2.2.2.2.cells ≤ μ.2.2.2.2.2.cells ∧ slots + ν.2.2.2.2.2.slots ≤ μ.2.2.2.2.2.slots) (ast : List AV) (hst : ast = as.reverse ++ vR i :: st)
    (k : ∀ ρ ids ty v P' I', Kp Γ (gX Γ ρ ids ty) → R (gX Γ ρ ids ty) v P' I' → XE tb Γ0 (gX Γ ρ ids ty) μ (cells + ν.2.2.2.2.2.cells) (slots + ν.2.2.2.2.2.slots) (pc + 3) al (v.toList ++ st) P' I' Q) : XE tb Γ0 Γ μ cells slots pc al ast P I Q := by
  subst hst
  intro p e s m args below meth c B H locs ls hl hK hP hD hS hX
  have hrun := va_runI (b := gr Γ i) (As := as.map (cv (gr Γ))) (rest := st.map (cv (gr Γ))) (g := F0 m pc ls ((as.reverse ++ vR i :: st).map (cv (gr Γ)))) (cells := cells) (slots := slots) (locs := locs)
    (⟨B.1.1, B.1.2.1, B.1.2.2.1, B.1.2.2.2.1, B.1.2.2.2.2.1⟩ : CallFix p m c μ.2.2.1 μ.2.2.2.1 s args lwU μ.2.1) (hC H.size) (cwI n B.1.2.2.2.2.1 (goodM hk.2.2.1) (by rw [wsM, hk.2.2.2.2.2]) rfl rfl (B.1.2.2.2.2.1 _ hk.2.1) (B.1.2.2.2.2.1 _ hm) (B.1.2.2.2.2.1 _ hk.1) hk.2.2.2.2.1 hk.2.2.2.1 hR)
    ⟨pq_blind, fun U hU hW => ⟨rfl, by rw [hU], va_K.moved hW.alike hK, by rw [hU]; exact hP, gw_DR _ hD, ro_call0 hD hU hW hS hX⟩⟩ rfl (by rw [List.length_map]; exact hn) hl.1 (by simp [cv]) (lv_room (by rw [cat_sum]; exact hs)) hd hf (below := below) (meth := meth) (e := e)
  refine y_runG hD hrf.2 hrun hS (fun ρ ids ty v P' I' H1 locs1 kp hR' hP' hD' hS' => ?_)
  have hv := (cvs_ren (Γ := Γ) (ρ := ρ) (fun j hj => (kp.1 j hj).2.1) kp.2 hrf).1
  exact k ρ ids ty v P' I' kp hR' p e s m args below meth c B H1 locs1 ls (by show lv_has ls _ (cvl ρ al); rw [hv]; exact hl) hK hP' hD' hS' (hX.ren kp.2)
/-- a nest mate's constructor -/
theorem y_callIN {i index n : Nat} (host : String) (hd : decode μ.2.2.1 pc = .ok (.invokespecial index, 3)) (hC : ClG Γ ν (vR i :: as) P I R) (hk : LkI ν n) (hm : (μ.2.1, index, ν.1, host) ∈ nstS) (hR : LkR μ ν) (hn : as.length = n) (hrf : Rfs Γ al st) (hs : avLen st ≤ 8) (hf : cells + ν.2.2.2.2.2.cells ≤ μ.2.2.2.2.2.cells ∧ slots + ν.2.2.2.2.2.slots ≤ μ.2.2.2.2.2.slots) (ast : List AV) (hst : ast = as.reverse ++ vR i :: st)
    (k : ∀ ρ ids ty v P' I', Kp Γ (gX Γ ρ ids ty) → R (gX Γ ρ ids ty) v P' I' → XE tb Γ0 (gX Γ ρ ids ty) μ (cells + ν.2.2.2.2.2.cells) (slots + ν.2.2.2.2.2.slots) (pc + 3) al (v.toList ++ st) P' I' Q) : XE tb Γ0 Γ μ cells slots pc al ast P I Q := by
  subst hst
  intro p e s m args below meth c B H locs ls hl hK hP hD hS hX
  have hrun := va_runIN (host := host) (b := gr Γ i) (As := as.map (cv (gr Γ))) (rest := st.map (cv (gr Γ))) (g := F0 m pc ls ((as.reverse ++ vR i :: st).map (cv (gr Γ)))) (cells := cells) (slots := slots) (locs := locs)
    (⟨B.1.1, B.1.2.1, B.1.2.2.1, B.1.2.2.2.1, B.1.2.2.2.2.1⟩ : CallFix p m c μ.2.2.1 μ.2.2.2.1 s args lwU μ.2.1) (hC H.size) ⟨va_cnB n B.1.2.2.2.2.1 (goodM hk.2.2.1) (by rw [wsM, hk.2.2.2.2.2]) rfl rfl (hX.2.2.2.2.2.2.2 _ hm) (B.1.2.2.2.2.1 _ hk.2.1) hk.2.2.2.1 hR, hk.2.2.2.2.1, B.1.2.2.2.2.1 _ hk.1⟩
    ⟨pq_blind, fun U hU hW => ⟨rfl, by rw [hU], va_K.moved hW.alike hK, by rw [hU]; exact hP, gw_DR _ hD, ro_call0 hD hU hW hS hX⟩⟩ rfl (by rw [List.length_map]; exact hn) hl.1 (by simp [cv]) (lv_room (by rw [cat_sum]; exact hs)) hd hf (below := below) (meth := meth) (e := e)
  refine y_runG hD hrf.2 hrun hS (fun ρ ids ty v P' I' H1 locs1 kp hR' hP' hD' hS' => ?_)
  have hv := (cvs_ren (Γ := Γ) (ρ := ρ) (fun j hj => (kp.1 j hj).2.1) kp.2 hrf).1
  exact k ρ ids ty v P' I' kp hR' p e s m args below meth c B H1 locs1 ls (by show lv_has ls _ (cvl ρ al); rw [hv]; exact hl) hK hP' hD' hS' (hX.ren kp.2)
theorem y_callSG {index n : Nat} (hd : decode μ.2.2.1 pc = .ok (.invokestatic index, 3)) (hC : ClG Γ ν as P I R) (hk : LkS ν n) (hm : Cond.methodLink μ.2.1 index ν.1 ∈ lwU) (hR : LkR μ ν) (hn : as.length = n) (hrf : Rfs Γ al st) (hs : avLen st ≤ 8) (hf : cells + ν.2.2.2.2.2.cells ≤ μ.2.2.2.2.2.cells ∧ slots + ν.2.2.2.2.2.slots ≤ μ.2.2.2.2.2.slots) (ast : List AV) (hst : ast = as.reverse ++ st)
    (k : ∀ ρ ids ty v P' I', Kp Γ (gX Γ ρ ids ty) → R (gX Γ ρ ids ty) v P' I' → XE tb Γ0 (gX Γ ρ ids ty) μ (cells + ν.2.2.2.2.2.cells) (slots + ν.2.2.2.2.2.slots) (pc + 3) al (v.toList ++ st) P' I' Q) : XE tb Γ0 Γ μ cells slots pc al ast P I Q := by
  subst hst
  intro p e s m args below meth c B H locs ls hl hK hP hD hS hX
  have hrun := va_runS (As := as.map (cv (gr Γ))) (rest := st.map (cv (gr Γ))) (g := F0 m pc ls ((as.reverse ++ st).map (cv (gr Γ)))) (cells := cells) (slots := slots) (locs := locs)
    (⟨B.1.1, B.1.2.1, B.1.2.2.1, B.1.2.2.2.1, B.1.2.2.2.2.1⟩ : CallFix p m c μ.2.2.1 μ.2.2.2.1 s args lwU μ.2.1) (hC H.size) (va_cwS n B.1.2.2.2.2.1 (goodS hk hm) rfl rfl rfl hk.2.2.2 hR)
    ⟨pq_blind, fun U hU hW => ⟨rfl, by rw [hU], va_K.moved hW.alike hK, by rw [hU]; exact hP, gw_DR _ hD, ro_call0 hD hU hW hS hX⟩⟩ rfl (by rw [List.length_map]; exact hn) hl.1 (by simp) (lv_room (by rw [cat_sum]; exact hs)) hd hf (below := below) (meth := meth) (e := e)
  refine y_runG hD hrf.2 hrun hS (fun ρ ids ty v P' I' H1 locs1 kp hR' hP' hD' hS' => ?_)
  have hv := (cvs_ren (Γ := Γ) (ρ := ρ) (fun j hj => (kp.1 j hj).2.1) kp.2 hrf).1
  exact k ρ ids ty v P' I' kp hR' p e s m args below meth c B H1 locs1 ls (by show lv_has ls _ (cvl ρ al); rw [hv]; exact hl) hK hP' hD' hS' (hX.ren kp.2)
theorem y_callVG {i ci index n : Nat} (hd : decode μ.2.2.1 pc = .ok (.invokevirtual index, 3)) (hC : ClG Γ ν (vR i :: as) P I R) (hk : LkV ν n) (hm : Cond.methodLink μ.2.1 index ν.1 ∈ lwU) (hR : LkR μ ν) (hc : (vwCl[ci]?).map (fun q => q.1) = some ν.1.cls) (ho : Ob Γ i (.inl ci)) (hn : as.length = n) (hrf : Rfs Γ al st) (hs : avLen st ≤ 8) (hf : cells + ν.2.2.2.2.2.cells ≤ μ.2.2.2.2.2.cells ∧ slots + ν.2.2.2.2.2.slots ≤ μ.2.2.2.2.2.slots) (ast : List AV) (hst : ast = as.reverse ++ vR i :: st)
    (k : ∀ ρ ids ty v P' I', Kp Γ (gX Γ ρ ids ty) → R (gX Γ ρ ids ty) v P' I' → XE tb Γ0 (gX Γ ρ ids ty) μ (cells + ν.2.2.2.2.2.cells) (slots + ν.2.2.2.2.2.slots) (pc + 3) al (v.toList ++ st) P' I' Q) : XE tb Γ0 Γ μ cells slots pc al ast P I Q := by
  subst hst
  intro p e s m args below meth c B H locs ls hl hK hP hD hS hX
  obtain ⟨q0, hq, he⟩ := ho.obj P I
  obtain ⟨r, hr1, hr2⟩ : ∃ r : vw_C, vwCl[ci]? = some r ∧ r.1 = ν.1.cls := by
    cases h : vwCl[ci]? with
    | none => rw [h] at hc; cases hc
    | some r => rw [h] at hc; exact ⟨r, rfl, Option.some.inj hc⟩
  have hrecv : ∃ cell : Cell, H[gr Γ i]? = some cell ∧ cell.vm.isStatics = false ∧ s.vm.findClass ν.1.cls = some cell.cls := by
    rw [← hr2]
    exact va_recv hK hP hr1 he
  have hrun := va_runV (C := ν.1.cls) (b := gr Γ i) (As := as.map (cv (gr Γ))) (rest := st.map (cv (gr Γ))) (g := F0 m pc ls ((as.reverse ++ vR i :: st).map (cv (gr Γ)))) (cells := cells) (slots := slots) (locs := locs)
    (⟨B.1.1, B.1.2.1, B.1.2.2.1, B.1.2.2.2.1, B.1.2.2.2.2.1⟩ : CallFix p m c μ.2.2.1 μ.2.2.2.1 s args lwU μ.2.1) (hC H.size) (cwV n B.1.2.2.2.2.1 (goodV hk hm) rfl rfl rfl ⟨rfl, hk.2.2.2.2⟩ hR)
    ⟨pq_blind, hrecv, fun U hU hW => ⟨rfl, by rw [hU], va_K.moved hW.alike hK, by rw [hU]; exact hP, gw_DR _ hD, ro_call0 hD hU hW hS hX⟩⟩ rfl (by rw [List.length_map]; exact hn) hl.1 (by simp [cv]) (lv_room (by rw [cat_sum]; exact hs)) hd hf (below := below) (meth := meth) (e := e)
  refine y_runG hD hrf.2 hrun hS (fun ρ ids ty v P' I' H1 locs1 kp hR' hP' hD' hS' => ?_)
  have hv := (cvs_ren (Γ := Γ) (ρ := ρ) (fun j hj => (kp.1 j hj).2.1) kp.2 hrf).1
  exact k ρ ids ty v P' I' kp hR' p e s m args below meth c B H1 locs1 ls (by show lv_has ls _ (cvl ρ al); rw [hv]; exact hl) hK hP' hD' hS' (hX.ren kp.2)
/-! returns -/
theorem kq_of {ρ : Nat → Nat} {ids : List Nat} {ty : Nat → CT} {s t : State} {args : Array Value} {H : Heap} {locs : List Loc} {v : Option AV} (hkp : Kp Γ0 (gX Γ0 ρ ids ty)) (hq : QG (gX Γ0 ρ ids ty) v P I) (ht : t.heap = H) (hW : s.WarmedH t.vm) (hK : va_K (gD Γ0) vwCl (tysK (gk Γ0)) s) (hP : va_P (gD Γ0) vwCl (gw (gX Γ0 ρ ids ty) P I) H) (hD : va_D (RG Γ0 s.heap.size) (gw (gX Γ0 ρ ids ty) P I)) (hS : va_S (RG Γ0 s.heap.size) s.heap H locs) : KQ Γ0 QG args s (.returned (v.map (cv ρ))) t :=
  ⟨⟨ρ, ids, ty, v, P, I, hkp, rfl, hq, va_K.moved hW.alike hK, by rw [ht]; exact hP, hD⟩, hS.F ht⟩
theorem y_vret {ρ : Nat → Nat} {ids : List Nat} {ty : Nat → CT} (hd : decode μ.2.2.1 pc = .ok (.return_, 1)) (hr : μ.2.2.2.2.1 = none) (hc : cells ≤ μ.2.2.2.2.2.cells) (hs : slots ≤ μ.2.2.2.2.2.slots) (hkp : Kp Γ0 (gX Γ0 ρ ids ty)) (hq : QG (gX Γ0 ρ ids ty) none P I) : XP Γ0 (gX Γ0 ρ ids ty) μ cells slots pc al [] P I (KQ Γ0 QG) := by
  intro p e s m args below meth c B H locs ls hl hK hP hD hS hX
  refine W.widen hc hs ?_
  exact W.vret B.1.1 B.1.2.1 (B.1.2.2.2.2.2.1.trans hr) (fun t ht hW => kq_of (v := none) hkp hq ht hW hK hP hD hS) hS.2.2 hd B.1.2.2.2.2.2.2
theorem y_iret {z : Int} {ρ : Nat → Nat} {ids : List Nat} {ty : Nat → CT} (hd : decode μ.2.2.1 pc = .ok (.ireturn, 1)) (hr : μ.2.2.2.2.1 = some .int) (hc : cells ≤ μ.2.2.2.2.2.cells) (hs : slots ≤ μ.2.2.2.2.2.slots) (hkp : Kp Γ0 (gX Γ0 ρ ids ty)) (hq : QG (gX Γ0 ρ ids ty) (some (vI z)) P I) : XP Γ0 (gX Γ0 ρ ids ty) μ cells slots pc al [vI z] P I (KQ Γ0 QG) := by
  intro p e s m args below meth c B H locs ls hl hK hP hD hS hX
  refine W.widen hc hs ?_
  exact W.iret (v := Int32.ofInt z) B.1.1 B.1.2.1 (B.1.2.2.2.2.2.1.trans hr) (fun t ht hW => kq_of (v := some (vI z)) hkp hq ht hW hK hP hD hS) hS.2.2 hd B.1.2.2.2.2.2.2
end XG
