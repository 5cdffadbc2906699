/-! THE LAW: rows of the script, of equal numbers; its wrappers' contracts and calls -/
theorem lu_zi (a : Int) : (Int32.ofInt a).toInt64 = Int64.ofInt (Int32.ofInt a).toInt := (Int64.ofInt_int32ToInt _).symm
/-- an int as the machine has it -/
def w32 (a : Int) : Int := (Int32.ofInt a).toInt
section XG
variable {tb : HTB} {Γ0 Γ : GG} {μ ν : MI} {cells slots pc : Nat} {al al' : List (Nat × AV)} {st as : List AV} {P : MP} {I : MM} {Q : ET} {QG R : KG}
theorem y_slen (hd : decode μ.2.2.1 pc = .ok (.arraylength, 1)) (k : XE tb Γ0 Γ μ cells slots (pc + 1) al (vI (gs Γ).1 :: st) P I Q) : XE tb Γ0 Γ μ cells slots pc al (vR 650 :: st) P I Q := by
  intro p e s m args below meth c B H locs ls hl hK hP hD hS hX
  exact va_tlen B.1.1 B.1.2.1 hX.2.2.2.2.2.1.2.2.1 hS (v := Int32.ofInt (gs Γ).1) (Int32.ofInt_eq_ofNat).symm hd (k p e s m args below meth c B H locs ls hl hK hP hD hS hX)
theorem y_sld {j : Int} (hd : decode μ.2.2.1 pc = .ok (.iaload, 1)) (h0 : 0 ≤ j) (h1 : j < (gs Γ).1) (hL : (gs Γ).1 < 2147483648) (k : XE tb Γ0 Γ μ cells slots (pc + 1) al (vI ((gs Γ).2 j.toNat) :: st) P I Q) : XE tb Γ0 Γ μ cells slots pc al (vI j :: vR 650 :: st) P I Q := by
  intro p e s m args below meth c B H locs ls hl hK hP hD hS hX
  refine va_ti B.1.1 B.1.2.1 hX.2.2.2.2.2.1.2.2.1 hS (zi_in h0 h1 hL) (v := .int (Int32.ofInt ((gs Γ).2 j.toNat))) ?_ hd (k p e s m args below meth c B H locs ls hl hK hP hD hS hX)
  rw [zi_nat h0 (by omega)]
theorem y_icmpS {a : Int} {off : Int} (tgt : Nat) (hd : decode μ.2.2.1 pc = .ok (.if_icmp .eq off, 3)) (ht : (pc : Int) + off = (tgt : Int)) (k : XE tb Γ0 Γ μ cells slots tgt al st P I Q) : XE tb Γ0 Γ μ cells slots pc al (vI a :: vI a :: st) P I Q := by
  intro p e s m args below meth c B H locs ls hl hK hP hD hS hX
  exact lv_icmp_eq B.1.1 B.1.2.1 hd ht (fun _ => k p e s m args below meth c B H locs ls hl hK hP hD hS hX) (fun h => absurd rfl h)
theorem y_i2lW {a : Int} (hd : decode μ.2.2.1 pc = .ok (.i2l, 1)) (k : XE tb Γ0 Γ μ cells slots (pc + 1) al (vL (w32 a) :: st) P I Q) : XE tb Γ0 Γ μ cells slots pc al (vI a :: st) P I Q := by
  intro p e s m args below meth c B H locs ls hl hK hP hD hS hX
  exact lv_i2l B.1.1 B.1.2.1 hd (lu_zi a) (k p e s m args below meth c B H locs ls hl hK hP hD hS hX)
theorem y_wid {c2 s2 : Nat} (hc : cells ≤ c2) (hs : slots ≤ s2) (k : XE tb Γ0 Γ μ c2 s2 pc al st P I Q) : XE tb Γ0 Γ μ cells slots pc al st P I Q := by
  intro p e s m args below meth c B H locs ls hl hK hP hD hS hX
  exact W.widen hc hs (k p e s m args below meth c B H locs ls hl hK hP hD hS hX)
end XG
/-! a method with a table of handlers, that returns -/
abbrev HH : Type := List (Nat × Nat × Nat × Nat)
def wsW (μ : MI) (hh : HH) : List Cond := .codeWith μ.1 μ.2.2.1 μ.2.2.2.1 μ.2.2.2.2.1 hh :: lwU
def NoX : String → State → State → Prop := fun _ _ _ => False
def ClW (Γ : GG) (μ : MI) (hh : HH) (args : List AV) (P : MP) (I : MM) (QG : KG) : Prop :=
  ∀ sz : Nat, vx_Met (gl Γ) μ.1 (wsW μ hh) μ.2.2.2.2.2 (va_Pc (args.map (cv (gr Γ))) (Pq Γ P I sz)) (KQ Γ QG) NoX μ.2.2.2.2.2.cells μ.2.2.2.2.2.slots (RG Γ sz)
theorem clw_of {Γ : GG} {μ : MI} {hh : HH} {args : List AV} {P : MP} {I : MM} {QG : KG} (hn : Nm μ) (hL : avLen args ≤ μ.2.2.2.1) (h : XE (some hh) Γ Γ μ 0 0 0 (avArgs 0 args) [] P I (EM Γ μ (KQ Γ QG))) : ClW Γ μ hh args P I QG := by
  intro sz
  refine vx_ofWH (cc := μ.2.2.1) (maxL := μ.2.2.2.1) (ret := μ.2.2.2.2.1) (hh := hh) hn.1 rfl ?_
  intro p e s m args2 below meth c s₁ B hml hv
  obtain ⟨rfl, hsz, hK, hP, hD, hX⟩ := hv
  have hown : s.vm.findClass μ.2.1 = some m.cls := by rw [← hn.2]; exact findClass_of_methodNamed B.named
  have hts := atoms_spec (ws := wsW μ hh) B.pre
  have hl := lv_entry (args.map (cv (gr Γ))) (n := μ.2.2.2.1) (by rw [av_len]; exact hL)
  rw [av_args] at hl
  rw [lg_entry_eq]
  subst hsz
  have h0 : c.exceptionTable.toList = tableOf hh := vx_table (x := μ.1) B (hts _ List.mem_cons_self)
  refine vx_ret ?_
  exact h p e s m _ below meth c ⟨⟨B.exec, B.bytes, hml, hown, fun w hw => hts w (List.mem_cons_of_mem _ hw), B.returns, B.notSynchronized⟩, fun _ => (name_of_methodNamed B.named B.method).1, fun h9 e9 => by cases e9; exact h0⟩ s.heap [] _ hl hK hP hD va_S.rf hX
def LkW (ν : MI) (hh : HH) (n : Nat) : Prop := Cond.static ν.1 ∈ lwU ∧ Cond.initialized ν.1.cls ∈ lwU ∧ Cond.codeWith ν.1 ν.2.2.1 ν.2.2.2.1 ν.2.2.2.2.1 hh ∈ lwU ∧ LkN ν n
theorem goodW {μ ν : MI} {hh : HH} {n index : Nat} (h : LkW ν hh n) (hm : Cond.methodLink μ.2.1 index ν.1 ∈ lwU) : GoodIn lwU (va_wsS μ.2.1 index ν.1 (wsW ν hh)) := by
  intro w hw
  have key : w ∈ lwU := by
    simp only [va_wsS, wsW, List.mem_append, List.mem_cons, List.not_mem_nil, or_false] at hw
    rcases hw with (rfl | rfl | rfl) | rfl | hw
    · exact hm
    · exact h.1
    · exact h.2.1
    · exact h.2.2.1
    · exact hw
  exact ⟨key, goodU w key⟩
section XG
variable {tb : HTB} {Γ0 Γ : GG} {μ ν : MI} {cells slots pc : Nat} {al al' : List (Nat × AV)} {st as : List AV} {P : MP} {I : MM} {Q : ET} {QG R : KG} {X : XT}
theorem y_callW {hh : HH} {index n : Nat} (hd : decode μ.2.2.1 pc = .ok (.invokestatic index, 3)) (hC : ClW Γ ν hh as P I R) (hk : LkW ν hh n) (hm : Cond.methodLink μ.2.1 index ν.1 ∈ lwU) (hR : LkR μ ν) (hn : as.length = n) (hrf : Rfs Γ al st) (hs : avLen st ≤ 8) (hf : cells + ν.2.2.2.2.2.cells ≤ μ.2.2.2.2.2.cells ∧ slots + ν.2.2.2.2.2.slots ≤ μ.2.2.2.2.2.slots) (ast : List AV) (hst : ast = as.reverse ++ st)
    (k : ∀ ρ ids ty v P' I', Kp Γ (gX Γ ρ ids ty) → R (gX Γ ρ ids ty) v P' I' → XE tb Γ0 (gX Γ ρ ids ty) μ (cells + ν.2.2.2.2.2.cells) (slots + ν.2.2.2.2.2.slots) (pc + 3) al (v.toList ++ st) P' I' Q) : XE tb Γ0 Γ μ cells slots pc al ast P I Q := by
  subst hst
  intro p e s m args below meth c B H locs ls hl hK hP hD hS hX
  have hrun0 := vx_runSX (hh := hh) (As := as.map (cv (gr Γ))) (rest := st.map (cv (gr Γ))) (g := F0 m pc ls ((as.reverse ++ st).map (cv (gr Γ)))) (cells := cells) (slots := slots) (locs := locs)
    (⟨B.1.1, B.1.2.1, B.1.2.2.1, B.1.2.2.2.1, B.1.2.2.2.2.1⟩ : CallFix p m c μ.2.2.1 μ.2.2.2.1 s args lwU μ.2.1) (hC H.size) (vx_cwSW n B.1.2.2.2.2.1 (goodW hk hm) rfl rfl rfl hk.2.2.2 hR)
    ⟨pq_blind, fun U hU hW => ⟨rfl, by rw [hU], va_K.moved hW.alike hK, by rw [hU]; exact hP, gw_DR _ hD, ro_call0 hD hU hW hS hX⟩⟩ rfl (by rw [List.length_map]; exact hn) hl.1 (by simp) (lv_room (by rw [cat_sum]; exact hs)) hd hf (below := below) (meth := meth) (e := e)
  have hrun : va_Run p (gl Γ) e μ.2.2.2.2.2 s m args below meth c H locs cells slots ν.2.2.2.2.2.cells ν.2.2.2.2.2.slots (F0 m pc ls ((as.reverse ++ st).map (cv (gr Γ)))) (st.map (cv (gr Γ))) (KQ Γ R (as.map (cv (gr Γ))).toArray) (RG Γ H.size) := fun T hT X0 => (hrun0 T hT X0).elim (fun h => h) (fun ⟨_, _, _, _, _, _, _, _, _, _, _, _, hx, _⟩ => hx.elim)
  refine y_runG hD hrf.2 hrun hS (fun ρ ids ty v P' I' H1 locs1 kp hR' hP' hD' hS' => ?_)
  have hv := (cvs_ren (Γ := Γ) (ρ := ρ) (fun j hj => (kp.1 j hj).2.1) kp.2 hrf).1
  exact k ρ ids ty v P' I' kp hR' p e s m args below meth c B H1 locs1 ls (by show lv_has ls _ (cvl ρ al); rw [hv]; exact hl) hK hP' hD' hS' (hX.ren kp.2)
/-- y_cV with a wide store at the handler's head -/
theorem y_cVw {hh : HH} {i ci index n j : Nat} {E : String} (hd : decode μ.2.2.1 pc = .ok (.invokevirtual index, 3)) (hC : ClT Γ ν (vR i :: as) P I X) (hk : LkV ν n) (hm : Cond.methodLink μ.2.1 index ν.1 ∈ lwU) (hR : LkR μ ν) (hc : (vwCl[ci]?).map (fun q => q.1) = some ν.1.cls) (ho : Ob Γ i (.inl ci)) (hn : as.length = n) (hs : avLen st ≤ 8) (hf : cells + ν.2.2.2.2.2.cells ≤ μ.2.2.2.2.2.cells ∧ slots + ν.2.2.2.2.2.slots ≤ μ.2.2.2.2.2.slots)
    (ast : List AV) (hst : ast = as.reverse ++ vR i :: st) (hE : ∀ E' P' I', X E' P' I' → E' = E) (hEx : E ∈ excS) (pre suf : HH) (x : Nat × Nat × Nat × Nat) (hsp : hh = pre ++ x :: suf)
    (hpass : ∀ z ∈ pre, ∃ nm : String, z.2.2.2 ≠ 0 ∧ Cond.classLink μ.2.1 z.2.2.2 nm ∈ lwU ∧ (E, nm) ∈ ncS) (hx1 : x.1 ≤ pc ∧ pc < x.2.1) (hx2 : x.2.2.2 ≠ 0) (hlk : Cond.classLink μ.2.1 x.2.2.2 E ∈ lwU)
    (hda : decode μ.2.2.1 x.2.2.1 = .ok (.astore j, 2)) (hj : j < μ.2.2.2.1) (hal : ∀ q ∈ al', q ∈ al ∧ q.1 ≠ j ∧ isLv q.2 = false)
    (k : ∀ P' I', X E P' I' → XE (some hh) Γ0 Γ μ (cells + ν.2.2.2.2.2.cells) (slots + ν.2.2.2.2.2.slots) (x.2.2.1 + 2) al' [] P' I' Q) : XE (some hh) Γ0 Γ μ cells slots pc al ast P I Q := by
  subst hst
  intro p e s m args below meth c B H locs ls hl hK hP hD hS hX
  obtain ⟨q0, hq0, he⟩ := ho.obj P I
  obtain ⟨r, hr1, hr2⟩ : ∃ r : vw_C, vwCl[ci]? = some r ∧ r.1 = ν.1.cls := by
    cases h : vwCl[ci]? with
    | none => rw [h] at hc; cases hc
    | some r => rw [h] at hc; exact ⟨r, rfl, Option.some.inj hc⟩
  have hrecv : ∃ cell : Cell, H[gr Γ i]? = some cell ∧ cell.vm.isStatics = false ∧ s.vm.findClass ν.1.cls = some cell.cls := by
    rw [← hr2]
    exact va_recv hK hP hr1 he
  have hrun := vx_runV (C := ν.1.cls) (b := gr Γ i) (As := as.map (cv (gr Γ))) (rest := st.map (cv (gr Γ))) (g := F0 m pc ls ((as.reverse ++ vR i :: st).map (cv (gr Γ)))) (cells := cells) (slots := slots) (locs := locs)
    (⟨B.1.1, B.1.2.1, B.1.2.2.1, B.1.2.2.2.1, B.1.2.2.2.2.1⟩ : CallFix p m c μ.2.2.1 μ.2.2.2.1 s args lwU μ.2.1) (hC H.size) (cwV n B.1.2.2.2.2.1 (goodV hk hm) rfl rfl rfl ⟨rfl, hk.2.2.2.2⟩ hR)
    ⟨pq_blind, hrecv, fun U hU hW => ⟨rfl, by rw [hU], va_K.moved hW.alike hK, by rw [hU]; exact hP, gw_DR _ hD, ro_call0 hD hU hW hS hX⟩⟩ rfl (by rw [List.length_map]; exact hn) hl.1 (by simp [cv]) (lv_room (by rw [cat_sum]; exact hs)) hd hf (below := below) (meth := meth) (e := e)
  refine y_tr hD hrun hS (fun E' ce q9 P' I' H1 locs1 hx hP' hS' hcell hv hcl => ?_)
  obtain rfl := hE E' P' I' hx
  have htb := B.2.2 _ rfl
  rw [hsp] at htb
  have htb2 : c.exceptionTable.toList = tableOf pre ++ (⟨x.1, x.2.1, x.2.2.1, x.2.2.2⟩ : ExceptionTableEntry) :: tableOf suf := by
    rw [htb]
    simp only [tableOf, List.map_append, List.map_cons]
  refine vx_catch (own := μ.2.1) (name := E') B.1.2.2.2.1 (tableOf pre) _ (tableOf suf) htb2 (fun z hz => ?_) ?_ hx2 (B.1.2.2.2.2.1 _ hlk) (va_Nw.use rfl (hX.2.2.2.2.2.1.2.2.2.1 _ hEx)) hcell hv hcl ?_
  · obtain ⟨z0, hz0, rfl⟩ := List.mem_map.mp hz
    obtain ⟨nm, h1, h2, h3⟩ := hpass z0 hz0
    exact Or.inr ⟨h1, nm, B.1.2.2.2.2.1 _ h2, hX.2.2.2.2.2.2.1 _ h3⟩
  · simp only [covers, Bool.and_eq_true, decide_eq_true_eq]
    exact hx1
  · refine lv_astore (i := j) (x := q9) B.1.1 B.1.2.1 hda hl hj rfl (fun ls2 hl2 => ?_)
    refine k P' I' hx p e s m args below meth c B H1 locs1 ls2 ⟨hl2.1, hl2.2.1, fun q hq => ?_⟩ hK hP' (gw_D hD) hS' hX
    obtain ⟨q1, hq1, rfl⟩ := List.mem_map.mp hq
    obtain ⟨h1, h2, h3⟩ := hal q1 hq1
    refine hl2.2.2 _ (List.mem_cons_of_mem _ (List.mem_filter.mpr ⟨List.mem_map.mpr ⟨q1, h1, rfl⟩, ?_⟩))
    have h4 : (q1.1 == j) = false := by simpa using h2
    simp only [cv_cat, h3, h4]
    simp
end XG
