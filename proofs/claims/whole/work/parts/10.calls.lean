/-! CALLS by what they return, of methods that make nothing -/
def ri (P : MP) (R : Int → MM → Prop) : QT := fun v P1 I1 => ∃ z : Int, v = some (vI z) ∧ P1 = P ∧ R z I1
def rl (P : MP) (R : Int → MM → Prop) : QT := fun v P1 I1 => ∃ z : Int, v = some (vL z) ∧ P1 = P ∧ R z I1
def rv (P : MP) (R : MM → Prop) : QT := fun v P1 I1 => v = none ∧ P1 = P ∧ R I1
/-- a void method that may change references -/
def rp (R : MP → MM → Prop) : QT := fun v P1 I1 => v = none ∧ R P1 I1
def rpi (R : Int → MP → MM → Prop) : QT := fun v P1 I1 => ∃ z : Int, v = some (vI z) ∧ R z P1 I1
theorem Cl.mono {Γ : GG} {μ : MI} {args : List AV} {P : MP} {I : MM} {Q Q' : QT} (h : Cl Γ μ args P I Q) (hq : ∀ v P1 I1, Q v P1 I1 → Q' v P1 I1) : Cl Γ μ args P I Q' := by
  intro sz p e ha hc hk s m a below hf happ hp hr
  obtain ⟨t, o, h1, h2, h3, ⟨⟨v, P', I', a1, a2, a3, a4⟩, a5⟩, h4⟩ := h sz p e ha hc hk s m a below hf happ hp hr
  exact ⟨t, o, h1, h2, h3, ⟨⟨v, P', I', a1, hq _ _ _ a2, a3, a4⟩, a5⟩, h4⟩
theorem XM.mono {Γ : GG} {μ : MI} {cells slots pc : Nat} {al : List (Nat × AV)} {st : List AV} {P : MP} {I : MM} {Q Q' : QT} (h : XM Γ μ cells slots pc al st P I Q) (hq : ∀ v P1 I1, Q v P1 I1 → Q' v P1 I1) : XM Γ μ cells slots pc al st P I Q' := by
  intro p e s m args below meth c B H locs ls hl hK hP hD hS hX T hT X
  obtain ⟨t, a1, o, b1, b2, ⟨⟨v, P', I', c1, c2, c3, c4⟩, c5⟩, b3⟩ := h p e s m args below meth c B H locs ls hl hK hP hD hS hX T hT X
  exact ⟨t, a1, o, b1, b2, ⟨⟨v, P', I', c1, hq _ _ _ c2, c3, c4⟩, c5⟩, b3⟩
/-- a method that makes nothing -/
def Mk0 (ν : MI) : Prop := ν.2.2.2.2.2.cells = 0 ∧ ν.2.2.2.2.2.slots = 0
section XR
variable {Γ : GG} {μ ν : MI} {cells slots pc : Nat} {al al' : List (Nat × AV)} {st as : List AV} {P : MP} {I : MM} {Q : QT}
theorem x_V0 {R : QT} {i ci index n : Nat} (hd : decode μ.2.2.1 pc = .ok (.invokevirtual index, 3)) (hC : Cl Γ ν (vR i :: as) P I R) (hk : LkV ν n) (hm : Cond.methodLink μ.2.1 index ν.1 ∈ lwU) (hR : LkR μ ν) (h0 : Mk0 ν) (hf : cells ≤ μ.2.2.2.2.2.cells ∧ slots ≤ μ.2.2.2.2.2.slots) (hc : (vwCl[ci]?).map (fun q => q.1) = some ν.1.cls) (ho : Ob Γ i (.inl ci)) (hn : as.length = n) (hs : avLen st ≤ 8)
    (ast : List AV) (hst : ast = as.reverse ++ vR i :: st) (k : ∀ v P' I', R v P' I' → XM Γ μ cells slots (pc + 3) al (v.toList ++ st) P' I' Q) : XM Γ μ cells slots pc al ast P I Q :=
  x_callV hd hC hk hm hR hc ho hn hs (by rw [h0.1, h0.2]; exact hf) (fun v P' I' h => by rw [h0.1, h0.2]; exact k v P' I' h) ast hst
theorem x_S0 {R : QT} {index n : Nat} (hd : decode μ.2.2.1 pc = .ok (.invokestatic index, 3)) (hC : Cl Γ ν as P I R) (hk : LkS ν n) (hm : Cond.methodLink μ.2.1 index ν.1 ∈ lwU) (hR : LkR μ ν) (h0 : Mk0 ν) (hf : cells ≤ μ.2.2.2.2.2.cells ∧ slots ≤ μ.2.2.2.2.2.slots) (hn : as.length = n) (hs : avLen st ≤ 8)
    (ast : List AV) (hst : ast = as.reverse ++ st) (k : ∀ v P' I', R v P' I' → XM Γ μ cells slots (pc + 3) al (v.toList ++ st) P' I' Q) : XM Γ μ cells slots pc al ast P I Q :=
  x_callS hd hC hk hm hR hn hs (by rw [h0.1, h0.2]; exact hf) (fun v P' I' h => by rw [h0.1, h0.2]; exact k v P' I' h) ast hst
theorem x_Vi {R : Int → MM → Prop} {i ci index n : Nat} (hd : decode μ.2.2.1 pc = .ok (.invokevirtual index, 3)) (hC : Cl Γ ν (vR i :: as) P I (ri P R)) (hk : LkV ν n) (hm : Cond.methodLink μ.2.1 index ν.1 ∈ lwU) (hR : LkR μ ν) (h0 : Mk0 ν) (hf : cells ≤ μ.2.2.2.2.2.cells ∧ slots ≤ μ.2.2.2.2.2.slots) (hc : (vwCl[ci]?).map (fun q => q.1) = some ν.1.cls) (ho : Ob Γ i (.inl ci)) (hn : as.length = n) (hs : avLen st ≤ 8)
    (ast : List AV) (hst : ast = as.reverse ++ vR i :: st) (k : ∀ z I', R z I' → XM Γ μ cells slots (pc + 3) al (vI z :: st) P I' Q) : XM Γ μ cells slots pc al ast P I Q :=
  x_V0 hd hC hk hm hR h0 hf hc ho hn hs ast hst (fun v P' I' h => by obtain ⟨z, rfl, rfl, h⟩ := h; exact k z I' h)
theorem x_Vl {R : Int → MM → Prop} {i ci index n : Nat} (hd : decode μ.2.2.1 pc = .ok (.invokevirtual index, 3)) (hC : Cl Γ ν (vR i :: as) P I (rl P R)) (hk : LkV ν n) (hm : Cond.methodLink μ.2.1 index ν.1 ∈ lwU) (hR : LkR μ ν) (h0 : Mk0 ν) (hf : cells ≤ μ.2.2.2.2.2.cells ∧ slots ≤ μ.2.2.2.2.2.slots) (hc : (vwCl[ci]?).map (fun q => q.1) = some ν.1.cls) (ho : Ob Γ i (.inl ci)) (hn : as.length = n) (hs : avLen st ≤ 8)
    (ast : List AV) (hst : ast = as.reverse ++ vR i :: st) (k : ∀ z I', R z I' → XM Γ μ cells slots (pc + 3) al (vL z :: st) P I' Q) : XM Γ μ cells slots pc al ast P I Q :=
  x_V0 hd hC hk hm hR h0 hf hc ho hn hs ast hst (fun v P' I' h => by obtain ⟨z, rfl, rfl, h⟩ := h; exact k z I' h)
theorem x_Vv {R : MM → Prop} {i ci index n : Nat} (hd : decode μ.2.2.1 pc = .ok (.invokevirtual index, 3)) (hC : Cl Γ ν (vR i :: as) P I (rv P R)) (hk : LkV ν n) (hm : Cond.methodLink μ.2.1 index ν.1 ∈ lwU) (hR : LkR μ ν) (h0 : Mk0 ν) (hf : cells ≤ μ.2.2.2.2.2.cells ∧ slots ≤ μ.2.2.2.2.2.slots) (hc : (vwCl[ci]?).map (fun q => q.1) = some ν.1.cls) (ho : Ob Γ i (.inl ci)) (hn : as.length = n) (hs : avLen st ≤ 8)
    (ast : List AV) (hst : ast = as.reverse ++ vR i :: st) (k : ∀ I', R I' → XM Γ μ cells slots (pc + 3) al st P I' Q) : XM Γ μ cells slots pc al ast P I Q :=
  x_V0 hd hC hk hm hR h0 hf hc ho hn hs ast hst (fun v P' I' h => by obtain ⟨rfl, rfl, h⟩ := h; exact k I' h)
theorem x_Vp {R : MP → MM → Prop} {i ci index n : Nat} (hd : decode μ.2.2.1 pc = .ok (.invokevirtual index, 3)) (hC : Cl Γ ν (vR i :: as) P I (rp R)) (hk : LkV ν n) (hm : Cond.methodLink μ.2.1 index ν.1 ∈ lwU) (hR : LkR μ ν) (h0 : Mk0 ν) (hf : cells ≤ μ.2.2.2.2.2.cells ∧ slots ≤ μ.2.2.2.2.2.slots) (hc : (vwCl[ci]?).map (fun q => q.1) = some ν.1.cls) (ho : Ob Γ i (.inl ci)) (hn : as.length = n) (hs : avLen st ≤ 8)
    (ast : List AV) (hst : ast = as.reverse ++ vR i :: st) (k : ∀ P' I', R P' I' → XM Γ μ cells slots (pc + 3) al st P' I' Q) : XM Γ μ cells slots pc al ast P I Q :=
  x_V0 hd hC hk hm hR h0 hf hc ho hn hs ast hst (fun v P' I' h => by obtain ⟨rfl, h⟩ := h; exact k P' I' h)
theorem x_Vpi {R : Int → MP → MM → Prop} {i ci index n : Nat} (hd : decode μ.2.2.1 pc = .ok (.invokevirtual index, 3)) (hC : Cl Γ ν (vR i :: as) P I (rpi R)) (hk : LkV ν n) (hm : Cond.methodLink μ.2.1 index ν.1 ∈ lwU) (hR : LkR μ ν) (h0 : Mk0 ν) (hf : cells ≤ μ.2.2.2.2.2.cells ∧ slots ≤ μ.2.2.2.2.2.slots) (hc : (vwCl[ci]?).map (fun q => q.1) = some ν.1.cls) (ho : Ob Γ i (.inl ci)) (hn : as.length = n) (hs : avLen st ≤ 8)
    (ast : List AV) (hst : ast = as.reverse ++ vR i :: st) (k : ∀ z P' I', R z P' I' → XM Γ μ cells slots (pc + 3) al (vI z :: st) P' I' Q) : XM Γ μ cells slots pc al ast P I Q :=
  x_V0 hd hC hk hm hR h0 hf hc ho hn hs ast hst (fun v P' I' h => by obtain ⟨z, rfl, h⟩ := h; exact k z P' I' h)
theorem x_Si {R : Int → MM → Prop} {index n : Nat} (hd : decode μ.2.2.1 pc = .ok (.invokestatic index, 3)) (hC : Cl Γ ν as P I (ri P R)) (hk : LkS ν n) (hm : Cond.methodLink μ.2.1 index ν.1 ∈ lwU) (hR : LkR μ ν) (h0 : Mk0 ν) (hf : cells ≤ μ.2.2.2.2.2.cells ∧ slots ≤ μ.2.2.2.2.2.slots) (hn : as.length = n) (hs : avLen st ≤ 8)
    (ast : List AV) (hst : ast = as.reverse ++ st) (k : ∀ z I', R z I' → XM Γ μ cells slots (pc + 3) al (vI z :: st) P I' Q) : XM Γ μ cells slots pc al ast P I Q :=
  x_S0 hd hC hk hm hR h0 hf hn hs ast hst (fun v P' I' h => by obtain ⟨z, rfl, rfl, h⟩ := h; exact k z I' h)
theorem x_Sl {R : Int → MM → Prop} {index n : Nat} (hd : decode μ.2.2.1 pc = .ok (.invokestatic index, 3)) (hC : Cl Γ ν as P I (rl P R)) (hk : LkS ν n) (hm : Cond.methodLink μ.2.1 index ν.1 ∈ lwU) (hR : LkR μ ν) (h0 : Mk0 ν) (hf : cells ≤ μ.2.2.2.2.2.cells ∧ slots ≤ μ.2.2.2.2.2.slots) (hn : as.length = n) (hs : avLen st ≤ 8)
    (ast : List AV) (hst : ast = as.reverse ++ st) (k : ∀ z I', R z I' → XM Γ μ cells slots (pc + 3) al (vL z :: st) P I' Q) : XM Γ μ cells slots pc al ast P I Q :=
  x_S0 hd hC hk hm hR h0 hf hn hs ast hst (fun v P' I' h => by obtain ⟨z, rfl, rfl, h⟩ := h; exact k z I' h)
theorem x_Sv {R : MM → Prop} {index n : Nat} (hd : decode μ.2.2.1 pc = .ok (.invokestatic index, 3)) (hC : Cl Γ ν as P I (rv P R)) (hk : LkS ν n) (hm : Cond.methodLink μ.2.1 index ν.1 ∈ lwU) (hR : LkR μ ν) (h0 : Mk0 ν) (hf : cells ≤ μ.2.2.2.2.2.cells ∧ slots ≤ μ.2.2.2.2.2.slots) (hn : as.length = n) (hs : avLen st ≤ 8)
    (ast : List AV) (hst : ast = as.reverse ++ st) (k : ∀ I', R I' → XM Γ μ cells slots (pc + 3) al st P I' Q) : XM Γ μ cells slots pc al ast P I Q :=
  x_S0 hd hC hk hm hR h0 hf hn hs ast hst (fun v P' I' h => by obtain ⟨rfl, rfl, h⟩ := h; exact k I' h)
theorem x_Ni {R : Int → MM → Prop} {index n : Nat} (host : String) (hd : decode μ.2.2.1 pc = .ok (.invokestatic index, 3)) (hC : Cl Γ ν as P I (ri P R)) (hk : LkS ν n) (hm : (μ.2.1, index, ν.1, host) ∈ nstS) (hR : LkR μ ν) (h0 : Mk0 ν) (hf : cells ≤ μ.2.2.2.2.2.cells ∧ slots ≤ μ.2.2.2.2.2.slots) (hn : as.length = n) (hs : avLen st ≤ 8)
    (ast : List AV) (hst : ast = as.reverse ++ st) (k : ∀ z I', R z I' → XM Γ μ cells slots (pc + 3) al (vI z :: st) P I' Q) : XM Γ μ cells slots pc al ast P I Q :=
  x_callSN host hd hC hk hm hR hn hs (by rw [h0.1, h0.2]; exact hf) (fun v P' I' h => by rw [h0.1, h0.2]; obtain ⟨z, rfl, rfl, h⟩ := h; exact k z I' h) hst
/-! names for what was computed -/
theorem x_nmI (k : ∀ I' : MM, I' = I → XM Γ μ cells slots pc al st P I' Q) : XM Γ μ cells slots pc al st P I Q := k I rfl
theorem x_nmP (k : ∀ P' : MP, P' = P → XM Γ μ cells slots pc al st P' I Q) : XM Γ μ cells slots pc al st P I Q := k P rfl
theorem x_nmT {z : Int} (k : ∀ x : Int, x = z → XM Γ μ cells slots pc al (vI x :: st) P I Q) : XM Γ μ cells slots pc al (vI z :: st) P I Q := k z rfl
theorem x_nmL {z : Int} (k : ∀ x : Int, x = z → XM Γ μ cells slots pc al (vL x :: st) P I Q) : XM Γ μ cells slots pc al (vL z :: st) P I Q := k z rfl
/-! further rows -/
def lc (a b : Int) : Int := if b < a then 1 else if a = b then 0 else -1
theorem inR_lc {a b : Int} : inR (lc a b) := by
  unfold lc
  split
  · exact ⟨by decide, by decide⟩
  · split <;> exact ⟨by decide, by decide⟩
theorem x_lcmp {a b : Int} (hd : decode μ.2.2.1 pc = .ok (.lcmp, 1)) (ha : inL a) (hb : inL b) (k : XM Γ μ cells slots (pc + 1) al (vI (lc a b) :: st) P I Q) : XM Γ μ cells slots pc al (vL b :: vL a :: st) P I Q := by
  intro p e s m args below meth c B H locs ls hl hK hP hD hS hX
  have h := k p e s m args below meth c B H locs ls hl hK hP hD hS hX
  refine W.lcmp B.1 B.2.1 hd ?_
  have e1 : lg_cmp (Int64.ofInt a) (Int64.ofInt b) = Int32.ofInt (lc a b) := by
    unfold lg_cmp lc
    by_cases h1 : b < a
    · rw [if_pos ((zl_lt hb ha).mpr h1), if_pos h1]; rfl
    · rw [if_neg (fun q => h1 ((zl_lt hb ha).mp q)), if_neg h1]
      by_cases h2 : a = b
      · rw [if_pos ((zl_eq ha hb).mpr h2), if_pos h2]; rfl
      · rw [if_neg (fun q => h2 ((zl_eq ha hb).mp q)), if_neg h2]; rfl
  rw [e1]
  exact h
theorem zi_div {a b : Int} (ha : inR a) (hb : inR b) (h0 : 0 ≤ a) (h1 : 0 < b) : Int32.ofInt a / Int32.ofInt b = Int32.ofInt (a / b) := by
  have hle : a / b ≤ a := Int.ediv_le_self b h0
  have h3 : 0 ≤ a / b := Int.ediv_nonneg h0 (Int.le_of_lt h1)
  rw [← Int32.toInt_inj, Int32.toInt_div, zi_toInt ha, zi_toInt hb, zi_toInt ⟨by omega, by have := ha.2; omega⟩, Int.tdiv_eq_ediv_of_nonneg h0]
  exact Int.bmod_eq_of_le (by omega) (by have := ha.2; omega)
theorem x_idiv {a b : Int} (hd : decode μ.2.2.1 pc = .ok (.idiv, 1)) (ha : inR a) (hb : inR b) (h0 : 0 ≤ a) (h1 : 0 < b) (k : XM Γ μ cells slots (pc + 1) al (vI (a / b) :: st) P I Q) : XM Γ μ cells slots pc al (vI b :: vI a :: st) P I Q := by
  intro p e s m args below meth c B H locs ls hl hK hP hD hS hX
  refine lv_idiv B.1 B.2.1 hd (fun q => by have := (zi_eq0 hb).mp q; omega) ?_
  rw [zi_div ha hb h0 h1]
  exact k p e s m args below meth c B H locs ls hl hK hP hD hS hX
theorem x_irem {a b : Int} (hd : decode μ.2.2.1 pc = .ok (.irem, 1)) (ha : inR a) (hb : inR b) (h0 : 0 ≤ a) (h1 : 0 < b) (k : XM Γ μ cells slots (pc + 1) al (vI (a % b) :: st) P I Q) : XM Γ μ cells slots pc al (vI b :: vI a :: st) P I Q := by
  intro p e s m args below meth c B H locs ls hl hK hP hD hS hX
  refine lv_irem B.1 B.2.1 hd (fun q => by have := (zi_eq0 hb).mp q; omega) ?_
  have e1 : Int32.ofInt a - Int32.ofInt a / Int32.ofInt b * Int32.ofInt b = Int32.ofInt (a % b) := by
    rw [zi_div ha hb h0 h1, zi_mul, zi_sub, Int.emod_def, Int.mul_comm]
  rw [e1]
  exact k p e s m args below meth c B H locs ls hl hK hP hD hS hX
end XR
