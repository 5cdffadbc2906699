/-! THE ABSTRACT MEMORY. Values as integers and numbers of objects; the memory as two functions (numbers, references) of an object's number and a place in it. -/
abbrev AV : Type := Int ⊕ Int ⊕ Option Nat
abbrev vI (z : Int) : AV := Sum.inl z
abbrev vL (z : Int) : AV := Sum.inr (Sum.inl z)
abbrev vR (i : Nat) : AV := Sum.inr (Sum.inr (some i))
abbrev vN : AV := Sum.inr (Sum.inr none)
def cv (ρ : Nat → Nat) : AV → Value := fun v => match v with
  | Sum.inl z => .int (Int32.ofInt z)
  | Sum.inr (Sum.inl z) => .long (Int64.ofInt z)
  | Sum.inr (Sum.inr (some i)) => .ref (ρ i)
  | Sum.inr (Sum.inr none) => .null
def cvl (ρ : Nat → Nat) (al : List (Nat × AV)) : List (Nat × Value) := al.map (fun q => (q.1, cv ρ q.2))
/-- an object's class (by its place in vwCl), or an array's kind and length -/
abbrev CT : Type := Nat ⊕ (Nat × Nat)
abbrev MP : Type := Nat → Nat → Option Nat
abbrev MM : Type := Nat → Nat → Int
def up2 {α : Type} (f : Nat → Nat → α) (a i : Nat) (v : α) : Nat → Nat → α := fun b j => if b = a then (if j = i then v else f b j) else f b j
theorem up2_ne {α : Type} {f : Nat → Nat → α} {a i b : Nat} {v : α} (h : b ≠ a) : up2 f a i v b = f b := by
  funext j; simp [up2, h]
theorem up2_eq {α : Type} {f : Nat → Nat → α} {a i : Nat} {v : α} : up2 f a i v a i = v := by simp [up2]
theorem up2_nj {α : Type} {f : Nat → Nat → α} {a i b j : Nat} {v : α} (h : j ≠ i) : up2 f a i v b j = f b j := by simp [up2, h]
def inR (z : Int) : Prop := -2147483648 ≤ z ∧ z < 2147483648
def inL (z : Int) : Prop := -9223372036854775808 ≤ z ∧ z < 9223372036854775808
def isRefT (ty : FieldType) : Bool := match ty with
  | .object _ => true
  | .array _ => true
  | _ => false
def tyC : Nat → Nat → FieldType := fun c => match c with
  | 0 => tyX0
  | 1 => tyX1
  | 2 => tyX2
  | 3 => tyX3
  | 4 => tyX4
  | 5 => tyX5
  | _ => tyX6
def nFC : Nat → Nat := fun c => match c with
  | 0 => 1
  | 1 => 3
  | 2 => 8
  | 3 => 10
  | 4 => 13
  | 5 => 10
  | _ => 25
def ekT : Nat → FieldType := fun k => match k with
  | 0 => .int
  | 1 => .byte
  | 2 => .boolean
  | 3 => .long
  | 4 => .object "BlockingShop$Plan"
  | _ => .array .int
def fv (ρ : Nat → Nat) (P : MP) (I : MM) (i c k : Nat) : Value := if isRefT (tyC c k) then va_rf ((P i k).map ρ) else .int (Int32.ofInt (I i k))
def ar (ρ : Nat → Nat) (P : MP) (I : MM) (i ek : Nat) : (Nat → Int32) ⊕ (Nat → Int64) ⊕ (Nat → UInt32) ⊕ (Nat → UInt64) ⊕ (Nat → Option Nat) := match ek with
  | 0 => .inl (fun j => Int32.ofInt (I i j))
  | 1 => .inl (fun j => Int32.ofInt (I i j))
  | 2 => .inl (fun j => Int32.ofInt (I i j))
  | 3 => .inr (.inl (fun j => Int64.ofInt (I i j)))
  | _ => .inr (.inr (.inr (.inr (fun j => (P i j).map ρ))))
def fvs (ρ : Nat → Nat) (P : MP) (I : MM) (i c : Nat) : List Value := (List.range (nFC c)).map (fun k => fv ρ P I i c k)
def cw (κ : Nat → ClassId) (ρ : Nat → Nat) (ty : Nat → CT) (P : MP) (I : MM) (i : Nat) : va_E := match ty i with
  | .inl c => .inr (c, fvs ρ P I i c)
  | .inr (ek, n) => .inl (κ ek, n, ar ρ P I i ek)
def wl (κ : Nat → ClassId) (ρ : Nat → Nat) (ids : List Nat) (ty : Nat → CT) (P : MP) (I : MM) : va_W := ids.map (fun i => (ρ i, cw κ ρ ty P I i))
def tysK (κ : Nat → ClassId) : List (ClassId × FieldType) := [(κ 0, ekT 0), (κ 1, ekT 1), (κ 2, ekT 2), (κ 3, ekT 3), (κ 4, ekT 4), (κ 5, ekT 5)]
theorem wl_at {κ : Nat → ClassId} {ρ : Nat → Nat} {ids : List Nat} {ty : Nat → CT} {P : MP} {I : MM} {i : Nat} (h : i ∈ ids) : ∃ k : Nat, ids[k]? = some i ∧ (wl κ ρ ids ty P I)[k]? = some (ρ i, cw κ ρ ty P I i) := by
  obtain ⟨k, hk⟩ := List.getElem?_of_mem h
  exact ⟨k, hk, by simp [wl, hk]⟩
theorem wl_nd {κ : Nat → ClassId} {ρ : Nat → Nat} {ids : List Nat} {ty : Nat → CT} {P : MP} {I : MM} {A : Nat → Prop} (hD : va_D A (wl κ ρ ids ty P I)) {k j i : Nat} (hk : ids[k]? = some i) (hj : ids[j]? = some i) : k = j :=
  hD.1 k j (ρ i, cw κ ρ ty P I i) (ρ i, cw κ ρ ty P I i) (by simp [wl, hk]) (by simp [wl, hj]) rfl
theorem wl_set {κ : Nat → ClassId} {ρ : Nat → Nat} {ids : List Nat} {ty : Nat → CT} {P P' : MP} {I I' : MM} {A : Nat → Prop} (hD : va_D A (wl κ ρ ids ty P I)) {k i : Nat} {e : va_E} (hk : ids[k]? = some i) (he : cw κ ρ ty P' I' i = e) (hne : ∀ j, j ≠ i → cw κ ρ ty P' I' j = cw κ ρ ty P I j) : (wl κ ρ ids ty P I).set k (ρ i, e) = wl κ ρ ids ty P' I' := by
  apply List.ext_getElem?
  intro n
  by_cases hn : n = k
  · subst hn
    have hl : n < (wl κ ρ ids ty P I).length := by
      have := (List.getElem?_eq_some_iff.mp hk).1
      simpa [wl] using this
    rw [List.getElem?_set_self hl]
    simp [wl, hk, he]
  · rw [List.getElem?_set_ne (Ne.symm hn)]
    simp only [wl, List.getElem?_map]
    cases hj : ids[n]? with
    | none => rfl
    | some j =>
      have : j ≠ i := fun q => hn (wl_nd hD (by rw [hj, q]) hk)
      simp [hne j this]
theorem cw_neI {κ : Nat → ClassId} {ρ : Nat → Nat} {ty : Nat → CT} {P : MP} {I : MM} {i k : Nat} {v : Int} : ∀ j, j ≠ i → cw κ ρ ty P (up2 I i k v) j = cw κ ρ ty P I j := by
  intro j hj
  have h : up2 I i k v j = I j := up2_ne hj
  have h1 : ∀ c, fvs ρ P (up2 I i k v) j c = fvs ρ P I j c := fun c => by simp only [fvs, fv, h]
  have h2 : ∀ ek, ar ρ P (up2 I i k v) j ek = ar ρ P I j ek := fun ek => by
    unfold ar; split <;> simp only [h]
  unfold cw
  split <;> simp only [h1, h2]
theorem cw_neP {κ : Nat → ClassId} {ρ : Nat → Nat} {ty : Nat → CT} {P : MP} {I : MM} {i k : Nat} {v : Option Nat} : ∀ j, j ≠ i → cw κ ρ ty (up2 P i k v) I j = cw κ ρ ty P I j := by
  intro j hj
  have h : up2 P i k v j = P j := up2_ne hj
  have h1 : ∀ c, fvs ρ (up2 P i k v) I j c = fvs ρ P I j c := fun c => by simp only [fvs, fv, h]
  have h2 : ∀ ek, ar ρ (up2 P i k v) I j ek = ar ρ P I j ek := fun ek => by
    unfold ar; split <;> simp only [h]
  unfold cw
  split <;> simp only [h1, h2]
theorem fvs_at {ρ : Nat → Nat} {P : MP} {I : MM} {i c k : Nat} (h : k < nFC c) : (fvs ρ P I i c)[k]? = some (fv ρ P I i c k) := by
  simp [fvs, h]
theorem fvs_setI {ρ : Nat → Nat} {P : MP} {I : MM} {i c k : Nat} {v : Int} (hr : isRefT (tyC c k) = false) : (fvs ρ P I i c).set k (.int (Int32.ofInt v)) = fvs ρ P (up2 I i k v) i c := by
  apply List.ext_getElem?
  intro n
  by_cases hn : n < nFC c
  · by_cases hk : n = k
    · subst hk
      rw [List.getElem?_set_self (by simpa [fvs] using hn), fvs_at hn]
      simp [fv, hr, up2]
    · rw [List.getElem?_set_ne (Ne.symm hk), fvs_at hn, fvs_at hn]
      simp [fv, up2, hk]
  · rw [List.getElem?_eq_none (by simp [fvs]; omega), List.getElem?_eq_none (by simp [fvs]; omega)]
theorem fvs_setP {ρ : Nat → Nat} {P : MP} {I : MM} {i c k : Nat} {v : Option Nat} (hr : isRefT (tyC c k) = true) : (fvs ρ P I i c).set k (va_rf (v.map ρ)) = fvs ρ (up2 P i k v) I i c := by
  apply List.ext_getElem?
  intro n
  by_cases hn : n < nFC c
  · by_cases hk : n = k
    · subst hk
      rw [List.getElem?_set_self (by simpa [fvs] using hn), fvs_at hn]
      simp [fv, hr, up2]
    · rw [List.getElem?_set_ne (Ne.symm hk), fvs_at hn, fvs_at hn]
      simp [fv, up2, hk]
  · rw [List.getElem?_eq_none (by simp [fvs]; omega), List.getElem?_eq_none (by simp [fvs]; omega)]
/-! numbers -/
theorem zi_add (a b : Int) : Int32.ofInt a + Int32.ofInt b = Int32.ofInt (a + b) := by rw [Int32.ofInt_add]
theorem zi_sub (a b : Int) : Int32.ofInt a - Int32.ofInt b = Int32.ofInt (a - b) := by rw [Int32.ofInt_sub]
theorem zi_mul (a b : Int) : Int32.ofInt a * Int32.ofInt b = Int32.ofInt (a * b) := by rw [Int32.ofInt_mul]
theorem zl_add (a b : Int) : Int64.ofInt a + Int64.ofInt b = Int64.ofInt (a + b) := by rw [Int64.ofInt_add]
theorem zl_sub (a b : Int) : Int64.ofInt a - Int64.ofInt b = Int64.ofInt (a - b) := by rw [Int64.ofInt_sub]
theorem zl_mul (a b : Int) : Int64.ofInt a * Int64.ofInt b = Int64.ofInt (a * b) := by rw [Int64.ofInt_mul]
theorem zi_toInt {z : Int} (h : inR z) : (Int32.ofInt z).toInt = z := Int32.toInt_ofInt_of_le (by have := h.1; omega) (by have := h.2; omega)
theorem zl_toInt {z : Int} (h : inL z) : (Int64.ofInt z).toInt = z := Int64.toInt_ofInt_of_le (by have := h.1; omega) (by have := h.2; omega)
theorem zi_lt {a b : Int} (ha : inR a) (hb : inR b) : Int32.ofInt a < Int32.ofInt b ↔ a < b := by rw [Int32.lt_iff_toInt_lt, zi_toInt ha, zi_toInt hb]
theorem zi_le {a b : Int} (ha : inR a) (hb : inR b) : Int32.ofInt a ≤ Int32.ofInt b ↔ a ≤ b := by rw [Int32.le_iff_toInt_le, zi_toInt ha, zi_toInt hb]
theorem zi_eq {a b : Int} (ha : inR a) (hb : inR b) : Int32.ofInt a = Int32.ofInt b ↔ a = b := by rw [← Int32.toInt_inj, zi_toInt ha, zi_toInt hb]
theorem zl_lt {a b : Int} (ha : inL a) (hb : inL b) : Int64.ofInt a < Int64.ofInt b ↔ a < b := by rw [Int64.lt_iff_toInt_lt, zl_toInt ha, zl_toInt hb]
theorem zl_eq {a b : Int} (ha : inL a) (hb : inL b) : Int64.ofInt a = Int64.ofInt b ↔ a = b := by rw [← Int64.toInt_inj, zl_toInt ha, zl_toInt hb]
theorem inR0 : inR 0 := ⟨by decide, by decide⟩
theorem zi_lt0 {a : Int} (ha : inR a) : Int32.ofInt a < 0 ↔ a < 0 := zi_lt ha inR0
theorem zi_le0 {a : Int} (ha : inR a) : Int32.ofInt a ≤ 0 ↔ a ≤ 0 := zi_le ha inR0
theorem zi_ge0 {a : Int} (ha : inR a) : 0 ≤ Int32.ofInt a ↔ 0 ≤ a := zi_le inR0 ha
theorem zi_gt0 {a : Int} (ha : inR a) : 0 < Int32.ofInt a ↔ 0 < a := zi_lt inR0 ha
theorem zi_eq0 {a : Int} (ha : inR a) : Int32.ofInt a = 0 ↔ a = 0 := zi_eq ha inR0
theorem zi_nat {a : Int} (h0 : 0 ≤ a) (h1 : a < 2147483648) : (Int32.ofInt a).toNatClampNeg = a.toNat := Int32.toNatClampNeg_ofInt_of_le (by omega) (by omega)
theorem zi_in {a : Int} {n : Nat} (h0 : 0 ≤ a) (h1 : a < n) (hn : n < 2147483648) : vp_in (Int32.ofInt a) n := by
  have hr : inR a := ⟨by omega, by omega⟩
  rw [vp_in_iff, zi_toInt hr]
  exact ⟨h0, h1⟩
theorem zi_l {z : Int} (h : inR z) : (Int32.ofInt z).toInt64 = Int64.ofInt z := by
  rw [← Int64.ofInt_int32ToInt, zi_toInt h]
theorem zl_i (z : Int) : (Int64.ofInt z).toInt32 = Int32.ofInt z := by
  first | rw [Int64.toInt32_ofInt] | simp
theorem zi_0 : (0 : Int32) = Int32.ofInt 0 := rfl
