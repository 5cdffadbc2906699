/-! THE CLASS: append -/
def wB (w : Int) (k : Nat) : Int := if k = 0 then b8 (w % 4294967296 / 16777216) else if k = 1 then b8 (w % 4294967296 / 65536) else if k = 2 then b8 (w % 4294967296 / 256) else b8 w
def wBs (w0 w1 w2 w3 w4 : Int) (k : Nat) : Int := wB (if k < 4 then w0 else if k < 8 then w1 else if k < 12 then w2 else if k < 16 then w3 else w4) (k % 4)
theorem wBs_eq (w0 w1 w2 w3 w4 : Int) (k : Nat) (hk : k < 20) : wBs w0 w1 w2 w3 w4 k = b8 (byW w0 w1 w2 w3 w4 k) := by
  unfold wBs byW
  generalize (if k < 4 then w0 else if k < 8 then w1 else if k < 12 then w2 else if k < 16 then w3 else w4) = w
  have h4 : k % 4 = 0 ∨ k % 4 = 1 ∨ k % 4 = 2 ∨ k % 4 = 3 := by omega
  unfold wB b8
  rcases h4 with h | h | h | h
  · rw [h]; simp only [if_true]
    show _ = (w / ((16777216 : Nat) : Int) % 256 + 128) % 256 - 128
    omega
  · rw [h]; simp only [Nat.one_ne_zero, if_false, if_true]
    show _ = (w / ((65536 : Nat) : Int) % 256 + 128) % 256 - 128
    omega
  · rw [h]
    show (w % 4294967296 / 256 + 128) % 256 - 128 = (w / ((256 : Nat) : Int) % 256 + 128) % 256 - 128
    omega
  · rw [h]
    show (w + 128) % 256 - 128 = (w / ((1 : Nat) : Int) % 256 + 128) % 256 - 128
    omega
section M2
variable {Γ : GG} {P : MP} {I : MM} {R : Int → MM → Prop} {Rv : MM → Prop} {σ κ N σ2 κ2 N2 : Nat}
theorem b_putWord (hb : LBS Γ P σ κ N σ2 κ2 N2) {a : Nat} {x w : Int} (hx : x = (a : Int)) (ha : a ≤ 896) (h : ∀ J, (∀ r, r ≠ 32 → J r = I r) → (∀ k, J 32 k = if a ≤ k ∧ k < a + 4 then wB w (k - a) else I 32 k) → Rv J) : Cl Γ m_X5_putWord [vR 30, vI x, vI w] P I (rv P Rv) := by
  subst hx
  refine cl_of n_X5_putWord (Nat.le_of_ble_eq_true rfl) (t_X5_putWord_0 hb ⟨⟨by omega, by omega⟩, fun z => absurd z (by omega), fun _ => ⟨fun _ => ⟨by omega, by omega, (b8_b _).1, by have := (b8_b (w % 4294967296 / 16777216)).2; omega, ?_⟩, fun z => absurd z (by omega)⟩⟩)
  intro I1 e1
  refine ⟨by omega, by omega, (b8_b _).1, by have := (b8_b (w % 4294967296 / 65536)).2; omega, ?_⟩
  intro I2 e2
  refine ⟨by omega, by omega, (b8_b _).1, by have := (b8_b (w % 4294967296 / 256)).2; omega, ?_⟩
  intro I3 e3
  refine ⟨by omega, by omega, (b8_b _).1, by have := (b8_b w).2; omega, ?_⟩
  intro I4 e4
  refine h I4 (fun r hr => by rw [e4, up2_ne hr, e3, up2_ne hr, e2, up2_ne hr, e1, up2_ne hr]) (fun k => ?_)
  have n0 : ((a : Int)).toNat = a := by omega
  have n1 : ((a : Int) + 1).toNat = a + 1 := by omega
  have n2 : ((a : Int) + 2).toNat = a + 2 := by omega
  have n3 : ((a : Int) + 3).toNat = a + 3 := by omega
  rw [n3] at e4
  rw [n2] at e3
  rw [n1] at e2
  rw [n0] at e1
  by_cases hk : a ≤ k ∧ k < a + 4
  · rw [if_pos hk]
    have : k = a ∨ k = a + 1 ∨ k = a + 2 ∨ k = a + 3 := by omega
    rcases this with rfl | rfl | rfl | rfl
    · rw [e4, up2_nj (by omega), e3, up2_nj (by omega), e2, up2_nj (by omega), e1, up2_eq, Nat.sub_self]
      rfl
    · rw [e4, up2_nj (by omega), e3, up2_nj (by omega), e2, up2_eq, Nat.add_sub_cancel_left]
      rfl
    · rw [e4, up2_nj (by omega), e3, up2_eq, Nat.add_sub_cancel_left]
      rfl
    · rw [e4, up2_eq, Nat.add_sub_cancel_left]
      rfl
  · rw [if_neg hk, e4, up2_nj (by omega), e3, up2_nj (by omega), e2, up2_nj (by omega), e1, up2_nj (by omega)]
theorem b_append (hb : LBS Γ P σ κ N σ2 κ2 N2) {B : Nat} (hB : I 30 1 = (B : Int)) (hB9 : B ≤ 900) {w0 w1 w2 w3 w4 : Int}
    (hy : B + 20 ≤ 900 → ∀ J, (∀ r, r ≠ 30 → r ≠ 32 → J r = I r) → (∀ i, i ≠ 1 → J 30 i = I 30 i) → J 30 1 = ((B + 20 : Nat) : Int) → (∀ k, J 32 k = if B ≤ k ∧ k < B + 20 then b8 (byW w0 w1 w2 w3 w4 (k - B)) else I 32 k) → R ((B + 20 : Nat) : Int) J)
    (hn : ¬ B + 20 ≤ 900 → R (-1) I) : Cl Γ m_X5_append [vR 30, vI w0, vI w1, vI w2, vI w3, vI w4] P I (ri P R) := by
  refine cl_of n_X5_append (Nat.le_of_ble_eq_true rfl) (t_X5_append_0 hb ?_)
  rw [hB]
  refine ⟨⟨by omega, by omega⟩, fun z => ?_, fun z => hn (by omega)⟩
  refine b_putWord hb rfl (by omega) (fun I1 f1 g1 => ?_)
  have b1 : I1 30 1 = (B : Int) := by rw [f1 30 (by decide)]; exact hB
  refine b_putWord (a := B + 4) hb (by rw [b1]; omega) (by omega) (fun I2 f2 g2 => ?_)
  have b2 : I2 30 1 = (B : Int) := by rw [f2 30 (by decide)]; exact b1
  refine b_putWord (a := B + 8) hb (by rw [b2]; omega) (by omega) (fun I3 f3 g3 => ?_)
  have b3 : I3 30 1 = (B : Int) := by rw [f3 30 (by decide)]; exact b2
  refine b_putWord (a := B + 12) hb (by rw [b3]; omega) (by omega) (fun I4 f4 g4 => ?_)
  have b4 : I4 30 1 = (B : Int) := by rw [f4 30 (by decide)]; exact b3
  refine b_putWord (a := B + 16) hb (by rw [b4]; omega) (by omega) (fun I5 f5 g5 => ?_)
  have b5 : I5 30 1 = (B : Int) := by rw [f5 30 (by decide)]; exact b4
  intro I6 e6
  have v6 : I6 30 1 = ((B + 20 : Nat) : Int) := by rw [e6, up2_eq, b5]; omega
  rw [v6]
  refine hy (by omega) I6 (fun r h1 h2 => by rw [e6, up2_ne h1, f5 r h2, f4 r h2, f3 r h2, f2 r h2, f1 r h2]) (fun i hi => by rw [e6, up2_nj hi, f5 30 (by decide), f4 30 (by decide), f3 30 (by decide), f2 30 (by decide), f1 30 (by decide)]) v6 (fun k => ?_)
  rw [e6, up2_ne (by decide), g5 k, g4 k, g3 k, g2 k, g1 k]
  by_cases hk : B ≤ k ∧ k < B + 20
  · rw [if_pos hk, ← wBs_eq w0 w1 w2 w3 w4 (k - B) (by omega)]
    unfold wBs
    by_cases c1 : k < B + 4
    · rw [if_neg (by omega), if_neg (by omega), if_neg (by omega), if_neg (by omega), if_pos (by omega), if_pos (show k - B < 4 by omega), Nat.mod_eq_of_lt (show k - B < 4 by omega)]
    · by_cases c2 : k < B + 8
      · rw [if_neg (by omega), if_neg (by omega), if_neg (by omega), if_pos (by omega), if_neg (show ¬ k - B < 4 by omega), if_pos (show k - B < 8 by omega), show (k - B) % 4 = k - (B + 4) by omega]
      · by_cases c3 : k < B + 12
        · rw [if_neg (by omega), if_neg (by omega), if_pos (by omega), if_neg (show ¬ k - B < 4 by omega), if_neg (show ¬ k - B < 8 by omega), if_pos (show k - B < 12 by omega), show (k - B) % 4 = k - (B + 8) by omega]
        · by_cases c4 : k < B + 16
          · rw [if_neg (by omega), if_pos (by omega), if_neg (show ¬ k - B < 4 by omega), if_neg (show ¬ k - B < 8 by omega), if_neg (show ¬ k - B < 12 by omega), if_pos (show k - B < 16 by omega), show (k - B) % 4 = k - (B + 12) by omega]
          · rw [if_pos (by omega), if_neg (show ¬ k - B < 4 by omega), if_neg (show ¬ k - B < 8 by omega), if_neg (show ¬ k - B < 12 by omega), if_neg (show ¬ k - B < 16 by omega), show (k - B) % 4 = k - (B + 16) by omega]
  · rw [if_neg hk, if_neg (by omega), if_neg (by omega), if_neg (by omega), if_neg (by omega), if_neg (by omega)]
end M2
