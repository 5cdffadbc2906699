/-! Arrays.copyOf of a part, and a reference returned -/
section XG
variable {Γ0 Γ : GG} {μ ν : MI} {cells slots pc : Nat} {al al' : List (Nat × AV)} {st as : List AV} {P : MP} {I : MM} {Q : KT} {QG R : KG}
theorem y_aret {i : Nat} {ρ : Nat → Nat} {ids : List Nat} {ty : Nat → CT} {rt : FieldType} (hd : decode μ.2.2.1 pc = .ok (.areturn, 1)) (hr : μ.2.2.2.2.1 = some rt) (hrt : (∃ n, rt = .object n) ∨ ∃ t, rt = .array t) (hc : cells ≤ μ.2.2.2.2.2.cells) (hs : slots ≤ μ.2.2.2.2.2.slots) (hkp : Kp Γ0 (gX Γ0 ρ ids ty)) (hq : QG (gX Γ0 ρ ids ty) (some (vR i)) P I) : XP Γ0 (gX Γ0 ρ ids ty) μ cells slots pc al [vR i] P I (KQ Γ0 QG) := by
  intro p e s m args below meth c B H locs ls hl hK hP hD hS hX
  refine W.widen hc hs ?_
  exact W.aret (v := .ref (ρ i)) B.1.1 B.1.2.1 (B.1.2.2.2.2.2.1.trans hr) hrt (Or.inr ⟨_, rfl⟩) (fun t ht hW => kq_of (v := some (vR i)) hkp hq ht hW hK hP hD hS) hS.2.2 hd B.1.2.2.2.2.2.2
end XG
abbrev mA_J7 : MI := (yJ7_copyOf_59c91, RJ7, cJ7_copyOf_59c91, 3, some (.array .int), { frames := 3, cells := 1, slots := 900, locals := 120 })
theorem nA_J7 : Nm mA_J7 := ⟨by decide +kernel, rfl⟩
theorem kA_J7 : LkS mA_J7 2 := k_J7_copyOf_59c91
theorem g_copyOf {Γ : GG} {P : MP} {I : MM} {a b n : Nat} (ha : Ob Γ a (.inr (0, 900))) (hn : n < 900) (hB : Bw Γ P b (b + 1)) (hz : 701 ≤ b) :
    ClG Γ mA_J7 [vR a, vI (n : Int)] P I (fun Γ' v P' I' => v = some (vR b) ∧ Ob Γ' b (.inr (0, n)) ∧ (∀ lo hi, (b < lo ∨ hi ≤ b) → Bw Γ P lo hi → Bw Γ' P' lo hi) ∧ (∀ j, j ≠ b → P' j = P j ∧ I' j = I j) ∧ ∀ k, k < n → I' b k = I a k) := by
  refine clg_of nA_J7 (Nat.le_of_ble_eq_true rfl) ?_
  have hab : a ≠ b := by have := ob_bw ha hB; omega
  refine y_iload_n 1 dJ7_copyOf_59c91_0 rfl ?_
  refine y_aload_n 0 dJ7_copyOf_59c91_1 rfl ?_
  refine y_alen dJ7_copyOf_59c91_2 ha (by decide) ?_
  refine y_icmp_ne 14 dJ7_copyOf_59c91_3 (by decide) ⟨by omega, by omega⟩ ⟨by decide, by decide⟩ (fun _ => ?_) (fun z => absurd z (by omega))
  refine y_iload_n 1 dJ7_copyOf_59c91_14 rfl ?_
  have f1 := Bw.fsh (i := b) hB (by omega) (by omega)
  have nn : ((n : Int)).toNat = n := by omega
  refine y_newarr (i := b) (ek := 0) (atype := .int) dJ7_copyOf_59c91_15 (by decide) rfl arw_int (by omega) (by omega) f1 (rfs_l ha (rfs_li rfs_nil)) (by decide) (by rw [nn]; show 0 + n ≤ 900; omega) (fun q => ?_)
  rw [nn]
  have hk := Kp.tr (Kp.rf (Γ := Γ)) (gN_kp (q := q) (t := .inr (0, n)) f1)
  have ob := kp_n hk
  have oa := ob_new (j := b) (q := q) (t := .inr (0, n)) ha hab
  refine y_astore_n dJ7_copyOf_59c91_17 rfl rfl (by decide) ?_
  refine y_aload_n 0 dJ7_copyOf_59c91_18 rfl ?_
  refine y_iconst dJ7_copyOf_59c91_19 ?_
  refine y_aload_n 2 dJ7_copyOf_59c91_20 rfl ?_
  refine y_iconst dJ7_copyOf_59c91_21 ?_
  refine y_aload_n 0 dJ7_copyOf_59c91_22 rfl ?_
  refine y_alen dJ7_copyOf_59c91_23 oa (by decide) ?_
  refine y_iload_n 1 dJ7_copyOf_59c91_24 rfl ?_
  refine y_mmin dJ7_copyOf_59c91_25 ml_J7_304 mth_min.1 mth_min.2.1 mth_min.2.2 ⟨Nat.le_of_ble_eq_true rfl, Nat.le_of_ble_eq_true rfl⟩ ⟨Nat.le_of_ble_eq_true rfl, by rw [Nat.zero_add]; show n ≤ 900; omega⟩ ⟨by decide, by decide⟩ ⟨by omega, by omega⟩ ?_
  have hmin : min ((900 : Nat) : Int) (n : Int) = (n : Int) := by omega
  rw [hmin]
  refine y_acopy (n := n) dJ7_copyOf_59c91_28 (inU 682 (by decide +kernel) rfl) cpw.1 cpw.2.1 cpw.2.2 oa ob (by omega) (Nat.le_refl _) (by omega) ⟨Nat.le_of_ble_eq_true rfl, Nat.le_of_ble_eq_true rfl⟩ ?_
  refine y_aload_n 2 dJ7_copyOf_59c91_31 rfl ?_
  refine y_aret dJ7_copyOf_59c91_32 rfl (Or.inr ⟨_, rfl⟩) (by decide) (by rw [Nat.zero_add]; show n ≤ 900; omega) hk ⟨rfl, ob, fun lo hi h1 hb => hb.new h1, fun j hj => ⟨clr_ne hj, ?_⟩, fun k hk => ?_⟩
  · funext k
    unfold cp2
    rw [if_neg hj, clr_ne hj]
  · unfold cp2
    rw [if_pos rfl, if_pos hk, clr_ne hab]
