/-! THE CLASS: load of a length that the buffer has -/
abbrev mA_X5l : MI := (yX5_load, RX5, cX5_load, 3, some .int, { frames := 31, cells := 12, slots := 1040, locals := 1240 })
theorem nA_X5l : Nm mA_X5l := ⟨by decide +kernel, rfl⟩
theorem kA_X5l : LkV mA_X5l 1 := k_X5_load
section M6
variable {Γ : GG} {P : MP} {I : MM} {QG : KG} {σ κ N σ2 κ2 N2 oc n : Nat} {D : Nat → Int} {cs : List Int} {H : Nat → (Nat → Int) × List Int}
/-- what load leaves of the rest: the rows below 30, the text -/
def ldK (I J : MM) : Prop := (∀ r : Nat, r < 30 → J r = I r) ∧ J 32 = I 32 ∧ J 30 1 = 0
theorem g_load (h : CC Γ P I σ κ N σ2 κ2 N2 oc D cs n H) {T : Nat → Int} {B : Nat} (hB : I 30 1 = (B : Int)) (hB9 : B ≤ 900) {x : Nat} (hx : x ≤ B) (hT : ∀ k : Nat, k < 900 → I 32 k = b8 (T k)) (hTb : ∀ k : Nat, k < 900 → 0 ≤ T k ∧ T k ≤ 255)
    {s : Nat} (hs : 1000 ≤ s) (hw : Bw Γ P s (s + 12))
    (h1 : ∀ Γ' P' J E ce σ' κ' N' oc', lodS T x = .ok (E, ce) → RDx E 6 → RCx E ce → E 2 ≠ 0 → Kp Γ Γ' → Ra Γ' P' → (∀ r, r < 48 → P' r = P r) → ldK I J → J 30 2 = -1 → CC Γ' P' J σ' κ' N' σ2 κ2 N2 oc' (fpD E 36) ce (rmN n) (rmH (D, cs) n H) → QG Γ' (some (vI (E 2))) P' J)
    (h0 : ∀ Γ' P' J e, lodS T x = .error e → Kp Γ Γ' → Ra Γ' P' → (∀ r, r < 48 → P' r = P r) → ldK I J → J 30 2 = (e.2 : Int) → CC Γ' P' J σ κ N σ2 κ2 N2 oc D cs n H → QG Γ' (some (vI e.1)) P' J) : ClG Γ mA_X5l [vR 30, vI (x : Int)] P I QG := by
  refine clg_of nA_X5l (Nat.le_of_ble_eq_true rfl) ?_
  have hb := h.b
  have o30 := LBS_ob hb
  have hr := LBS_r hb
  refine y_iload_n 1 dX5_load_0 rfl ?_
  refine y_if_lt 12 dX5_load_1 (by decide) ⟨by omega, by omega⟩ (fun z => absurd z (by omega)) (fun _ => ?_)
  refine y_iload_n 1 dX5_load_4 rfl ?_
  refine y_aload_n 0 dX5_load_5 rfl ?_
  refine y_getI dX5_load_6 FC5 1 (by decide) rfl fl_X5_16 o30 ?_
  rw [hB]
  refine y_icmp_le 22 dX5_load_9 (by decide) ⟨by omega, by omega⟩ ⟨by omega, by omega⟩ (fun _ => ?_) (fun z => absurd z (by omega))
  refine y_aload_n 0 dX5_load_22 rfl ?_
  refine y_iconst dX5_load_23 ?_
  refine y_putI dX5_load_24 FC5 1 (by decide) rfl rfl fl_X5_16 o30 ?_
  have f1 := Bw.fsh (i := s) hw (by omega) (by omega)
  refine y_new (i := s) dX5_load_27 FC4 df4 clk_X5_35 ins_X4 ini_X4 f1 (rfs_l o30 (rfs_li rfs_nil)) (by decide) (by decide) (fun q => ?_)
  have k1 := Kp.tr (Kp.rf (Γ := Γ)) (gN_kp (q := q) (t := .inl 4) f1)
  have os := kp_n k1
  have hw1 := (Bw.mono (lo' := s + 1) (hi' := s + 12) hw (by omega) (by omega)).new (i := s) (q := q) (t := .inl 4) (by omega)
  have b1 : ∀ lo hi, s + 11 < lo → Bw Γ P lo hi → Bw (gN Γ s q (.inl 4)) (clr P s none) lo hi := fun lo hi a b => b.new (by omega)
  have iP1 : ∀ r ∈ gi Γ, clr P s none r = P r := fun r hr => clr_ne (fun e => by have := hw.1 r hr; omega)
  have iI1 : ∀ r ∈ gi Γ, r ≠ 30 → clr (up2 I 30 1 0) s 0 r = I r := fun r hr e => by rw [clr_ne (fun e => by have := hw.1 r hr; omega), up2_ne e]
  have i30 : ∀ i, i ≠ 1 → clr (up2 I 30 1 0) s 0 30 i = I 30 i := fun i hi => by rw [clr_ne (by omega), up2_nj hi]
  have i301 : clr (up2 I 30 1 0) s 0 30 1 = 0 := by rw [clr_ne (by omega), up2_eq]
  have iS : ∀ k, clr (up2 I 30 1 0) s 0 s k = 0 := fun k => clr_eq
  have lowI : ∀ r, r < 30 → clr (up2 I 30 1 0) s 0 r = I r := fun r hr => by rw [clr_ne (by omega), up2_ne (by omega)]
  have lowP : ∀ r, r < 1000 → clr P s none r = P r := fun r hr => clr_ne (by omega)
  have t32 : clr (up2 I 30 1 0) s 0 32 = I 32 := iI1 32 (LRead_a0 hr).1 (by decide)
  have o30a := o30.keep k1
  generalize clr P s none = P1 at *
  generalize clr (up2 I 30 1 0) s 0 = I1 at *
  refine y_dup dX5_load_30 rfl ?_
  refine y_callIN "BlockingShop" dX5_load_31 (g_X4 os iS (hw1.mono (by omega) (by omega)) (by omega)) kA_X4 (by decide +kernel) ⟨Nat.le_of_ble_eq_true rfl, Nat.le_of_ble_eq_true rfl⟩ rfl (rfs_l o30a (rfs_li (rfs_s os rfs_nil))) (Nat.le_of_ble_eq_true rfl) (by decide) _ rfl (fun ρ2 id2 ty2 v2 P2 I2 kp2 hh2 => ?_)
  obtain ⟨hv2, nw2, ls2, sh2, sc2⟩ := hh2
  subst hv2
  have k2 := Kp.tr k1 kp2
  have hw2 : Bw _ P2 (s + 11) (s + 12) := nw2.1 (s + 11) (s + 12) (by omega) (fun x h => (List.not_mem_nil h).elim) (hw1.mono (by omega) (by omega))
  have b2 : ∀ lo hi, s + 11 < lo → Bw Γ P lo hi → Bw _ P2 lo hi := fun lo hi a b => nw2.1 lo hi (by omega) (fun x h => (List.not_mem_nil h).elim) (b1 lo hi a b)
  have out : ∀ r ∈ gi Γ, r < s ∨ s + 12 ≤ r := fun r hr => hw.1 r hr
  have iP2 : ∀ r ∈ gi Γ, P2 r = P r := fun r hr => by rw [(nw2.2 r (by have := out r hr; omega)).1]; exact iP1 r hr
  have iI2 : ∀ r ∈ gi Γ, r ≠ 30 → I2 r = I r := fun r hr e => by rw [(nw2.2 r (by have := out r hr; omega)).2]; exact iI1 r hr e
  have e30 : I2 30 = I1 30 := (nw2.2 30 (by omega)).2
  have hr2 := hr.kp k2 (iP2 31 (LRead_ob hr).1)
  have o30b := o30.keep k2
  refine y_astore_n dX5_load_34 rfl rfl (by decide) ?_
  refine y_aload_n 0 dX5_load_35 rfl ?_
  refine y_getP dX5_load_36 FC5 0 (by decide) rfl fl_X5_12 o30b (by rw [iP2 30 o30.1]; exact LBS_p0 hb) ?_
  refine y_aload_n 2 dX5_load_39 rfl ?_
  refine y_iload_n 1 dX5_load_40 rfl ?_
  have hT2 : ∀ k : Nat, k < 900 → I2 32 k = b8 (T k) := fun k hk => by rw [iI2 32 (LRead_a0 hr).1 (by decide)]; exact hT k hk
  refine y_callVG (μ := mA_X5l) (R := fun Γ' v P' J => v = none ∧ Kp Γ Γ' ∧ (∀ lo hi, s + 11 < lo → Bw Γ P lo hi → Bw Γ' P' lo hi) ∧ (∀ r ∈ gi Γ, P' r = P r) ∧ (∀ r, r < 1000 → P' r = P r) ∧ (∀ r, r ≠ 31 → r ≠ 33 → (r < s ∨ s + 12 ≤ r) → J r = I2 r) ∧ Ob Γ' s (.inl 4) ∧ ((∃ (E : Nat → Int) (ce : List Int) (κ' N' : Nat), lodS T x = .ok (E, ce) ∧ RDx E 6 ∧ RCx E ce ∧ E 2 ≠ 0 ∧ LShop Γ' P' s κ' N' ∧ 1000 ≤ κ' ∧ SHd J s E ∧ J s 1 = E 2 ∧ CSr J κ' N' ce ∧ J 31 5 = 0 ∧ J 31 6 = -1) ∨ ∃ e : Er, lodS T x = .error e ∧ J 31 5 = e.1 ∧ e.1 ≠ 0 ∧ inR e.1 ∧ J 31 6 = (e.2 : Int))) dX5_load_41
    (g_readInto hr2 ls2 hs hw2 sc2 sh2 (by omega) hT2 hTb (fun Γ' P' J E ce κ' N' a1 a2 a3 a4 a5 a6 a7 a8 a9 a10 a11 a12 a13 a14 a15 => ⟨rfl, k2.tr a5, fun lo hi c d => a6 lo hi (Or.inl c) (b2 lo hi c d), fun r hr => by rw [a7 r (by have := out r hr; omega) (by have := out r hr; omega)]; exact iP2 r hr, fun r hr => by rw [a7 r (by omega) (by omega), (nw2.2 r (by omega)).1]; exact lowP r hr, a8, LShop_ob a9, Or.inl ⟨E, ce, κ', N', a1, a2, a3, a4, a9, by omega, a11, a12, a13, a14, a15⟩⟩)
      (fun J e a1 a2 a3 a4 a5 a6 => ⟨rfl, k2, b2, iP2, fun r hr => by rw [(nw2.2 r (by omega)).1]; exact lowP r hr, fun r c d f => a2 r c d (by omega), LShop_ob ls2, Or.inr ⟨e, a1, a3, a4, a5, a6⟩⟩))
    kA_X3r ml_X5_74 ⟨Nat.le_of_ble_eq_true rfl, Nat.le_of_ble_eq_true rfl⟩ rfl (LRead_ob hr2) rfl (rfs_l o30b (rfs_li (rfs_l (LShop_ob ls2) rfs_nil))) (Nat.le_of_ble_eq_true rfl) (by decide) _ rfl (fun ρ3 id3 ty3 v3 P3 I3 kp3 hh3 => ?_)
  obtain ⟨hv3, k3, b3, iP3, lP3, iI3, os3, end3⟩ := hh3
  subst hv3
  have eI3 : ∀ r ∈ gi Γ, r ≠ 30 → r ≠ 31 → r ≠ 33 → I3 r = I r := fun r hr a b c => (iI3 r b c (out r hr)).trans (iI2 r hr a)
  have f30 : I3 30 = I1 30 := (iI3 30 (by decide) (by decide) (by omega)).trans e30
  have ra3 := (b3 (s + 12) (s + 12) (by omega) (hw.mono (by omega) (Nat.le_refl _))).2.2
  have h3 := h.kp k3 iP3 eI3 (by rw [f30]; exact i30 8 (by decide)) (by rw [f30]; exact i30 9 (by decide))
  have hb3 := h3.b
  have hr3 := LBS_r hb3
  have p30 := LBS_p0 hb3
  refine y_aload_n 0 dX5_load_44 rfl ?_
  refine y_aload_n 0 dX5_load_45 rfl ?_
  refine y_getP dX5_load_46 FC5 0 (by decide) rfl fl_X5_12 (LBS_ob hb3) p30 ?_
  refine y_getI dX5_load_49 FC3 6 (by decide) rfl fl_X5_78 (LRead_ob hr3) ?_
  refine y_putI dX5_load_52 FC5 2 (by decide) rfl rfl fl_X5_20 (LBS_ob hb3) ?_
  have h4 := h3.kp (J := up2 I3 30 2 (I3 31 6)) Kp.rf (fun _ _ => rfl) (fun r _ e _ _ => up2_ne e) (up2_nj (by decide)) (up2_nj (by decide))
  have a2 : up2 I3 30 2 (I3 31 6) 30 2 = I3 31 6 := up2_eq
  have ao : ∀ r, r ≠ 30 → up2 I3 30 2 (I3 31 6) r = I3 r := fun r e => up2_ne e
  have a30 : ∀ i, i ≠ 2 → up2 I3 30 2 (I3 31 6) 30 i = I3 30 i := fun i e => up2_nj e
  have ld : ldK I (up2 I3 30 2 (I3 31 6)) := by
    refine ⟨fun r hr => ?_, ?_, ?_⟩
    · rw [ao r (by omega), iI3 r (by omega) (by omega) (by omega), (nw2.2 r (by omega)).2]; exact lowI r hr
    · rw [ao 32 (by decide), iI3 32 (by decide) (by decide) (by omega), (nw2.2 32 (by omega)).2]; exact t32
    · rw [a30 1 (by decide), f30]; exact i301
  generalize up2 I3 30 2 (I3 31 6) = A at *
  refine y_aload_n 0 dX5_load_55 rfl ?_
  refine y_getP dX5_load_56 FC5 0 (by decide) rfl fl_X5_12 (LBS_ob hb3) p30 ?_
  refine y_getI dX5_load_59 FC3 5 (by decide) rfl fl_X5_79 (LRead_ob hr3) ?_
  have a31 : A 31 = I3 31 := ao 31 (by decide)
  rcases end3 with ⟨E, ce, κ', N', l1, l2, l3, l4, l5, l6, l7, l8, l9, l10, l11⟩ | ⟨e, l1, l2, l3, l4, l5⟩
  · refine y_if_eq 73 dX5_load_62 (by decide) (by rw [a31, l10]; exact ⟨by decide, by decide⟩) (fun _ => ?_) (fun z => absurd (by rw [a31]; exact l10) z)
    refine y_aload_n 0 dX5_load_73 rfl ?_
    refine y_Vp (μ := mA_X5l) dX5_load_74 (b_remember (Rp := fun P4 J => ∃ oc1, (∀ r, (r < 30 ∨ (30 < r ∧ r < 80) ∨ 104 ≤ r) → J r = A r) ∧ (∀ i, i ≠ 8 → i ≠ 9 → J 30 i = A 30 i) ∧ (∀ r, (r < 80 ∨ 104 ≤ r) → P4 r = P3 r) ∧ CC _ P4 J σ κ N σ2 κ2 N2 oc1 D cs (rmN n) (rmH (D, cs) n H)) h4 (fun P4 J oc1 r1 r2 r3 r4 => ⟨oc1, r1, r2, r3, r4⟩)) k_X5_remember ml_X5_82 ⟨Nat.le_of_ble_eq_true rfl, Nat.le_of_ble_eq_true rfl⟩ ⟨rfl, rfl⟩ (by decide) rfl (LBS_ob hb3) rfl (Nat.le_of_ble_eq_true rfl) _ rfl (fun P4 J4 hq => ?_)
    obtain ⟨oc1, r1, r2, r3, h5⟩ := hq
    have lo : ∀ r, (r < 30 ∨ (30 < r ∧ r < 80) ∨ 104 ≤ r) → J4 r = A r := r1
    have i4 : ∀ r, 104 ≤ r → J4 r = I3 r := fun r hr => (r1 r (Or.inr (Or.inr hr))).trans (ao r (by omega))
    have ls5 : LShop _ P4 s κ' N' := l5.keep (r3 s (by omega))
    refine y_aload_n 0 dX5_load_77 rfl ?_
    refine y_getP dX5_load_78 FC5 4 (by decide) rfl fl_X5_51 (LBS_ob h5.b) (LBS_p4 h5.b) ?_
    refine y_aload_n 2 dX5_load_81 rfl ?_
    have sd5 : SHd J4 s E := by
      unfold SHd
      rw [i4 s (by omega), i4 (s + 1) (by omega), i4 (s + 2) (by omega), i4 (s + 3) (by omega), i4 (s + 4) (by omega), i4 (s + 5) (by omega), i4 (s + 6) (by omega), i4 (s + 7) (by omega), i4 (s + 8) (by omega), i4 (s + 9) (by omega)]
      exact l7
    refine y_Vp (μ := mA_X5l) dX5_load_82 (d_begin (Rp := fun P5 J5 => P5 = up2 P4 48 0 (some s) ∧ (∀ r, r ≠ 49 → r ≠ 50 → J5 r = J4 r) ∧ PR _ P5 J5 48 s κ' N' (fpD E 36) ce) h5.p.l ls5 hs l6 (by decide) sd5 (by rw [i4 s (by omega)]; exact l8) l2 l3 ⟨l9.1, fun i hi => by rw [i4 κ' (by omega)]; exact l9.2 i hi⟩ (fun P5 J5 q1 q2 q3 => ⟨q1, q2, q3⟩)) k_X1_begin ml_X5_85 ⟨Nat.le_of_ble_eq_true rfl, Nat.le_of_ble_eq_true rfl⟩ ⟨rfl, rfl⟩ (by decide) rfl (LPlan_ob h5.p.l) rfl (Nat.le_of_ble_eq_true rfl) _ rfl (fun P5 J5 hq => ?_)
    obtain ⟨e5, q2, hp5⟩ := hq
    have ne : ∀ r, r ≠ 48 → P5 r = P4 r := fun r hr => by rw [e5]; exact up2_ne hr
    have s2 := h5.1.2.1
    have hL : CL (gX (gX (gN Γ s q (.inl 4)) ρ2 id2 ty2) ρ3 id3 ty3) P5 s κ' N' σ2 κ2 N2 := by
      refine ⟨h5.b.upd (fun r _ b _ => ne r b) hp5.l ((LSch_p (LBS_t h5.b)).keep (ne 68 (by omega)) (ne σ2 (by omega))) (fun i hi => ?_), s2, fun i hi => ?_⟩
      · obtain ⟨a, b, c, d, f⟩ := h5.1.2.2 i hi
        exact ⟨a, b, c, d.keep (ne _ (by omega)) (ne a (by omega))⟩
      · obtain ⟨a, b, c, d, f⟩ := h5.1.2.2 i hi
        exact ⟨a, b, c, d.keep (ne _ (by omega)) (ne a (by omega)), f⟩
    have hg : GN (fpD E 36) ce := (fpD_ok (l2.wr l3) l2.nd 36 (Nat.le_refl _)).gn (l2.wr l3) l2.nd l3.rc
    have hch : CH (gX (gX (gN Γ s q (.inl 4)) ρ2 id2 ty2) ρ3 id3 ty3) P5 J5 (rmN n) oc1 (rmH (D, cs) n H) := h5.ch.keep (fun r hr => ne r (by omega)) (fun r hr => q2 r (by omega) (by omega)) ⟨by rw [q2 30 (by decide) (by decide)], by rw [q2 30 (by decide) (by decide)]⟩
    refine y_aload_n 0 dX5_load_85 rfl ?_
    refine y_getP dX5_load_86 FC5 3 (by decide) rfl fl_X5_43 (LBS_ob hL.1) (LBS_p3 hL.1) ?_
    refine y_Vi (μ := mA_X5l) dX5_load_89 (b_settle (R := fun _ K => cpO 40 J5 K ∧ CC _ P5 K s κ' N' σ2 κ2 N2 oc1 (fpD E 36) ce (rmN n) (rmH (D, cs) n H)) hL hp5 hg hch (fun z K fK hC2 => ⟨fK, hC2⟩)) k_X2_compute ml_X5_88 ⟨Nat.le_of_ble_eq_true rfl, Nat.le_of_ble_eq_true rfl⟩ ⟨rfl, rfl⟩ (by decide) rfl (LSch_ob (LBS_s hL.1)) rfl (Nat.le_of_ble_eq_true rfl) _ rfl (fun z K hq => ?_)
    obtain ⟨fK, h6⟩ := hq
    have kk : ∀ r, (r < 30 ∨ (30 < r ∧ r < 40) ∨ 104 ≤ r) → K r = A r := fun r hr => by rw [fK r (by omega) (by omega) (by omega) (by omega), q2 r (by omega) (by omega), r1 r (by omega)]
    have k30 : ∀ i, i ≠ 8 → i ≠ 9 → K 30 i = A 30 i := fun i a b => by rw [fK 30 (by decide) (by decide) (by decide) (by decide), q2 30 (by decide) (by decide), r2 i a b]
    refine y_pop dX5_load_92 rfl ?_
    refine y_aload_n 2 dX5_load_93 rfl ?_
    refine y_getI dX5_load_94 FC4 1 (by decide) rfl fl_X5_92 (LShop_ob ls5) ?_
    have ev : K s 1 = E 2 := by rw [kk s (by omega), ao s (by omega)]; exact l8
    rw [ev]
    have ra5 : Ra (gX (gX (gN Γ s q (.inl 4)) ρ2 id2 ty2) ρ3 id3 ty3) P5 := fun j hj ek m ht h4 => by
      obtain ⟨a, b⟩ := ra3 j hj ek m ht h4
      exact ⟨a, fun k hk => by rw [ne j (by omega), r3 j (by omega)]; exact b k hk⟩
    exact y_iret dX5_load_97 rfl (by decide) (by decide) k3 (h1 _ P5 K E ce s κ' N' oc1 l1 l2 l3 l4 k3 ra5 (fun r hr => by rw [ne r (by omega), r3 r (by omega)]; exact lP3 r (by omega)) ⟨fun r hr => by rw [kk r (Or.inl hr)]; exact ld.1 r hr, by rw [kk 32 (by decide)]; exact ld.2.1, by rw [k30 1 (by decide) (by decide)]; exact ld.2.2⟩ (by rw [k30 2 (by decide) (by decide), a2]; exact l11) h6)
  · refine y_if_eq 73 dX5_load_62 (by decide) (by rw [a31, l2]; exact l4) (fun z => absurd ((show A 31 5 = e.1 by rw [a31]; exact l2).symm.trans z) l3) (fun _ => ?_)
    refine y_aload_n 0 dX5_load_65 rfl ?_
    refine y_getP dX5_load_66 FC5 0 (by decide) rfl fl_X5_12 (LBS_ob hb3) p30 ?_
    refine y_getI dX5_load_69 FC3 5 (by decide) rfl fl_X5_79 (LRead_ob hr3) ?_
    rw [a31, l2]
    exact y_iret dX5_load_72 rfl (by decide) (by decide) k3 (h0 _ P3 A e l1 k3 ra3 (fun r hr => lP3 r (by omega)) ld (by rw [a2]; exact l5) h4)
end M6
