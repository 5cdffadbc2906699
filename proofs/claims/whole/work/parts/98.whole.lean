/-! THE LAW: loop, prologue, whole_start -/
theorem lw_retA {p : Program} {l : Launch} {e : Env} {s : State} {m : MethodId} {args : Array Value} {below : List Frame} {meth : Method} {c : Code} (hx : p.tables.exec = Jvm.exec) (hb : c.code = code) (hr : meth.sig.returnType = ret) (hlocks : meth.locks = false) {pc : Nat} {H : Heap} {ls : Array Slot} (hdg : decode code pc = .ok (.ireturn, 1)) : W p l e room_1 s m args below meth c H [] 601024 7293034 (lw_Z below args s) (F0 m pc ls [.int 1]) := by
  intro T hT X
  obtain ⟨fs, hret, hrun, hended, hW, hframe⟩ := X.leave (v := some (.int 1)) (hlocks := hlocks) (fun h => by rw [hr] at h; cases h)
  have hmeth' : T.vm.method? m = some meth := X.method'
  refine ⟨T.setFrames fs, ?_, .returned (some (.int 1)), hrun, hended, rfl, ⟨_, rfl⟩, hW, hframe⟩
  jvm_step X.here [X.here.top, hx, hb, hdg, hmeth', hr, ret, narrow_b1]
  (try refine ⟨rfl, ?_⟩); (try refine ⟨rfl, ?_⟩)
  first | (intro acts; rw [hret _ acts rfl rfl rfl]) | rw [hret _ _ rfl rfl rfl]
  exact Steps.refl _
abbrev ZL : ET := fun below args s => lw_Z below args s
section LL
variable {Γ0 : GG}
theorem y_lawret {Γ : GG} {c s : Nat} {al : List (Nat × AV)} {P : MP} {I : MM} (h0 : gi Γ0 = []) (hc : c ≤ 601024) (hs : s ≤ 7293034) : XE none Γ0 Γ mLAW c s 1516 al [vI 1] P I ZL := by
  intro p e s m args below meth c B H locs ls hl hK hP hD hS hX
  refine W.widen (show _ ≤ 601024 from hc) (show _ ≤ 7293034 from hs) ?_
  refine va_forget (fun q hq => (hS.2.2 q hq).elim (fun ⟨i, hi, _⟩ => by rw [h0] at hi; cases hi) id) ?_
  exact lw_retA B.1.1 B.1.2.1 B.1.2.2.2.2.2.1 B.1.2.2.2.2.2.2 dL_law_1516
theorem lw_loop (h0 : gi Γ0 = []) (h9 : (gl Γ0).stackTraces = false) (hL : (gs Γ0).1 ≤ 3072) (rng : ∀ j, inR ((gs Γ0).2 j)) : ∀ (f k : Nat), (gs Γ0).1 < 6 * (k + f) + 6 → k ≤ 512 → ∀ (ρ : Nat → Nat) (ids : List Nat) (ty : Nat → CT) (P : MP) (I : MM), INV (gX Γ0 ρ ids ty) P I → XE none Γ0 (gX Γ0 ρ ids ty) mLAW (100 + 20 * k) (30000 + 1200 * k) 23 (al0 ((6 * k : Nat) : Int)) [] P I ZL := by
  intro f
  induction f with
  | zero =>
    intro k hk hk2 ρ ids ty P I hv
    refine y_iload 4 dL_law_23 rfl ?_
    refine y_aload_n 0 dL_law_25 rfl ?_
    refine y_slen dL_law_26 ?_
    refine y_bipush dL_law_27 rfl ?_
    refine y_isub dL_law_29 ?_
    refine y_icmp_gt 1515 dL_law_30 (by decide) ⟨by omega, by omega⟩ ⟨(show -2147483648 ≤ ((gs Γ0).1 : Int) - 6 by omega), (show ((gs Γ0).1 : Int) - 6 < 2147483648 by omega)⟩ (fun _ => ?_) (fun z => absurd (show ((gs Γ0).1 : Int) - 6 < ((6 * k : Nat) : Int) by omega) z)
    refine y_iconst dL_law_1515 ?_
    exact y_lawret h0 (by omega) (by omega)
  | succ f ih =>
    intro k hk hk2 ρ ids ty P I hv
    refine y_iload 4 dL_law_23 rfl ?_
    refine y_aload_n 0 dL_law_25 rfl ?_
    refine y_slen dL_law_26 ?_
    refine y_bipush dL_law_27 rfl ?_
    refine y_isub dL_law_29 ?_
    refine y_icmp_gt 1515 dL_law_30 (by decide) ⟨by omega, by omega⟩ ⟨(show -2147483648 ≤ ((gs Γ0).1 : Int) - 6 by omega), (show ((gs Γ0).1 : Int) - 6 < 2147483648 by omega)⟩ (fun _ => ?_) (fun z => ?_)
    · refine y_iconst dL_law_1515 ?_
      exact y_lawret h0 (by omega) (by omega)
    · have z2 : ¬ ((gs Γ0).1 : Int) - 6 < ((6 * k : Nat) : Int) := z
      refine lw_switch h9 hL rng (by omega) (by omega) (by omega) (by omega) hv (fun ρ1 id1 ty1 P1 I1 hv1 => ?_)
      refine y_iinc 4 dL_law_1509 rfl rfl rfl (by decide) ?_
      refine y_goto 23 dL_law_1512 (by decide) ?_
      have nx := ih (k + 1) (by omega) (by omega) ρ1 id1 ty1 P1 I1 hv1
      rw [show ((6 * (k + 1) : Nat) : Int) = ((6 * k : Nat) : Int) + 6 by omega, show 100 + 20 * (k + 1) = 100 + 20 * k + 20 by omega, show 30000 + 1200 * (k + 1) = 30000 + 1200 * k + 1200 by omega] at nx
      exact nx
theorem LM.kp3 {Γ Γ' : GG} {P P' : MP} (h : LM Γ P) (k : Kp Γ Γ') (e1 : P' 1 = P 1) (e6 : P' 6 = P 6) : LM Γ' P' :=
  ⟨(LM_ob h).keep k, by rw [e1]; exact LM_p1 h, (LM_a1 h).keep k, by rw [e1]; exact LM_p8 h, (LM_a8 h).keep k, by rw [e1]; exact LM_p9 h, (LM_a9 h).keep k, by rw [e1]; exact LM_p10 h, (LM_a10 h).keep k, by rw [e1]; exact LM_p16 h, (LM_a16 h).keep k, by rw [e1]; exact LM_p17 h, (LM_a17 h).keep k, by rw [e1]; exact LM_p18 h, (LM_a18 h).keep k, by rw [e1]; exact LM_p19 h, (LM_a19 h).keep k, by rw [e1]; exact LM_p20 h, (LM_a20 h).keep k, by rw [e1]; exact LM_p23 h, (LM_a23 h).keep k, by rw [e1]; exact LM_p11 h, (LM_a11 h).keep k, fun i hi => ⟨by rw [e6]; exact (LM_hh h i hi).1, (LM_hh h i hi).2.keep k⟩⟩
theorem bw_0 {P : MP} (h0 : gi Γ0 = []) (lo hi : Nat) : Bw Γ0 P lo hi := ⟨(fun x hx => by rw [h0] at hx; cases hx), (fun j hj => by rw [h0] at hj; cases hj), (fun j hj => by rw [h0] at hj; cases hj)⟩
theorem lw_main (h0 : gi Γ0 = []) (h9 : (gl Γ0).stackTraces = false) (hL : (gs Γ0).1 ≤ 3072) (rng : ∀ j, inR ((gs Γ0).2 j)) : XE none Γ0 Γ0 mLAW 0 0 0 [(0, vR 650)] [] (fun _ _ => none) (fun _ _ => 0) ZL := by
  have b0 := bw_0 (Γ0 := Γ0) (P := fun _ _ => none) h0
  have f1 := Bw.fsh (i := 30) (b0 0 100) (by omega) (by omega)
  refine y_new (i := 30) dL_law_0 FC5 df5 clL_8 ins_X5 ini_X5 f1 (rfs_650 rfs_nil) (by decide) (by decide) (fun q1 => ?_)
  have k1 := gN_kp (q := q1) (t := .inl 5) f1
  have o30 := kp_n k1
  refine y_dup dL_law_3 rfl ?_
  have n1 : ∀ lo hi : Nat, (30 < lo ∨ hi ≤ 30) → Bw (gN Γ0 30 q1 (.inl 5)) (clr (fun _ _ => none) 30 none) lo hi := fun lo hi h => (b0 lo hi).new (by omega)
  refine y_callI (μ := mLAW) dL_law_4 (g_X5 o30 (fun k => clr_eq) (n1 31 200 (by omega)) (n1 1000 1012 (by omega))) kA_X5 mlL_72 ⟨Nat.le_of_ble_eq_true rfl, Nat.le_of_ble_eq_true rfl⟩ rfl (rfs_650 (rfs_s o30 rfs_nil)) (Nat.le_of_ble_eq_true rfl) (by decide) _ rfl (fun ρ2 id2 ty2 v2 P2 I2 kp2 hh2 => ?_)
  obtain ⟨hv2, Ii, hIi, lx⟩ := hh2
  subst hv2
  have hIi := hIi.symm
  subst hIi
  have lx' := lx
  obtain ⟨-, tb2, lw2, o30b, -⟩ := lx
  refine y_astore_n dL_law_7 rfl rfl (by decide) ?_
  have n2 : ∀ lo hi : Nat, hi ≤ 30 → Bw _ P2 lo hi := fun lo hi h => tb2 lo hi (by omega) (n1 lo hi (by omega))
  have f3 := Bw.fsh (i := 1) (n2 1 30 (by omega)) (by omega) (by omega)
  refine y_new (i := 1) dL_law_8 FC6 df6 clL_73 ins_X6 ini_X6 f3 (rfs_650 (rfs_l o30b rfs_nil)) (by decide) (by decide) (fun q3 => ?_)
  have k3 := gN_kp (q := q3) (t := .inl 6) f3
  have o1 := kp_n k3
  refine y_dup dL_law_11 rfl ?_
  refine y_callI (μ := mLAW) dL_law_12 (g_X6 o1 (fun k => clr_eq) ((n2 2 21 (by omega)).new (by omega))) kA_X6 mlL_75 ⟨Nat.le_of_ble_eq_true rfl, Nat.le_of_ble_eq_true rfl⟩ rfl (rfs_650 (rfs_l (o30b.keep k3) (rfs_s o1 rfs_nil))) (Nat.le_of_ble_eq_true rfl) (by decide) _ rfl (fun ρ4 id4 ty4 v4 P4 I4 kp4 hh4 => ?_)
  obtain ⟨hv4, -, tb4, fr4, lm4, zr4, e17, z1⟩ := hh4
  subst hv4
  refine y_astore_n dL_law_15 rfl rfl (by decide) ?_
  refine y_iconst dL_law_16 ?_
  have n4 : Bw _ P4 21 30 := tb4 21 30 (by omega) ((n2 21 30 (by omega)).new (by omega))
  have f5 := Bw.fsh (i := 21) n4 (by omega) (by omega)
  refine y_newarr (i := 21) (ek := 3) (atype := .long) dL_law_17 (by decide) rfl arw_long (by decide) (by decide) f5 (rfs_650 (rfs_l ((o30b.keep k3).keep kp4) (rfs_l (o1.keep kp4) rfs_nil))) (by decide) (by decide) (fun q5 => ?_)
  have k5 := gN_kp (q := q5) (t := .inr (3, (1 : Int).toNat)) f5
  have o21 := kp_n k5
  refine y_astore_n dL_law_19 rfl rfl (by decide) ?_
  refine y_iconst dL_law_20 ?_
  refine y_istore dL_law_21 rfl rfl (by decide) ?_
  refine y_wid (c2 := 100 + 20 * 0) (s2 := 30000 + 1200 * 0) (by decide) (by decide) ?_
  have hcc := LX5.cc lx' (fun _ => (D00, [-1]))
  have kk : Kp _ _ := (k3.tr kp4).tr k5
  have inn : ∀ r ∈ _, r < 1 ∨ 30 ≤ r := (n2 1 30 (by omega)).1
  have eP : ∀ r : Nat, (r < 1 ∨ 30 ≤ r) → clr P4 21 none r = P2 r := fun r hr => by rw [clr_ne (by omega), (fr4 r (by omega)).1, clr_ne (by omega)]
  have eI : ∀ r : Nat, (r < 1 ∨ 30 ≤ r) → clr I4 21 0 r = Ii r := fun r hr => by rw [clr_ne (by omega), (fr4 r (by omega)).2, clr_ne (by omega)]
  have hc5 := hcc.kp (J := clr I4 21 0) (P' := clr P4 21 none) kk (fun r hr => eP r (inn r hr)) (fun r hr _ _ _ => eI r (inn r hr)) (by rw [eI 30 (by omega)]) (by rw [eI 30 (by omega)])
  obtain ⟨-, -, -, -, -, -, -, -, -, -, -, -, -, -, -, -, -, v1, v2, -, -, -, -, tz⟩ := lx'
  have zz : ∀ r : Nat, 2 ≤ r → r < 21 → clr I4 21 0 r = fun _ => 0 := fun r h1 h2 => by
    funext k
    rw [clr_ne (by omega)]
    exact zr4 r k h1 h2
  have e1 : clr I4 21 0 1 = I4 1 := clr_ne (by omega)
  refine lw_loop h0 h9 hL rng 512 0 (by omega) (by omega) _ _ _ _ _ ⟨(D00, [-1], 0, fun _ => (D00, [-1]), 0, -1, fun _ => 0), ⟨lm4.kp3 k5 (clr_ne (by omega)) (clr_ne (by omega)), ⟨zz 3 (by omega) (by omega), GN_00, Nat.zero_le _, by rw [e1]; exact z1 12 (by decide), fun k hk => absurd hk (Nat.not_lt_zero _), fun q hq i _ => by rw [zz q (by omega) (by omega)]⟩, by rw [e1]; exact z1 2 (by decide), Nat.zero_le _, fun k hk => ⟨Int.le_refl _, (show (0 : Int) ≤ 255 by decide)⟩, zz 2 (by omega) (by omega), by rw [e1]; exact e17⟩, ⟨⟨_, _, _, _, _, _, _, hc5⟩, by rw [eI 30 (by omega)]; exact v1, fun k hk => by rw [eI 32 (by omega)]; exact tz k, by rw [eI 30 (by omega)]; exact v2, o21, ((n4.mono (lo' := 22) (hi' := 30) (by omega) (by omega)).new (i := 21) (q := q5) (t := .inr (3, (1 : Int).toNat)) (by omega)).2.2⟩⟩
end LL
theorem tl_m {w : Cond} (h : w ∈ lwU) : w ∈ lw_tbl := (List.mem_filter.mp h).1
set_option maxRecDepth 100000 in
/-- THE LAW, from its entry -/
theorem whole_start {p : Program} {e : Env} {s : State} {m : MethodId} {below : List Frame} {meth : Method} {c : Code} (l : Launch) (hflags : l.flags = flags0) {b L : Nat} {xs : Nat → Int32} (hL : L ≤ 3072) (C0 : lw_At p s m meth c b L xs) : W p l e room_1 s m #[Value.ref b] below meth c s.heap [] 0 0 (lw_Z below #[Value.ref b] s) (entryFrame m ([Value.ref b] : List Value).toArray 7) := by
  obtain ⟨hx, hb, hr, hml, hown, hts, hX, hbl, hlocks, hgv⟩ := id C0
  have hf : ∀ w ∈ flN, w.before #[Value.ref b] s = true := flat_of_before _ hgv
  have hst : l.stackTraces = false := by
    unfold Launch.stackTraces
    rw [hflags]
    rfl
  obtain ⟨c0, i0, K0⟩ := u_known hts inX0 (hts _ (tl_m ins_X0))
  obtain ⟨c1, i1, K1⟩ := u_known hts inX1 (hts _ (tl_m ins_X1))
  obtain ⟨c2, i2, K2⟩ := u_known hts inX2 (hts _ (tl_m ins_X2))
  obtain ⟨c3, i3, K3⟩ := u_known hts inX3 (hts _ (tl_m ins_X3))
  obtain ⟨c4, i4, K4⟩ := u_known hts inX4 (hts _ (tl_m ins_X4))
  obtain ⟨c5, i5, K5⟩ := u_known hts inX5 (hts _ (tl_m ins_X5))
  obtain ⟨c6, i6, K6⟩ := u_known hts inX6 (hts _ (tl_m ins_X6))
  obtain ⟨a0, A0, B0⟩ := st_arr (ty := .int) (hts _ (tl_m arw_int))
  obtain ⟨a1, A1, B1⟩ := st_arr (ty := .byte) (hts _ (tl_m arw_byte))
  obtain ⟨a2, A2, B2⟩ := st_arr (ty := .boolean) (hts _ (tl_m arw_boolean))
  obtain ⟨a3, A3, B3⟩ := st_arr (ty := .long) (hts _ (tl_m arw_long))
  obtain ⟨p4, a4, kk4, g41, -, g42, g43, g44⟩ := Cond.arrayOver_spec (n := "BlockingShop$Plan") (hts _ (tbl 73 (by decide +kernel)))
  obtain ⟨p5, a5, kk5, g51, -, g52, g53, g54⟩ := arrayOverA_spec (t := .int) (hts _ (tbl 906 (by decide +kernel)))
  let dC : Nat → ClassId := fun k => match k with | 0 => c0 | 1 => c1 | 2 => c2 | 3 => c3 | 4 => c4 | 5 => c5 | _ => c6
  let dI : Nat → Nat → Nat := fun k => match k with | 0 => i0 | 1 => i1 | 2 => i2 | 3 => i3 | 4 => i4 | 5 => i5 | _ => i6
  let κ : Nat → ClassId := fun k => match k with | 0 => a0 | 1 => a1 | 2 => a2 | 3 => a3 | 4 => a4 | _ => a5
  have hK : va_K (dC, dI) vwCl (tysK κ) s := by
    refine ⟨fun k q hq => ?_, fun k q hq => ?_⟩
    · match k, hq with
      | 0, hq => cases hq; exact K0
      | 1, hq => cases hq; exact K1
      | 2, hq => cases hq; exact K2
      | 3, hq => cases hq; exact K3
      | 4, hq => cases hq; exact K4
      | 5, hq => cases hq; exact K5
      | 6, hq => cases hq; exact K6
      | k + 7, hq => simp [vwCl] at hq
    · match k, hq with
      | 0, hq => cases hq; exact ⟨A0, B0⟩
      | 1, hq => cases hq; exact ⟨A1, B1⟩
      | 2, hq => cases hq; exact ⟨A2, B2⟩
      | 3, hq => cases hq; exact ⟨A3, B3⟩
      | 4, hq => cases hq; exact ⟨fun n z => ⟨(fun k h => by cases h), kk4, g42, p4, g43⟩, kk4, p4, g42, g43, g41, g44⟩
      | 5, hq => cases hq; exact ⟨fun n z => ⟨(fun k h => by cases h), kk5, g52, p5, g53⟩, g54⟩
      | k + 6, hq => simp [tysK] at hq
  have hA : ∀ a : Nat, a < s.heap.size → ¬ (fun q : Nat => (∃ i, i ∈ ([] : List Nat) ∧ (0 : Nat) = q) ∨ s.heap.size ≤ q) a := fun a ha h => h.elim (fun ⟨i, hi, _⟩ => by cases hi) (fun h2 => absurd h2 (Nat.not_le.mpr ha))
  obtain ⟨ρ, hρ, hRO⟩ := st_ro (A := fun q : Nat => (∃ i, i ∈ ([] : List Nat) ∧ (0 : Nat) = q) ∨ s.heap.size ≤ q) hf hts hX hA
  let Γ0 : GG := (l, (dC, dI), κ, ρ, [], fun _ => .inl 0, (L, fun j => (xs j).toInt))
  have hRO2 : RO (gs Γ0) (gr Γ0) (RG Γ0 s.heap.size) s s.heap := hRO.narrow (fun q hq => hq.elim (fun ⟨i, hi, _⟩ => by cases hi) Or.inr)
  have hl := lv_entry ([Value.ref b]) (n := 7) (Nat.le_of_ble_eq_true rfl)
  rw [lg_entry_eq]
  have hl2 : lv_has (lg_sl ([Value.ref b]) ++ List.replicate (7 - (lg_sl ([Value.ref b])).length) Slot.unset).toArray mLAW.2.2.2.1 (cvl (gr Γ0) [(0, vR 650)]) := by
    have e : cvl (gr Γ0) [(0, vR 650)] = [(0, Value.ref b)] := by
      show [(0, Value.ref (ρ 650))] = _
      rw [hρ]
    rw [e]
    exact hl
  exact lw_main (Γ0 := Γ0) rfl hst hL (fun j => ⟨Int32.le_toInt _, Int32.toInt_lt _⟩) p e s m #[Value.ref b] below meth c ⟨⟨hx, hb, hml, hown, fun w hw => hts w (tl_m hw), hr, hlocks⟩, fun h => absurd h (by decide), fun h e => nomatch e⟩ s.heap [] _ hl2 hK (fun k q h => by cases h) ⟨(fun i j p q h => by cases h), (fun k q h => by cases h)⟩ va_S.rf hRO2
