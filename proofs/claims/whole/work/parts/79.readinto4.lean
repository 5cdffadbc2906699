/-! THE CLASS: readInto, the loop over the statements -/
section M5
variable {Γ : GG} {P : MP} {I0 : MM} {T : Nat → Int} {L σ : Nat} {QG : KG}
theorem ri_51 (hr : LRead Γ P) (hh : LShop Γ P σ (σ + 10) 1) (hσ : 1000 ≤ σ) (hB : Bw Γ P (σ + 11) (σ + 12)) (hI : I0 (σ + 10) 0 = -1) (h1 : h1T Γ P I0 T L σ QG) (h0 : h0T Γ P I0 T L σ QG) {w : Int} :
    ∀ (f i : Nat) (J : MM) (D : Nat → Int) (cs : List Int) (p : Nat), RG5 σ I0 J T L p D cs → L ≤ p + f → i ≤ p → lodS T L = bnd (prgS T L f D cs p) (ldE L) → XP Γ Γ mA_X3r 0 0 51 [(0, vR 31), (1, vR σ), (2, vI w), (3, vI (i : Int))] [] P J (KQ Γ QG) := by
  intro f
  -- no word
  have stop : ∀ (f i : Nat) (J : MM) (D : Nat → Int) (cs : List Int) (p : Nat), RG5 σ I0 J T L p D cs → L ≤ p + f → i ≤ p → lodS T L = bnd (prgS T L f D cs p) (ldE L) → tkK T L p ≠ -1002 → XP Γ Γ mA_X3r 0 0 145 [(0, vR 31), (1, vR σ), (2, vI w), (3, vI (i : Int))] [] P J (KQ Γ QG) := by
    intro f i J D cs p g hf hip hlk hk
    have hT := g.1.1.2.2.2
    have hL := g.1.l9
    have hp := g.1.pl
    have hsl := spc_le (T := T) hp
    refine ri_145 hr hh hσ hB hI h1 h0 g (fun z => ?_) (fun z => ?_) trivial trivial
    · have hlt : spc T L p < L := by
        by_cases hx : L ≤ spc T L p
        · exact absurd (by unfold tkK; rw [if_pos hx]) z
        · omega
      have hb : bt T L (spc T L p) ≠ -1 := by rw [bt_in hlt]; have := hT (spc T L p) (by omega); omega
      have hge := spc_ge (T := T) (L := L) (k := p)
      obtain ⟨f, rfl⟩ : ∃ f', f = f' + 1 := ⟨f - 1, by omega⟩
      rw [prgS_s hb] at hlk
      have nl : isLt T L (spc T L p) ≠ true := fun q => hk (tkK_word.mpr q)
      have hs : stmS T L D cs p = .error (-2, spc T L p) := by
        unfold stmS
        rw [pIf_f (fun q => nl (WD_tk (by decide) q).1), pIf_f (fun q => nl (WD_tk (by decide) q).1), pIf_f (fun q => nl (WD_tk (by decide) q.1).1)]
        rfl
      rw [hs] at hlk
      exact hlk
    · have hge2 : L ≤ spc T L p := by
        by_cases hx : L ≤ spc T L p
        · exact hx
        · exfalso
          unfold tkK at z
          rw [if_neg hx] at z
          split at z
          · omega
          · split at z
            · omega
            · have := b8_b (T (spc T L p)); omega
      have hb : bt T L (spc T L p) = -1 := bt_out hge2
      rw [prgS_e hb] at hlk
      have e : spc T L p = L := by omega
      rw [e]
      exact hlk
  induction f with
  | zero =>
    intro i J D cs p g hf hip hlk
    have hL := g.1.l9
    have hp := g.1.pl
    have hge := spc_ge (T := T) (L := L) (k := p)
    have hk : tkK T L p ≠ -1002 := fun z => by
      unfold tkK at z
      rw [if_pos (by omega)] at z
      omega
    refine y_iload_n 3 dX3_readInto_51 rfl ?_
    refine y_aload_n 0 dX3_readInto_52 rfl ?_
    refine y_getI dX3_readInto_53 FC3 1 (by decide) rfl fl_X3_15 (LRead_ob hr) ?_
    rw [g.1.1.2.1]
    refine y_icmp_ge 145 dX3_readInto_56 (by decide) ⟨by omega, by omega⟩ ⟨by omega, by omega⟩ (fun _ => stop 0 i J D cs p g hf hip hlk hk) (fun _ => ?_)
    refine y_aload_n 0 dX3_readInto_59 rfl ?_
    refine y_getI dX3_readInto_60 FC3 4 (by decide) rfl fl_X3_25 (LRead_ob hr) ?_
    refine y_sipush dX3_readInto_63 rfl ?_
    have hb := tkK_b (T := T) (L := L) (p := p)
    rw [g.1.2.2.2.2.2.2]
    exact y_icmp_ne 145 dX3_readInto_66 (by decide) ⟨by omega, by omega⟩ ⟨by decide, by decide⟩ (fun _ => stop 0 i J D cs p g hf hip hlk hk) (fun z => absurd z hk)
  | succ f IH =>
    intro i J D cs p g hf hip hlk
    have hT := g.1.1.2.2.2
    have hL := g.1.l9
    have hp := g.1.pl
    have hge := spc_ge (T := T) (L := L) (k := p)
    have hb := tkK_b (T := T) (L := L) (p := p)
    refine y_iload_n 3 dX3_readInto_51 rfl ?_
    refine y_aload_n 0 dX3_readInto_52 rfl ?_
    refine y_getI dX3_readInto_53 FC3 1 (by decide) rfl fl_X3_15 (LRead_ob hr) ?_
    rw [g.1.1.2.1]
    refine y_icmp_ge 145 dX3_readInto_56 (by decide) ⟨by omega, by omega⟩ ⟨by omega, by omega⟩ (fun hx => stop (f + 1) i J D cs p g hf hip hlk (fun z => ?_)) (fun _ => ?_)
    · unfold tkK at z
      rw [if_pos (by omega)] at z
      omega
    refine y_aload_n 0 dX3_readInto_59 rfl ?_
    refine y_getI dX3_readInto_60 FC3 4 (by decide) rfl fl_X3_25 (LRead_ob hr) ?_
    refine y_sipush dX3_readInto_63 rfl ?_
    rw [g.1.2.2.2.2.2.2]
    refine y_icmp_ne 145 dX3_readInto_66 (by decide) ⟨by omega, by omega⟩ ⟨by decide, by decide⟩ (fun z => stop (f + 1) i J D cs p g hf hip hlk z) (fun hk => ?_)
    -- a word
    have hlt := tkK_word.mp hk
    have hltL : spc T L p < L := by
      by_cases hx : L ≤ spc T L p
      · unfold tkK at hk; rw [if_pos hx] at hk; omega
      · omega
    have hbt : bt T L (spc T L p) ≠ -1 := by rw [bt_in hltL]; have := hT (spc T L p) (by omega); omega
    obtain ⟨g1, g2, g3, g4, g5, g6, gF⟩ := g
    have hd := g4.1
    have k7 : J 31 7 = 0 ∨ J 31 7 = 1 := by rw [g6.1]; omega
    have hlk2 := hlk
    rw [prgS_s hbt] at hlk2
    have bad : ∀ (K : MM) (e : Er), stmS T L D cs p = .error e → TKb K L e → (K 31 7 = 0 ∨ K 31 7 = 1) → riF σ I0 K → XP Γ Γ mA_X3r 0 0 133 [(0, vR 31), (1, vR σ), (2, vI w), (3, vI (i : Int))] [] P K (KQ Γ QG) := by
      intro K e he t k7 kF
      have h := hlk2
      rw [he] at h
      exact ri_bad133 hr h0 h ⟨t, k7, kF⟩ (by omega)
    have other : ¬ WD T L 3 (spc T L p) → ¬ WD T L 4 (spc T L p) → ¬ (WD T L 1 (spc T L p) ∧ D 3 = 0) → XP Γ Γ mA_X3r 0 0 133 [(0, vR 31), (1, vR σ), (2, vI w), (3, vI (i : Int))] [] P J (KQ Γ QG) := by
      intro w3 w4 w1
      have hs : stmS T L D cs p = .error (-2, spc T L p) := by
        unfold stmS
        rw [pIf_f w3, pIf_f w4, pIf_f w1]
        rfl
      have n59 : bt T L (spc T L p) ≠ 59 := fun q => by
        have h6 := (tkK_sign (p := p) (c := 59) hT hL ⟨by decide, by decide⟩ (by decide) (by decide)).mpr q
        omega
      have hx : expS T L p 59 = .error (-2, spc T L p) := by unfold expS; rw [if_neg n59]
      refine ri_semi hr h0 (f := f) (E := D) (ce := cs) (fun i J D cs p a b c d => IH i J D cs p a b c d) hσ g1 g2 g3 g6 gF k7 g4 g5 (by omega) hip (fun y hy => ?_) hlk hbt
      rw [hy, hx, hs]
      rfl
    refine y_aload_n 0 dX3_readInto_69 rfl ?_
    refine y_ldcS "job" 3 dX3_readInto_70 oc_X3_61 ?_
    refine y_Vi (μ := mA_X3r) (Γ := Γ) dX3_readInto_72 (d_isWord (R := fun z K => K = J ∧ ((z = 1 ∧ WD T L 3 (spc T L p)) ∨ (z = 0 ∧ ¬ WD T L 3 (spc T L p)))) hr g1 (by decide) (fun w => ⟨rfl, Or.inl ⟨rfl, w⟩⟩) (fun w => ⟨rfl, Or.inr ⟨rfl, w⟩⟩)) k_X3_isWord ml_X3_63 ⟨Nat.le_of_ble_eq_true rfl, Nat.le_of_ble_eq_true rfl⟩ ⟨rfl, rfl⟩ ⟨Nat.zero_le _, Nat.zero_le _⟩ rfl (LRead_ob hr) rfl (Nat.le_of_ble_eq_true rfl) _ rfl (fun z K hz => ?_)
    obtain ⟨rfl, hz⟩ := hz
    rcases hz with ⟨rfl, w3⟩ | ⟨rfl, w3⟩
    · refine y_if_eq 86 dX3_readInto_75 (by decide) ⟨by decide, by decide⟩ (fun q => absurd q (by decide)) (fun _ => ?_)
      refine y_aload_n 0 dX3_readInto_78 rfl ?_
      refine y_aload_n 1 dX3_readInto_79 rfl ?_
      refine y_Vv (μ := mA_X3r) (Γ := Γ) dX3_readInto_80 (d_readJob (Rv := fun M => (∃ r, jobS T L D (spc T L p + lenS.getD 3 0) (spc T L p) = .ok r ∧ jsF σ K M ∧ TK M T L r.1 ∧ SHd M σ r.2 ∧ M σ 1 = r.2 2) ∨ ∃ e, jobS T L D (spc T L p + lenS.getD 3 0) (spc T L p) = .error e ∧ jsF σ K M ∧ TKb M L e) hr hh hσ g1 w3 g2 g3 g4 (fun M r a b c d e => Or.inl ⟨r, a, b, c, d, e⟩) (fun M e a b c => Or.inr ⟨e, a, b, c⟩)) k_X3_readJob ml_X3_67 ⟨Nat.le_of_ble_eq_true rfl, Nat.le_of_ble_eq_true rfl⟩ ⟨rfl, rfl⟩ ⟨Nat.zero_le _, Nat.zero_le _⟩ rfl (LRead_ob hr) rfl (Nat.le_of_ble_eq_true rfl) _ rfl (fun M hM => ?_)
      refine y_goto 133 dX3_readInto_83 (by decide) ?_
      rcases hM with ⟨r, a, b, c, d, e⟩ | ⟨e, a, b, c⟩
      · have j3 := (jobS_ok g4 a).2.1 3 (by decide) (Or.inl (by decide))
        refine ri_semi hr h0 (f := f) (E := r.2) (ce := cs) (fun i J D cs p a b c d => IH i J D cs p a b c d) hσ c d e ⟨by rw [b.2 7 (by decide), j3]; exact g6.1, fun z => by rw [b.2 9 (by decide)]; exact g6.2.1 (by rw [← j3]; exact z), fun z => ?_⟩ (gF.trans b.ri) (by rw [b.2 7 (by decide)]; exact k7) g4 g5 (by omega) hip (fun y hy => ?_) hlk hbt
        · rw [b.2 9 (by decide), b.1 33 (by decide) (by omega)]
          exact g6.2.2 (by rw [← j3]; exact z)
        · rw [hy]; unfold stmS; rw [pIf_t w3, a]; rfl
      · exact bad M e (by unfold stmS; rw [pIf_t w3, a]; rfl) c (by rw [b.2 7 (by decide)]; exact k7) (gF.trans b.ri)
    · refine y_if_eq 86 dX3_readInto_75 (by decide) ⟨by decide, by decide⟩ (fun _ => ?_) (fun q => absurd rfl q)
      refine y_aload_n 0 dX3_readInto_86 rfl ?_
      refine y_ldcS "machine" 4 dX3_readInto_87 oc_X3_70 ?_
      refine y_Vi (μ := mA_X3r) (Γ := Γ) dX3_readInto_89 (d_isWord (R := fun z M => M = K ∧ ((z = 1 ∧ WD T L 4 (spc T L p)) ∨ (z = 0 ∧ ¬ WD T L 4 (spc T L p)))) hr g1 (by decide) (fun w => ⟨rfl, Or.inl ⟨rfl, w⟩⟩) (fun w => ⟨rfl, Or.inr ⟨rfl, w⟩⟩)) k_X3_isWord ml_X3_63 ⟨Nat.le_of_ble_eq_true rfl, Nat.le_of_ble_eq_true rfl⟩ ⟨rfl, rfl⟩ ⟨Nat.zero_le _, Nat.zero_le _⟩ rfl (LRead_ob hr) rfl (Nat.le_of_ble_eq_true rfl) _ rfl (fun z M hz => ?_)
      obtain ⟨rfl, hz⟩ := hz
      rcases hz with ⟨rfl, w4⟩ | ⟨rfl, w4⟩
      · refine y_if_eq 103 dX3_readInto_92 (by decide) ⟨by decide, by decide⟩ (fun q => absurd q (by decide)) (fun _ => ?_)
        refine y_aload_n 0 dX3_readInto_95 rfl ?_
        refine y_aload_n 1 dX3_readInto_96 rfl ?_
        refine y_Vv (μ := mA_X3r) (Γ := Γ) dX3_readInto_97 (d_readMachine (Rv := fun N => (∃ r, machS T L D (spc T L p + lenS.getD 4 0) = .ok r ∧ jsF σ M N ∧ TK N T L r.1 ∧ SHd N σ r.2 ∧ N σ = M σ) ∨ ∃ e, machS T L D (spc T L p + lenS.getD 4 0) = .error e ∧ jsF σ M N ∧ TKb N L e) hr hh hσ g1 w4 g2 g4 (fun N r a b c d e => Or.inl ⟨r, a, b, c, d, e⟩) (fun N e a b c => Or.inr ⟨e, a, b, c⟩)) k_X3_readMachine ml_X3_72 ⟨Nat.le_of_ble_eq_true rfl, Nat.le_of_ble_eq_true rfl⟩ ⟨rfl, rfl⟩ ⟨Nat.zero_le _, Nat.zero_le _⟩ rfl (LRead_ob hr) rfl (Nat.le_of_ble_eq_true rfl) _ rfl (fun N hN => ?_)
        refine y_goto 133 dX3_readInto_100 (by decide) ?_
        rcases hN with ⟨r, a, b, c, d, e⟩ | ⟨e, a, b, c⟩
        · have j3 := (machS_ok g4 a).2.1 3 (Or.inl (by decide))
          have j2 := (machS_ok g4 a).2.1 2 (Or.inl (by decide))
          refine ri_semi hr h0 (f := f) (E := r.2) (ce := cs) (fun i J D cs p a b c d => IH i J D cs p a b c d) hσ c d (by rw [e, j2]; exact g3) ⟨by rw [b.2 7 (by decide), j3]; exact g6.1, fun z => by rw [b.2 9 (by decide)]; exact g6.2.1 (by rw [← j3]; exact z), fun z => ?_⟩ (gF.trans b.ri) (by rw [b.2 7 (by decide)]; exact k7) g4 g5 (by omega) hip (fun y hy => ?_) hlk hbt
          · rw [b.2 9 (by decide), b.1 33 (by decide) (by omega)]
            exact g6.2.2 (by rw [← j3]; exact z)
          · rw [hy]; unfold stmS; rw [pIf_f w3, pIf_t w4, a]; rfl
        · exact bad N e (by unfold stmS; rw [pIf_f w3, pIf_t w4, a]; rfl) c (by rw [b.2 7 (by decide)]; exact k7) (gF.trans b.ri)
      · refine y_if_eq 103 dX3_readInto_92 (by decide) ⟨by decide, by decide⟩ (fun _ => ?_) (fun q => absurd rfl q)
        refine y_aload_n 0 dX3_readInto_103 rfl ?_
        refine y_ldcS "cost" 1 dX3_readInto_104 oc_X3_75 ?_
        refine y_Vi (μ := mA_X3r) (Γ := Γ) dX3_readInto_106 (d_isWord (R := fun z N => N = M ∧ ((z = 1 ∧ WD T L 1 (spc T L p)) ∨ (z = 0 ∧ ¬ WD T L 1 (spc T L p)))) hr g1 (by decide) (fun w => ⟨rfl, Or.inl ⟨rfl, w⟩⟩) (fun w => ⟨rfl, Or.inr ⟨rfl, w⟩⟩)) k_X3_isWord ml_X3_63 ⟨Nat.le_of_ble_eq_true rfl, Nat.le_of_ble_eq_true rfl⟩ ⟨rfl, rfl⟩ ⟨Nat.zero_le _, Nat.zero_le _⟩ rfl (LRead_ob hr) rfl (Nat.le_of_ble_eq_true rfl) _ rfl (fun z N hz => ?_)
        obtain ⟨rfl, hz⟩ := hz
        rcases hz with ⟨rfl, w1⟩ | ⟨rfl, w1⟩
        · refine y_if_eq 133 dX3_readInto_109 (by decide) ⟨by decide, by decide⟩ (fun q => absurd q (by decide)) (fun _ => ?_)
          refine y_aload_n 0 dX3_readInto_112 rfl ?_
          refine y_getI dX3_readInto_113 FC3 7 (by decide) rfl fl_X3_34 (LRead_ob hr) ?_
          rw [g6.1]
          refine y_if_ne 133 dX3_readInto_116 (by decide) (by unfold inR; omega) (fun q => other w3 w4 (fun q2 => q q2.2)) (fun d3 => ?_)
          refine y_aload_n 0 dX3_readInto_119 rfl ?_
          refine y_iconst dX3_readInto_120 ?_
          refine y_putZ dX3_readInto_121 FC3 7 (by decide) rfl rfl (Or.inr rfl) fl_X3_34 (LRead_ob hr) ?_
          refine y_aload_n 0 dX3_readInto_124 rfl ?_
          have gA : TK (up2 N 31 7 1) T L p := by
            obtain ⟨a, b, c, d, e, f1, f2⟩ := g1
            exact ⟨⟨fun k hk => by rw [up2_ne (by decide)]; exact a.1 k hk, by rw [up2_nj (by decide)]; exact a.2.1, a.2.2⟩, by rw [up2_nj (by decide)]; exact b, by rw [up2_nj (by decide)]; exact c, d, by rw [up2_nj (by decide)]; exact e, by rw [up2_nj (by decide)]; exact f1, by rw [up2_nj (by decide)]; exact f2⟩
          refine y_Vv (μ := mA_X3r) (Γ := Γ) dX3_readInto_125 (d_take (Rv := fun B => tcF (up2 N 31 7 1) B ∧ TK B T L (tkE T L p)) hr gA (fun B a b => ⟨a, b⟩)) k_X3_next ml_X3_54 ⟨Nat.le_of_ble_eq_true rfl, Nat.le_of_ble_eq_true rfl⟩ ⟨rfl, rfl⟩ ⟨Nat.zero_le _, Nat.zero_le _⟩ rfl (LRead_ob hr) rfl (Nat.le_of_ble_eq_true rfl) _ rfl (fun B hB2 => ?_)
          obtain ⟨b1, b2⟩ := hB2
          rw [tkE_WD (by decide) w1] at b2
          refine y_aload_n 0 dX3_readInto_128 rfl ?_
          refine y_iconst dX3_readInto_129 ?_
          have B9 : B 31 9 = 0 := by rw [b1.2 9 (by decide), up2_nj (by decide)]; exact g6.2.1 d3
          have B7 : B 31 7 = 1 := by rw [b1.2 7 (by decide), up2_eq]
          have BF : riF σ I0 B := (gF.trans riF.u).trans b1.ri
          refine y_Vv (μ := mA_X3r) (Γ := Γ) dX3_readInto_130 (d_sum6 hr B (spc T L p + lenS.getD 1 0) [] (fun C => (∃ r, sumS T L (facS T L 4) (spc T L p + lenS.getD 1 0) = .ok r ∧ ccF B C ∧ KC C T L r.1 ([] ++ r.2)) ∨ ∃ e, sumS T L (facS T L 4) (spc T L p + lenS.getD 1 0) = .error e ∧ ccF B C ∧ KB C L e) ⟨b2, by rw [B9]; rfl, Nat.zero_le _, fun i hi => absurd hi (Nat.not_lt_zero _)⟩ (Nat.zero_le _) (fun C r a b c => Or.inl ⟨r, a, b, c⟩) (fun C e a b c => Or.inr ⟨e, a, b, c⟩)) k_X3_readSum ml_X3_76 ⟨Nat.le_of_ble_eq_true rfl, Nat.le_of_ble_eq_true rfl⟩ ⟨rfl, rfl⟩ ⟨Nat.zero_le _, Nat.zero_le _⟩ rfl (LRead_ob hr) rfl (Nat.le_of_ble_eq_true rfl) _ rfl (fun C hC => ?_)
          rcases hC with ⟨r, a, b, c⟩ | ⟨e, a, b, c⟩
          · have q := sumS_q (facS_q 4) a
            rw [List.nil_append] at c
            have x3 : cdW D r.2 3 = 1 := by unfold cdW; rw [if_pos rfl]
            have xo : ∀ i, i ≠ 3 → i ≠ 4 → i < 155 → cdW D r.2 i = D i := fun i e1 e2 e3 => by unfold cdW; rw [if_neg e1, if_neg e2, if_neg (by omega)]
            have ln : r.2.length ≤ 896 := by
              have h1 := q.2.2.2.1
              have h2 := q.2.1
              have h4 : lenS.getD 1 0 = 4 := rfl
              omega
            have rC : ∀ s, s ≠ 31 → s ≠ 33 → C s = N s := fun s e1 e2 => by rw [b.1 s e1 e2, b1.1 s e1, up2_ne e1]
            refine ri_semi hr h0 (f := f) (E := cdW D r.2) (ce := r.2) (fun i J D cs p a b c d => IH i J D cs p a b c d) hσ c.1 (SHd.cong (D := D) ?_ xo) (by rw [rC σ (by omega) (by omega), xo 2 (by decide) (by decide) (by decide)]; exact g3) ⟨by rw [b.2 7 (by decide), B7, x3], fun z => absurd (x3.symm.trans z) (by decide), fun _ => ⟨c.2.1, by omega, c.2.2.2⟩⟩ (BF.trans b.ri) (by rw [b.2 7 (by decide)]; exact Or.inr B7) g4 g5 (by omega) hip (fun y hy => ?_) hlk hbt
            · unfold SHd
              rw [rC σ (by omega) (by omega), rC (σ + 1) (by omega) (by omega), rC (σ + 2) (by omega) (by omega), rC (σ + 3) (by omega) (by omega), rC (σ + 4) (by omega) (by omega), rC (σ + 5) (by omega) (by omega), rC (σ + 6) (by omega) (by omega), rC (σ + 7) (by omega) (by omega), rC (σ + 8) (by omega) (by omega), rC (σ + 9) (by omega) (by omega)]
              exact g2
            · rw [hy]; unfold stmS; rw [pIf_f w3, pIf_f w4, pIf_t ⟨w1, d3⟩, a]; rfl
          · exact bad C e (by unfold stmS; rw [pIf_f w3, pIf_f w4, pIf_t ⟨w1, d3⟩, a]; rfl) c.1 (by rw [b.2 7 (by decide)]; exact Or.inr B7) (BF.trans b.ri)
        · refine y_if_eq 133 dX3_readInto_109 (by decide) ⟨by decide, by decide⟩ (fun _ => other w3 w4 (fun q => w1 q.1)) (fun q => absurd rfl q)
end M5
