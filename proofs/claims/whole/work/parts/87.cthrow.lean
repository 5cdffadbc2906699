/-! THE CLASS: its throws (mkthrow.py) -/
abbrev exIO : String := "java/lang/IndexOutOfBoundsException"
abbrev exIA : String := "java/lang/IllegalArgumentException"
abbrev exIS : String := "java/lang/IllegalStateException"
def tX (E : String) (Rp : MP → MM → Prop) : XT := fun E' P' I' => E' = E ∧ Rp P' I'
theorem excIO : exIO ∈ excS := by decide +kernel
theorem excIA : exIA ∈ excS := by decide +kernel
theorem excIS : exIS ∈ excS := by decide +kernel
theorem fitIO : Bundle.fit exIO = true := by decide +kernel
theorem fitIA : Bundle.fit exIA = true := by decide +kernel
theorem fitIS : Bundle.fit exIS = true := by decide +kernel
abbrev mT_needMachine : MI := (yX5_needMachine, RX5, cX5_needMachine, 2, none, { frames := 10, cells := 1, slots := 6, locals := 200 })
theorem nT_needMachine : Nm mT_needMachine := ⟨by decide +kernel, rfl⟩
theorem kT_needMachine : LkV mT_needMachine 1 := k_X5_needMachine
abbrev mT_needJob : MI := (yX5_needJob, RX5, cX5_needJob, 2, none, { frames := 10, cells := 1, slots := 6, locals := 200 })
theorem nT_needJob : Nm mT_needJob := ⟨by decide +kernel, rfl⟩
theorem kT_needJob : LkV mT_needJob 1 := k_X5_needJob
abbrev mT_needOperation : MI := (yX5_needOperation, RX5, cX5_needOperation, 3, none, { frames := 12, cells := 1, slots := 6, locals := 400 })
theorem nT_needOperation : Nm mT_needOperation := ⟨by decide +kernel, rfl⟩
theorem kT_needOperation : LkV mT_needOperation 2 := k_X5_needOperation
abbrev mT_needSwap : MI := (yX5_needSwap, RX5, cX5_needSwap, 3, none, { frames := 12, cells := 1, slots := 6, locals := 400 })
theorem nT_needSwap : Nm mT_needSwap := ⟨by decide +kernel, rfl⟩
theorem kT_needSwap : LkV mT_needSwap 2 := k_X5_needSwap
abbrev mT_operationCount : MI := (yX5_operationCount, RX5, cX5_operationCount, 2, some .int, { frames := 40, cells := 1, slots := 6, locals := 2000 })
theorem nT_operationCount : Nm mT_operationCount := ⟨by decide +kernel, rfl⟩
theorem kT_operationCount : LkV mT_operationCount 1 := k_X5_operationCount
abbrev mT_operation : MI := (yX5_operation, RX5, cX5_operation, 5, some .int, { frames := 40, cells := 1, slots := 6, locals := 2000 })
theorem nT_operation : Nm mT_operation := ⟨by decide +kernel, rfl⟩
theorem kT_operation : LkV mT_operation 3 := k_X5_operation
abbrev mT_orderLength : MI := (yX5_orderLength, RX5, cX5_orderLength, 2, some .int, { frames := 40, cells := 1, slots := 6, locals := 2000 })
theorem nT_orderLength : Nm mT_orderLength := ⟨by decide +kernel, rfl⟩
theorem kT_orderLength : LkV mT_orderLength 1 := k_X5_orderLength
abbrev mT_orderAt : MI := (yX5_orderAt, RX5, cX5_orderAt, 3, some .int, { frames := 40, cells := 1, slots := 6, locals := 2000 })
theorem nT_orderAt : Nm mT_orderAt := ⟨by decide +kernel, rfl⟩
theorem kT_orderAt : LkV mT_orderAt 2 := k_X5_orderAt
abbrev mT_start : MI := (yX5_start, RX5, cX5_start, 3, some .int, { frames := 40, cells := 1, slots := 6, locals := 2000 })
theorem nT_start : Nm mT_start := ⟨by decide +kernel, rfl⟩
theorem kT_start : LkV mT_start 2 := k_X5_start
abbrev mT_leave : MI := (yX5_leave, RX5, cX5_leave, 3, some .int, { frames := 40, cells := 1, slots := 6, locals := 2000 })
theorem nT_leave : Nm mT_leave := ⟨by decide +kernel, rfl⟩
theorem kT_leave : LkV mT_leave 2 := k_X5_leave
abbrev mT_completion : MI := (yX5_completion, RX5, cX5_completion, 2, some .int, { frames := 40, cells := 1, slots := 6, locals := 2000 })
theorem nT_completion : Nm mT_completion := ⟨by decide +kernel, rfl⟩
theorem kT_completion : LkV mT_completion 1 := k_X5_completion
abbrev mT_jobCost : MI := (yX5_jobCost, RX5, cX5_jobCost, 2, some .int, { frames := 40, cells := 1, slots := 6, locals := 2000 })
theorem nT_jobCost : Nm mT_jobCost := ⟨by decide +kernel, rfl⟩
theorem kT_jobCost : LkV mT_jobCost 1 := k_X5_jobCost
abbrev mT_blockedTime : MI := (yX5_blockedTime, RX5, cX5_blockedTime, 5, some .int, { frames := 40, cells := 1, slots := 6, locals := 2000 })
theorem nT_blockedTime : Nm mT_blockedTime := ⟨by decide +kernel, rfl⟩
theorem kT_blockedTime : LkV mT_blockedTime 1 := k_X5_blockedTime
abbrev mT_critical : MI := (yX5_critical, RX5, cX5_critical, 2, some .int, { frames := 40, cells := 1, slots := 6, locals := 2000 })
theorem nT_critical : Nm mT_critical := ⟨by decide +kernel, rfl⟩
theorem kT_critical : LkV mT_critical 1 := k_X5_critical
abbrev mT_deadlocks : MI := (yX5_deadlocks, RX5, cX5_deadlocks, 3, some .boolean, { frames := 40, cells := 1, slots := 6, locals := 2000 })
theorem nT_deadlocks : Nm mT_deadlocks := ⟨by decide +kernel, rfl⟩
theorem kT_deadlocks : LkV mT_deadlocks 2 := k_X5_deadlocks
abbrev mT_makespanAfter : MI := (yX5_makespanAfter, RX5, cX5_makespanAfter, 3, some .int, { frames := 40, cells := 1, slots := 6, locals := 2000 })
theorem nT_makespanAfter : Nm mT_makespanAfter := ⟨by decide +kernel, rfl⟩
theorem kT_makespanAfter : LkV mT_makespanAfter 2 := k_X5_makespanAfter
abbrev mT_swap : MI := (yX5_swap, RX5, cX5_swap, 3, some .int, { frames := 40, cells := 1, slots := 6, locals := 2000 })
theorem nT_swap : Nm mT_swap := ⟨by decide +kernel, rfl⟩
theorem kT_swap : LkV mT_swap 2 := k_X5_swap
abbrev mT_improve : MI := (yX5_improve, RX5, cX5_improve, 4, some .int, { frames := 40, cells := 1, slots := 6, locals := 2000 })
theorem nT_improve : Nm mT_improve := ⟨by decide +kernel, rfl⟩
theorem kT_improve : LkV mT_improve 1 := k_X5_improve
abbrev mT_place : MI := (yX5_place, RX5, cX5_place, 6, some .int, { frames := 40, cells := 1, slots := 6, locals := 2000 })
theorem nT_place : Nm mT_place := ⟨by decide +kernel, rfl⟩
theorem kT_place : LkV mT_place 3 := k_X5_place
abbrev mT_setDuration : MI := (yX5_setDuration, RX5, cX5_setDuration, 6, some .int, { frames := 40, cells := 1, slots := 6, locals := 2000 })
theorem nT_setDuration : Nm mT_setDuration := ⟨by decide +kernel, rfl⟩
theorem kT_setDuration : LkV mT_setDuration 3 := k_X5_setDuration
abbrev mT_load : MI := (yX5_load, RX5, cX5_load, 3, some .int, { frames := 40, cells := 1, slots := 6, locals := 2000 })
theorem nT_load : Nm mT_load := ⟨by decide +kernel, rfl⟩
theorem kT_load : LkV mT_load 1 := k_X5_load
section TH
variable {Γ : GG} {P : MP} {I : MM} {Rp : MP → MM → Prop} {σ κ N σ2 κ2 N2 oc n : Nat} {D : Nat → Int} {cs : List Int} {H : Nat → (Nat → Int) × List Int}
theorem e_needMachine (h9 : (gl Γ).stackTraces = false) (h : CC Γ P I σ κ N σ2 κ2 N2 oc D cs n H) {m : Int} (hm : inR m) (hn : ¬ mOk D m) (hR : Rp P I) : ClT Γ mT_needMachine [vR 30, vI m] P I (tX exIO Rp) := by
  refine clt_of nT_needMachine (Nat.le_of_ble_eq_true rfl) ?_
  have hb := h.b
  have ha := h.wr.a
  have hp48 := LSch_p (LBS_s hb)
  have hsh := LPlan_s hp48
  have thr : ∀ al, XE (some []) Γ Γ mT_needMachine 0 0 18 al [] P I (EX Γ mT_needMachine (tX exIO Rp)) := fun al => y_throw exIO "no such machine" 23 h9 excIO fitIO thK_io thI_io (by decide +kernel) thA_io dX5_needMachine_18 dX5_needMachine_21 dX5_needMachine_22 dX5_needMachine_24 dX5_needMachine_27 ⟨by decide, by decide, by decide, by decide⟩ (by decide) ⟨rfl, hR⟩
  refine y_iload_n 1 dX5_needMachine_0 rfl ?_
  refine y_if_lt 18 dX5_needMachine_1 (by decide) hm (fun _ => thr _) (fun z => ?_)
  refine y_iload_n 1 dX5_needMachine_4 rfl ?_
  refine y_aload_n 0 dX5_needMachine_5 rfl ?_
  refine y_getP dX5_needMachine_6 FC5 4 (by decide) rfl fl_X5_51 (LBS_ob hb) (LBS_p4 hb) ?_
  refine y_getP dX5_needMachine_9 FC1 0 (by decide) rfl fl_X5_95 (LPlan_ob hp48) (LPlan_p0 hp48) ?_
  refine y_getI dX5_needMachine_12 FC4 0 (by decide) rfl fl_X5_99 (LShop_ob hsh) ?_
  rw [h.p.sh.1]
  refine y_icmp_lt 28 dX5_needMachine_15 (by decide) hm ⟨by omega, by omega⟩ (fun z2 => absurd ⟨by omega, z2⟩ hn) (fun _ => thr _)
theorem e_needJob (h9 : (gl Γ).stackTraces = false) (h : CC Γ P I σ κ N σ2 κ2 N2 oc D cs n H) {j : Int} (hj : inR j) (hn : ¬ jOk D j) (hR : Rp P I) : ClT Γ mT_needJob [vR 30, vI j] P I (tX exIO Rp) := by
  refine clt_of nT_needJob (Nat.le_of_ble_eq_true rfl) ?_
  have hb := h.b
  have ha := h.wr.a
  have hp48 := LSch_p (LBS_s hb)
  have hsh := LPlan_s hp48
  have thr : ∀ al, XE (some []) Γ Γ mT_needJob 0 0 18 al [] P I (EX Γ mT_needJob (tX exIO Rp)) := fun al => y_throw exIO "no such job" 22 h9 excIO fitIO thK_io thI_io (by decide +kernel) thA_io dX5_needJob_18 dX5_needJob_21 dX5_needJob_22 dX5_needJob_24 dX5_needJob_27 ⟨by decide, by decide, by decide, by decide⟩ (by decide) ⟨rfl, hR⟩
  refine y_iload_n 1 dX5_needJob_0 rfl ?_
  refine y_if_lt 18 dX5_needJob_1 (by decide) hj (fun _ => thr _) (fun z => ?_)
  refine y_iload_n 1 dX5_needJob_4 rfl ?_
  refine y_aload_n 0 dX5_needJob_5 rfl ?_
  refine y_getP dX5_needJob_6 FC5 4 (by decide) rfl fl_X5_51 (LBS_ob hb) (LBS_p4 hb) ?_
  refine y_getP dX5_needJob_9 FC1 0 (by decide) rfl fl_X5_95 (LPlan_ob hp48) (LPlan_p0 hp48) ?_
  refine y_getI dX5_needJob_12 FC4 1 (by decide) rfl fl_X5_92 (LShop_ob hsh) ?_
  rw [h.p.sh.2.1]
  refine y_icmp_lt 28 dX5_needJob_15 (by decide) hj ⟨by omega, by omega⟩ (fun z2 => absurd ⟨by omega, z2⟩ hn) (fun _ => thr _)
theorem e_needOperation (h9 : (gl Γ).stackTraces = false) (h : CC Γ P I σ κ N σ2 κ2 N2 oc D cs n H) {j k : Int} (hj : inR j) (hk : inR k) (hn : ¬ oOk D j k) (hR : Rp P I) : ClT Γ mT_needOperation [vR 30, vI j, vI k] P I (tX exIO Rp) := by
  refine clt_of nT_needOperation (Nat.le_of_ble_eq_true rfl) ?_
  have hb := h.b
  have ha := h.wr.a
  have hp48 := LSch_p (LBS_s hb)
  have hsh := LPlan_s hp48
  have thr : ∀ al, XE (some []) Γ Γ mT_needOperation 0 0 25 al [] P I (EX Γ mT_needOperation (tX exIO Rp)) := fun al => y_throw exIO "no such operation" 24 h9 excIO fitIO thK_io thI_io (by decide +kernel) thA_io dX5_needOperation_25 dX5_needOperation_28 dX5_needOperation_29 dX5_needOperation_31 dX5_needOperation_34 ⟨by decide, by decide, by decide, by decide⟩ (by decide) ⟨rfl, hR⟩
  refine y_aload_n 0 dX5_needOperation_0 rfl ?_
  refine y_iload_n 1 dX5_needOperation_1 rfl ?_
  by_cases hj1 : jOk D j
  · refine y_Vv (μ := mT_needOperation) (R := fun J => J = I) dX5_needOperation_2 (d_needJob h hj hj1 rfl) k_X5_needJob ml_X5_102 ⟨Nat.le_of_ble_eq_true rfl, Nat.le_of_ble_eq_true rfl⟩ ⟨rfl, rfl⟩ ⟨by decide, by decide⟩ rfl (LBS_ob hb) rfl (by decide) _ rfl (fun J hJ => ?_)
    have hJ := hJ.symm
    subst hJ
    obtain ⟨y1, y2⟩ := hj1
    have hjj := h.wr.2.1 j.toNat (by omega)
    refine y_iload_n 2 dX5_needOperation_5 rfl ?_
    refine y_if_lt 25 dX5_needOperation_6 (by decide) hk (fun _ => thr _) (fun z => ?_)
    refine y_iload_n 2 dX5_needOperation_9 rfl ?_
    refine y_aload_n 0 dX5_needOperation_10 rfl ?_
    refine y_getP dX5_needOperation_11 FC5 4 (by decide) rfl fl_X5_51 (LBS_ob hb) (LBS_p4 hb) ?_
    refine y_getP dX5_needOperation_14 FC1 0 (by decide) rfl fl_X5_95 (LPlan_ob hp48) (LPlan_p0 hp48) ?_
    refine y_getP dX5_needOperation_17 FC4 9 (by decide) rfl fl_X5_106 (LShop_ob hsh) (LShop_p9 hsh) ?_
    refine y_iload_n 1 dX5_needOperation_20 rfl ?_
    refine y_iald dX5_needOperation_21 (LShop_a9 hsh) (by omega) (by omega) (by decide) ?_
    rw [h.p.sh.ops (by omega)]
    refine y_icmp_lt 35 dX5_needOperation_22 (by decide) hk ⟨by omega, by omega⟩ (fun z2 => absurd ⟨⟨y1, y2⟩, by omega, z2⟩ hn) (fun _ => thr _)
  · exact y_tV (μ := mT_needOperation) dX5_needOperation_2 (e_needJob h9 h hj hj1 hR) kT_needJob ml_X5_102 ⟨Nat.le_of_ble_eq_true rfl, Nat.le_of_ble_eq_true rfl⟩ rfl (LBS_ob hb) rfl (by decide) ⟨Nat.le_of_ble_eq_true rfl, Nat.le_of_ble_eq_true rfl⟩ _ rfl (fun _ _ _ q => q)
theorem e_needSwap (h9 : (gl Γ).stackTraces = false) (h : CC Γ P I σ κ N σ2 κ2 N2 oc D cs n H) {m p : Int} (hm : inR m) (hp : inR p) (hn : ¬ sOk D m p) (hR : Rp P I) : ClT Γ mT_needSwap [vR 30, vI m, vI p] P I (tX exIO Rp) := by
  refine clt_of nT_needSwap (Nat.le_of_ble_eq_true rfl) ?_
  have hb := h.b
  have ha := h.wr.a
  have hp48 := LSch_p (LBS_s hb)
  have hsh := LPlan_s hp48
  have thr : ∀ al, XE (some []) Γ Γ mT_needSwap 0 0 27 al [] P I (EX Γ mT_needSwap (tX exIO Rp)) := fun al => y_throw exIO "no such two positions" 26 h9 excIO fitIO thK_io thI_io (by decide +kernel) thA_io dX5_needSwap_27 dX5_needSwap_30 dX5_needSwap_31 dX5_needSwap_33 dX5_needSwap_36 ⟨by decide, by decide, by decide, by decide⟩ (by decide) ⟨rfl, hR⟩
  refine y_aload_n 0 dX5_needSwap_0 rfl ?_
  refine y_iload_n 1 dX5_needSwap_1 rfl ?_
  by_cases hm1 : mOk D m
  · refine y_Vv (μ := mT_needSwap) (R := fun J => J = I) dX5_needSwap_2 (d_needMachine h hm hm1 rfl) k_X5_needMachine ml_X5_129 ⟨Nat.le_of_ble_eq_true rfl, Nat.le_of_ble_eq_true rfl⟩ ⟨rfl, rfl⟩ ⟨by decide, by decide⟩ rfl (LBS_ob hb) rfl (by decide) _ rfl (fun J hJ => ?_)
    have hJ := hJ.symm
    subst hJ
    obtain ⟨y1, y2⟩ := hm1
    have hmm := h.wr.2.2.2 m.toNat (by omega)
    refine y_iload_n 2 dX5_needSwap_5 rfl ?_
    refine y_if_lt 27 dX5_needSwap_6 (by decide) hp (fun _ => thr _) (fun z => ?_)
    refine y_iload_n 2 dX5_needSwap_9 rfl ?_
    refine y_aload_n 0 dX5_needSwap_10 rfl ?_
    refine y_getP dX5_needSwap_11 FC5 4 (by decide) rfl fl_X5_51 (LBS_ob hb) (LBS_p4 hb) ?_
    refine y_getP dX5_needSwap_14 FC1 0 (by decide) rfl fl_X5_95 (LPlan_ob hp48) (LPlan_p0 hp48) ?_
    refine y_getP dX5_needSwap_17 FC4 5 (by decide) rfl fl_X5_132 (LShop_ob hsh) (LShop_p5 hsh) ?_
    refine y_iload_n 1 dX5_needSwap_20 rfl ?_
    refine y_iald dX5_needSwap_21 (LShop_a5 hsh) (by omega) (by omega) (by decide) ?_
    rw [(h.p.sh.2.2.2.1 m.toNat (by omega)).2.2]
    refine y_iconst dX5_needSwap_22 ?_
    refine y_isub dX5_needSwap_23 ?_
    refine y_icmp_lt 37 dX5_needSwap_24 (by decide) hp ⟨by omega, by omega⟩ (fun z2 => absurd ⟨⟨y1, y2⟩, by omega, by omega⟩ hn) (fun _ => thr _)
  · exact y_tV (μ := mT_needSwap) dX5_needSwap_2 (e_needMachine h9 h hm hm1 hR) kT_needMachine ml_X5_129 ⟨Nat.le_of_ble_eq_true rfl, Nat.le_of_ble_eq_true rfl⟩ rfl (LBS_ob hb) rfl (by decide) ⟨Nat.le_of_ble_eq_true rfl, Nat.le_of_ble_eq_true rfl⟩ _ rfl (fun _ _ _ q => q)
theorem e_operationCount (h9 : (gl Γ).stackTraces = false) (h : CC Γ P I σ κ N σ2 κ2 N2 oc D cs n H) {j : Int} (hj : inR j) (hn : ¬ jOk D j) (hR : Rp P I) : ClT Γ mT_operationCount [vR 30, vI j] P I (tX exIO Rp) := by
  refine clt_of nT_operationCount (Nat.le_of_ble_eq_true rfl) ?_
  have hb := h.b
  have ha := h.wr.a
  have hp48 := LSch_p (LBS_s hb)
  have hsh := LPlan_s hp48
  refine y_aload_n 0 dX5_operationCount_0 rfl ?_
  refine y_iload_n 1 dX5_operationCount_1 rfl ?_
  exact y_tV (μ := mT_operationCount) dX5_operationCount_2 (e_needJob h9 h hj hn hR) kT_needJob ml_X5_102 ⟨Nat.le_of_ble_eq_true rfl, Nat.le_of_ble_eq_true rfl⟩ rfl (LBS_ob hb) rfl (by decide) ⟨Nat.le_of_ble_eq_true rfl, Nat.le_of_ble_eq_true rfl⟩ _ rfl (fun _ _ _ q => q)
theorem e_orderLength (h9 : (gl Γ).stackTraces = false) (h : CC Γ P I σ κ N σ2 κ2 N2 oc D cs n H) {m : Int} (hm : inR m) (hn : ¬ mOk D m) (hR : Rp P I) : ClT Γ mT_orderLength [vR 30, vI m] P I (tX exIO Rp) := by
  refine clt_of nT_orderLength (Nat.le_of_ble_eq_true rfl) ?_
  have hb := h.b
  have ha := h.wr.a
  have hp48 := LSch_p (LBS_s hb)
  have hsh := LPlan_s hp48
  refine y_aload_n 0 dX5_orderLength_0 rfl ?_
  refine y_iload_n 1 dX5_orderLength_1 rfl ?_
  exact y_tV (μ := mT_orderLength) dX5_orderLength_2 (e_needMachine h9 h hm hn hR) kT_needMachine ml_X5_129 ⟨Nat.le_of_ble_eq_true rfl, Nat.le_of_ble_eq_true rfl⟩ rfl (LBS_ob hb) rfl (by decide) ⟨Nat.le_of_ble_eq_true rfl, Nat.le_of_ble_eq_true rfl⟩ _ rfl (fun _ _ _ q => q)
theorem e_start (h9 : (gl Γ).stackTraces = false) (h : CC Γ P I σ κ N σ2 κ2 N2 oc D cs n H) {j k : Int} (hj : inR j) (hk : inR k) (hn : ¬ oOk D j k) (hR : Rp P I) : ClT Γ mT_start [vR 30, vI j, vI k] P I (tX exIO Rp) := by
  refine clt_of nT_start (Nat.le_of_ble_eq_true rfl) ?_
  have hb := h.b
  have ha := h.wr.a
  have hp48 := LSch_p (LBS_s hb)
  have hsh := LPlan_s hp48
  refine y_aload_n 0 dX5_start_0 rfl ?_
  refine y_iload_n 1 dX5_start_1 rfl ?_
  refine y_iload_n 2 dX5_start_2 rfl ?_
  exact y_tV (μ := mT_start) dX5_start_3 (e_needOperation h9 h hj hk hn hR) kT_needOperation ml_X5_110 ⟨Nat.le_of_ble_eq_true rfl, Nat.le_of_ble_eq_true rfl⟩ rfl (LBS_ob hb) rfl (by decide) ⟨Nat.le_of_ble_eq_true rfl, Nat.le_of_ble_eq_true rfl⟩ _ rfl (fun _ _ _ q => q)
theorem e_leave (h9 : (gl Γ).stackTraces = false) (h : CC Γ P I σ κ N σ2 κ2 N2 oc D cs n H) {j k : Int} (hj : inR j) (hk : inR k) (hn : ¬ oOk D j k) (hR : Rp P I) : ClT Γ mT_leave [vR 30, vI j, vI k] P I (tX exIO Rp) := by
  refine clt_of nT_leave (Nat.le_of_ble_eq_true rfl) ?_
  have hb := h.b
  have ha := h.wr.a
  have hp48 := LSch_p (LBS_s hb)
  have hsh := LPlan_s hp48
  refine y_aload_n 0 dX5_leave_0 rfl ?_
  refine y_iload_n 1 dX5_leave_1 rfl ?_
  refine y_iload_n 2 dX5_leave_2 rfl ?_
  exact y_tV (μ := mT_leave) dX5_leave_3 (e_needOperation h9 h hj hk hn hR) kT_needOperation ml_X5_110 ⟨Nat.le_of_ble_eq_true rfl, Nat.le_of_ble_eq_true rfl⟩ rfl (LBS_ob hb) rfl (by decide) ⟨Nat.le_of_ble_eq_true rfl, Nat.le_of_ble_eq_true rfl⟩ _ rfl (fun _ _ _ q => q)
theorem e_completion (h9 : (gl Γ).stackTraces = false) (h : CC Γ P I σ κ N σ2 κ2 N2 oc D cs n H) {j : Int} (hj : inR j) (hn : ¬ jOk D j) (hR : Rp P I) : ClT Γ mT_completion [vR 30, vI j] P I (tX exIO Rp) := by
  refine clt_of nT_completion (Nat.le_of_ble_eq_true rfl) ?_
  have hb := h.b
  have ha := h.wr.a
  have hp48 := LSch_p (LBS_s hb)
  have hsh := LPlan_s hp48
  refine y_aload_n 0 dX5_completion_0 rfl ?_
  refine y_iload_n 1 dX5_completion_1 rfl ?_
  exact y_tV (μ := mT_completion) dX5_completion_2 (e_needJob h9 h hj hn hR) kT_needJob ml_X5_102 ⟨Nat.le_of_ble_eq_true rfl, Nat.le_of_ble_eq_true rfl⟩ rfl (LBS_ob hb) rfl (by decide) ⟨Nat.le_of_ble_eq_true rfl, Nat.le_of_ble_eq_true rfl⟩ _ rfl (fun _ _ _ q => q)
theorem e_jobCost (h9 : (gl Γ).stackTraces = false) (h : CC Γ P I σ κ N σ2 κ2 N2 oc D cs n H) {j : Int} (hj : inR j) (hn : ¬ jOk D j) (hR : Rp P I) : ClT Γ mT_jobCost [vR 30, vI j] P I (tX exIO Rp) := by
  refine clt_of nT_jobCost (Nat.le_of_ble_eq_true rfl) ?_
  have hb := h.b
  have ha := h.wr.a
  have hp48 := LSch_p (LBS_s hb)
  have hsh := LPlan_s hp48
  refine y_aload_n 0 dX5_jobCost_0 rfl ?_
  refine y_iload_n 1 dX5_jobCost_1 rfl ?_
  exact y_tV (μ := mT_jobCost) dX5_jobCost_2 (e_needJob h9 h hj hn hR) kT_needJob ml_X5_102 ⟨Nat.le_of_ble_eq_true rfl, Nat.le_of_ble_eq_true rfl⟩ rfl (LBS_ob hb) rfl (by decide) ⟨Nat.le_of_ble_eq_true rfl, Nat.le_of_ble_eq_true rfl⟩ _ rfl (fun _ _ _ q => q)
theorem e_blockedTime (h9 : (gl Γ).stackTraces = false) (h : CC Γ P I σ κ N σ2 κ2 N2 oc D cs n H) {m : Int} (hm : inR m) (hn : ¬ mOk D m) (hR : Rp P I) : ClT Γ mT_blockedTime [vR 30, vI m] P I (tX exIO Rp) := by
  refine clt_of nT_blockedTime (Nat.le_of_ble_eq_true rfl) ?_
  have hb := h.b
  have ha := h.wr.a
  have hp48 := LSch_p (LBS_s hb)
  have hsh := LPlan_s hp48
  refine y_aload_n 0 dX5_blockedTime_0 rfl ?_
  refine y_iload_n 1 dX5_blockedTime_1 rfl ?_
  exact y_tV (μ := mT_blockedTime) dX5_blockedTime_2 (e_needMachine h9 h hm hn hR) kT_needMachine ml_X5_129 ⟨Nat.le_of_ble_eq_true rfl, Nat.le_of_ble_eq_true rfl⟩ rfl (LBS_ob hb) rfl (by decide) ⟨Nat.le_of_ble_eq_true rfl, Nat.le_of_ble_eq_true rfl⟩ _ rfl (fun _ _ _ q => q)
theorem e_deadlocks (h9 : (gl Γ).stackTraces = false) (h : CC Γ P I σ κ N σ2 κ2 N2 oc D cs n H) {m p : Int} (hm : inR m) (hp : inR p) (hn : ¬ sOk D m p) (hR : Rp P I) : ClT Γ mT_deadlocks [vR 30, vI m, vI p] P I (tX exIO Rp) := by
  refine clt_of nT_deadlocks (Nat.le_of_ble_eq_true rfl) ?_
  have hb := h.b
  have ha := h.wr.a
  have hp48 := LSch_p (LBS_s hb)
  have hsh := LPlan_s hp48
  refine y_aload_n 0 dX5_deadlocks_0 rfl ?_
  refine y_iload_n 1 dX5_deadlocks_1 rfl ?_
  refine y_iload_n 2 dX5_deadlocks_2 rfl ?_
  exact y_tV (μ := mT_deadlocks) dX5_deadlocks_3 (e_needSwap h9 h hm hp hn hR) kT_needSwap ml_X5_191 ⟨Nat.le_of_ble_eq_true rfl, Nat.le_of_ble_eq_true rfl⟩ rfl (LBS_ob hb) rfl (by decide) ⟨Nat.le_of_ble_eq_true rfl, Nat.le_of_ble_eq_true rfl⟩ _ rfl (fun _ _ _ q => q)
theorem e_makespanAfter (h9 : (gl Γ).stackTraces = false) (h : CC Γ P I σ κ N σ2 κ2 N2 oc D cs n H) {m p : Int} (hm : inR m) (hp : inR p) (hn : ¬ sOk D m p) (hR : Rp P I) : ClT Γ mT_makespanAfter [vR 30, vI m, vI p] P I (tX exIO Rp) := by
  refine clt_of nT_makespanAfter (Nat.le_of_ble_eq_true rfl) ?_
  have hb := h.b
  have ha := h.wr.a
  have hp48 := LSch_p (LBS_s hb)
  have hsh := LPlan_s hp48
  refine y_aload_n 0 dX5_makespanAfter_0 rfl ?_
  refine y_iload_n 1 dX5_makespanAfter_1 rfl ?_
  refine y_iload_n 2 dX5_makespanAfter_2 rfl ?_
  exact y_tV (μ := mT_makespanAfter) dX5_makespanAfter_3 (e_needSwap h9 h hm hp hn hR) kT_needSwap ml_X5_191 ⟨Nat.le_of_ble_eq_true rfl, Nat.le_of_ble_eq_true rfl⟩ rfl (LBS_ob hb) rfl (by decide) ⟨Nat.le_of_ble_eq_true rfl, Nat.le_of_ble_eq_true rfl⟩ _ rfl (fun _ _ _ q => q)
theorem e_swap (h9 : (gl Γ).stackTraces = false) (h : CC Γ P I σ κ N σ2 κ2 N2 oc D cs n H) {m p : Int} (hm : inR m) (hp : inR p) (hn : ¬ sOk D m p) (hR : Rp P I) : ClT Γ mT_swap [vR 30, vI m, vI p] P I (tX exIO Rp) := by
  refine clt_of nT_swap (Nat.le_of_ble_eq_true rfl) ?_
  have hb := h.b
  have ha := h.wr.a
  have hp48 := LSch_p (LBS_s hb)
  have hsh := LPlan_s hp48
  refine y_aload_n 0 dX5_swap_0 rfl ?_
  refine y_iload_n 1 dX5_swap_1 rfl ?_
  refine y_iload_n 2 dX5_swap_2 rfl ?_
  exact y_tV (μ := mT_swap) dX5_swap_3 (e_needSwap h9 h hm hp hn hR) kT_needSwap ml_X5_191 ⟨Nat.le_of_ble_eq_true rfl, Nat.le_of_ble_eq_true rfl⟩ rfl (LBS_ob hb) rfl (by decide) ⟨Nat.le_of_ble_eq_true rfl, Nat.le_of_ble_eq_true rfl⟩ _ rfl (fun _ _ _ q => q)
theorem e_operation (h9 : (gl Γ).stackTraces = false) (h : CC Γ P I σ κ N σ2 κ2 N2 oc D cs n H) {j k w : Int} (hj : inR j) (hk : inR k) (hw : inR w) (hn : ¬ oOk D j k) (hR : Rp P I) : ClT Γ mT_operation [vR 30, vI j, vI k, vI w] P I (tX exIO Rp) := by
  refine clt_of nT_operation (Nat.le_of_ble_eq_true rfl) ?_
  have hb := h.b
  have ha := h.wr.a
  have hp48 := LSch_p (LBS_s hb)
  have hsh := LPlan_s hp48
  refine y_aload_n 0 dX5_operation_0 rfl ?_
  refine y_iload_n 1 dX5_operation_1 rfl ?_
  refine y_iload_n 2 dX5_operation_2 rfl ?_
  exact y_tV (μ := mT_operation) dX5_operation_3 (e_needOperation h9 h hj hk hn hR) kT_needOperation ml_X5_110 ⟨Nat.le_of_ble_eq_true rfl, Nat.le_of_ble_eq_true rfl⟩ rfl (LBS_ob hb) rfl (by decide) ⟨Nat.le_of_ble_eq_true rfl, Nat.le_of_ble_eq_true rfl⟩ _ rfl (fun _ _ _ q => q)
theorem e_place (h9 : (gl Γ).stackTraces = false) (h : CC Γ P I σ κ N σ2 κ2 N2 oc D cs n H) {j k p : Int} (hj : inR j) (hk : inR k) (hp : inR p) (hn : ¬ oOk D j k) (hR : Rp P I) : ClT Γ mT_place [vR 30, vI j, vI k, vI p] P I (tX exIO Rp) := by
  refine clt_of nT_place (Nat.le_of_ble_eq_true rfl) ?_
  have hb := h.b
  have ha := h.wr.a
  have hp48 := LSch_p (LBS_s hb)
  have hsh := LPlan_s hp48
  refine y_aload_n 0 dX5_place_0 rfl ?_
  refine y_iload_n 1 dX5_place_1 rfl ?_
  refine y_iload_n 2 dX5_place_2 rfl ?_
  exact y_tV (μ := mT_place) dX5_place_3 (e_needOperation h9 h hj hk hn hR) kT_needOperation ml_X5_110 ⟨Nat.le_of_ble_eq_true rfl, Nat.le_of_ble_eq_true rfl⟩ rfl (LBS_ob hb) rfl (by decide) ⟨Nat.le_of_ble_eq_true rfl, Nat.le_of_ble_eq_true rfl⟩ _ rfl (fun _ _ _ q => q)
theorem e_setDuration (h9 : (gl Γ).stackTraces = false) (h : CC Γ P I σ κ N σ2 κ2 N2 oc D cs n H) {j k d : Int} (hj : inR j) (hk : inR k) (hd : inR d) (hn : ¬ oOk D j k) (hR : Rp P I) : ClT Γ mT_setDuration [vR 30, vI j, vI k, vI d] P I (tX exIO Rp) := by
  refine clt_of nT_setDuration (Nat.le_of_ble_eq_true rfl) ?_
  have hb := h.b
  have ha := h.wr.a
  have hp48 := LSch_p (LBS_s hb)
  have hsh := LPlan_s hp48
  refine y_aload_n 0 dX5_setDuration_0 rfl ?_
  refine y_iload_n 1 dX5_setDuration_1 rfl ?_
  refine y_iload_n 2 dX5_setDuration_2 rfl ?_
  exact y_tV (μ := mT_setDuration) dX5_setDuration_3 (e_needOperation h9 h hj hk hn hR) kT_needOperation ml_X5_110 ⟨Nat.le_of_ble_eq_true rfl, Nat.le_of_ble_eq_true rfl⟩ rfl (LBS_ob hb) rfl (by decide) ⟨Nat.le_of_ble_eq_true rfl, Nat.le_of_ble_eq_true rfl⟩ _ rfl (fun _ _ _ q => q)
theorem e2_operation (h9 : (gl Γ).stackTraces = false) (h : CC Γ P I σ κ N σ2 κ2 N2 oc D cs n H) {j k w : Int} (hj : inR j) (hk : inR k) (hw : inR w) (ho : oOk D j k) (hw2 : w < 0 ∨ 2 < w) (hR : Rp P I) : ClT Γ mT_operation [vR 30, vI j, vI k, vI w] P I (tX exIA Rp) := by
  refine clt_of nT_operation (Nat.le_of_ble_eq_true rfl) ?_
  have hb := h.b
  have ha := h.wr.a
  have hp48 := LSch_p (LBS_s hb)
  have hsh := LPlan_s hp48
  obtain ⟨o, hv, eo, e1, e2⟩ := ho.nat h.wr
  have y1 := ho.1.1
  have y2 := ho.1.2
  have y3 := ho.2.1
  refine y_aload_n 0 dX5_operation_0 rfl ?_
  refine y_iload_n 1 dX5_operation_1 rfl ?_
  refine y_iload_n 2 dX5_operation_2 rfl ?_
  refine y_Vv (μ := mT_operation) (R := fun J => J = I) dX5_operation_3 (d_needOperation h hj hk ho rfl) k_X5_needOperation ml_X5_110 ⟨Nat.le_of_ble_eq_true rfl, Nat.le_of_ble_eq_true rfl⟩ ⟨rfl, rfl⟩ ⟨by decide, by decide⟩ rfl (LBS_ob hb) rfl (by decide) _ rfl (fun J hJ => ?_)
  have hJ := hJ.symm
  subst hJ
  refine y_iload_n 1 dX5_operation_6 rfl ?_
  refine y_iload_n 2 dX5_operation_7 rfl ?_
  rw [show j = ((j.toNat : Nat) : Int) by omega, show k = ((k.toNat : Nat) : Int) by omega]
  refine y_Si (μ := mT_operation) (R := fun z J => J = I) dX5_operation_8 (d_idOf rfl) k_X5_idOf ml_X5_113 ⟨Nat.le_of_ble_eq_true rfl, Nat.le_of_ble_eq_true rfl⟩ ⟨rfl, rfl⟩ ⟨by decide, by decide⟩ rfl (by decide) _ rfl (fun z J hJ => ?_)
  have hJ := hJ.symm
  subst hJ
  refine y_istore dX5_operation_11 rfl rfl (by decide) ?_
  refine y_iload_n 3 dX5_operation_13 rfl ?_
  refine y_tableOut 75 dX5_operation_14 hw hw2 (by decide) ?_
  exact y_throw exIA "what is not 0 to 2" 32 h9 excIA fitIA thK_ia thI_ia (by decide +kernel) thA_ia dX5_operation_75 dX5_operation_78 dX5_operation_79 dX5_operation_81 dX5_operation_84 ⟨by decide, by decide, by decide, by decide⟩ (by decide) ⟨rfl, hR⟩
theorem e_orderAt (h9 : (gl Γ).stackTraces = false) (h : CC Γ P I σ κ N σ2 κ2 N2 oc D cs n H) {m p : Int} (hm : inR m) (hp : inR p) (hn : ¬ pOk D m p) (hR : Rp P I) : ClT Γ mT_orderAt [vR 30, vI m, vI p] P I (tX exIO Rp) := by
  refine clt_of nT_orderAt (Nat.le_of_ble_eq_true rfl) ?_
  have hb := h.b
  have ha := h.wr.a
  have hp48 := LSch_p (LBS_s hb)
  have hsh := LPlan_s hp48
  have thr : ∀ al, XE (some []) Γ Γ mT_orderAt 0 0 25 al [] P I (EX Γ mT_orderAt (tX exIO Rp)) := fun al => y_throw exIO "no such position" 25 h9 excIO fitIO thK_io thI_io (by decide +kernel) thA_io dX5_orderAt_25 dX5_orderAt_28 dX5_orderAt_29 dX5_orderAt_31 dX5_orderAt_34 ⟨by decide, by decide, by decide, by decide⟩ (by decide) ⟨rfl, hR⟩
  refine y_aload_n 0 dX5_orderAt_0 rfl ?_
  refine y_iload_n 1 dX5_orderAt_1 rfl ?_
  by_cases hm1 : mOk D m
  · refine y_Vv (μ := mT_orderAt) (R := fun J => J = I) dX5_orderAt_2 (d_needMachine h hm hm1 rfl) k_X5_needMachine ml_X5_129 ⟨Nat.le_of_ble_eq_true rfl, Nat.le_of_ble_eq_true rfl⟩ ⟨rfl, rfl⟩ ⟨by decide, by decide⟩ rfl (LBS_ob hb) rfl (by decide) _ rfl (fun J hJ => ?_)
    have hJ := hJ.symm
    subst hJ
    obtain ⟨y1, y2⟩ := hm1
    have hmm := h.wr.2.2.2 m.toNat (by omega)
    refine y_iload_n 2 dX5_orderAt_5 rfl ?_
    refine y_if_lt 25 dX5_orderAt_6 (by decide) hp (fun _ => thr _) (fun z => ?_)
    refine y_iload_n 2 dX5_orderAt_9 rfl ?_
    refine y_aload_n 0 dX5_orderAt_10 rfl ?_
    refine y_getP dX5_orderAt_11 FC5 4 (by decide) rfl fl_X5_51 (LBS_ob hb) (LBS_p4 hb) ?_
    refine y_getP dX5_orderAt_14 FC1 0 (by decide) rfl fl_X5_95 (LPlan_ob hp48) (LPlan_p0 hp48) ?_
    refine y_getP dX5_orderAt_17 FC4 5 (by decide) rfl fl_X5_132 (LShop_ob hsh) (LShop_p5 hsh) ?_
    refine y_iload_n 1 dX5_orderAt_20 rfl ?_
    refine y_iald dX5_orderAt_21 (LShop_a5 hsh) (by omega) (by omega) (by decide) ?_
    rw [(h.p.sh.2.2.2.1 m.toNat (by omega)).2.2]
    refine y_icmp_lt 35 dX5_orderAt_22 (by decide) hp ⟨by omega, by omega⟩ (fun z2 => absurd ⟨⟨y1, y2⟩, by omega, z2⟩ hn) (fun _ => thr _)
  · exact y_tV (μ := mT_orderAt) dX5_orderAt_2 (e_needMachine h9 h hm hm1 hR) kT_needMachine ml_X5_129 ⟨Nat.le_of_ble_eq_true rfl, Nat.le_of_ble_eq_true rfl⟩ rfl (LBS_ob hb) rfl (by decide) ⟨Nat.le_of_ble_eq_true rfl, Nat.le_of_ble_eq_true rfl⟩ _ rfl (fun _ _ _ q => q)
theorem e_critical (h9 : (gl Γ).stackTraces = false) (h : CC Γ P I σ κ N σ2 κ2 N2 oc D cs n H) {k : Int} (hk : inR k) (hn : ¬ (0 ≤ k ∧ k < ((pathX D).length : Int))) (hR : ∀ J, kpC I J → Rp P J) : ClT Γ mT_critical [vR 30, vI k] P I (tX nsE Rp) := by
  refine clt_of nT_critical (Nat.le_of_ble_eq_true rfl) ?_
  have hb := h.b
  have ha := h.wr.a
  have hp48 := LSch_p (LBS_s hb)
  have hsh := LPlan_s hp48
  have hl := opsL_len h.po
  refine y_aload_n 0 dX5_critical_0 rfl ?_
  refine y_getP dX5_critical_1 FC5 3 (by decide) rfl fl_X5_43 (LBS_ob hb) (LBS_p3 hb) ?_
  refine y_Vv (μ := mT_critical) (R := fun J => kpC I J ∧ J 40 6 = ((pathX D).length : Int)) dX5_critical_4 (d_trace h.c h.sc (fun J a b _ => ⟨a.kc, b⟩)) k_X2_traceCriticalPath ml_X5_168 ⟨Nat.le_of_ble_eq_true rfl, Nat.le_of_ble_eq_true rfl⟩ ⟨rfl, rfl⟩ ⟨by decide, by decide⟩ rfl (LSch_ob (LBS_s hb)) rfl (by decide) _ rfl (fun J hJ => ?_)
  have hR := hR J hJ.1
  have thr : ∀ al, XE (some []) Γ Γ mT_critical 0 0 22 al [] P J (EX Γ mT_critical (tX nsE Rp)) := fun al => y_throwN "the critical path has no such index" 28 h9 thK_ns thI_ns (by decide +kernel) thA_ns dX5_critical_22 dX5_critical_25 dX5_critical_26 dX5_critical_28 dX5_critical_31 ⟨by decide, by decide, by decide, by decide⟩ (by decide) ⟨rfl, hR⟩
  refine y_iload_n 1 dX5_critical_7 rfl ?_
  refine y_if_lt 22 dX5_critical_8 (by decide) hk (fun _ => thr _) (fun z => ?_)
  refine y_iload_n 1 dX5_critical_11 rfl ?_
  refine y_aload_n 0 dX5_critical_12 rfl ?_
  refine y_getP dX5_critical_13 FC5 3 (by decide) rfl fl_X5_43 (LBS_ob hb) (LBS_p3 hb) ?_
  refine y_getI dX5_critical_16 FC2 6 (by decide) rfl fl_X5_171 (LSch_ob (LBS_s hb)) ?_
  rw [hJ.2]
  refine y_icmp_lt 32 dX5_critical_19 (by decide) hk ⟨by omega, by omega⟩ (fun z2 => absurd ⟨by omega, z2⟩ hn) (fun _ => thr _)
theorem e_improve (h9 : (gl Γ).stackTraces = false) (h : CC Γ P I σ κ N σ2 κ2 N2 oc D cs n H) {x : Int} (hx : inR x) (hn : ¬ (1 ≤ x ∧ x ≤ 20)) (hR : Rp P I) : ClT Γ mT_improve [vR 30, vI x] P I (tX exIA Rp) := by
  refine clt_of nT_improve (Nat.le_of_ble_eq_true rfl) ?_
  have hb := h.b
  have ha := h.wr.a
  have hp48 := LSch_p (LBS_s hb)
  have hsh := LPlan_s hp48
  have thr : ∀ al, XE (some []) Γ Γ mT_improve 0 0 11 al [] P I (EX Γ mT_improve (tX exIA Rp)) := fun al => y_throw exIA "most is not 1 to 20" 21 h9 excIA fitIA thK_ia thI_ia (by decide +kernel) thA_ia dX5_improve_11 dX5_improve_14 dX5_improve_15 dX5_improve_17 dX5_improve_20 ⟨by decide, by decide, by decide, by decide⟩ (by decide) ⟨rfl, hR⟩
  refine y_iload_n 1 dX5_improve_0 rfl ?_
  refine y_iconst dX5_improve_1 ?_
  refine y_icmp_lt 11 dX5_improve_2 (by decide) hx ⟨by decide, by decide⟩ (fun _ => thr _) (fun z => ?_)
  refine y_iload_n 1 dX5_improve_5 rfl ?_
  refine y_bipush dX5_improve_6 rfl ?_
  refine y_icmp_le 21 dX5_improve_8 (by decide) hx ⟨by decide, by decide⟩ (fun z2 => absurd ⟨by omega, z2⟩ hn) (fun _ => thr _)
theorem e2_setDuration (h9 : (gl Γ).stackTraces = false) (h : CC Γ P I σ κ N σ2 κ2 N2 oc D cs n H) {j k d : Int} (hj : inR j) (hk : inR k) (hd : inR d) (ho : oOk D j k) (hn : ¬ (1 ≤ d ∧ d ≤ 99)) (hR : Rp P I) : ClT Γ mT_setDuration [vR 30, vI j, vI k, vI d] P I (tX exIA Rp) := by
  refine clt_of nT_setDuration (Nat.le_of_ble_eq_true rfl) ?_
  have hb := h.b
  have ha := h.wr.a
  have hp48 := LSch_p (LBS_s hb)
  have hsh := LPlan_s hp48
  have thr : ∀ al, XE (some []) Γ Γ mT_setDuration 0 0 17 al [] P I (EX Γ mT_setDuration (tX exIA Rp)) := fun al => y_throw exIA "the duration is not 1 to 99" 29 h9 excIA fitIA thK_ia thI_ia (by decide +kernel) thA_ia dX5_setDuration_17 dX5_setDuration_20 dX5_setDuration_21 dX5_setDuration_23 dX5_setDuration_26 ⟨by decide, by decide, by decide, by decide⟩ (by decide) ⟨rfl, hR⟩
  refine y_aload_n 0 dX5_setDuration_0 rfl ?_
  refine y_iload_n 1 dX5_setDuration_1 rfl ?_
  refine y_iload_n 2 dX5_setDuration_2 rfl ?_
  refine y_Vv (μ := mT_setDuration) (R := fun J => J = I) dX5_setDuration_3 (d_needOperation h hj hk ho rfl) k_X5_needOperation ml_X5_110 ⟨Nat.le_of_ble_eq_true rfl, Nat.le_of_ble_eq_true rfl⟩ ⟨rfl, rfl⟩ ⟨by decide, by decide⟩ rfl (LBS_ob hb) rfl (by decide) _ rfl (fun J hJ => ?_)
  have hJ := hJ.symm
  subst hJ
  refine y_iload_n 3 dX5_setDuration_6 rfl ?_
  refine y_iconst dX5_setDuration_7 ?_
  refine y_icmp_lt 17 dX5_setDuration_8 (by decide) hd ⟨by decide, by decide⟩ (fun _ => thr _) (fun z => ?_)
  refine y_iload_n 3 dX5_setDuration_11 rfl ?_
  refine y_bipush dX5_setDuration_12 rfl ?_
  refine y_icmp_le 27 dX5_setDuration_14 (by decide) hd ⟨by decide, by decide⟩ (fun z2 => absurd ⟨by omega, z2⟩ hn) (fun _ => thr _)
theorem e2_swap (h9 : (gl Γ).stackTraces = false) (h : CC Γ P I σ κ N σ2 κ2 N2 oc D cs n H) {m p : Int} (hm : inR m) (hp : inR p) (hk : sOk D m p) (hf : ¬ Fr (exF D m.toNat p.toNat)) (hR : ∀ P1 J, kP P P1 → kpC I J → CC Γ P1 J σ κ N σ κ N oc D cs n H → Rp P1 J) : ClT Γ mT_swap [vR 30, vI m, vI p] P I (tX exIS Rp) := by
  refine clt_of nT_swap (Nat.le_of_ble_eq_true rfl) ?_
  have hb := h.b
  have ha := h.wr.a
  have hp48 := LSch_p (LBS_s hb)
  have hsh := LPlan_s hp48
  obtain ⟨a, b, e1, e2, h1, h2, e3, e4⟩ := hk.nat
  rw [e3, e4] at hf
  refine y_aload_n 0 dX5_swap_0 rfl ?_
  refine y_iload_n 1 dX5_swap_1 rfl ?_
  refine y_iload_n 2 dX5_swap_2 rfl ?_
  refine y_Vv (μ := mT_swap) (R := fun J => J = I) dX5_swap_3 (d_needSwap h hm hp hk rfl) k_X5_needSwap ml_X5_191 ⟨Nat.le_of_ble_eq_true rfl, Nat.le_of_ble_eq_true rfl⟩ ⟨rfl, rfl⟩ ⟨by decide, by decide⟩ rfl (LBS_ob hb) rfl (by decide) _ rfl (fun J hJ => ?_)
  have hJ := hJ.symm
  subst hJ
  refine y_aload_n 0 dX5_swap_6 rfl ?_
  refine y_iload_n 1 dX5_swap_7 rfl ?_
  refine y_iload_n 2 dX5_swap_8 rfl ?_
  rw [e1, e2]
  refine y_Vpi (μ := mT_swap) (R := fun z P1 J => z = 0 ∧ kP P P1 ∧ kpC I J ∧ CC Γ P1 J σ κ N σ κ N oc D cs n H) dX5_swap_9 (b_trySwap h h1 h2 (fun P1 J k1 k2 k3 hf2 hC hS => absurd hf2 hf) (fun P1 J k1 k2 k3 hf2 => ⟨rfl, k1, k2, k3⟩)) k_X5_trySwap ml_X5_194 ⟨Nat.le_of_ble_eq_true rfl, Nat.le_of_ble_eq_true rfl⟩ ⟨rfl, rfl⟩ ⟨by decide, by decide⟩ rfl (LBS_ob hb) rfl (by decide) _ rfl (fun z P1 J hJ => ?_)
  obtain ⟨rfl, k1, k2, k3⟩ := hJ
  have hR := hR P1 J k1 k2 k3
  refine y_if_ne 25 dX5_swap_12 (by decide) ⟨by decide, by decide⟩ (fun z => absurd rfl z) (fun _ => ?_)
  exact y_throw exIS "the swap would deadlock the plan" 31 h9 excIS fitIS thK_is thI_is (by decide +kernel) thA_is dX5_swap_15 dX5_swap_18 dX5_swap_19 dX5_swap_21 dX5_swap_24 ⟨by decide, by decide, by decide, by decide⟩ (by decide) ⟨rfl, hR⟩
theorem e_load (h9 : (gl Γ).stackTraces = false) (h : CC Γ P I σ κ N σ2 κ2 N2 oc D cs n H) {x : Int} (hx : inR x) {B : Nat} (hB : I 30 1 = (B : Int)) (hB9 : B ≤ 900) (hn : ¬ (0 ≤ x ∧ x ≤ (B : Int))) (hR : Rp P I) : ClT Γ mT_load [vR 30, vI x] P I (tX exIA Rp) := by
  refine clt_of nT_load (Nat.le_of_ble_eq_true rfl) ?_
  have hb := h.b
  have ha := h.wr.a
  have hp48 := LSch_p (LBS_s hb)
  have hsh := LPlan_s hp48
  have thr : ∀ al, XE (some []) Γ Γ mT_load 0 0 12 al [] P I (EX Γ mT_load (tX exIA Rp)) := fun al => y_throw exIA "the buffer has no such length" 27 h9 excIA fitIA thK_ia thI_ia (by decide +kernel) thA_ia dX5_load_12 dX5_load_15 dX5_load_16 dX5_load_18 dX5_load_21 ⟨by decide, by decide, by decide, by decide⟩ (by decide) ⟨rfl, hR⟩
  refine y_iload_n 1 dX5_load_0 rfl ?_
  refine y_if_lt 12 dX5_load_1 (by decide) hx (fun _ => thr _) (fun z => ?_)
  refine y_iload_n 1 dX5_load_4 rfl ?_
  refine y_aload_n 0 dX5_load_5 rfl ?_
  refine y_getI dX5_load_6 FC5 1 (by decide) rfl fl_X5_16 (LBS_ob hb) ?_
  rw [hB]
  refine y_icmp_le 22 dX5_load_9 (by decide) hx ⟨by omega, by omega⟩ (fun z2 => absurd ⟨by omega, z2⟩ hn) (fun _ => thr _)
theorem e2_place (h9 : (gl Γ).stackTraces = false) (h : CC Γ P I σ κ N σ2 κ2 N2 oc D cs n H) {j k p : Int} (hj : inR j) (hk : inR k) (hp : inR p) {o : Nat} (ho : oOk D j k) (hv : vO D o) (eo : 6 * j + k = (o : Int)) (hn : ¬ (0 ≤ p ∧ p < D (5 + 9 * mcO D o + 2))) (hR : Rp P I) : ClT Γ mT_place [vR 30, vI j, vI k, vI p] P I (tX exIO Rp) := by
  refine clt_of nT_place (Nat.le_of_ble_eq_true rfl) ?_
  have hb := h.b
  have ha := h.wr.a
  have hp48 := LSch_p (LBS_s hb)
  have hsh := LPlan_s hp48
  have hW := h.wr
  have h36 := hv.1
  have j0 := ho.1.1
  have k0 := ho.2.1
  obtain ⟨m1, m2⟩ := mcO_lt hW h36
  obtain ⟨q1, q2, q3⟩ := plD_at hW h.p.wo hv
  have hmm := hW.2.2.2 _ m1
  have thr : ∀ al, XE (some []) Γ Γ mT_place 0 0 49 al [] P I (EX Γ mT_place (tX exIO Rp)) := fun al => y_throw exIO "its machine has no such position" 20 h9 excIO fitIO thK_io thI_io (by decide +kernel) thA_io dX5_place_49 dX5_place_52 dX5_place_53 dX5_place_55 dX5_place_58 ⟨by decide, by decide, by decide, by decide⟩ (by decide) ⟨rfl, hR⟩
  refine y_aload_n 0 dX5_place_0 rfl ?_
  refine y_iload_n 1 dX5_place_1 rfl ?_
  refine y_iload_n 2 dX5_place_2 rfl ?_
  refine y_Vv (μ := mT_place) (R := fun J => J = I) dX5_place_3 (d_needOperation h hj hk ho rfl) k_X5_needOperation ml_X5_110 ⟨Nat.le_of_ble_eq_true rfl, Nat.le_of_ble_eq_true rfl⟩ ⟨rfl, rfl⟩ ⟨by decide, by decide⟩ rfl (LBS_ob hb) rfl (by decide) _ rfl (fun J hJ => ?_)
  have hJ := hJ.symm
  subst hJ
  refine y_iload_n 1 dX5_place_6 rfl ?_
  refine y_iload_n 2 dX5_place_7 rfl ?_
  rw [show j = ((j.toNat : Nat) : Int) by omega, show k = ((k.toNat : Nat) : Int) by omega]
  refine y_Si (μ := mT_place) (R := fun z J => z = (o : Int) ∧ J = I) dX5_place_8 (d_idOf ⟨by omega, rfl⟩) k_X5_idOf ml_X5_113 ⟨Nat.le_of_ble_eq_true rfl, Nat.le_of_ble_eq_true rfl⟩ ⟨rfl, rfl⟩ ⟨by decide, by decide⟩ rfl (by decide) _ rfl (fun z J hJ => ?_)
  obtain ⟨hz, hJ⟩ := hJ
  subst hz
  have hJ := hJ.symm
  subst hJ
  refine y_istore dX5_place_11 rfl rfl (by decide) ?_
  refine y_aload_n 0 dX5_place_13 rfl ?_
  refine y_getP dX5_place_14 FC5 4 (by decide) rfl fl_X5_51 (LBS_ob hb) (LBS_p4 hb) ?_
  refine y_getP dX5_place_17 FC1 0 (by decide) rfl fl_X5_95 (LPlan_ob hp48) (LPlan_p0 hp48) ?_
  refine y_getP dX5_place_20 FC4 10 (by decide) rfl fl_X5_117 (LShop_ob hsh) (LShop_p10 hsh) ?_
  refine y_iload 4 dX5_place_23 rfl ?_
  refine y_iald dX5_place_25 (LShop_a10 hsh) (by omega) (by omega) (by decide) ?_
  rw [Int.toNat_natCast, h.p.sh.2.2.2.2.2 o hv, m2]
  refine y_istore dX5_place_26 rfl rfl (by decide) ?_
  refine y_iload_n 3 dX5_place_28 rfl ?_
  refine y_if_lt 49 dX5_place_29 (by decide) hp (fun _ => thr _) (fun z => ?_)
  refine y_iload_n 3 dX5_place_32 rfl ?_
  refine y_aload_n 0 dX5_place_33 rfl ?_
  refine y_getP dX5_place_34 FC5 4 (by decide) rfl fl_X5_51 (LBS_ob hb) (LBS_p4 hb) ?_
  refine y_getP dX5_place_37 FC1 0 (by decide) rfl fl_X5_95 (LPlan_ob hp48) (LPlan_p0 hp48) ?_
  refine y_getP dX5_place_40 FC4 5 (by decide) rfl fl_X5_132 (LShop_ob hsh) (LShop_p5 hsh) ?_
  refine y_iload 5 dX5_place_43 rfl ?_
  refine y_iald dX5_place_45 (LShop_a5 hsh) (by omega) (by omega) (by decide) ?_
  rw [Int.toNat_natCast, (h.p.sh.2.2.2.1 _ q1).2.2]
  refine y_icmp_lt 59 dX5_place_46 (by decide) hp ⟨by omega, by omega⟩ (fun z2 => absurd ⟨by omega, z2⟩ hn) (fun _ => thr _)
theorem e3_place (h9 : (gl Γ).stackTraces = false) (h : CC Γ P I σ κ N σ2 κ2 N2 oc D cs n H) {j k p : Int} (hj : inR j) (hk : inR k) (hp : inR p) {o : Nat} (ho : oOk D j k) (hv : vO D o) (eo : 6 * j + k = (o : Int)) (p0 : 0 ≤ p) (p1 : p < D (5 + 9 * mcO D o + 2)) (hf : ¬ Fr (mvF D (mcO D o) (plD D o) p.toNat)) (hR : ∀ P1 J, kP P P1 → kpC I J → CC Γ P1 J σ κ N σ κ N oc D cs n H → Rp P1 J) : ClT Γ mT_place [vR 30, vI j, vI k, vI p] P I (tX exIS Rp) := by
  refine clt_of nT_place (Nat.le_of_ble_eq_true rfl) ?_
  have hb := h.b
  have ha := h.wr.a
  have hp48 := LSch_p (LBS_s hb)
  have hsh := LPlan_s hp48
  have hW := h.wr
  have h36 := hv.1
  have j0 := ho.1.1
  have k0 := ho.2.1
  obtain ⟨m1, m2⟩ := mcO_lt hW h36
  obtain ⟨q1, q2, q3⟩ := plD_at hW h.p.wo hv
  have hmm := hW.2.2.2 _ m1
  have mv := mvF_ok (m := mcO D o) (f := plD D o) (t := p.toNat) m1 hW h.p.wo q1 q2 (by omega)
  refine y_aload_n 0 dX5_place_0 rfl ?_
  refine y_iload_n 1 dX5_place_1 rfl ?_
  refine y_iload_n 2 dX5_place_2 rfl ?_
  refine y_Vv (μ := mT_place) (R := fun J => J = I) dX5_place_3 (d_needOperation h hj hk ho rfl) k_X5_needOperation ml_X5_110 ⟨Nat.le_of_ble_eq_true rfl, Nat.le_of_ble_eq_true rfl⟩ ⟨rfl, rfl⟩ ⟨by decide, by decide⟩ rfl (LBS_ob hb) rfl (by decide) _ rfl (fun J hJ => ?_)
  have hJ := hJ.symm
  subst hJ
  refine y_iload_n 1 dX5_place_6 rfl ?_
  refine y_iload_n 2 dX5_place_7 rfl ?_
  rw [show j = ((j.toNat : Nat) : Int) by omega, show k = ((k.toNat : Nat) : Int) by omega]
  refine y_Si (μ := mT_place) (R := fun z J => z = (o : Int) ∧ J = I) dX5_place_8 (d_idOf ⟨by omega, rfl⟩) k_X5_idOf ml_X5_113 ⟨Nat.le_of_ble_eq_true rfl, Nat.le_of_ble_eq_true rfl⟩ ⟨rfl, rfl⟩ ⟨by decide, by decide⟩ rfl (by decide) _ rfl (fun z J hJ => ?_)
  obtain ⟨hz, hJ⟩ := hJ
  subst hz
  have hJ := hJ.symm
  subst hJ
  refine y_istore dX5_place_11 rfl rfl (by decide) ?_
  refine y_aload_n 0 dX5_place_13 rfl ?_
  refine y_getP dX5_place_14 FC5 4 (by decide) rfl fl_X5_51 (LBS_ob hb) (LBS_p4 hb) ?_
  refine y_getP dX5_place_17 FC1 0 (by decide) rfl fl_X5_95 (LPlan_ob hp48) (LPlan_p0 hp48) ?_
  refine y_getP dX5_place_20 FC4 10 (by decide) rfl fl_X5_117 (LShop_ob hsh) (LShop_p10 hsh) ?_
  refine y_iload 4 dX5_place_23 rfl ?_
  refine y_iald dX5_place_25 (LShop_a10 hsh) (by omega) (by omega) (by decide) ?_
  rw [Int.toNat_natCast, h.p.sh.2.2.2.2.2 o hv, m2]
  refine y_istore dX5_place_26 rfl rfl (by decide) ?_
  refine y_iload_n 3 dX5_place_28 rfl ?_
  refine y_if_lt 49 dX5_place_29 (by decide) hp (fun z => absurd p0 (by omega)) (fun z => ?_)
  refine y_iload_n 3 dX5_place_32 rfl ?_
  refine y_aload_n 0 dX5_place_33 rfl ?_
  refine y_getP dX5_place_34 FC5 4 (by decide) rfl fl_X5_51 (LBS_ob hb) (LBS_p4 hb) ?_
  refine y_getP dX5_place_37 FC1 0 (by decide) rfl fl_X5_95 (LPlan_ob hp48) (LPlan_p0 hp48) ?_
  refine y_getP dX5_place_40 FC4 5 (by decide) rfl fl_X5_132 (LShop_ob hsh) (LShop_p5 hsh) ?_
  refine y_iload 5 dX5_place_43 rfl ?_
  refine y_iald dX5_place_45 (LShop_a5 hsh) (by omega) (by omega) (by decide) ?_
  rw [Int.toNat_natCast, (h.p.sh.2.2.2.1 _ q1).2.2]
  refine y_icmp_lt 59 dX5_place_46 (by decide) hp ⟨by omega, by omega⟩ (fun _ => ?_) (fun z2 => absurd p1 z2)
  refine y_aload_n 0 dX5_place_59 rfl ?_
  refine y_getP dX5_place_60 FC5 6 (by decide) rfl fl_X5_55 (LBS_ob hb) (LBS_p6 hb) ?_
  refine y_aload_n 0 dX5_place_63 rfl ?_
  refine y_getP dX5_place_64 FC5 4 (by decide) rfl fl_X5_51 (LBS_ob hb) (LBS_p4 hb) ?_
  have hs := h.p.hσ
  refine y_Vp (μ := mT_place) (R := fun P1 J => P1 = up2 P 68 0 (some σ) ∧ (∀ r, r ≠ 69 → r ≠ 70 → J r = I r) ∧ PR Γ P1 J 68 σ κ N D cs) dX5_place_67 (d_copyFrom (LSch_p (LBS_t hb)) h.p (by decide) (by decide) (by decide) (fun P1 J e1 fJ hJ => ⟨e1, fJ, hJ⟩)) k_X1_copyFrom ml_X5_222 ⟨Nat.le_of_ble_eq_true rfl, Nat.le_of_ble_eq_true rfl⟩ ⟨rfl, rfl⟩ ⟨by decide, by decide⟩ rfl (LPlan_ob (LSch_p (LBS_t hb))) rfl (by decide) _ rfl (fun P1 J hq => ?_)
  obtain ⟨e1, fJ, hJ⟩ := hq
  have hL := h.1.trial h.p e1 hJ.l
  have hb1 := hL.1
  have ne : ∀ r, r ≠ 68 → P1 r = P r := fun r hr => by rw [e1]; exact up2_ne hr
  have p48 : ∀ K : MM, (∀ r, r ≠ 70 → K r = J r) → PR Γ P1 K 48 σ κ N D cs := fun K hK => (h.p.keep (fun r hr => by rw [hK r (by omega), fJ r (by omega) (by omega)])).keepP (fun r hr => ne r (by omega))
  refine y_aload_n 0 dX5_place_70 rfl ?_
  refine y_getP dX5_place_71 FC5 6 (by decide) rfl fl_X5_55 (LBS_ob hb1) (LBS_p6 hb1) ?_
  refine y_iload 5 dX5_place_74 rfl ?_
  refine y_aload_n 0 dX5_place_76 rfl ?_
  refine y_getP dX5_place_77 FC5 4 (by decide) rfl fl_X5_51 (LBS_ob hb1) (LBS_p4 hb1) ?_
  refine y_iload 4 dX5_place_80 rfl ?_
  refine y_Vi (μ := mT_place) (R := fun z K => z = (plD D o : Int) ∧ K = J) dX5_place_82 (d_positionOf (p48 J (fun _ _ => rfl)) hv ⟨rfl, rfl⟩) k_X1_positionOf ml_X5_123 ⟨Nat.le_of_ble_eq_true rfl, Nat.le_of_ble_eq_true rfl⟩ ⟨rfl, rfl⟩ ⟨by decide, by decide⟩ rfl (LPlan_ob (LSch_p (LBS_s hb1))) rfl (Nat.le_of_ble_eq_true rfl) _ rfl (fun z K hK => ?_)
  obtain ⟨hz, hK⟩ := hK
  subst hz
  have hK := hK.symm
  subst hK
  refine y_iload_n 3 dX5_place_85 rfl ?_
  rw [show p = ((p.toNat : Nat) : Int) by omega]
  refine y_Vv (μ := mT_place) (R := fun K => (∀ r, r ≠ 70 → K r = J r) ∧ PR Γ P1 K 68 σ κ N (mvF D (mcO D o) (plD D o) p.toNat) cs) dX5_place_86 (d_move hJ (by decide) (m := mcO D o) (f := plD D o) (t := p.toNat) q1 q2 (by omega) (fun K fK hK => ⟨fK, hK⟩)) k_X1_move ml_X5_226 ⟨Nat.le_of_ble_eq_true rfl, Nat.le_of_ble_eq_true rfl⟩ ⟨rfl, rfl⟩ ⟨by decide, by decide⟩ rfl (LPlan_ob (LSch_p (LBS_t hb1))) rfl (by decide) _ rfl (fun K hq => ?_)
  obtain ⟨fK, hK⟩ := hq
  have hC : CR Γ P1 K 60 σ κ N (mvF D (mcO D o) (plD D o) p.toNat) cs := hK.cr (LBS_t hb1) (by decide)
  refine y_aload_n 0 dX5_place_89 rfl ?_
  refine y_getP dX5_place_90 FC5 5 (by decide) rfl fl_X5_52 (LBS_ob hb1) (LBS_p5 hb1) ?_
  refine y_Vi (μ := mT_place) (R := fun z L => z = 0 ∧ cpO 60 K L) dX5_place_93 (d_compute hC (fun L fL hf2 hS => absurd hf2 hf) (fun L fL hf2 => ⟨rfl, fL⟩)) k_X2_compute ml_X5_88 ⟨Nat.le_of_ble_eq_true rfl, Nat.le_of_ble_eq_true rfl⟩ ⟨rfl, rfl⟩ ⟨by decide, by decide⟩ rfl (LSch_ob (LBS_t hb1)) rfl (by decide) _ rfl (fun z L hq => ?_)
  obtain ⟨rfl, fL⟩ := hq
  have kp : kpC I L := kpC.of (fun r a b c => by rw [fL r (by omega) (by omega) (by omega) (by omega), fK r (by omega), fJ r (by omega) (by omega)])
  have k3 : CC Γ P1 L σ κ N σ κ N oc D cs n H := ⟨hL, (h.p.keep (fun r hr => kp.1 r (by omega) (by omega) (by omega) (by omega))).keepP (fun r hr => ne r (by omega)), (h.q kp).sc, h.gn, h.ch.keep (fun r hr => ne r (by omega)) (fun r hr => kp.1 r (by omega) (by omega) (by omega) (by omega)) ⟨by rw [kp.1 30 (by decide) (by decide) (by decide) (by decide)], by rw [kp.1 30 (by decide) (by decide) (by decide) (by decide)]⟩⟩
  have hR := hR P1 L (fun r hr => ne r (by omega)) kp k3
  refine y_if_ne 109 dX5_place_96 (by decide) ⟨by decide, by decide⟩ (fun z => absurd rfl z) (fun _ => ?_)
  exact y_throw exIS "the plan would be deadlocked" 30 h9 excIS fitIS thK_is thI_is (by decide +kernel) thA_is dX5_place_99 dX5_place_102 dX5_place_103 dX5_place_105 dX5_place_108 ⟨by decide, by decide, by decide, by decide⟩ (by decide) ⟨rfl, hR⟩
end TH
