/-! THE LAW's wrappers (mkwrap.py): a call that answers, a call that throws -/
section XG
variable {tb : HTB} {Γ0 Γ : GG} {μ : MI} {cells slots pc : Nat} {al : List (Nat × AV)} {P : MP} {I : MM} {QG : KG}
theorem y_iretT {z : Int} {ρ : Nat → Nat} {ids : List Nat} {ty : Nat → CT} (hd : decode μ.2.2.1 pc = .ok (.ireturn, 1)) (hr : μ.2.2.2.2.1 = some .int) (hc : cells ≤ μ.2.2.2.2.2.cells) (hs : slots ≤ μ.2.2.2.2.2.slots) (hkp : Kp Γ0 (gX Γ0 ρ ids ty)) (hq : QG (gX Γ0 ρ ids ty) (some (vI z)) P I) : XE tb Γ0 (gX Γ0 ρ ids ty) μ cells slots pc al [vI z] P I (EM Γ0 μ (KQ Γ0 QG)) := by
  intro p e s m args below meth c B H locs ls hl hK hP hD hS hX
  refine W.widen hc hs ?_
  exact W.iret (v := Int32.ofInt z) B.1.1 B.1.2.1 (B.1.2.2.2.2.2.1.trans hr) (fun t ht hW => kq_of (v := some (vI z)) hkp hq ht hW hK hP hD hS) hS.2.2 hd B.1.2.2.2.2.2.2
theorem y_iretR {z : Int} (hd : decode μ.2.2.1 pc = .ok (.ireturn, 1)) (hr : μ.2.2.2.2.1 = some .int) (hc : cells ≤ μ.2.2.2.2.2.cells) (hs : slots ≤ μ.2.2.2.2.2.slots) (hq : QG Γ (some (vI z)) P I) : XE tb Γ Γ μ cells slots pc al [vI z] P I (EM Γ μ (KQ Γ QG)) :=
  y_iretT (Γ0 := Γ) (ρ := gr Γ) (ids := gi Γ) (ty := gt Γ) hd hr hc hs Kp.rf hq
end XG
theorem mlL_7 : Cond.methodLink RL 7 yX5_load ∈ lwU := inU 464 (by decide +kernel) rfl
theorem mlL_15 : Cond.methodLink RL 15 yX5_operationCount ∈ lwU := inU 692 (by decide +kernel) rfl
theorem mlL_20 : Cond.methodLink RL 20 yX5_operation ∈ lwU := inU 719 (by decide +kernel) rfl
theorem mlL_24 : Cond.methodLink RL 24 yX5_orderLength ∈ lwU := inU 736 (by decide +kernel) rfl
theorem mlL_27 : Cond.methodLink RL 27 yX5_orderAt ∈ lwU := inU 748 (by decide +kernel) rfl
theorem mlL_31 : Cond.methodLink RL 31 yX5_start ∈ lwU := inU 756 (by decide +kernel) rfl
theorem mlL_34 : Cond.methodLink RL 34 yX5_leave ∈ lwU := inU 763 (by decide +kernel) rfl
theorem mlL_37 : Cond.methodLink RL 37 yX5_completion ∈ lwU := inU 774 (by decide +kernel) rfl
theorem mlL_40 : Cond.methodLink RL 40 yX5_jobCost ∈ lwU := inU 782 (by decide +kernel) rfl
theorem mlL_43 : Cond.methodLink RL 43 yX5_blockedTime ∈ lwU := inU 790 (by decide +kernel) rfl
theorem mlL_46 : Cond.methodLink RL 46 yX5_critical ∈ lwU := inU 799 (by decide +kernel) rfl
theorem mlL_51 : Cond.methodLink RL 51 yX5_deadlocks ∈ lwU := inU 822 (by decide +kernel) rfl
theorem mlL_55 : Cond.methodLink RL 55 yX5_makespanAfter ∈ lwU := inU 834 (by decide +kernel) rfl
theorem mlL_58 : Cond.methodLink RL 58 yX5_swap ∈ lwU := inU 842 (by decide +kernel) rfl
theorem mlL_63 : Cond.methodLink RL 63 yX5_improve ∈ lwU := inU 869 (by decide +kernel) rfl
theorem mlL_66 : Cond.methodLink RL 66 yX5_place ∈ lwU := inU 880 (by decide +kernel) rfl
theorem mlL_69 : Cond.methodLink RL 69 yX5_setDuration ∈ lwU := inU 894 (by decide +kernel) rfl
theorem mlL_72 : Cond.methodLink RL 72 yX5_init ∈ lwU := inU 24 (by decide +kernel) rfl
theorem mlL_75 : Cond.methodLink RL 75 yX6_init ∈ lwU := inU 901 (by decide +kernel) rfl
theorem mlL_76 : Cond.methodLink RL 76 yX5_append ∈ lwU := inU 257 (by decide +kernel) rfl
theorem mlL_80 : Cond.methodLink RL 80 yX6_append ∈ lwU := inU 988 (by decide +kernel) rfl
theorem mlL_81 : Cond.methodLink RL 81 yL_load ∈ lwU := inU 460 (by decide +kernel) rfl
theorem mlL_86 : Cond.methodLink RL 86 yX6_load ∈ lwU := inU 992 (by decide +kernel) rfl
theorem mlL_87 : Cond.methodLink RL 87 yX6_thrown ∈ lwU := inU 984 (by decide +kernel) rfl
theorem mlL_91 : Cond.methodLink RL 91 yX5_errorOffset ∈ lwU := inU 265 (by decide +kernel) rfl
theorem mlL_94 : Cond.methodLink RL 94 yX6_errorOffset ∈ lwU := inU 1105 (by decide +kernel) rfl
theorem mlL_95 : Cond.methodLink RL 95 yX5_machineCount ∈ lwU := inU 269 (by decide +kernel) rfl
theorem mlL_98 : Cond.methodLink RL 98 yX6_machineCount ∈ lwU := inU 1109 (by decide +kernel) rfl
theorem mlL_99 : Cond.methodLink RL 99 yX5_jobCount ∈ lwU := inU 273 (by decide +kernel) rfl
theorem mlL_102 : Cond.methodLink RL 102 yX6_jobCount ∈ lwU := inU 1113 (by decide +kernel) rfl
theorem mlL_103 : Cond.methodLink RL 103 yL_operationCount ∈ lwU := inU 688 (by decide +kernel) rfl
theorem mlL_105 : Cond.methodLink RL 105 yX6_operationCount ∈ lwU := inU 1117 (by decide +kernel) rfl
theorem mlL_106 : Cond.methodLink RL 106 yL_operation ∈ lwU := inU 716 (by decide +kernel) rfl
theorem mlL_109 : Cond.methodLink RL 109 yX6_operation ∈ lwU := inU 1125 (by decide +kernel) rfl
theorem mlL_110 : Cond.methodLink RL 110 yL_orderLength ∈ lwU := inU 733 (by decide +kernel) rfl
theorem mlL_112 : Cond.methodLink RL 112 yX6_orderLength ∈ lwU := inU 1141 (by decide +kernel) rfl
theorem mlL_113 : Cond.methodLink RL 113 yL_orderAt ∈ lwU := inU 745 (by decide +kernel) rfl
theorem mlL_116 : Cond.methodLink RL 116 yX6_orderAt ∈ lwU := inU 1149 (by decide +kernel) rfl
theorem mlL_117 : Cond.methodLink RL 117 yL_start ∈ lwU := inU 753 (by decide +kernel) rfl
theorem mlL_119 : Cond.methodLink RL 119 yX6_start ∈ lwU := inU 1156 (by decide +kernel) rfl
theorem mlL_120 : Cond.methodLink RL 120 yL_leave ∈ lwU := inU 760 (by decide +kernel) rfl
theorem mlL_122 : Cond.methodLink RL 122 yX6_leave ∈ lwU := inU 1191 (by decide +kernel) rfl
theorem mlL_123 : Cond.methodLink RL 123 yL_completion ∈ lwU := inU 771 (by decide +kernel) rfl
theorem mlL_125 : Cond.methodLink RL 125 yX6_completion ∈ lwU := inU 1199 (by decide +kernel) rfl
theorem mlL_126 : Cond.methodLink RL 126 yX5_makespan ∈ lwU := inU 277 (by decide +kernel) rfl
theorem mlL_129 : Cond.methodLink RL 129 yX6_makespan ∈ lwU := inU 1207 (by decide +kernel) rfl
theorem mlL_130 : Cond.methodLink RL 130 yL_jobCost ∈ lwU := inU 779 (by decide +kernel) rfl
theorem mlL_132 : Cond.methodLink RL 132 yX6_jobCost ∈ lwU := inU 1219 (by decide +kernel) rfl
theorem mlL_133 : Cond.methodLink RL 133 yX5_planCost ∈ lwU := inU 300 (by decide +kernel) rfl
theorem mlL_136 : Cond.methodLink RL 136 yX6_planCost ∈ lwU := inU 1235 (by decide +kernel) rfl
theorem mlL_137 : Cond.methodLink RL 137 yL_blockedTime ∈ lwU := inU 787 (by decide +kernel) rfl
theorem mlL_139 : Cond.methodLink RL 139 yX6_blockedTime ∈ lwU := inU 1243 (by decide +kernel) rfl
theorem mlL_140 : Cond.methodLink RL 140 yX5_criticalLength ∈ lwU := inU 329 (by decide +kernel) rfl
theorem mlL_143 : Cond.methodLink RL 143 yX6_criticalLength ∈ lwU := inU 1247 (by decide +kernel) rfl
theorem mlL_144 : Cond.methodLink RL 144 yL_critical ∈ lwU := inU 795 (by decide +kernel) rfl
theorem mlL_146 : Cond.methodLink RL 146 yX6_critical ∈ lwU := inU 1259 (by decide +kernel) rfl
theorem mlL_147 : Cond.methodLink RL 147 yX5_blockCount ∈ lwU := inU 350 (by decide +kernel) rfl
theorem mlL_150 : Cond.methodLink RL 150 yX6_blockCount ∈ lwU := inU 1263 (by decide +kernel) rfl
theorem mlL_151 : Cond.methodLink RL 151 yX5_longestBlock ∈ lwU := inU 358 (by decide +kernel) rfl
theorem mlL_154 : Cond.methodLink RL 154 yX6_longestBlock ∈ lwU := inU 1267 (by decide +kernel) rfl
theorem mlL_155 : Cond.methodLink RL 155 yL_deadlocks ∈ lwU := inU 819 (by decide +kernel) rfl
theorem mlL_157 : Cond.methodLink RL 157 yX6_deadlocks ∈ lwU := inU 1271 (by decide +kernel) rfl
theorem mlL_158 : Cond.methodLink RL 158 yL_makespanAfter ∈ lwU := inU 831 (by decide +kernel) rfl
theorem mlL_160 : Cond.methodLink RL 160 yX6_makespanAfter ∈ lwU := inU 1295 (by decide +kernel) rfl
theorem mlL_161 : Cond.methodLink RL 161 yX5_bestSwap ∈ lwU := inU 363 (by decide +kernel) rfl
theorem mlL_164 : Cond.methodLink RL 164 yX6_bestSwap ∈ lwU := inU 1299 (by decide +kernel) rfl
theorem mlL_165 : Cond.methodLink RL 165 yL_swap ∈ lwU := inU 838 (by decide +kernel) rfl
theorem mlL_167 : Cond.methodLink RL 167 yX6_swap ∈ lwU := inU 1310 (by decide +kernel) rfl
theorem mlL_168 : Cond.methodLink RL 168 yL_improve ∈ lwU := inU 866 (by decide +kernel) rfl
theorem mlL_170 : Cond.methodLink RL 170 yX6_improve ∈ lwU := inU 1314 (by decide +kernel) rfl
theorem mlL_171 : Cond.methodLink RL 171 yL_place ∈ lwU := inU 877 (by decide +kernel) rfl
theorem mlL_173 : Cond.methodLink RL 173 yX6_place ∈ lwU := inU 1318 (by decide +kernel) rfl
theorem mlL_174 : Cond.methodLink RL 174 yL_setDuration ∈ lwU := inU 891 (by decide +kernel) rfl
theorem mlL_176 : Cond.methodLink RL 176 yX6_setDuration ∈ lwU := inU 1326 (by decide +kernel) rfl
theorem mlL_177 : Cond.methodLink RL 177 yX5_restart ∈ lwU := inU 430 (by decide +kernel) rfl
theorem mlL_180 : Cond.methodLink RL 180 yX6_restart ∈ lwU := inU 1330 (by decide +kernel) rfl
theorem mlL_181 : Cond.methodLink RL 181 yX5_undo ∈ lwU := inU 447 (by decide +kernel) rfl
theorem mlL_184 : Cond.methodLink RL 184 yX6_undo ∈ lwU := inU 1334 (by decide +kernel) rfl
theorem mlL_185 : Cond.methodLink RL 185 yX5_checksum ∈ lwU := inU 451 (by decide +kernel) rfl
theorem mlL_189 : Cond.methodLink RL 189 yX6_checksum ∈ lwU := inU 1338 (by decide +kernel) rfl
theorem clL_8 : Cond.classLink RL 8 RX5 ∈ lwU := inU 22 (by decide +kernel) rfl
theorem clL_13 : Cond.classLink RL 13 exIA ∈ lwU := inU 463 (by decide +kernel) rfl
theorem clL_18 : Cond.classLink RL 18 exIO ∈ lwU := inU 691 (by decide +kernel) rfl
theorem clL_49 : Cond.classLink RL 49 nsE ∈ lwU := inU 798 (by decide +kernel) rfl
theorem clL_61 : Cond.classLink RL 61 exIS ∈ lwU := inU 841 (by decide +kernel) rfl
theorem clL_73 : Cond.classLink RL 73 RX6 ∈ lwU := inU 899 (by decide +kernel) rfl
abbrev mW_load : MI := (yL_load, RL, cL_load, 4, some .int, { frames := 60, cells := 14, slots := 1100, locals := 3000 })
abbrev hW_load : HH := [(0, 9, 12, 13)]
theorem nW_load : Nm mW_load := ⟨by decide +kernel, rfl⟩
theorem kW_load : LkW mW_load hW_load 3 := ⟨inU 461 (by decide +kernel) rfl, inU 0 (by decide +kernel) rfl, inU 462 (by decide +kernel) rfl, ⟨by decide +kernel, by decide +kernel, by decide +kernel⟩⟩
theorem w_load {Γ : GG} {P : MP} {I : MM} {a0 : Int} {R : Int → GG → MP → MM → Prop} (hC : ClG Γ mA_X5l [vR 30, vI a0] P I (fun Γ' v P' J => Kp Γ Γ' ∧ ∃ z, v = some (vI z) ∧ R z Γ' P' J)) (o30 : Ob Γ 30 (.inl 5)) (o21 : Ob Γ 21 (.inr (3, 1))) {QG : KG} (k : ∀ z Γ' P' J, Kp Γ Γ' → R z Γ' P' J → QG Γ' (some (vI 0)) P' (up2 J 21 0 (w32 z))) : ClW Γ mW_load hW_load [vR 30, vI a0, vR 21] P I QG := by
  refine clw_of nW_load (Nat.le_of_ble_eq_true rfl) ?_
  refine y_aload_n 2 dL_load_0 rfl ?_
  refine y_iconst dL_load_1 ?_
  refine y_aload_n 0 dL_load_2 rfl ?_
  refine y_iload_n 1 dL_load_3 rfl ?_
  refine y_callVG (μ := mW_load) dL_load_4 hC kA_X5l mlL_7 ⟨Nat.le_of_ble_eq_true rfl, Nat.le_of_ble_eq_true rfl⟩ rfl o30 rfl (rfs_l o30 (rfs_li (rfs_l o21 (rfs_si (rfs_s o21 rfs_nil))))) (Nat.le_of_ble_eq_true rfl) (by decide) _ rfl (fun ρ ids ty v P' J kp hq => ?_)
  obtain ⟨-, z, hv, hq⟩ := hq
  subst hv
  refine y_i2lW dL_load_7 ?_
  refine y_last dL_load_8 (o21.keep kp) (by decide) (by decide) (by decide) ?_
  refine y_goto 15 dL_load_9 (by decide) ?_
  refine y_iconst dL_load_15 ?_
  exact y_iretT dL_load_16 rfl (by decide) (by decide) kp (k z _ P' J kp hq)
theorem wt1_load {Γ : GG} {P : MP} {I : MM} {a0 : Int} {Rp : MP → MM → Prop} (hC : ClT Γ mT_load [vR 30, vI a0] P I (tX exIA Rp)) (o30 : Ob Γ 30 (.inl 5)) (o21 : Ob Γ 21 (.inr (3, 1))) {QG : KG} (k : ∀ P' J, Rp P' J → QG Γ (some (vI 1)) P' J) : ClW Γ mW_load hW_load [vR 30, vI a0, vR 21] P I QG := by
  refine clw_of nW_load (Nat.le_of_ble_eq_true rfl) ?_
  refine y_aload_n 2 dL_load_0 rfl ?_
  refine y_iconst dL_load_1 ?_
  refine y_aload_n 0 dL_load_2 rfl ?_
  refine y_iload_n 1 dL_load_3 rfl ?_
  refine y_cV (μ := mW_load) (al' := []) (E := exIA) dL_load_4 hC kT_load mlL_7 ⟨Nat.le_of_ble_eq_true rfl, Nat.le_of_ble_eq_true rfl⟩ rfl o30 rfl (Nat.le_of_ble_eq_true rfl) (by decide) _ rfl (fun _ _ _ h => h.1) (by decide +kernel) [] [] (0, 9, 12, 13) rfl (fun z hz => (List.not_mem_nil hz).elim) (by decide) (by decide) clL_13 dL_load_12 (by decide) (fun q hq => (List.not_mem_nil hq).elim) (fun P' J hq => ?_)
  refine y_iconst dL_load_13 ?_
  exact y_iretR dL_load_14 rfl (by decide) (by decide) (k P' J hq.2)
abbrev mW_operationCount : MI := (yL_operationCount, RL, cL_operationCount, 4, some .int, { frames := 60, cells := 14, slots := 1100, locals := 3000 })
abbrev hW_operationCount : HH := [(0, 9, 12, 18)]
theorem nW_operationCount : Nm mW_operationCount := ⟨by decide +kernel, rfl⟩
theorem kW_operationCount : LkW mW_operationCount hW_operationCount 3 := ⟨inU 689 (by decide +kernel) rfl, inU 0 (by decide +kernel) rfl, inU 690 (by decide +kernel) rfl, ⟨by decide +kernel, by decide +kernel, by decide +kernel⟩⟩
theorem w_operationCount {Γ : GG} {P : MP} {I : MM} {a0 : Int} {R : Int → MP → MM → Prop} (hC : Cl Γ m_X5_operationCount [vR 30, vI a0] P I (rpi R)) (o30 : Ob Γ 30 (.inl 5)) (o21 : Ob Γ 21 (.inr (3, 1))) {QG : KG} (k : ∀ z P' J, R z P' J → QG Γ (some (vI 0)) P' (up2 J 21 0 (w32 z))) : ClW Γ mW_operationCount hW_operationCount [vR 30, vI a0, vR 21] P I QG := by
  refine clw_of nW_operationCount (Nat.le_of_ble_eq_true rfl) ?_
  refine y_aload_n 2 dL_operationCount_0 rfl ?_
  refine y_iconst dL_operationCount_1 ?_
  refine y_aload_n 0 dL_operationCount_2 rfl ?_
  refine y_iload_n 1 dL_operationCount_3 rfl ?_
  refine y_Vpi (μ := mW_operationCount) dL_operationCount_4 hC k_X5_operationCount mlL_15 ⟨Nat.le_of_ble_eq_true rfl, Nat.le_of_ble_eq_true rfl⟩ ⟨rfl, rfl⟩ ⟨by decide, by decide⟩ rfl o30 rfl (Nat.le_of_ble_eq_true rfl) _ rfl (fun z P' J hq => ?_)
  refine y_i2lW dL_operationCount_7 ?_
  refine y_last dL_operationCount_8 o21 (by decide) (by decide) (by decide) ?_
  refine y_goto 15 dL_operationCount_9 (by decide) ?_
  refine y_iconst dL_operationCount_15 ?_
  exact y_iretR dL_operationCount_16 rfl (by decide) (by decide) (k z P' J hq)
theorem wt1_operationCount {Γ : GG} {P : MP} {I : MM} {a0 : Int} {Rp : MP → MM → Prop} (hC : ClT Γ mT_operationCount [vR 30, vI a0] P I (tX exIO Rp)) (o30 : Ob Γ 30 (.inl 5)) (o21 : Ob Γ 21 (.inr (3, 1))) {QG : KG} (k : ∀ P' J, Rp P' J → QG Γ (some (vI 1)) P' J) : ClW Γ mW_operationCount hW_operationCount [vR 30, vI a0, vR 21] P I QG := by
  refine clw_of nW_operationCount (Nat.le_of_ble_eq_true rfl) ?_
  refine y_aload_n 2 dL_operationCount_0 rfl ?_
  refine y_iconst dL_operationCount_1 ?_
  refine y_aload_n 0 dL_operationCount_2 rfl ?_
  refine y_iload_n 1 dL_operationCount_3 rfl ?_
  refine y_cV (μ := mW_operationCount) (al' := []) (E := exIO) dL_operationCount_4 hC kT_operationCount mlL_15 ⟨Nat.le_of_ble_eq_true rfl, Nat.le_of_ble_eq_true rfl⟩ rfl o30 rfl (Nat.le_of_ble_eq_true rfl) (by decide) _ rfl (fun _ _ _ h => h.1) (by decide +kernel) [] [] (0, 9, 12, 18) rfl (fun z hz => (List.not_mem_nil hz).elim) (by decide) (by decide) clL_18 dL_operationCount_12 (by decide) (fun q hq => (List.not_mem_nil hq).elim) (fun P' J hq => ?_)
  refine y_iconst dL_operationCount_13 ?_
  exact y_iretR dL_operationCount_14 rfl (by decide) (by decide) (k P' J hq.2)
abbrev mW_operation : MI := (yL_operation, RL, cL_operation, 6, some .int, { frames := 60, cells := 14, slots := 1100, locals := 3000 })
abbrev hW_operation : HH := [(0, 12, 15, 18), (0, 12, 19, 13)]
theorem nW_operation : Nm mW_operation := ⟨by decide +kernel, rfl⟩
theorem kW_operation : LkW mW_operation hW_operation 5 := ⟨inU 717 (by decide +kernel) rfl, inU 0 (by decide +kernel) rfl, inU 718 (by decide +kernel) rfl, ⟨by decide +kernel, by decide +kernel, by decide +kernel⟩⟩
theorem w_operation {Γ : GG} {P : MP} {I : MM} {a0 a1 a2 : Int} {R : Int → MP → MM → Prop} (hC : Cl Γ m_X5_operation [vR 30, vI a0, vI a1, vI a2] P I (rpi R)) (o30 : Ob Γ 30 (.inl 5)) (o21 : Ob Γ 21 (.inr (3, 1))) {QG : KG} (k : ∀ z P' J, R z P' J → QG Γ (some (vI 0)) P' (up2 J 21 0 (w32 z))) : ClW Γ mW_operation hW_operation [vR 30, vI a0, vI a1, vI a2, vR 21] P I QG := by
  refine clw_of nW_operation (Nat.le_of_ble_eq_true rfl) ?_
  refine y_aload 4 dL_operation_0 rfl ?_
  refine y_iconst dL_operation_2 ?_
  refine y_aload_n 0 dL_operation_3 rfl ?_
  refine y_iload_n 1 dL_operation_4 rfl ?_
  refine y_iload_n 2 dL_operation_5 rfl ?_
  refine y_iload_n 3 dL_operation_6 rfl ?_
  refine y_Vpi (μ := mW_operation) dL_operation_7 hC k_X5_operation mlL_20 ⟨Nat.le_of_ble_eq_true rfl, Nat.le_of_ble_eq_true rfl⟩ ⟨rfl, rfl⟩ ⟨by decide, by decide⟩ rfl o30 rfl (Nat.le_of_ble_eq_true rfl) _ rfl (fun z P' J hq => ?_)
  refine y_i2lW dL_operation_10 ?_
  refine y_last dL_operation_11 o21 (by decide) (by decide) (by decide) ?_
  refine y_goto 23 dL_operation_12 (by decide) ?_
  refine y_iconst dL_operation_23 ?_
  exact y_iretR dL_operation_24 rfl (by decide) (by decide) (k z P' J hq)
theorem wt1_operation {Γ : GG} {P : MP} {I : MM} {a0 a1 a2 : Int} {Rp : MP → MM → Prop} (hC : ClT Γ mT_operation [vR 30, vI a0, vI a1, vI a2] P I (tX exIO Rp)) (o30 : Ob Γ 30 (.inl 5)) (o21 : Ob Γ 21 (.inr (3, 1))) {QG : KG} (k : ∀ P' J, Rp P' J → QG Γ (some (vI 1)) P' J) : ClW Γ mW_operation hW_operation [vR 30, vI a0, vI a1, vI a2, vR 21] P I QG := by
  refine clw_of nW_operation (Nat.le_of_ble_eq_true rfl) ?_
  refine y_aload 4 dL_operation_0 rfl ?_
  refine y_iconst dL_operation_2 ?_
  refine y_aload_n 0 dL_operation_3 rfl ?_
  refine y_iload_n 1 dL_operation_4 rfl ?_
  refine y_iload_n 2 dL_operation_5 rfl ?_
  refine y_iload_n 3 dL_operation_6 rfl ?_
  refine y_cVw (μ := mW_operation) (al' := []) (E := exIO) dL_operation_7 hC kT_operation mlL_20 ⟨Nat.le_of_ble_eq_true rfl, Nat.le_of_ble_eq_true rfl⟩ rfl o30 rfl (Nat.le_of_ble_eq_true rfl) (by decide) _ rfl (fun _ _ _ h => h.1) (by decide +kernel) [] [(0, 12, 19, 13)] (0, 12, 15, 18) rfl (fun z hz => (List.not_mem_nil hz).elim) (by decide) (by decide) clL_18 dL_operation_15 (by decide) (fun q hq => (List.not_mem_nil hq).elim) (fun P' J hq => ?_)
  refine y_iconst dL_operation_17 ?_
  exact y_iretR dL_operation_18 rfl (by decide) (by decide) (k P' J hq.2)
theorem wt2_operation {Γ : GG} {P : MP} {I : MM} {a0 a1 a2 : Int} {Rp : MP → MM → Prop} (hC : ClT Γ mT_operation [vR 30, vI a0, vI a1, vI a2] P I (tX exIA Rp)) (o30 : Ob Γ 30 (.inl 5)) (o21 : Ob Γ 21 (.inr (3, 1))) {QG : KG} (k : ∀ P' J, Rp P' J → QG Γ (some (vI 2)) P' J) : ClW Γ mW_operation hW_operation [vR 30, vI a0, vI a1, vI a2, vR 21] P I QG := by
  refine clw_of nW_operation (Nat.le_of_ble_eq_true rfl) ?_
  refine y_aload 4 dL_operation_0 rfl ?_
  refine y_iconst dL_operation_2 ?_
  refine y_aload_n 0 dL_operation_3 rfl ?_
  refine y_iload_n 1 dL_operation_4 rfl ?_
  refine y_iload_n 2 dL_operation_5 rfl ?_
  refine y_iload_n 3 dL_operation_6 rfl ?_
  refine y_cVw (μ := mW_operation) (al' := []) (E := exIA) dL_operation_7 hC kT_operation mlL_20 ⟨Nat.le_of_ble_eq_true rfl, Nat.le_of_ble_eq_true rfl⟩ rfl o30 rfl (Nat.le_of_ble_eq_true rfl) (by decide) _ rfl (fun _ _ _ h => h.1) (by decide +kernel) [(0, 12, 15, 18)] [] (0, 12, 19, 13) rfl (fun z hz => by rw [List.mem_singleton.mp hz]; exact ⟨exIO, by decide, clL_18, by decide +kernel⟩) (by decide) (by decide) clL_13 dL_operation_19 (by decide) (fun q hq => (List.not_mem_nil hq).elim) (fun P' J hq => ?_)
  refine y_iconst dL_operation_21 ?_
  exact y_iretR dL_operation_22 rfl (by decide) (by decide) (k P' J hq.2)
abbrev mW_orderLength : MI := (yL_orderLength, RL, cL_orderLength, 4, some .int, { frames := 60, cells := 14, slots := 1100, locals := 3000 })
abbrev hW_orderLength : HH := [(0, 9, 12, 18)]
theorem nW_orderLength : Nm mW_orderLength := ⟨by decide +kernel, rfl⟩
theorem kW_orderLength : LkW mW_orderLength hW_orderLength 3 := ⟨inU 734 (by decide +kernel) rfl, inU 0 (by decide +kernel) rfl, inU 735 (by decide +kernel) rfl, ⟨by decide +kernel, by decide +kernel, by decide +kernel⟩⟩
theorem w_orderLength {Γ : GG} {P : MP} {I : MM} {a0 : Int} {R : Int → MP → MM → Prop} (hC : Cl Γ m_X5_orderLength [vR 30, vI a0] P I (rpi R)) (o30 : Ob Γ 30 (.inl 5)) (o21 : Ob Γ 21 (.inr (3, 1))) {QG : KG} (k : ∀ z P' J, R z P' J → QG Γ (some (vI 0)) P' (up2 J 21 0 (w32 z))) : ClW Γ mW_orderLength hW_orderLength [vR 30, vI a0, vR 21] P I QG := by
  refine clw_of nW_orderLength (Nat.le_of_ble_eq_true rfl) ?_
  refine y_aload_n 2 dL_orderLength_0 rfl ?_
  refine y_iconst dL_orderLength_1 ?_
  refine y_aload_n 0 dL_orderLength_2 rfl ?_
  refine y_iload_n 1 dL_orderLength_3 rfl ?_
  refine y_Vpi (μ := mW_orderLength) dL_orderLength_4 hC k_X5_orderLength mlL_24 ⟨Nat.le_of_ble_eq_true rfl, Nat.le_of_ble_eq_true rfl⟩ ⟨rfl, rfl⟩ ⟨by decide, by decide⟩ rfl o30 rfl (Nat.le_of_ble_eq_true rfl) _ rfl (fun z P' J hq => ?_)
  refine y_i2lW dL_orderLength_7 ?_
  refine y_last dL_orderLength_8 o21 (by decide) (by decide) (by decide) ?_
  refine y_goto 15 dL_orderLength_9 (by decide) ?_
  refine y_iconst dL_orderLength_15 ?_
  exact y_iretR dL_orderLength_16 rfl (by decide) (by decide) (k z P' J hq)
theorem wt1_orderLength {Γ : GG} {P : MP} {I : MM} {a0 : Int} {Rp : MP → MM → Prop} (hC : ClT Γ mT_orderLength [vR 30, vI a0] P I (tX exIO Rp)) (o30 : Ob Γ 30 (.inl 5)) (o21 : Ob Γ 21 (.inr (3, 1))) {QG : KG} (k : ∀ P' J, Rp P' J → QG Γ (some (vI 1)) P' J) : ClW Γ mW_orderLength hW_orderLength [vR 30, vI a0, vR 21] P I QG := by
  refine clw_of nW_orderLength (Nat.le_of_ble_eq_true rfl) ?_
  refine y_aload_n 2 dL_orderLength_0 rfl ?_
  refine y_iconst dL_orderLength_1 ?_
  refine y_aload_n 0 dL_orderLength_2 rfl ?_
  refine y_iload_n 1 dL_orderLength_3 rfl ?_
  refine y_cV (μ := mW_orderLength) (al' := []) (E := exIO) dL_orderLength_4 hC kT_orderLength mlL_24 ⟨Nat.le_of_ble_eq_true rfl, Nat.le_of_ble_eq_true rfl⟩ rfl o30 rfl (Nat.le_of_ble_eq_true rfl) (by decide) _ rfl (fun _ _ _ h => h.1) (by decide +kernel) [] [] (0, 9, 12, 18) rfl (fun z hz => (List.not_mem_nil hz).elim) (by decide) (by decide) clL_18 dL_orderLength_12 (by decide) (fun q hq => (List.not_mem_nil hq).elim) (fun P' J hq => ?_)
  refine y_iconst dL_orderLength_13 ?_
  exact y_iretR dL_orderLength_14 rfl (by decide) (by decide) (k P' J hq.2)
abbrev mW_orderAt : MI := (yL_orderAt, RL, cL_orderAt, 5, some .int, { frames := 60, cells := 14, slots := 1100, locals := 3000 })
abbrev hW_orderAt : HH := [(0, 10, 13, 18)]
theorem nW_orderAt : Nm mW_orderAt := ⟨by decide +kernel, rfl⟩
theorem kW_orderAt : LkW mW_orderAt hW_orderAt 4 := ⟨inU 746 (by decide +kernel) rfl, inU 0 (by decide +kernel) rfl, inU 747 (by decide +kernel) rfl, ⟨by decide +kernel, by decide +kernel, by decide +kernel⟩⟩
theorem w_orderAt {Γ : GG} {P : MP} {I : MM} {a0 a1 : Int} {R : Int → MP → MM → Prop} (hC : Cl Γ m_X5_orderAt [vR 30, vI a0, vI a1] P I (rpi R)) (o30 : Ob Γ 30 (.inl 5)) (o21 : Ob Γ 21 (.inr (3, 1))) {QG : KG} (k : ∀ z P' J, R z P' J → QG Γ (some (vI 0)) P' (up2 J 21 0 (w32 z))) : ClW Γ mW_orderAt hW_orderAt [vR 30, vI a0, vI a1, vR 21] P I QG := by
  refine clw_of nW_orderAt (Nat.le_of_ble_eq_true rfl) ?_
  refine y_aload_n 3 dL_orderAt_0 rfl ?_
  refine y_iconst dL_orderAt_1 ?_
  refine y_aload_n 0 dL_orderAt_2 rfl ?_
  refine y_iload_n 1 dL_orderAt_3 rfl ?_
  refine y_iload_n 2 dL_orderAt_4 rfl ?_
  refine y_Vpi (μ := mW_orderAt) dL_orderAt_5 hC k_X5_orderAt mlL_27 ⟨Nat.le_of_ble_eq_true rfl, Nat.le_of_ble_eq_true rfl⟩ ⟨rfl, rfl⟩ ⟨by decide, by decide⟩ rfl o30 rfl (Nat.le_of_ble_eq_true rfl) _ rfl (fun z P' J hq => ?_)
  refine y_i2lW dL_orderAt_8 ?_
  refine y_last dL_orderAt_9 o21 (by decide) (by decide) (by decide) ?_
  refine y_goto 17 dL_orderAt_10 (by decide) ?_
  refine y_iconst dL_orderAt_17 ?_
  exact y_iretR dL_orderAt_18 rfl (by decide) (by decide) (k z P' J hq)
theorem wt1_orderAt {Γ : GG} {P : MP} {I : MM} {a0 a1 : Int} {Rp : MP → MM → Prop} (hC : ClT Γ mT_orderAt [vR 30, vI a0, vI a1] P I (tX exIO Rp)) (o30 : Ob Γ 30 (.inl 5)) (o21 : Ob Γ 21 (.inr (3, 1))) {QG : KG} (k : ∀ P' J, Rp P' J → QG Γ (some (vI 1)) P' J) : ClW Γ mW_orderAt hW_orderAt [vR 30, vI a0, vI a1, vR 21] P I QG := by
  refine clw_of nW_orderAt (Nat.le_of_ble_eq_true rfl) ?_
  refine y_aload_n 3 dL_orderAt_0 rfl ?_
  refine y_iconst dL_orderAt_1 ?_
  refine y_aload_n 0 dL_orderAt_2 rfl ?_
  refine y_iload_n 1 dL_orderAt_3 rfl ?_
  refine y_iload_n 2 dL_orderAt_4 rfl ?_
  refine y_cVw (μ := mW_orderAt) (al' := []) (E := exIO) dL_orderAt_5 hC kT_orderAt mlL_27 ⟨Nat.le_of_ble_eq_true rfl, Nat.le_of_ble_eq_true rfl⟩ rfl o30 rfl (Nat.le_of_ble_eq_true rfl) (by decide) _ rfl (fun _ _ _ h => h.1) (by decide +kernel) [] [] (0, 10, 13, 18) rfl (fun z hz => (List.not_mem_nil hz).elim) (by decide) (by decide) clL_18 dL_orderAt_13 (by decide) (fun q hq => (List.not_mem_nil hq).elim) (fun P' J hq => ?_)
  refine y_iconst dL_orderAt_15 ?_
  exact y_iretR dL_orderAt_16 rfl (by decide) (by decide) (k P' J hq.2)
abbrev mW_start : MI := (yL_start, RL, cL_start, 5, some .int, { frames := 60, cells := 14, slots := 1100, locals := 3000 })
abbrev hW_start : HH := [(0, 10, 13, 18)]
theorem nW_start : Nm mW_start := ⟨by decide +kernel, rfl⟩
theorem kW_start : LkW mW_start hW_start 4 := ⟨inU 754 (by decide +kernel) rfl, inU 0 (by decide +kernel) rfl, inU 755 (by decide +kernel) rfl, ⟨by decide +kernel, by decide +kernel, by decide +kernel⟩⟩
theorem w_start {Γ : GG} {P : MP} {I : MM} {a0 a1 : Int} {R : Int → MP → MM → Prop} (hC : Cl Γ m_X5_start [vR 30, vI a0, vI a1] P I (rpi R)) (o30 : Ob Γ 30 (.inl 5)) (o21 : Ob Γ 21 (.inr (3, 1))) {QG : KG} (k : ∀ z P' J, R z P' J → QG Γ (some (vI 0)) P' (up2 J 21 0 (w32 z))) : ClW Γ mW_start hW_start [vR 30, vI a0, vI a1, vR 21] P I QG := by
  refine clw_of nW_start (Nat.le_of_ble_eq_true rfl) ?_
  refine y_aload_n 3 dL_start_0 rfl ?_
  refine y_iconst dL_start_1 ?_
  refine y_aload_n 0 dL_start_2 rfl ?_
  refine y_iload_n 1 dL_start_3 rfl ?_
  refine y_iload_n 2 dL_start_4 rfl ?_
  refine y_Vpi (μ := mW_start) dL_start_5 hC k_X5_start mlL_31 ⟨Nat.le_of_ble_eq_true rfl, Nat.le_of_ble_eq_true rfl⟩ ⟨rfl, rfl⟩ ⟨by decide, by decide⟩ rfl o30 rfl (Nat.le_of_ble_eq_true rfl) _ rfl (fun z P' J hq => ?_)
  refine y_i2lW dL_start_8 ?_
  refine y_last dL_start_9 o21 (by decide) (by decide) (by decide) ?_
  refine y_goto 17 dL_start_10 (by decide) ?_
  refine y_iconst dL_start_17 ?_
  exact y_iretR dL_start_18 rfl (by decide) (by decide) (k z P' J hq)
theorem wt1_start {Γ : GG} {P : MP} {I : MM} {a0 a1 : Int} {Rp : MP → MM → Prop} (hC : ClT Γ mT_start [vR 30, vI a0, vI a1] P I (tX exIO Rp)) (o30 : Ob Γ 30 (.inl 5)) (o21 : Ob Γ 21 (.inr (3, 1))) {QG : KG} (k : ∀ P' J, Rp P' J → QG Γ (some (vI 1)) P' J) : ClW Γ mW_start hW_start [vR 30, vI a0, vI a1, vR 21] P I QG := by
  refine clw_of nW_start (Nat.le_of_ble_eq_true rfl) ?_
  refine y_aload_n 3 dL_start_0 rfl ?_
  refine y_iconst dL_start_1 ?_
  refine y_aload_n 0 dL_start_2 rfl ?_
  refine y_iload_n 1 dL_start_3 rfl ?_
  refine y_iload_n 2 dL_start_4 rfl ?_
  refine y_cVw (μ := mW_start) (al' := []) (E := exIO) dL_start_5 hC kT_start mlL_31 ⟨Nat.le_of_ble_eq_true rfl, Nat.le_of_ble_eq_true rfl⟩ rfl o30 rfl (Nat.le_of_ble_eq_true rfl) (by decide) _ rfl (fun _ _ _ h => h.1) (by decide +kernel) [] [] (0, 10, 13, 18) rfl (fun z hz => (List.not_mem_nil hz).elim) (by decide) (by decide) clL_18 dL_start_13 (by decide) (fun q hq => (List.not_mem_nil hq).elim) (fun P' J hq => ?_)
  refine y_iconst dL_start_15 ?_
  exact y_iretR dL_start_16 rfl (by decide) (by decide) (k P' J hq.2)
abbrev mW_leave : MI := (yL_leave, RL, cL_leave, 5, some .int, { frames := 60, cells := 14, slots := 1100, locals := 3000 })
abbrev hW_leave : HH := [(0, 10, 13, 18)]
theorem nW_leave : Nm mW_leave := ⟨by decide +kernel, rfl⟩
theorem kW_leave : LkW mW_leave hW_leave 4 := ⟨inU 761 (by decide +kernel) rfl, inU 0 (by decide +kernel) rfl, inU 762 (by decide +kernel) rfl, ⟨by decide +kernel, by decide +kernel, by decide +kernel⟩⟩
theorem w_leave {Γ : GG} {P : MP} {I : MM} {a0 a1 : Int} {R : Int → MP → MM → Prop} (hC : Cl Γ m_X5_leave [vR 30, vI a0, vI a1] P I (rpi R)) (o30 : Ob Γ 30 (.inl 5)) (o21 : Ob Γ 21 (.inr (3, 1))) {QG : KG} (k : ∀ z P' J, R z P' J → QG Γ (some (vI 0)) P' (up2 J 21 0 (w32 z))) : ClW Γ mW_leave hW_leave [vR 30, vI a0, vI a1, vR 21] P I QG := by
  refine clw_of nW_leave (Nat.le_of_ble_eq_true rfl) ?_
  refine y_aload_n 3 dL_leave_0 rfl ?_
  refine y_iconst dL_leave_1 ?_
  refine y_aload_n 0 dL_leave_2 rfl ?_
  refine y_iload_n 1 dL_leave_3 rfl ?_
  refine y_iload_n 2 dL_leave_4 rfl ?_
  refine y_Vpi (μ := mW_leave) dL_leave_5 hC k_X5_leave mlL_34 ⟨Nat.le_of_ble_eq_true rfl, Nat.le_of_ble_eq_true rfl⟩ ⟨rfl, rfl⟩ ⟨by decide, by decide⟩ rfl o30 rfl (Nat.le_of_ble_eq_true rfl) _ rfl (fun z P' J hq => ?_)
  refine y_i2lW dL_leave_8 ?_
  refine y_last dL_leave_9 o21 (by decide) (by decide) (by decide) ?_
  refine y_goto 17 dL_leave_10 (by decide) ?_
  refine y_iconst dL_leave_17 ?_
  exact y_iretR dL_leave_18 rfl (by decide) (by decide) (k z P' J hq)
theorem wt1_leave {Γ : GG} {P : MP} {I : MM} {a0 a1 : Int} {Rp : MP → MM → Prop} (hC : ClT Γ mT_leave [vR 30, vI a0, vI a1] P I (tX exIO Rp)) (o30 : Ob Γ 30 (.inl 5)) (o21 : Ob Γ 21 (.inr (3, 1))) {QG : KG} (k : ∀ P' J, Rp P' J → QG Γ (some (vI 1)) P' J) : ClW Γ mW_leave hW_leave [vR 30, vI a0, vI a1, vR 21] P I QG := by
  refine clw_of nW_leave (Nat.le_of_ble_eq_true rfl) ?_
  refine y_aload_n 3 dL_leave_0 rfl ?_
  refine y_iconst dL_leave_1 ?_
  refine y_aload_n 0 dL_leave_2 rfl ?_
  refine y_iload_n 1 dL_leave_3 rfl ?_
  refine y_iload_n 2 dL_leave_4 rfl ?_
  refine y_cVw (μ := mW_leave) (al' := []) (E := exIO) dL_leave_5 hC kT_leave mlL_34 ⟨Nat.le_of_ble_eq_true rfl, Nat.le_of_ble_eq_true rfl⟩ rfl o30 rfl (Nat.le_of_ble_eq_true rfl) (by decide) _ rfl (fun _ _ _ h => h.1) (by decide +kernel) [] [] (0, 10, 13, 18) rfl (fun z hz => (List.not_mem_nil hz).elim) (by decide) (by decide) clL_18 dL_leave_13 (by decide) (fun q hq => (List.not_mem_nil hq).elim) (fun P' J hq => ?_)
  refine y_iconst dL_leave_15 ?_
  exact y_iretR dL_leave_16 rfl (by decide) (by decide) (k P' J hq.2)
abbrev mW_completion : MI := (yL_completion, RL, cL_completion, 4, some .int, { frames := 60, cells := 14, slots := 1100, locals := 3000 })
abbrev hW_completion : HH := [(0, 9, 12, 18)]
theorem nW_completion : Nm mW_completion := ⟨by decide +kernel, rfl⟩
theorem kW_completion : LkW mW_completion hW_completion 3 := ⟨inU 772 (by decide +kernel) rfl, inU 0 (by decide +kernel) rfl, inU 773 (by decide +kernel) rfl, ⟨by decide +kernel, by decide +kernel, by decide +kernel⟩⟩
theorem w_completion {Γ : GG} {P : MP} {I : MM} {a0 : Int} {R : Int → MP → MM → Prop} (hC : Cl Γ m_X5_completion [vR 30, vI a0] P I (rpi R)) (o30 : Ob Γ 30 (.inl 5)) (o21 : Ob Γ 21 (.inr (3, 1))) {QG : KG} (k : ∀ z P' J, R z P' J → QG Γ (some (vI 0)) P' (up2 J 21 0 (w32 z))) : ClW Γ mW_completion hW_completion [vR 30, vI a0, vR 21] P I QG := by
  refine clw_of nW_completion (Nat.le_of_ble_eq_true rfl) ?_
  refine y_aload_n 2 dL_completion_0 rfl ?_
  refine y_iconst dL_completion_1 ?_
  refine y_aload_n 0 dL_completion_2 rfl ?_
  refine y_iload_n 1 dL_completion_3 rfl ?_
  refine y_Vpi (μ := mW_completion) dL_completion_4 hC k_X5_completion mlL_37 ⟨Nat.le_of_ble_eq_true rfl, Nat.le_of_ble_eq_true rfl⟩ ⟨rfl, rfl⟩ ⟨by decide, by decide⟩ rfl o30 rfl (Nat.le_of_ble_eq_true rfl) _ rfl (fun z P' J hq => ?_)
  refine y_i2lW dL_completion_7 ?_
  refine y_last dL_completion_8 o21 (by decide) (by decide) (by decide) ?_
  refine y_goto 15 dL_completion_9 (by decide) ?_
  refine y_iconst dL_completion_15 ?_
  exact y_iretR dL_completion_16 rfl (by decide) (by decide) (k z P' J hq)
theorem wt1_completion {Γ : GG} {P : MP} {I : MM} {a0 : Int} {Rp : MP → MM → Prop} (hC : ClT Γ mT_completion [vR 30, vI a0] P I (tX exIO Rp)) (o30 : Ob Γ 30 (.inl 5)) (o21 : Ob Γ 21 (.inr (3, 1))) {QG : KG} (k : ∀ P' J, Rp P' J → QG Γ (some (vI 1)) P' J) : ClW Γ mW_completion hW_completion [vR 30, vI a0, vR 21] P I QG := by
  refine clw_of nW_completion (Nat.le_of_ble_eq_true rfl) ?_
  refine y_aload_n 2 dL_completion_0 rfl ?_
  refine y_iconst dL_completion_1 ?_
  refine y_aload_n 0 dL_completion_2 rfl ?_
  refine y_iload_n 1 dL_completion_3 rfl ?_
  refine y_cV (μ := mW_completion) (al' := []) (E := exIO) dL_completion_4 hC kT_completion mlL_37 ⟨Nat.le_of_ble_eq_true rfl, Nat.le_of_ble_eq_true rfl⟩ rfl o30 rfl (Nat.le_of_ble_eq_true rfl) (by decide) _ rfl (fun _ _ _ h => h.1) (by decide +kernel) [] [] (0, 9, 12, 18) rfl (fun z hz => (List.not_mem_nil hz).elim) (by decide) (by decide) clL_18 dL_completion_12 (by decide) (fun q hq => (List.not_mem_nil hq).elim) (fun P' J hq => ?_)
  refine y_iconst dL_completion_13 ?_
  exact y_iretR dL_completion_14 rfl (by decide) (by decide) (k P' J hq.2)
abbrev mW_jobCost : MI := (yL_jobCost, RL, cL_jobCost, 4, some .int, { frames := 60, cells := 14, slots := 1100, locals := 3000 })
abbrev hW_jobCost : HH := [(0, 9, 12, 18)]
theorem nW_jobCost : Nm mW_jobCost := ⟨by decide +kernel, rfl⟩
theorem kW_jobCost : LkW mW_jobCost hW_jobCost 3 := ⟨inU 780 (by decide +kernel) rfl, inU 0 (by decide +kernel) rfl, inU 781 (by decide +kernel) rfl, ⟨by decide +kernel, by decide +kernel, by decide +kernel⟩⟩
theorem w_jobCost {Γ : GG} {P : MP} {I : MM} {a0 : Int} {R : Int → MP → MM → Prop} (hC : Cl Γ m_X5_jobCost [vR 30, vI a0] P I (rpi R)) (o30 : Ob Γ 30 (.inl 5)) (o21 : Ob Γ 21 (.inr (3, 1))) {QG : KG} (k : ∀ z P' J, R z P' J → QG Γ (some (vI 0)) P' (up2 J 21 0 (w32 z))) : ClW Γ mW_jobCost hW_jobCost [vR 30, vI a0, vR 21] P I QG := by
  refine clw_of nW_jobCost (Nat.le_of_ble_eq_true rfl) ?_
  refine y_aload_n 2 dL_jobCost_0 rfl ?_
  refine y_iconst dL_jobCost_1 ?_
  refine y_aload_n 0 dL_jobCost_2 rfl ?_
  refine y_iload_n 1 dL_jobCost_3 rfl ?_
  refine y_Vpi (μ := mW_jobCost) dL_jobCost_4 hC k_X5_jobCost mlL_40 ⟨Nat.le_of_ble_eq_true rfl, Nat.le_of_ble_eq_true rfl⟩ ⟨rfl, rfl⟩ ⟨by decide, by decide⟩ rfl o30 rfl (Nat.le_of_ble_eq_true rfl) _ rfl (fun z P' J hq => ?_)
  refine y_i2lW dL_jobCost_7 ?_
  refine y_last dL_jobCost_8 o21 (by decide) (by decide) (by decide) ?_
  refine y_goto 15 dL_jobCost_9 (by decide) ?_
  refine y_iconst dL_jobCost_15 ?_
  exact y_iretR dL_jobCost_16 rfl (by decide) (by decide) (k z P' J hq)
theorem wt1_jobCost {Γ : GG} {P : MP} {I : MM} {a0 : Int} {Rp : MP → MM → Prop} (hC : ClT Γ mT_jobCost [vR 30, vI a0] P I (tX exIO Rp)) (o30 : Ob Γ 30 (.inl 5)) (o21 : Ob Γ 21 (.inr (3, 1))) {QG : KG} (k : ∀ P' J, Rp P' J → QG Γ (some (vI 1)) P' J) : ClW Γ mW_jobCost hW_jobCost [vR 30, vI a0, vR 21] P I QG := by
  refine clw_of nW_jobCost (Nat.le_of_ble_eq_true rfl) ?_
  refine y_aload_n 2 dL_jobCost_0 rfl ?_
  refine y_iconst dL_jobCost_1 ?_
  refine y_aload_n 0 dL_jobCost_2 rfl ?_
  refine y_iload_n 1 dL_jobCost_3 rfl ?_
  refine y_cV (μ := mW_jobCost) (al' := []) (E := exIO) dL_jobCost_4 hC kT_jobCost mlL_40 ⟨Nat.le_of_ble_eq_true rfl, Nat.le_of_ble_eq_true rfl⟩ rfl o30 rfl (Nat.le_of_ble_eq_true rfl) (by decide) _ rfl (fun _ _ _ h => h.1) (by decide +kernel) [] [] (0, 9, 12, 18) rfl (fun z hz => (List.not_mem_nil hz).elim) (by decide) (by decide) clL_18 dL_jobCost_12 (by decide) (fun q hq => (List.not_mem_nil hq).elim) (fun P' J hq => ?_)
  refine y_iconst dL_jobCost_13 ?_
  exact y_iretR dL_jobCost_14 rfl (by decide) (by decide) (k P' J hq.2)
abbrev mW_blockedTime : MI := (yL_blockedTime, RL, cL_blockedTime, 4, some .int, { frames := 60, cells := 14, slots := 1100, locals := 3000 })
abbrev hW_blockedTime : HH := [(0, 9, 12, 18)]
theorem nW_blockedTime : Nm mW_blockedTime := ⟨by decide +kernel, rfl⟩
theorem kW_blockedTime : LkW mW_blockedTime hW_blockedTime 3 := ⟨inU 788 (by decide +kernel) rfl, inU 0 (by decide +kernel) rfl, inU 789 (by decide +kernel) rfl, ⟨by decide +kernel, by decide +kernel, by decide +kernel⟩⟩
theorem w_blockedTime {Γ : GG} {P : MP} {I : MM} {a0 : Int} {R : Int → MP → MM → Prop} (hC : Cl Γ m_X5_blockedTime [vR 30, vI a0] P I (rpi R)) (o30 : Ob Γ 30 (.inl 5)) (o21 : Ob Γ 21 (.inr (3, 1))) {QG : KG} (k : ∀ z P' J, R z P' J → QG Γ (some (vI 0)) P' (up2 J 21 0 (w32 z))) : ClW Γ mW_blockedTime hW_blockedTime [vR 30, vI a0, vR 21] P I QG := by
  refine clw_of nW_blockedTime (Nat.le_of_ble_eq_true rfl) ?_
  refine y_aload_n 2 dL_blockedTime_0 rfl ?_
  refine y_iconst dL_blockedTime_1 ?_
  refine y_aload_n 0 dL_blockedTime_2 rfl ?_
  refine y_iload_n 1 dL_blockedTime_3 rfl ?_
  refine y_Vpi (μ := mW_blockedTime) dL_blockedTime_4 hC k_X5_blockedTime mlL_43 ⟨Nat.le_of_ble_eq_true rfl, Nat.le_of_ble_eq_true rfl⟩ ⟨rfl, rfl⟩ ⟨by decide, by decide⟩ rfl o30 rfl (Nat.le_of_ble_eq_true rfl) _ rfl (fun z P' J hq => ?_)
  refine y_i2lW dL_blockedTime_7 ?_
  refine y_last dL_blockedTime_8 o21 (by decide) (by decide) (by decide) ?_
  refine y_goto 15 dL_blockedTime_9 (by decide) ?_
  refine y_iconst dL_blockedTime_15 ?_
  exact y_iretR dL_blockedTime_16 rfl (by decide) (by decide) (k z P' J hq)
theorem wt1_blockedTime {Γ : GG} {P : MP} {I : MM} {a0 : Int} {Rp : MP → MM → Prop} (hC : ClT Γ mT_blockedTime [vR 30, vI a0] P I (tX exIO Rp)) (o30 : Ob Γ 30 (.inl 5)) (o21 : Ob Γ 21 (.inr (3, 1))) {QG : KG} (k : ∀ P' J, Rp P' J → QG Γ (some (vI 1)) P' J) : ClW Γ mW_blockedTime hW_blockedTime [vR 30, vI a0, vR 21] P I QG := by
  refine clw_of nW_blockedTime (Nat.le_of_ble_eq_true rfl) ?_
  refine y_aload_n 2 dL_blockedTime_0 rfl ?_
  refine y_iconst dL_blockedTime_1 ?_
  refine y_aload_n 0 dL_blockedTime_2 rfl ?_
  refine y_iload_n 1 dL_blockedTime_3 rfl ?_
  refine y_cV (μ := mW_blockedTime) (al' := []) (E := exIO) dL_blockedTime_4 hC kT_blockedTime mlL_43 ⟨Nat.le_of_ble_eq_true rfl, Nat.le_of_ble_eq_true rfl⟩ rfl o30 rfl (Nat.le_of_ble_eq_true rfl) (by decide) _ rfl (fun _ _ _ h => h.1) (by decide +kernel) [] [] (0, 9, 12, 18) rfl (fun z hz => (List.not_mem_nil hz).elim) (by decide) (by decide) clL_18 dL_blockedTime_12 (by decide) (fun q hq => (List.not_mem_nil hq).elim) (fun P' J hq => ?_)
  refine y_iconst dL_blockedTime_13 ?_
  exact y_iretR dL_blockedTime_14 rfl (by decide) (by decide) (k P' J hq.2)
abbrev mW_critical : MI := (yL_critical, RL, cL_critical, 4, some .int, { frames := 60, cells := 14, slots := 1100, locals := 3000 })
abbrev hW_critical : HH := [(0, 9, 12, 49)]
theorem nW_critical : Nm mW_critical := ⟨by decide +kernel, rfl⟩
theorem kW_critical : LkW mW_critical hW_critical 3 := ⟨inU 796 (by decide +kernel) rfl, inU 0 (by decide +kernel) rfl, inU 797 (by decide +kernel) rfl, ⟨by decide +kernel, by decide +kernel, by decide +kernel⟩⟩
theorem w_critical {Γ : GG} {P : MP} {I : MM} {a0 : Int} {R : Int → MP → MM → Prop} (hC : Cl Γ m_X5_critical [vR 30, vI a0] P I (rpi R)) (o30 : Ob Γ 30 (.inl 5)) (o21 : Ob Γ 21 (.inr (3, 1))) {QG : KG} (k : ∀ z P' J, R z P' J → QG Γ (some (vI 0)) P' (up2 J 21 0 (w32 z))) : ClW Γ mW_critical hW_critical [vR 30, vI a0, vR 21] P I QG := by
  refine clw_of nW_critical (Nat.le_of_ble_eq_true rfl) ?_
  refine y_aload_n 2 dL_critical_0 rfl ?_
  refine y_iconst dL_critical_1 ?_
  refine y_aload_n 0 dL_critical_2 rfl ?_
  refine y_iload_n 1 dL_critical_3 rfl ?_
  refine y_Vpi (μ := mW_critical) dL_critical_4 hC k_X5_critical mlL_46 ⟨Nat.le_of_ble_eq_true rfl, Nat.le_of_ble_eq_true rfl⟩ ⟨rfl, rfl⟩ ⟨by decide, by decide⟩ rfl o30 rfl (Nat.le_of_ble_eq_true rfl) _ rfl (fun z P' J hq => ?_)
  refine y_i2lW dL_critical_7 ?_
  refine y_last dL_critical_8 o21 (by decide) (by decide) (by decide) ?_
  refine y_goto 15 dL_critical_9 (by decide) ?_
  refine y_iconst dL_critical_15 ?_
  exact y_iretR dL_critical_16 rfl (by decide) (by decide) (k z P' J hq)
theorem wt1_critical {Γ : GG} {P : MP} {I : MM} {a0 : Int} {Rp : MP → MM → Prop} (hC : ClT Γ mT_critical [vR 30, vI a0] P I (tX nsE Rp)) (o30 : Ob Γ 30 (.inl 5)) (o21 : Ob Γ 21 (.inr (3, 1))) {QG : KG} (k : ∀ P' J, Rp P' J → QG Γ (some (vI 1)) P' J) : ClW Γ mW_critical hW_critical [vR 30, vI a0, vR 21] P I QG := by
  refine clw_of nW_critical (Nat.le_of_ble_eq_true rfl) ?_
  refine y_aload_n 2 dL_critical_0 rfl ?_
  refine y_iconst dL_critical_1 ?_
  refine y_aload_n 0 dL_critical_2 rfl ?_
  refine y_iload_n 1 dL_critical_3 rfl ?_
  refine y_cV (μ := mW_critical) (al' := []) (E := nsE) dL_critical_4 hC kT_critical mlL_46 ⟨Nat.le_of_ble_eq_true rfl, Nat.le_of_ble_eq_true rfl⟩ rfl o30 rfl (Nat.le_of_ble_eq_true rfl) (by decide) _ rfl (fun _ _ _ h => h.1) (by decide +kernel) [] [] (0, 9, 12, 49) rfl (fun z hz => (List.not_mem_nil hz).elim) (by decide) (by decide) clL_49 dL_critical_12 (by decide) (fun q hq => (List.not_mem_nil hq).elim) (fun P' J hq => ?_)
  refine y_iconst dL_critical_13 ?_
  exact y_iretR dL_critical_14 rfl (by decide) (by decide) (k P' J hq.2)
abbrev mW_deadlocks : MI := (yL_deadlocks, RL, cL_deadlocks, 5, some .int, { frames := 60, cells := 14, slots := 1100, locals := 3000 })
abbrev hW_deadlocks : HH := [(0, 17, 20, 18)]
theorem nW_deadlocks : Nm mW_deadlocks := ⟨by decide +kernel, rfl⟩
theorem kW_deadlocks : LkW mW_deadlocks hW_deadlocks 4 := ⟨inU 820 (by decide +kernel) rfl, inU 0 (by decide +kernel) rfl, inU 821 (by decide +kernel) rfl, ⟨by decide +kernel, by decide +kernel, by decide +kernel⟩⟩
theorem w_deadlocks {Γ : GG} {P : MP} {I : MM} {a0 a1 : Int} {R : Int → MP → MM → Prop} (hC : Cl Γ m_X5_deadlocks [vR 30, vI a0, vI a1] P I (rpi R)) (o30 : Ob Γ 30 (.inl 5)) (o21 : Ob Γ 21 (.inr (3, 1))) {QG : KG} (k : ∀ z P' J, R z P' J → QG Γ (some (vI 0)) P' (up2 J 21 0 (w32 z))) (hb : ∀ z P' J, R z P' J → z = 0 ∨ z = 1) : ClW Γ mW_deadlocks hW_deadlocks [vR 30, vI a0, vI a1, vR 21] P I QG := by
  refine clw_of nW_deadlocks (Nat.le_of_ble_eq_true rfl) ?_
  refine y_aload_n 3 dL_deadlocks_0 rfl ?_
  refine y_iconst dL_deadlocks_1 ?_
  refine y_aload_n 0 dL_deadlocks_2 rfl ?_
  refine y_iload_n 1 dL_deadlocks_3 rfl ?_
  refine y_iload_n 2 dL_deadlocks_4 rfl ?_
  refine y_Vpi (μ := mW_deadlocks) dL_deadlocks_5 hC k_X5_deadlocks mlL_51 ⟨Nat.le_of_ble_eq_true rfl, Nat.le_of_ble_eq_true rfl⟩ ⟨rfl, rfl⟩ ⟨by decide, by decide⟩ rfl o30 rfl (Nat.le_of_ble_eq_true rfl) _ rfl (fun z P' J hq => ?_)
  have hk := k z P' J hq
  rcases hb z P' J hq with rfl | rfl
  · refine y_if_eq 15 dL_deadlocks_8 (by decide) ⟨by decide, by decide⟩ (fun _ => ?_) (fun z => absurd rfl z)
    refine y_lconst 0 dL_deadlocks_15 rfl ?_
    refine y_last dL_deadlocks_16 o21 (by decide) (by decide) (by decide) ?_
    refine y_goto 24 dL_deadlocks_17 (by decide) ?_
    refine y_iconst dL_deadlocks_24 ?_
    exact y_iretR dL_deadlocks_25 rfl (by decide) (by decide) hk
  · refine y_if_eq 15 dL_deadlocks_8 (by decide) ⟨by decide, by decide⟩ (fun z => absurd z (by decide)) (fun _ => ?_)
    refine y_lconst 1 dL_deadlocks_11 rfl ?_
    refine y_goto 16 dL_deadlocks_12 (by decide) ?_
    refine y_last dL_deadlocks_16 o21 (by decide) (by decide) (by decide) ?_
    refine y_goto 24 dL_deadlocks_17 (by decide) ?_
    refine y_iconst dL_deadlocks_24 ?_
    exact y_iretR dL_deadlocks_25 rfl (by decide) (by decide) hk
theorem wt1_deadlocks {Γ : GG} {P : MP} {I : MM} {a0 a1 : Int} {Rp : MP → MM → Prop} (hC : ClT Γ mT_deadlocks [vR 30, vI a0, vI a1] P I (tX exIO Rp)) (o30 : Ob Γ 30 (.inl 5)) (o21 : Ob Γ 21 (.inr (3, 1))) {QG : KG} (k : ∀ P' J, Rp P' J → QG Γ (some (vI 1)) P' J) : ClW Γ mW_deadlocks hW_deadlocks [vR 30, vI a0, vI a1, vR 21] P I QG := by
  refine clw_of nW_deadlocks (Nat.le_of_ble_eq_true rfl) ?_
  refine y_aload_n 3 dL_deadlocks_0 rfl ?_
  refine y_iconst dL_deadlocks_1 ?_
  refine y_aload_n 0 dL_deadlocks_2 rfl ?_
  refine y_iload_n 1 dL_deadlocks_3 rfl ?_
  refine y_iload_n 2 dL_deadlocks_4 rfl ?_
  refine y_cVw (μ := mW_deadlocks) (al' := []) (E := exIO) dL_deadlocks_5 hC kT_deadlocks mlL_51 ⟨Nat.le_of_ble_eq_true rfl, Nat.le_of_ble_eq_true rfl⟩ rfl o30 rfl (Nat.le_of_ble_eq_true rfl) (by decide) _ rfl (fun _ _ _ h => h.1) (by decide +kernel) [] [] (0, 17, 20, 18) rfl (fun z hz => (List.not_mem_nil hz).elim) (by decide) (by decide) clL_18 dL_deadlocks_20 (by decide) (fun q hq => (List.not_mem_nil hq).elim) (fun P' J hq => ?_)
  refine y_iconst dL_deadlocks_22 ?_
  exact y_iretR dL_deadlocks_23 rfl (by decide) (by decide) (k P' J hq.2)
abbrev mW_makespanAfter : MI := (yL_makespanAfter, RL, cL_makespanAfter, 5, some .int, { frames := 60, cells := 14, slots := 1100, locals := 3000 })
abbrev hW_makespanAfter : HH := [(0, 10, 13, 18)]
theorem nW_makespanAfter : Nm mW_makespanAfter := ⟨by decide +kernel, rfl⟩
theorem kW_makespanAfter : LkW mW_makespanAfter hW_makespanAfter 4 := ⟨inU 832 (by decide +kernel) rfl, inU 0 (by decide +kernel) rfl, inU 833 (by decide +kernel) rfl, ⟨by decide +kernel, by decide +kernel, by decide +kernel⟩⟩
theorem w_makespanAfter {Γ : GG} {P : MP} {I : MM} {a0 a1 : Int} {R : Int → MP → MM → Prop} (hC : Cl Γ m_X5_makespanAfter [vR 30, vI a0, vI a1] P I (rpi R)) (o30 : Ob Γ 30 (.inl 5)) (o21 : Ob Γ 21 (.inr (3, 1))) {QG : KG} (k : ∀ z P' J, R z P' J → QG Γ (some (vI 0)) P' (up2 J 21 0 (w32 z))) : ClW Γ mW_makespanAfter hW_makespanAfter [vR 30, vI a0, vI a1, vR 21] P I QG := by
  refine clw_of nW_makespanAfter (Nat.le_of_ble_eq_true rfl) ?_
  refine y_aload_n 3 dL_makespanAfter_0 rfl ?_
  refine y_iconst dL_makespanAfter_1 ?_
  refine y_aload_n 0 dL_makespanAfter_2 rfl ?_
  refine y_iload_n 1 dL_makespanAfter_3 rfl ?_
  refine y_iload_n 2 dL_makespanAfter_4 rfl ?_
  refine y_Vpi (μ := mW_makespanAfter) dL_makespanAfter_5 hC k_X5_makespanAfter mlL_55 ⟨Nat.le_of_ble_eq_true rfl, Nat.le_of_ble_eq_true rfl⟩ ⟨rfl, rfl⟩ ⟨by decide, by decide⟩ rfl o30 rfl (Nat.le_of_ble_eq_true rfl) _ rfl (fun z P' J hq => ?_)
  refine y_i2lW dL_makespanAfter_8 ?_
  refine y_last dL_makespanAfter_9 o21 (by decide) (by decide) (by decide) ?_
  refine y_goto 17 dL_makespanAfter_10 (by decide) ?_
  refine y_iconst dL_makespanAfter_17 ?_
  exact y_iretR dL_makespanAfter_18 rfl (by decide) (by decide) (k z P' J hq)
theorem wt1_makespanAfter {Γ : GG} {P : MP} {I : MM} {a0 a1 : Int} {Rp : MP → MM → Prop} (hC : ClT Γ mT_makespanAfter [vR 30, vI a0, vI a1] P I (tX exIO Rp)) (o30 : Ob Γ 30 (.inl 5)) (o21 : Ob Γ 21 (.inr (3, 1))) {QG : KG} (k : ∀ P' J, Rp P' J → QG Γ (some (vI 1)) P' J) : ClW Γ mW_makespanAfter hW_makespanAfter [vR 30, vI a0, vI a1, vR 21] P I QG := by
  refine clw_of nW_makespanAfter (Nat.le_of_ble_eq_true rfl) ?_
  refine y_aload_n 3 dL_makespanAfter_0 rfl ?_
  refine y_iconst dL_makespanAfter_1 ?_
  refine y_aload_n 0 dL_makespanAfter_2 rfl ?_
  refine y_iload_n 1 dL_makespanAfter_3 rfl ?_
  refine y_iload_n 2 dL_makespanAfter_4 rfl ?_
  refine y_cVw (μ := mW_makespanAfter) (al' := []) (E := exIO) dL_makespanAfter_5 hC kT_makespanAfter mlL_55 ⟨Nat.le_of_ble_eq_true rfl, Nat.le_of_ble_eq_true rfl⟩ rfl o30 rfl (Nat.le_of_ble_eq_true rfl) (by decide) _ rfl (fun _ _ _ h => h.1) (by decide +kernel) [] [] (0, 10, 13, 18) rfl (fun z hz => (List.not_mem_nil hz).elim) (by decide) (by decide) clL_18 dL_makespanAfter_13 (by decide) (fun q hq => (List.not_mem_nil hq).elim) (fun P' J hq => ?_)
  refine y_iconst dL_makespanAfter_15 ?_
  exact y_iretR dL_makespanAfter_16 rfl (by decide) (by decide) (k P' J hq.2)
abbrev mW_swap : MI := (yL_swap, RL, cL_swap, 5, some .int, { frames := 60, cells := 14, slots := 1100, locals := 3000 })
abbrev hW_swap : HH := [(0, 10, 13, 18), (0, 10, 17, 61)]
theorem nW_swap : Nm mW_swap := ⟨by decide +kernel, rfl⟩
theorem kW_swap : LkW mW_swap hW_swap 4 := ⟨inU 839 (by decide +kernel) rfl, inU 0 (by decide +kernel) rfl, inU 840 (by decide +kernel) rfl, ⟨by decide +kernel, by decide +kernel, by decide +kernel⟩⟩
theorem w_swap {Γ : GG} {P : MP} {I : MM} {a0 a1 : Int} {R : Int → MP → MM → Prop} (hC : Cl Γ m_X5_swap [vR 30, vI a0, vI a1] P I (rpi R)) (o30 : Ob Γ 30 (.inl 5)) (o21 : Ob Γ 21 (.inr (3, 1))) {QG : KG} (k : ∀ z P' J, R z P' J → QG Γ (some (vI 0)) P' (up2 J 21 0 (w32 z))) : ClW Γ mW_swap hW_swap [vR 30, vI a0, vI a1, vR 21] P I QG := by
  refine clw_of nW_swap (Nat.le_of_ble_eq_true rfl) ?_
  refine y_aload_n 3 dL_swap_0 rfl ?_
  refine y_iconst dL_swap_1 ?_
  refine y_aload_n 0 dL_swap_2 rfl ?_
  refine y_iload_n 1 dL_swap_3 rfl ?_
  refine y_iload_n 2 dL_swap_4 rfl ?_
  refine y_Vpi (μ := mW_swap) dL_swap_5 hC k_X5_swap mlL_58 ⟨Nat.le_of_ble_eq_true rfl, Nat.le_of_ble_eq_true rfl⟩ ⟨rfl, rfl⟩ ⟨by decide, by decide⟩ rfl o30 rfl (Nat.le_of_ble_eq_true rfl) _ rfl (fun z P' J hq => ?_)
  refine y_i2lW dL_swap_8 ?_
  refine y_last dL_swap_9 o21 (by decide) (by decide) (by decide) ?_
  refine y_goto 21 dL_swap_10 (by decide) ?_
  refine y_iconst dL_swap_21 ?_
  exact y_iretR dL_swap_22 rfl (by decide) (by decide) (k z P' J hq)
theorem wt1_swap {Γ : GG} {P : MP} {I : MM} {a0 a1 : Int} {Rp : MP → MM → Prop} (hC : ClT Γ mT_swap [vR 30, vI a0, vI a1] P I (tX exIO Rp)) (o30 : Ob Γ 30 (.inl 5)) (o21 : Ob Γ 21 (.inr (3, 1))) {QG : KG} (k : ∀ P' J, Rp P' J → QG Γ (some (vI 1)) P' J) : ClW Γ mW_swap hW_swap [vR 30, vI a0, vI a1, vR 21] P I QG := by
  refine clw_of nW_swap (Nat.le_of_ble_eq_true rfl) ?_
  refine y_aload_n 3 dL_swap_0 rfl ?_
  refine y_iconst dL_swap_1 ?_
  refine y_aload_n 0 dL_swap_2 rfl ?_
  refine y_iload_n 1 dL_swap_3 rfl ?_
  refine y_iload_n 2 dL_swap_4 rfl ?_
  refine y_cVw (μ := mW_swap) (al' := []) (E := exIO) dL_swap_5 hC kT_swap mlL_58 ⟨Nat.le_of_ble_eq_true rfl, Nat.le_of_ble_eq_true rfl⟩ rfl o30 rfl (Nat.le_of_ble_eq_true rfl) (by decide) _ rfl (fun _ _ _ h => h.1) (by decide +kernel) [] [(0, 10, 17, 61)] (0, 10, 13, 18) rfl (fun z hz => (List.not_mem_nil hz).elim) (by decide) (by decide) clL_18 dL_swap_13 (by decide) (fun q hq => (List.not_mem_nil hq).elim) (fun P' J hq => ?_)
  refine y_iconst dL_swap_15 ?_
  exact y_iretR dL_swap_16 rfl (by decide) (by decide) (k P' J hq.2)
theorem wt2_swap {Γ : GG} {P : MP} {I : MM} {a0 a1 : Int} {Rp : MP → MM → Prop} (hC : ClT Γ mT_swap [vR 30, vI a0, vI a1] P I (tX exIS Rp)) (o30 : Ob Γ 30 (.inl 5)) (o21 : Ob Γ 21 (.inr (3, 1))) {QG : KG} (k : ∀ P' J, Rp P' J → QG Γ (some (vI 2)) P' J) : ClW Γ mW_swap hW_swap [vR 30, vI a0, vI a1, vR 21] P I QG := by
  refine clw_of nW_swap (Nat.le_of_ble_eq_true rfl) ?_
  refine y_aload_n 3 dL_swap_0 rfl ?_
  refine y_iconst dL_swap_1 ?_
  refine y_aload_n 0 dL_swap_2 rfl ?_
  refine y_iload_n 1 dL_swap_3 rfl ?_
  refine y_iload_n 2 dL_swap_4 rfl ?_
  refine y_cVw (μ := mW_swap) (al' := []) (E := exIS) dL_swap_5 hC kT_swap mlL_58 ⟨Nat.le_of_ble_eq_true rfl, Nat.le_of_ble_eq_true rfl⟩ rfl o30 rfl (Nat.le_of_ble_eq_true rfl) (by decide) _ rfl (fun _ _ _ h => h.1) (by decide +kernel) [(0, 10, 13, 18)] [] (0, 10, 17, 61) rfl (fun z hz => by rw [List.mem_singleton.mp hz]; exact ⟨exIO, by decide, clL_18, by decide +kernel⟩) (by decide) (by decide) clL_61 dL_swap_17 (by decide) (fun q hq => (List.not_mem_nil hq).elim) (fun P' J hq => ?_)
  refine y_iconst dL_swap_19 ?_
  exact y_iretR dL_swap_20 rfl (by decide) (by decide) (k P' J hq.2)
abbrev mW_improve : MI := (yL_improve, RL, cL_improve, 4, some .int, { frames := 60, cells := 14, slots := 1100, locals := 3000 })
abbrev hW_improve : HH := [(0, 9, 12, 13)]
theorem nW_improve : Nm mW_improve := ⟨by decide +kernel, rfl⟩
theorem kW_improve : LkW mW_improve hW_improve 3 := ⟨inU 867 (by decide +kernel) rfl, inU 0 (by decide +kernel) rfl, inU 868 (by decide +kernel) rfl, ⟨by decide +kernel, by decide +kernel, by decide +kernel⟩⟩
theorem w_improve {Γ : GG} {P : MP} {I : MM} {a0 : Int} {R : Int → MP → MM → Prop} (hC : Cl Γ m_X5_improve [vR 30, vI a0] P I (rpi R)) (o30 : Ob Γ 30 (.inl 5)) (o21 : Ob Γ 21 (.inr (3, 1))) {QG : KG} (k : ∀ z P' J, R z P' J → QG Γ (some (vI 0)) P' (up2 J 21 0 (w32 z))) : ClW Γ mW_improve hW_improve [vR 30, vI a0, vR 21] P I QG := by
  refine clw_of nW_improve (Nat.le_of_ble_eq_true rfl) ?_
  refine y_aload_n 2 dL_improve_0 rfl ?_
  refine y_iconst dL_improve_1 ?_
  refine y_aload_n 0 dL_improve_2 rfl ?_
  refine y_iload_n 1 dL_improve_3 rfl ?_
  refine y_Vpi (μ := mW_improve) dL_improve_4 hC k_X5_improve mlL_63 ⟨Nat.le_of_ble_eq_true rfl, Nat.le_of_ble_eq_true rfl⟩ ⟨rfl, rfl⟩ ⟨by decide, by decide⟩ rfl o30 rfl (Nat.le_of_ble_eq_true rfl) _ rfl (fun z P' J hq => ?_)
  refine y_i2lW dL_improve_7 ?_
  refine y_last dL_improve_8 o21 (by decide) (by decide) (by decide) ?_
  refine y_goto 15 dL_improve_9 (by decide) ?_
  refine y_iconst dL_improve_15 ?_
  exact y_iretR dL_improve_16 rfl (by decide) (by decide) (k z P' J hq)
theorem wt1_improve {Γ : GG} {P : MP} {I : MM} {a0 : Int} {Rp : MP → MM → Prop} (hC : ClT Γ mT_improve [vR 30, vI a0] P I (tX exIA Rp)) (o30 : Ob Γ 30 (.inl 5)) (o21 : Ob Γ 21 (.inr (3, 1))) {QG : KG} (k : ∀ P' J, Rp P' J → QG Γ (some (vI 1)) P' J) : ClW Γ mW_improve hW_improve [vR 30, vI a0, vR 21] P I QG := by
  refine clw_of nW_improve (Nat.le_of_ble_eq_true rfl) ?_
  refine y_aload_n 2 dL_improve_0 rfl ?_
  refine y_iconst dL_improve_1 ?_
  refine y_aload_n 0 dL_improve_2 rfl ?_
  refine y_iload_n 1 dL_improve_3 rfl ?_
  refine y_cV (μ := mW_improve) (al' := []) (E := exIA) dL_improve_4 hC kT_improve mlL_63 ⟨Nat.le_of_ble_eq_true rfl, Nat.le_of_ble_eq_true rfl⟩ rfl o30 rfl (Nat.le_of_ble_eq_true rfl) (by decide) _ rfl (fun _ _ _ h => h.1) (by decide +kernel) [] [] (0, 9, 12, 13) rfl (fun z hz => (List.not_mem_nil hz).elim) (by decide) (by decide) clL_13 dL_improve_12 (by decide) (fun q hq => (List.not_mem_nil hq).elim) (fun P' J hq => ?_)
  refine y_iconst dL_improve_13 ?_
  exact y_iretR dL_improve_14 rfl (by decide) (by decide) (k P' J hq.2)
abbrev mW_place : MI := (yL_place, RL, cL_place, 6, some .int, { frames := 60, cells := 14, slots := 1100, locals := 3000 })
abbrev hW_place : HH := [(0, 12, 15, 18), (0, 12, 19, 61)]
theorem nW_place : Nm mW_place := ⟨by decide +kernel, rfl⟩
theorem kW_place : LkW mW_place hW_place 5 := ⟨inU 878 (by decide +kernel) rfl, inU 0 (by decide +kernel) rfl, inU 879 (by decide +kernel) rfl, ⟨by decide +kernel, by decide +kernel, by decide +kernel⟩⟩
theorem w_place {Γ : GG} {P : MP} {I : MM} {a0 a1 a2 : Int} {R : Int → MP → MM → Prop} (hC : Cl Γ m_X5_place [vR 30, vI a0, vI a1, vI a2] P I (rpi R)) (o30 : Ob Γ 30 (.inl 5)) (o21 : Ob Γ 21 (.inr (3, 1))) {QG : KG} (k : ∀ z P' J, R z P' J → QG Γ (some (vI 0)) P' (up2 J 21 0 (w32 z))) : ClW Γ mW_place hW_place [vR 30, vI a0, vI a1, vI a2, vR 21] P I QG := by
  refine clw_of nW_place (Nat.le_of_ble_eq_true rfl) ?_
  refine y_aload 4 dL_place_0 rfl ?_
  refine y_iconst dL_place_2 ?_
  refine y_aload_n 0 dL_place_3 rfl ?_
  refine y_iload_n 1 dL_place_4 rfl ?_
  refine y_iload_n 2 dL_place_5 rfl ?_
  refine y_iload_n 3 dL_place_6 rfl ?_
  refine y_Vpi (μ := mW_place) dL_place_7 hC k_X5_place mlL_66 ⟨Nat.le_of_ble_eq_true rfl, Nat.le_of_ble_eq_true rfl⟩ ⟨rfl, rfl⟩ ⟨by decide, by decide⟩ rfl o30 rfl (Nat.le_of_ble_eq_true rfl) _ rfl (fun z P' J hq => ?_)
  refine y_i2lW dL_place_10 ?_
  refine y_last dL_place_11 o21 (by decide) (by decide) (by decide) ?_
  refine y_goto 23 dL_place_12 (by decide) ?_
  refine y_iconst dL_place_23 ?_
  exact y_iretR dL_place_24 rfl (by decide) (by decide) (k z P' J hq)
theorem wt1_place {Γ : GG} {P : MP} {I : MM} {a0 a1 a2 : Int} {Rp : MP → MM → Prop} (hC : ClT Γ mT_place [vR 30, vI a0, vI a1, vI a2] P I (tX exIO Rp)) (o30 : Ob Γ 30 (.inl 5)) (o21 : Ob Γ 21 (.inr (3, 1))) {QG : KG} (k : ∀ P' J, Rp P' J → QG Γ (some (vI 1)) P' J) : ClW Γ mW_place hW_place [vR 30, vI a0, vI a1, vI a2, vR 21] P I QG := by
  refine clw_of nW_place (Nat.le_of_ble_eq_true rfl) ?_
  refine y_aload 4 dL_place_0 rfl ?_
  refine y_iconst dL_place_2 ?_
  refine y_aload_n 0 dL_place_3 rfl ?_
  refine y_iload_n 1 dL_place_4 rfl ?_
  refine y_iload_n 2 dL_place_5 rfl ?_
  refine y_iload_n 3 dL_place_6 rfl ?_
  refine y_cVw (μ := mW_place) (al' := []) (E := exIO) dL_place_7 hC kT_place mlL_66 ⟨Nat.le_of_ble_eq_true rfl, Nat.le_of_ble_eq_true rfl⟩ rfl o30 rfl (Nat.le_of_ble_eq_true rfl) (by decide) _ rfl (fun _ _ _ h => h.1) (by decide +kernel) [] [(0, 12, 19, 61)] (0, 12, 15, 18) rfl (fun z hz => (List.not_mem_nil hz).elim) (by decide) (by decide) clL_18 dL_place_15 (by decide) (fun q hq => (List.not_mem_nil hq).elim) (fun P' J hq => ?_)
  refine y_iconst dL_place_17 ?_
  exact y_iretR dL_place_18 rfl (by decide) (by decide) (k P' J hq.2)
theorem wt2_place {Γ : GG} {P : MP} {I : MM} {a0 a1 a2 : Int} {Rp : MP → MM → Prop} (hC : ClT Γ mT_place [vR 30, vI a0, vI a1, vI a2] P I (tX exIS Rp)) (o30 : Ob Γ 30 (.inl 5)) (o21 : Ob Γ 21 (.inr (3, 1))) {QG : KG} (k : ∀ P' J, Rp P' J → QG Γ (some (vI 2)) P' J) : ClW Γ mW_place hW_place [vR 30, vI a0, vI a1, vI a2, vR 21] P I QG := by
  refine clw_of nW_place (Nat.le_of_ble_eq_true rfl) ?_
  refine y_aload 4 dL_place_0 rfl ?_
  refine y_iconst dL_place_2 ?_
  refine y_aload_n 0 dL_place_3 rfl ?_
  refine y_iload_n 1 dL_place_4 rfl ?_
  refine y_iload_n 2 dL_place_5 rfl ?_
  refine y_iload_n 3 dL_place_6 rfl ?_
  refine y_cVw (μ := mW_place) (al' := []) (E := exIS) dL_place_7 hC kT_place mlL_66 ⟨Nat.le_of_ble_eq_true rfl, Nat.le_of_ble_eq_true rfl⟩ rfl o30 rfl (Nat.le_of_ble_eq_true rfl) (by decide) _ rfl (fun _ _ _ h => h.1) (by decide +kernel) [(0, 12, 15, 18)] [] (0, 12, 19, 61) rfl (fun z hz => by rw [List.mem_singleton.mp hz]; exact ⟨exIO, by decide, clL_18, by decide +kernel⟩) (by decide) (by decide) clL_61 dL_place_19 (by decide) (fun q hq => (List.not_mem_nil hq).elim) (fun P' J hq => ?_)
  refine y_iconst dL_place_21 ?_
  exact y_iretR dL_place_22 rfl (by decide) (by decide) (k P' J hq.2)
abbrev mW_setDuration : MI := (yL_setDuration, RL, cL_setDuration, 6, some .int, { frames := 60, cells := 14, slots := 1100, locals := 3000 })
abbrev hW_setDuration : HH := [(0, 12, 15, 18), (0, 12, 19, 13)]
theorem nW_setDuration : Nm mW_setDuration := ⟨by decide +kernel, rfl⟩
theorem kW_setDuration : LkW mW_setDuration hW_setDuration 5 := ⟨inU 892 (by decide +kernel) rfl, inU 0 (by decide +kernel) rfl, inU 893 (by decide +kernel) rfl, ⟨by decide +kernel, by decide +kernel, by decide +kernel⟩⟩
theorem w_setDuration {Γ : GG} {P : MP} {I : MM} {a0 a1 a2 : Int} {R : Int → MP → MM → Prop} (hC : Cl Γ m_X5_setDuration [vR 30, vI a0, vI a1, vI a2] P I (rpi R)) (o30 : Ob Γ 30 (.inl 5)) (o21 : Ob Γ 21 (.inr (3, 1))) {QG : KG} (k : ∀ z P' J, R z P' J → QG Γ (some (vI 0)) P' (up2 J 21 0 (w32 z))) : ClW Γ mW_setDuration hW_setDuration [vR 30, vI a0, vI a1, vI a2, vR 21] P I QG := by
  refine clw_of nW_setDuration (Nat.le_of_ble_eq_true rfl) ?_
  refine y_aload 4 dL_setDuration_0 rfl ?_
  refine y_iconst dL_setDuration_2 ?_
  refine y_aload_n 0 dL_setDuration_3 rfl ?_
  refine y_iload_n 1 dL_setDuration_4 rfl ?_
  refine y_iload_n 2 dL_setDuration_5 rfl ?_
  refine y_iload_n 3 dL_setDuration_6 rfl ?_
  refine y_Vpi (μ := mW_setDuration) dL_setDuration_7 hC k_X5_setDuration mlL_69 ⟨Nat.le_of_ble_eq_true rfl, Nat.le_of_ble_eq_true rfl⟩ ⟨rfl, rfl⟩ ⟨by decide, by decide⟩ rfl o30 rfl (Nat.le_of_ble_eq_true rfl) _ rfl (fun z P' J hq => ?_)
  refine y_i2lW dL_setDuration_10 ?_
  refine y_last dL_setDuration_11 o21 (by decide) (by decide) (by decide) ?_
  refine y_goto 23 dL_setDuration_12 (by decide) ?_
  refine y_iconst dL_setDuration_23 ?_
  exact y_iretR dL_setDuration_24 rfl (by decide) (by decide) (k z P' J hq)
theorem wt1_setDuration {Γ : GG} {P : MP} {I : MM} {a0 a1 a2 : Int} {Rp : MP → MM → Prop} (hC : ClT Γ mT_setDuration [vR 30, vI a0, vI a1, vI a2] P I (tX exIO Rp)) (o30 : Ob Γ 30 (.inl 5)) (o21 : Ob Γ 21 (.inr (3, 1))) {QG : KG} (k : ∀ P' J, Rp P' J → QG Γ (some (vI 1)) P' J) : ClW Γ mW_setDuration hW_setDuration [vR 30, vI a0, vI a1, vI a2, vR 21] P I QG := by
  refine clw_of nW_setDuration (Nat.le_of_ble_eq_true rfl) ?_
  refine y_aload 4 dL_setDuration_0 rfl ?_
  refine y_iconst dL_setDuration_2 ?_
  refine y_aload_n 0 dL_setDuration_3 rfl ?_
  refine y_iload_n 1 dL_setDuration_4 rfl ?_
  refine y_iload_n 2 dL_setDuration_5 rfl ?_
  refine y_iload_n 3 dL_setDuration_6 rfl ?_
  refine y_cVw (μ := mW_setDuration) (al' := []) (E := exIO) dL_setDuration_7 hC kT_setDuration mlL_69 ⟨Nat.le_of_ble_eq_true rfl, Nat.le_of_ble_eq_true rfl⟩ rfl o30 rfl (Nat.le_of_ble_eq_true rfl) (by decide) _ rfl (fun _ _ _ h => h.1) (by decide +kernel) [] [(0, 12, 19, 13)] (0, 12, 15, 18) rfl (fun z hz => (List.not_mem_nil hz).elim) (by decide) (by decide) clL_18 dL_setDuration_15 (by decide) (fun q hq => (List.not_mem_nil hq).elim) (fun P' J hq => ?_)
  refine y_iconst dL_setDuration_17 ?_
  exact y_iretR dL_setDuration_18 rfl (by decide) (by decide) (k P' J hq.2)
theorem wt2_setDuration {Γ : GG} {P : MP} {I : MM} {a0 a1 a2 : Int} {Rp : MP → MM → Prop} (hC : ClT Γ mT_setDuration [vR 30, vI a0, vI a1, vI a2] P I (tX exIA Rp)) (o30 : Ob Γ 30 (.inl 5)) (o21 : Ob Γ 21 (.inr (3, 1))) {QG : KG} (k : ∀ P' J, Rp P' J → QG Γ (some (vI 2)) P' J) : ClW Γ mW_setDuration hW_setDuration [vR 30, vI a0, vI a1, vI a2, vR 21] P I QG := by
  refine clw_of nW_setDuration (Nat.le_of_ble_eq_true rfl) ?_
  refine y_aload 4 dL_setDuration_0 rfl ?_
  refine y_iconst dL_setDuration_2 ?_
  refine y_aload_n 0 dL_setDuration_3 rfl ?_
  refine y_iload_n 1 dL_setDuration_4 rfl ?_
  refine y_iload_n 2 dL_setDuration_5 rfl ?_
  refine y_iload_n 3 dL_setDuration_6 rfl ?_
  refine y_cVw (μ := mW_setDuration) (al' := []) (E := exIA) dL_setDuration_7 hC kT_setDuration mlL_69 ⟨Nat.le_of_ble_eq_true rfl, Nat.le_of_ble_eq_true rfl⟩ rfl o30 rfl (Nat.le_of_ble_eq_true rfl) (by decide) _ rfl (fun _ _ _ h => h.1) (by decide +kernel) [(0, 12, 15, 18)] [] (0, 12, 19, 13) rfl (fun z hz => by rw [List.mem_singleton.mp hz]; exact ⟨exIO, by decide, clL_18, by decide +kernel⟩) (by decide) (by decide) clL_13 dL_setDuration_19 (by decide) (fun q hq => (List.not_mem_nil hq).elim) (fun P' J hq => ?_)
  refine y_iconst dL_setDuration_21 ?_
  exact y_iretR dL_setDuration_22 rfl (by decide) (by decide) (k P' J hq.2)
