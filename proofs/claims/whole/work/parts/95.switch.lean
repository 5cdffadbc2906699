/-! THE LAW: the switch -/
section LS
variable {Γ0 : GG} {ρ : Nat → Nat} {ids : List Nat} {ty : Nat → CT} {P : MP} {I : MM} {Z : ET} {c s : Nat} {i : Int}
theorem lw_switch (h9 : (gl Γ0).stackTraces = false) (hL : (gs Γ0).1 ≤ 3072) (rng : ∀ j, inR ((gs Γ0).2 j)) (i0 : 0 ≤ i) (i1 : i + 6 ≤ ((gs Γ0).1 : Int)) (hcc : c + 20 ≤ 601024) (hss : s + 1200 ≤ 7293034) (hv : INV (gX Γ0 ρ ids ty) P I) (K : NX Γ0 c s i Z) : XE none Γ0 (gX Γ0 ρ ids ty) mLAW c s 33 (al0 i) [] P I Z := by
  have hL2 : (gs Γ0).1 < 2147483648 := by omega
  have k0 : 0 ≤ i ∧ i < ((gs Γ0).1 : Int) := ⟨i0, by omega⟩
  refine y_aload_n 0 dL_law_33 rfl ?_
  refine y_iload 4 dL_law_34 rfl ?_
  refine y_sld dL_law_36 k0.1 k0.2 hL2 ?_
  refine y_bipush dL_law_37 rfl ?_
  refine y_iandM dL_law_39 5 (by decide) (by decide) ?_
  generalize hx : (gs (gX Γ0 ρ ids ty)).2 i.toNat % ((2 ^ 5 : Nat) : Int) = x
  have x0 : 0 ≤ x := by rw [← hx]; exact Int.emod_nonneg _ (by decide)
  have x1 : x < 32 := by rw [← hx]; exact Int.emod_lt_of_pos _ (by decide)
  have hxx : x = 30 ∨ x = 31 ∨ x = 0 ∨ x = 1 ∨ x = 2 ∨ x = 3 ∨ x = 4 ∨ x = 5 ∨ x = 6 ∨ x = 7 ∨ x = 8 ∨ x = 9 ∨ x = 10 ∨ x = 11 ∨ x = 12 ∨ x = 13 ∨ x = 14 ∨ x = 15 ∨ x = 16 ∨ x = 17 ∨ x = 18 ∨ x = 19 ∨ x = 20 ∨ x = 21 ∨ x = 22 ∨ x = 23 ∨ x = 24 ∨ x = 25 ∨ x = 26 ∨ x = 27 ∨ x = 28 ∨ x = 29 := by omega
  rcases hxx with rfl | rfl | rfl | rfl | rfl | rfl | rfl | rfl | rfl | rfl | rfl | rfl | rfl | rfl | rfl | rfl | rfl | rfl | rfl | rfl | rfl | rfl | rfl | rfl | rfl | rfl | rfl | rfl | rfl | rfl | rfl | rfl
  · refine y_tableOut 1509 dL_law_40 ⟨by decide, by decide⟩ (by decide) (by decide) ?_
    exact y_wid (c2 := c + 20) (s2 := s + 1200) (by omega) (by omega) (K ρ ids ty P I hv)
  · refine y_tableOut 1509 dL_law_40 ⟨by decide, by decide⟩ (by decide) (by decide) ?_
    exact y_wid (c2 := c + 20) (s2 := s + 1200) (by omega) (by omega) (K ρ ids ty P I hv)
  · exact y_tableIn (off := 136) 176 dL_law_40 ⟨by decide, by decide⟩ (by decide) (by decide) rfl (by decide) (lw_append h9 hL rng i0 i1 hcc hss hv K)
  · exact y_tableIn (off := 209) 249 dL_law_40 ⟨by decide, by decide⟩ (by decide) (by decide) rfl (by decide) (lw_load h9 hL rng i0 i1 hcc hss hv K)
  · exact y_tableIn (off := 265) 305 dL_law_40 ⟨by decide, by decide⟩ (by decide) (by decide) rfl (by decide) (lw_errorOffset h9 hL rng i0 i1 hcc hss hv K)
  · exact y_tableIn (off := 278) 318 dL_law_40 ⟨by decide, by decide⟩ (by decide) (by decide) rfl (by decide) (lw_machineCount h9 hL rng i0 i1 hcc hss hv K)
  · exact y_tableIn (off := 291) 331 dL_law_40 ⟨by decide, by decide⟩ (by decide) (by decide) rfl (by decide) (lw_jobCount h9 hL rng i0 i1 hcc hss hv K)
  · exact y_tableIn (off := 304) 344 dL_law_40 ⟨by decide, by decide⟩ (by decide) (by decide) rfl (by decide) (lw_operationCount h9 hL rng i0 i1 hcc hss hv K)
  · exact y_tableIn (off := 360) 400 dL_law_40 ⟨by decide, by decide⟩ (by decide) (by decide) rfl (by decide) (lw_operation h9 hL rng i0 i1 hcc hss hv K)
  · exact y_tableIn (off := 440) 480 dL_law_40 ⟨by decide, by decide⟩ (by decide) (by decide) rfl (by decide) (lw_orderLength h9 hL rng i0 i1 hcc hss hv K)
  · exact y_tableIn (off := 496) 536 dL_law_40 ⟨by decide, by decide⟩ (by decide) (by decide) rfl (by decide) (lw_orderAt h9 hL rng i0 i1 hcc hss hv K)
  · exact y_tableIn (off := 564) 604 dL_law_40 ⟨by decide, by decide⟩ (by decide) (by decide) rfl (by decide) (lw_start h9 hL rng i0 i1 hcc hss hv K)
  · exact y_tableIn (off := 632) 672 dL_law_40 ⟨by decide, by decide⟩ (by decide) (by decide) rfl (by decide) (lw_leave h9 hL rng i0 i1 hcc hss hv K)
  · exact y_tableIn (off := 700) 740 dL_law_40 ⟨by decide, by decide⟩ (by decide) (by decide) rfl (by decide) (lw_completion h9 hL rng i0 i1 hcc hss hv K)
  · exact y_tableIn (off := 756) 796 dL_law_40 ⟨by decide, by decide⟩ (by decide) (by decide) rfl (by decide) (lw_makespan h9 hL rng i0 i1 hcc hss hv K)
  · exact y_tableIn (off := 769) 809 dL_law_40 ⟨by decide, by decide⟩ (by decide) (by decide) rfl (by decide) (lw_jobCost h9 hL rng i0 i1 hcc hss hv K)
  · exact y_tableIn (off := 825) 865 dL_law_40 ⟨by decide, by decide⟩ (by decide) (by decide) rfl (by decide) (lw_planCost h9 hL rng i0 i1 hcc hss hv K)
  · exact y_tableIn (off := 838) 878 dL_law_40 ⟨by decide, by decide⟩ (by decide) (by decide) rfl (by decide) (lw_blockedTime h9 hL rng i0 i1 hcc hss hv K)
  · exact y_tableIn (off := 894) 934 dL_law_40 ⟨by decide, by decide⟩ (by decide) (by decide) rfl (by decide) (lw_criticalLength h9 hL rng i0 i1 hcc hss hv K)
  · exact y_tableIn (off := 907) 947 dL_law_40 ⟨by decide, by decide⟩ (by decide) (by decide) rfl (by decide) (lw_critical h9 hL rng i0 i1 hcc hss hv K)
  · exact y_tableIn (off := 963) 1003 dL_law_40 ⟨by decide, by decide⟩ (by decide) (by decide) rfl (by decide) (lw_blockCount h9 hL rng i0 i1 hcc hss hv K)
  · exact y_tableIn (off := 976) 1016 dL_law_40 ⟨by decide, by decide⟩ (by decide) (by decide) rfl (by decide) (lw_longestBlock h9 hL rng i0 i1 hcc hss hv K)
  · exact y_tableIn (off := 989) 1029 dL_law_40 ⟨by decide, by decide⟩ (by decide) (by decide) rfl (by decide) (lw_deadlocks h9 hL rng i0 i1 hcc hss hv K)
  · exact y_tableIn (off := 1064) 1104 dL_law_40 ⟨by decide, by decide⟩ (by decide) (by decide) rfl (by decide) (lw_makespanAfter h9 hL rng i0 i1 hcc hss hv K)
  · exact y_tableIn (off := 1132) 1172 dL_law_40 ⟨by decide, by decide⟩ (by decide) (by decide) rfl (by decide) (lw_bestSwap h9 hL rng i0 i1 hcc hss hv K)
  · exact y_tableIn (off := 1145) 1185 dL_law_40 ⟨by decide, by decide⟩ (by decide) (by decide) rfl (by decide) (lw_swap h9 hL rng i0 i1 hcc hss hv K)
  · exact y_tableIn (off := 1213) 1253 dL_law_40 ⟨by decide, by decide⟩ (by decide) (by decide) rfl (by decide) (lw_improve h9 hL rng i0 i1 hcc hss hv K)
  · exact y_tableIn (off := 1269) 1309 dL_law_40 ⟨by decide, by decide⟩ (by decide) (by decide) rfl (by decide) (lw_place h9 hL rng i0 i1 hcc hss hv K)
  · exact y_tableIn (off := 1349) 1389 dL_law_40 ⟨by decide, by decide⟩ (by decide) (by decide) rfl (by decide) (lw_setDuration h9 hL rng i0 i1 hcc hss hv K)
  · exact y_tableIn (off := 1429) 1469 dL_law_40 ⟨by decide, by decide⟩ (by decide) (by decide) rfl (by decide) (lw_restart h9 hL rng i0 i1 hcc hss hv K)
  · exact y_tableIn (off := 1442) 1482 dL_law_40 ⟨by decide, by decide⟩ (by decide) (by decide) rfl (by decide) (lw_undo h9 hL rng i0 i1 hcc hss hv K)
  · exact y_tableIn (off := 1455) 1495 dL_law_40 ⟨by decide, by decide⟩ (by decide) (by decide) rfl (by decide) (lw_checksum h9 hL rng i0 i1 hcc hss hv K)
end LS
