/-! THE LAW: its loop and its start (mkstart.py) -/
abbrev flN : List Cond := flatC (Jvm.Cond.and given_1 narrow_1)
def ksS : List Nat := [173, 75, 175, 61, 70, 127, 177, 99, 176]
def ksM : List Nat := [120, 169, 126, 161, 165, 150, 130, 178, 128]
def posS : List Nat := [124, 116, 138, 92, 105, 99, 155, 84, 145]
def posE : List Nat := [544, 529, 552, 501, 520, 508, 575, 493, 563]
def ksG : List Nat := [220, 209, 241, 239, 243, 137, 245, 69, 176, 232, 230, 203, 127]
def posG : List Nat := [386, 363, 166, 224, 181, 243, 302, 51, 263, 454, 422, 327, 202]
def tmS (i : Nat) : Term := .string "BlockingShop$SetupReader" (ksS.getD i 0)
def tmM (i : Nat) : Term := .string "BlockingShopModel" (ksM.getD i 0)
def tmG (i : Nat) : Term := .string "BlockingShop" (ksG.getD i 0)
set_option maxRecDepth 100000 in
theorem st_1 : ((List.range 9).all fun i => decide (flN[posS.getD i 0]? = some (Cond.exactly (tmS i) "java/lang/String")) && decide (flN[posS.getD i 0 + 1]? = some (Cond.eq (.field (tmS i) "java/lang/String" "coder" "B") (.int 0))) && decide (flN[posS.getD i 0 + 2]? = some (Cond.arrayOf (.field (tmS i) "java/lang/String" "value" "[B") .byte)) && decide (flN[posS.getD i 0 + 3]? = some (Cond.eq (.length (.field (tmS i) "java/lang/String" "value" "[B")) (.int (Int32.ofNat (lenS.getD i 0))))) && decide (flN[posE.getD i 0]? = some (Cond.eq (tmS i) (tmM i)))) = true := by decide +kernel
set_option maxRecDepth 100000 in
theorem st_2 : ((List.range 9).all fun i => (List.range (lenS.getD i 0)).all fun j => decide (flN[posS.getD i 0 + 4 + j]? = some (Cond.eq (.elem (.field (tmS i) "java/lang/String" "value" "[B") (.int (Int32.ofNat j))) (.int ((bytS.getD i []).getD j 0))))) = true := by decide +kernel
set_option maxRecDepth 100000 in
theorem st_3 : ((List.range 13).all fun i => decide (flN[posG.getD i 0]? = some (Cond.exactly (tmG i) "java/lang/String"))) = true := by decide +kernel
set_option maxRecDepth 100000 in
theorem st_4 : ncS.all (fun q => decide (Cond.not (Cond.castable q.1 q.2) ∈ flN)) = true := by decide +kernel
theorem fl_m {w : Cond} (i : Nat) (h : flN[i]? = some w) : w ∈ flN := List.mem_of_getElem? h
theorem al_d {n : Nat} {f : Nat → Bool} (h : (List.range n).all f = true) {i : Nat} (hi : i < n) : f i = true := List.all_eq_true.mp h i (List.mem_range.mpr hi)
section STA
variable {args : Array Value} {s : State} {A : Nat → Prop}
theorem st_str (hf : ∀ w ∈ flN, w.before args s = true) (hA : ∀ a : Nat, a < s.heap.size → ¬ A a) : ∃ adK adV : Nat → Nat, ∀ i : Nat, i < 9 → (tmS i).eval args s none [] s = some (.ref (adK i)) ∧ (tmM i).eval args s none [] s = some (.ref (adK i)) ∧ va_O "java/lang/String" (adK i) A s s.heap ∧ va_OF "java/lang/String" "coder" "B" (.int 0) (adK i) A s s.heap ∧ va_OF "java/lang/String" "value" "[B" (.ref (adV i)) (adK i) A s s.heap ∧ va_T .byte (adV i) (lenS.getD i 0) (fun j => .int ((bytS.getD i []).getD j 0)) A s s.heap := by
  have h0 : ∀ i : Nat, ∃ q : Nat × Nat, i < 9 → (tmS i).eval args s none [] s = some (.ref q.1) ∧ (tmM i).eval args s none [] s = some (.ref q.1) ∧ va_O "java/lang/String" q.1 A s s.heap ∧ va_OF "java/lang/String" "coder" "B" (.int 0) q.1 A s s.heap ∧ va_OF "java/lang/String" "value" "[B" (.ref q.2) q.1 A s s.heap ∧ va_T .byte q.2 (lenS.getD i 0) (fun j => .int ((bytS.getD i []).getD j 0)) A s s.heap := by
    intro i
    by_cases hi : i < 9
    · have h1 := al_d st_1 hi
      simp only [Bool.and_eq_true, decide_eq_true_eq] at h1
      obtain ⟨⟨⟨⟨e1, e2⟩, e3⟩, e4⟩, e5⟩ := h1
      obtain ⟨a, c, cA, kA, q1, q2, q3, q4, q5, q6, -⟩ := Cond.exactly_spec (args := args) (first := s) (o := none) (s := s) (idx := []) (t := tmS i) (cls := "java/lang/String") (hf _ (fl_m _ e1))
      have hlen : lenS.getD i 0 < 2 ^ 31 := by
        have hh : (List.range 9).all (fun i => decide (lenS.getD i 0 < 2 ^ 31)) = true := by decide
        exact of_decide_eq_true (al_d hh hi)
      obtain ⟨t, ht, hT⟩ := va_Tof (f := fun j => .int ((bytS.getD i []).getD j 0)) (A := A) hlen (hf _ (fl_m _ e3)) (va_eqt (hf _ (fl_m _ e4))) (fun j hj => va_eqt (hf _ (fl_m _ (of_decide_eq_true (al_d (al_d st_2 hi) hj))))) hA
      obtain ⟨y, y1, y2⟩ := Cond.eq_one (show (Cond.eq (tmS i) (tmM i)).holds args s none s [] = true from hf _ (fl_m _ e5))
      have ey : y = .ref a := Option.some.inj (y1.symm.trans q1)
      subst ey
      exact ⟨(a, t), fun _ => ⟨q1, y2, ⟨cA, q3, q5, by rw [q6]; exact q2, hA a (Array.getElem?_eq_some_iff.mp q3).1⟩, vk_OFof q1 (va_eqt (hf _ (fl_m _ e2))) hA, vk_OFof q1 ht hA, hT⟩⟩
    · exact ⟨(0, 0), fun h => absurd h hi⟩
  obtain ⟨ad, had⟩ := Classical.axiomOfChoice h0
  exact ⟨fun i => (ad i).1, fun i => (ad i).2, had⟩
theorem st_msg (hf : ∀ w ∈ flN, w.before args s = true) : ∃ adG : Nat → Nat, ∀ i : Nat, i < 13 → (tmG i).eval args s none [] s = some (.ref (adG i)) := by
  have h0 : ∀ i : Nat, ∃ q : Nat, i < 13 → (tmG i).eval args s none [] s = some (.ref q) := by
    intro i
    by_cases hi : i < 13
    · obtain ⟨a, c, cA, kA, q1, -⟩ := Cond.exactly_spec (args := args) (first := s) (o := none) (s := s) (idx := []) (t := tmG i) (cls := "java/lang/String") (hf _ (fl_m _ (of_decide_eq_true (al_d st_3 hi))))
      exact ⟨a, fun _ => q1⟩
    · exact ⟨0, fun h => absurd h hi⟩
  obtain ⟨ad, had⟩ := Classical.axiomOfChoice h0
  exact ⟨ad, had⟩
theorem tbl {w : Cond} (i : Nat) (h : tables_1[i]? = some w) : w ∈ lw_tbl := List.mem_append_right _ (List.mem_of_getElem? h)
/-- the kinds of arrays -/
theorem st_arr {ty : FieldType} (h : (Cond.arrayClass ty).before args s = true) : ∃ cA : ClassId, ArrOfT s cA ty ∧ s.vm.findClass (FieldType.array ty).toString = some cA := by
  obtain ⟨cA, kC, cc, h1, h2, h3⟩ := Cond.arrayClass_spec h
  exact ⟨cA, fun n z => ⟨(fun k h => by cases h), kC, h2, cc, h3⟩, h1⟩
/-- what the start's memory is -/
def rho0 (adK adV adG : Nat → Nat) (t7 b : Nat) : Nat → Nat := fun x => if x = 650 then b else if x = 700 then t7 else if 600 ≤ x then adV (x - 600) else if 520 ≤ x then adG (x - 520) else adK (x - 500)
set_option maxRecDepth 100000 in
theorem st_occ {adK adV adG : Nat → Nat} {t7 b : Nat} (hts : ∀ w ∈ lw_tbl, w.before args s = true) (hS : ∀ i : Nat, i < 9 → (tmS i).eval args s none [] s = some (.ref (adK i)) ∧ (tmM i).eval args s none [] s = some (.ref (adK i)) ∧ va_O "java/lang/String" (adK i) A s s.heap ∧ va_OF "java/lang/String" "coder" "B" (.int 0) (adK i) A s s.heap ∧ va_OF "java/lang/String" "value" "[B" (.ref (adV i)) (adK i) A s s.heap ∧ va_T .byte (adV i) (lenS.getD i 0) (fun j => .int ((bytS.getD i []).getD j 0)) A s s.heap) (hG : ∀ i : Nat, i < 13 → (tmG i).eval args s none [] s = some (.ref (adG i))) :
    ∀ q ∈ occS, vk_R q.1 q.2.1 q.2.2.1 (rho0 adK adV adG t7 b (500 + q.2.2.2)) s := by
  exact List.forall_mem_cons.mpr ⟨vk_R.of (hts _ (tbl 667 (by decide +kernel))) ((hS 0 (by decide)).1), List.forall_mem_cons.mpr ⟨vk_R.of (hts _ (tbl 1086 (by decide +kernel))) ((hS 0 (by decide)).2.1), List.forall_mem_cons.mpr ⟨vk_R.of (hts _ (tbl 646 (by decide +kernel))) ((hS 1 (by decide)).1), List.forall_mem_cons.mpr ⟨vk_R.of (hts _ (tbl 1069 (by decide +kernel))) ((hS 1 (by decide)).2.1), List.forall_mem_cons.mpr ⟨vk_R.of (hts _ (tbl 668 (by decide +kernel))) ((hS 2 (by decide)).1), List.forall_mem_cons.mpr ⟨vk_R.of (hts _ (tbl 1087 (by decide +kernel))) ((hS 2 (by decide)).2.1), List.forall_mem_cons.mpr ⟨vk_R.of (hts _ (tbl 884 (by decide +kernel))) (hG 0 (by decide)), List.forall_mem_cons.mpr ⟨vk_R.of (hts _ (tbl 626 (by decide +kernel))) ((hS 3 (by decide)).1), List.forall_mem_cons.mpr ⟨vk_R.of (hts _ (tbl 1045 (by decide +kernel))) ((hS 3 (by decide)).2.1), List.forall_mem_cons.mpr ⟨vk_R.of (hts _ (tbl 641 (by decide +kernel))) ((hS 4 (by decide)).1), List.forall_mem_cons.mpr ⟨vk_R.of (hts _ (tbl 1061 (by decide +kernel))) ((hS 4 (by decide)).2.1), List.forall_mem_cons.mpr ⟨vk_R.of (hts _ (tbl 873 (by decide +kernel))) (hG 1 (by decide)), List.forall_mem_cons.mpr ⟨vk_R.of (hts _ (tbl 709 (by decide +kernel))) (hG 2 (by decide)), List.forall_mem_cons.mpr ⟨vk_R.of (hts _ (tbl 744 (by decide +kernel))) (hG 3 (by decide)), List.forall_mem_cons.mpr ⟨vk_R.of (hts _ (tbl 727 (by decide +kernel))) (hG 4 (by decide)), List.forall_mem_cons.mpr ⟨vk_R.of (hts _ (tbl 752 (by decide +kernel))) (hG 5 (by decide)), List.forall_mem_cons.mpr ⟨vk_R.of (hts _ (tbl 830 (by decide +kernel))) (hG 6 (by decide)), List.forall_mem_cons.mpr ⟨vk_R.of (hts _ (tbl 635 (by decide +kernel))) ((hS 5 (by decide)).1), List.forall_mem_cons.mpr ⟨vk_R.of (hts _ (tbl 1053 (by decide +kernel))) ((hS 5 (by decide)).2.1), List.forall_mem_cons.mpr ⟨vk_R.of (hts _ (tbl 670 (by decide +kernel))) ((hS 6 (by decide)).1), List.forall_mem_cons.mpr ⟨vk_R.of (hts _ (tbl 1089 (by decide +kernel))) ((hS 6 (by decide)).2.1), List.forall_mem_cons.mpr ⟨vk_R.of (hts _ (tbl 552 (by decide +kernel))) ((hS 7 (by decide)).1), List.forall_mem_cons.mpr ⟨vk_R.of (hts _ (tbl 1003 (by decide +kernel))) ((hS 7 (by decide)).2.1), List.forall_mem_cons.mpr ⟨vk_R.of (hts _ (tbl 510 (by decide +kernel))) (hG 7 (by decide)), List.forall_mem_cons.mpr ⟨vk_R.of (hts _ (tbl 812 (by decide +kernel))) (hG 8 (by decide)), List.forall_mem_cons.mpr ⟨vk_R.of (hts _ (tbl 898 (by decide +kernel))) (hG 9 (by decide)), List.forall_mem_cons.mpr ⟨vk_R.of (hts _ (tbl 890 (by decide +kernel))) (hG 10 (by decide)), List.forall_mem_cons.mpr ⟨vk_R.of (hts _ (tbl 855 (by decide +kernel))) (hG 11 (by decide)), List.forall_mem_cons.mpr ⟨vk_R.of (hts _ (tbl 669 (by decide +kernel))) ((hS 8 (by decide)).1), List.forall_mem_cons.mpr ⟨vk_R.of (hts _ (tbl 1088 (by decide +kernel))) ((hS 8 (by decide)).2.1), List.forall_mem_cons.mpr ⟨vk_R.of (hts _ (tbl 732 (by decide +kernel))) (hG 12 (by decide)), fun _ h => (List.not_mem_nil h).elim⟩⟩⟩⟩⟩⟩⟩⟩⟩⟩⟩⟩⟩⟩⟩⟩⟩⟩⟩⟩⟩⟩⟩⟩⟩⟩⟩⟩⟩⟩⟩
set_option maxRecDepth 100000 in
theorem st_ro {b L : Nat} {xs : Nat → Int32} (hf : ∀ w ∈ flN, w.before args s = true) (hts : ∀ w ∈ lw_tbl, w.before args s = true) (hX : va_X b L xs s s.heap) (hA : ∀ a : Nat, a < s.heap.size → ¬ A a) : ∃ ρ : Nat → Nat, ρ 650 = b ∧ RO (L, fun j => (xs j).toInt) ρ A s s.heap := by
  obtain ⟨adK, adV, hS⟩ := st_str hf hA
  obtain ⟨adG, hG⟩ := st_msg hf
  have hq : va_Zq "jdk/internal/util/Preconditions" "SIOOBE_FORMATTER" "Ljava/util/function/BiFunction;" A s s.heap := va_Zqof (hts _ (tbl 586 (by decide +kernel))) (hts _ (tbl 15 (by decide +kernel))) (hf _ (fl_m 7 (by decide +kernel))) hA
  have hq2 : ∃ t7 : Nat, va_Z "jdk/internal/util/Preconditions" "SIOOBE_FORMATTER" "Ljava/util/function/BiFunction;" .null A s s.heap ∨ va_Z "jdk/internal/util/Preconditions" "SIOOBE_FORMATTER" "Ljava/util/function/BiFunction;" (.ref t7) A s s.heap := by
    rcases hq with h | ⟨t, h⟩
    · exact ⟨0, Or.inl h⟩
    · exact ⟨t, Or.inr h⟩
  obtain ⟨t7, h7⟩ := hq2
  refine ⟨rho0 adK adV adG t7 b, rfl, fun i hi => ?_, st_occ hts hS hG, va_Zof (hts _ (tbl 570 (by decide +kernel))) (hts _ (tbl 13 (by decide +kernel))) (va_eqt (hf _ (fl_m 6 (by decide +kernel)))) hA, h7,
    ⟨vx_Zqof (hts _ (tbl 495 (by decide +kernel))) (hts _ (tbl 8 (by decide +kernel))) (hf _ (fl_m 4 (by decide +kernel))) hA, vx_Zqof (hts _ (tbl 497 (by decide +kernel))) (hts _ (tbl 8 (by decide +kernel))) (hf _ (fl_m 5 (by decide +kernel))) hA⟩, ⟨va_AO.of (hts _ (tbl 73 (by decide +kernel))), ?_, ?_, ?_, ?_⟩, ?_, ?_⟩
  · have e1 : rho0 adK adV adG t7 b (500 + i) = adK i := by
      unfold rho0
      rw [if_neg (by omega), if_neg (by omega), if_neg (by omega), if_neg (by omega)]
      congr 1
      omega
    have e2 : rho0 adK adV adG t7 b (600 + i) = adV i := by
      unfold rho0
      rw [if_neg (by omega), if_neg (by omega), if_pos (by omega)]
      congr 1
      omega
    rw [e1, e2]
    exact (hS i hi).2.2
  · obtain ⟨comp, c, k, h1, -, h2, h3, h4⟩ := arrayOverA_spec (t := .int) (hts _ (tbl 906 (by decide +kernel)))
    exact ⟨comp, c, k, h1, h2, h3, h4⟩
  · obtain ⟨scr, h1, h2, h3, h4, h5⟩ := hX
    exact ⟨scr, h1, h2, h3, Nat.le_of_eq h4.symm, (by rw [h4]), (fun j hj => by rw [h5 j hj]; show _ = some (Value.int (Int32.ofInt (xs j).toInt)); rw [Int32.ofInt_toInt]), hA b (Array.getElem?_eq_some_iff.mp h1).1⟩
  · exact List.forall_mem_cons.mpr ⟨va_Nw.of rfl (hts _ (tbl 470 (by decide +kernel))), List.forall_mem_cons.mpr ⟨va_Nw.of rfl (hts _ (tbl 702 (by decide +kernel))), List.forall_mem_cons.mpr ⟨va_Nw.of rfl (hts _ (tbl 805 (by decide +kernel))), List.forall_mem_cons.mpr ⟨va_Nw.of rfl (hts _ (tbl 848 (by decide +kernel))), fun _ h => (List.not_mem_nil h).elim⟩⟩⟩⟩
  · exact List.forall_mem_cons.mpr ⟨va_Nw.of rfl (hts _ (tbl 476 (by decide +kernel))), List.forall_mem_cons.mpr ⟨va_Nw.of rfl (hts _ (tbl 474 (by decide +kernel))), List.forall_mem_cons.mpr ⟨va_Nw.of rfl (hts _ (tbl 472 (by decide +kernel))), fun _ h => (List.not_mem_nil h).elim⟩⟩⟩
  · intro q hq
    exact va_Nc.of (hf _ (of_decide_eq_true (List.all_eq_true.mp st_4 q hq)))
  · exact List.forall_mem_cons.mpr ⟨va_Nw.of rfl (hts _ (tbl 32 (by decide +kernel))), List.forall_mem_cons.mpr ⟨va_Nw.of rfl (hts _ (tbl 76 (by decide +kernel))), List.forall_mem_cons.mpr ⟨va_Nw.of rfl (hts _ (tbl 166 (by decide +kernel))), List.forall_mem_cons.mpr ⟨va_Nw.of rfl (hts _ (tbl 398 (by decide +kernel))), List.forall_mem_cons.mpr ⟨va_Nw.of rfl (hts _ (tbl 446 (by decide +kernel))), List.forall_mem_cons.mpr ⟨va_Nw.of rfl (hts _ (tbl 640 (by decide +kernel))), fun _ h => (List.not_mem_nil h).elim⟩⟩⟩⟩⟩⟩
end STA
