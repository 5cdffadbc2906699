/-! THE LAW: its thirty calls (mklaw.py) -/
abbrev mLAW : MI := (yL_law, RL, cL_law, 7, ret, room_1)
theorem y_lcmpS {tb : HTB} {Γ0 Γ : GG} {μ : MI} {cells slots pc : Nat} {al : List (Nat × AV)} {st : List AV} {P : MP} {I : MM} {Q : ET} {a : Int} (hd : decode μ.2.2.1 pc = .ok (.lcmp, 1)) (k : XE tb Γ0 Γ μ cells slots (pc + 1) al (vI 0 :: st) P I Q) : XE tb Γ0 Γ μ cells slots pc al (vL a :: vL a :: st) P I Q := by
  intro p e s m args below meth c B H locs ls hl hK hP hD hS hX
  have h := k p e s m args below meth c B H locs ls hl hK hP hD hS hX
  refine W.lcmp B.1.1 B.1.2.1 hd ?_
  have e1 : lg_cmp (Int64.ofInt a) (Int64.ofInt a) = Int32.ofInt 0 := by
    unfold lg_cmp
    rw [if_neg (fun q => by have q2 : Int64.ofInt a < Int64.ofInt a := q; rw [Int64.lt_iff_toInt_lt] at q2; omega), if_pos rfl]
    rfl
  rw [e1]
  exact h
theorem rfs_650 {Γ : GG} {n : Nat} {al : List (Nat × AV)} {st : List AV} (k : Rfs Γ al st) : Rfs Γ ((n, vR 650) :: al) st := ⟨fun q hq => (List.mem_cons.mp hq).elim (fun e => by rw [e]; exact Or.inr ⟨by decide, by decide⟩) (k.1 q), k.2⟩
abbrev al0 (i : Int) : List (Nat × AV) := [(0, vR 650), (1, vR 30), (2, vR 1), (3, vR 21), (4, vI i)]
def NX (Γ0 : GG) (c s : Nat) (i : Int) (Z : ET) : Prop := ∀ (ρ : Nat → Nat) (ids : List Nat) (ty : Nat → CT) (P : MP) (I : MM), INV (gX Γ0 ρ ids ty) P I → XE none Γ0 (gX Γ0 ρ ids ty) mLAW (c + 20) (s + 1200) 1509 (al0 i) [] P I Z
theorem t_thr {Γ : GG} {P : MP} {I : MM} {z : Int} (hM : LM Γ P) (h : I 1 0 = z) : Cl Γ m_X6_thrown [vR 1] P I (ri P (fun x J => x = z ∧ J = I)) := q_thrown hM ⟨h, rfl⟩
theorem cb_ob {Γ : GG} {P : MP} {I : MM} {D : Nat → Int} {cs : List Int} {n : Nat} {H : Nat → (Nat → Int) × List Int} (h : CB Γ P I D cs n H) : Ob Γ 30 (.inl 5) := by
  obtain ⟨σ, κ, N, σ2, κ2, N2, oc, h⟩ := h
  exact LBS_ob h.b
section LW
variable {Γ0 : GG} {ρ : Nat → Nat} {ids : List Nat} {ty : Nat → CT} {P : MP} {I : MM} {Z : ET} {c s : Nat} {i : Int}
theorem lw_append (h9 : (gl Γ0).stackTraces = false) (hL : (gs Γ0).1 ≤ 3072) (rng : ∀ j, inR ((gs Γ0).2 j)) (i0 : 0 ≤ i) (i1 : i + 6 ≤ ((gs Γ0).1 : Int)) (hcc : c + 20 ≤ 601024) (hss : s + 1200 ≤ 7293034) (hv : INV (gX Γ0 ρ ids ty) P I) (K : NX Γ0 c s i Z) : XE none Γ0 (gX Γ0 ρ ids ty) mLAW c s 176 (al0 i) [] P I Z := by
  obtain ⟨S, hi, hc⟩ := hv
  have o1 := LM_ob hi.1
  have o21 := hc.2.2.2.2.1
  have o30 : Ob (gX Γ0 ρ ids ty) 30 (.inl 5) := cb_ob hc.1
  have rC : c ≤ mLAW.2.2.2.2.2.cells ∧ s ≤ mLAW.2.2.2.2.2.slots := ⟨by show c ≤ 601024; omega, by show s ≤ 7293034; omega⟩
  have rC2 : c + 14 ≤ mLAW.2.2.2.2.2.cells ∧ s + 1100 ≤ mLAW.2.2.2.2.2.slots := ⟨by show c + 14 ≤ 601024; omega, by show s + 1100 ≤ 7293034; omega⟩
  have k1 : 0 ≤ i + 1 ∧ i + 1 < ((gs Γ0).1 : Int) := ⟨by omega, by omega⟩
  have k2 : 0 ≤ i + 2 ∧ i + 2 < ((gs Γ0).1 : Int) := ⟨by omega, by omega⟩
  have k3 : 0 ≤ i + 3 ∧ i + 3 < ((gs Γ0).1 : Int) := ⟨by omega, by omega⟩
  have k4 : 0 ≤ i + 4 ∧ i + 4 < ((gs Γ0).1 : Int) := ⟨by omega, by omega⟩
  have k5 : 0 ≤ i + 5 ∧ i + 5 < ((gs Γ0).1 : Int) := ⟨by omega, by omega⟩
  have hL2 : (gs Γ0).1 < 2147483648 := by omega
  obtain ⟨val, S2, hcw, hrr⟩ := s_append hi hc (rng (i + 1).toNat) (rng (i + 2).toNat) (rng (i + 3).toNat) (rng (i + 4).toNat) (rng (i + 5).toNat)
  refine y_aload_n 1 dL_law_176 rfl ?_
  refine y_aload_n 0 dL_law_177 rfl ?_
  refine y_iload 4 dL_law_178 rfl ?_
  refine y_iconst dL_law_180 ?_
  refine y_iadd dL_law_181 ?_
  refine y_sld dL_law_182 k1.1 k1.2 hL2 ?_
  refine y_aload_n 0 dL_law_183 rfl ?_
  refine y_iload 4 dL_law_184 rfl ?_
  refine y_iconst dL_law_186 ?_
  refine y_iadd dL_law_187 ?_
  refine y_sld dL_law_188 k2.1 k2.2 hL2 ?_
  refine y_aload_n 0 dL_law_189 rfl ?_
  refine y_iload 4 dL_law_190 rfl ?_
  refine y_iconst dL_law_192 ?_
  refine y_iadd dL_law_193 ?_
  refine y_sld dL_law_194 k3.1 k3.2 hL2 ?_
  refine y_aload_n 0 dL_law_195 rfl ?_
  refine y_iload 4 dL_law_196 rfl ?_
  refine y_iconst dL_law_198 ?_
  refine y_iadd dL_law_199 ?_
  refine y_sld dL_law_200 k4.1 k4.2 hL2 ?_
  refine y_aload_n 0 dL_law_201 rfl ?_
  refine y_iload 4 dL_law_202 rfl ?_
  refine y_iconst dL_law_204 ?_
  refine y_iadd dL_law_205 ?_
  refine y_sld dL_law_206 k5.1 k5.2 hL2 ?_
  refine y_Vpi (μ := mLAW) dL_law_207 hcw k_X5_append mlL_76 ⟨Nat.le_of_ble_eq_true rfl, Nat.le_of_ble_eq_true rfl⟩ ⟨rfl, rfl⟩ rC rfl o30 rfl (Nat.le_of_ble_eq_true rfl) _ rfl (fun z1 P1 J hq => ?_)
  obtain ⟨ez, fP, fJ, hic⟩ := hq
  subst ez
  have hj := hi.kp Kp.rf fP fJ
  refine y_aload_n 2 dL_law_210 rfl ?_
  refine y_aload_n 0 dL_law_211 rfl ?_
  refine y_iload 4 dL_law_212 rfl ?_
  refine y_iconst dL_law_214 ?_
  refine y_iadd dL_law_215 ?_
  refine y_sld dL_law_216 k1.1 k1.2 hL2 ?_
  refine y_aload_n 0 dL_law_217 rfl ?_
  refine y_iload 4 dL_law_218 rfl ?_
  refine y_iconst dL_law_220 ?_
  refine y_iadd dL_law_221 ?_
  refine y_sld dL_law_222 k2.1 k2.2 hL2 ?_
  refine y_aload_n 0 dL_law_223 rfl ?_
  refine y_iload 4 dL_law_224 rfl ?_
  refine y_iconst dL_law_226 ?_
  refine y_iadd dL_law_227 ?_
  refine y_sld dL_law_228 k3.1 k3.2 hL2 ?_
  refine y_aload_n 0 dL_law_229 rfl ?_
  refine y_iload 4 dL_law_230 rfl ?_
  refine y_iconst dL_law_232 ?_
  refine y_iadd dL_law_233 ?_
  refine y_sld dL_law_234 k4.1 k4.2 hL2 ?_
  refine y_aload_n 0 dL_law_235 rfl ?_
  refine y_iload 4 dL_law_236 rfl ?_
  refine y_iconst dL_law_238 ?_
  refine y_iadd dL_law_239 ?_
  refine y_sld dL_law_240 k5.1 k5.2 hL2 ?_
  refine y_Vi (μ := mLAW) dL_law_241 (hrr _ P1 J hj) k_X6_append mlL_80 ⟨Nat.le_of_ble_eq_true rfl, Nat.le_of_ble_eq_true rfl⟩ ⟨rfl, rfl⟩ rC rfl (LM_ob hj.1) rfl (Nat.le_of_ble_eq_true rfl) _ rfl (fun z J2 hq => ?_)
  obtain ⟨g1, g2, g3, hj2⟩ := hq
  have hv2 : INV (gX Γ0 ρ ids ty) P1 J2 := ⟨S2, hj2, hic.kp g1⟩
  have ez := g3 rfl
  subst ez
  refine y_icmpS 1509 dL_law_244 (by decide) ?_
  refine y_wid (c2 := c + 20) (s2 := s + 1200) (by omega) (by omega) ?_
  exact K ρ ids ty P1 _ hv2
theorem lw_load (h9 : (gl Γ0).stackTraces = false) (hL : (gs Γ0).1 ≤ 3072) (rng : ∀ j, inR ((gs Γ0).2 j)) (i0 : 0 ≤ i) (i1 : i + 6 ≤ ((gs Γ0).1 : Int)) (hcc : c + 20 ≤ 601024) (hss : s + 1200 ≤ 7293034) (hv : INV (gX Γ0 ρ ids ty) P I) (K : NX Γ0 c s i Z) : XE none Γ0 (gX Γ0 ρ ids ty) mLAW c s 249 (al0 i) [] P I Z := by
  obtain ⟨S, hi, hc⟩ := hv
  have o1 := LM_ob hi.1
  have o21 := hc.2.2.2.2.1
  have o30 : Ob (gX Γ0 ρ ids ty) 30 (.inl 5) := cb_ob hc.1
  have rC : c ≤ mLAW.2.2.2.2.2.cells ∧ s ≤ mLAW.2.2.2.2.2.slots := ⟨by show c ≤ 601024; omega, by show s ≤ 7293034; omega⟩
  have rC2 : c + 14 ≤ mLAW.2.2.2.2.2.cells ∧ s + 1100 ≤ mLAW.2.2.2.2.2.slots := ⟨by show c + 14 ≤ 601024; omega, by show s + 1100 ≤ 7293034; omega⟩
  have k1 : 0 ≤ i + 1 ∧ i + 1 < ((gs Γ0).1 : Int) := ⟨by omega, by omega⟩
  have hL2 : (gs Γ0).1 < 2147483648 := by omega
  obtain ⟨kk, val, S2, hkk, hcw, hrr⟩ := s_load (Γ := gX Γ0 ρ ids ty) h9 hi hc (rng (i + 1).toNat)
  refine y_aload_n 1 dL_law_249 rfl ?_
  refine y_aload_n 0 dL_law_250 rfl ?_
  refine y_iload 4 dL_law_251 rfl ?_
  refine y_iconst dL_law_253 ?_
  refine y_iadd dL_law_254 ?_
  refine y_sld dL_law_255 k1.1 k1.2 hL2 ?_
  refine y_aload_n 3 dL_law_256 rfl ?_
  refine y_callW (μ := mLAW) dL_law_257 hcw kW_load mlL_81 ⟨Nat.le_of_ble_eq_true rfl, Nat.le_of_ble_eq_true rfl⟩ rfl (rfs_650 (rfs_l o30 (rfs_l o1 (rfs_l o21 (rfs_li rfs_nil))))) (Nat.le_of_ble_eq_true rfl) rC2 _ rfl (fun ρ1 id1 ty1 v P1 J kp hq => ?_)
  obtain ⟨rfl, kp1, fP, fJ, ho, hic⟩ := hq
  have hj := hi.kp kp1 fP fJ
  have o21b := hic.2.2.2.2.1
  refine y_istore dL_law_260 rfl rfl (by decide) ?_
  refine y_aload_n 2 dL_law_262 rfl ?_
  refine y_aload_n 0 dL_law_263 rfl ?_
  refine y_iload 4 dL_law_264 rfl ?_
  refine y_iconst dL_law_266 ?_
  refine y_iadd dL_law_267 ?_
  refine y_sld dL_law_268 k1.1 k1.2 hL2 ?_
  refine y_Vi (μ := mLAW) dL_law_269 (hrr _ P1 J hj) k_X6_load mlL_86 ⟨Nat.le_of_ble_eq_true rfl, Nat.le_of_ble_eq_true rfl⟩ ⟨rfl, rfl⟩ rC2 rfl (LM_ob hj.1) rfl (Nat.le_of_ble_eq_true rfl) _ rfl (fun z J2 hq => ?_)
  obtain ⟨g1, g2, g3, hj2⟩ := hq
  have hv2 : INV (gX (gX Γ0 ρ ids ty) ρ1 id1 ty1) P1 J2 := ⟨S2, hj2, hic.kp g1⟩
  have e21 : J2 21 0 = J 21 0 := by rw [g1 21 (Nat.le_refl _)]
  refine y_istore dL_law_272 rfl rfl (by decide) ?_
  refine y_aload_n 2 dL_law_274 rfl ?_
  refine y_Vi (μ := mLAW) dL_law_275 (t_thr hj2.1 g2) k_X6_thrown mlL_87 ⟨Nat.le_of_ble_eq_true rfl, Nat.le_of_ble_eq_true rfl⟩ ⟨rfl, rfl⟩ rC2 rfl (LM_ob hj2.1) rfl (Nat.le_of_ble_eq_true rfl) _ rfl (fun z2 J3 hq => ?_)
  obtain ⟨hz2, hJ3⟩ := hq
  have hz2 := hz2.symm
  subst hz2
  subst hJ3
  refine y_iload 5 dL_law_278 rfl ?_
  refine y_icmpS 285 dL_law_280 (by decide) ?_
  refine y_iload 5 dL_law_285 rfl ?_
  have hk3 : kk = 0 ∨ kk ≠ 0 := by omega
  have hkr : inR kk := ⟨by omega, by omega⟩
  refine y_if_ne 302 dL_law_287 (by decide) hkr (fun hne => ?_) (fun heq => ?_)
  · skip
    refine y_goto 1509 dL_law_302 (by decide) ?_
    refine y_sub [0, 1, 2, 3, 4] rfl ?_
    refine y_wid (c2 := c + 20) (s2 := s + 1200) (by show c + 14 ≤ c + 20; omega) (by show s + 1100 ≤ s + 1200; omega) ?_
    exact K ρ1 id1 ty1 P1 _ hv2
  · have ez := g3 heq
    subst ez
    have eo := ho heq
    refine y_aload_n 3 dL_law_290 rfl ?_
    refine y_iconst dL_law_291 ?_
    refine y_lald dL_law_292 o21b (by decide) (by decide) (by decide) ?_
    rw [show J3 21 (0 : Int).toNat = w32 z from e21.trans eo]
    refine y_iload 6 dL_law_293 rfl ?_
    refine y_i2lW dL_law_295 ?_
    refine y_lcmpS dL_law_296 ?_
    refine y_if_eq 302 dL_law_297 (by decide) ⟨by decide, by decide⟩ (fun _ => ?_) (fun z9 => absurd rfl z9)
    refine y_goto 1509 dL_law_302 (by decide) ?_
    refine y_sub [0, 1, 2, 3, 4] rfl ?_
    refine y_wid (c2 := c + 20) (s2 := s + 1200) (by show c + 14 ≤ c + 20; omega) (by show s + 1100 ≤ s + 1200; omega) ?_
    exact K ρ1 id1 ty1 P1 _ hv2
theorem lw_errorOffset (h9 : (gl Γ0).stackTraces = false) (hL : (gs Γ0).1 ≤ 3072) (rng : ∀ j, inR ((gs Γ0).2 j)) (i0 : 0 ≤ i) (i1 : i + 6 ≤ ((gs Γ0).1 : Int)) (hcc : c + 20 ≤ 601024) (hss : s + 1200 ≤ 7293034) (hv : INV (gX Γ0 ρ ids ty) P I) (K : NX Γ0 c s i Z) : XE none Γ0 (gX Γ0 ρ ids ty) mLAW c s 305 (al0 i) [] P I Z := by
  obtain ⟨S, hi, hc⟩ := hv
  have o1 := LM_ob hi.1
  have o21 := hc.2.2.2.2.1
  have o30 : Ob (gX Γ0 ρ ids ty) 30 (.inl 5) := cb_ob hc.1
  have rC : c ≤ mLAW.2.2.2.2.2.cells ∧ s ≤ mLAW.2.2.2.2.2.slots := ⟨by show c ≤ 601024; omega, by show s ≤ 7293034; omega⟩
  have rC2 : c + 14 ≤ mLAW.2.2.2.2.2.cells ∧ s + 1100 ≤ mLAW.2.2.2.2.2.slots := ⟨by show c + 14 ≤ 601024; omega, by show s + 1100 ≤ 7293034; omega⟩
  have hL2 : (gs Γ0).1 < 2147483648 := by omega
  obtain ⟨val, S2, hcw, hrr⟩ := s_errorOffset hi hc 
  refine y_aload_n 1 dL_law_305 rfl ?_
  refine y_Vpi (μ := mLAW) dL_law_306 hcw k_X5_errorOffset mlL_91 ⟨Nat.le_of_ble_eq_true rfl, Nat.le_of_ble_eq_true rfl⟩ ⟨rfl, rfl⟩ rC rfl o30 rfl (Nat.le_of_ble_eq_true rfl) _ rfl (fun z1 P1 J hq => ?_)
  obtain ⟨ez, fP, fJ, hic⟩ := hq
  subst ez
  have hj := hi.kp Kp.rf fP fJ
  refine y_aload_n 2 dL_law_309 rfl ?_
  refine y_Vi (μ := mLAW) dL_law_310 (hrr _ P1 J hj) k_X6_errorOffset mlL_94 ⟨Nat.le_of_ble_eq_true rfl, Nat.le_of_ble_eq_true rfl⟩ ⟨rfl, rfl⟩ rC rfl (LM_ob hj.1) rfl (Nat.le_of_ble_eq_true rfl) _ rfl (fun z J2 hq => ?_)
  obtain ⟨g1, g2, g3, hj2⟩ := hq
  have hv2 : INV (gX Γ0 ρ ids ty) P1 J2 := ⟨S2, hj2, hic.kp g1⟩
  have ez := g3 rfl
  subst ez
  refine y_icmpS 1509 dL_law_313 (by decide) ?_
  refine y_wid (c2 := c + 20) (s2 := s + 1200) (by omega) (by omega) ?_
  exact K ρ ids ty P1 _ hv2
theorem lw_machineCount (h9 : (gl Γ0).stackTraces = false) (hL : (gs Γ0).1 ≤ 3072) (rng : ∀ j, inR ((gs Γ0).2 j)) (i0 : 0 ≤ i) (i1 : i + 6 ≤ ((gs Γ0).1 : Int)) (hcc : c + 20 ≤ 601024) (hss : s + 1200 ≤ 7293034) (hv : INV (gX Γ0 ρ ids ty) P I) (K : NX Γ0 c s i Z) : XE none Γ0 (gX Γ0 ρ ids ty) mLAW c s 318 (al0 i) [] P I Z := by
  obtain ⟨S, hi, hc⟩ := hv
  have o1 := LM_ob hi.1
  have o21 := hc.2.2.2.2.1
  have o30 : Ob (gX Γ0 ρ ids ty) 30 (.inl 5) := cb_ob hc.1
  have rC : c ≤ mLAW.2.2.2.2.2.cells ∧ s ≤ mLAW.2.2.2.2.2.slots := ⟨by show c ≤ 601024; omega, by show s ≤ 7293034; omega⟩
  have rC2 : c + 14 ≤ mLAW.2.2.2.2.2.cells ∧ s + 1100 ≤ mLAW.2.2.2.2.2.slots := ⟨by show c + 14 ≤ 601024; omega, by show s + 1100 ≤ 7293034; omega⟩
  have hL2 : (gs Γ0).1 < 2147483648 := by omega
  obtain ⟨val, S2, hcw, hrr⟩ := s_machineCount hi hc 
  refine y_aload_n 1 dL_law_318 rfl ?_
  refine y_Vpi (μ := mLAW) dL_law_319 hcw k_X5_machineCount mlL_95 ⟨Nat.le_of_ble_eq_true rfl, Nat.le_of_ble_eq_true rfl⟩ ⟨rfl, rfl⟩ rC rfl o30 rfl (Nat.le_of_ble_eq_true rfl) _ rfl (fun z1 P1 J hq => ?_)
  obtain ⟨ez, fP, fJ, hic⟩ := hq
  subst ez
  have hj := hi.kp Kp.rf fP fJ
  refine y_aload_n 2 dL_law_322 rfl ?_
  refine y_Vi (μ := mLAW) dL_law_323 (hrr _ P1 J hj) k_X6_machineCount mlL_98 ⟨Nat.le_of_ble_eq_true rfl, Nat.le_of_ble_eq_true rfl⟩ ⟨rfl, rfl⟩ rC rfl (LM_ob hj.1) rfl (Nat.le_of_ble_eq_true rfl) _ rfl (fun z J2 hq => ?_)
  obtain ⟨g1, g2, g3, hj2⟩ := hq
  have hv2 : INV (gX Γ0 ρ ids ty) P1 J2 := ⟨S2, hj2, hic.kp g1⟩
  have ez := g3 rfl
  subst ez
  refine y_icmpS 1509 dL_law_326 (by decide) ?_
  refine y_wid (c2 := c + 20) (s2 := s + 1200) (by omega) (by omega) ?_
  exact K ρ ids ty P1 _ hv2
theorem lw_jobCount (h9 : (gl Γ0).stackTraces = false) (hL : (gs Γ0).1 ≤ 3072) (rng : ∀ j, inR ((gs Γ0).2 j)) (i0 : 0 ≤ i) (i1 : i + 6 ≤ ((gs Γ0).1 : Int)) (hcc : c + 20 ≤ 601024) (hss : s + 1200 ≤ 7293034) (hv : INV (gX Γ0 ρ ids ty) P I) (K : NX Γ0 c s i Z) : XE none Γ0 (gX Γ0 ρ ids ty) mLAW c s 331 (al0 i) [] P I Z := by
  obtain ⟨S, hi, hc⟩ := hv
  have o1 := LM_ob hi.1
  have o21 := hc.2.2.2.2.1
  have o30 : Ob (gX Γ0 ρ ids ty) 30 (.inl 5) := cb_ob hc.1
  have rC : c ≤ mLAW.2.2.2.2.2.cells ∧ s ≤ mLAW.2.2.2.2.2.slots := ⟨by show c ≤ 601024; omega, by show s ≤ 7293034; omega⟩
  have rC2 : c + 14 ≤ mLAW.2.2.2.2.2.cells ∧ s + 1100 ≤ mLAW.2.2.2.2.2.slots := ⟨by show c + 14 ≤ 601024; omega, by show s + 1100 ≤ 7293034; omega⟩
  have hL2 : (gs Γ0).1 < 2147483648 := by omega
  obtain ⟨val, S2, hcw, hrr⟩ := s_jobCount hi hc 
  refine y_aload_n 1 dL_law_331 rfl ?_
  refine y_Vpi (μ := mLAW) dL_law_332 hcw k_X5_jobCount mlL_99 ⟨Nat.le_of_ble_eq_true rfl, Nat.le_of_ble_eq_true rfl⟩ ⟨rfl, rfl⟩ rC rfl o30 rfl (Nat.le_of_ble_eq_true rfl) _ rfl (fun z1 P1 J hq => ?_)
  obtain ⟨ez, fP, fJ, hic⟩ := hq
  subst ez
  have hj := hi.kp Kp.rf fP fJ
  refine y_aload_n 2 dL_law_335 rfl ?_
  refine y_Vi (μ := mLAW) dL_law_336 (hrr _ P1 J hj) k_X6_jobCount mlL_102 ⟨Nat.le_of_ble_eq_true rfl, Nat.le_of_ble_eq_true rfl⟩ ⟨rfl, rfl⟩ rC rfl (LM_ob hj.1) rfl (Nat.le_of_ble_eq_true rfl) _ rfl (fun z J2 hq => ?_)
  obtain ⟨g1, g2, g3, hj2⟩ := hq
  have hv2 : INV (gX Γ0 ρ ids ty) P1 J2 := ⟨S2, hj2, hic.kp g1⟩
  have ez := g3 rfl
  subst ez
  refine y_icmpS 1509 dL_law_339 (by decide) ?_
  refine y_wid (c2 := c + 20) (s2 := s + 1200) (by omega) (by omega) ?_
  exact K ρ ids ty P1 _ hv2
theorem lw_operationCount (h9 : (gl Γ0).stackTraces = false) (hL : (gs Γ0).1 ≤ 3072) (rng : ∀ j, inR ((gs Γ0).2 j)) (i0 : 0 ≤ i) (i1 : i + 6 ≤ ((gs Γ0).1 : Int)) (hcc : c + 20 ≤ 601024) (hss : s + 1200 ≤ 7293034) (hv : INV (gX Γ0 ρ ids ty) P I) (K : NX Γ0 c s i Z) : XE none Γ0 (gX Γ0 ρ ids ty) mLAW c s 344 (al0 i) [] P I Z := by
  obtain ⟨S, hi, hc⟩ := hv
  have o1 := LM_ob hi.1
  have o21 := hc.2.2.2.2.1
  have o30 : Ob (gX Γ0 ρ ids ty) 30 (.inl 5) := cb_ob hc.1
  have rC : c ≤ mLAW.2.2.2.2.2.cells ∧ s ≤ mLAW.2.2.2.2.2.slots := ⟨by show c ≤ 601024; omega, by show s ≤ 7293034; omega⟩
  have rC2 : c + 14 ≤ mLAW.2.2.2.2.2.cells ∧ s + 1100 ≤ mLAW.2.2.2.2.2.slots := ⟨by show c + 14 ≤ 601024; omega, by show s + 1100 ≤ 7293034; omega⟩
  have k1 : 0 ≤ i + 1 ∧ i + 1 < ((gs Γ0).1 : Int) := ⟨by omega, by omega⟩
  have hL2 : (gs Γ0).1 < 2147483648 := by omega
  obtain ⟨kk, val, S2, hkk, hcw, hrr⟩ := s_operationCount (Γ := gX Γ0 ρ ids ty) h9 hi hc (rng (i + 1).toNat)
  refine y_aload_n 1 dL_law_344 rfl ?_
  refine y_aload_n 0 dL_law_345 rfl ?_
  refine y_iload 4 dL_law_346 rfl ?_
  refine y_iconst dL_law_348 ?_
  refine y_iadd dL_law_349 ?_
  refine y_sld dL_law_350 k1.1 k1.2 hL2 ?_
  refine y_aload_n 3 dL_law_351 rfl ?_
  refine y_callW (μ := mLAW) dL_law_352 hcw kW_operationCount mlL_103 ⟨Nat.le_of_ble_eq_true rfl, Nat.le_of_ble_eq_true rfl⟩ rfl (rfs_650 (rfs_l o30 (rfs_l o1 (rfs_l o21 (rfs_li rfs_nil))))) (Nat.le_of_ble_eq_true rfl) rC2 _ rfl (fun ρ1 id1 ty1 v P1 J kp hq => ?_)
  obtain ⟨rfl, kp1, fP, fJ, ho, hic⟩ := hq
  have hj := hi.kp kp1 fP fJ
  have o21b := hic.2.2.2.2.1
  refine y_istore dL_law_355 rfl rfl (by decide) ?_
  refine y_aload_n 2 dL_law_357 rfl ?_
  refine y_aload_n 0 dL_law_358 rfl ?_
  refine y_iload 4 dL_law_359 rfl ?_
  refine y_iconst dL_law_361 ?_
  refine y_iadd dL_law_362 ?_
  refine y_sld dL_law_363 k1.1 k1.2 hL2 ?_
  refine y_Vi (μ := mLAW) dL_law_364 (hrr _ P1 J hj) k_X6_operationCount mlL_105 ⟨Nat.le_of_ble_eq_true rfl, Nat.le_of_ble_eq_true rfl⟩ ⟨rfl, rfl⟩ rC2 rfl (LM_ob hj.1) rfl (Nat.le_of_ble_eq_true rfl) _ rfl (fun z J2 hq => ?_)
  obtain ⟨g1, g2, g3, hj2⟩ := hq
  have hv2 : INV (gX (gX Γ0 ρ ids ty) ρ1 id1 ty1) P1 J2 := ⟨S2, hj2, hic.kp g1⟩
  have e21 : J2 21 0 = J 21 0 := by rw [g1 21 (Nat.le_refl _)]
  refine y_istore dL_law_367 rfl rfl (by decide) ?_
  refine y_aload_n 2 dL_law_369 rfl ?_
  refine y_Vi (μ := mLAW) dL_law_370 (t_thr hj2.1 g2) k_X6_thrown mlL_87 ⟨Nat.le_of_ble_eq_true rfl, Nat.le_of_ble_eq_true rfl⟩ ⟨rfl, rfl⟩ rC2 rfl (LM_ob hj2.1) rfl (Nat.le_of_ble_eq_true rfl) _ rfl (fun z2 J3 hq => ?_)
  obtain ⟨hz2, hJ3⟩ := hq
  have hz2 := hz2.symm
  subst hz2
  subst hJ3
  refine y_iload 5 dL_law_373 rfl ?_
  refine y_icmpS 380 dL_law_375 (by decide) ?_
  refine y_iload 5 dL_law_380 rfl ?_
  have hk3 : kk = 0 ∨ kk ≠ 0 := by omega
  have hkr : inR kk := ⟨by omega, by omega⟩
  refine y_if_ne 397 dL_law_382 (by decide) hkr (fun hne => ?_) (fun heq => ?_)
  · skip
    refine y_goto 1509 dL_law_397 (by decide) ?_
    refine y_sub [0, 1, 2, 3, 4] rfl ?_
    refine y_wid (c2 := c + 20) (s2 := s + 1200) (by show c + 14 ≤ c + 20; omega) (by show s + 1100 ≤ s + 1200; omega) ?_
    exact K ρ1 id1 ty1 P1 _ hv2
  · have ez := g3 heq
    subst ez
    have eo := ho heq
    refine y_aload_n 3 dL_law_385 rfl ?_
    refine y_iconst dL_law_386 ?_
    refine y_lald dL_law_387 o21b (by decide) (by decide) (by decide) ?_
    rw [show J3 21 (0 : Int).toNat = w32 z from e21.trans eo]
    refine y_iload 6 dL_law_388 rfl ?_
    refine y_i2lW dL_law_390 ?_
    refine y_lcmpS dL_law_391 ?_
    refine y_if_eq 397 dL_law_392 (by decide) ⟨by decide, by decide⟩ (fun _ => ?_) (fun z9 => absurd rfl z9)
    refine y_goto 1509 dL_law_397 (by decide) ?_
    refine y_sub [0, 1, 2, 3, 4] rfl ?_
    refine y_wid (c2 := c + 20) (s2 := s + 1200) (by show c + 14 ≤ c + 20; omega) (by show s + 1100 ≤ s + 1200; omega) ?_
    exact K ρ1 id1 ty1 P1 _ hv2
theorem lw_operation (h9 : (gl Γ0).stackTraces = false) (hL : (gs Γ0).1 ≤ 3072) (rng : ∀ j, inR ((gs Γ0).2 j)) (i0 : 0 ≤ i) (i1 : i + 6 ≤ ((gs Γ0).1 : Int)) (hcc : c + 20 ≤ 601024) (hss : s + 1200 ≤ 7293034) (hv : INV (gX Γ0 ρ ids ty) P I) (K : NX Γ0 c s i Z) : XE none Γ0 (gX Γ0 ρ ids ty) mLAW c s 400 (al0 i) [] P I Z := by
  obtain ⟨S, hi, hc⟩ := hv
  have o1 := LM_ob hi.1
  have o21 := hc.2.2.2.2.1
  have o30 : Ob (gX Γ0 ρ ids ty) 30 (.inl 5) := cb_ob hc.1
  have rC : c ≤ mLAW.2.2.2.2.2.cells ∧ s ≤ mLAW.2.2.2.2.2.slots := ⟨by show c ≤ 601024; omega, by show s ≤ 7293034; omega⟩
  have rC2 : c + 14 ≤ mLAW.2.2.2.2.2.cells ∧ s + 1100 ≤ mLAW.2.2.2.2.2.slots := ⟨by show c + 14 ≤ 601024; omega, by show s + 1100 ≤ 7293034; omega⟩
  have k1 : 0 ≤ i + 1 ∧ i + 1 < ((gs Γ0).1 : Int) := ⟨by omega, by omega⟩
  have k2 : 0 ≤ i + 2 ∧ i + 2 < ((gs Γ0).1 : Int) := ⟨by omega, by omega⟩
  have k3 : 0 ≤ i + 3 ∧ i + 3 < ((gs Γ0).1 : Int) := ⟨by omega, by omega⟩
  have hL2 : (gs Γ0).1 < 2147483648 := by omega
  obtain ⟨kk, val, S2, hkk, hcw, hrr⟩ := s_operation (Γ := gX Γ0 ρ ids ty) h9 hi hc (rng (i + 1).toNat) (rng (i + 2).toNat) (rng (i + 3).toNat)
  refine y_aload_n 1 dL_law_400 rfl ?_
  refine y_aload_n 0 dL_law_401 rfl ?_
  refine y_iload 4 dL_law_402 rfl ?_
  refine y_iconst dL_law_404 ?_
  refine y_iadd dL_law_405 ?_
  refine y_sld dL_law_406 k1.1 k1.2 hL2 ?_
  refine y_aload_n 0 dL_law_407 rfl ?_
  refine y_iload 4 dL_law_408 rfl ?_
  refine y_iconst dL_law_410 ?_
  refine y_iadd dL_law_411 ?_
  refine y_sld dL_law_412 k2.1 k2.2 hL2 ?_
  refine y_aload_n 0 dL_law_413 rfl ?_
  refine y_iload 4 dL_law_414 rfl ?_
  refine y_iconst dL_law_416 ?_
  refine y_iadd dL_law_417 ?_
  refine y_sld dL_law_418 k3.1 k3.2 hL2 ?_
  refine y_aload_n 3 dL_law_419 rfl ?_
  refine y_callW (μ := mLAW) dL_law_420 hcw kW_operation mlL_106 ⟨Nat.le_of_ble_eq_true rfl, Nat.le_of_ble_eq_true rfl⟩ rfl (rfs_650 (rfs_l o30 (rfs_l o1 (rfs_l o21 (rfs_li rfs_nil))))) (Nat.le_of_ble_eq_true rfl) rC2 _ rfl (fun ρ1 id1 ty1 v P1 J kp hq => ?_)
  obtain ⟨rfl, kp1, fP, fJ, ho, hic⟩ := hq
  have hj := hi.kp kp1 fP fJ
  have o21b := hic.2.2.2.2.1
  refine y_istore dL_law_423 rfl rfl (by decide) ?_
  refine y_aload_n 2 dL_law_425 rfl ?_
  refine y_aload_n 0 dL_law_426 rfl ?_
  refine y_iload 4 dL_law_427 rfl ?_
  refine y_iconst dL_law_429 ?_
  refine y_iadd dL_law_430 ?_
  refine y_sld dL_law_431 k1.1 k1.2 hL2 ?_
  refine y_aload_n 0 dL_law_432 rfl ?_
  refine y_iload 4 dL_law_433 rfl ?_
  refine y_iconst dL_law_435 ?_
  refine y_iadd dL_law_436 ?_
  refine y_sld dL_law_437 k2.1 k2.2 hL2 ?_
  refine y_aload_n 0 dL_law_438 rfl ?_
  refine y_iload 4 dL_law_439 rfl ?_
  refine y_iconst dL_law_441 ?_
  refine y_iadd dL_law_442 ?_
  refine y_sld dL_law_443 k3.1 k3.2 hL2 ?_
  refine y_Vi (μ := mLAW) dL_law_444 (hrr _ P1 J hj) k_X6_operation mlL_109 ⟨Nat.le_of_ble_eq_true rfl, Nat.le_of_ble_eq_true rfl⟩ ⟨rfl, rfl⟩ rC2 rfl (LM_ob hj.1) rfl (Nat.le_of_ble_eq_true rfl) _ rfl (fun z J2 hq => ?_)
  obtain ⟨g1, g2, g3, hj2⟩ := hq
  have hv2 : INV (gX (gX Γ0 ρ ids ty) ρ1 id1 ty1) P1 J2 := ⟨S2, hj2, hic.kp g1⟩
  have e21 : J2 21 0 = J 21 0 := by rw [g1 21 (Nat.le_refl _)]
  refine y_istore dL_law_447 rfl rfl (by decide) ?_
  refine y_aload_n 2 dL_law_449 rfl ?_
  refine y_Vi (μ := mLAW) dL_law_450 (t_thr hj2.1 g2) k_X6_thrown mlL_87 ⟨Nat.le_of_ble_eq_true rfl, Nat.le_of_ble_eq_true rfl⟩ ⟨rfl, rfl⟩ rC2 rfl (LM_ob hj2.1) rfl (Nat.le_of_ble_eq_true rfl) _ rfl (fun z2 J3 hq => ?_)
  obtain ⟨hz2, hJ3⟩ := hq
  have hz2 := hz2.symm
  subst hz2
  subst hJ3
  refine y_iload 5 dL_law_453 rfl ?_
  refine y_icmpS 460 dL_law_455 (by decide) ?_
  refine y_iload 5 dL_law_460 rfl ?_
  have hk3 : kk = 0 ∨ kk ≠ 0 := by omega
  have hkr : inR kk := ⟨by omega, by omega⟩
  refine y_if_ne 477 dL_law_462 (by decide) hkr (fun hne => ?_) (fun heq => ?_)
  · skip
    refine y_goto 1509 dL_law_477 (by decide) ?_
    refine y_sub [0, 1, 2, 3, 4] rfl ?_
    refine y_wid (c2 := c + 20) (s2 := s + 1200) (by show c + 14 ≤ c + 20; omega) (by show s + 1100 ≤ s + 1200; omega) ?_
    exact K ρ1 id1 ty1 P1 _ hv2
  · have ez := g3 heq
    subst ez
    have eo := ho heq
    refine y_aload_n 3 dL_law_465 rfl ?_
    refine y_iconst dL_law_466 ?_
    refine y_lald dL_law_467 o21b (by decide) (by decide) (by decide) ?_
    rw [show J3 21 (0 : Int).toNat = w32 z from e21.trans eo]
    refine y_iload 6 dL_law_468 rfl ?_
    refine y_i2lW dL_law_470 ?_
    refine y_lcmpS dL_law_471 ?_
    refine y_if_eq 477 dL_law_472 (by decide) ⟨by decide, by decide⟩ (fun _ => ?_) (fun z9 => absurd rfl z9)
    refine y_goto 1509 dL_law_477 (by decide) ?_
    refine y_sub [0, 1, 2, 3, 4] rfl ?_
    refine y_wid (c2 := c + 20) (s2 := s + 1200) (by show c + 14 ≤ c + 20; omega) (by show s + 1100 ≤ s + 1200; omega) ?_
    exact K ρ1 id1 ty1 P1 _ hv2
theorem lw_orderLength (h9 : (gl Γ0).stackTraces = false) (hL : (gs Γ0).1 ≤ 3072) (rng : ∀ j, inR ((gs Γ0).2 j)) (i0 : 0 ≤ i) (i1 : i + 6 ≤ ((gs Γ0).1 : Int)) (hcc : c + 20 ≤ 601024) (hss : s + 1200 ≤ 7293034) (hv : INV (gX Γ0 ρ ids ty) P I) (K : NX Γ0 c s i Z) : XE none Γ0 (gX Γ0 ρ ids ty) mLAW c s 480 (al0 i) [] P I Z := by
  obtain ⟨S, hi, hc⟩ := hv
  have o1 := LM_ob hi.1
  have o21 := hc.2.2.2.2.1
  have o30 : Ob (gX Γ0 ρ ids ty) 30 (.inl 5) := cb_ob hc.1
  have rC : c ≤ mLAW.2.2.2.2.2.cells ∧ s ≤ mLAW.2.2.2.2.2.slots := ⟨by show c ≤ 601024; omega, by show s ≤ 7293034; omega⟩
  have rC2 : c + 14 ≤ mLAW.2.2.2.2.2.cells ∧ s + 1100 ≤ mLAW.2.2.2.2.2.slots := ⟨by show c + 14 ≤ 601024; omega, by show s + 1100 ≤ 7293034; omega⟩
  have k1 : 0 ≤ i + 1 ∧ i + 1 < ((gs Γ0).1 : Int) := ⟨by omega, by omega⟩
  have hL2 : (gs Γ0).1 < 2147483648 := by omega
  obtain ⟨kk, val, S2, hkk, hcw, hrr⟩ := s_orderLength (Γ := gX Γ0 ρ ids ty) h9 hi hc (rng (i + 1).toNat)
  refine y_aload_n 1 dL_law_480 rfl ?_
  refine y_aload_n 0 dL_law_481 rfl ?_
  refine y_iload 4 dL_law_482 rfl ?_
  refine y_iconst dL_law_484 ?_
  refine y_iadd dL_law_485 ?_
  refine y_sld dL_law_486 k1.1 k1.2 hL2 ?_
  refine y_aload_n 3 dL_law_487 rfl ?_
  refine y_callW (μ := mLAW) dL_law_488 hcw kW_orderLength mlL_110 ⟨Nat.le_of_ble_eq_true rfl, Nat.le_of_ble_eq_true rfl⟩ rfl (rfs_650 (rfs_l o30 (rfs_l o1 (rfs_l o21 (rfs_li rfs_nil))))) (Nat.le_of_ble_eq_true rfl) rC2 _ rfl (fun ρ1 id1 ty1 v P1 J kp hq => ?_)
  obtain ⟨rfl, kp1, fP, fJ, ho, hic⟩ := hq
  have hj := hi.kp kp1 fP fJ
  have o21b := hic.2.2.2.2.1
  refine y_istore dL_law_491 rfl rfl (by decide) ?_
  refine y_aload_n 2 dL_law_493 rfl ?_
  refine y_aload_n 0 dL_law_494 rfl ?_
  refine y_iload 4 dL_law_495 rfl ?_
  refine y_iconst dL_law_497 ?_
  refine y_iadd dL_law_498 ?_
  refine y_sld dL_law_499 k1.1 k1.2 hL2 ?_
  refine y_Vi (μ := mLAW) dL_law_500 (hrr _ P1 J hj) k_X6_orderLength mlL_112 ⟨Nat.le_of_ble_eq_true rfl, Nat.le_of_ble_eq_true rfl⟩ ⟨rfl, rfl⟩ rC2 rfl (LM_ob hj.1) rfl (Nat.le_of_ble_eq_true rfl) _ rfl (fun z J2 hq => ?_)
  obtain ⟨g1, g2, g3, hj2⟩ := hq
  have hv2 : INV (gX (gX Γ0 ρ ids ty) ρ1 id1 ty1) P1 J2 := ⟨S2, hj2, hic.kp g1⟩
  have e21 : J2 21 0 = J 21 0 := by rw [g1 21 (Nat.le_refl _)]
  refine y_istore dL_law_503 rfl rfl (by decide) ?_
  refine y_aload_n 2 dL_law_505 rfl ?_
  refine y_Vi (μ := mLAW) dL_law_506 (t_thr hj2.1 g2) k_X6_thrown mlL_87 ⟨Nat.le_of_ble_eq_true rfl, Nat.le_of_ble_eq_true rfl⟩ ⟨rfl, rfl⟩ rC2 rfl (LM_ob hj2.1) rfl (Nat.le_of_ble_eq_true rfl) _ rfl (fun z2 J3 hq => ?_)
  obtain ⟨hz2, hJ3⟩ := hq
  have hz2 := hz2.symm
  subst hz2
  subst hJ3
  refine y_iload 5 dL_law_509 rfl ?_
  refine y_icmpS 516 dL_law_511 (by decide) ?_
  refine y_iload 5 dL_law_516 rfl ?_
  have hk3 : kk = 0 ∨ kk ≠ 0 := by omega
  have hkr : inR kk := ⟨by omega, by omega⟩
  refine y_if_ne 533 dL_law_518 (by decide) hkr (fun hne => ?_) (fun heq => ?_)
  · skip
    refine y_goto 1509 dL_law_533 (by decide) ?_
    refine y_sub [0, 1, 2, 3, 4] rfl ?_
    refine y_wid (c2 := c + 20) (s2 := s + 1200) (by show c + 14 ≤ c + 20; omega) (by show s + 1100 ≤ s + 1200; omega) ?_
    exact K ρ1 id1 ty1 P1 _ hv2
  · have ez := g3 heq
    subst ez
    have eo := ho heq
    refine y_aload_n 3 dL_law_521 rfl ?_
    refine y_iconst dL_law_522 ?_
    refine y_lald dL_law_523 o21b (by decide) (by decide) (by decide) ?_
    rw [show J3 21 (0 : Int).toNat = w32 z from e21.trans eo]
    refine y_iload 6 dL_law_524 rfl ?_
    refine y_i2lW dL_law_526 ?_
    refine y_lcmpS dL_law_527 ?_
    refine y_if_eq 533 dL_law_528 (by decide) ⟨by decide, by decide⟩ (fun _ => ?_) (fun z9 => absurd rfl z9)
    refine y_goto 1509 dL_law_533 (by decide) ?_
    refine y_sub [0, 1, 2, 3, 4] rfl ?_
    refine y_wid (c2 := c + 20) (s2 := s + 1200) (by show c + 14 ≤ c + 20; omega) (by show s + 1100 ≤ s + 1200; omega) ?_
    exact K ρ1 id1 ty1 P1 _ hv2
theorem lw_orderAt (h9 : (gl Γ0).stackTraces = false) (hL : (gs Γ0).1 ≤ 3072) (rng : ∀ j, inR ((gs Γ0).2 j)) (i0 : 0 ≤ i) (i1 : i + 6 ≤ ((gs Γ0).1 : Int)) (hcc : c + 20 ≤ 601024) (hss : s + 1200 ≤ 7293034) (hv : INV (gX Γ0 ρ ids ty) P I) (K : NX Γ0 c s i Z) : XE none Γ0 (gX Γ0 ρ ids ty) mLAW c s 536 (al0 i) [] P I Z := by
  obtain ⟨S, hi, hc⟩ := hv
  have o1 := LM_ob hi.1
  have o21 := hc.2.2.2.2.1
  have o30 : Ob (gX Γ0 ρ ids ty) 30 (.inl 5) := cb_ob hc.1
  have rC : c ≤ mLAW.2.2.2.2.2.cells ∧ s ≤ mLAW.2.2.2.2.2.slots := ⟨by show c ≤ 601024; omega, by show s ≤ 7293034; omega⟩
  have rC2 : c + 14 ≤ mLAW.2.2.2.2.2.cells ∧ s + 1100 ≤ mLAW.2.2.2.2.2.slots := ⟨by show c + 14 ≤ 601024; omega, by show s + 1100 ≤ 7293034; omega⟩
  have k1 : 0 ≤ i + 1 ∧ i + 1 < ((gs Γ0).1 : Int) := ⟨by omega, by omega⟩
  have k2 : 0 ≤ i + 2 ∧ i + 2 < ((gs Γ0).1 : Int) := ⟨by omega, by omega⟩
  have hL2 : (gs Γ0).1 < 2147483648 := by omega
  obtain ⟨kk, val, S2, hkk, hcw, hrr⟩ := s_orderAt (Γ := gX Γ0 ρ ids ty) h9 hi hc (rng (i + 1).toNat) (rng (i + 2).toNat)
  refine y_aload_n 1 dL_law_536 rfl ?_
  refine y_aload_n 0 dL_law_537 rfl ?_
  refine y_iload 4 dL_law_538 rfl ?_
  refine y_iconst dL_law_540 ?_
  refine y_iadd dL_law_541 ?_
  refine y_sld dL_law_542 k1.1 k1.2 hL2 ?_
  refine y_aload_n 0 dL_law_543 rfl ?_
  refine y_iload 4 dL_law_544 rfl ?_
  refine y_iconst dL_law_546 ?_
  refine y_iadd dL_law_547 ?_
  refine y_sld dL_law_548 k2.1 k2.2 hL2 ?_
  refine y_aload_n 3 dL_law_549 rfl ?_
  refine y_callW (μ := mLAW) dL_law_550 hcw kW_orderAt mlL_113 ⟨Nat.le_of_ble_eq_true rfl, Nat.le_of_ble_eq_true rfl⟩ rfl (rfs_650 (rfs_l o30 (rfs_l o1 (rfs_l o21 (rfs_li rfs_nil))))) (Nat.le_of_ble_eq_true rfl) rC2 _ rfl (fun ρ1 id1 ty1 v P1 J kp hq => ?_)
  obtain ⟨rfl, kp1, fP, fJ, ho, hic⟩ := hq
  have hj := hi.kp kp1 fP fJ
  have o21b := hic.2.2.2.2.1
  refine y_istore dL_law_553 rfl rfl (by decide) ?_
  refine y_aload_n 2 dL_law_555 rfl ?_
  refine y_aload_n 0 dL_law_556 rfl ?_
  refine y_iload 4 dL_law_557 rfl ?_
  refine y_iconst dL_law_559 ?_
  refine y_iadd dL_law_560 ?_
  refine y_sld dL_law_561 k1.1 k1.2 hL2 ?_
  refine y_aload_n 0 dL_law_562 rfl ?_
  refine y_iload 4 dL_law_563 rfl ?_
  refine y_iconst dL_law_565 ?_
  refine y_iadd dL_law_566 ?_
  refine y_sld dL_law_567 k2.1 k2.2 hL2 ?_
  refine y_Vi (μ := mLAW) dL_law_568 (hrr _ P1 J hj) k_X6_orderAt mlL_116 ⟨Nat.le_of_ble_eq_true rfl, Nat.le_of_ble_eq_true rfl⟩ ⟨rfl, rfl⟩ rC2 rfl (LM_ob hj.1) rfl (Nat.le_of_ble_eq_true rfl) _ rfl (fun z J2 hq => ?_)
  obtain ⟨g1, g2, g3, hj2⟩ := hq
  have hv2 : INV (gX (gX Γ0 ρ ids ty) ρ1 id1 ty1) P1 J2 := ⟨S2, hj2, hic.kp g1⟩
  have e21 : J2 21 0 = J 21 0 := by rw [g1 21 (Nat.le_refl _)]
  refine y_istore dL_law_571 rfl rfl (by decide) ?_
  refine y_aload_n 2 dL_law_573 rfl ?_
  refine y_Vi (μ := mLAW) dL_law_574 (t_thr hj2.1 g2) k_X6_thrown mlL_87 ⟨Nat.le_of_ble_eq_true rfl, Nat.le_of_ble_eq_true rfl⟩ ⟨rfl, rfl⟩ rC2 rfl (LM_ob hj2.1) rfl (Nat.le_of_ble_eq_true rfl) _ rfl (fun z2 J3 hq => ?_)
  obtain ⟨hz2, hJ3⟩ := hq
  have hz2 := hz2.symm
  subst hz2
  subst hJ3
  refine y_iload 5 dL_law_577 rfl ?_
  refine y_icmpS 584 dL_law_579 (by decide) ?_
  refine y_iload 5 dL_law_584 rfl ?_
  have hk3 : kk = 0 ∨ kk ≠ 0 := by omega
  have hkr : inR kk := ⟨by omega, by omega⟩
  refine y_if_ne 601 dL_law_586 (by decide) hkr (fun hne => ?_) (fun heq => ?_)
  · skip
    refine y_goto 1509 dL_law_601 (by decide) ?_
    refine y_sub [0, 1, 2, 3, 4] rfl ?_
    refine y_wid (c2 := c + 20) (s2 := s + 1200) (by show c + 14 ≤ c + 20; omega) (by show s + 1100 ≤ s + 1200; omega) ?_
    exact K ρ1 id1 ty1 P1 _ hv2
  · have ez := g3 heq
    subst ez
    have eo := ho heq
    refine y_aload_n 3 dL_law_589 rfl ?_
    refine y_iconst dL_law_590 ?_
    refine y_lald dL_law_591 o21b (by decide) (by decide) (by decide) ?_
    rw [show J3 21 (0 : Int).toNat = w32 z from e21.trans eo]
    refine y_iload 6 dL_law_592 rfl ?_
    refine y_i2lW dL_law_594 ?_
    refine y_lcmpS dL_law_595 ?_
    refine y_if_eq 601 dL_law_596 (by decide) ⟨by decide, by decide⟩ (fun _ => ?_) (fun z9 => absurd rfl z9)
    refine y_goto 1509 dL_law_601 (by decide) ?_
    refine y_sub [0, 1, 2, 3, 4] rfl ?_
    refine y_wid (c2 := c + 20) (s2 := s + 1200) (by show c + 14 ≤ c + 20; omega) (by show s + 1100 ≤ s + 1200; omega) ?_
    exact K ρ1 id1 ty1 P1 _ hv2
theorem lw_start (h9 : (gl Γ0).stackTraces = false) (hL : (gs Γ0).1 ≤ 3072) (rng : ∀ j, inR ((gs Γ0).2 j)) (i0 : 0 ≤ i) (i1 : i + 6 ≤ ((gs Γ0).1 : Int)) (hcc : c + 20 ≤ 601024) (hss : s + 1200 ≤ 7293034) (hv : INV (gX Γ0 ρ ids ty) P I) (K : NX Γ0 c s i Z) : XE none Γ0 (gX Γ0 ρ ids ty) mLAW c s 604 (al0 i) [] P I Z := by
  obtain ⟨S, hi, hc⟩ := hv
  have o1 := LM_ob hi.1
  have o21 := hc.2.2.2.2.1
  have o30 : Ob (gX Γ0 ρ ids ty) 30 (.inl 5) := cb_ob hc.1
  have rC : c ≤ mLAW.2.2.2.2.2.cells ∧ s ≤ mLAW.2.2.2.2.2.slots := ⟨by show c ≤ 601024; omega, by show s ≤ 7293034; omega⟩
  have rC2 : c + 14 ≤ mLAW.2.2.2.2.2.cells ∧ s + 1100 ≤ mLAW.2.2.2.2.2.slots := ⟨by show c + 14 ≤ 601024; omega, by show s + 1100 ≤ 7293034; omega⟩
  have k1 : 0 ≤ i + 1 ∧ i + 1 < ((gs Γ0).1 : Int) := ⟨by omega, by omega⟩
  have k2 : 0 ≤ i + 2 ∧ i + 2 < ((gs Γ0).1 : Int) := ⟨by omega, by omega⟩
  have hL2 : (gs Γ0).1 < 2147483648 := by omega
  obtain ⟨kk, val, S2, hkk, hcw, hrr⟩ := s_start (Γ := gX Γ0 ρ ids ty) h9 hi hc (rng (i + 1).toNat) (rng (i + 2).toNat)
  refine y_aload_n 1 dL_law_604 rfl ?_
  refine y_aload_n 0 dL_law_605 rfl ?_
  refine y_iload 4 dL_law_606 rfl ?_
  refine y_iconst dL_law_608 ?_
  refine y_iadd dL_law_609 ?_
  refine y_sld dL_law_610 k1.1 k1.2 hL2 ?_
  refine y_aload_n 0 dL_law_611 rfl ?_
  refine y_iload 4 dL_law_612 rfl ?_
  refine y_iconst dL_law_614 ?_
  refine y_iadd dL_law_615 ?_
  refine y_sld dL_law_616 k2.1 k2.2 hL2 ?_
  refine y_aload_n 3 dL_law_617 rfl ?_
  refine y_callW (μ := mLAW) dL_law_618 hcw kW_start mlL_117 ⟨Nat.le_of_ble_eq_true rfl, Nat.le_of_ble_eq_true rfl⟩ rfl (rfs_650 (rfs_l o30 (rfs_l o1 (rfs_l o21 (rfs_li rfs_nil))))) (Nat.le_of_ble_eq_true rfl) rC2 _ rfl (fun ρ1 id1 ty1 v P1 J kp hq => ?_)
  obtain ⟨rfl, kp1, fP, fJ, ho, hic⟩ := hq
  have hj := hi.kp kp1 fP fJ
  have o21b := hic.2.2.2.2.1
  refine y_istore dL_law_621 rfl rfl (by decide) ?_
  refine y_aload_n 2 dL_law_623 rfl ?_
  refine y_aload_n 0 dL_law_624 rfl ?_
  refine y_iload 4 dL_law_625 rfl ?_
  refine y_iconst dL_law_627 ?_
  refine y_iadd dL_law_628 ?_
  refine y_sld dL_law_629 k1.1 k1.2 hL2 ?_
  refine y_aload_n 0 dL_law_630 rfl ?_
  refine y_iload 4 dL_law_631 rfl ?_
  refine y_iconst dL_law_633 ?_
  refine y_iadd dL_law_634 ?_
  refine y_sld dL_law_635 k2.1 k2.2 hL2 ?_
  refine y_Vi (μ := mLAW) dL_law_636 (hrr _ P1 J hj) k_X6_start mlL_119 ⟨Nat.le_of_ble_eq_true rfl, Nat.le_of_ble_eq_true rfl⟩ ⟨rfl, rfl⟩ rC2 rfl (LM_ob hj.1) rfl (Nat.le_of_ble_eq_true rfl) _ rfl (fun z J2 hq => ?_)
  obtain ⟨g1, g2, g3, hj2⟩ := hq
  have hv2 : INV (gX (gX Γ0 ρ ids ty) ρ1 id1 ty1) P1 J2 := ⟨S2, hj2, hic.kp g1⟩
  have e21 : J2 21 0 = J 21 0 := by rw [g1 21 (Nat.le_refl _)]
  refine y_istore dL_law_639 rfl rfl (by decide) ?_
  refine y_aload_n 2 dL_law_641 rfl ?_
  refine y_Vi (μ := mLAW) dL_law_642 (t_thr hj2.1 g2) k_X6_thrown mlL_87 ⟨Nat.le_of_ble_eq_true rfl, Nat.le_of_ble_eq_true rfl⟩ ⟨rfl, rfl⟩ rC2 rfl (LM_ob hj2.1) rfl (Nat.le_of_ble_eq_true rfl) _ rfl (fun z2 J3 hq => ?_)
  obtain ⟨hz2, hJ3⟩ := hq
  have hz2 := hz2.symm
  subst hz2
  subst hJ3
  refine y_iload 5 dL_law_645 rfl ?_
  refine y_icmpS 652 dL_law_647 (by decide) ?_
  refine y_iload 5 dL_law_652 rfl ?_
  have hk3 : kk = 0 ∨ kk ≠ 0 := by omega
  have hkr : inR kk := ⟨by omega, by omega⟩
  refine y_if_ne 669 dL_law_654 (by decide) hkr (fun hne => ?_) (fun heq => ?_)
  · skip
    refine y_goto 1509 dL_law_669 (by decide) ?_
    refine y_sub [0, 1, 2, 3, 4] rfl ?_
    refine y_wid (c2 := c + 20) (s2 := s + 1200) (by show c + 14 ≤ c + 20; omega) (by show s + 1100 ≤ s + 1200; omega) ?_
    exact K ρ1 id1 ty1 P1 _ hv2
  · have ez := g3 heq
    subst ez
    have eo := ho heq
    refine y_aload_n 3 dL_law_657 rfl ?_
    refine y_iconst dL_law_658 ?_
    refine y_lald dL_law_659 o21b (by decide) (by decide) (by decide) ?_
    rw [show J3 21 (0 : Int).toNat = w32 z from e21.trans eo]
    refine y_iload 6 dL_law_660 rfl ?_
    refine y_i2lW dL_law_662 ?_
    refine y_lcmpS dL_law_663 ?_
    refine y_if_eq 669 dL_law_664 (by decide) ⟨by decide, by decide⟩ (fun _ => ?_) (fun z9 => absurd rfl z9)
    refine y_goto 1509 dL_law_669 (by decide) ?_
    refine y_sub [0, 1, 2, 3, 4] rfl ?_
    refine y_wid (c2 := c + 20) (s2 := s + 1200) (by show c + 14 ≤ c + 20; omega) (by show s + 1100 ≤ s + 1200; omega) ?_
    exact K ρ1 id1 ty1 P1 _ hv2
theorem lw_leave (h9 : (gl Γ0).stackTraces = false) (hL : (gs Γ0).1 ≤ 3072) (rng : ∀ j, inR ((gs Γ0).2 j)) (i0 : 0 ≤ i) (i1 : i + 6 ≤ ((gs Γ0).1 : Int)) (hcc : c + 20 ≤ 601024) (hss : s + 1200 ≤ 7293034) (hv : INV (gX Γ0 ρ ids ty) P I) (K : NX Γ0 c s i Z) : XE none Γ0 (gX Γ0 ρ ids ty) mLAW c s 672 (al0 i) [] P I Z := by
  obtain ⟨S, hi, hc⟩ := hv
  have o1 := LM_ob hi.1
  have o21 := hc.2.2.2.2.1
  have o30 : Ob (gX Γ0 ρ ids ty) 30 (.inl 5) := cb_ob hc.1
  have rC : c ≤ mLAW.2.2.2.2.2.cells ∧ s ≤ mLAW.2.2.2.2.2.slots := ⟨by show c ≤ 601024; omega, by show s ≤ 7293034; omega⟩
  have rC2 : c + 14 ≤ mLAW.2.2.2.2.2.cells ∧ s + 1100 ≤ mLAW.2.2.2.2.2.slots := ⟨by show c + 14 ≤ 601024; omega, by show s + 1100 ≤ 7293034; omega⟩
  have k1 : 0 ≤ i + 1 ∧ i + 1 < ((gs Γ0).1 : Int) := ⟨by omega, by omega⟩
  have k2 : 0 ≤ i + 2 ∧ i + 2 < ((gs Γ0).1 : Int) := ⟨by omega, by omega⟩
  have hL2 : (gs Γ0).1 < 2147483648 := by omega
  obtain ⟨kk, val, S2, hkk, hcw, hrr⟩ := s_leave (Γ := gX Γ0 ρ ids ty) h9 hi hc (rng (i + 1).toNat) (rng (i + 2).toNat)
  refine y_aload_n 1 dL_law_672 rfl ?_
  refine y_aload_n 0 dL_law_673 rfl ?_
  refine y_iload 4 dL_law_674 rfl ?_
  refine y_iconst dL_law_676 ?_
  refine y_iadd dL_law_677 ?_
  refine y_sld dL_law_678 k1.1 k1.2 hL2 ?_
  refine y_aload_n 0 dL_law_679 rfl ?_
  refine y_iload 4 dL_law_680 rfl ?_
  refine y_iconst dL_law_682 ?_
  refine y_iadd dL_law_683 ?_
  refine y_sld dL_law_684 k2.1 k2.2 hL2 ?_
  refine y_aload_n 3 dL_law_685 rfl ?_
  refine y_callW (μ := mLAW) dL_law_686 hcw kW_leave mlL_120 ⟨Nat.le_of_ble_eq_true rfl, Nat.le_of_ble_eq_true rfl⟩ rfl (rfs_650 (rfs_l o30 (rfs_l o1 (rfs_l o21 (rfs_li rfs_nil))))) (Nat.le_of_ble_eq_true rfl) rC2 _ rfl (fun ρ1 id1 ty1 v P1 J kp hq => ?_)
  obtain ⟨rfl, kp1, fP, fJ, ho, hic⟩ := hq
  have hj := hi.kp kp1 fP fJ
  have o21b := hic.2.2.2.2.1
  refine y_istore dL_law_689 rfl rfl (by decide) ?_
  refine y_aload_n 2 dL_law_691 rfl ?_
  refine y_aload_n 0 dL_law_692 rfl ?_
  refine y_iload 4 dL_law_693 rfl ?_
  refine y_iconst dL_law_695 ?_
  refine y_iadd dL_law_696 ?_
  refine y_sld dL_law_697 k1.1 k1.2 hL2 ?_
  refine y_aload_n 0 dL_law_698 rfl ?_
  refine y_iload 4 dL_law_699 rfl ?_
  refine y_iconst dL_law_701 ?_
  refine y_iadd dL_law_702 ?_
  refine y_sld dL_law_703 k2.1 k2.2 hL2 ?_
  refine y_Vi (μ := mLAW) dL_law_704 (hrr _ P1 J hj) k_X6_leave mlL_122 ⟨Nat.le_of_ble_eq_true rfl, Nat.le_of_ble_eq_true rfl⟩ ⟨rfl, rfl⟩ rC2 rfl (LM_ob hj.1) rfl (Nat.le_of_ble_eq_true rfl) _ rfl (fun z J2 hq => ?_)
  obtain ⟨g1, g2, g3, hj2⟩ := hq
  have hv2 : INV (gX (gX Γ0 ρ ids ty) ρ1 id1 ty1) P1 J2 := ⟨S2, hj2, hic.kp g1⟩
  have e21 : J2 21 0 = J 21 0 := by rw [g1 21 (Nat.le_refl _)]
  refine y_istore dL_law_707 rfl rfl (by decide) ?_
  refine y_aload_n 2 dL_law_709 rfl ?_
  refine y_Vi (μ := mLAW) dL_law_710 (t_thr hj2.1 g2) k_X6_thrown mlL_87 ⟨Nat.le_of_ble_eq_true rfl, Nat.le_of_ble_eq_true rfl⟩ ⟨rfl, rfl⟩ rC2 rfl (LM_ob hj2.1) rfl (Nat.le_of_ble_eq_true rfl) _ rfl (fun z2 J3 hq => ?_)
  obtain ⟨hz2, hJ3⟩ := hq
  have hz2 := hz2.symm
  subst hz2
  subst hJ3
  refine y_iload 5 dL_law_713 rfl ?_
  refine y_icmpS 720 dL_law_715 (by decide) ?_
  refine y_iload 5 dL_law_720 rfl ?_
  have hk3 : kk = 0 ∨ kk ≠ 0 := by omega
  have hkr : inR kk := ⟨by omega, by omega⟩
  refine y_if_ne 737 dL_law_722 (by decide) hkr (fun hne => ?_) (fun heq => ?_)
  · skip
    refine y_goto 1509 dL_law_737 (by decide) ?_
    refine y_sub [0, 1, 2, 3, 4] rfl ?_
    refine y_wid (c2 := c + 20) (s2 := s + 1200) (by show c + 14 ≤ c + 20; omega) (by show s + 1100 ≤ s + 1200; omega) ?_
    exact K ρ1 id1 ty1 P1 _ hv2
  · have ez := g3 heq
    subst ez
    have eo := ho heq
    refine y_aload_n 3 dL_law_725 rfl ?_
    refine y_iconst dL_law_726 ?_
    refine y_lald dL_law_727 o21b (by decide) (by decide) (by decide) ?_
    rw [show J3 21 (0 : Int).toNat = w32 z from e21.trans eo]
    refine y_iload 6 dL_law_728 rfl ?_
    refine y_i2lW dL_law_730 ?_
    refine y_lcmpS dL_law_731 ?_
    refine y_if_eq 737 dL_law_732 (by decide) ⟨by decide, by decide⟩ (fun _ => ?_) (fun z9 => absurd rfl z9)
    refine y_goto 1509 dL_law_737 (by decide) ?_
    refine y_sub [0, 1, 2, 3, 4] rfl ?_
    refine y_wid (c2 := c + 20) (s2 := s + 1200) (by show c + 14 ≤ c + 20; omega) (by show s + 1100 ≤ s + 1200; omega) ?_
    exact K ρ1 id1 ty1 P1 _ hv2
theorem lw_completion (h9 : (gl Γ0).stackTraces = false) (hL : (gs Γ0).1 ≤ 3072) (rng : ∀ j, inR ((gs Γ0).2 j)) (i0 : 0 ≤ i) (i1 : i + 6 ≤ ((gs Γ0).1 : Int)) (hcc : c + 20 ≤ 601024) (hss : s + 1200 ≤ 7293034) (hv : INV (gX Γ0 ρ ids ty) P I) (K : NX Γ0 c s i Z) : XE none Γ0 (gX Γ0 ρ ids ty) mLAW c s 740 (al0 i) [] P I Z := by
  obtain ⟨S, hi, hc⟩ := hv
  have o1 := LM_ob hi.1
  have o21 := hc.2.2.2.2.1
  have o30 : Ob (gX Γ0 ρ ids ty) 30 (.inl 5) := cb_ob hc.1
  have rC : c ≤ mLAW.2.2.2.2.2.cells ∧ s ≤ mLAW.2.2.2.2.2.slots := ⟨by show c ≤ 601024; omega, by show s ≤ 7293034; omega⟩
  have rC2 : c + 14 ≤ mLAW.2.2.2.2.2.cells ∧ s + 1100 ≤ mLAW.2.2.2.2.2.slots := ⟨by show c + 14 ≤ 601024; omega, by show s + 1100 ≤ 7293034; omega⟩
  have k1 : 0 ≤ i + 1 ∧ i + 1 < ((gs Γ0).1 : Int) := ⟨by omega, by omega⟩
  have hL2 : (gs Γ0).1 < 2147483648 := by omega
  obtain ⟨kk, val, S2, hkk, hcw, hrr⟩ := s_completion (Γ := gX Γ0 ρ ids ty) h9 hi hc (rng (i + 1).toNat)
  refine y_aload_n 1 dL_law_740 rfl ?_
  refine y_aload_n 0 dL_law_741 rfl ?_
  refine y_iload 4 dL_law_742 rfl ?_
  refine y_iconst dL_law_744 ?_
  refine y_iadd dL_law_745 ?_
  refine y_sld dL_law_746 k1.1 k1.2 hL2 ?_
  refine y_aload_n 3 dL_law_747 rfl ?_
  refine y_callW (μ := mLAW) dL_law_748 hcw kW_completion mlL_123 ⟨Nat.le_of_ble_eq_true rfl, Nat.le_of_ble_eq_true rfl⟩ rfl (rfs_650 (rfs_l o30 (rfs_l o1 (rfs_l o21 (rfs_li rfs_nil))))) (Nat.le_of_ble_eq_true rfl) rC2 _ rfl (fun ρ1 id1 ty1 v P1 J kp hq => ?_)
  obtain ⟨rfl, kp1, fP, fJ, ho, hic⟩ := hq
  have hj := hi.kp kp1 fP fJ
  have o21b := hic.2.2.2.2.1
  refine y_istore dL_law_751 rfl rfl (by decide) ?_
  refine y_aload_n 2 dL_law_753 rfl ?_
  refine y_aload_n 0 dL_law_754 rfl ?_
  refine y_iload 4 dL_law_755 rfl ?_
  refine y_iconst dL_law_757 ?_
  refine y_iadd dL_law_758 ?_
  refine y_sld dL_law_759 k1.1 k1.2 hL2 ?_
  refine y_Vi (μ := mLAW) dL_law_760 (hrr _ P1 J hj) k_X6_completion mlL_125 ⟨Nat.le_of_ble_eq_true rfl, Nat.le_of_ble_eq_true rfl⟩ ⟨rfl, rfl⟩ rC2 rfl (LM_ob hj.1) rfl (Nat.le_of_ble_eq_true rfl) _ rfl (fun z J2 hq => ?_)
  obtain ⟨g1, g2, g3, hj2⟩ := hq
  have hv2 : INV (gX (gX Γ0 ρ ids ty) ρ1 id1 ty1) P1 J2 := ⟨S2, hj2, hic.kp g1⟩
  have e21 : J2 21 0 = J 21 0 := by rw [g1 21 (Nat.le_refl _)]
  refine y_istore dL_law_763 rfl rfl (by decide) ?_
  refine y_aload_n 2 dL_law_765 rfl ?_
  refine y_Vi (μ := mLAW) dL_law_766 (t_thr hj2.1 g2) k_X6_thrown mlL_87 ⟨Nat.le_of_ble_eq_true rfl, Nat.le_of_ble_eq_true rfl⟩ ⟨rfl, rfl⟩ rC2 rfl (LM_ob hj2.1) rfl (Nat.le_of_ble_eq_true rfl) _ rfl (fun z2 J3 hq => ?_)
  obtain ⟨hz2, hJ3⟩ := hq
  have hz2 := hz2.symm
  subst hz2
  subst hJ3
  refine y_iload 5 dL_law_769 rfl ?_
  refine y_icmpS 776 dL_law_771 (by decide) ?_
  refine y_iload 5 dL_law_776 rfl ?_
  have hk3 : kk = 0 ∨ kk ≠ 0 := by omega
  have hkr : inR kk := ⟨by omega, by omega⟩
  refine y_if_ne 793 dL_law_778 (by decide) hkr (fun hne => ?_) (fun heq => ?_)
  · skip
    refine y_goto 1509 dL_law_793 (by decide) ?_
    refine y_sub [0, 1, 2, 3, 4] rfl ?_
    refine y_wid (c2 := c + 20) (s2 := s + 1200) (by show c + 14 ≤ c + 20; omega) (by show s + 1100 ≤ s + 1200; omega) ?_
    exact K ρ1 id1 ty1 P1 _ hv2
  · have ez := g3 heq
    subst ez
    have eo := ho heq
    refine y_aload_n 3 dL_law_781 rfl ?_
    refine y_iconst dL_law_782 ?_
    refine y_lald dL_law_783 o21b (by decide) (by decide) (by decide) ?_
    rw [show J3 21 (0 : Int).toNat = w32 z from e21.trans eo]
    refine y_iload 6 dL_law_784 rfl ?_
    refine y_i2lW dL_law_786 ?_
    refine y_lcmpS dL_law_787 ?_
    refine y_if_eq 793 dL_law_788 (by decide) ⟨by decide, by decide⟩ (fun _ => ?_) (fun z9 => absurd rfl z9)
    refine y_goto 1509 dL_law_793 (by decide) ?_
    refine y_sub [0, 1, 2, 3, 4] rfl ?_
    refine y_wid (c2 := c + 20) (s2 := s + 1200) (by show c + 14 ≤ c + 20; omega) (by show s + 1100 ≤ s + 1200; omega) ?_
    exact K ρ1 id1 ty1 P1 _ hv2
theorem lw_makespan (h9 : (gl Γ0).stackTraces = false) (hL : (gs Γ0).1 ≤ 3072) (rng : ∀ j, inR ((gs Γ0).2 j)) (i0 : 0 ≤ i) (i1 : i + 6 ≤ ((gs Γ0).1 : Int)) (hcc : c + 20 ≤ 601024) (hss : s + 1200 ≤ 7293034) (hv : INV (gX Γ0 ρ ids ty) P I) (K : NX Γ0 c s i Z) : XE none Γ0 (gX Γ0 ρ ids ty) mLAW c s 796 (al0 i) [] P I Z := by
  obtain ⟨S, hi, hc⟩ := hv
  have o1 := LM_ob hi.1
  have o21 := hc.2.2.2.2.1
  have o30 : Ob (gX Γ0 ρ ids ty) 30 (.inl 5) := cb_ob hc.1
  have rC : c ≤ mLAW.2.2.2.2.2.cells ∧ s ≤ mLAW.2.2.2.2.2.slots := ⟨by show c ≤ 601024; omega, by show s ≤ 7293034; omega⟩
  have rC2 : c + 14 ≤ mLAW.2.2.2.2.2.cells ∧ s + 1100 ≤ mLAW.2.2.2.2.2.slots := ⟨by show c + 14 ≤ 601024; omega, by show s + 1100 ≤ 7293034; omega⟩
  have hL2 : (gs Γ0).1 < 2147483648 := by omega
  obtain ⟨val, S2, hcw, hrr⟩ := s_makespan hi hc 
  refine y_aload_n 1 dL_law_796 rfl ?_
  refine y_Vpi (μ := mLAW) dL_law_797 hcw k_X5_makespan mlL_126 ⟨Nat.le_of_ble_eq_true rfl, Nat.le_of_ble_eq_true rfl⟩ ⟨rfl, rfl⟩ rC rfl o30 rfl (Nat.le_of_ble_eq_true rfl) _ rfl (fun z1 P1 J hq => ?_)
  obtain ⟨ez, fP, fJ, hic⟩ := hq
  subst ez
  have hj := hi.kp Kp.rf fP fJ
  refine y_aload_n 2 dL_law_800 rfl ?_
  refine y_Vi (μ := mLAW) dL_law_801 (hrr _ P1 J hj) k_X6_makespan mlL_129 ⟨Nat.le_of_ble_eq_true rfl, Nat.le_of_ble_eq_true rfl⟩ ⟨rfl, rfl⟩ rC rfl (LM_ob hj.1) rfl (Nat.le_of_ble_eq_true rfl) _ rfl (fun z J2 hq => ?_)
  obtain ⟨g1, g2, g3, hj2⟩ := hq
  have hv2 : INV (gX Γ0 ρ ids ty) P1 J2 := ⟨S2, hj2, hic.kp g1⟩
  have ez := g3 rfl
  subst ez
  refine y_icmpS 1509 dL_law_804 (by decide) ?_
  refine y_wid (c2 := c + 20) (s2 := s + 1200) (by omega) (by omega) ?_
  exact K ρ ids ty P1 _ hv2
theorem lw_jobCost (h9 : (gl Γ0).stackTraces = false) (hL : (gs Γ0).1 ≤ 3072) (rng : ∀ j, inR ((gs Γ0).2 j)) (i0 : 0 ≤ i) (i1 : i + 6 ≤ ((gs Γ0).1 : Int)) (hcc : c + 20 ≤ 601024) (hss : s + 1200 ≤ 7293034) (hv : INV (gX Γ0 ρ ids ty) P I) (K : NX Γ0 c s i Z) : XE none Γ0 (gX Γ0 ρ ids ty) mLAW c s 809 (al0 i) [] P I Z := by
  obtain ⟨S, hi, hc⟩ := hv
  have o1 := LM_ob hi.1
  have o21 := hc.2.2.2.2.1
  have o30 : Ob (gX Γ0 ρ ids ty) 30 (.inl 5) := cb_ob hc.1
  have rC : c ≤ mLAW.2.2.2.2.2.cells ∧ s ≤ mLAW.2.2.2.2.2.slots := ⟨by show c ≤ 601024; omega, by show s ≤ 7293034; omega⟩
  have rC2 : c + 14 ≤ mLAW.2.2.2.2.2.cells ∧ s + 1100 ≤ mLAW.2.2.2.2.2.slots := ⟨by show c + 14 ≤ 601024; omega, by show s + 1100 ≤ 7293034; omega⟩
  have k1 : 0 ≤ i + 1 ∧ i + 1 < ((gs Γ0).1 : Int) := ⟨by omega, by omega⟩
  have hL2 : (gs Γ0).1 < 2147483648 := by omega
  obtain ⟨kk, val, S2, hkk, hcw, hrr⟩ := s_jobCost (Γ := gX Γ0 ρ ids ty) h9 hi hc (rng (i + 1).toNat)
  refine y_aload_n 1 dL_law_809 rfl ?_
  refine y_aload_n 0 dL_law_810 rfl ?_
  refine y_iload 4 dL_law_811 rfl ?_
  refine y_iconst dL_law_813 ?_
  refine y_iadd dL_law_814 ?_
  refine y_sld dL_law_815 k1.1 k1.2 hL2 ?_
  refine y_aload_n 3 dL_law_816 rfl ?_
  refine y_callW (μ := mLAW) dL_law_817 hcw kW_jobCost mlL_130 ⟨Nat.le_of_ble_eq_true rfl, Nat.le_of_ble_eq_true rfl⟩ rfl (rfs_650 (rfs_l o30 (rfs_l o1 (rfs_l o21 (rfs_li rfs_nil))))) (Nat.le_of_ble_eq_true rfl) rC2 _ rfl (fun ρ1 id1 ty1 v P1 J kp hq => ?_)
  obtain ⟨rfl, kp1, fP, fJ, ho, hic⟩ := hq
  have hj := hi.kp kp1 fP fJ
  have o21b := hic.2.2.2.2.1
  refine y_istore dL_law_820 rfl rfl (by decide) ?_
  refine y_aload_n 2 dL_law_822 rfl ?_
  refine y_aload_n 0 dL_law_823 rfl ?_
  refine y_iload 4 dL_law_824 rfl ?_
  refine y_iconst dL_law_826 ?_
  refine y_iadd dL_law_827 ?_
  refine y_sld dL_law_828 k1.1 k1.2 hL2 ?_
  refine y_Vi (μ := mLAW) dL_law_829 (hrr _ P1 J hj) k_X6_jobCost mlL_132 ⟨Nat.le_of_ble_eq_true rfl, Nat.le_of_ble_eq_true rfl⟩ ⟨rfl, rfl⟩ rC2 rfl (LM_ob hj.1) rfl (Nat.le_of_ble_eq_true rfl) _ rfl (fun z J2 hq => ?_)
  obtain ⟨g1, g2, g3, hj2⟩ := hq
  have hv2 : INV (gX (gX Γ0 ρ ids ty) ρ1 id1 ty1) P1 J2 := ⟨S2, hj2, hic.kp g1⟩
  have e21 : J2 21 0 = J 21 0 := by rw [g1 21 (Nat.le_refl _)]
  refine y_istore dL_law_832 rfl rfl (by decide) ?_
  refine y_aload_n 2 dL_law_834 rfl ?_
  refine y_Vi (μ := mLAW) dL_law_835 (t_thr hj2.1 g2) k_X6_thrown mlL_87 ⟨Nat.le_of_ble_eq_true rfl, Nat.le_of_ble_eq_true rfl⟩ ⟨rfl, rfl⟩ rC2 rfl (LM_ob hj2.1) rfl (Nat.le_of_ble_eq_true rfl) _ rfl (fun z2 J3 hq => ?_)
  obtain ⟨hz2, hJ3⟩ := hq
  have hz2 := hz2.symm
  subst hz2
  subst hJ3
  refine y_iload 5 dL_law_838 rfl ?_
  refine y_icmpS 845 dL_law_840 (by decide) ?_
  refine y_iload 5 dL_law_845 rfl ?_
  have hk3 : kk = 0 ∨ kk ≠ 0 := by omega
  have hkr : inR kk := ⟨by omega, by omega⟩
  refine y_if_ne 862 dL_law_847 (by decide) hkr (fun hne => ?_) (fun heq => ?_)
  · skip
    refine y_goto 1509 dL_law_862 (by decide) ?_
    refine y_sub [0, 1, 2, 3, 4] rfl ?_
    refine y_wid (c2 := c + 20) (s2 := s + 1200) (by show c + 14 ≤ c + 20; omega) (by show s + 1100 ≤ s + 1200; omega) ?_
    exact K ρ1 id1 ty1 P1 _ hv2
  · have ez := g3 heq
    subst ez
    have eo := ho heq
    refine y_aload_n 3 dL_law_850 rfl ?_
    refine y_iconst dL_law_851 ?_
    refine y_lald dL_law_852 o21b (by decide) (by decide) (by decide) ?_
    rw [show J3 21 (0 : Int).toNat = w32 z from e21.trans eo]
    refine y_iload 6 dL_law_853 rfl ?_
    refine y_i2lW dL_law_855 ?_
    refine y_lcmpS dL_law_856 ?_
    refine y_if_eq 862 dL_law_857 (by decide) ⟨by decide, by decide⟩ (fun _ => ?_) (fun z9 => absurd rfl z9)
    refine y_goto 1509 dL_law_862 (by decide) ?_
    refine y_sub [0, 1, 2, 3, 4] rfl ?_
    refine y_wid (c2 := c + 20) (s2 := s + 1200) (by show c + 14 ≤ c + 20; omega) (by show s + 1100 ≤ s + 1200; omega) ?_
    exact K ρ1 id1 ty1 P1 _ hv2
theorem lw_planCost (h9 : (gl Γ0).stackTraces = false) (hL : (gs Γ0).1 ≤ 3072) (rng : ∀ j, inR ((gs Γ0).2 j)) (i0 : 0 ≤ i) (i1 : i + 6 ≤ ((gs Γ0).1 : Int)) (hcc : c + 20 ≤ 601024) (hss : s + 1200 ≤ 7293034) (hv : INV (gX Γ0 ρ ids ty) P I) (K : NX Γ0 c s i Z) : XE none Γ0 (gX Γ0 ρ ids ty) mLAW c s 865 (al0 i) [] P I Z := by
  obtain ⟨S, hi, hc⟩ := hv
  have o1 := LM_ob hi.1
  have o21 := hc.2.2.2.2.1
  have o30 : Ob (gX Γ0 ρ ids ty) 30 (.inl 5) := cb_ob hc.1
  have rC : c ≤ mLAW.2.2.2.2.2.cells ∧ s ≤ mLAW.2.2.2.2.2.slots := ⟨by show c ≤ 601024; omega, by show s ≤ 7293034; omega⟩
  have rC2 : c + 14 ≤ mLAW.2.2.2.2.2.cells ∧ s + 1100 ≤ mLAW.2.2.2.2.2.slots := ⟨by show c + 14 ≤ 601024; omega, by show s + 1100 ≤ 7293034; omega⟩
  have hL2 : (gs Γ0).1 < 2147483648 := by omega
  obtain ⟨val, S2, hcw, hrr⟩ := s_planCost hi hc 
  refine y_aload_n 1 dL_law_865 rfl ?_
  refine y_Vpi (μ := mLAW) dL_law_866 hcw k_X5_planCost mlL_133 ⟨Nat.le_of_ble_eq_true rfl, Nat.le_of_ble_eq_true rfl⟩ ⟨rfl, rfl⟩ rC rfl o30 rfl (Nat.le_of_ble_eq_true rfl) _ rfl (fun z1 P1 J hq => ?_)
  obtain ⟨ez, fP, fJ, hic⟩ := hq
  subst ez
  have hj := hi.kp Kp.rf fP fJ
  refine y_aload_n 2 dL_law_869 rfl ?_
  refine y_Vi (μ := mLAW) dL_law_870 (hrr _ P1 J hj) k_X6_planCost mlL_136 ⟨Nat.le_of_ble_eq_true rfl, Nat.le_of_ble_eq_true rfl⟩ ⟨rfl, rfl⟩ rC rfl (LM_ob hj.1) rfl (Nat.le_of_ble_eq_true rfl) _ rfl (fun z J2 hq => ?_)
  obtain ⟨g1, g2, g3, hj2⟩ := hq
  have hv2 : INV (gX Γ0 ρ ids ty) P1 J2 := ⟨S2, hj2, hic.kp g1⟩
  have ez := g3 rfl
  subst ez
  refine y_icmpS 1509 dL_law_873 (by decide) ?_
  refine y_wid (c2 := c + 20) (s2 := s + 1200) (by omega) (by omega) ?_
  exact K ρ ids ty P1 _ hv2
theorem lw_blockedTime (h9 : (gl Γ0).stackTraces = false) (hL : (gs Γ0).1 ≤ 3072) (rng : ∀ j, inR ((gs Γ0).2 j)) (i0 : 0 ≤ i) (i1 : i + 6 ≤ ((gs Γ0).1 : Int)) (hcc : c + 20 ≤ 601024) (hss : s + 1200 ≤ 7293034) (hv : INV (gX Γ0 ρ ids ty) P I) (K : NX Γ0 c s i Z) : XE none Γ0 (gX Γ0 ρ ids ty) mLAW c s 878 (al0 i) [] P I Z := by
  obtain ⟨S, hi, hc⟩ := hv
  have o1 := LM_ob hi.1
  have o21 := hc.2.2.2.2.1
  have o30 : Ob (gX Γ0 ρ ids ty) 30 (.inl 5) := cb_ob hc.1
  have rC : c ≤ mLAW.2.2.2.2.2.cells ∧ s ≤ mLAW.2.2.2.2.2.slots := ⟨by show c ≤ 601024; omega, by show s ≤ 7293034; omega⟩
  have rC2 : c + 14 ≤ mLAW.2.2.2.2.2.cells ∧ s + 1100 ≤ mLAW.2.2.2.2.2.slots := ⟨by show c + 14 ≤ 601024; omega, by show s + 1100 ≤ 7293034; omega⟩
  have k1 : 0 ≤ i + 1 ∧ i + 1 < ((gs Γ0).1 : Int) := ⟨by omega, by omega⟩
  have hL2 : (gs Γ0).1 < 2147483648 := by omega
  obtain ⟨kk, val, S2, hkk, hcw, hrr⟩ := s_blockedTime (Γ := gX Γ0 ρ ids ty) h9 hi hc (rng (i + 1).toNat)
  refine y_aload_n 1 dL_law_878 rfl ?_
  refine y_aload_n 0 dL_law_879 rfl ?_
  refine y_iload 4 dL_law_880 rfl ?_
  refine y_iconst dL_law_882 ?_
  refine y_iadd dL_law_883 ?_
  refine y_sld dL_law_884 k1.1 k1.2 hL2 ?_
  refine y_aload_n 3 dL_law_885 rfl ?_
  refine y_callW (μ := mLAW) dL_law_886 hcw kW_blockedTime mlL_137 ⟨Nat.le_of_ble_eq_true rfl, Nat.le_of_ble_eq_true rfl⟩ rfl (rfs_650 (rfs_l o30 (rfs_l o1 (rfs_l o21 (rfs_li rfs_nil))))) (Nat.le_of_ble_eq_true rfl) rC2 _ rfl (fun ρ1 id1 ty1 v P1 J kp hq => ?_)
  obtain ⟨rfl, kp1, fP, fJ, ho, hic⟩ := hq
  have hj := hi.kp kp1 fP fJ
  have o21b := hic.2.2.2.2.1
  refine y_istore dL_law_889 rfl rfl (by decide) ?_
  refine y_aload_n 2 dL_law_891 rfl ?_
  refine y_aload_n 0 dL_law_892 rfl ?_
  refine y_iload 4 dL_law_893 rfl ?_
  refine y_iconst dL_law_895 ?_
  refine y_iadd dL_law_896 ?_
  refine y_sld dL_law_897 k1.1 k1.2 hL2 ?_
  refine y_Vi (μ := mLAW) dL_law_898 (hrr _ P1 J hj) k_X6_blockedTime mlL_139 ⟨Nat.le_of_ble_eq_true rfl, Nat.le_of_ble_eq_true rfl⟩ ⟨rfl, rfl⟩ rC2 rfl (LM_ob hj.1) rfl (Nat.le_of_ble_eq_true rfl) _ rfl (fun z J2 hq => ?_)
  obtain ⟨g1, g2, g3, hj2⟩ := hq
  have hv2 : INV (gX (gX Γ0 ρ ids ty) ρ1 id1 ty1) P1 J2 := ⟨S2, hj2, hic.kp g1⟩
  have e21 : J2 21 0 = J 21 0 := by rw [g1 21 (Nat.le_refl _)]
  refine y_istore dL_law_901 rfl rfl (by decide) ?_
  refine y_aload_n 2 dL_law_903 rfl ?_
  refine y_Vi (μ := mLAW) dL_law_904 (t_thr hj2.1 g2) k_X6_thrown mlL_87 ⟨Nat.le_of_ble_eq_true rfl, Nat.le_of_ble_eq_true rfl⟩ ⟨rfl, rfl⟩ rC2 rfl (LM_ob hj2.1) rfl (Nat.le_of_ble_eq_true rfl) _ rfl (fun z2 J3 hq => ?_)
  obtain ⟨hz2, hJ3⟩ := hq
  have hz2 := hz2.symm
  subst hz2
  subst hJ3
  refine y_iload 5 dL_law_907 rfl ?_
  refine y_icmpS 914 dL_law_909 (by decide) ?_
  refine y_iload 5 dL_law_914 rfl ?_
  have hk3 : kk = 0 ∨ kk ≠ 0 := by omega
  have hkr : inR kk := ⟨by omega, by omega⟩
  refine y_if_ne 931 dL_law_916 (by decide) hkr (fun hne => ?_) (fun heq => ?_)
  · skip
    refine y_goto 1509 dL_law_931 (by decide) ?_
    refine y_sub [0, 1, 2, 3, 4] rfl ?_
    refine y_wid (c2 := c + 20) (s2 := s + 1200) (by show c + 14 ≤ c + 20; omega) (by show s + 1100 ≤ s + 1200; omega) ?_
    exact K ρ1 id1 ty1 P1 _ hv2
  · have ez := g3 heq
    subst ez
    have eo := ho heq
    refine y_aload_n 3 dL_law_919 rfl ?_
    refine y_iconst dL_law_920 ?_
    refine y_lald dL_law_921 o21b (by decide) (by decide) (by decide) ?_
    rw [show J3 21 (0 : Int).toNat = w32 z from e21.trans eo]
    refine y_iload 6 dL_law_922 rfl ?_
    refine y_i2lW dL_law_924 ?_
    refine y_lcmpS dL_law_925 ?_
    refine y_if_eq 931 dL_law_926 (by decide) ⟨by decide, by decide⟩ (fun _ => ?_) (fun z9 => absurd rfl z9)
    refine y_goto 1509 dL_law_931 (by decide) ?_
    refine y_sub [0, 1, 2, 3, 4] rfl ?_
    refine y_wid (c2 := c + 20) (s2 := s + 1200) (by show c + 14 ≤ c + 20; omega) (by show s + 1100 ≤ s + 1200; omega) ?_
    exact K ρ1 id1 ty1 P1 _ hv2
theorem lw_criticalLength (h9 : (gl Γ0).stackTraces = false) (hL : (gs Γ0).1 ≤ 3072) (rng : ∀ j, inR ((gs Γ0).2 j)) (i0 : 0 ≤ i) (i1 : i + 6 ≤ ((gs Γ0).1 : Int)) (hcc : c + 20 ≤ 601024) (hss : s + 1200 ≤ 7293034) (hv : INV (gX Γ0 ρ ids ty) P I) (K : NX Γ0 c s i Z) : XE none Γ0 (gX Γ0 ρ ids ty) mLAW c s 934 (al0 i) [] P I Z := by
  obtain ⟨S, hi, hc⟩ := hv
  have o1 := LM_ob hi.1
  have o21 := hc.2.2.2.2.1
  have o30 : Ob (gX Γ0 ρ ids ty) 30 (.inl 5) := cb_ob hc.1
  have rC : c ≤ mLAW.2.2.2.2.2.cells ∧ s ≤ mLAW.2.2.2.2.2.slots := ⟨by show c ≤ 601024; omega, by show s ≤ 7293034; omega⟩
  have rC2 : c + 14 ≤ mLAW.2.2.2.2.2.cells ∧ s + 1100 ≤ mLAW.2.2.2.2.2.slots := ⟨by show c + 14 ≤ 601024; omega, by show s + 1100 ≤ 7293034; omega⟩
  have hL2 : (gs Γ0).1 < 2147483648 := by omega
  obtain ⟨val, S2, hcw, hrr⟩ := s_criticalLength hi hc 
  refine y_aload_n 1 dL_law_934 rfl ?_
  refine y_Vpi (μ := mLAW) dL_law_935 hcw k_X5_criticalLength mlL_140 ⟨Nat.le_of_ble_eq_true rfl, Nat.le_of_ble_eq_true rfl⟩ ⟨rfl, rfl⟩ rC rfl o30 rfl (Nat.le_of_ble_eq_true rfl) _ rfl (fun z1 P1 J hq => ?_)
  obtain ⟨ez, fP, fJ, hic⟩ := hq
  subst ez
  have hj := hi.kp Kp.rf fP fJ
  refine y_aload_n 2 dL_law_938 rfl ?_
  refine y_Vi (μ := mLAW) dL_law_939 (hrr _ P1 J hj) k_X6_criticalLength mlL_143 ⟨Nat.le_of_ble_eq_true rfl, Nat.le_of_ble_eq_true rfl⟩ ⟨rfl, rfl⟩ rC rfl (LM_ob hj.1) rfl (Nat.le_of_ble_eq_true rfl) _ rfl (fun z J2 hq => ?_)
  obtain ⟨g1, g2, g3, hj2⟩ := hq
  have hv2 : INV (gX Γ0 ρ ids ty) P1 J2 := ⟨S2, hj2, hic.kp g1⟩
  have ez := g3 rfl
  subst ez
  refine y_icmpS 1509 dL_law_942 (by decide) ?_
  refine y_wid (c2 := c + 20) (s2 := s + 1200) (by omega) (by omega) ?_
  exact K ρ ids ty P1 _ hv2
theorem lw_critical (h9 : (gl Γ0).stackTraces = false) (hL : (gs Γ0).1 ≤ 3072) (rng : ∀ j, inR ((gs Γ0).2 j)) (i0 : 0 ≤ i) (i1 : i + 6 ≤ ((gs Γ0).1 : Int)) (hcc : c + 20 ≤ 601024) (hss : s + 1200 ≤ 7293034) (hv : INV (gX Γ0 ρ ids ty) P I) (K : NX Γ0 c s i Z) : XE none Γ0 (gX Γ0 ρ ids ty) mLAW c s 947 (al0 i) [] P I Z := by
  obtain ⟨S, hi, hc⟩ := hv
  have o1 := LM_ob hi.1
  have o21 := hc.2.2.2.2.1
  have o30 : Ob (gX Γ0 ρ ids ty) 30 (.inl 5) := cb_ob hc.1
  have rC : c ≤ mLAW.2.2.2.2.2.cells ∧ s ≤ mLAW.2.2.2.2.2.slots := ⟨by show c ≤ 601024; omega, by show s ≤ 7293034; omega⟩
  have rC2 : c + 14 ≤ mLAW.2.2.2.2.2.cells ∧ s + 1100 ≤ mLAW.2.2.2.2.2.slots := ⟨by show c + 14 ≤ 601024; omega, by show s + 1100 ≤ 7293034; omega⟩
  have k1 : 0 ≤ i + 1 ∧ i + 1 < ((gs Γ0).1 : Int) := ⟨by omega, by omega⟩
  have hL2 : (gs Γ0).1 < 2147483648 := by omega
  obtain ⟨kk, val, S2, hkk, hcw, hrr⟩ := s_critical (Γ := gX Γ0 ρ ids ty) h9 hi hc (rng (i + 1).toNat)
  refine y_aload_n 1 dL_law_947 rfl ?_
  refine y_aload_n 0 dL_law_948 rfl ?_
  refine y_iload 4 dL_law_949 rfl ?_
  refine y_iconst dL_law_951 ?_
  refine y_iadd dL_law_952 ?_
  refine y_sld dL_law_953 k1.1 k1.2 hL2 ?_
  refine y_aload_n 3 dL_law_954 rfl ?_
  refine y_callW (μ := mLAW) dL_law_955 hcw kW_critical mlL_144 ⟨Nat.le_of_ble_eq_true rfl, Nat.le_of_ble_eq_true rfl⟩ rfl (rfs_650 (rfs_l o30 (rfs_l o1 (rfs_l o21 (rfs_li rfs_nil))))) (Nat.le_of_ble_eq_true rfl) rC2 _ rfl (fun ρ1 id1 ty1 v P1 J kp hq => ?_)
  obtain ⟨rfl, kp1, fP, fJ, ho, hic⟩ := hq
  have hj := hi.kp kp1 fP fJ
  have o21b := hic.2.2.2.2.1
  refine y_istore dL_law_958 rfl rfl (by decide) ?_
  refine y_aload_n 2 dL_law_960 rfl ?_
  refine y_aload_n 0 dL_law_961 rfl ?_
  refine y_iload 4 dL_law_962 rfl ?_
  refine y_iconst dL_law_964 ?_
  refine y_iadd dL_law_965 ?_
  refine y_sld dL_law_966 k1.1 k1.2 hL2 ?_
  refine y_Vi (μ := mLAW) dL_law_967 (hrr _ P1 J hj) k_X6_critical mlL_146 ⟨Nat.le_of_ble_eq_true rfl, Nat.le_of_ble_eq_true rfl⟩ ⟨rfl, rfl⟩ rC2 rfl (LM_ob hj.1) rfl (Nat.le_of_ble_eq_true rfl) _ rfl (fun z J2 hq => ?_)
  obtain ⟨g1, g2, g3, hj2⟩ := hq
  have hv2 : INV (gX (gX Γ0 ρ ids ty) ρ1 id1 ty1) P1 J2 := ⟨S2, hj2, hic.kp g1⟩
  have e21 : J2 21 0 = J 21 0 := by rw [g1 21 (Nat.le_refl _)]
  refine y_istore dL_law_970 rfl rfl (by decide) ?_
  refine y_aload_n 2 dL_law_972 rfl ?_
  refine y_Vi (μ := mLAW) dL_law_973 (t_thr hj2.1 g2) k_X6_thrown mlL_87 ⟨Nat.le_of_ble_eq_true rfl, Nat.le_of_ble_eq_true rfl⟩ ⟨rfl, rfl⟩ rC2 rfl (LM_ob hj2.1) rfl (Nat.le_of_ble_eq_true rfl) _ rfl (fun z2 J3 hq => ?_)
  obtain ⟨hz2, hJ3⟩ := hq
  have hz2 := hz2.symm
  subst hz2
  subst hJ3
  refine y_iload 5 dL_law_976 rfl ?_
  refine y_icmpS 983 dL_law_978 (by decide) ?_
  refine y_iload 5 dL_law_983 rfl ?_
  have hk3 : kk = 0 ∨ kk ≠ 0 := by omega
  have hkr : inR kk := ⟨by omega, by omega⟩
  refine y_if_ne 1000 dL_law_985 (by decide) hkr (fun hne => ?_) (fun heq => ?_)
  · skip
    refine y_goto 1509 dL_law_1000 (by decide) ?_
    refine y_sub [0, 1, 2, 3, 4] rfl ?_
    refine y_wid (c2 := c + 20) (s2 := s + 1200) (by show c + 14 ≤ c + 20; omega) (by show s + 1100 ≤ s + 1200; omega) ?_
    exact K ρ1 id1 ty1 P1 _ hv2
  · have ez := g3 heq
    subst ez
    have eo := ho heq
    refine y_aload_n 3 dL_law_988 rfl ?_
    refine y_iconst dL_law_989 ?_
    refine y_lald dL_law_990 o21b (by decide) (by decide) (by decide) ?_
    rw [show J3 21 (0 : Int).toNat = w32 z from e21.trans eo]
    refine y_iload 6 dL_law_991 rfl ?_
    refine y_i2lW dL_law_993 ?_
    refine y_lcmpS dL_law_994 ?_
    refine y_if_eq 1000 dL_law_995 (by decide) ⟨by decide, by decide⟩ (fun _ => ?_) (fun z9 => absurd rfl z9)
    refine y_goto 1509 dL_law_1000 (by decide) ?_
    refine y_sub [0, 1, 2, 3, 4] rfl ?_
    refine y_wid (c2 := c + 20) (s2 := s + 1200) (by show c + 14 ≤ c + 20; omega) (by show s + 1100 ≤ s + 1200; omega) ?_
    exact K ρ1 id1 ty1 P1 _ hv2
theorem lw_blockCount (h9 : (gl Γ0).stackTraces = false) (hL : (gs Γ0).1 ≤ 3072) (rng : ∀ j, inR ((gs Γ0).2 j)) (i0 : 0 ≤ i) (i1 : i + 6 ≤ ((gs Γ0).1 : Int)) (hcc : c + 20 ≤ 601024) (hss : s + 1200 ≤ 7293034) (hv : INV (gX Γ0 ρ ids ty) P I) (K : NX Γ0 c s i Z) : XE none Γ0 (gX Γ0 ρ ids ty) mLAW c s 1003 (al0 i) [] P I Z := by
  obtain ⟨S, hi, hc⟩ := hv
  have o1 := LM_ob hi.1
  have o21 := hc.2.2.2.2.1
  have o30 : Ob (gX Γ0 ρ ids ty) 30 (.inl 5) := cb_ob hc.1
  have rC : c ≤ mLAW.2.2.2.2.2.cells ∧ s ≤ mLAW.2.2.2.2.2.slots := ⟨by show c ≤ 601024; omega, by show s ≤ 7293034; omega⟩
  have rC2 : c + 14 ≤ mLAW.2.2.2.2.2.cells ∧ s + 1100 ≤ mLAW.2.2.2.2.2.slots := ⟨by show c + 14 ≤ 601024; omega, by show s + 1100 ≤ 7293034; omega⟩
  have hL2 : (gs Γ0).1 < 2147483648 := by omega
  obtain ⟨val, S2, hcw, hrr⟩ := s_blockCount hi hc 
  refine y_aload_n 1 dL_law_1003 rfl ?_
  refine y_Vpi (μ := mLAW) dL_law_1004 hcw k_X5_blockCount mlL_147 ⟨Nat.le_of_ble_eq_true rfl, Nat.le_of_ble_eq_true rfl⟩ ⟨rfl, rfl⟩ rC rfl o30 rfl (Nat.le_of_ble_eq_true rfl) _ rfl (fun z1 P1 J hq => ?_)
  obtain ⟨ez, fP, fJ, hic⟩ := hq
  subst ez
  have hj := hi.kp Kp.rf fP fJ
  refine y_aload_n 2 dL_law_1007 rfl ?_
  refine y_Vi (μ := mLAW) dL_law_1008 (hrr _ P1 J hj) k_X6_blockCount mlL_150 ⟨Nat.le_of_ble_eq_true rfl, Nat.le_of_ble_eq_true rfl⟩ ⟨rfl, rfl⟩ rC rfl (LM_ob hj.1) rfl (Nat.le_of_ble_eq_true rfl) _ rfl (fun z J2 hq => ?_)
  obtain ⟨g1, g2, g3, hj2⟩ := hq
  have hv2 : INV (gX Γ0 ρ ids ty) P1 J2 := ⟨S2, hj2, hic.kp g1⟩
  have ez := g3 rfl
  subst ez
  refine y_icmpS 1509 dL_law_1011 (by decide) ?_
  refine y_wid (c2 := c + 20) (s2 := s + 1200) (by omega) (by omega) ?_
  exact K ρ ids ty P1 _ hv2
theorem lw_longestBlock (h9 : (gl Γ0).stackTraces = false) (hL : (gs Γ0).1 ≤ 3072) (rng : ∀ j, inR ((gs Γ0).2 j)) (i0 : 0 ≤ i) (i1 : i + 6 ≤ ((gs Γ0).1 : Int)) (hcc : c + 20 ≤ 601024) (hss : s + 1200 ≤ 7293034) (hv : INV (gX Γ0 ρ ids ty) P I) (K : NX Γ0 c s i Z) : XE none Γ0 (gX Γ0 ρ ids ty) mLAW c s 1016 (al0 i) [] P I Z := by
  obtain ⟨S, hi, hc⟩ := hv
  have o1 := LM_ob hi.1
  have o21 := hc.2.2.2.2.1
  have o30 : Ob (gX Γ0 ρ ids ty) 30 (.inl 5) := cb_ob hc.1
  have rC : c ≤ mLAW.2.2.2.2.2.cells ∧ s ≤ mLAW.2.2.2.2.2.slots := ⟨by show c ≤ 601024; omega, by show s ≤ 7293034; omega⟩
  have rC2 : c + 14 ≤ mLAW.2.2.2.2.2.cells ∧ s + 1100 ≤ mLAW.2.2.2.2.2.slots := ⟨by show c + 14 ≤ 601024; omega, by show s + 1100 ≤ 7293034; omega⟩
  have hL2 : (gs Γ0).1 < 2147483648 := by omega
  obtain ⟨val, S2, hcw, hrr⟩ := s_longestBlock hi hc 
  refine y_aload_n 1 dL_law_1016 rfl ?_
  refine y_Vpi (μ := mLAW) dL_law_1017 hcw k_X5_longestBlock mlL_151 ⟨Nat.le_of_ble_eq_true rfl, Nat.le_of_ble_eq_true rfl⟩ ⟨rfl, rfl⟩ rC rfl o30 rfl (Nat.le_of_ble_eq_true rfl) _ rfl (fun z1 P1 J hq => ?_)
  obtain ⟨ez, fP, fJ, hic⟩ := hq
  subst ez
  have hj := hi.kp Kp.rf fP fJ
  refine y_aload_n 2 dL_law_1020 rfl ?_
  refine y_Vi (μ := mLAW) dL_law_1021 (hrr _ P1 J hj) k_X6_longestBlock mlL_154 ⟨Nat.le_of_ble_eq_true rfl, Nat.le_of_ble_eq_true rfl⟩ ⟨rfl, rfl⟩ rC rfl (LM_ob hj.1) rfl (Nat.le_of_ble_eq_true rfl) _ rfl (fun z J2 hq => ?_)
  obtain ⟨g1, g2, g3, hj2⟩ := hq
  have hv2 : INV (gX Γ0 ρ ids ty) P1 J2 := ⟨S2, hj2, hic.kp g1⟩
  have ez := g3 rfl
  subst ez
  refine y_icmpS 1509 dL_law_1024 (by decide) ?_
  refine y_wid (c2 := c + 20) (s2 := s + 1200) (by omega) (by omega) ?_
  exact K ρ ids ty P1 _ hv2
theorem lw_deadlocks (h9 : (gl Γ0).stackTraces = false) (hL : (gs Γ0).1 ≤ 3072) (rng : ∀ j, inR ((gs Γ0).2 j)) (i0 : 0 ≤ i) (i1 : i + 6 ≤ ((gs Γ0).1 : Int)) (hcc : c + 20 ≤ 601024) (hss : s + 1200 ≤ 7293034) (hv : INV (gX Γ0 ρ ids ty) P I) (K : NX Γ0 c s i Z) : XE none Γ0 (gX Γ0 ρ ids ty) mLAW c s 1029 (al0 i) [] P I Z := by
  obtain ⟨S, hi, hc⟩ := hv
  have o1 := LM_ob hi.1
  have o21 := hc.2.2.2.2.1
  have o30 : Ob (gX Γ0 ρ ids ty) 30 (.inl 5) := cb_ob hc.1
  have rC : c ≤ mLAW.2.2.2.2.2.cells ∧ s ≤ mLAW.2.2.2.2.2.slots := ⟨by show c ≤ 601024; omega, by show s ≤ 7293034; omega⟩
  have rC2 : c + 14 ≤ mLAW.2.2.2.2.2.cells ∧ s + 1100 ≤ mLAW.2.2.2.2.2.slots := ⟨by show c + 14 ≤ 601024; omega, by show s + 1100 ≤ 7293034; omega⟩
  have k1 : 0 ≤ i + 1 ∧ i + 1 < ((gs Γ0).1 : Int) := ⟨by omega, by omega⟩
  have k2 : 0 ≤ i + 2 ∧ i + 2 < ((gs Γ0).1 : Int) := ⟨by omega, by omega⟩
  have hL2 : (gs Γ0).1 < 2147483648 := by omega
  obtain ⟨kk, val, S2, hkk, hbv, hcw, hrr⟩ := s_deadlocks (Γ := gX Γ0 ρ ids ty) h9 hi hc (rng (i + 1).toNat) (rng (i + 2).toNat)
  refine y_aload_n 1 dL_law_1029 rfl ?_
  refine y_aload_n 0 dL_law_1030 rfl ?_
  refine y_iload 4 dL_law_1031 rfl ?_
  refine y_iconst dL_law_1033 ?_
  refine y_iadd dL_law_1034 ?_
  refine y_sld dL_law_1035 k1.1 k1.2 hL2 ?_
  refine y_aload_n 0 dL_law_1036 rfl ?_
  refine y_iload 4 dL_law_1037 rfl ?_
  refine y_iconst dL_law_1039 ?_
  refine y_iadd dL_law_1040 ?_
  refine y_sld dL_law_1041 k2.1 k2.2 hL2 ?_
  refine y_aload_n 3 dL_law_1042 rfl ?_
  refine y_callW (μ := mLAW) dL_law_1043 hcw kW_deadlocks mlL_155 ⟨Nat.le_of_ble_eq_true rfl, Nat.le_of_ble_eq_true rfl⟩ rfl (rfs_650 (rfs_l o30 (rfs_l o1 (rfs_l o21 (rfs_li rfs_nil))))) (Nat.le_of_ble_eq_true rfl) rC2 _ rfl (fun ρ1 id1 ty1 v P1 J kp hq => ?_)
  obtain ⟨rfl, kp1, fP, fJ, ho, hic⟩ := hq
  have hj := hi.kp kp1 fP fJ
  have o21b := hic.2.2.2.2.1
  refine y_istore dL_law_1046 rfl rfl (by decide) ?_
  refine y_aload_n 2 dL_law_1048 rfl ?_
  refine y_aload_n 0 dL_law_1049 rfl ?_
  refine y_iload 4 dL_law_1050 rfl ?_
  refine y_iconst dL_law_1052 ?_
  refine y_iadd dL_law_1053 ?_
  refine y_sld dL_law_1054 k1.1 k1.2 hL2 ?_
  refine y_aload_n 0 dL_law_1055 rfl ?_
  refine y_iload 4 dL_law_1056 rfl ?_
  refine y_iconst dL_law_1058 ?_
  refine y_iadd dL_law_1059 ?_
  refine y_sld dL_law_1060 k2.1 k2.2 hL2 ?_
  refine y_Vi (μ := mLAW) dL_law_1061 (hrr _ P1 J hj) k_X6_deadlocks mlL_157 ⟨Nat.le_of_ble_eq_true rfl, Nat.le_of_ble_eq_true rfl⟩ ⟨rfl, rfl⟩ rC2 rfl (LM_ob hj.1) rfl (Nat.le_of_ble_eq_true rfl) _ rfl (fun z J2 hq => ?_)
  obtain ⟨g1, g2, g3, hj2⟩ := hq
  have hv2 : INV (gX (gX Γ0 ρ ids ty) ρ1 id1 ty1) P1 J2 := ⟨S2, hj2, hic.kp g1⟩
  have e21 : J2 21 0 = J 21 0 := by rw [g1 21 (Nat.le_refl _)]
  refine y_istore dL_law_1064 rfl rfl (by decide) ?_
  refine y_aload_n 2 dL_law_1066 rfl ?_
  refine y_Vi (μ := mLAW) dL_law_1067 (t_thr hj2.1 g2) k_X6_thrown mlL_87 ⟨Nat.le_of_ble_eq_true rfl, Nat.le_of_ble_eq_true rfl⟩ ⟨rfl, rfl⟩ rC2 rfl (LM_ob hj2.1) rfl (Nat.le_of_ble_eq_true rfl) _ rfl (fun z2 J3 hq => ?_)
  obtain ⟨hz2, hJ3⟩ := hq
  have hz2 := hz2.symm
  subst hz2
  subst hJ3
  refine y_iload 5 dL_law_1070 rfl ?_
  refine y_icmpS 1077 dL_law_1072 (by decide) ?_
  refine y_iload 5 dL_law_1077 rfl ?_
  have hk3 : kk = 0 ∨ kk ≠ 0 := by omega
  have hkr : inR kk := ⟨by omega, by omega⟩
  refine y_if_ne 1101 dL_law_1079 (by decide) hkr (fun hne => ?_) (fun heq => ?_)
  · skip
    refine y_goto 1509 dL_law_1101 (by decide) ?_
    refine y_sub [0, 1, 2, 3, 4] rfl ?_
    refine y_wid (c2 := c + 20) (s2 := s + 1200) (by show c + 14 ≤ c + 20; omega) (by show s + 1100 ≤ s + 1200; omega) ?_
    exact K ρ1 id1 ty1 P1 _ hv2
  · have ez := g3 heq
    subst ez
    have eo := ho heq
    refine y_aload_n 3 dL_law_1082 rfl ?_
    refine y_iconst dL_law_1083 ?_
    refine y_lald dL_law_1084 o21b (by decide) (by decide) (by decide) ?_
    rw [show J3 21 (0 : Int).toNat = w32 z from e21.trans eo]
    refine y_iload 6 dL_law_1085 rfl ?_
    rcases hbv with rfl | rfl
    · refine y_if_eq 1094 dL_law_1087 (by decide) ⟨by decide, by decide⟩ (fun _ => ?_) (fun z9 => absurd rfl z9)
      refine y_lconst 0 dL_law_1094 rfl ?_
      rw [show w32 0 = 0 from rfl]
      refine y_lcmpS dL_law_1095 ?_
      refine y_if_eq 1101 dL_law_1096 (by decide) ⟨by decide, by decide⟩ (fun _ => ?_) (fun z9 => absurd rfl z9)
      refine y_goto 1509 dL_law_1101 (by decide) ?_
      refine y_sub [0, 1, 2, 3, 4] rfl ?_
      refine y_wid (c2 := c + 20) (s2 := s + 1200) (by show c + 14 ≤ c + 20; omega) (by show s + 1100 ≤ s + 1200; omega) ?_
      exact K ρ1 id1 ty1 P1 _ hv2
    · refine y_if_eq 1094 dL_law_1087 (by decide) ⟨by decide, by decide⟩ (fun z9 => absurd z9 (by decide)) (fun _ => ?_)
      refine y_lconst 1 dL_law_1090 rfl ?_
      refine y_goto 1095 dL_law_1091 (by decide) ?_
      rw [show w32 1 = 1 from rfl]
      refine y_lcmpS dL_law_1095 ?_
      refine y_if_eq 1101 dL_law_1096 (by decide) ⟨by decide, by decide⟩ (fun _ => ?_) (fun z9 => absurd rfl z9)
      refine y_goto 1509 dL_law_1101 (by decide) ?_
      refine y_sub [0, 1, 2, 3, 4] rfl ?_
      refine y_wid (c2 := c + 20) (s2 := s + 1200) (by show c + 14 ≤ c + 20; omega) (by show s + 1100 ≤ s + 1200; omega) ?_
      exact K ρ1 id1 ty1 P1 _ hv2
theorem lw_makespanAfter (h9 : (gl Γ0).stackTraces = false) (hL : (gs Γ0).1 ≤ 3072) (rng : ∀ j, inR ((gs Γ0).2 j)) (i0 : 0 ≤ i) (i1 : i + 6 ≤ ((gs Γ0).1 : Int)) (hcc : c + 20 ≤ 601024) (hss : s + 1200 ≤ 7293034) (hv : INV (gX Γ0 ρ ids ty) P I) (K : NX Γ0 c s i Z) : XE none Γ0 (gX Γ0 ρ ids ty) mLAW c s 1104 (al0 i) [] P I Z := by
  obtain ⟨S, hi, hc⟩ := hv
  have o1 := LM_ob hi.1
  have o21 := hc.2.2.2.2.1
  have o30 : Ob (gX Γ0 ρ ids ty) 30 (.inl 5) := cb_ob hc.1
  have rC : c ≤ mLAW.2.2.2.2.2.cells ∧ s ≤ mLAW.2.2.2.2.2.slots := ⟨by show c ≤ 601024; omega, by show s ≤ 7293034; omega⟩
  have rC2 : c + 14 ≤ mLAW.2.2.2.2.2.cells ∧ s + 1100 ≤ mLAW.2.2.2.2.2.slots := ⟨by show c + 14 ≤ 601024; omega, by show s + 1100 ≤ 7293034; omega⟩
  have k1 : 0 ≤ i + 1 ∧ i + 1 < ((gs Γ0).1 : Int) := ⟨by omega, by omega⟩
  have k2 : 0 ≤ i + 2 ∧ i + 2 < ((gs Γ0).1 : Int) := ⟨by omega, by omega⟩
  have hL2 : (gs Γ0).1 < 2147483648 := by omega
  obtain ⟨kk, val, S2, hkk, hcw, hrr⟩ := s_makespanAfter (Γ := gX Γ0 ρ ids ty) h9 hi hc (rng (i + 1).toNat) (rng (i + 2).toNat)
  refine y_aload_n 1 dL_law_1104 rfl ?_
  refine y_aload_n 0 dL_law_1105 rfl ?_
  refine y_iload 4 dL_law_1106 rfl ?_
  refine y_iconst dL_law_1108 ?_
  refine y_iadd dL_law_1109 ?_
  refine y_sld dL_law_1110 k1.1 k1.2 hL2 ?_
  refine y_aload_n 0 dL_law_1111 rfl ?_
  refine y_iload 4 dL_law_1112 rfl ?_
  refine y_iconst dL_law_1114 ?_
  refine y_iadd dL_law_1115 ?_
  refine y_sld dL_law_1116 k2.1 k2.2 hL2 ?_
  refine y_aload_n 3 dL_law_1117 rfl ?_
  refine y_callW (μ := mLAW) dL_law_1118 hcw kW_makespanAfter mlL_158 ⟨Nat.le_of_ble_eq_true rfl, Nat.le_of_ble_eq_true rfl⟩ rfl (rfs_650 (rfs_l o30 (rfs_l o1 (rfs_l o21 (rfs_li rfs_nil))))) (Nat.le_of_ble_eq_true rfl) rC2 _ rfl (fun ρ1 id1 ty1 v P1 J kp hq => ?_)
  obtain ⟨rfl, kp1, fP, fJ, ho, hic⟩ := hq
  have hj := hi.kp kp1 fP fJ
  have o21b := hic.2.2.2.2.1
  refine y_istore dL_law_1121 rfl rfl (by decide) ?_
  refine y_aload_n 2 dL_law_1123 rfl ?_
  refine y_aload_n 0 dL_law_1124 rfl ?_
  refine y_iload 4 dL_law_1125 rfl ?_
  refine y_iconst dL_law_1127 ?_
  refine y_iadd dL_law_1128 ?_
  refine y_sld dL_law_1129 k1.1 k1.2 hL2 ?_
  refine y_aload_n 0 dL_law_1130 rfl ?_
  refine y_iload 4 dL_law_1131 rfl ?_
  refine y_iconst dL_law_1133 ?_
  refine y_iadd dL_law_1134 ?_
  refine y_sld dL_law_1135 k2.1 k2.2 hL2 ?_
  refine y_Vi (μ := mLAW) dL_law_1136 (hrr _ P1 J hj) k_X6_makespanAfter mlL_160 ⟨Nat.le_of_ble_eq_true rfl, Nat.le_of_ble_eq_true rfl⟩ ⟨rfl, rfl⟩ rC2 rfl (LM_ob hj.1) rfl (Nat.le_of_ble_eq_true rfl) _ rfl (fun z J2 hq => ?_)
  obtain ⟨g1, g2, g3, hj2⟩ := hq
  have hv2 : INV (gX (gX Γ0 ρ ids ty) ρ1 id1 ty1) P1 J2 := ⟨S2, hj2, hic.kp g1⟩
  have e21 : J2 21 0 = J 21 0 := by rw [g1 21 (Nat.le_refl _)]
  refine y_istore dL_law_1139 rfl rfl (by decide) ?_
  refine y_aload_n 2 dL_law_1141 rfl ?_
  refine y_Vi (μ := mLAW) dL_law_1142 (t_thr hj2.1 g2) k_X6_thrown mlL_87 ⟨Nat.le_of_ble_eq_true rfl, Nat.le_of_ble_eq_true rfl⟩ ⟨rfl, rfl⟩ rC2 rfl (LM_ob hj2.1) rfl (Nat.le_of_ble_eq_true rfl) _ rfl (fun z2 J3 hq => ?_)
  obtain ⟨hz2, hJ3⟩ := hq
  have hz2 := hz2.symm
  subst hz2
  subst hJ3
  refine y_iload 5 dL_law_1145 rfl ?_
  refine y_icmpS 1152 dL_law_1147 (by decide) ?_
  refine y_iload 5 dL_law_1152 rfl ?_
  have hk3 : kk = 0 ∨ kk ≠ 0 := by omega
  have hkr : inR kk := ⟨by omega, by omega⟩
  refine y_if_ne 1169 dL_law_1154 (by decide) hkr (fun hne => ?_) (fun heq => ?_)
  · skip
    refine y_goto 1509 dL_law_1169 (by decide) ?_
    refine y_sub [0, 1, 2, 3, 4] rfl ?_
    refine y_wid (c2 := c + 20) (s2 := s + 1200) (by show c + 14 ≤ c + 20; omega) (by show s + 1100 ≤ s + 1200; omega) ?_
    exact K ρ1 id1 ty1 P1 _ hv2
  · have ez := g3 heq
    subst ez
    have eo := ho heq
    refine y_aload_n 3 dL_law_1157 rfl ?_
    refine y_iconst dL_law_1158 ?_
    refine y_lald dL_law_1159 o21b (by decide) (by decide) (by decide) ?_
    rw [show J3 21 (0 : Int).toNat = w32 z from e21.trans eo]
    refine y_iload 6 dL_law_1160 rfl ?_
    refine y_i2lW dL_law_1162 ?_
    refine y_lcmpS dL_law_1163 ?_
    refine y_if_eq 1169 dL_law_1164 (by decide) ⟨by decide, by decide⟩ (fun _ => ?_) (fun z9 => absurd rfl z9)
    refine y_goto 1509 dL_law_1169 (by decide) ?_
    refine y_sub [0, 1, 2, 3, 4] rfl ?_
    refine y_wid (c2 := c + 20) (s2 := s + 1200) (by show c + 14 ≤ c + 20; omega) (by show s + 1100 ≤ s + 1200; omega) ?_
    exact K ρ1 id1 ty1 P1 _ hv2
theorem lw_bestSwap (h9 : (gl Γ0).stackTraces = false) (hL : (gs Γ0).1 ≤ 3072) (rng : ∀ j, inR ((gs Γ0).2 j)) (i0 : 0 ≤ i) (i1 : i + 6 ≤ ((gs Γ0).1 : Int)) (hcc : c + 20 ≤ 601024) (hss : s + 1200 ≤ 7293034) (hv : INV (gX Γ0 ρ ids ty) P I) (K : NX Γ0 c s i Z) : XE none Γ0 (gX Γ0 ρ ids ty) mLAW c s 1172 (al0 i) [] P I Z := by
  obtain ⟨S, hi, hc⟩ := hv
  have o1 := LM_ob hi.1
  have o21 := hc.2.2.2.2.1
  have o30 : Ob (gX Γ0 ρ ids ty) 30 (.inl 5) := cb_ob hc.1
  have rC : c ≤ mLAW.2.2.2.2.2.cells ∧ s ≤ mLAW.2.2.2.2.2.slots := ⟨by show c ≤ 601024; omega, by show s ≤ 7293034; omega⟩
  have rC2 : c + 14 ≤ mLAW.2.2.2.2.2.cells ∧ s + 1100 ≤ mLAW.2.2.2.2.2.slots := ⟨by show c + 14 ≤ 601024; omega, by show s + 1100 ≤ 7293034; omega⟩
  have hL2 : (gs Γ0).1 < 2147483648 := by omega
  obtain ⟨val, S2, hcw, hrr⟩ := s_bestSwap hi hc 
  refine y_aload_n 1 dL_law_1172 rfl ?_
  refine y_Vpi (μ := mLAW) dL_law_1173 hcw k_X5_bestSwap mlL_161 ⟨Nat.le_of_ble_eq_true rfl, Nat.le_of_ble_eq_true rfl⟩ ⟨rfl, rfl⟩ rC rfl o30 rfl (Nat.le_of_ble_eq_true rfl) _ rfl (fun z1 P1 J hq => ?_)
  obtain ⟨ez, fP, fJ, hic⟩ := hq
  subst ez
  have hj := hi.kp Kp.rf fP fJ
  refine y_aload_n 2 dL_law_1176 rfl ?_
  refine y_Vi (μ := mLAW) dL_law_1177 (hrr _ P1 J hj) k_X6_bestSwap mlL_164 ⟨Nat.le_of_ble_eq_true rfl, Nat.le_of_ble_eq_true rfl⟩ ⟨rfl, rfl⟩ rC rfl (LM_ob hj.1) rfl (Nat.le_of_ble_eq_true rfl) _ rfl (fun z J2 hq => ?_)
  obtain ⟨g1, g2, g3, hj2⟩ := hq
  have hv2 : INV (gX Γ0 ρ ids ty) P1 J2 := ⟨S2, hj2, hic.kp g1⟩
  have ez := g3 rfl
  subst ez
  refine y_icmpS 1509 dL_law_1180 (by decide) ?_
  refine y_wid (c2 := c + 20) (s2 := s + 1200) (by omega) (by omega) ?_
  exact K ρ ids ty P1 _ hv2
theorem lw_swap (h9 : (gl Γ0).stackTraces = false) (hL : (gs Γ0).1 ≤ 3072) (rng : ∀ j, inR ((gs Γ0).2 j)) (i0 : 0 ≤ i) (i1 : i + 6 ≤ ((gs Γ0).1 : Int)) (hcc : c + 20 ≤ 601024) (hss : s + 1200 ≤ 7293034) (hv : INV (gX Γ0 ρ ids ty) P I) (K : NX Γ0 c s i Z) : XE none Γ0 (gX Γ0 ρ ids ty) mLAW c s 1185 (al0 i) [] P I Z := by
  obtain ⟨S, hi, hc⟩ := hv
  have o1 := LM_ob hi.1
  have o21 := hc.2.2.2.2.1
  have o30 : Ob (gX Γ0 ρ ids ty) 30 (.inl 5) := cb_ob hc.1
  have rC : c ≤ mLAW.2.2.2.2.2.cells ∧ s ≤ mLAW.2.2.2.2.2.slots := ⟨by show c ≤ 601024; omega, by show s ≤ 7293034; omega⟩
  have rC2 : c + 14 ≤ mLAW.2.2.2.2.2.cells ∧ s + 1100 ≤ mLAW.2.2.2.2.2.slots := ⟨by show c + 14 ≤ 601024; omega, by show s + 1100 ≤ 7293034; omega⟩
  have k1 : 0 ≤ i + 1 ∧ i + 1 < ((gs Γ0).1 : Int) := ⟨by omega, by omega⟩
  have k2 : 0 ≤ i + 2 ∧ i + 2 < ((gs Γ0).1 : Int) := ⟨by omega, by omega⟩
  have hL2 : (gs Γ0).1 < 2147483648 := by omega
  obtain ⟨kk, val, S2, hkk, hcw, hrr⟩ := s_swap (Γ := gX Γ0 ρ ids ty) h9 hi hc (rng (i + 1).toNat) (rng (i + 2).toNat)
  refine y_aload_n 1 dL_law_1185 rfl ?_
  refine y_aload_n 0 dL_law_1186 rfl ?_
  refine y_iload 4 dL_law_1187 rfl ?_
  refine y_iconst dL_law_1189 ?_
  refine y_iadd dL_law_1190 ?_
  refine y_sld dL_law_1191 k1.1 k1.2 hL2 ?_
  refine y_aload_n 0 dL_law_1192 rfl ?_
  refine y_iload 4 dL_law_1193 rfl ?_
  refine y_iconst dL_law_1195 ?_
  refine y_iadd dL_law_1196 ?_
  refine y_sld dL_law_1197 k2.1 k2.2 hL2 ?_
  refine y_aload_n 3 dL_law_1198 rfl ?_
  refine y_callW (μ := mLAW) dL_law_1199 hcw kW_swap mlL_165 ⟨Nat.le_of_ble_eq_true rfl, Nat.le_of_ble_eq_true rfl⟩ rfl (rfs_650 (rfs_l o30 (rfs_l o1 (rfs_l o21 (rfs_li rfs_nil))))) (Nat.le_of_ble_eq_true rfl) rC2 _ rfl (fun ρ1 id1 ty1 v P1 J kp hq => ?_)
  obtain ⟨rfl, kp1, fP, fJ, ho, hic⟩ := hq
  have hj := hi.kp kp1 fP fJ
  have o21b := hic.2.2.2.2.1
  refine y_istore dL_law_1202 rfl rfl (by decide) ?_
  refine y_aload_n 2 dL_law_1204 rfl ?_
  refine y_aload_n 0 dL_law_1205 rfl ?_
  refine y_iload 4 dL_law_1206 rfl ?_
  refine y_iconst dL_law_1208 ?_
  refine y_iadd dL_law_1209 ?_
  refine y_sld dL_law_1210 k1.1 k1.2 hL2 ?_
  refine y_aload_n 0 dL_law_1211 rfl ?_
  refine y_iload 4 dL_law_1212 rfl ?_
  refine y_iconst dL_law_1214 ?_
  refine y_iadd dL_law_1215 ?_
  refine y_sld dL_law_1216 k2.1 k2.2 hL2 ?_
  refine y_Vi (μ := mLAW) dL_law_1217 (hrr _ P1 J hj) k_X6_swap mlL_167 ⟨Nat.le_of_ble_eq_true rfl, Nat.le_of_ble_eq_true rfl⟩ ⟨rfl, rfl⟩ rC2 rfl (LM_ob hj.1) rfl (Nat.le_of_ble_eq_true rfl) _ rfl (fun z J2 hq => ?_)
  obtain ⟨g1, g2, g3, hj2⟩ := hq
  have hv2 : INV (gX (gX Γ0 ρ ids ty) ρ1 id1 ty1) P1 J2 := ⟨S2, hj2, hic.kp g1⟩
  have e21 : J2 21 0 = J 21 0 := by rw [g1 21 (Nat.le_refl _)]
  refine y_istore dL_law_1220 rfl rfl (by decide) ?_
  refine y_aload_n 2 dL_law_1222 rfl ?_
  refine y_Vi (μ := mLAW) dL_law_1223 (t_thr hj2.1 g2) k_X6_thrown mlL_87 ⟨Nat.le_of_ble_eq_true rfl, Nat.le_of_ble_eq_true rfl⟩ ⟨rfl, rfl⟩ rC2 rfl (LM_ob hj2.1) rfl (Nat.le_of_ble_eq_true rfl) _ rfl (fun z2 J3 hq => ?_)
  obtain ⟨hz2, hJ3⟩ := hq
  have hz2 := hz2.symm
  subst hz2
  subst hJ3
  refine y_iload 5 dL_law_1226 rfl ?_
  refine y_icmpS 1233 dL_law_1228 (by decide) ?_
  refine y_iload 5 dL_law_1233 rfl ?_
  have hk3 : kk = 0 ∨ kk ≠ 0 := by omega
  have hkr : inR kk := ⟨by omega, by omega⟩
  refine y_if_ne 1250 dL_law_1235 (by decide) hkr (fun hne => ?_) (fun heq => ?_)
  · skip
    refine y_goto 1509 dL_law_1250 (by decide) ?_
    refine y_sub [0, 1, 2, 3, 4] rfl ?_
    refine y_wid (c2 := c + 20) (s2 := s + 1200) (by show c + 14 ≤ c + 20; omega) (by show s + 1100 ≤ s + 1200; omega) ?_
    exact K ρ1 id1 ty1 P1 _ hv2
  · have ez := g3 heq
    subst ez
    have eo := ho heq
    refine y_aload_n 3 dL_law_1238 rfl ?_
    refine y_iconst dL_law_1239 ?_
    refine y_lald dL_law_1240 o21b (by decide) (by decide) (by decide) ?_
    rw [show J3 21 (0 : Int).toNat = w32 z from e21.trans eo]
    refine y_iload 6 dL_law_1241 rfl ?_
    refine y_i2lW dL_law_1243 ?_
    refine y_lcmpS dL_law_1244 ?_
    refine y_if_eq 1250 dL_law_1245 (by decide) ⟨by decide, by decide⟩ (fun _ => ?_) (fun z9 => absurd rfl z9)
    refine y_goto 1509 dL_law_1250 (by decide) ?_
    refine y_sub [0, 1, 2, 3, 4] rfl ?_
    refine y_wid (c2 := c + 20) (s2 := s + 1200) (by show c + 14 ≤ c + 20; omega) (by show s + 1100 ≤ s + 1200; omega) ?_
    exact K ρ1 id1 ty1 P1 _ hv2
theorem lw_improve (h9 : (gl Γ0).stackTraces = false) (hL : (gs Γ0).1 ≤ 3072) (rng : ∀ j, inR ((gs Γ0).2 j)) (i0 : 0 ≤ i) (i1 : i + 6 ≤ ((gs Γ0).1 : Int)) (hcc : c + 20 ≤ 601024) (hss : s + 1200 ≤ 7293034) (hv : INV (gX Γ0 ρ ids ty) P I) (K : NX Γ0 c s i Z) : XE none Γ0 (gX Γ0 ρ ids ty) mLAW c s 1253 (al0 i) [] P I Z := by
  obtain ⟨S, hi, hc⟩ := hv
  have o1 := LM_ob hi.1
  have o21 := hc.2.2.2.2.1
  have o30 : Ob (gX Γ0 ρ ids ty) 30 (.inl 5) := cb_ob hc.1
  have rC : c ≤ mLAW.2.2.2.2.2.cells ∧ s ≤ mLAW.2.2.2.2.2.slots := ⟨by show c ≤ 601024; omega, by show s ≤ 7293034; omega⟩
  have rC2 : c + 14 ≤ mLAW.2.2.2.2.2.cells ∧ s + 1100 ≤ mLAW.2.2.2.2.2.slots := ⟨by show c + 14 ≤ 601024; omega, by show s + 1100 ≤ 7293034; omega⟩
  have k1 : 0 ≤ i + 1 ∧ i + 1 < ((gs Γ0).1 : Int) := ⟨by omega, by omega⟩
  have hL2 : (gs Γ0).1 < 2147483648 := by omega
  obtain ⟨kk, val, S2, hkk, hcw, hrr⟩ := s_improve (Γ := gX Γ0 ρ ids ty) h9 hi hc (rng (i + 1).toNat)
  refine y_aload_n 1 dL_law_1253 rfl ?_
  refine y_aload_n 0 dL_law_1254 rfl ?_
  refine y_iload 4 dL_law_1255 rfl ?_
  refine y_iconst dL_law_1257 ?_
  refine y_iadd dL_law_1258 ?_
  refine y_sld dL_law_1259 k1.1 k1.2 hL2 ?_
  refine y_aload_n 3 dL_law_1260 rfl ?_
  refine y_callW (μ := mLAW) dL_law_1261 hcw kW_improve mlL_168 ⟨Nat.le_of_ble_eq_true rfl, Nat.le_of_ble_eq_true rfl⟩ rfl (rfs_650 (rfs_l o30 (rfs_l o1 (rfs_l o21 (rfs_li rfs_nil))))) (Nat.le_of_ble_eq_true rfl) rC2 _ rfl (fun ρ1 id1 ty1 v P1 J kp hq => ?_)
  obtain ⟨rfl, kp1, fP, fJ, ho, hic⟩ := hq
  have hj := hi.kp kp1 fP fJ
  have o21b := hic.2.2.2.2.1
  refine y_istore dL_law_1264 rfl rfl (by decide) ?_
  refine y_aload_n 2 dL_law_1266 rfl ?_
  refine y_aload_n 0 dL_law_1267 rfl ?_
  refine y_iload 4 dL_law_1268 rfl ?_
  refine y_iconst dL_law_1270 ?_
  refine y_iadd dL_law_1271 ?_
  refine y_sld dL_law_1272 k1.1 k1.2 hL2 ?_
  refine y_Vi (μ := mLAW) dL_law_1273 (hrr _ P1 J hj) k_X6_improve mlL_170 ⟨Nat.le_of_ble_eq_true rfl, Nat.le_of_ble_eq_true rfl⟩ ⟨rfl, rfl⟩ rC2 rfl (LM_ob hj.1) rfl (Nat.le_of_ble_eq_true rfl) _ rfl (fun z J2 hq => ?_)
  obtain ⟨g1, g2, g3, hj2⟩ := hq
  have hv2 : INV (gX (gX Γ0 ρ ids ty) ρ1 id1 ty1) P1 J2 := ⟨S2, hj2, hic.kp g1⟩
  have e21 : J2 21 0 = J 21 0 := by rw [g1 21 (Nat.le_refl _)]
  refine y_istore dL_law_1276 rfl rfl (by decide) ?_
  refine y_aload_n 2 dL_law_1278 rfl ?_
  refine y_Vi (μ := mLAW) dL_law_1279 (t_thr hj2.1 g2) k_X6_thrown mlL_87 ⟨Nat.le_of_ble_eq_true rfl, Nat.le_of_ble_eq_true rfl⟩ ⟨rfl, rfl⟩ rC2 rfl (LM_ob hj2.1) rfl (Nat.le_of_ble_eq_true rfl) _ rfl (fun z2 J3 hq => ?_)
  obtain ⟨hz2, hJ3⟩ := hq
  have hz2 := hz2.symm
  subst hz2
  subst hJ3
  refine y_iload 5 dL_law_1282 rfl ?_
  refine y_icmpS 1289 dL_law_1284 (by decide) ?_
  refine y_iload 5 dL_law_1289 rfl ?_
  have hk3 : kk = 0 ∨ kk ≠ 0 := by omega
  have hkr : inR kk := ⟨by omega, by omega⟩
  refine y_if_ne 1306 dL_law_1291 (by decide) hkr (fun hne => ?_) (fun heq => ?_)
  · skip
    refine y_goto 1509 dL_law_1306 (by decide) ?_
    refine y_sub [0, 1, 2, 3, 4] rfl ?_
    refine y_wid (c2 := c + 20) (s2 := s + 1200) (by show c + 14 ≤ c + 20; omega) (by show s + 1100 ≤ s + 1200; omega) ?_
    exact K ρ1 id1 ty1 P1 _ hv2
  · have ez := g3 heq
    subst ez
    have eo := ho heq
    refine y_aload_n 3 dL_law_1294 rfl ?_
    refine y_iconst dL_law_1295 ?_
    refine y_lald dL_law_1296 o21b (by decide) (by decide) (by decide) ?_
    rw [show J3 21 (0 : Int).toNat = w32 z from e21.trans eo]
    refine y_iload 6 dL_law_1297 rfl ?_
    refine y_i2lW dL_law_1299 ?_
    refine y_lcmpS dL_law_1300 ?_
    refine y_if_eq 1306 dL_law_1301 (by decide) ⟨by decide, by decide⟩ (fun _ => ?_) (fun z9 => absurd rfl z9)
    refine y_goto 1509 dL_law_1306 (by decide) ?_
    refine y_sub [0, 1, 2, 3, 4] rfl ?_
    refine y_wid (c2 := c + 20) (s2 := s + 1200) (by show c + 14 ≤ c + 20; omega) (by show s + 1100 ≤ s + 1200; omega) ?_
    exact K ρ1 id1 ty1 P1 _ hv2
theorem lw_place (h9 : (gl Γ0).stackTraces = false) (hL : (gs Γ0).1 ≤ 3072) (rng : ∀ j, inR ((gs Γ0).2 j)) (i0 : 0 ≤ i) (i1 : i + 6 ≤ ((gs Γ0).1 : Int)) (hcc : c + 20 ≤ 601024) (hss : s + 1200 ≤ 7293034) (hv : INV (gX Γ0 ρ ids ty) P I) (K : NX Γ0 c s i Z) : XE none Γ0 (gX Γ0 ρ ids ty) mLAW c s 1309 (al0 i) [] P I Z := by
  obtain ⟨S, hi, hc⟩ := hv
  have o1 := LM_ob hi.1
  have o21 := hc.2.2.2.2.1
  have o30 : Ob (gX Γ0 ρ ids ty) 30 (.inl 5) := cb_ob hc.1
  have rC : c ≤ mLAW.2.2.2.2.2.cells ∧ s ≤ mLAW.2.2.2.2.2.slots := ⟨by show c ≤ 601024; omega, by show s ≤ 7293034; omega⟩
  have rC2 : c + 14 ≤ mLAW.2.2.2.2.2.cells ∧ s + 1100 ≤ mLAW.2.2.2.2.2.slots := ⟨by show c + 14 ≤ 601024; omega, by show s + 1100 ≤ 7293034; omega⟩
  have k1 : 0 ≤ i + 1 ∧ i + 1 < ((gs Γ0).1 : Int) := ⟨by omega, by omega⟩
  have k2 : 0 ≤ i + 2 ∧ i + 2 < ((gs Γ0).1 : Int) := ⟨by omega, by omega⟩
  have k3 : 0 ≤ i + 3 ∧ i + 3 < ((gs Γ0).1 : Int) := ⟨by omega, by omega⟩
  have hL2 : (gs Γ0).1 < 2147483648 := by omega
  obtain ⟨kk, val, S2, hkk, hcw, hrr⟩ := s_place (Γ := gX Γ0 ρ ids ty) h9 hi hc (rng (i + 1).toNat) (rng (i + 2).toNat) (rng (i + 3).toNat)
  refine y_aload_n 1 dL_law_1309 rfl ?_
  refine y_aload_n 0 dL_law_1310 rfl ?_
  refine y_iload 4 dL_law_1311 rfl ?_
  refine y_iconst dL_law_1313 ?_
  refine y_iadd dL_law_1314 ?_
  refine y_sld dL_law_1315 k1.1 k1.2 hL2 ?_
  refine y_aload_n 0 dL_law_1316 rfl ?_
  refine y_iload 4 dL_law_1317 rfl ?_
  refine y_iconst dL_law_1319 ?_
  refine y_iadd dL_law_1320 ?_
  refine y_sld dL_law_1321 k2.1 k2.2 hL2 ?_
  refine y_aload_n 0 dL_law_1322 rfl ?_
  refine y_iload 4 dL_law_1323 rfl ?_
  refine y_iconst dL_law_1325 ?_
  refine y_iadd dL_law_1326 ?_
  refine y_sld dL_law_1327 k3.1 k3.2 hL2 ?_
  refine y_aload_n 3 dL_law_1328 rfl ?_
  refine y_callW (μ := mLAW) dL_law_1329 hcw kW_place mlL_171 ⟨Nat.le_of_ble_eq_true rfl, Nat.le_of_ble_eq_true rfl⟩ rfl (rfs_650 (rfs_l o30 (rfs_l o1 (rfs_l o21 (rfs_li rfs_nil))))) (Nat.le_of_ble_eq_true rfl) rC2 _ rfl (fun ρ1 id1 ty1 v P1 J kp hq => ?_)
  obtain ⟨rfl, kp1, fP, fJ, ho, hic⟩ := hq
  have hj := hi.kp kp1 fP fJ
  have o21b := hic.2.2.2.2.1
  refine y_istore dL_law_1332 rfl rfl (by decide) ?_
  refine y_aload_n 2 dL_law_1334 rfl ?_
  refine y_aload_n 0 dL_law_1335 rfl ?_
  refine y_iload 4 dL_law_1336 rfl ?_
  refine y_iconst dL_law_1338 ?_
  refine y_iadd dL_law_1339 ?_
  refine y_sld dL_law_1340 k1.1 k1.2 hL2 ?_
  refine y_aload_n 0 dL_law_1341 rfl ?_
  refine y_iload 4 dL_law_1342 rfl ?_
  refine y_iconst dL_law_1344 ?_
  refine y_iadd dL_law_1345 ?_
  refine y_sld dL_law_1346 k2.1 k2.2 hL2 ?_
  refine y_aload_n 0 dL_law_1347 rfl ?_
  refine y_iload 4 dL_law_1348 rfl ?_
  refine y_iconst dL_law_1350 ?_
  refine y_iadd dL_law_1351 ?_
  refine y_sld dL_law_1352 k3.1 k3.2 hL2 ?_
  refine y_Vi (μ := mLAW) dL_law_1353 (hrr _ P1 J hj) k_X6_place mlL_173 ⟨Nat.le_of_ble_eq_true rfl, Nat.le_of_ble_eq_true rfl⟩ ⟨rfl, rfl⟩ rC2 rfl (LM_ob hj.1) rfl (Nat.le_of_ble_eq_true rfl) _ rfl (fun z J2 hq => ?_)
  obtain ⟨g1, g2, g3, hj2⟩ := hq
  have hv2 : INV (gX (gX Γ0 ρ ids ty) ρ1 id1 ty1) P1 J2 := ⟨S2, hj2, hic.kp g1⟩
  have e21 : J2 21 0 = J 21 0 := by rw [g1 21 (Nat.le_refl _)]
  refine y_istore dL_law_1356 rfl rfl (by decide) ?_
  refine y_aload_n 2 dL_law_1358 rfl ?_
  refine y_Vi (μ := mLAW) dL_law_1359 (t_thr hj2.1 g2) k_X6_thrown mlL_87 ⟨Nat.le_of_ble_eq_true rfl, Nat.le_of_ble_eq_true rfl⟩ ⟨rfl, rfl⟩ rC2 rfl (LM_ob hj2.1) rfl (Nat.le_of_ble_eq_true rfl) _ rfl (fun z2 J3 hq => ?_)
  obtain ⟨hz2, hJ3⟩ := hq
  have hz2 := hz2.symm
  subst hz2
  subst hJ3
  refine y_iload 5 dL_law_1362 rfl ?_
  refine y_icmpS 1369 dL_law_1364 (by decide) ?_
  refine y_iload 5 dL_law_1369 rfl ?_
  have hk3 : kk = 0 ∨ kk ≠ 0 := by omega
  have hkr : inR kk := ⟨by omega, by omega⟩
  refine y_if_ne 1386 dL_law_1371 (by decide) hkr (fun hne => ?_) (fun heq => ?_)
  · skip
    refine y_goto 1509 dL_law_1386 (by decide) ?_
    refine y_sub [0, 1, 2, 3, 4] rfl ?_
    refine y_wid (c2 := c + 20) (s2 := s + 1200) (by show c + 14 ≤ c + 20; omega) (by show s + 1100 ≤ s + 1200; omega) ?_
    exact K ρ1 id1 ty1 P1 _ hv2
  · have ez := g3 heq
    subst ez
    have eo := ho heq
    refine y_aload_n 3 dL_law_1374 rfl ?_
    refine y_iconst dL_law_1375 ?_
    refine y_lald dL_law_1376 o21b (by decide) (by decide) (by decide) ?_
    rw [show J3 21 (0 : Int).toNat = w32 z from e21.trans eo]
    refine y_iload 6 dL_law_1377 rfl ?_
    refine y_i2lW dL_law_1379 ?_
    refine y_lcmpS dL_law_1380 ?_
    refine y_if_eq 1386 dL_law_1381 (by decide) ⟨by decide, by decide⟩ (fun _ => ?_) (fun z9 => absurd rfl z9)
    refine y_goto 1509 dL_law_1386 (by decide) ?_
    refine y_sub [0, 1, 2, 3, 4] rfl ?_
    refine y_wid (c2 := c + 20) (s2 := s + 1200) (by show c + 14 ≤ c + 20; omega) (by show s + 1100 ≤ s + 1200; omega) ?_
    exact K ρ1 id1 ty1 P1 _ hv2
theorem lw_setDuration (h9 : (gl Γ0).stackTraces = false) (hL : (gs Γ0).1 ≤ 3072) (rng : ∀ j, inR ((gs Γ0).2 j)) (i0 : 0 ≤ i) (i1 : i + 6 ≤ ((gs Γ0).1 : Int)) (hcc : c + 20 ≤ 601024) (hss : s + 1200 ≤ 7293034) (hv : INV (gX Γ0 ρ ids ty) P I) (K : NX Γ0 c s i Z) : XE none Γ0 (gX Γ0 ρ ids ty) mLAW c s 1389 (al0 i) [] P I Z := by
  obtain ⟨S, hi, hc⟩ := hv
  have o1 := LM_ob hi.1
  have o21 := hc.2.2.2.2.1
  have o30 : Ob (gX Γ0 ρ ids ty) 30 (.inl 5) := cb_ob hc.1
  have rC : c ≤ mLAW.2.2.2.2.2.cells ∧ s ≤ mLAW.2.2.2.2.2.slots := ⟨by show c ≤ 601024; omega, by show s ≤ 7293034; omega⟩
  have rC2 : c + 14 ≤ mLAW.2.2.2.2.2.cells ∧ s + 1100 ≤ mLAW.2.2.2.2.2.slots := ⟨by show c + 14 ≤ 601024; omega, by show s + 1100 ≤ 7293034; omega⟩
  have k1 : 0 ≤ i + 1 ∧ i + 1 < ((gs Γ0).1 : Int) := ⟨by omega, by omega⟩
  have k2 : 0 ≤ i + 2 ∧ i + 2 < ((gs Γ0).1 : Int) := ⟨by omega, by omega⟩
  have k3 : 0 ≤ i + 3 ∧ i + 3 < ((gs Γ0).1 : Int) := ⟨by omega, by omega⟩
  have hL2 : (gs Γ0).1 < 2147483648 := by omega
  obtain ⟨kk, val, S2, hkk, hcw, hrr⟩ := s_setDuration (Γ := gX Γ0 ρ ids ty) h9 hi hc (rng (i + 1).toNat) (rng (i + 2).toNat) (rng (i + 3).toNat)
  refine y_aload_n 1 dL_law_1389 rfl ?_
  refine y_aload_n 0 dL_law_1390 rfl ?_
  refine y_iload 4 dL_law_1391 rfl ?_
  refine y_iconst dL_law_1393 ?_
  refine y_iadd dL_law_1394 ?_
  refine y_sld dL_law_1395 k1.1 k1.2 hL2 ?_
  refine y_aload_n 0 dL_law_1396 rfl ?_
  refine y_iload 4 dL_law_1397 rfl ?_
  refine y_iconst dL_law_1399 ?_
  refine y_iadd dL_law_1400 ?_
  refine y_sld dL_law_1401 k2.1 k2.2 hL2 ?_
  refine y_aload_n 0 dL_law_1402 rfl ?_
  refine y_iload 4 dL_law_1403 rfl ?_
  refine y_iconst dL_law_1405 ?_
  refine y_iadd dL_law_1406 ?_
  refine y_sld dL_law_1407 k3.1 k3.2 hL2 ?_
  refine y_aload_n 3 dL_law_1408 rfl ?_
  refine y_callW (μ := mLAW) dL_law_1409 hcw kW_setDuration mlL_174 ⟨Nat.le_of_ble_eq_true rfl, Nat.le_of_ble_eq_true rfl⟩ rfl (rfs_650 (rfs_l o30 (rfs_l o1 (rfs_l o21 (rfs_li rfs_nil))))) (Nat.le_of_ble_eq_true rfl) rC2 _ rfl (fun ρ1 id1 ty1 v P1 J kp hq => ?_)
  obtain ⟨rfl, kp1, fP, fJ, ho, hic⟩ := hq
  have hj := hi.kp kp1 fP fJ
  have o21b := hic.2.2.2.2.1
  refine y_istore dL_law_1412 rfl rfl (by decide) ?_
  refine y_aload_n 2 dL_law_1414 rfl ?_
  refine y_aload_n 0 dL_law_1415 rfl ?_
  refine y_iload 4 dL_law_1416 rfl ?_
  refine y_iconst dL_law_1418 ?_
  refine y_iadd dL_law_1419 ?_
  refine y_sld dL_law_1420 k1.1 k1.2 hL2 ?_
  refine y_aload_n 0 dL_law_1421 rfl ?_
  refine y_iload 4 dL_law_1422 rfl ?_
  refine y_iconst dL_law_1424 ?_
  refine y_iadd dL_law_1425 ?_
  refine y_sld dL_law_1426 k2.1 k2.2 hL2 ?_
  refine y_aload_n 0 dL_law_1427 rfl ?_
  refine y_iload 4 dL_law_1428 rfl ?_
  refine y_iconst dL_law_1430 ?_
  refine y_iadd dL_law_1431 ?_
  refine y_sld dL_law_1432 k3.1 k3.2 hL2 ?_
  refine y_Vi (μ := mLAW) dL_law_1433 (hrr _ P1 J hj) k_X6_setDuration mlL_176 ⟨Nat.le_of_ble_eq_true rfl, Nat.le_of_ble_eq_true rfl⟩ ⟨rfl, rfl⟩ rC2 rfl (LM_ob hj.1) rfl (Nat.le_of_ble_eq_true rfl) _ rfl (fun z J2 hq => ?_)
  obtain ⟨g1, g2, g3, hj2⟩ := hq
  have hv2 : INV (gX (gX Γ0 ρ ids ty) ρ1 id1 ty1) P1 J2 := ⟨S2, hj2, hic.kp g1⟩
  have e21 : J2 21 0 = J 21 0 := by rw [g1 21 (Nat.le_refl _)]
  refine y_istore dL_law_1436 rfl rfl (by decide) ?_
  refine y_aload_n 2 dL_law_1438 rfl ?_
  refine y_Vi (μ := mLAW) dL_law_1439 (t_thr hj2.1 g2) k_X6_thrown mlL_87 ⟨Nat.le_of_ble_eq_true rfl, Nat.le_of_ble_eq_true rfl⟩ ⟨rfl, rfl⟩ rC2 rfl (LM_ob hj2.1) rfl (Nat.le_of_ble_eq_true rfl) _ rfl (fun z2 J3 hq => ?_)
  obtain ⟨hz2, hJ3⟩ := hq
  have hz2 := hz2.symm
  subst hz2
  subst hJ3
  refine y_iload 5 dL_law_1442 rfl ?_
  refine y_icmpS 1449 dL_law_1444 (by decide) ?_
  refine y_iload 5 dL_law_1449 rfl ?_
  have hk3 : kk = 0 ∨ kk ≠ 0 := by omega
  have hkr : inR kk := ⟨by omega, by omega⟩
  refine y_if_ne 1466 dL_law_1451 (by decide) hkr (fun hne => ?_) (fun heq => ?_)
  · skip
    refine y_goto 1509 dL_law_1466 (by decide) ?_
    refine y_sub [0, 1, 2, 3, 4] rfl ?_
    refine y_wid (c2 := c + 20) (s2 := s + 1200) (by show c + 14 ≤ c + 20; omega) (by show s + 1100 ≤ s + 1200; omega) ?_
    exact K ρ1 id1 ty1 P1 _ hv2
  · have ez := g3 heq
    subst ez
    have eo := ho heq
    refine y_aload_n 3 dL_law_1454 rfl ?_
    refine y_iconst dL_law_1455 ?_
    refine y_lald dL_law_1456 o21b (by decide) (by decide) (by decide) ?_
    rw [show J3 21 (0 : Int).toNat = w32 z from e21.trans eo]
    refine y_iload 6 dL_law_1457 rfl ?_
    refine y_i2lW dL_law_1459 ?_
    refine y_lcmpS dL_law_1460 ?_
    refine y_if_eq 1466 dL_law_1461 (by decide) ⟨by decide, by decide⟩ (fun _ => ?_) (fun z9 => absurd rfl z9)
    refine y_goto 1509 dL_law_1466 (by decide) ?_
    refine y_sub [0, 1, 2, 3, 4] rfl ?_
    refine y_wid (c2 := c + 20) (s2 := s + 1200) (by show c + 14 ≤ c + 20; omega) (by show s + 1100 ≤ s + 1200; omega) ?_
    exact K ρ1 id1 ty1 P1 _ hv2
theorem lw_restart (h9 : (gl Γ0).stackTraces = false) (hL : (gs Γ0).1 ≤ 3072) (rng : ∀ j, inR ((gs Γ0).2 j)) (i0 : 0 ≤ i) (i1 : i + 6 ≤ ((gs Γ0).1 : Int)) (hcc : c + 20 ≤ 601024) (hss : s + 1200 ≤ 7293034) (hv : INV (gX Γ0 ρ ids ty) P I) (K : NX Γ0 c s i Z) : XE none Γ0 (gX Γ0 ρ ids ty) mLAW c s 1469 (al0 i) [] P I Z := by
  obtain ⟨S, hi, hc⟩ := hv
  have o1 := LM_ob hi.1
  have o21 := hc.2.2.2.2.1
  have o30 : Ob (gX Γ0 ρ ids ty) 30 (.inl 5) := cb_ob hc.1
  have rC : c ≤ mLAW.2.2.2.2.2.cells ∧ s ≤ mLAW.2.2.2.2.2.slots := ⟨by show c ≤ 601024; omega, by show s ≤ 7293034; omega⟩
  have rC2 : c + 14 ≤ mLAW.2.2.2.2.2.cells ∧ s + 1100 ≤ mLAW.2.2.2.2.2.slots := ⟨by show c + 14 ≤ 601024; omega, by show s + 1100 ≤ 7293034; omega⟩
  have hL2 : (gs Γ0).1 < 2147483648 := by omega
  obtain ⟨val, S2, hcw, hrr⟩ := s_restart hi hc 
  refine y_aload_n 1 dL_law_1469 rfl ?_
  refine y_Vpi (μ := mLAW) dL_law_1470 hcw k_X5_restart mlL_177 ⟨Nat.le_of_ble_eq_true rfl, Nat.le_of_ble_eq_true rfl⟩ ⟨rfl, rfl⟩ rC rfl o30 rfl (Nat.le_of_ble_eq_true rfl) _ rfl (fun z1 P1 J hq => ?_)
  obtain ⟨ez, fP, fJ, hic⟩ := hq
  subst ez
  have hj := hi.kp Kp.rf fP fJ
  refine y_aload_n 2 dL_law_1473 rfl ?_
  refine y_Vi (μ := mLAW) dL_law_1474 (hrr _ P1 J hj) k_X6_restart mlL_180 ⟨Nat.le_of_ble_eq_true rfl, Nat.le_of_ble_eq_true rfl⟩ ⟨rfl, rfl⟩ rC rfl (LM_ob hj.1) rfl (Nat.le_of_ble_eq_true rfl) _ rfl (fun z J2 hq => ?_)
  obtain ⟨g1, g2, g3, hj2⟩ := hq
  have hv2 : INV (gX Γ0 ρ ids ty) P1 J2 := ⟨S2, hj2, hic.kp g1⟩
  have ez := g3 rfl
  subst ez
  refine y_icmpS 1509 dL_law_1477 (by decide) ?_
  refine y_wid (c2 := c + 20) (s2 := s + 1200) (by omega) (by omega) ?_
  exact K ρ ids ty P1 _ hv2
theorem lw_undo (h9 : (gl Γ0).stackTraces = false) (hL : (gs Γ0).1 ≤ 3072) (rng : ∀ j, inR ((gs Γ0).2 j)) (i0 : 0 ≤ i) (i1 : i + 6 ≤ ((gs Γ0).1 : Int)) (hcc : c + 20 ≤ 601024) (hss : s + 1200 ≤ 7293034) (hv : INV (gX Γ0 ρ ids ty) P I) (K : NX Γ0 c s i Z) : XE none Γ0 (gX Γ0 ρ ids ty) mLAW c s 1482 (al0 i) [] P I Z := by
  obtain ⟨S, hi, hc⟩ := hv
  have o1 := LM_ob hi.1
  have o21 := hc.2.2.2.2.1
  have o30 : Ob (gX Γ0 ρ ids ty) 30 (.inl 5) := cb_ob hc.1
  have rC : c ≤ mLAW.2.2.2.2.2.cells ∧ s ≤ mLAW.2.2.2.2.2.slots := ⟨by show c ≤ 601024; omega, by show s ≤ 7293034; omega⟩
  have rC2 : c + 14 ≤ mLAW.2.2.2.2.2.cells ∧ s + 1100 ≤ mLAW.2.2.2.2.2.slots := ⟨by show c + 14 ≤ 601024; omega, by show s + 1100 ≤ 7293034; omega⟩
  have hL2 : (gs Γ0).1 < 2147483648 := by omega
  obtain ⟨val, S2, hcw, hrr⟩ := s_undo hi hc 
  refine y_aload_n 1 dL_law_1482 rfl ?_
  refine y_Vpi (μ := mLAW) dL_law_1483 hcw k_X5_undo mlL_181 ⟨Nat.le_of_ble_eq_true rfl, Nat.le_of_ble_eq_true rfl⟩ ⟨rfl, rfl⟩ rC rfl o30 rfl (Nat.le_of_ble_eq_true rfl) _ rfl (fun z1 P1 J hq => ?_)
  obtain ⟨ez, fP, fJ, hic⟩ := hq
  subst ez
  have hj := hi.kp Kp.rf fP fJ
  refine y_aload_n 2 dL_law_1486 rfl ?_
  refine y_Vi (μ := mLAW) dL_law_1487 (hrr _ P1 J hj) k_X6_undo mlL_184 ⟨Nat.le_of_ble_eq_true rfl, Nat.le_of_ble_eq_true rfl⟩ ⟨rfl, rfl⟩ rC rfl (LM_ob hj.1) rfl (Nat.le_of_ble_eq_true rfl) _ rfl (fun z J2 hq => ?_)
  obtain ⟨g1, g2, g3, hj2⟩ := hq
  have hv2 : INV (gX Γ0 ρ ids ty) P1 J2 := ⟨S2, hj2, hic.kp g1⟩
  have ez := g3 rfl
  subst ez
  refine y_icmpS 1509 dL_law_1490 (by decide) ?_
  refine y_wid (c2 := c + 20) (s2 := s + 1200) (by omega) (by omega) ?_
  exact K ρ ids ty P1 _ hv2
theorem lw_checksum (h9 : (gl Γ0).stackTraces = false) (hL : (gs Γ0).1 ≤ 3072) (rng : ∀ j, inR ((gs Γ0).2 j)) (i0 : 0 ≤ i) (i1 : i + 6 ≤ ((gs Γ0).1 : Int)) (hcc : c + 20 ≤ 601024) (hss : s + 1200 ≤ 7293034) (hv : INV (gX Γ0 ρ ids ty) P I) (K : NX Γ0 c s i Z) : XE none Γ0 (gX Γ0 ρ ids ty) mLAW c s 1495 (al0 i) [] P I Z := by
  obtain ⟨S, hi, hc⟩ := hv
  have o1 := LM_ob hi.1
  have o21 := hc.2.2.2.2.1
  have o30 : Ob (gX Γ0 ρ ids ty) 30 (.inl 5) := cb_ob hc.1
  have rC : c ≤ mLAW.2.2.2.2.2.cells ∧ s ≤ mLAW.2.2.2.2.2.slots := ⟨by show c ≤ 601024; omega, by show s ≤ 7293034; omega⟩
  have rC2 : c + 14 ≤ mLAW.2.2.2.2.2.cells ∧ s + 1100 ≤ mLAW.2.2.2.2.2.slots := ⟨by show c + 14 ≤ 601024; omega, by show s + 1100 ≤ 7293034; omega⟩
  have hL2 : (gs Γ0).1 < 2147483648 := by omega
  obtain ⟨val, hcw, hrr⟩ := s_checksum hi hc
  refine y_aload_n 1 dL_law_1495 rfl ?_
  refine y_Vl (μ := mLAW) dL_law_1496 hcw k_X5_checksum mlL_185 ⟨Nat.le_of_ble_eq_true rfl, Nat.le_of_ble_eq_true rfl⟩ ⟨rfl, rfl⟩ rC rfl o30 rfl (Nat.le_of_ble_eq_true rfl) _ rfl (fun z1 J hq => ?_)
  have P1e : P = P := rfl
  obtain ⟨ez, fP, fJ, hic⟩ := hq
  subst ez
  have hj := hi.kp Kp.rf fP fJ
  refine y_aload_n 2 dL_law_1499 rfl ?_
  refine y_Vl (μ := mLAW) dL_law_1500 (hrr _ P J hj) k_X6_checksum mlL_189 ⟨Nat.le_of_ble_eq_true rfl, Nat.le_of_ble_eq_true rfl⟩ ⟨rfl, rfl⟩ rC rfl (LM_ob hj.1) rfl (Nat.le_of_ble_eq_true rfl) _ rfl (fun z J2 hq => ?_)
  obtain ⟨g1, g2, g3, hj2⟩ := hq
  have hv2 : INV (gX Γ0 ρ ids ty) P J2 := ⟨S, hj2, hic.kp g1⟩
  have ez := g3 rfl
  subst ez
  refine y_lcmpS dL_law_1503 ?_
  refine y_if_eq 1509 dL_law_1504 (by decide) ⟨by decide, by decide⟩ (fun _ => ?_) (fun z9 => absurd rfl z9)
  refine y_wid (c2 := c + 20) (s2 := s + 1200) (by omega) (by omega) ?_
  exact K ρ ids ty P _ hv2
end LW
