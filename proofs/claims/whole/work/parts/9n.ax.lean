/-! MIDNIGHT: the class's most, its least next, its order -/
section MOS
variable {n : Nat} {h C : MM} {N x j i s p v t hr fr nd : Int} {A B : Int → Int} {f F : Int → Bool}
def sbm (fr x : Int) : Prop := ban x (bxo fr (-1)) = 0
def TBL (C : MM) (A B : Int → Int) (N s p x : Int) : Prop := (0 ≤ mv C 128 x ∧ mv C 128 x ≤ 1000000) ∧ ∀ h' : Int, h' < 1000000 → (mv C 128 x ≤ h' ↔ PBk A B (szF (fnm N x)).toNat s p (fnm N x) h')
theorem IsM_ins (j0 : j7 j) (Fj : F j = true) {w : Int} (W : IsM A B hr (rmv F j) (s + A j) (eoj A B s p j) w) (M : IsM A B hr F s p v) : w + 1 ≤ v := by
  obtain ⟨k, f, e, sb, sz, q⟩ := W.1
  have fj : f j = false := by
    cases c : f j with
    | false => rfl
    | true => have := (rmv_t (sb j j0 c)).2; exact absurd rfl this
  have e1 : szF (ins f j) = (k : Int) + 1 := by
    have z := szF_r (f := ins f j) j0 ins_s
    rw [ins_r fj] at z; omega
  have := M.2 (k + 1) (ins f j) (fun i i0 q' => by
    by_cases c : i = j
    · subst c; exact Fj
    · have : f i = true := by
        unfold ins at q'; rw [decide_eq_false c] at q'
        cases d : f i with
        | false => rw [d] at q'; exact absurd q' (by decide)
        | true => rfl
      exact (rmv_t (sb i i0 this)).1) (by rw [e1]; omega) ⟨j, j0, ins_s, by rw [ins_r fj]; exact q⟩
  omega
theorem sz1_f : ∀ x : Fin 128, 0 < x.val → 1 ≤ mny ((x : Nat) : Int) := by decide +kernel
theorem sz1_e (hx : 0 < x ∧ x < 128) : 1 ≤ mny x := by
  have e := sz1_f ⟨x.toNat, by omega⟩ (by show 0 < x.toNat; omega)
  rw [show (((⟨x.toNat, by omega⟩ : Fin 128) : Nat) : Int) = x from Int.toNat_of_nonneg (by omega)] at e
  exact e
theorem sbm_r (hx : 0 ≤ x ∧ x < 128) (q : sbm fr x) (j0 : j7 j) (b : ban (shr x j) 1 = 1) : sbm fr (mskr x j) := by
  have mk := mk_e hx j0 b
  unfold sbm
  rw [sub_e ⟨mk.1, by omega⟩]
  intro i hi a
  have hi' : 0 ≤ i ∧ i < 7 := hi
  rw [bit_ibt ⟨hi'.1, by omega⟩, mskr_b j0 ⟨hi'.1, by omega⟩, Bool.and_eq_true] at a
  exact (sub_e hx).mp q i hi ((bit_ibt ⟨hi'.1, by omega⟩).mpr a.1)
theorem rdyH_e (hn : 10000000 ≤ n) (P : PRS C N A B) (hx : 0 < x ∧ x < shl 1 N) (js : 0 ≤ s ∧ s ≤ 50000) (T : ∀ j : Int, j7 j → j < N → ban (shr x j) 1 = 1 → TBL C A B N s p (mskr x j)) : ∃ v, f_X6_readyHour n 124 x s C = some (v, C) ∧ (0 ≤ v ∧ v ≤ 1000000) ∧ ∀ h' : Int, h' < 1000000 → (v ≤ h' ↔ PBk A B (szF (fnm N x)).toNat s p (fnm N x) h') := by
  obtain ⟨S, hN, e2, q⟩ := id P
  have p8 := pw8_e hN
  have x128 : 0 ≤ x ∧ x < 128 := by omega
  have r1 := rdy1_l (n := n) (x := x) P (s := s) (by omega) n 0 (by omega) (by omega)
  have z0 : smk A x 0 = 0 := rfl
  rw [z0, Int.add_zero, smk_f hN] at r1
  have sb : 0 ≤ smF A (fnm N x) ∧ smF A (fnm N x) ≤ 30 * 7 := by
    have := sumI_bd (f := fun i => if fnm N x i = true then A i else 0) (B := 30) (k := 7) (fun i i0 i1 => by
      show 0 ≤ (if fnm N x i = true then A i else 0) ∧ (if fnm N x i = true then A i else 0) ≤ 30
      split
      · rename_i u
        have := q i i0 (fnm_t.mp u).1.2; omega
      · omega)
    unfold smF; omega
  obtain ⟨v, y1, y2, y3⟩ := rdy2_l (n := n) (x := x) (th := s + smF A (fnm N x)) P x128 (by omega) (fun j j0 j1 b => (T j ⟨j0, by omega⟩ j1 b).1) n 0 1000000 (by omega) hN.1 (by omega) ⟨by omega, fun h' hh => ⟨fun u => by omega, fun u => by obtain ⟨j, j0, j1, -⟩ := u; omega⟩⟩
  refine ⟨v, by rw [← y1, ← r1]; rfl, y2, fun h' hh => ?_⟩
  have sz := szm_e hN x128 hx.2
  have s1 := sz1_e (x := x) ⟨hx.1, x128.2⟩
  obtain ⟨k, hk⟩ : ∃ k : Nat, (k : Int) + 1 = szF (fnm N x) := ⟨(szF (fnm N x) - 1).toNat, by omega⟩
  rw [y3 h' hh, show (szF (fnm N x)).toNat = k + 1 by omega]
  constructor
  · rintro ⟨j, j0, j1, b, c1, c2⟩
    have j7' : j7 j := ⟨j0, by omega⟩
    have fj : fnm N x j = true := fnm_t.mpr ⟨⟨j0, j1⟩, b⟩
    have t := (T j j7' j1 b).2 (h' - B j) (by have := q j j0 j1; omega)
    rw [fnm_r hN.2 j7', szF_r j7' fj, show (szF (fnm N x) - 1).toNat = k by omega] at t
    exact ⟨j, j7', fj, c1, t.mp (by omega)⟩
  · rintro ⟨j, j7', fj, c1, c2⟩
    obtain ⟨⟨j0, j1⟩, b⟩ := fnm_t.mp fj
    have t := (T j j7' j1 b).2 (h' - B j) (by have := q j j0 j1; omega)
    rw [fnm_r hN.2 j7', szF_r j7' fj, show (szF (fnm N x) - 1).toNat = k by omega] at t
    have := t.mpr c2
    exact ⟨j, j0, j1, b, c1, by omega⟩
def F128 (a j : Int) : Prop := a = 128
theorem prs_fr {C1 : MM} (P : PRS C N A B) (FR : FrN (fun a _ => a = 127 ∨ a = 128) C C1) : PRS C1 N A B := by
  obtain ⟨S, hN, e2, q⟩ := P
  refine ⟨FR.sh (fun a j z => by rcases z with rfl | rfl <;> simp [Wok]) S, hN, by rw [FR.2 _ _ (by omega)]; exact e2, fun j j0 j1 => ?_⟩
  rw [FR.2 _ _ (by omega), FR.2 _ _ (by omega)]
  exact q j j0 j1
theorem most_l (hn : 10000000 ≤ n) (hh : hr ≤ 999) (js : 0 ≤ s ∧ s ≤ 50000) : ∀ (m : Nat) (x v : Int) (C : MM), PRS C N A B → 1 ≤ x → x ≤ shl 1 N → shl 1 N - x < (m : Int) → (∀ y : Int, 0 ≤ y → y < x → sbm fr y → TBL C A B N s p y) → 0 ≤ v → v ≤ 7 → (v = 0 ∨ ∃ y, 0 ≤ y ∧ y < x ∧ sbm fr y ∧ mv C 128 y ≤ hr ∧ szF (fnm N y) = v) → (∀ y : Int, 0 ≤ y → y < x → sbm fr y → mv C 128 y ≤ hr → szF (fnm N y) ≤ v) → ∃ C' v', f_X6_most_13 n 124 fr s hr m v x C = some (v', C') ∧ FrN (fun a _ => a = 128) C C' ∧ (∀ y : Int, 0 ≤ y → y < shl 1 N → sbm fr y → TBL C' A B N s p y) ∧ 0 ≤ v' ∧ v' ≤ 7 ∧ (v' = 0 ∨ ∃ y, 0 ≤ y ∧ y < shl 1 N ∧ sbm fr y ∧ mv C' 128 y ≤ hr ∧ szF (fnm N y) = v') ∧ (∀ y : Int, 0 ≤ y → y < shl 1 N → sbm fr y → mv C' 128 y ≤ hr → szF (fnm N y) ≤ v')
  | 0, x, v, C, P, x1, x2, m0, T, v0, v1, V1, V2 => by omega
  | m + 1, x, v, C, P, x1, x2, m0, T, v0, v1, V1, V2 => by
    obtain ⟨S, hN, e2, q⟩ := id P
    have p8 := pw8_e hN
    by_cases top : shl 1 N ≤ x
    · have e : x = shl 1 N := by omega
      subst e
      refine ⟨C, v, ?_, FrN.refl C, T, v0, v1, V1, V2⟩
      simp (disch := first | assumption | (with_reducible show Sh _; simp only [S100_2, S101_7, S101_8, S101_9, S101_10, S102_5, S103, M103, S104, M104, S105, M105, S106, M106, S107, M107, S108_6, S108_7, S108_8, S108_9, S109, M109, S110, M110, S111, M111, S112, M112, S113, M113, S114, M114, S115_8, S116, M116, S117, M117, S118, M118, S119, M119, S120, M120, S121, M121, S122, M122, S123, M123, S124_2, S125, M125, S126, M126, S127, M127, S128, M128, S130, M130, S131, M131, S132_1, S132_2, S133, M133, S134_1, S134_2, S135, M135, S136_1, S136_2, S137, M137, S138_1, S138_2, S139, M139, S140_7, S140_8, S140_9, S140_10, S141_5, S142, M142, S143, M143, S144, M144, S145, M145, S146, M146, S147_6, S147_7, S147_8, S147_9, S148, M148, S149, M149, S150, M150, S151, M151, S152, M152, S153, M153, S154_8, S155, M155, S156, M156, S157, M157, S158, M158, S159, M159, S160, M160, S161, M161, S162, M162, S163_2, S164, M164, S165, M165, S166, M166, S167, M167, S169, M169, S170, M170, S171_1, S171_2, S172, M172, S173_1, S173_2, S174, M174, S175_1, S175_2, S176, M176, S177_1, S177_2, S178, M178, S179, M179, S180_1, S180_2, S180_5, S180_6, S180_7, S180_8, S181, M181, S182, M182, S183, M183, S184_6, S185, M185, S186, M186, S187, M187, S188, M188, S189, M189, S190, M190, S191_5, S191_6, S192, M192, S193, M193, S194, M194, S195, M195, S196, M196, S197_0, S197_3, S197_4, S197_5, S197_6, S197_7, S197_13, S198, M198, S199, M199, S200, M200, S201, M201, S202, M202, S203, M203, S204, M204, S205, M205, S206, M206, S207, M207, S208, M208, S209, M209, S210, M210, S211, M211] <;> assumption) | (with_reducible show tg _ _ = _; simp only [tg_ms, tg_ma]; assumption) | (with_reducible show ln _ _ = _; simp only [ln_ms, ln_ma]; assumption) | (with_reducible show J64 _; unfold J64; omega) | (with_reducible show J _; unfold J; omega) | omega) only [↓f_X6_most_13, ↓f_X6_most_13b, ↓e2, ↓bd_i, ↓lb_i, ↓rd_i, ↓wt_i, ↓pf_i, bdi_e, lbi_e, ↓ck_t, isb_0, isb_1, ↓reduceIte, ↓if_pos, ↓if_neg, Int.reduceEq, Int.reduceLT, Int.reduceLE, Int.reduceNe, Int.reduceNeg, Int.reduceAdd, Int.reduceSub, Int.reduceMul, Int.add_sub_cancel, tg_ms, ln_ms, nx_ms, tg_ma, ln_ma, nx_ma, mv_s, mv_o, mv_ma_eq, mv_ma_ne, wrk, within_t, within_f, in_t, in_f, isCell_t, isCell_f, isHolder_t, isHolder_f, isHolderm_t, isHolderm_f, isDay_t, isDay_f, isDaym_t, isDaym_f, isSheet_t, isSheet_f, isSheetm_t, isSheetm_f,  ↓gk100, ↓g100_0, ↓g100_1, ↓g100_2, pi100_2, S100_2, ↓g100_3, ↓g100_4, ↓g100_5, ↓g100_6, ↓gk101, ↓g101_0, ↓g101_1, ↓g101_2, ↓g101_3, ↓g101_4, ↓g101_5, ↓g101_6, ↓g101_7, pi101_7, S101_7, ↓g101_8, pi101_8, S101_8, ↓g101_9, pi101_9, S101_9, ↓g101_10, pi101_10, S101_10, ↓gk102, ↓g102_0, ↓g102_1, ↓g102_2, ↓g102_3, ↓g102_4, ↓g102_5, pi102_5, S102_5, ↓al103, ri103, wi103, S103, M103, ↓al104, ri104, wi104, S104, M104, ↓al105, ri105, wi105, S105, M105, ↓al106, ri106, wi106, S106, M106, ↓al107, ri107, wi107, S107, M107, ↓gk108, ↓g108_0, ↓g108_1, ↓g108_2, ↓g108_3, ↓g108_4, ↓g108_5, ↓g108_6, pi108_6, S108_6, ↓g108_7, pi108_7, S108_7, ↓g108_8, pi108_8, S108_8, ↓g108_9, pi108_9, S108_9, ↓al109, ri109, wi109, S109, M109, ↓al110, ri110, wi110, S110, M110, ↓al111, ri111, wi111, S111, M111, ↓al112, ri112, wi112, S112, M112, ↓al113, ri113, wi113, S113, M113, ↓al114, ri114, wi114, S114, M114, ↓gk115, ↓g115_0, ↓g115_1, ↓g115_2, ↓g115_3, ↓g115_4, ↓g115_5, ↓g115_6, ↓g115_7, ↓g115_8, pi115_8, S115_8, ↓al116, ri116, wi116, S116, M116, ↓al117, ri117, wi117, S117, M117, ↓al118, ri118, wi118, S118, M118, ↓al119, ri119, wi119, S119, M119, ↓al120, ri120, wi120, S120, M120, ↓al121, ri121, wi121, S121, M121, ↓al122, ri122, wi122, S122, M122, ↓al123, ri123, wi123, S123, M123, ↓gk124, ↓g124_0, ↓g124_1, ↓g124_2, pi124_2, S124_2, ↓g124_3, ↓g124_4, ↓al125, ri125, wi125, S125, M125, ↓al126, ri126, wi126, S126, M126, ↓al127, ri127, wi127, S127, M127, ↓al128, ri128, wi128, S128, M128, ↓al129, ri129, ↓al130, ri130, wi130, S130, M130, ↓al131, ri131, wi131, S131, M131, ↓gk132, ↓g132_0, ↓g132_1, pi132_1, S132_1, ↓g132_2, pi132_2, S132_2, ↓al133, ri133, wi133, S133, M133, ↓gk134, ↓g134_0, ↓g134_1, pi134_1, S134_1, ↓g134_2, pi134_2, S134_2, ↓al135, ri135, wi135, S135, M135, ↓gk136, ↓g136_0, ↓g136_1, pi136_1, S136_1, ↓g136_2, pi136_2, S136_2, ↓al137, ri137, wi137, S137, M137, ↓gk138, ↓g138_0, ↓g138_1, pi138_1, S138_1, ↓g138_2, pi138_2, S138_2, ↓al139, ri139, wi139, S139, M139, ↓al179, ri179, wi179, S179, M179, ↓gk180, ↓g180_0, ↓g180_1, pi180_1, S180_1, ↓g180_2, pi180_2, S180_2, ↓g180_3, ↓g180_4, ↓g180_5, pi180_5, S180_5, ↓g180_6, pi180_6, S180_6, ↓g180_7, pi180_7, S180_7, ↓g180_8, pi180_8, S180_8, ↓al181, ri181, wi181, S181, M181, ↓al182, ri182, wi182, S182, M182, ↓al183, ri183, wi183, S183, M183, ↓gk184, ↓g184_0, ↓g184_1, ↓g184_2, ↓g184_3, ↓g184_4, ↓g184_5, ↓g184_6, pi184_6, S184_6, ↓al185, ri185, wi185, S185, M185, ↓al186, ri186, wi186, S186, M186, ↓al187, ri187, wi187, S187, M187, ↓al188, ri188, wi188, S188, M188, ↓al189, ri189, wi189, S189, M189, ↓al190, ri190, wi190, S190, M190, ↓gk191, ↓g191_0, ↓g191_1, ↓g191_2, ↓g191_3, ↓g191_4, ↓g191_5, pi191_5, S191_5, ↓g191_6, pi191_6, S191_6, ↓al192, ri192, wi192, S192, M192, ↓al193, ri193, wi193, S193, M193, ↓al194, ri194, wi194, S194, M194, ↓al195, ri195, wi195, S195, M195, ↓al196, ri196, wi196, S196, M196]
    have x128 : 0 ≤ x ∧ x < 128 := by omega
    by_cases sb : sbm fr x
    · obtain ⟨rv, y1, y2, y3⟩ := rdyH_e (p := p) hn P (x := x) ⟨by omega, by omega⟩ js (fun j j0 j1 b => by
        have mk := mk_e x128 j0 b
        exact T _ mk.1 mk.2 (sbm_r x128 sb j0 b))
      obtain ⟨C1, hC⟩ : ∃ C1, C1 = ms C 128 x rv := ⟨_, rfl⟩
      have F1 : FrN (fun a _ => a = 128) C C1 := by rw [hC]; exact (FrN.refl C).w rfl
      have P1 := prs_fr P (F1.mono (fun a j z => Or.inr z))
      have o1 : ∀ y, y ≠ x → mv C1 128 y = mv C 128 y := fun y yx => by rw [hC, mv_o (Or.inr yx)]
      have o2 : mv C1 128 x = rv := by rw [hC, mv_s rfl]
      have T1 : ∀ y : Int, 0 ≤ y → y < x + 1 → sbm fr y → TBL C1 A B N s p y := fun y y0 y1' sy => by
        by_cases e : y = x
        · subst e; unfold TBL; rw [o2]; exact ⟨y2, y3⟩
        · have t := T y y0 (by omega) sy
          unfold TBL at t ⊢
          rw [o1 y e]; exact t
      have sz := szm_e hN x128 (by omega)
      have szb : 0 ≤ szF (fnm N x) ∧ szF (fnm N x) ≤ 7 := by
        have := sumI_bd (f := fun i => if fnm N x i = true then (1 : Int) else 0) (B := 1) (k := 7) (fun i _ _ => by
          show 0 ≤ (if fnm N x i = true then (1 : Int) else 0) ∧ (if fnm N x i = true then (1 : Int) else 0) ≤ 1
          split <;> omega)
        unfold szF; omega
      have bc := bc_e (n := n) (h := C1) (x := x) ⟨by omega, by omega⟩
      have S1 := P1.1
      have sb' : ban x (bxo fr (-1)) = 0 := sb
      have jm := jmax_l v (mny x)
      by_cases le : rv ≤ hr
      · obtain ⟨C', v', z1, z2, z3⟩ := most_l hn hh js m (x + 1) (jmax v (mny x)) C1 P1 (by omega) (by omega) (by omega) T1 (by omega) (by omega) (by
          rcases jm.2.2 with u | u
          · rw [u]
            rcases V1 with w | ⟨y, w1, w2, w3, w4, w5⟩
            · exact Or.inl w
            · exact Or.inr ⟨y, w1, by omega, w3, by rw [o1 y (by omega)]; exact w4, w5⟩
          · rw [u]
            exact Or.inr ⟨x, by omega, by omega, sb, by rw [o2]; exact le, sz⟩) (fun y w1 w2 w3 w4 => by
          by_cases e : y = x
          · subst e; rw [sz]; exact jm.2.1
          · rw [o1 y e] at w4
            have := V2 y w1 (by omega) w3 w4
            omega)
        refine ⟨C', v', ?_, F1.trans z2, z3⟩
        rw [← z1, hC]
        rw [hC] at bc
        simp (disch := first | assumption | (with_reducible show Sh _; simp only [S100_2, S101_7, S101_8, S101_9, S101_10, S102_5, S103, M103, S104, M104, S105, M105, S106, M106, S107, M107, S108_6, S108_7, S108_8, S108_9, S109, M109, S110, M110, S111, M111, S112, M112, S113, M113, S114, M114, S115_8, S116, M116, S117, M117, S118, M118, S119, M119, S120, M120, S121, M121, S122, M122, S123, M123, S124_2, S125, M125, S126, M126, S127, M127, S128, M128, S130, M130, S131, M131, S132_1, S132_2, S133, M133, S134_1, S134_2, S135, M135, S136_1, S136_2, S137, M137, S138_1, S138_2, S139, M139, S140_7, S140_8, S140_9, S140_10, S141_5, S142, M142, S143, M143, S144, M144, S145, M145, S146, M146, S147_6, S147_7, S147_8, S147_9, S148, M148, S149, M149, S150, M150, S151, M151, S152, M152, S153, M153, S154_8, S155, M155, S156, M156, S157, M157, S158, M158, S159, M159, S160, M160, S161, M161, S162, M162, S163_2, S164, M164, S165, M165, S166, M166, S167, M167, S169, M169, S170, M170, S171_1, S171_2, S172, M172, S173_1, S173_2, S174, M174, S175_1, S175_2, S176, M176, S177_1, S177_2, S178, M178, S179, M179, S180_1, S180_2, S180_5, S180_6, S180_7, S180_8, S181, M181, S182, M182, S183, M183, S184_6, S185, M185, S186, M186, S187, M187, S188, M188, S189, M189, S190, M190, S191_5, S191_6, S192, M192, S193, M193, S194, M194, S195, M195, S196, M196, S197_0, S197_3, S197_4, S197_5, S197_6, S197_7, S197_13, S198, M198, S199, M199, S200, M200, S201, M201, S202, M202, S203, M203, S204, M204, S205, M205, S206, M206, S207, M207, S208, M208, S209, M209, S210, M210, S211, M211] <;> assumption) | (with_reducible show tg _ _ = _; simp only [tg_ms, tg_ma]; assumption) | (with_reducible show ln _ _ = _; simp only [ln_ms, ln_ma]; assumption) | (with_reducible show J64 _; unfold J64; omega) | (with_reducible show J _; unfold J; omega) | omega) only [↓f_X6_most_13, ↓f_X6_most_13b, ↓f_X6_most_74, ↓e2, ↓sb', ↓y1, ↓bc, ↓bd_i, ↓lb_i, ↓rd_i, ↓wt_i, ↓pf_i, bdi_e, lbi_e, ↓ck_t, isb_0, isb_1, ↓reduceIte, ↓if_pos, ↓if_neg, Int.reduceEq, Int.reduceLT, Int.reduceLE, Int.reduceNe, Int.reduceNeg, Int.reduceAdd, Int.reduceSub, Int.reduceMul, Int.add_sub_cancel, tg_ms, ln_ms, nx_ms, tg_ma, ln_ma, nx_ma, mv_s, mv_o, mv_ma_eq, mv_ma_ne, wrk, within_t, within_f, in_t, in_f, isCell_t, isCell_f, isHolder_t, isHolder_f, isHolderm_t, isHolderm_f, isDay_t, isDay_f, isDaym_t, isDaym_f, isSheet_t, isSheet_f, isSheetm_t, isSheetm_f,  ↓gk100, ↓g100_0, ↓g100_1, ↓g100_2, pi100_2, S100_2, ↓g100_3, ↓g100_4, ↓g100_5, ↓g100_6, ↓gk101, ↓g101_0, ↓g101_1, ↓g101_2, ↓g101_3, ↓g101_4, ↓g101_5, ↓g101_6, ↓g101_7, pi101_7, S101_7, ↓g101_8, pi101_8, S101_8, ↓g101_9, pi101_9, S101_9, ↓g101_10, pi101_10, S101_10, ↓gk102, ↓g102_0, ↓g102_1, ↓g102_2, ↓g102_3, ↓g102_4, ↓g102_5, pi102_5, S102_5, ↓al103, ri103, wi103, S103, M103, ↓al104, ri104, wi104, S104, M104, ↓al105, ri105, wi105, S105, M105, ↓al106, ri106, wi106, S106, M106, ↓al107, ri107, wi107, S107, M107, ↓gk108, ↓g108_0, ↓g108_1, ↓g108_2, ↓g108_3, ↓g108_4, ↓g108_5, ↓g108_6, pi108_6, S108_6, ↓g108_7, pi108_7, S108_7, ↓g108_8, pi108_8, S108_8, ↓g108_9, pi108_9, S108_9, ↓al109, ri109, wi109, S109, M109, ↓al110, ri110, wi110, S110, M110, ↓al111, ri111, wi111, S111, M111, ↓al112, ri112, wi112, S112, M112, ↓al113, ri113, wi113, S113, M113, ↓al114, ri114, wi114, S114, M114, ↓gk115, ↓g115_0, ↓g115_1, ↓g115_2, ↓g115_3, ↓g115_4, ↓g115_5, ↓g115_6, ↓g115_7, ↓g115_8, pi115_8, S115_8, ↓al116, ri116, wi116, S116, M116, ↓al117, ri117, wi117, S117, M117, ↓al118, ri118, wi118, S118, M118, ↓al119, ri119, wi119, S119, M119, ↓al120, ri120, wi120, S120, M120, ↓al121, ri121, wi121, S121, M121, ↓al122, ri122, wi122, S122, M122, ↓al123, ri123, wi123, S123, M123, ↓gk124, ↓g124_0, ↓g124_1, ↓g124_2, pi124_2, S124_2, ↓g124_3, ↓g124_4, ↓al125, ri125, wi125, S125, M125, ↓al126, ri126, wi126, S126, M126, ↓al127, ri127, wi127, S127, M127, ↓al128, ri128, wi128, S128, M128, ↓al129, ri129, ↓al130, ri130, wi130, S130, M130, ↓al131, ri131, wi131, S131, M131, ↓gk132, ↓g132_0, ↓g132_1, pi132_1, S132_1, ↓g132_2, pi132_2, S132_2, ↓al133, ri133, wi133, S133, M133, ↓gk134, ↓g134_0, ↓g134_1, pi134_1, S134_1, ↓g134_2, pi134_2, S134_2, ↓al135, ri135, wi135, S135, M135, ↓gk136, ↓g136_0, ↓g136_1, pi136_1, S136_1, ↓g136_2, pi136_2, S136_2, ↓al137, ri137, wi137, S137, M137, ↓gk138, ↓g138_0, ↓g138_1, pi138_1, S138_1, ↓g138_2, pi138_2, S138_2, ↓al139, ri139, wi139, S139, M139, ↓al179, ri179, wi179, S179, M179, ↓gk180, ↓g180_0, ↓g180_1, pi180_1, S180_1, ↓g180_2, pi180_2, S180_2, ↓g180_3, ↓g180_4, ↓g180_5, pi180_5, S180_5, ↓g180_6, pi180_6, S180_6, ↓g180_7, pi180_7, S180_7, ↓g180_8, pi180_8, S180_8, ↓al181, ri181, wi181, S181, M181, ↓al182, ri182, wi182, S182, M182, ↓al183, ri183, wi183, S183, M183, ↓gk184, ↓g184_0, ↓g184_1, ↓g184_2, ↓g184_3, ↓g184_4, ↓g184_5, ↓g184_6, pi184_6, S184_6, ↓al185, ri185, wi185, S185, M185, ↓al186, ri186, wi186, S186, M186, ↓al187, ri187, wi187, S187, M187, ↓al188, ri188, wi188, S188, M188, ↓al189, ri189, wi189, S189, M189, ↓al190, ri190, wi190, S190, M190, ↓gk191, ↓g191_0, ↓g191_1, ↓g191_2, ↓g191_3, ↓g191_4, ↓g191_5, pi191_5, S191_5, ↓g191_6, pi191_6, S191_6, ↓al192, ri192, wi192, S192, M192, ↓al193, ri193, wi193, S193, M193, ↓al194, ri194, wi194, S194, M194, ↓al195, ri195, wi195, S195, M195, ↓al196, ri196, wi196, S196, M196]
      · obtain ⟨C', v', z1, z2, z3⟩ := most_l hn hh js m (x + 1) v C1 P1 (by omega) (by omega) (by omega) T1 v0 v1 (by
          rcases V1 with w | ⟨y, w1, w2, w3, w4, w5⟩
          · exact Or.inl w
          · exact Or.inr ⟨y, w1, by omega, w3, by rw [o1 y (by omega)]; exact w4, w5⟩) (fun y w1 w2 w3 w4 => by
          by_cases e : y = x
          · subst e; rw [o2] at w4; omega
          · rw [o1 y e] at w4
            exact V2 y w1 (by omega) w3 w4)
        refine ⟨C', v', ?_, F1.trans z2, z3⟩
        rw [← z1, hC]
        simp (disch := first | assumption | (with_reducible show Sh _; simp only [S100_2, S101_7, S101_8, S101_9, S101_10, S102_5, S103, M103, S104, M104, S105, M105, S106, M106, S107, M107, S108_6, S108_7, S108_8, S108_9, S109, M109, S110, M110, S111, M111, S112, M112, S113, M113, S114, M114, S115_8, S116, M116, S117, M117, S118, M118, S119, M119, S120, M120, S121, M121, S122, M122, S123, M123, S124_2, S125, M125, S126, M126, S127, M127, S128, M128, S130, M130, S131, M131, S132_1, S132_2, S133, M133, S134_1, S134_2, S135, M135, S136_1, S136_2, S137, M137, S138_1, S138_2, S139, M139, S140_7, S140_8, S140_9, S140_10, S141_5, S142, M142, S143, M143, S144, M144, S145, M145, S146, M146, S147_6, S147_7, S147_8, S147_9, S148, M148, S149, M149, S150, M150, S151, M151, S152, M152, S153, M153, S154_8, S155, M155, S156, M156, S157, M157, S158, M158, S159, M159, S160, M160, S161, M161, S162, M162, S163_2, S164, M164, S165, M165, S166, M166, S167, M167, S169, M169, S170, M170, S171_1, S171_2, S172, M172, S173_1, S173_2, S174, M174, S175_1, S175_2, S176, M176, S177_1, S177_2, S178, M178, S179, M179, S180_1, S180_2, S180_5, S180_6, S180_7, S180_8, S181, M181, S182, M182, S183, M183, S184_6, S185, M185, S186, M186, S187, M187, S188, M188, S189, M189, S190, M190, S191_5, S191_6, S192, M192, S193, M193, S194, M194, S195, M195, S196, M196, S197_0, S197_3, S197_4, S197_5, S197_6, S197_7, S197_13, S198, M198, S199, M199, S200, M200, S201, M201, S202, M202, S203, M203, S204, M204, S205, M205, S206, M206, S207, M207, S208, M208, S209, M209, S210, M210, S211, M211] <;> assumption) | (with_reducible show tg _ _ = _; simp only [tg_ms, tg_ma]; assumption) | (with_reducible show ln _ _ = _; simp only [ln_ms, ln_ma]; assumption) | (with_reducible show J64 _; unfold J64; omega) | (with_reducible show J _; unfold J; omega) | omega) only [↓f_X6_most_13, ↓f_X6_most_13b, ↓f_X6_most_74, ↓e2, ↓sb', ↓y1, ↓bd_i, ↓lb_i, ↓rd_i, ↓wt_i, ↓pf_i, bdi_e, lbi_e, ↓ck_t, isb_0, isb_1, ↓reduceIte, ↓if_pos, ↓if_neg, Int.reduceEq, Int.reduceLT, Int.reduceLE, Int.reduceNe, Int.reduceNeg, Int.reduceAdd, Int.reduceSub, Int.reduceMul, Int.add_sub_cancel, tg_ms, ln_ms, nx_ms, tg_ma, ln_ma, nx_ma, mv_s, mv_o, mv_ma_eq, mv_ma_ne, wrk, within_t, within_f, in_t, in_f, isCell_t, isCell_f, isHolder_t, isHolder_f, isHolderm_t, isHolderm_f, isDay_t, isDay_f, isDaym_t, isDaym_f, isSheet_t, isSheet_f, isSheetm_t, isSheetm_f,  ↓gk100, ↓g100_0, ↓g100_1, ↓g100_2, pi100_2, S100_2, ↓g100_3, ↓g100_4, ↓g100_5, ↓g100_6, ↓gk101, ↓g101_0, ↓g101_1, ↓g101_2, ↓g101_3, ↓g101_4, ↓g101_5, ↓g101_6, ↓g101_7, pi101_7, S101_7, ↓g101_8, pi101_8, S101_8, ↓g101_9, pi101_9, S101_9, ↓g101_10, pi101_10, S101_10, ↓gk102, ↓g102_0, ↓g102_1, ↓g102_2, ↓g102_3, ↓g102_4, ↓g102_5, pi102_5, S102_5, ↓al103, ri103, wi103, S103, M103, ↓al104, ri104, wi104, S104, M104, ↓al105, ri105, wi105, S105, M105, ↓al106, ri106, wi106, S106, M106, ↓al107, ri107, wi107, S107, M107, ↓gk108, ↓g108_0, ↓g108_1, ↓g108_2, ↓g108_3, ↓g108_4, ↓g108_5, ↓g108_6, pi108_6, S108_6, ↓g108_7, pi108_7, S108_7, ↓g108_8, pi108_8, S108_8, ↓g108_9, pi108_9, S108_9, ↓al109, ri109, wi109, S109, M109, ↓al110, ri110, wi110, S110, M110, ↓al111, ri111, wi111, S111, M111, ↓al112, ri112, wi112, S112, M112, ↓al113, ri113, wi113, S113, M113, ↓al114, ri114, wi114, S114, M114, ↓gk115, ↓g115_0, ↓g115_1, ↓g115_2, ↓g115_3, ↓g115_4, ↓g115_5, ↓g115_6, ↓g115_7, ↓g115_8, pi115_8, S115_8, ↓al116, ri116, wi116, S116, M116, ↓al117, ri117, wi117, S117, M117, ↓al118, ri118, wi118, S118, M118, ↓al119, ri119, wi119, S119, M119, ↓al120, ri120, wi120, S120, M120, ↓al121, ri121, wi121, S121, M121, ↓al122, ri122, wi122, S122, M122, ↓al123, ri123, wi123, S123, M123, ↓gk124, ↓g124_0, ↓g124_1, ↓g124_2, pi124_2, S124_2, ↓g124_3, ↓g124_4, ↓al125, ri125, wi125, S125, M125, ↓al126, ri126, wi126, S126, M126, ↓al127, ri127, wi127, S127, M127, ↓al128, ri128, wi128, S128, M128, ↓al129, ri129, ↓al130, ri130, wi130, S130, M130, ↓al131, ri131, wi131, S131, M131, ↓gk132, ↓g132_0, ↓g132_1, pi132_1, S132_1, ↓g132_2, pi132_2, S132_2, ↓al133, ri133, wi133, S133, M133, ↓gk134, ↓g134_0, ↓g134_1, pi134_1, S134_1, ↓g134_2, pi134_2, S134_2, ↓al135, ri135, wi135, S135, M135, ↓gk136, ↓g136_0, ↓g136_1, pi136_1, S136_1, ↓g136_2, pi136_2, S136_2, ↓al137, ri137, wi137, S137, M137, ↓gk138, ↓g138_0, ↓g138_1, pi138_1, S138_1, ↓g138_2, pi138_2, S138_2, ↓al139, ri139, wi139, S139, M139, ↓al179, ri179, wi179, S179, M179, ↓gk180, ↓g180_0, ↓g180_1, pi180_1, S180_1, ↓g180_2, pi180_2, S180_2, ↓g180_3, ↓g180_4, ↓g180_5, pi180_5, S180_5, ↓g180_6, pi180_6, S180_6, ↓g180_7, pi180_7, S180_7, ↓g180_8, pi180_8, S180_8, ↓al181, ri181, wi181, S181, M181, ↓al182, ri182, wi182, S182, M182, ↓al183, ri183, wi183, S183, M183, ↓gk184, ↓g184_0, ↓g184_1, ↓g184_2, ↓g184_3, ↓g184_4, ↓g184_5, ↓g184_6, pi184_6, S184_6, ↓al185, ri185, wi185, S185, M185, ↓al186, ri186, wi186, S186, M186, ↓al187, ri187, wi187, S187, M187, ↓al188, ri188, wi188, S188, M188, ↓al189, ri189, wi189, S189, M189, ↓al190, ri190, wi190, S190, M190, ↓gk191, ↓g191_0, ↓g191_1, ↓g191_2, ↓g191_3, ↓g191_4, ↓g191_5, pi191_5, S191_5, ↓g191_6, pi191_6, S191_6, ↓al192, ri192, wi192, S192, M192, ↓al193, ri193, wi193, S193, M193, ↓al194, ri194, wi194, S194, M194, ↓al195, ri195, wi195, S195, M195, ↓al196, ri196, wi196, S196, M196]
    · have sb' : ban x (bxo fr (-1)) ≠ 0 := sb
      obtain ⟨C', v', z1, z2, z3⟩ := most_l hn hh js m (x + 1) v C P (by omega) (by omega) (by omega) (fun y w1 w2 w3 => by
        by_cases e : y = x
        · subst e; exact absurd w3 sb
        · exact T y w1 (by omega) w3) v0 v1 (by
        rcases V1 with w | ⟨y, w1, w2, w3⟩
        · exact Or.inl w
        · exact Or.inr ⟨y, w1, by omega, w3⟩) (fun y w1 w2 w3 w4 => by
        by_cases e : y = x
        · subst e; exact absurd w3 sb
        · exact V2 y w1 (by omega) w3 w4)
      refine ⟨C', v', ?_, z2, z3⟩
      rw [← z1]
      simp (disch := first | assumption | (with_reducible show Sh _; simp only [S100_2, S101_7, S101_8, S101_9, S101_10, S102_5, S103, M103, S104, M104, S105, M105, S106, M106, S107, M107, S108_6, S108_7, S108_8, S108_9, S109, M109, S110, M110, S111, M111, S112, M112, S113, M113, S114, M114, S115_8, S116, M116, S117, M117, S118, M118, S119, M119, S120, M120, S121, M121, S122, M122, S123, M123, S124_2, S125, M125, S126, M126, S127, M127, S128, M128, S130, M130, S131, M131, S132_1, S132_2, S133, M133, S134_1, S134_2, S135, M135, S136_1, S136_2, S137, M137, S138_1, S138_2, S139, M139, S140_7, S140_8, S140_9, S140_10, S141_5, S142, M142, S143, M143, S144, M144, S145, M145, S146, M146, S147_6, S147_7, S147_8, S147_9, S148, M148, S149, M149, S150, M150, S151, M151, S152, M152, S153, M153, S154_8, S155, M155, S156, M156, S157, M157, S158, M158, S159, M159, S160, M160, S161, M161, S162, M162, S163_2, S164, M164, S165, M165, S166, M166, S167, M167, S169, M169, S170, M170, S171_1, S171_2, S172, M172, S173_1, S173_2, S174, M174, S175_1, S175_2, S176, M176, S177_1, S177_2, S178, M178, S179, M179, S180_1, S180_2, S180_5, S180_6, S180_7, S180_8, S181, M181, S182, M182, S183, M183, S184_6, S185, M185, S186, M186, S187, M187, S188, M188, S189, M189, S190, M190, S191_5, S191_6, S192, M192, S193, M193, S194, M194, S195, M195, S196, M196, S197_0, S197_3, S197_4, S197_5, S197_6, S197_7, S197_13, S198, M198, S199, M199, S200, M200, S201, M201, S202, M202, S203, M203, S204, M204, S205, M205, S206, M206, S207, M207, S208, M208, S209, M209, S210, M210, S211, M211] <;> assumption) | (with_reducible show tg _ _ = _; simp only [tg_ms, tg_ma]; assumption) | (with_reducible show ln _ _ = _; simp only [ln_ms, ln_ma]; assumption) | (with_reducible show J64 _; unfold J64; omega) | (with_reducible show J _; unfold J; omega) | omega) only [↓f_X6_most_13, ↓f_X6_most_13b, ↓f_X6_most_74, ↓e2, ↓sb', ↓bd_i, ↓lb_i, ↓rd_i, ↓wt_i, ↓pf_i, bdi_e, lbi_e, ↓ck_t, isb_0, isb_1, ↓reduceIte, ↓if_pos, ↓if_neg, Int.reduceEq, Int.reduceLT, Int.reduceLE, Int.reduceNe, Int.reduceNeg, Int.reduceAdd, Int.reduceSub, Int.reduceMul, Int.add_sub_cancel, tg_ms, ln_ms, nx_ms, tg_ma, ln_ma, nx_ma, mv_s, mv_o, mv_ma_eq, mv_ma_ne, wrk, within_t, within_f, in_t, in_f, isCell_t, isCell_f, isHolder_t, isHolder_f, isHolderm_t, isHolderm_f, isDay_t, isDay_f, isDaym_t, isDaym_f, isSheet_t, isSheet_f, isSheetm_t, isSheetm_f,  ↓gk100, ↓g100_0, ↓g100_1, ↓g100_2, pi100_2, S100_2, ↓g100_3, ↓g100_4, ↓g100_5, ↓g100_6, ↓gk101, ↓g101_0, ↓g101_1, ↓g101_2, ↓g101_3, ↓g101_4, ↓g101_5, ↓g101_6, ↓g101_7, pi101_7, S101_7, ↓g101_8, pi101_8, S101_8, ↓g101_9, pi101_9, S101_9, ↓g101_10, pi101_10, S101_10, ↓gk102, ↓g102_0, ↓g102_1, ↓g102_2, ↓g102_3, ↓g102_4, ↓g102_5, pi102_5, S102_5, ↓al103, ri103, wi103, S103, M103, ↓al104, ri104, wi104, S104, M104, ↓al105, ri105, wi105, S105, M105, ↓al106, ri106, wi106, S106, M106, ↓al107, ri107, wi107, S107, M107, ↓gk108, ↓g108_0, ↓g108_1, ↓g108_2, ↓g108_3, ↓g108_4, ↓g108_5, ↓g108_6, pi108_6, S108_6, ↓g108_7, pi108_7, S108_7, ↓g108_8, pi108_8, S108_8, ↓g108_9, pi108_9, S108_9, ↓al109, ri109, wi109, S109, M109, ↓al110, ri110, wi110, S110, M110, ↓al111, ri111, wi111, S111, M111, ↓al112, ri112, wi112, S112, M112, ↓al113, ri113, wi113, S113, M113, ↓al114, ri114, wi114, S114, M114, ↓gk115, ↓g115_0, ↓g115_1, ↓g115_2, ↓g115_3, ↓g115_4, ↓g115_5, ↓g115_6, ↓g115_7, ↓g115_8, pi115_8, S115_8, ↓al116, ri116, wi116, S116, M116, ↓al117, ri117, wi117, S117, M117, ↓al118, ri118, wi118, S118, M118, ↓al119, ri119, wi119, S119, M119, ↓al120, ri120, wi120, S120, M120, ↓al121, ri121, wi121, S121, M121, ↓al122, ri122, wi122, S122, M122, ↓al123, ri123, wi123, S123, M123, ↓gk124, ↓g124_0, ↓g124_1, ↓g124_2, pi124_2, S124_2, ↓g124_3, ↓g124_4, ↓al125, ri125, wi125, S125, M125, ↓al126, ri126, wi126, S126, M126, ↓al127, ri127, wi127, S127, M127, ↓al128, ri128, wi128, S128, M128, ↓al129, ri129, ↓al130, ri130, wi130, S130, M130, ↓al131, ri131, wi131, S131, M131, ↓gk132, ↓g132_0, ↓g132_1, pi132_1, S132_1, ↓g132_2, pi132_2, S132_2, ↓al133, ri133, wi133, S133, M133, ↓gk134, ↓g134_0, ↓g134_1, pi134_1, S134_1, ↓g134_2, pi134_2, S134_2, ↓al135, ri135, wi135, S135, M135, ↓gk136, ↓g136_0, ↓g136_1, pi136_1, S136_1, ↓g136_2, pi136_2, S136_2, ↓al137, ri137, wi137, S137, M137, ↓gk138, ↓g138_0, ↓g138_1, pi138_1, S138_1, ↓g138_2, pi138_2, S138_2, ↓al139, ri139, wi139, S139, M139, ↓al179, ri179, wi179, S179, M179, ↓gk180, ↓g180_0, ↓g180_1, pi180_1, S180_1, ↓g180_2, pi180_2, S180_2, ↓g180_3, ↓g180_4, ↓g180_5, pi180_5, S180_5, ↓g180_6, pi180_6, S180_6, ↓g180_7, pi180_7, S180_7, ↓g180_8, pi180_8, S180_8, ↓al181, ri181, wi181, S181, M181, ↓al182, ri182, wi182, S182, M182, ↓al183, ri183, wi183, S183, M183, ↓gk184, ↓g184_0, ↓g184_1, ↓g184_2, ↓g184_3, ↓g184_4, ↓g184_5, ↓g184_6, pi184_6, S184_6, ↓al185, ri185, wi185, S185, M185, ↓al186, ri186, wi186, S186, M186, ↓al187, ri187, wi187, S187, M187, ↓al188, ri188, wi188, S188, M188, ↓al189, ri189, wi189, S189, M189, ↓al190, ri190, wi190, S190, M190, ↓gk191, ↓g191_0, ↓g191_1, ↓g191_2, ↓g191_3, ↓g191_4, ↓g191_5, pi191_5, S191_5, ↓g191_6, pi191_6, S191_6, ↓al192, ri192, wi192, S192, M192, ↓al193, ri193, wi193, S193, M193, ↓al194, ri194, wi194, S194, M194, ↓al195, ri195, wi195, S195, M195, ↓al196, ri196, wi196, S196, M196]
theorem fnm_0 : ∀ i : Int, j7 i → fnm N 0 i = false := fun i hi => by
  have hi' : 0 ≤ i ∧ i < 7 := hi
  cases c : fnm N 0 i with
  | false => rfl
  | true =>
    have b := (fnm_t.mp c).2
    rw [bit_ibt ⟨hi'.1, by omega⟩, ibt_zero] at b
    exact absurd b (by decide)
theorem most_e (hn : 10000000 ≤ n) (P : PRS C N A B) (hf : 0 ≤ fr ∧ fr < 128) (hh : 1 ≤ hr ∧ hr ≤ 999) (js : 0 ≤ s ∧ s ≤ 50000) (jp : 0 ≤ p ∧ p ≤ hr) : ∃ C' v, f_X6_most n 124 fr s p hr C = some (v, C') ∧ FrN (fun a _ => a = 128) C C' ∧ IsM A B hr (fnm N fr) s p v ∧ 0 ≤ v ∧ v ≤ 7 := by
  obtain ⟨S, hN, e2, q⟩ := id P
  have p8 := pw8_e hN
  have F0 : FrN (fun a _ => a = 128) C (ms C 128 0 p) := (FrN.refl C).w rfl
  have P0 := prs_fr P (F0.mono (fun a j z => Or.inr z))
  have v0 : mv (ms C 128 0 p) 128 0 = p := mv_s rfl
  have s0 : szF (fnm N 0) = 0 := by rw [szF_c (g := emF) fnm_0]; exact szF_e
  obtain ⟨C', v, x1, x2, x3, x4, x5, x6, x7⟩ := most_l (n := n) (fr := fr) (p := p) hn hh.2 js n 1 0 (ms C 128 0 p) P0 (by omega) (by omega) (by omega) (fun y y0 y1 _ => by
    have e : y = 0 := by omega
    subst e
    unfold TBL
    rw [v0, s0]
    exact ⟨by omega, fun h' _ => Iff.rfl⟩) (by omega) (by omega) (Or.inl rfl) (fun y y0 y1 _ _ => by
    have e : y = 0 := by omega
    subst e; rw [s0]; omega)
  refine ⟨C', v, ?_, F0.trans x2, ⟨?_, fun k f sb sz pf => ?_⟩, x4, x5⟩
  · rw [← x1]
    simp (disch := first | assumption | (with_reducible show Sh _; simp only [S100_2, S101_7, S101_8, S101_9, S101_10, S102_5, S103, M103, S104, M104, S105, M105, S106, M106, S107, M107, S108_6, S108_7, S108_8, S108_9, S109, M109, S110, M110, S111, M111, S112, M112, S113, M113, S114, M114, S115_8, S116, M116, S117, M117, S118, M118, S119, M119, S120, M120, S121, M121, S122, M122, S123, M123, S124_2, S125, M125, S126, M126, S127, M127, S128, M128, S130, M130, S131, M131, S132_1, S132_2, S133, M133, S134_1, S134_2, S135, M135, S136_1, S136_2, S137, M137, S138_1, S138_2, S139, M139, S140_7, S140_8, S140_9, S140_10, S141_5, S142, M142, S143, M143, S144, M144, S145, M145, S146, M146, S147_6, S147_7, S147_8, S147_9, S148, M148, S149, M149, S150, M150, S151, M151, S152, M152, S153, M153, S154_8, S155, M155, S156, M156, S157, M157, S158, M158, S159, M159, S160, M160, S161, M161, S162, M162, S163_2, S164, M164, S165, M165, S166, M166, S167, M167, S169, M169, S170, M170, S171_1, S171_2, S172, M172, S173_1, S173_2, S174, M174, S175_1, S175_2, S176, M176, S177_1, S177_2, S178, M178, S179, M179, S180_1, S180_2, S180_5, S180_6, S180_7, S180_8, S181, M181, S182, M182, S183, M183, S184_6, S185, M185, S186, M186, S187, M187, S188, M188, S189, M189, S190, M190, S191_5, S191_6, S192, M192, S193, M193, S194, M194, S195, M195, S196, M196, S197_0, S197_3, S197_4, S197_5, S197_6, S197_7, S197_13, S198, M198, S199, M199, S200, M200, S201, M201, S202, M202, S203, M203, S204, M204, S205, M205, S206, M206, S207, M207, S208, M208, S209, M209, S210, M210, S211, M211] <;> assumption) | (with_reducible show tg _ _ = _; simp only [tg_ms, tg_ma]; assumption) | (with_reducible show ln _ _ = _; simp only [ln_ms, ln_ma]; assumption) | (with_reducible show J64 _; unfold J64; omega) | (with_reducible show J _; unfold J; omega) | omega) only [↓f_X6_most, ↓bd_i, ↓lb_i, ↓rd_i, ↓wt_i, ↓pf_i, bdi_e, lbi_e, ↓ck_t, isb_0, isb_1, ↓reduceIte, ↓if_pos, ↓if_neg, Int.reduceEq, Int.reduceLT, Int.reduceLE, Int.reduceNe, Int.reduceNeg, Int.reduceAdd, Int.reduceSub, Int.reduceMul, Int.add_sub_cancel, tg_ms, ln_ms, nx_ms, tg_ma, ln_ma, nx_ma, mv_s, mv_o, mv_ma_eq, mv_ma_ne, wrk, within_t, within_f, in_t, in_f, isCell_t, isCell_f, isHolder_t, isHolder_f, isHolderm_t, isHolderm_f, isDay_t, isDay_f, isDaym_t, isDaym_f, isSheet_t, isSheet_f, isSheetm_t, isSheetm_f,  ↓gk100, ↓g100_0, ↓g100_1, ↓g100_2, pi100_2, S100_2, ↓g100_3, ↓g100_4, ↓g100_5, ↓g100_6, ↓gk101, ↓g101_0, ↓g101_1, ↓g101_2, ↓g101_3, ↓g101_4, ↓g101_5, ↓g101_6, ↓g101_7, pi101_7, S101_7, ↓g101_8, pi101_8, S101_8, ↓g101_9, pi101_9, S101_9, ↓g101_10, pi101_10, S101_10, ↓gk102, ↓g102_0, ↓g102_1, ↓g102_2, ↓g102_3, ↓g102_4, ↓g102_5, pi102_5, S102_5, ↓al103, ri103, wi103, S103, M103, ↓al104, ri104, wi104, S104, M104, ↓al105, ri105, wi105, S105, M105, ↓al106, ri106, wi106, S106, M106, ↓al107, ri107, wi107, S107, M107, ↓gk108, ↓g108_0, ↓g108_1, ↓g108_2, ↓g108_3, ↓g108_4, ↓g108_5, ↓g108_6, pi108_6, S108_6, ↓g108_7, pi108_7, S108_7, ↓g108_8, pi108_8, S108_8, ↓g108_9, pi108_9, S108_9, ↓al109, ri109, wi109, S109, M109, ↓al110, ri110, wi110, S110, M110, ↓al111, ri111, wi111, S111, M111, ↓al112, ri112, wi112, S112, M112, ↓al113, ri113, wi113, S113, M113, ↓al114, ri114, wi114, S114, M114, ↓gk115, ↓g115_0, ↓g115_1, ↓g115_2, ↓g115_3, ↓g115_4, ↓g115_5, ↓g115_6, ↓g115_7, ↓g115_8, pi115_8, S115_8, ↓al116, ri116, wi116, S116, M116, ↓al117, ri117, wi117, S117, M117, ↓al118, ri118, wi118, S118, M118, ↓al119, ri119, wi119, S119, M119, ↓al120, ri120, wi120, S120, M120, ↓al121, ri121, wi121, S121, M121, ↓al122, ri122, wi122, S122, M122, ↓al123, ri123, wi123, S123, M123, ↓gk124, ↓g124_0, ↓g124_1, ↓g124_2, pi124_2, S124_2, ↓g124_3, ↓g124_4, ↓al125, ri125, wi125, S125, M125, ↓al126, ri126, wi126, S126, M126, ↓al127, ri127, wi127, S127, M127, ↓al128, ri128, wi128, S128, M128, ↓al129, ri129, ↓al130, ri130, wi130, S130, M130, ↓al131, ri131, wi131, S131, M131, ↓gk132, ↓g132_0, ↓g132_1, pi132_1, S132_1, ↓g132_2, pi132_2, S132_2, ↓al133, ri133, wi133, S133, M133, ↓gk134, ↓g134_0, ↓g134_1, pi134_1, S134_1, ↓g134_2, pi134_2, S134_2, ↓al135, ri135, wi135, S135, M135, ↓gk136, ↓g136_0, ↓g136_1, pi136_1, S136_1, ↓g136_2, pi136_2, S136_2, ↓al137, ri137, wi137, S137, M137, ↓gk138, ↓g138_0, ↓g138_1, pi138_1, S138_1, ↓g138_2, pi138_2, S138_2, ↓al139, ri139, wi139, S139, M139, ↓al179, ri179, wi179, S179, M179, ↓gk180, ↓g180_0, ↓g180_1, pi180_1, S180_1, ↓g180_2, pi180_2, S180_2, ↓g180_3, ↓g180_4, ↓g180_5, pi180_5, S180_5, ↓g180_6, pi180_6, S180_6, ↓g180_7, pi180_7, S180_7, ↓g180_8, pi180_8, S180_8, ↓al181, ri181, wi181, S181, M181, ↓al182, ri182, wi182, S182, M182, ↓al183, ri183, wi183, S183, M183, ↓gk184, ↓g184_0, ↓g184_1, ↓g184_2, ↓g184_3, ↓g184_4, ↓g184_5, ↓g184_6, pi184_6, S184_6, ↓al185, ri185, wi185, S185, M185, ↓al186, ri186, wi186, S186, M186, ↓al187, ri187, wi187, S187, M187, ↓al188, ri188, wi188, S188, M188, ↓al189, ri189, wi189, S189, M189, ↓al190, ri190, wi190, S190, M190, ↓gk191, ↓g191_0, ↓g191_1, ↓g191_2, ↓g191_3, ↓g191_4, ↓g191_5, pi191_5, S191_5, ↓g191_6, pi191_6, S191_6, ↓al192, ri192, wi192, S192, M192, ↓al193, ri193, wi193, S193, M193, ↓al194, ri194, wi194, S194, M194, ↓al195, ri195, wi195, S195, M195, ↓al196, ri196, wi196, S196, M196]
  · rcases x6 with w | ⟨y, w1, w2, w3, w4, w5⟩
    · exact ⟨0, emF, by omega, (fun i _ q => Bool.noConfusion (show false = true from q)), szF_e, jp.2⟩
    · have t := ((x3 y w1 w2 w3).2 hr (by omega)).mp w4
      have ek : ((szF (fnm N y)).toNat : Int) = szF (fnm N y) := by omega
      refine ⟨(szF (fnm N y)).toNat, fnm N y, by omega, fun i hi a => ?_, ek.symm, ((PFB _).1 s p hr (fnm N y) ek.symm).mpr t⟩
      obtain ⟨a1, a2⟩ := fnm_t.mp a
      exact fnm_t.mpr ⟨a1, (sub_e ⟨w1, by omega⟩).mp w3 i hi a2⟩
  · have fN : ∀ i : Int, j7 i → f i = true → i < N := fun i hi a => (fnm_t.mp (sb i hi a)).1.2
    obtain ⟨m1, m2, m3, m4⟩ := msk_e hN fN
    have ag : ∀ i : Int, j7 i → f i = fnm N (msk f) i := fun i hi => by
      have b := m1 i hi
      cases c : f i with
      | true => exact (fnm_t.mpr ⟨⟨hi.1, fN i hi c⟩, b.mpr c⟩).symm
      | false =>
        cases d : fnm N (msk f) i with
        | false => rfl
        | true => rw [b.mp (fnm_t.mp d).2] at c; exact absurd c (by decide)
    have sm : sbm fr (msk f) := (sub_e ⟨m2, m4⟩).mpr (fun i hi a => (fnm_t.mp (sb i hi ((m1 i hi).mp a))).2)
    have sz' : szF (fnm N (msk f)) = (k : Int) := by rw [← szF_c ag]; exact sz
    have t := (x3 (msk f) m2 m3 sm).2 hr (by omega)
    rw [sz', Int.toNat_natCast] at t
    have le := t.mpr (((PFB k).1 s p hr _ sz').mp (PFk_c k s p f _ ag pf))
    have := x7 (msk f) m2 m3 sm le
    omega
end MOS
