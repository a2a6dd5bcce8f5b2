/-! DIG: the row of a day; a day; the call -/
section DGE
variable {k : Int} {n : Nat} {h h' C G h0 g : MM} {p s i v y d r t : Int}
theorem mx_sh (SC : Sh C) (SG : Sh G) : Sh (mx C G) := by
  refine ⟨SC.1, fun p hp => ?_, SC.2.2⟩
  by_cases q : 197 ≤ p.1 ∧ p.1 ≤ 211
  · rw [mx_m q]; exact SG.2.1 p hp
  · rw [mx_c q]; exact SC.2.1 p hp
theorem oinv_tg (V : OInv h) (n1 : nx h ≤ nx h') (t : ∀ a : Int, a < nx h → tg h' a = tg h a ∧ ln h' a = ln h a) (q : ∀ a : Int, nx h ≤ a → a < nx h' → tg h' a ≠ 3) : OInv h' := by
  intro a h0 h1 h2
  by_cases c : a < nx h
  · rw [(t a c).1] at h2
    have v := V a h0 c h2
    rw [(t _ (by omega)).1, (t _ (by omega)).1, (t _ (by omega)).1, (t _ (by omega)).2, (t _ (by omega)).1]
    exact ⟨by omega, v.2⟩
  · exact absurd h2 (q a (by omega) h1)
/-- one row of what is known changes, on the class's side -/
theorem InB.row (I : InB k (mx C G)) (SC : Sh C) (SG : Sh G) {C1 : MM} (r0 : 212 ≤ r) (rn : r < nx C) (et : mv C 179 t = r) (ht : t = mv G 198 0) (e2 : C1.2 = C.2) (o : ∀ a j : Int, a ≠ r → mv C1 a j = mv C a j) : InB k (mx C1 G) ∧ Sh C1 := by
  have e0 : mv (mx C G) 198 0 = mv G 198 0 := mx_m (by omega)
  have b0 := (rbd I.rd).1
  rw [e0] at b0
  have c179 : ∀ d, mv (mx C G) 179 d = mv C 179 d := fun d => mx_c (by omega)
  have P := I.2.2.1
  have pt := P.1 t (by omega) (by omega)
  rw [c179, et] at pt
  have pt' : (212 ≤ r ∧ r < nx C ∧ tg C r = 100 ∧ ln C r = 60 ∧ tg C (r - 3) ≠ 3) := by
    rcases pt with z | z
    · omega
    · exact z
  have S1 : Sh C1 := by
    refine ⟨fun k hk => by rw [tg2 e2, ln2 e2]; exact SC.1 k hk, fun p hp => ?_, by rw [nx2 e2]; exact SC.2.2⟩
    have z := rL_lt p hp
    rw [o _ _ (by omega)]; exact SC.2.1 p hp
  have Z : ∀ a j : Int, a ≠ r → mv (mx C1 G) a j = mv (mx C G) a j := fun a j q => by
    by_cases w : 197 ≤ a ∧ a ≤ 211
    · rw [mx_m w, mx_m w]
    · rw [mx_c w, mx_c w]; exact o a j q
  have e2' : (mx C1 G).2 = (mx C G).2 := e2
  have im : Imm (mx C G) (mx C1 G) := by
    refine ⟨by rw [nx2 e2']; omega, fun a _ => ⟨tg2 e2', ln2 e2'⟩, fun a i ha hn hm => ?_⟩
    by_cases w : a = r
    · subst w
      exact absurd ⟨r0, Or.inr ⟨pt'.2.2.1, Or.inr pt'.2.2.2.1⟩⟩ hm
    · exact Z a i w
  refine ⟨I.past (mx_sh S1 SG) im (oinv_tg I.2.1 im.1 im.2.1 (fun a h1 h2 => by rw [nx2 e2'] at h2; omega)) ?_ (fun d d0 d1 => Z _ _ (by omega)) (fun d d0 d1 j => Z _ _ ?_) (fun a j h1 h2 h3 h4 => Z _ _ (by omega)) (fun j hj => Z _ _ (by omega)) (fun q d w0 w1 d0 d1 => Z _ _ (by omega)), S1⟩
  · refine ⟨fun d d0 d1 => ?_, fun d e d0 d1 d2 => ?_⟩
    · rw [Z 179 d (by omega), tg2 e2', ln2 e2', nx2 e2', tg2 e2']; exact P.1 d d0 d1
    · rw [Z 179 d (by omega), Z 179 e (by omega)]; exact P.2 d e d0 d1 d2
  · rw [e0] at d1
    rw [c179]
    intro w
    have z := P.2 d t d0 (by omega) (by omega)
    rw [c179, c179] at z
    exact z (by omega) (by omega)
theorem rem_e (hn : 10000000 ≤ n) (I : InB k (mx C G)) (SC : Sh C) (SG : Sh G) (ht : t = mv G 198 0) (rm1 : nx C ≤ 200000) (rm2 : sl C ≤ 7000000) : ∃ r C1, 212 ≤ r ∧ r < nx C1 ∧ tg C1 r = 100 ∧ ln C1 r = 60 ∧ f_X11_remember n 100 t C = f_X11_remember_33 n 100 r n 0 C1 ∧ InB k (mx C1 G) ∧ Sh C1 ∧ mv C1 179 t = r ∧ (∀ q : Int, 0 ≤ q → q < 60 → mv C1 r q = -1) ∧ (∀ a j : Int, a < 179 ∨ (180 ≤ a ∧ a < 212) → mv C1 a j = mv C a j) ∧ nx C1 ≤ nx C + 1 ∧ sl C1 ≤ sl C + 60 := by
  have S := SC
  have e0 : mv (mx C G) 198 0 = mv G 198 0 := mx_m (by omega)
  have b0 := (rbd I.rd).1
  rw [e0] at b0
  have c179 : ∀ d, mv (mx C G) 179 d = mv C 179 d := fun d => mx_c (by omega)
  have P := I.2.2.1
  have hz := SC.2.2
  by_cases c : mv C 179 t = 0
  · obtain ⟨H2, hH⟩ : ∃ H2, H2 = ms (mn C 100 60) 179 t (nx C) := ⟨_, rfl⟩
    have SH1 : Sh (mn C 100 60) := Sh_mn SC
    have SH2 : Sh H2 := by rw [hH]; simp only [S100_2, S101_7, S101_8, S101_9, S101_10, S102_5, S103, M103, S104, M104, S105, M105, S106, M106, S107, M107, S108_6, S108_7, S108_8, S108_9, S109, M109, S110, M110, S111, M111, S112, M112, S113, M113, S114, M114, S115_8, S116, M116, S117, M117, S118, M118, S119, M119, S120, M120, S121, M121, S122, M122, S123, M123, S124_2, S125, M125, S126, M126, S127, M127, S128, M128, S130, M130, S131, M131, S132_1, S132_2, S133, M133, S134_1, S134_2, S135, M135, S136_1, S136_2, S137, M137, S138_1, S138_2, S139, M139, S140_7, S140_8, S140_9, S140_10, S141_5, S142, M142, S143, M143, S144, M144, S145, M145, S146, M146, S147_6, S147_7, S147_8, S147_9, S148, M148, S149, M149, S150, M150, S151, M151, S152, M152, S153, M153, S154_8, S155, M155, S156, M156, S157, M157, S158, M158, S159, M159, S160, M160, S161, M161, S162, M162, S163_2, S164, M164, S165, M165, S166, M166, S167, M167, S169, M169, S170, M170, S171_1, S171_2, S172, M172, S173_1, S173_2, S174, M174, S175_1, S175_2, S176, M176, S177_1, S177_2, S178, M178, S179, M179, S180_1, S180_2, S180_5, S180_6, S180_7, S180_8, S181, M181, S182, M182, S183, M183, S184_6, S185, M185, S186, M186, S187, M187, S188, M188, S189, M189, S190, M190, S191_5, S191_6, S192, M192, S193, M193, S194, M194, S195, M195, S196, M196, S197_0, S197_3, S197_4, S197_5, S197_6, S197_7, S197_13, S198, M198, S199, M199, S200, M200, S201, M201, S202, M202, S203, M203, S204, M204, S205, M205, S206, M206, S207, M207, S208, M208, S209, M209, S210, M210, S211, M211]; exact SH1
    have tr : tg H2 (nx C) = 100 := by rw [hH, tg_ms, tg_mn, if_pos rfl]
    have lr : ln H2 (nx C) = 60 := by rw [hH, ln_ms, ln_mn, if_pos rfl]
    have nH : nx H2 = nx C + 1 := by rw [hH, nx_ms, nx_mn]
    have sH : sl H2 = sl C + 60 := by rw [hH]; rfl
    have o2 : ∀ a j : Int, a ≠ nx C → (a ≠ 179 ∨ j ≠ t) → mv H2 a j = mv C a j := fun a j g1 g2 => by rw [hH, mv_o (by omega), mv_mn_lt g1]
    have o3 : mv H2 179 t = nx C := by rw [hH, mv_s rfl]
    have tH : ∀ a : Int, a < nx C → tg H2 a = tg C a ∧ ln H2 a = ln C a := fun a ha => by rw [hH, tg_ms, ln_ms, tg_mn, ln_mn, if_neg (by omega), if_neg (by omega)]; exact ⟨rfl, rfl⟩
    have fe := fill_e (n := n) (v := -1) (h := H2) hn tr (by omega) lr (by omega) (by omega)
    have I2 : InB k (mx H2 G) := by
      have Z : ∀ a j : Int, a ≠ nx C → (a ≠ 179 ∨ j ≠ t) → mv (mx H2 G) a j = mv (mx C G) a j := fun a j g1 g2 => by
        by_cases w : 197 ≤ a ∧ a ≤ 211
        · rw [mx_m w, mx_m w]
        · rw [mx_c w, mx_c w]; exact o2 a j g1 g2
      have n1 : nx (mx H2 G) = nx C + 1 := nH
      have im : Imm (mx C G) (mx H2 G) := ⟨by rw [n1]; show nx C ≤ _; omega, fun a ha => tH a ha, fun a i ha hn' hm => Z a i (by have : a < nx C := hn'; omega) (by omega)⟩
      refine I.past (mx_sh SH2 SG) im (oinv_tg I.2.1 im.1 im.2.1 (fun a h1 h2 => ?_)) ⟨fun d d0 d1 => ?_, fun d e d0 d1 d2 => ?_⟩ (fun d d0 d1 => Z _ _ (by omega) (by omega)) (fun d d0 d1 j => ?_) (fun a j h1 h2 h3 h4 => Z _ _ (by omega) (by omega)) (fun j hj => Z _ _ (by omega) (by omega)) (fun q d w0 w1 d0 d1 => Z _ _ (by omega) (by omega))
      · have : a = nx C := by have h1' : nx C ≤ a := h1; omega
        subst this
        show tg H2 (nx C) ≠ 3
        rw [tr]; decide
      · by_cases w : d = t
        · subst w
          rw [show mv (mx H2 G) 179 d = nx C from (mx_c (by omega)).trans o3]
          refine Or.inr ⟨hz, by omega, tr, lr, ?_⟩
          show tg H2 (nx C - 3) ≠ 3
          rw [(tH _ (by omega)).1]
          intro z
          have := I.2.1 (nx C - 3) (by omega) (by show nx C - 3 < nx C; omega) z
          have : nx C - 3 + 4 < nx C := this.1
          omega
        · rw [Z 179 d (by omega) (Or.inr w)]
          rcases P.1 d d0 d1 with z | ⟨z1, z2, z3, z4, z5⟩
          · exact Or.inl z
          · have z2' : mv (mx C G) 179 d < nx C := z2
            exact Or.inr ⟨z1, by omega, (tH _ z2').1.trans z3, (tH _ z2').2.trans z4, by rw [show tg (mx H2 G) (mv (mx C G) 179 d - 3) = tg C (mv (mx C G) 179 d - 3) from (tH _ (by omega)).1]; exact z5⟩
      · by_cases w : d = t
        · subst w
          rw [show mv (mx H2 G) 179 d = nx C from (mx_c (by omega)).trans o3, Z 179 e (by omega) (by omega)]
          intro _
          rcases P.1 e (by omega) d2 with z | ⟨z1, z2, -⟩
          · omega
          · have z2' : mv (mx C G) 179 e < nx C := z2
            omega
        · rw [Z 179 d (by omega) (Or.inr w)]
          by_cases w2 : e = t
          · subst w2
            rw [show mv (mx H2 G) 179 e = nx C from (mx_c (by omega)).trans o3]
            intro nz
            rcases P.1 d d0 (by omega) with z | ⟨z1, z2, -⟩
            · omega
            · have z2' : mv (mx C G) 179 d < nx C := z2
              omega
          · rw [Z 179 e (by omega) (Or.inr w2)]
            exact P.2 d e d0 d1 d2
      · rcases P.1 d d0 (by rw [e0] at d1; omega) with z | ⟨z1, z2, -⟩
        · rw [z]; exact Z _ _ (by omega) (by omega)
        · have z2' : mv (mx C G) 179 d < nx C := z2
          exact Z _ _ (by omega) (by omega)
    obtain ⟨C1, hC⟩ : ∃ C1, C1 = ma H2 (nx C) (fun j => if 0 ≤ j ∧ j < 60 then -1 else mv H2 (nx C) j) := ⟨_, rfl⟩
    obtain ⟨I3, S3⟩ := I2.row (r := nx C) (t := t) (C1 := C1) SH2 SG hz (by omega) o3 ht (by rw [hC]; rfl) (fun a j q => by rw [hC, mv_ma_ne q])
    have nwe : ∀ kk : Int → MM → RR, na C 100 60 kk = kk (nx C) (mn C 100 60) := fun kk => na_e (by omega) (by unfold NM; omega) (by unfold SM; omega)
    have g2 : ∀ kk : RR, gk2 (mn C 100 60) (nx C) 100 kk = kk := fun kk => gk2_e (by rw [tg_mn, if_pos rfl]) (by omega)
    rw [← hC] at fe
    refine ⟨nx C, C1, hz, by rw [hC, nx_ma]; omega, by rw [hC, tg_ma]; exact tr, by rw [hC, ln_ma]; exact lr, ?_, I3, S3, by rw [hC, mv_ma_ne (by omega)]; exact o3, fun q q0 q1 => by rw [hC, mv_ma_eq, if_pos ⟨q0, q1⟩], fun a j ha => by rw [hC, mv_ma_ne (by omega)]; exact o2 a j (by omega) (by omega), by rw [hC, nx_ma]; omega, by rw [hC, sl_ma]; omega⟩
    rw [hH] at fe o3
    simp (disch := first | assumption | (with_reducible show Sh _; simp only [S100_2, S101_7, S101_8, S101_9, S101_10, S102_5, S103, M103, S104, M104, S105, M105, S106, M106, S107, M107, S108_6, S108_7, S108_8, S108_9, S109, M109, S110, M110, S111, M111, S112, M112, S113, M113, S114, M114, S115_8, S116, M116, S117, M117, S118, M118, S119, M119, S120, M120, S121, M121, S122, M122, S123, M123, S124_2, S125, M125, S126, M126, S127, M127, S128, M128, S130, M130, S131, M131, S132_1, S132_2, S133, M133, S134_1, S134_2, S135, M135, S136_1, S136_2, S137, M137, S138_1, S138_2, S139, M139, S140_7, S140_8, S140_9, S140_10, S141_5, S142, M142, S143, M143, S144, M144, S145, M145, S146, M146, S147_6, S147_7, S147_8, S147_9, S148, M148, S149, M149, S150, M150, S151, M151, S152, M152, S153, M153, S154_8, S155, M155, S156, M156, S157, M157, S158, M158, S159, M159, S160, M160, S161, M161, S162, M162, S163_2, S164, M164, S165, M165, S166, M166, S167, M167, S169, M169, S170, M170, S171_1, S171_2, S172, M172, S173_1, S173_2, S174, M174, S175_1, S175_2, S176, M176, S177_1, S177_2, S178, M178, S179, M179, S180_1, S180_2, S180_5, S180_6, S180_7, S180_8, S181, M181, S182, M182, S183, M183, S184_6, S185, M185, S186, M186, S187, M187, S188, M188, S189, M189, S190, M190, S191_5, S191_6, S192, M192, S193, M193, S194, M194, S195, M195, S196, M196, S197_0, S197_3, S197_4, S197_5, S197_6, S197_7, S197_13, S198, M198, S199, M199, S200, M200, S201, M201, S202, M202, S203, M203, S204, M204, S205, M205, S206, M206, S207, M207, S208, M208, S209, M209, S210, M210, S211, M211] <;> assumption) | (with_reducible show tg _ _ = _; simp only [tg_ms, tg_ma]; assumption) | (with_reducible show ln _ _ = _; simp only [ln_ms, ln_ma]; assumption) | (with_reducible show J64 _; unfold J64; omega) | (with_reducible show J _; unfold J; omega) | omega) only [↓f_X11_remember, ↓f_X11_remember_120, ↓f_X11_remember_19, ↓nwe, ↓g2, ↓o3, ↓fe, ↓c, ↓bd_i, ↓lb_i, ↓rd_i, ↓wt_i, ↓pf_i, bdi_e, lbi_e, ↓ck_t, isb_0, isb_1, ↓reduceIte, ↓if_pos, ↓if_neg, Int.reduceEq, Int.reduceLT, Int.reduceLE, Int.reduceNe, Int.reduceNeg, Int.reduceAdd, Int.reduceSub, Int.reduceMul, Int.add_sub_cancel, tg_ms, ln_ms, nx_ms, tg_ma, ln_ma, nx_ma, mv_s, mv_o, mv_ma_eq, mv_ma_ne, wrk, within_t, within_f, in_t, in_f, isCell_t, isCell_f, isHolder_t, isHolder_f, isHolderm_t, isHolderm_f, isDay_t, isDay_f, isDaym_t, isDaym_f, isSheet_t, isSheet_f, isSheetm_t, isSheetm_f,  ↓gk100, ↓g100_0, ↓g100_1, ↓g100_2, pi100_2, S100_2, ↓g100_3, ↓g100_4, ↓g100_5, ↓g100_6, ↓gk101, ↓g101_0, ↓g101_1, ↓g101_2, ↓g101_3, ↓g101_4, ↓g101_5, ↓g101_6, ↓g101_7, pi101_7, S101_7, ↓g101_8, pi101_8, S101_8, ↓g101_9, pi101_9, S101_9, ↓g101_10, pi101_10, S101_10, ↓gk102, ↓g102_0, ↓g102_1, ↓g102_2, ↓g102_3, ↓g102_4, ↓g102_5, pi102_5, S102_5, ↓al103, ri103, wi103, S103, M103, ↓al104, ri104, wi104, S104, M104, ↓al105, ri105, wi105, S105, M105, ↓al106, ri106, wi106, S106, M106, ↓al107, ri107, wi107, S107, M107, ↓gk108, ↓g108_0, ↓g108_1, ↓g108_2, ↓g108_3, ↓g108_4, ↓g108_5, ↓g108_6, pi108_6, S108_6, ↓g108_7, pi108_7, S108_7, ↓g108_8, pi108_8, S108_8, ↓g108_9, pi108_9, S108_9, ↓al109, ri109, wi109, S109, M109, ↓al110, ri110, wi110, S110, M110, ↓al111, ri111, wi111, S111, M111, ↓al112, ri112, wi112, S112, M112, ↓al113, ri113, wi113, S113, M113, ↓al114, ri114, wi114, S114, M114, ↓gk115, ↓g115_0, ↓g115_1, ↓g115_2, ↓g115_3, ↓g115_4, ↓g115_5, ↓g115_6, ↓g115_7, ↓g115_8, pi115_8, S115_8, ↓al116, ri116, wi116, S116, M116, ↓al117, ri117, wi117, S117, M117, ↓al118, ri118, wi118, S118, M118, ↓al119, ri119, wi119, S119, M119, ↓al120, ri120, wi120, S120, M120, ↓al121, ri121, wi121, S121, M121, ↓al122, ri122, wi122, S122, M122, ↓al123, ri123, wi123, S123, M123, ↓gk124, ↓g124_0, ↓g124_1, ↓g124_2, pi124_2, S124_2, ↓g124_3, ↓g124_4, ↓al125, ri125, wi125, S125, M125, ↓al126, ri126, wi126, S126, M126, ↓al127, ri127, wi127, S127, M127, ↓al128, ri128, wi128, S128, M128, ↓al129, ri129, ↓al130, ri130, wi130, S130, M130, ↓al131, ri131, wi131, S131, M131, ↓gk132, ↓g132_0, ↓g132_1, pi132_1, S132_1, ↓g132_2, pi132_2, S132_2, ↓al133, ri133, wi133, S133, M133, ↓gk134, ↓g134_0, ↓g134_1, pi134_1, S134_1, ↓g134_2, pi134_2, S134_2, ↓al135, ri135, wi135, S135, M135, ↓gk136, ↓g136_0, ↓g136_1, pi136_1, S136_1, ↓g136_2, pi136_2, S136_2, ↓al137, ri137, wi137, S137, M137, ↓gk138, ↓g138_0, ↓g138_1, pi138_1, S138_1, ↓g138_2, pi138_2, S138_2, ↓al139, ri139, wi139, S139, M139, ↓al179, ri179, wi179, S179, M179, ↓gk180, ↓g180_0, ↓g180_1, pi180_1, S180_1, ↓g180_2, pi180_2, S180_2, ↓g180_3, ↓g180_4, ↓g180_5, pi180_5, S180_5, ↓g180_6, pi180_6, S180_6, ↓g180_7, pi180_7, S180_7, ↓g180_8, pi180_8, S180_8, ↓al181, ri181, wi181, S181, M181, ↓al182, ri182, wi182, S182, M182, ↓al183, ri183, wi183, S183, M183, ↓gk184, ↓g184_0, ↓g184_1, ↓g184_2, ↓g184_3, ↓g184_4, ↓g184_5, ↓g184_6, pi184_6, S184_6, ↓al185, ri185, wi185, S185, M185, ↓al186, ri186, wi186, S186, M186, ↓al187, ri187, wi187, S187, M187, ↓al188, ri188, wi188, S188, M188, ↓al189, ri189, wi189, S189, M189, ↓al190, ri190, wi190, S190, M190, ↓gk191, ↓g191_0, ↓g191_1, ↓g191_2, ↓g191_3, ↓g191_4, ↓g191_5, pi191_5, S191_5, ↓g191_6, pi191_6, S191_6, ↓al192, ri192, wi192, S192, M192, ↓al193, ri193, wi193, S193, M193, ↓al194, ri194, wi194, S194, M194, ↓al195, ri195, wi195, S195, M195, ↓al196, ri196, wi196, S196, M196]
  · have pt := P.1 t (by omega) (by omega)
    rw [c179] at pt
    obtain ⟨p1, p2, p3, p4, p5⟩ : (212 ≤ mv C 179 t ∧ mv C 179 t < nx C ∧ tg C (mv C 179 t) = 100 ∧ ln C (mv C 179 t) = 60 ∧ tg C (mv C 179 t - 3) ≠ 3) := by
      rcases pt with z | z
      · exact absurd z c
      · exact z
    obtain ⟨r, hr⟩ : ∃ r, r = mv C 179 t := ⟨_, rfl⟩
    rw [← hr] at p1 p2 p3 p4
    have fe := fill_e (n := n) (v := -1) (h := C) hn p3 (by omega) p4 (by omega) (by omega)
    obtain ⟨C1, hC⟩ : ∃ C1, C1 = ma C r (fun j => if 0 ≤ j ∧ j < 60 then -1 else mv C r j) := ⟨_, rfl⟩
    obtain ⟨I3, S3⟩ := I.row (r := r) (t := t) (C1 := C1) SC SG p1 p2 hr.symm ht (by rw [hC]; rfl) (fun a j q => by rw [hC, mv_ma_ne q])
    rw [← hC] at fe
    refine ⟨r, C1, p1, by rw [hC, nx_ma]; exact p2, by rw [hC, tg_ma]; exact p3, by rw [hC, ln_ma]; exact p4, ?_, I3, S3, by rw [hC, mv_ma_ne (by omega)]; exact hr.symm, fun q q0 q1 => by rw [hC, mv_ma_eq, if_pos ⟨q0, q1⟩], fun a j ha => by rw [hC, mv_ma_ne (by omega)], by rw [hC, nx_ma]; omega, by rw [hC, sl_ma]; omega⟩
    have hr' := hr.symm
    have rn : r ≠ 0 := by omega
    simp (disch := first | assumption | (with_reducible show Sh _; simp only [S100_2, S101_7, S101_8, S101_9, S101_10, S102_5, S103, M103, S104, M104, S105, M105, S106, M106, S107, M107, S108_6, S108_7, S108_8, S108_9, S109, M109, S110, M110, S111, M111, S112, M112, S113, M113, S114, M114, S115_8, S116, M116, S117, M117, S118, M118, S119, M119, S120, M120, S121, M121, S122, M122, S123, M123, S124_2, S125, M125, S126, M126, S127, M127, S128, M128, S130, M130, S131, M131, S132_1, S132_2, S133, M133, S134_1, S134_2, S135, M135, S136_1, S136_2, S137, M137, S138_1, S138_2, S139, M139, S140_7, S140_8, S140_9, S140_10, S141_5, S142, M142, S143, M143, S144, M144, S145, M145, S146, M146, S147_6, S147_7, S147_8, S147_9, S148, M148, S149, M149, S150, M150, S151, M151, S152, M152, S153, M153, S154_8, S155, M155, S156, M156, S157, M157, S158, M158, S159, M159, S160, M160, S161, M161, S162, M162, S163_2, S164, M164, S165, M165, S166, M166, S167, M167, S169, M169, S170, M170, S171_1, S171_2, S172, M172, S173_1, S173_2, S174, M174, S175_1, S175_2, S176, M176, S177_1, S177_2, S178, M178, S179, M179, S180_1, S180_2, S180_5, S180_6, S180_7, S180_8, S181, M181, S182, M182, S183, M183, S184_6, S185, M185, S186, M186, S187, M187, S188, M188, S189, M189, S190, M190, S191_5, S191_6, S192, M192, S193, M193, S194, M194, S195, M195, S196, M196, S197_0, S197_3, S197_4, S197_5, S197_6, S197_7, S197_13, S198, M198, S199, M199, S200, M200, S201, M201, S202, M202, S203, M203, S204, M204, S205, M205, S206, M206, S207, M207, S208, M208, S209, M209, S210, M210, S211, M211] <;> assumption) | (with_reducible show tg _ _ = _; simp only [tg_ms, tg_ma]; assumption) | (with_reducible show ln _ _ = _; simp only [ln_ms, ln_ma]; assumption) | (with_reducible show J64 _; unfold J64; omega) | (with_reducible show J _; unfold J; omega) | omega) only [↓f_X11_remember, ↓f_X11_remember_120, ↓f_X11_remember_19, ↓hr', ↓rn, ↓fe, ↓bd_i, ↓lb_i, ↓rd_i, ↓wt_i, ↓pf_i, bdi_e, lbi_e, ↓ck_t, isb_0, isb_1, ↓reduceIte, ↓if_pos, ↓if_neg, Int.reduceEq, Int.reduceLT, Int.reduceLE, Int.reduceNe, Int.reduceNeg, Int.reduceAdd, Int.reduceSub, Int.reduceMul, Int.add_sub_cancel, tg_ms, ln_ms, nx_ms, tg_ma, ln_ma, nx_ma, mv_s, mv_o, mv_ma_eq, mv_ma_ne, wrk, within_t, within_f, in_t, in_f, isCell_t, isCell_f, isHolder_t, isHolder_f, isHolderm_t, isHolderm_f, isDay_t, isDay_f, isDaym_t, isDaym_f, isSheet_t, isSheet_f, isSheetm_t, isSheetm_f,  ↓gk100, ↓g100_0, ↓g100_1, ↓g100_2, pi100_2, S100_2, ↓g100_3, ↓g100_4, ↓g100_5, ↓g100_6, ↓gk101, ↓g101_0, ↓g101_1, ↓g101_2, ↓g101_3, ↓g101_4, ↓g101_5, ↓g101_6, ↓g101_7, pi101_7, S101_7, ↓g101_8, pi101_8, S101_8, ↓g101_9, pi101_9, S101_9, ↓g101_10, pi101_10, S101_10, ↓gk102, ↓g102_0, ↓g102_1, ↓g102_2, ↓g102_3, ↓g102_4, ↓g102_5, pi102_5, S102_5, ↓al103, ri103, wi103, S103, M103, ↓al104, ri104, wi104, S104, M104, ↓al105, ri105, wi105, S105, M105, ↓al106, ri106, wi106, S106, M106, ↓al107, ri107, wi107, S107, M107, ↓gk108, ↓g108_0, ↓g108_1, ↓g108_2, ↓g108_3, ↓g108_4, ↓g108_5, ↓g108_6, pi108_6, S108_6, ↓g108_7, pi108_7, S108_7, ↓g108_8, pi108_8, S108_8, ↓g108_9, pi108_9, S108_9, ↓al109, ri109, wi109, S109, M109, ↓al110, ri110, wi110, S110, M110, ↓al111, ri111, wi111, S111, M111, ↓al112, ri112, wi112, S112, M112, ↓al113, ri113, wi113, S113, M113, ↓al114, ri114, wi114, S114, M114, ↓gk115, ↓g115_0, ↓g115_1, ↓g115_2, ↓g115_3, ↓g115_4, ↓g115_5, ↓g115_6, ↓g115_7, ↓g115_8, pi115_8, S115_8, ↓al116, ri116, wi116, S116, M116, ↓al117, ri117, wi117, S117, M117, ↓al118, ri118, wi118, S118, M118, ↓al119, ri119, wi119, S119, M119, ↓al120, ri120, wi120, S120, M120, ↓al121, ri121, wi121, S121, M121, ↓al122, ri122, wi122, S122, M122, ↓al123, ri123, wi123, S123, M123, ↓gk124, ↓g124_0, ↓g124_1, ↓g124_2, pi124_2, S124_2, ↓g124_3, ↓g124_4, ↓al125, ri125, wi125, S125, M125, ↓al126, ri126, wi126, S126, M126, ↓al127, ri127, wi127, S127, M127, ↓al128, ri128, wi128, S128, M128, ↓al129, ri129, ↓al130, ri130, wi130, S130, M130, ↓al131, ri131, wi131, S131, M131, ↓gk132, ↓g132_0, ↓g132_1, pi132_1, S132_1, ↓g132_2, pi132_2, S132_2, ↓al133, ri133, wi133, S133, M133, ↓gk134, ↓g134_0, ↓g134_1, pi134_1, S134_1, ↓g134_2, pi134_2, S134_2, ↓al135, ri135, wi135, S135, M135, ↓gk136, ↓g136_0, ↓g136_1, pi136_1, S136_1, ↓g136_2, pi136_2, S136_2, ↓al137, ri137, wi137, S137, M137, ↓gk138, ↓g138_0, ↓g138_1, pi138_1, S138_1, ↓g138_2, pi138_2, S138_2, ↓al139, ri139, wi139, S139, M139, ↓al179, ri179, wi179, S179, M179, ↓gk180, ↓g180_0, ↓g180_1, pi180_1, S180_1, ↓g180_2, pi180_2, S180_2, ↓g180_3, ↓g180_4, ↓g180_5, pi180_5, S180_5, ↓g180_6, pi180_6, S180_6, ↓g180_7, pi180_7, S180_7, ↓g180_8, pi180_8, S180_8, ↓al181, ri181, wi181, S181, M181, ↓al182, ri182, wi182, S182, M182, ↓al183, ri183, wi183, S183, M183, ↓gk184, ↓g184_0, ↓g184_1, ↓g184_2, ↓g184_3, ↓g184_4, ↓g184_5, ↓g184_6, pi184_6, S184_6, ↓al185, ri185, wi185, S185, M185, ↓al186, ri186, wi186, S186, M186, ↓al187, ri187, wi187, S187, M187, ↓al188, ri188, wi188, S188, M188, ↓al189, ri189, wi189, S189, M189, ↓al190, ri190, wi190, S190, M190, ↓gk191, ↓g191_0, ↓g191_1, ↓g191_2, ↓g191_3, ↓g191_4, ↓g191_5, pi191_5, S191_5, ↓g191_6, pi191_6, S191_6, ↓al192, ri192, wi192, S192, M192, ↓al193, ri193, wi193, S193, M193, ↓al194, ri194, wi194, S194, M194, ↓al195, ri195, wi195, S195, M195, ↓al196, ri196, wi196, S196, M196]
end DGE
