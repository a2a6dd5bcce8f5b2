/-! WORDS OF ORDERS: the class's side -/
def wch (w j : Int) : Int := (wrdL.getD w.toNat []).getD j.toNat 0
def wln (w : Int) : Int := ((wrdL.getD w.toNat []).length : Int)
theorem wch_f : ∀ w : Fin 7, ∀ j : Fin 8, 0 ≤ wch ((w : Nat) : Int) ((j : Nat) : Int) ∧ wch ((w : Nat) : Int) ((j : Nat) : Int) ≤ 127 := by decide
theorem wln_f : ∀ w : Fin 7, 4 ≤ wln ((w : Nat) : Int) ∧ wln ((w : Nat) : Int) ≤ 7 := by decide
theorem wln_bd {w : Int} (h : 0 ≤ w ∧ w < 7) : 4 ≤ wln w ∧ wln w ≤ 7 := by
  have z := wln_f ⟨w.toNat, by omega⟩
  rw [show (((⟨w.toNat, by omega⟩ : Fin 7) : Nat) : Int) = w from Int.toNat_of_nonneg h.1] at z
  exact z
theorem wch_bd {w j : Int} (h : 0 ≤ w ∧ w < 7) (q : 0 ≤ j ∧ j < 8) : 0 ≤ wch w j ∧ wch w j ≤ 127 := by
  have z := wch_f ⟨w.toNat, by omega⟩ ⟨j.toNat, by omega⟩
  rw [show (((⟨w.toNat, by omega⟩ : Fin 7) : Nat) : Int) = w from Int.toNat_of_nonneg h.1, show (((⟨j.toNat, by omega⟩ : Fin 8) : Nat) : Int) = j from Int.toNat_of_nonneg q.1] at z
  exact z
theorem c16_f : ∀ x : Fin 128, c16 (ban ((x : Nat) : Int) 255) = ((x : Nat) : Int) := by decide +kernel
theorem c16_b {x : Int} (q : 0 ≤ x ∧ x ≤ 127) : c16 (ban x 255) = x := by
  have z := c16_f ⟨x.toNat, by omega⟩
  rw [show (((⟨x.toNat, by omega⟩ : Fin 128) : Nat) : Int) = x from Int.toNat_of_nonneg q.1] at z
  exact z
theorem inc_t {x : Int} (q : 0 ≤ x ∧ x ≤ 65535) : inc x = true := by
  unfold inc; rw [decide_eq_true q.1, decide_eq_true q.2]; rfl
theorem shr0_f : ∀ x : Fin 8, shr ((x : Nat) : Int) 0 = ((x : Nat) : Int) := by decide +kernel
theorem shr0_b {x : Int} (q : 0 ≤ x ∧ x ≤ 7) : shr x 0 = x := by
  have z := shr0_f ⟨x.toNat, by omega⟩
  rw [show (((⟨x.toNat, by omega⟩ : Fin 8) : Nat) : Int) = x from Int.toNat_of_nonneg q.1] at z
  exact z
theorem inb_0 : inb 0 = true := rfl
section WRD
variable {n : Nat} {H h : MM} {w j o L v : Int} {B fc : Int → Int}
theorem slen_e (T : StI H) (hw : 0 ≤ w ∧ w < 7) : f_J0_length_8abf5 n (10 + w) H = some (wln w, H) := by
  obtain ⟨t1, t2, t3, t4, t5, t6⟩ := T.1 w hw.1 hw.2
  have t5' : ln H (30 + w) = wln w := t5
  have wb := wln_bd hw
  have g1 : ∀ (j : Int) (k : Int → RR), gf H (10 + w) 13 j k = k (mv H (10 + w) j) := fun j k => gf_e t1
  have g2 : ∀ (k : RR), gk H (10 + w) 13 k = k := fun k => gk_e t1
  have g3 : ∀ (k : Int → RR), al H (30 + w) 102 k = k (ln H (30 + w)) := fun k => al_e t4
  simp (disch := first | assumption | (with_reducible show Sh _; simp only [S100_2, S101_7, S101_8, S101_9, S101_10, S102_5, S103, M103, S104, M104, S105, M105, S106, M106, S107, M107, S108_6, S108_7, S108_8, S108_9, S109, M109, S110, M110, S111, M111, S112, M112, S113, M113, S114, M114, S115_8, S116, M116, S117, M117, S118, M118, S119, M119, S120, M120, S121, M121, S122, M122, S123, M123, S124_2, S125, M125, S126, M126, S127, M127, S128, M128, S130, M130, S131, M131, S132_1, S132_2, S133, M133, S134_1, S134_2, S135, M135, S136_1, S136_2, S137, M137, S138_1, S138_2, S139, M139, S140_7, S140_8, S140_9, S140_10, S141_5, S142, M142, S143, M143, S144, M144, S145, M145, S146, M146, S147_6, S147_7, S147_8, S147_9, S148, M148, S149, M149, S150, M150, S151, M151, S152, M152, S153, M153, S154_8, S155, M155, S156, M156, S157, M157, S158, M158, S159, M159, S160, M160, S161, M161, S162, M162, S163_2, S164, M164, S165, M165, S166, M166, S167, M167, S169, M169, S170, M170, S171_1, S171_2, S172, M172, S173_1, S173_2, S174, M174, S175_1, S175_2, S176, M176, S177_1, S177_2, S178, M178, S179, M179, S180_1, S180_2, S180_5, S180_6, S180_7, S180_8, S181, M181, S182, M182, S183, M183, S184_6, S185, M185, S186, M186, S187, M187, S188, M188, S189, M189, S190, M190, S191_5, S191_6, S192, M192, S193, M193, S194, M194, S195, M195, S196, M196, S197_0, S197_3, S197_4, S197_5, S197_6, S197_7, S197_13, S198, M198, S199, M199, S200, M200, S201, M201, S202, M202, S203, M203, S204, M204, S205, M205, S206, M206, S207, M207, S208, M208, S209, M209, S210, M210, S211, M211] <;> assumption) | (with_reducible show tg _ _ = _; simp only [tg_ms, tg_ma]; assumption) | (with_reducible show ln _ _ = _; simp only [ln_ms, ln_ma]; assumption) | (with_reducible show J64 _; unfold J64; omega) | (with_reducible show J _; unfold J; omega) | omega) only [↓f_J0_length_8abf5, ↓f_J0_coder_7d493, ↓f_J0_coder_7d493_14, ↓g1, ↓g2, ↓g3, ↓t2, ↓t3, ↓t5', ↓shr0_b, ↓inb_0, ↓bd_i, ↓lb_i, ↓rd_i, ↓wt_i, ↓pf_i, bdi_e, lbi_e, ↓ck_t, isb_0, isb_1, ↓reduceIte, ↓if_pos, ↓if_neg, Int.reduceEq, Int.reduceLT, Int.reduceLE, Int.reduceNe, Int.reduceNeg, Int.reduceAdd, Int.reduceSub, Int.reduceMul, Int.add_sub_cancel, tg_ms, ln_ms, nx_ms, tg_ma, ln_ma, nx_ma, mv_s, mv_o, mv_ma_eq, mv_ma_ne, wrk, within_t, within_f, in_t, in_f, isCell_t, isCell_f, isHolder_t, isHolder_f, isHolderm_t, isHolderm_f, isDay_t, isDay_f, isDaym_t, isDaym_f, isSheet_t, isSheet_f, isSheetm_t, isSheetm_f]
theorem schr_e (T : StI H) (hw : 0 ≤ w ∧ w < 7) (hj : 0 ≤ j ∧ j < wln w) : f_J0_charAt_5068e n (10 + w) j H = some (wch w j, H) := by
  obtain ⟨t1, t2, t3, t4, t5, t6⟩ := T.1 w hw.1 hw.2
  have t5' : ln H (30 + w) = wln w := t5
  have t6' : mv H (30 + w) j = wch w j := t6 j hj.1 hj.2
  have wb := wln_bd hw
  have cb := wch_bd hw (j := j) (by omega)
  have g1 : ∀ (j : Int) (k : Int → RR), gf H (10 + w) 13 j k = k (mv H (10 + w) j) := fun j k => gf_e t1
  have g2 : ∀ (k : RR), gk H (10 + w) 13 k = k := fun k => gk_e t1
  have g3 : ∀ (k : Int → RR), al H (30 + w) 102 k = k (ln H (30 + w)) := fun k => al_e t4
  have g4 : ∀ (k : Int → RR), @rdi H (30 + w) 102 j ⟨k⟩ = k (wch w j) := fun k => by rw [show @rdi H (30 + w) 102 j ⟨k⟩ = k (mv H (30 + w) j) from rd_e t4 hj.1 (by omega), t6']
  simp (disch := first | assumption | (with_reducible show Sh _; simp only [S100_2, S101_7, S101_8, S101_9, S101_10, S102_5, S103, M103, S104, M104, S105, M105, S106, M106, S107, M107, S108_6, S108_7, S108_8, S108_9, S109, M109, S110, M110, S111, M111, S112, M112, S113, M113, S114, M114, S115_8, S116, M116, S117, M117, S118, M118, S119, M119, S120, M120, S121, M121, S122, M122, S123, M123, S124_2, S125, M125, S126, M126, S127, M127, S128, M128, S130, M130, S131, M131, S132_1, S132_2, S133, M133, S134_1, S134_2, S135, M135, S136_1, S136_2, S137, M137, S138_1, S138_2, S139, M139, S140_7, S140_8, S140_9, S140_10, S141_5, S142, M142, S143, M143, S144, M144, S145, M145, S146, M146, S147_6, S147_7, S147_8, S147_9, S148, M148, S149, M149, S150, M150, S151, M151, S152, M152, S153, M153, S154_8, S155, M155, S156, M156, S157, M157, S158, M158, S159, M159, S160, M160, S161, M161, S162, M162, S163_2, S164, M164, S165, M165, S166, M166, S167, M167, S169, M169, S170, M170, S171_1, S171_2, S172, M172, S173_1, S173_2, S174, M174, S175_1, S175_2, S176, M176, S177_1, S177_2, S178, M178, S179, M179, S180_1, S180_2, S180_5, S180_6, S180_7, S180_8, S181, M181, S182, M182, S183, M183, S184_6, S185, M185, S186, M186, S187, M187, S188, M188, S189, M189, S190, M190, S191_5, S191_6, S192, M192, S193, M193, S194, M194, S195, M195, S196, M196, S197_0, S197_3, S197_4, S197_5, S197_6, S197_7, S197_13, S198, M198, S199, M199, S200, M200, S201, M201, S202, M202, S203, M203, S204, M204, S205, M205, S206, M206, S207, M207, S208, M208, S209, M209, S210, M210, S211, M211] <;> assumption) | (with_reducible show tg _ _ = _; simp only [tg_ms, tg_ma]; assumption) | (with_reducible show ln _ _ = _; simp only [ln_ms, ln_ma]; assumption) | (with_reducible show J64 _; unfold J64; omega) | (with_reducible show J _; unfold J; omega) | omega) only [↓f_J0_charAt_5068e, ↓f_J0_isLatin1_aae02, ↓f_J0_isLatin1_aae02_17, ↓f_J0_isLatin1_aae02_18, ↓f_J1_charAt_3b067, ↓f_J0_checkIndex_df160, ↓f_J3_checkIndex_8e157, ↓f_J3_checkIndex_8e157_9, ↓g1, ↓g2, ↓g3, ↓g4, ↓t2, ↓t3, ↓t5', ↓c16_b, ↓inc_t, ↓bd_i, ↓lb_i, ↓rd_i, ↓wt_i, ↓pf_i, bdi_e, lbi_e, ↓ck_t, isb_0, isb_1, ↓reduceIte, ↓if_pos, ↓if_neg, Int.reduceEq, Int.reduceLT, Int.reduceLE, Int.reduceNe, Int.reduceNeg, Int.reduceAdd, Int.reduceSub, Int.reduceMul, Int.add_sub_cancel, tg_ms, ln_ms, nx_ms, tg_ma, ln_ma, nx_ma, mv_s, mv_o, mv_ma_eq, mv_ma_ne, wrk, within_t, within_f, in_t, in_f, isCell_t, isCell_f, isHolder_t, isHolder_f, isHolderm_t, isHolderm_f, isDay_t, isDay_f, isDaym_t, isDaym_f, isSheet_t, isSheet_f, isSheetm_t, isSheetm_f]
theorem fit_nil : fit B [] j = 0 := rfl
theorem fit_drop (l : List Int) (i : Nat) (q : i < l.length) : fit B (l.drop i) j = if B j = l.getD i 0 then fit B (l.drop (i + 1)) (j + 1) + 1 else 0 := by
  rw [List.drop_eq_getElem_cons q, List.getD_eq_getElem _ _ q]
  rfl
theorem fit_bd : ∀ (l : List Int) (j : Int), 0 ≤ fit B l j ∧ fit B l j ≤ l.length
  | [], j => ⟨Int.le_refl _, Int.le_refl _⟩
  | c :: cs, j => by
    have z := fit_bd cs (j + 1)
    unfold fit
    split
    · rw [List.length_cons]; omega
    · rw [List.length_cons]; omega
theorem fitL (hb : ∀ j : Int, 0 ≤ j → (B j = -1 ↔ L ≤ j)) : ∀ (l : List Int) (j : Int), 0 ≤ j → (∀ c ∈ l, 0 ≤ c) → j ≤ L → j + fit B l j ≤ L
  | [], j, j0, _, j1 => by unfold fit; omega
  | c :: cs, j, j0, hc, j1 => by
    unfold fit
    by_cases e : B j = c
    · rw [if_pos e]
      have c0 := hc c (List.mem_cons_self ..)
      have z := hb j j0
      have y := fitL hb cs (j + 1) (by omega) (fun x hx => hc x (List.mem_cons_of_mem _ hx)) (by omega)
      omega
    · rw [if_neg e]; omega
theorem fitting_l (T : StI h) (b : OB h o L B fc) (hw : 0 ≤ w ∧ w < 7) (q : 0 ≤ j ∧ j ≤ L) : ∀ (m i : Nat), (i : Int) ≤ wln w → wln w - i < (m : Int) → j + i ≤ L → f_X3_fitting_2 n o (10 + w) m (i : Int) (ms h o 5 j) = some ((i : Int) + fit B ((wrdL.getD w.toNat []).drop i) (j + i), ms h o 5 j)
  | 0, i, i1, i2, i3 => by omega
  | m + 1, i, i1, i2, i3 => by
    have l := b.len
    have o1 := b.1
    have wb := wln_bd hw
    have T' : StI (ms h o 5 j) := T.keep ((Imm.refl h).ms (Or.inr (Or.inr ⟨o1, Or.inl ⟨b.2.1, rfl⟩⟩))) (by sorry)
    obtain ⟨t1, -⟩ := T'.1 w hw.1 hw.2
    have g2 : ∀ (k : RR), gk (ms h o 5 j) (10 + w) 13 k = k := fun k => gk_e t1
    have sl := slen_e (n := n) T' hw
    by_cases c : (i : Int) < wln w
    · have sc := schr_e (n := n) T' hw (j := (i : Int)) ⟨by omega, c⟩
      have cb := wch_bd hw (j := (i : Int)) (by omega)
      have z := b.bd (j := j + i) (by omega)
      have s := sbf (B (j + i))
      rw [fit_drop _ i (by have : wln w = ((wrdL.getD w.toNat []).length : Int) := rfl; omega)]
      have wd : wch w (i : Int) = (wrdL.getD w.toNat []).getD i 0 := by unfold wch; rw [Int.toNat_natCast]
      rw [← wd]
      by_cases e : L ≤ j + i
      · rw [if_neg (by omega)]
        simp (disch := first | assumption | (with_reducible show Sh _; simp only [S100_2, S101_7, S101_8, S101_9, S101_10, S102_5, S103, M103, S104, M104, S105, M105, S106, M106, S107, M107, S108_6, S108_7, S108_8, S108_9, S109, M109, S110, M110, S111, M111, S112, M112, S113, M113, S114, M114, S115_8, S116, M116, S117, M117, S118, M118, S119, M119, S120, M120, S121, M121, S122, M122, S123, M123, S124_2, S125, M125, S126, M126, S127, M127, S128, M128, S130, M130, S131, M131, S132_1, S132_2, S133, M133, S134_1, S134_2, S135, M135, S136_1, S136_2, S137, M137, S138_1, S138_2, S139, M139, S140_7, S140_8, S140_9, S140_10, S141_5, S142, M142, S143, M143, S144, M144, S145, M145, S146, M146, S147_6, S147_7, S147_8, S147_9, S148, M148, S149, M149, S150, M150, S151, M151, S152, M152, S153, M153, S154_8, S155, M155, S156, M156, S157, M157, S158, M158, S159, M159, S160, M160, S161, M161, S162, M162, S163_2, S164, M164, S165, M165, S166, M166, S167, M167, S169, M169, S170, M170, S171_1, S171_2, S172, M172, S173_1, S173_2, S174, M174, S175_1, S175_2, S176, M176, S177_1, S177_2, S178, M178, S179, M179, S180_1, S180_2, S180_5, S180_6, S180_7, S180_8, S181, M181, S182, M182, S183, M183, S184_6, S185, M185, S186, M186, S187, M187, S188, M188, S189, M189, S190, M190, S191_5, S191_6, S192, M192, S193, M193, S194, M194, S195, M195, S196, M196, S197_0, S197_3, S197_4, S197_5, S197_6, S197_7, S197_13, S198, M198, S199, M199, S200, M200, S201, M201, S202, M202, S203, M203, S204, M204, S205, M205, S206, M206, S207, M207, S208, M208, S209, M209, S210, M210, S211, M211] <;> assumption) | (with_reducible show tg _ _ = _; simp only [tg_ms, tg_ma]; assumption) | (with_reducible show ln _ _ = _; simp only [ln_ms, ln_ma]; assumption) | (with_reducible show J64 _; unfold J64; omega) | (with_reducible show J _; unfold J; omega) | omega) only [↓f_X3_fitting_2, ↓f_X3_fitting_2b, ↓f_X3_fitting_49, ↓g2, ↓sl, ↓op5 b, ↓op1 b, ↓opa b, ↓Int.add_zero, ↓bd_i, ↓lb_i, ↓rd_i, ↓wt_i, ↓pf_i, bdi_e, lbi_e, ↓ck_t, isb_0, isb_1, ↓reduceIte, ↓if_pos, ↓if_neg, Int.reduceEq, Int.reduceLT, Int.reduceLE, Int.reduceNe, Int.reduceNeg, Int.reduceAdd, Int.reduceSub, Int.reduceMul, Int.add_sub_cancel, tg_ms, ln_ms, nx_ms, tg_ma, ln_ma, nx_ma, mv_s, mv_o, mv_ma_eq, mv_ma_ne, wrk, within_t, within_f, in_t, in_f, isCell_t, isCell_f, isHolder_t, isHolder_f, isHolderm_t, isHolderm_f, isDay_t, isDay_f, isDaym_t, isDaym_f, isSheet_t, isSheet_f, isSheetm_t, isSheetm_f]
      · by_cases f : B (j + i) = wch w (i : Int)
        · rw [if_pos f]
          have ih := fitting_l T b hw q m (i + 1) (by omega) (by omega) (by omega)
          rw [show ((i + 1 : Nat) : Int) = (i : Int) + 1 by omega, show j + ((i : Int) + 1) = j + i + 1 by omega] at ih
          rw [show (i : Int) + (fit B ((wrdL.getD w.toNat []).drop (i + 1)) (j + i + 1) + 1) = (i : Int) + 1 + fit B ((wrdL.getD w.toNat []).drop (i + 1)) (j + i + 1) by omega]
          have s2 : sb (B (j + i)) = wch w (i : Int) := by omega
          simp (disch := first | assumption | (with_reducible show Sh _; simp only [S100_2, S101_7, S101_8, S101_9, S101_10, S102_5, S103, M103, S104, M104, S105, M105, S106, M106, S107, M107, S108_6, S108_7, S108_8, S108_9, S109, M109, S110, M110, S111, M111, S112, M112, S113, M113, S114, M114, S115_8, S116, M116, S117, M117, S118, M118, S119, M119, S120, M120, S121, M121, S122, M122, S123, M123, S124_2, S125, M125, S126, M126, S127, M127, S128, M128, S130, M130, S131, M131, S132_1, S132_2, S133, M133, S134_1, S134_2, S135, M135, S136_1, S136_2, S137, M137, S138_1, S138_2, S139, M139, S140_7, S140_8, S140_9, S140_10, S141_5, S142, M142, S143, M143, S144, M144, S145, M145, S146, M146, S147_6, S147_7, S147_8, S147_9, S148, M148, S149, M149, S150, M150, S151, M151, S152, M152, S153, M153, S154_8, S155, M155, S156, M156, S157, M157, S158, M158, S159, M159, S160, M160, S161, M161, S162, M162, S163_2, S164, M164, S165, M165, S166, M166, S167, M167, S169, M169, S170, M170, S171_1, S171_2, S172, M172, S173_1, S173_2, S174, M174, S175_1, S175_2, S176, M176, S177_1, S177_2, S178, M178, S179, M179, S180_1, S180_2, S180_5, S180_6, S180_7, S180_8, S181, M181, S182, M182, S183, M183, S184_6, S185, M185, S186, M186, S187, M187, S188, M188, S189, M189, S190, M190, S191_5, S191_6, S192, M192, S193, M193, S194, M194, S195, M195, S196, M196, S197_0, S197_3, S197_4, S197_5, S197_6, S197_7, S197_13, S198, M198, S199, M199, S200, M200, S201, M201, S202, M202, S203, M203, S204, M204, S205, M205, S206, M206, S207, M207, S208, M208, S209, M209, S210, M210, S211, M211] <;> assumption) | (with_reducible show tg _ _ = _; simp only [tg_ms, tg_ma]; assumption) | (with_reducible show ln _ _ = _; simp only [ln_ms, ln_ma]; assumption) | (with_reducible show J64 _; unfold J64; omega) | (with_reducible show J _; unfold J; omega) | omega) only [↓f_X3_fitting_2, ↓f_X3_fitting_2b, ↓f_X3_fitting_49, ↓g2, ↓sl, ↓sc, ↓op5 b, ↓op1 b, ↓opa b, ↓opr b, ↓s2, ↓bd_i, ↓lb_i, ↓rd_i, ↓wt_i, ↓pf_i, bdi_e, lbi_e, ↓ck_t, isb_0, isb_1, ↓reduceIte, ↓if_pos, ↓if_neg, Int.reduceEq, Int.reduceLT, Int.reduceLE, Int.reduceNe, Int.reduceNeg, Int.reduceAdd, Int.reduceSub, Int.reduceMul, Int.add_sub_cancel, tg_ms, ln_ms, nx_ms, tg_ma, ln_ma, nx_ma, mv_s, mv_o, mv_ma_eq, mv_ma_ne, wrk, within_t, within_f, in_t, in_f, isCell_t, isCell_f, isHolder_t, isHolder_f, isHolderm_t, isHolderm_f, isDay_t, isDay_f, isDaym_t, isDaym_f, isSheet_t, isSheet_f, isSheetm_t, isSheetm_f]
          exact ih
        · rw [if_neg f]
          have s2 : sb (B (j + i)) ≠ wch w (i : Int) := by omega
          simp (disch := first | assumption | (with_reducible show Sh _; simp only [S100_2, S101_7, S101_8, S101_9, S101_10, S102_5, S103, M103, S104, M104, S105, M105, S106, M106, S107, M107, S108_6, S108_7, S108_8, S108_9, S109, M109, S110, M110, S111, M111, S112, M112, S113, M113, S114, M114, S115_8, S116, M116, S117, M117, S118, M118, S119, M119, S120, M120, S121, M121, S122, M122, S123, M123, S124_2, S125, M125, S126, M126, S127, M127, S128, M128, S130, M130, S131, M131, S132_1, S132_2, S133, M133, S134_1, S134_2, S135, M135, S136_1, S136_2, S137, M137, S138_1, S138_2, S139, M139, S140_7, S140_8, S140_9, S140_10, S141_5, S142, M142, S143, M143, S144, M144, S145, M145, S146, M146, S147_6, S147_7, S147_8, S147_9, S148, M148, S149, M149, S150, M150, S151, M151, S152, M152, S153, M153, S154_8, S155, M155, S156, M156, S157, M157, S158, M158, S159, M159, S160, M160, S161, M161, S162, M162, S163_2, S164, M164, S165, M165, S166, M166, S167, M167, S169, M169, S170, M170, S171_1, S171_2, S172, M172, S173_1, S173_2, S174, M174, S175_1, S175_2, S176, M176, S177_1, S177_2, S178, M178, S179, M179, S180_1, S180_2, S180_5, S180_6, S180_7, S180_8, S181, M181, S182, M182, S183, M183, S184_6, S185, M185, S186, M186, S187, M187, S188, M188, S189, M189, S190, M190, S191_5, S191_6, S192, M192, S193, M193, S194, M194, S195, M195, S196, M196, S197_0, S197_3, S197_4, S197_5, S197_6, S197_7, S197_13, S198, M198, S199, M199, S200, M200, S201, M201, S202, M202, S203, M203, S204, M204, S205, M205, S206, M206, S207, M207, S208, M208, S209, M209, S210, M210, S211, M211] <;> assumption) | (with_reducible show tg _ _ = _; simp only [tg_ms, tg_ma]; assumption) | (with_reducible show ln _ _ = _; simp only [ln_ms, ln_ma]; assumption) | (with_reducible show J64 _; unfold J64; omega) | (with_reducible show J _; unfold J; omega) | omega) only [↓f_X3_fitting_2, ↓f_X3_fitting_2b, ↓f_X3_fitting_49, ↓g2, ↓sl, ↓sc, ↓op5 b, ↓op1 b, ↓opa b, ↓opr b, ↓Int.add_zero, ↓bd_i, ↓lb_i, ↓rd_i, ↓wt_i, ↓pf_i, bdi_e, lbi_e, ↓ck_t, isb_0, isb_1, ↓reduceIte, ↓if_pos, ↓if_neg, Int.reduceEq, Int.reduceLT, Int.reduceLE, Int.reduceNe, Int.reduceNeg, Int.reduceAdd, Int.reduceSub, Int.reduceMul, Int.add_sub_cancel, tg_ms, ln_ms, nx_ms, tg_ma, ln_ma, nx_ma, mv_s, mv_o, mv_ma_eq, mv_ma_ne, wrk, within_t, within_f, in_t, in_f, isCell_t, isCell_f, isHolder_t, isHolder_f, isHolderm_t, isHolderm_f, isDay_t, isDay_f, isDaym_t, isDaym_f, isSheet_t, isSheet_f, isSheetm_t, isSheetm_f]
    · have e : (wrdL.getD w.toNat []).drop i = [] := List.drop_of_length_le (by have : wln w = ((wrdL.getD w.toNat []).length : Int) := rfl; omega)
      rw [e, fit_nil]
      simp (disch := first | assumption | (with_reducible show Sh _; simp only [S100_2, S101_7, S101_8, S101_9, S101_10, S102_5, S103, M103, S104, M104, S105, M105, S106, M106, S107, M107, S108_6, S108_7, S108_8, S108_9, S109, M109, S110, M110, S111, M111, S112, M112, S113, M113, S114, M114, S115_8, S116, M116, S117, M117, S118, M118, S119, M119, S120, M120, S121, M121, S122, M122, S123, M123, S124_2, S125, M125, S126, M126, S127, M127, S128, M128, S130, M130, S131, M131, S132_1, S132_2, S133, M133, S134_1, S134_2, S135, M135, S136_1, S136_2, S137, M137, S138_1, S138_2, S139, M139, S140_7, S140_8, S140_9, S140_10, S141_5, S142, M142, S143, M143, S144, M144, S145, M145, S146, M146, S147_6, S147_7, S147_8, S147_9, S148, M148, S149, M149, S150, M150, S151, M151, S152, M152, S153, M153, S154_8, S155, M155, S156, M156, S157, M157, S158, M158, S159, M159, S160, M160, S161, M161, S162, M162, S163_2, S164, M164, S165, M165, S166, M166, S167, M167, S169, M169, S170, M170, S171_1, S171_2, S172, M172, S173_1, S173_2, S174, M174, S175_1, S175_2, S176, M176, S177_1, S177_2, S178, M178, S179, M179, S180_1, S180_2, S180_5, S180_6, S180_7, S180_8, S181, M181, S182, M182, S183, M183, S184_6, S185, M185, S186, M186, S187, M187, S188, M188, S189, M189, S190, M190, S191_5, S191_6, S192, M192, S193, M193, S194, M194, S195, M195, S196, M196, S197_0, S197_3, S197_4, S197_5, S197_6, S197_7, S197_13, S198, M198, S199, M199, S200, M200, S201, M201, S202, M202, S203, M203, S204, M204, S205, M205, S206, M206, S207, M207, S208, M208, S209, M209, S210, M210, S211, M211] <;> assumption) | (with_reducible show tg _ _ = _; simp only [tg_ms, tg_ma]; assumption) | (with_reducible show ln _ _ = _; simp only [ln_ms, ln_ma]; assumption) | (with_reducible show J64 _; unfold J64; omega) | (with_reducible show J _; unfold J; omega) | omega) only [↓f_X3_fitting_2, ↓f_X3_fitting_2b, ↓f_X3_fitting_49, ↓g2, ↓sl, ↓Int.add_zero, ↓bd_i, ↓lb_i, ↓rd_i, ↓wt_i, ↓pf_i, bdi_e, lbi_e, ↓ck_t, isb_0, isb_1, ↓reduceIte, ↓if_pos, ↓if_neg, Int.reduceEq, Int.reduceLT, Int.reduceLE, Int.reduceNe, Int.reduceNeg, Int.reduceAdd, Int.reduceSub, Int.reduceMul, Int.add_sub_cancel, tg_ms, ln_ms, nx_ms, tg_ma, ln_ma, nx_ma, mv_s, mv_o, mv_ma_eq, mv_ma_ne, wrk, within_t, within_f, in_t, in_f, isCell_t, isCell_f, isHolder_t, isHolder_f, isHolderm_t, isHolderm_f, isDay_t, isDay_f, isDaym_t, isDaym_f, isSheet_t, isSheet_f, isSheetm_t, isSheetm_f]
end WRD
