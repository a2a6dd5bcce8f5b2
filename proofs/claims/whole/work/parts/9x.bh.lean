/-! AN ORDER TAKEN: the model's row; both readers from the tape on -/
section ORJ
variable {n : Nat} {k : Int} {C C1 C2 G G1 G2 h h' H : MM} {L o a c d w i : Int}
def RO (a i : Int) : Prop := i = 9620 + a ∨ i = 9630 + a ∨ (9640 + 140 * a ≤ i ∧ i < 9780 + 140 * a) ∨ i = 10900 + a ∨ (10910 + 8 * a ≤ i ∧ i < 10918 + 8 * a) ∨ (10990 + 8 * a ≤ i ∧ i < 10998 + 8 * a) ∨ (11070 + 8 * a ≤ i ∧ i < 11078 + 8 * a)
def PMo (a x i : Int) : Prop := (x = 197 ∧ 4 ≤ i ∧ i ≤ 7) ∨ (x = 198 ∧ (i = 4 ∨ RO a i))
noncomputable def rob (n : Nat) (a : Int) (H : MM) : RR := bd (f_X12_reads n 197 a (WW (ms (ms (ms H 198 4 0) 198 (10900 + a) 0) 197 4 a) 0 0 0)) fun _ H => f_X12_readsOrder_114 n 197 a n H
theorem ro_x (S : Sh H) (ha : 0 ≤ a ∧ a ≤ 8) (e4 : mv H 198 4 = L) (m : Nat) : f_X12_readsOrder_29 n 197 a (m + 1) L H = rob n a H := by
  have Sm := S
  have sw : ms (ms (ms (ms (ms (ms H 198 4 0) 198 (10900 + a) 0) 197 4 a) 197 5 0) 197 7 0) 197 6 0 = WW (ms (ms (ms H 198 4 0) 198 (10900 + a) 0) 197 4 a) 0 0 0 := by
    unfold WW
    rw [ms_sw (a := 197) (i := 7) (b := 197) (j := 6) (by omega)]
  unfold rob
  rw [← sw]
  simp (disch := first | assumption | (with_reducible show Sh _; simp only [S100_2, S101_7, S101_8, S101_9, S101_10, S102_5, S103, M103, S104, M104, S105, M105, S106, M106, S107, M107, S108_6, S108_7, S108_8, S108_9, S109, M109, S110, M110, S111, M111, S112, M112, S113, M113, S114, M114, S115_8, S116, M116, S117, M117, S118, M118, S119, M119, S120, M120, S121, M121, S122, M122, S123, M123, S124_2, S125, M125, S126, M126, S127, M127, S128, M128, S130, M130, S131, M131, S132_1, S132_2, S133, M133, S134_1, S134_2, S135, M135, S136_1, S136_2, S137, M137, S138_1, S138_2, S139, M139, S140_7, S140_8, S140_9, S140_10, S141_5, S142, M142, S143, M143, S144, M144, S145, M145, S146, M146, S147_6, S147_7, S147_8, S147_9, S148, M148, S149, M149, S150, M150, S151, M151, S152, M152, S153, M153, S154_8, S155, M155, S156, M156, S157, M157, S158, M158, S159, M159, S160, M160, S161, M161, S162, M162, S163_2, S164, M164, S165, M165, S166, M166, S167, M167, S169, M169, S170, M170, S171_1, S171_2, S172, M172, S173_1, S173_2, S174, M174, S175_1, S175_2, S176, M176, S177_1, S177_2, S178, M178, S179, M179, S180_1, S180_2, S180_5, S180_6, S180_7, S180_8, S181, M181, S182, M182, S183, M183, S184_6, S185, M185, S186, M186, S187, M187, S188, M188, S189, M189, S190, M190, S191_5, S191_6, S192, M192, S193, M193, S194, M194, S195, M195, S196, M196, S197_0, S197_3, S197_4, S197_5, S197_6, S197_7, S197_13, S198, M198, S199, M199, S200, M200, S201, M201, S202, M202, S203, M203, S204, M204, S205, M205, S206, M206, S207, M207, S208, M208, S209, M209, S210, M210, S211, M211] <;> assumption) | (with_reducible show tg _ _ = _; simp only [tg_ms, tg_ma]; assumption) | (with_reducible show ln _ _ = _; simp only [ln_ms, ln_ma]; assumption) | (with_reducible show J64 _; unfold J64; omega) | (with_reducible show J _; unfold J; omega) | omega) only [↓f_X12_readsOrder_29, ↓f_X12_readsOrder_29b, ↓e4, ↓bd_i, ↓lb_i, ↓rd_i, ↓wt_i, ↓pf_i, bdi_e, lbi_e, ↓ck_t, isb_0, isb_1, ↓reduceIte, ↓if_pos, ↓if_neg, Int.reduceEq, Int.reduceLT, Int.reduceLE, Int.reduceNe, Int.reduceNeg, Int.reduceAdd, Int.reduceSub, Int.reduceMul, Int.add_sub_cancel, tg_ms, ln_ms, nx_ms, tg_ma, ln_ma, nx_ma, mv_s, mv_o, mv_ma_eq, mv_ma_ne, wrk, within_t, within_f, in_t, in_f, isCell_t, isCell_f, isHolder_t, isHolder_f, isHolderm_t, isHolderm_f, isDay_t, isDay_f, isDaym_t, isDaym_f, isSheet_t, isSheet_f, isSheetm_t, isSheetm_f,  ↓gk197, ↓g197_0, pi197_0, S197_0, ↓g197_1, ↓g197_2, ↓g197_3, pi197_3, S197_3, ↓g197_4, pi197_4, S197_4, ↓g197_5, pi197_5, S197_5, ↓g197_6, pi197_6, S197_6, ↓g197_7, pi197_7, S197_7, ↓g197_8, ↓g197_9, ↓g197_10, ↓g197_11, ↓g197_12, ↓g197_13, pi197_13, S197_13, ↓g197_14, ↓g197_15, ↓g197_16, ↓g197_17, ↓g197_18, ↓g197_19, ↓g197_20, ↓al198, ri198, wi198, S198, M198, ↓al199, ri199, wi199, S199, M199, ↓al200, ri200, wi200, S200, M200, ↓al201, ri201, wi201, S201, M201, ↓al202, ri202, wi202, S202, M202, ↓al203, ri203, wi203, S203, M203, ↓al204, ri204, wi204, S204, M204, ↓al205, ri205, wi205, S205, M205, ↓al206, ri206, wi206, S206, M206, ↓al207, ri207, wi207, S207, M207, ↓al208, ri208, wi208, S208, M208, ↓al209, ri209, wi209, S209, M209, ↓al210, ri210, wi210, S210, M210, ↓al211, ri211, wi211, S211, M211]
  try rfl
theorem ro_l (ha : 0 ≤ a ∧ a ≤ 8) (q : 0 ≤ L ∧ L ≤ 140) : ∀ (m : Nat) (i : Int) (H : MM), Sh H → 0 ≤ i → i ≤ L → L - i < (m : Int) → mv H 198 4 = L → ∃ H', f_X12_readsOrder_29 n 197 a m i H = rob n a H' ∧ FrN (fun x y => x = 198 ∧ 9640 + 140 * a + i ≤ y ∧ y < 9640 + 140 * a + L) H H' ∧ ∀ j : Int, i ≤ j → j < L → mv H' 198 (9640 + 140 * a + j) = mv H 198 (11150 + j)
  | 0, i, H, S, i0, i1, i2, e4 => by omega
  | m + 1, i, H, S, i0, i1, i2, e4 => by
    by_cases c : L = i
    · subst c
      exact ⟨H, ro_x S ha e4 m, FrN.refl H, fun j j0 j1 => by omega⟩
    · have Sm := S
      obtain ⟨H', x1, x2, x3⟩ := ro_l ha q m (i + 1) (ms H 198 (9640 + 140 * a + i) (mv H 198 (11150 + i))) (by simp only [S100_2, S101_7, S101_8, S101_9, S101_10, S102_5, S103, M103, S104, M104, S105, M105, S106, M106, S107, M107, S108_6, S108_7, S108_8, S108_9, S109, M109, S110, M110, S111, M111, S112, M112, S113, M113, S114, M114, S115_8, S116, M116, S117, M117, S118, M118, S119, M119, S120, M120, S121, M121, S122, M122, S123, M123, S124_2, S125, M125, S126, M126, S127, M127, S128, M128, S130, M130, S131, M131, S132_1, S132_2, S133, M133, S134_1, S134_2, S135, M135, S136_1, S136_2, S137, M137, S138_1, S138_2, S139, M139, S140_7, S140_8, S140_9, S140_10, S141_5, S142, M142, S143, M143, S144, M144, S145, M145, S146, M146, S147_6, S147_7, S147_8, S147_9, S148, M148, S149, M149, S150, M150, S151, M151, S152, M152, S153, M153, S154_8, S155, M155, S156, M156, S157, M157, S158, M158, S159, M159, S160, M160, S161, M161, S162, M162, S163_2, S164, M164, S165, M165, S166, M166, S167, M167, S169, M169, S170, M170, S171_1, S171_2, S172, M172, S173_1, S173_2, S174, M174, S175_1, S175_2, S176, M176, S177_1, S177_2, S178, M178, S179, M179, S180_1, S180_2, S180_5, S180_6, S180_7, S180_8, S181, M181, S182, M182, S183, M183, S184_6, S185, M185, S186, M186, S187, M187, S188, M188, S189, M189, S190, M190, S191_5, S191_6, S192, M192, S193, M193, S194, M194, S195, M195, S196, M196, S197_0, S197_3, S197_4, S197_5, S197_6, S197_7, S197_13, S198, M198, S199, M199, S200, M200, S201, M201, S202, M202, S203, M203, S204, M204, S205, M205, S206, M206, S207, M207, S208, M208, S209, M209, S210, M210, S211, M211]; exact S) (by omega) (by omega) (by omega) (by rw [mv_o (by omega)]; exact e4)
      refine ⟨H', ?_, FrN.trans (P := fun x y => x = 198 ∧ 9640 + 140 * a + i ≤ y ∧ y < 9640 + 140 * a + L) ((FrN.refl H).w ⟨rfl, by omega⟩) (x2.mono (fun x y z => ⟨z.1, by omega⟩)), fun j j0 j1 => ?_⟩
      · rw [← x1]
        simp (disch := first | assumption | (with_reducible show Sh _; simp only [S100_2, S101_7, S101_8, S101_9, S101_10, S102_5, S103, M103, S104, M104, S105, M105, S106, M106, S107, M107, S108_6, S108_7, S108_8, S108_9, S109, M109, S110, M110, S111, M111, S112, M112, S113, M113, S114, M114, S115_8, S116, M116, S117, M117, S118, M118, S119, M119, S120, M120, S121, M121, S122, M122, S123, M123, S124_2, S125, M125, S126, M126, S127, M127, S128, M128, S130, M130, S131, M131, S132_1, S132_2, S133, M133, S134_1, S134_2, S135, M135, S136_1, S136_2, S137, M137, S138_1, S138_2, S139, M139, S140_7, S140_8, S140_9, S140_10, S141_5, S142, M142, S143, M143, S144, M144, S145, M145, S146, M146, S147_6, S147_7, S147_8, S147_9, S148, M148, S149, M149, S150, M150, S151, M151, S152, M152, S153, M153, S154_8, S155, M155, S156, M156, S157, M157, S158, M158, S159, M159, S160, M160, S161, M161, S162, M162, S163_2, S164, M164, S165, M165, S166, M166, S167, M167, S169, M169, S170, M170, S171_1, S171_2, S172, M172, S173_1, S173_2, S174, M174, S175_1, S175_2, S176, M176, S177_1, S177_2, S178, M178, S179, M179, S180_1, S180_2, S180_5, S180_6, S180_7, S180_8, S181, M181, S182, M182, S183, M183, S184_6, S185, M185, S186, M186, S187, M187, S188, M188, S189, M189, S190, M190, S191_5, S191_6, S192, M192, S193, M193, S194, M194, S195, M195, S196, M196, S197_0, S197_3, S197_4, S197_5, S197_6, S197_7, S197_13, S198, M198, S199, M199, S200, M200, S201, M201, S202, M202, S203, M203, S204, M204, S205, M205, S206, M206, S207, M207, S208, M208, S209, M209, S210, M210, S211, M211] <;> assumption) | (with_reducible show tg _ _ = _; simp only [tg_ms, tg_ma]; assumption) | (with_reducible show ln _ _ = _; simp only [ln_ms, ln_ma]; assumption) | (with_reducible show J64 _; unfold J64; omega) | (with_reducible show J _; unfold J; omega) | omega) only [↓f_X12_readsOrder_29, ↓f_X12_readsOrder_29b, ↓e4, ↓bd_i, ↓lb_i, ↓rd_i, ↓wt_i, ↓pf_i, bdi_e, lbi_e, ↓ck_t, isb_0, isb_1, ↓reduceIte, ↓if_pos, ↓if_neg, Int.reduceEq, Int.reduceLT, Int.reduceLE, Int.reduceNe, Int.reduceNeg, Int.reduceAdd, Int.reduceSub, Int.reduceMul, Int.add_sub_cancel, tg_ms, ln_ms, nx_ms, tg_ma, ln_ma, nx_ma, mv_s, mv_o, mv_ma_eq, mv_ma_ne, wrk, within_t, within_f, in_t, in_f, isCell_t, isCell_f, isHolder_t, isHolder_f, isHolderm_t, isHolderm_f, isDay_t, isDay_f, isDaym_t, isDaym_f, isSheet_t, isSheet_f, isSheetm_t, isSheetm_f,  ↓gk197, ↓g197_0, pi197_0, S197_0, ↓g197_1, ↓g197_2, ↓g197_3, pi197_3, S197_3, ↓g197_4, pi197_4, S197_4, ↓g197_5, pi197_5, S197_5, ↓g197_6, pi197_6, S197_6, ↓g197_7, pi197_7, S197_7, ↓g197_8, ↓g197_9, ↓g197_10, ↓g197_11, ↓g197_12, ↓g197_13, pi197_13, S197_13, ↓g197_14, ↓g197_15, ↓g197_16, ↓g197_17, ↓g197_18, ↓g197_19, ↓g197_20, ↓al198, ri198, wi198, S198, M198, ↓al199, ri199, wi199, S199, M199, ↓al200, ri200, wi200, S200, M200, ↓al201, ri201, wi201, S201, M201, ↓al202, ri202, wi202, S202, M202, ↓al203, ri203, wi203, S203, M203, ↓al204, ri204, wi204, S204, M204, ↓al205, ri205, wi205, S205, M205, ↓al206, ri206, wi206, S206, M206, ↓al207, ri207, wi207, S207, M207, ↓al208, ri208, wi208, S208, M208, ↓al209, ri209, wi209, S209, M209, ↓al210, ri210, wi210, S210, M210, ↓al211, ri211, wi211, S211, M211]
      · by_cases e : j = i
        · subst e
          rw [x2.2 _ _ (by intro y; omega), mv_s rfl]
        · rw [x3 j (by omega) j1, mv_o (by omega)]
/-- the model's row before the first clause -/
theorem ro_e (hn : 10000000 ≤ n) (S : Sh G) (ha : 0 ≤ a ∧ a ≤ 8) (e4 : mv G 198 4 = L) (q : 0 ≤ L ∧ L ≤ 140) : ∃ G1, f_X12_readsOrder n 197 a d G = (bd (f_X12_reads n 197 a (WW G1 0 0 0)) fun _ H => f_X12_readsOrder_114 n 197 a n H) ∧ FrN (PMo a) G G1 ∧ mv G1 197 4 = a ∧ mv G1 198 4 = 0 ∧ mv G1 198 (9620 + a) = d ∧ mv G1 198 (9630 + a) = L ∧ mv G1 198 (10900 + a) = 0 ∧ ∀ j : Int, 0 ≤ j → j < L → mv G1 198 (9640 + 140 * a + j) = mv G 198 (11150 + j) := by
  obtain ⟨K, hK⟩ : ∃ K, K = ms (ms G 198 (9620 + a) d) 198 (9630 + a) L := ⟨_, rfl⟩
  have SK : Sh K := by rw [hK]; simp only [S100_2, S101_7, S101_8, S101_9, S101_10, S102_5, S103, M103, S104, M104, S105, M105, S106, M106, S107, M107, S108_6, S108_7, S108_8, S108_9, S109, M109, S110, M110, S111, M111, S112, M112, S113, M113, S114, M114, S115_8, S116, M116, S117, M117, S118, M118, S119, M119, S120, M120, S121, M121, S122, M122, S123, M123, S124_2, S125, M125, S126, M126, S127, M127, S128, M128, S130, M130, S131, M131, S132_1, S132_2, S133, M133, S134_1, S134_2, S135, M135, S136_1, S136_2, S137, M137, S138_1, S138_2, S139, M139, S140_7, S140_8, S140_9, S140_10, S141_5, S142, M142, S143, M143, S144, M144, S145, M145, S146, M146, S147_6, S147_7, S147_8, S147_9, S148, M148, S149, M149, S150, M150, S151, M151, S152, M152, S153, M153, S154_8, S155, M155, S156, M156, S157, M157, S158, M158, S159, M159, S160, M160, S161, M161, S162, M162, S163_2, S164, M164, S165, M165, S166, M166, S167, M167, S169, M169, S170, M170, S171_1, S171_2, S172, M172, S173_1, S173_2, S174, M174, S175_1, S175_2, S176, M176, S177_1, S177_2, S178, M178, S179, M179, S180_1, S180_2, S180_5, S180_6, S180_7, S180_8, S181, M181, S182, M182, S183, M183, S184_6, S185, M185, S186, M186, S187, M187, S188, M188, S189, M189, S190, M190, S191_5, S191_6, S192, M192, S193, M193, S194, M194, S195, M195, S196, M196, S197_0, S197_3, S197_4, S197_5, S197_6, S197_7, S197_13, S198, M198, S199, M199, S200, M200, S201, M201, S202, M202, S203, M203, S204, M204, S205, M205, S206, M206, S207, M207, S208, M208, S209, M209, S210, M210, S211, M211]; exact S
  have k4 : mv K 198 4 = L := by rw [hK, mv_o (by omega), mv_o (by omega)]; exact e4
  obtain ⟨H', x1, x2, x3⟩ := ro_l (n := n) ha q n 0 K SK (by omega) q.1 (by omega) k4
  have Sm := S
  refine ⟨ms (ms (ms H' 198 4 0) 198 (10900 + a) 0) 197 4 a, ?_, ?_, mv_s rfl, ?_, ?_, ?_, ?_, fun j j0 j1 => ?_⟩
  · show _ = rob n a H'
    rw [← x1, hK]
    simp (disch := first | assumption | (with_reducible show Sh _; simp only [S100_2, S101_7, S101_8, S101_9, S101_10, S102_5, S103, M103, S104, M104, S105, M105, S106, M106, S107, M107, S108_6, S108_7, S108_8, S108_9, S109, M109, S110, M110, S111, M111, S112, M112, S113, M113, S114, M114, S115_8, S116, M116, S117, M117, S118, M118, S119, M119, S120, M120, S121, M121, S122, M122, S123, M123, S124_2, S125, M125, S126, M126, S127, M127, S128, M128, S130, M130, S131, M131, S132_1, S132_2, S133, M133, S134_1, S134_2, S135, M135, S136_1, S136_2, S137, M137, S138_1, S138_2, S139, M139, S140_7, S140_8, S140_9, S140_10, S141_5, S142, M142, S143, M143, S144, M144, S145, M145, S146, M146, S147_6, S147_7, S147_8, S147_9, S148, M148, S149, M149, S150, M150, S151, M151, S152, M152, S153, M153, S154_8, S155, M155, S156, M156, S157, M157, S158, M158, S159, M159, S160, M160, S161, M161, S162, M162, S163_2, S164, M164, S165, M165, S166, M166, S167, M167, S169, M169, S170, M170, S171_1, S171_2, S172, M172, S173_1, S173_2, S174, M174, S175_1, S175_2, S176, M176, S177_1, S177_2, S178, M178, S179, M179, S180_1, S180_2, S180_5, S180_6, S180_7, S180_8, S181, M181, S182, M182, S183, M183, S184_6, S185, M185, S186, M186, S187, M187, S188, M188, S189, M189, S190, M190, S191_5, S191_6, S192, M192, S193, M193, S194, M194, S195, M195, S196, M196, S197_0, S197_3, S197_4, S197_5, S197_6, S197_7, S197_13, S198, M198, S199, M199, S200, M200, S201, M201, S202, M202, S203, M203, S204, M204, S205, M205, S206, M206, S207, M207, S208, M208, S209, M209, S210, M210, S211, M211] <;> assumption) | (with_reducible show tg _ _ = _; simp only [tg_ms, tg_ma]; assumption) | (with_reducible show ln _ _ = _; simp only [ln_ms, ln_ma]; assumption) | (with_reducible show J64 _; unfold J64; omega) | (with_reducible show J _; unfold J; omega) | omega) only [↓f_X12_readsOrder, ↓e4, ↓bd_i, ↓lb_i, ↓rd_i, ↓wt_i, ↓pf_i, bdi_e, lbi_e, ↓ck_t, isb_0, isb_1, ↓reduceIte, ↓if_pos, ↓if_neg, Int.reduceEq, Int.reduceLT, Int.reduceLE, Int.reduceNe, Int.reduceNeg, Int.reduceAdd, Int.reduceSub, Int.reduceMul, Int.add_sub_cancel, tg_ms, ln_ms, nx_ms, tg_ma, ln_ma, nx_ma, mv_s, mv_o, mv_ma_eq, mv_ma_ne, wrk, within_t, within_f, in_t, in_f, isCell_t, isCell_f, isHolder_t, isHolder_f, isHolderm_t, isHolderm_f, isDay_t, isDay_f, isDaym_t, isDaym_f, isSheet_t, isSheet_f, isSheetm_t, isSheetm_f,  ↓gk197, ↓g197_0, pi197_0, S197_0, ↓g197_1, ↓g197_2, ↓g197_3, pi197_3, S197_3, ↓g197_4, pi197_4, S197_4, ↓g197_5, pi197_5, S197_5, ↓g197_6, pi197_6, S197_6, ↓g197_7, pi197_7, S197_7, ↓g197_8, ↓g197_9, ↓g197_10, ↓g197_11, ↓g197_12, ↓g197_13, pi197_13, S197_13, ↓g197_14, ↓g197_15, ↓g197_16, ↓g197_17, ↓g197_18, ↓g197_19, ↓g197_20, ↓al198, ri198, wi198, S198, M198, ↓al199, ri199, wi199, S199, M199, ↓al200, ri200, wi200, S200, M200, ↓al201, ri201, wi201, S201, M201, ↓al202, ri202, wi202, S202, M202, ↓al203, ri203, wi203, S203, M203, ↓al204, ri204, wi204, S204, M204, ↓al205, ri205, wi205, S205, M205, ↓al206, ri206, wi206, S206, M206, ↓al207, ri207, wi207, S207, M207, ↓al208, ri208, wi208, S208, M208, ↓al209, ri209, wi209, S209, M209, ↓al210, ri210, wi210, S210, M210, ↓al211, ri211, wi211, S211, M211]
  · refine FrN.trans (h1 := K) ?_ (FrN.trans (h1 := H') (x2.mono (fun x y z => Or.inr ⟨z.1, by have := z.2; unfold RO; omega⟩)) ?_)
    · rw [hK]
      exact ((FrN.refl G).w (Or.inr ⟨rfl, by unfold RO; omega⟩)).w (Or.inr ⟨rfl, by unfold RO; omega⟩)
    · exact (((FrN.refl H').w (Or.inr ⟨rfl, by unfold RO; omega⟩)).w (Or.inr ⟨rfl, by unfold RO; omega⟩)).w (Or.inl ⟨rfl, by omega⟩)
  · rw [mv_o (by omega), mv_o (by omega), mv_s rfl]
  · rw [mv_o (by omega), mv_o (by omega), mv_o (by omega), x2.2 _ _ (by omega), hK, mv_o (by omega), mv_s rfl]
  · rw [mv_o (by omega), mv_o (by omega), mv_o (by omega), x2.2 _ _ (by omega), hK, mv_s rfl]
  · rw [mv_o (by omega), mv_s rfl]
  · rw [mv_o (by omega), mv_o (by omega), mv_o (by omega), x3 j j0 j1, hK, mv_o (by omega), mv_o (by omega)]
/-- a new order, in both -/
def NO (H : MM) (o a : Int) : Prop := OClk 198 H a ∧ OObj H o ∧ OTx 198 H o a ∧ OWd 198 H o a
def TC (C C2 : MM) (o L : Int) : Prop := (nx C2 = o + 5 ∧ sl C2 = sl C + 26 + L) ∧ (∀ x, x < o → tg C2 x = tg C x ∧ ln C2 x = ln C x) ∧ (∀ x y, x < o → (x ≠ 101 ∨ y ≠ 7) → mv C2 x y = mv C x y) ∧ mv C2 101 7 = 0 ∧ tg C2 o = 3 ∧ tg C2 (o + 1) = 100 ∧ tg C2 (o + 2) = 100 ∧ tg C2 (o + 3) = 100 ∧ ln C2 (o + 3) = 6 ∧ tg C2 (o + 4) = 102
theorem order_e (hn : 10000000 ≤ n) (R : Rd (mx C G)) (SC : Sh C) (SG : Sh G) (TT : StI C) (TG : StI G) (ho : nx C = o) (hd : 0 ≤ d ∧ d ≤ 999) (ea : mv G 198 3 = a) (ha : a ≤ 8) (rm1 : nx C ≤ 200000) (rm2 : sl C ≤ 7000000) : ∃ (C1 C2 G2 : MM) (p : Int) (ok : Bool), f_X10_takeTape n 101 d C = some (o, C1) ∧ tg C1 o = 3 ∧ f_X3_faultOf n o C1 = some (if ok = true then -1 else p, C2) ∧ f_X12_readsOrder n 197 a d G = some (if ok = true then 1 else 0, G2) ∧ mv G2 197 5 = p ∧ 0 ≤ p ∧ p ≤ 140 ∧ TC C C2 o (mv G 198 4) ∧ FrN (PMo a) G G2 ∧ mv G2 198 4 = 0 ∧ (ok = true → NO (mx C2 G2) o a) := by
  have hz : 212 ≤ o := by rw [← ho]; exact SC.2.2
  have D := mx_dc R SC
  have zm : ∀ j, mv (mx C G) 198 j = mv G 198 j := fun j => mx_m (by omega)
  have bb := rbd R
  have b3 := bb.2.2.2.1
  have b4 := bb.2.2.2.2.1
  rw [zm] at b3 b4
  have e7 := (sc2 D).2.2.2.2.1
  rw [zm] at e7
  obtain ⟨-, ⟨M0, -, -, -, -, -, -, -, ⟨t1, t2, -⟩, -, -⟩, -⟩ := id R
  have zc : ∀ x y : Int, ¬ (197 ≤ x ∧ x ≤ 211) → mv (mx C G) x y = mv C x y := fun x y q => mx_c q
  simp only [Int.add_zero] at t1 t2
  obtain ⟨L, hL⟩ : ∃ L, mv G 198 4 = L := ⟨_, rfl⟩
  rw [hL] at b4 e7 ⊢
  obtain ⟨C1, x1, x2⟩ := take_e (n := n) (d := d) hn SC ho e7 b4 rm1 rm2 (fun i i0 i1 => by have z := t2 i i0 i1; rw [zc _ _ (by omega)] at z; exact z)
  obtain ⟨⟨k1, k2⟩, k3, k4, k5, ⟨j1, j2, j3, j4, j5, j6, j7, j8, j9⟩, ⟨v0, v1, v2, v3, v4⟩, k6, k7⟩ := x2
  obtain ⟨G1, y1, y2, y3, y4, y5, y6, y7, y8⟩ := ro_e (n := n) (d := d) hn SG (a := a) ⟨by omega, ha⟩ hL b4
  obtain ⟨B, hB⟩ : ∃ B : Int → Int, B = fun j => if 0 ≤ j ∧ j < L then mv G 198 (11150 + j) else -1 := ⟨_, rfl⟩
  have Bi : ∀ j : Int, 0 ≤ j → j < L → B j = mv G 198 (11150 + j) := fun j j0 j1 => by rw [hB]; exact if_pos ⟨j0, j1⟩
  have Bo : ∀ j : Int, L ≤ j → B j = -1 := fun j j0 => by rw [hB]; exact if_neg (by omega)
  have tp : ∀ j : Int, 0 ≤ j → j < L → mv C 130 j = sb (B j) ∧ 0 ≤ B j ∧ B j ≤ 255 := fun j j0 j1 => by
    have z := t1 j j0 (by rw [zm, hL]; exact j1)
    rw [zc _ _ (by omega), zm] at z
    rw [Bi j j0 j1]
    exact z
  have b : OB C1 o L B (mv C1 (o + 3)) := ⟨hz, j1, v1, v4, j8, j9, b4.1, b4.2, fun j j0 j1' => by rw [k7 j j0 j1']; exact tp j j0 j1', Bo, j6, j7, fun _ _ _ => rfl⟩
  have A : OA C1 o := ⟨v2, v3, j2, j3, j4, j5⟩
  have S1 : Sh C1 := SC.up (by omega) (fun x hx => k3 x (by omega)) (fun x j hx h1 _ => k4 x j (by omega) (by omega))
  have T1 : StI C1 := TT.up (fun x hx => k3 x (by omega)) (fun x j hx => k4 x j (by omega) (by omega))
  have PMok : ∀ x i, PMo a x i → Wok x i := fun x i z => by
    rcases z with ⟨rfl, z⟩ | ⟨rfl, z⟩
    · unfold Wok; omega
    · simp [Wok]
  have SG1 : Sh G1 := y2.sh PMok SG
  have TG1 : StI G1 := TG.lo y2.1 (fun x y hx => y2.2 x y (by intro z; unfold PMo at z; omega))
  have bg : MB G1 a L B (mv G1 200) := ⟨SG1, y3, by omega, ha, y6, b4.1, b4.2, fun j j0 j1' => ⟨by rw [y8 j j0 j1', Bi j j0 j1'], (tp j j0 j1').2⟩, Bo, fun _ _ _ => rfl⟩
  have CW0 : CW C1 G1 o a L 0 B := by
    refine ⟨fun k k0 k1' => by omega, fun w w0 w1 => ⟨k6 w w0 w1, fun y => absurd rfl y⟩⟩
  obtain ⟨h', g', p, ok, f1, f2, f3, f4, f5, f6, f7⟩ := cls_l (n := n) hn 8 0 0 C1 G1 (by omega) (by omega) (by omega) ⟨by omega, b4.1⟩ S1 T1 b A TG1 bg y7 CW0 n n (by omega) (by omega)
  have pr : ∀ x i, PRw a x i → PMo a x i := fun x i z => Or.inr ⟨z.1, Or.inr (by have := z.2; unfold RO; omega)⟩
  have F2 : FrN (PMo a) G (WW g' p (if ok = true then 0 else 1) 0) := by
    refine (y2.trans (f4.mono pr)).trans ?_
    unfold WW
    exact (((FrN.refl g').w (Or.inl ⟨rfl, by omega⟩)).w (Or.inl ⟨rfl, by omega⟩)).w (Or.inl ⟨rfl, by omega⟩)
  have m2 : ∀ x y, x ≠ o + 1 → x ≠ o + 2 → (x ≠ o ∨ y ≠ 5) → mv (ms h' o 5 p) x y = mv C1 x y := fun x y h1 h2 h3 => by
    rw [mv_o (by omega)]; exact f3.2 x y (by omega)
  have t2' : ∀ x, tg (ms h' o 5 p) x = tg C1 x := fun x => by rw [tg_ms]; exact tg2 f3.1
  have l2' : ∀ x, ln (ms h' o 5 p) x = ln C1 x := fun x => by rw [ln_ms]; exact ln2 f3.1
  have g4 : mv (WW g' p (if ok = true then 0 else 1) 0) 198 4 = 0 := by rw [WWo (by omega), f4.2 _ _ (by unfold PRw; omega)]; exact y4
  refine ⟨C1, ms h' o 5 p, WW g' p (if ok = true then 0 else 1) 0, p, ok, x1, j1, ?_, y1.trans f2, ?_, f5, by omega, ?_, F2, g4, fun hk => ?_⟩
  · have pw : pf C1 o 3 5 0 (fun h1 => f_X3_faultOf_7 n o n 0 h1) = f_X3_faultOf_7 n o n 0 (ms C1 o 5 0) := by rw [pf_e j1 (by omega)]
    rw [← f1, ← pw]
    rfl
  · unfold WW; rw [mv_o (by omega), mv_o (by omega), mv_s rfl]
  · refine ⟨⟨?_, ?_⟩, fun x hx => ⟨?_, ?_⟩, fun x y hx hxy => ?_, ?_, ?_, ?_, ?_, ?_, ?_, ?_⟩
    · rw [nx_ms, nx2 f3.1]; exact k1
    · rw [sl_ms, sl2 f3.1]; exact k2
    · rw [t2']; exact (k3 x hx).1
    · rw [l2']; exact (k3 x hx).2
    · rw [m2 _ _ (by omega) (by omega) (by omega)]; exact k4 x y hx hxy
    · rw [m2 _ _ (by omega) (by omega) (by omega)]; exact k5
    · rw [t2']; exact j1
    · rw [t2']; exact j2
    · rw [t2']; exact j4
    · rw [t2']; exact j6
    · rw [l2']; exact j7
    · rw [t2']; exact j8
  · subst hk
    obtain ⟨c', c0, c8, c1, W1, W2⟩ := f7 rfl
    obtain ⟨X, hX⟩ : ∃ X, X = mx (ms h' o 5 p) (WW g' p (if true = true then 0 else 1) 0) := ⟨_, rfl⟩
    rw [← hX]
    have xm : ∀ j, mv X 198 j = mv g' 198 j := fun j => by rw [hX, mx_m (by omega), WWo (by omega)]
    have xc : ∀ x y, o ≤ x → mv X x y = mv (ms h' o 5 p) x y := fun x y hx => by rw [hX]; exact mx_c (by omega)
    have xt : ∀ x, tg X x = tg C1 x := fun x => by rw [hX]; exact t2' x
    have xl : ∀ x, ln X x = ln C1 x := fun x => by rw [hX]; exact l2' x
    have xn : nx X = o + 5 := by rw [hX]; show nx h' = _; rw [nx2 f3.1]; exact k1
    have g9620 : mv g' 198 (9620 + a) = d := by rw [f4.2 _ _ (by unfold PRw; omega)]; exact y5
    have g9630 : mv g' 198 (9630 + a) = L := by rw [f4.2 _ _ (by unfold PRw; omega)]; exact y6
    have gtx : ∀ j : Int, 0 ≤ j → j < L → mv g' 198 (9640 + 140 * a + j) = B j := fun j j0 j1' => by
      rw [f4.2 _ _ (by unfold PRw; omega), y8 j j0 j1', Bi j j0 j1']
    have oBe : oB 198 X a = B := by
      funext j
      unfold oB
      rw [xm, g9630]
      by_cases c : 0 ≤ j ∧ j < L
      · rw [if_pos c, xm, gtx j c.1 c.2]
      · rw [if_neg c, hB]; exact (if_neg c).symm
    have lce : ∀ w, lastc 198 X a w = lcI 198 g' a w c'.toNat := fun w => by
      unfold lastc
      rw [xm, c1]
      exact lcI_fr (c := c') (fun k _ _ => xm _) c'.toNat (by omega)
    refine ⟨⟨?_, ?_, fun j j0 j1' => ?_, ?_, fun k k0 k1' => ?_⟩, ⟨hz, by omega, ?_, ?_, ?_, ?_, ?_, ?_, ?_, ?_, ?_, ?_, ?_, ?_⟩, ⟨?_, ?_, fun j j0 j1' => ?_⟩, fun w w0 w1 => ?_⟩
    · rw [xm, g9620]; exact hd
    · rw [xm, g9630]; exact b4
    · rw [xm, g9630] at j1'
      rw [xm, gtx j j0 j1']; exact (tp j j0 j1').2
    · rw [xm, c1]; exact ⟨c0, c8⟩
    · rw [xm, c1] at k1'
      rw [oBe]
      simp only [xm]
      rw [g9630]
      exact W1 k k0 k1'
    · rw [xt]; exact j1
    · rw [xc _ _ (by omega), m2 _ _ (by omega) (by omega) (by omega)]; exact v1
    · rw [xc _ _ (by omega), m2 _ _ (by omega) (by omega) (by omega)]; exact v2
    · rw [xc _ _ (by omega), m2 _ _ (by omega) (by omega) (by omega)]; exact v3
    · rw [xc _ _ (by omega), m2 _ _ (by omega) (by omega) (by omega)]; exact v4
    · rw [xt]; exact j2
    · rw [xl]; exact j3
    · rw [xt]; exact j4
    · rw [xl]; exact j5
    · rw [xt]; exact j6
    · rw [xl]; exact j7
    · rw [xt]; exact j8
    · rw [xc _ _ (by omega), m2 _ _ (by omega) (by omega) (by omega), xm, g9620]; exact v0
    · rw [xl, xm, g9630]; exact j9
    · rw [xm, g9630] at j1'
      rw [xc _ _ (by omega), m2 _ _ (by omega) (by omega) (by omega), xm, gtx j j0 j1', k7 j j0 j1']; exact (tp j j0 j1').1
    · rw [lce, xc _ _ (by omega), xc _ _ (by omega), mv_o (by omega), mv_o (by omega)]
      simp only [xm]
      exact W2 w w0 w1
end ORJ
