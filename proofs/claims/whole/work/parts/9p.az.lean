/-! MIDNIGHT: the model's search; the call -/
def fcm (N T : Int) : Int → Bool := fun i => decide (0 ≤ i ∧ i < N) && decide (ban (shr T i) 1 = 0)
def PMS (G : MM) (N : Int) (A B : Int → Int) : Prop := Sh G ∧ (0 ≤ N ∧ N ≤ 7) ∧ mv G 198 7 = N ∧ ∀ j : Int, 0 ≤ j → j < N → mv G 198 (11470 + j) = A j ∧ mv G 198 (11480 + j) = B j ∧ 1 ≤ A j ∧ A j ≤ 30 ∧ 1 ≤ B j ∧ B j ≤ 30
def DFR (a j : Int) : Prop := a = 203 ∨ a = 204 ∨ (a = 197 ∧ j = 13)
/-- what the search leaves -/
def LIV (A B : Int → Int) (hr N c T s p : Int) (G0 G : MM) (v : Int) : Prop := FrN DFR G0 G ∧ (∀ i : Int, 0 ≤ i → i < c → mv G 203 i = mv G0 203 i) ∧ 0 ≤ v ∧ mv G 197 13 = jmax (mv G0 197 13) (c + v) ∧ (c + v ≤ mv G0 197 13 → ∀ i : Int, 0 ≤ i → i < mv G0 197 13 → mv G 204 i = mv G0 204 i) ∧ (mv G0 197 13 < c + v → (∀ i : Int, 0 ≤ i → i < c → mv G 204 i = mv G0 203 i) ∧ ∃ k : Nat, (k : Int) = v ∧ OptW A B hr k (fcm N T) s p (mv G 204) c)
section DOE
variable {n : Nat} {h g h0 C G G0 : MM} {N x i j s p v t hr c T : Int} {A B : Int → Int} {f F : Int → Bool}
theorem fcm_t : fcm N T i = true ↔ (0 ≤ i ∧ i < N) ∧ ban (shr T i) 1 = 0 := by
  unfold fcm
  rw [Bool.and_eq_true, decide_eq_true_iff, decide_eq_true_iff]
theorem fcm_r (hN : N ≤ 7) (hj : j7 j) : fcm N (bor T (shl 1 j)) = rmv (fcm N T) j := by
  have hj' : 0 ≤ j ∧ j < 7 := hj
  funext i
  have e : fcm N (bor T (shl 1 j)) i = true ↔ rmv (fcm N T) j i = true := by
    rw [fcm_t]
    constructor
    · rintro ⟨a, b⟩
      rw [ibit_z a.1 (by omega), ibt_vote ⟨hj'.1, by omega⟩ ⟨a.1, by omega⟩, Bool.or_eq_false_iff] at b
      have ne : i ≠ j := fun u => by
        rw [decide_eq_true u.symm] at b
        exact absurd b.2 (by decide)
      rw [rmv_o ne, fcm_t, ibit_z a.1 (by omega)]
      exact ⟨a, b.1⟩
    · intro q
      obtain ⟨q1, ne⟩ := rmv_t q
      rw [fcm_t] at q1
      obtain ⟨a, b⟩ := q1
      rw [ibit_z a.1 (by omega)] at b
      refine ⟨a, ?_⟩
      rw [ibit_z a.1 (by omega), ibt_vote ⟨hj'.1, by omega⟩ ⟨a.1, by omega⟩, b, decide_eq_false (fun u => ne u.symm)]
      rfl
  cases cc : fcm N (bor T (shl 1 j)) i with
  | false =>
    cases d : rmv (fcm N T) j i with
    | false => rfl
    | true => rw [e.mpr d] at cc; exact absurd cc (by decide)
  | true => rw [e.mp cc]
theorem bor_f : ∀ x : Fin 128, ∀ j : Fin 7, 0 ≤ bor ((x : Nat) : Int) (shl 1 ((j : Nat) : Int)) ∧ bor ((x : Nat) : Int) (shl 1 ((j : Nat) : Int)) < 128 := by decide +kernel
theorem bor_e (hx : 0 ≤ x ∧ x < 128) (hj : j7 j) : 0 ≤ bor x (shl 1 j) ∧ bor x (shl 1 j) < 128 := by
  have hj' : 0 ≤ j ∧ j < 7 := hj
  have e := bor_f ⟨x.toNat, by omega⟩ ⟨j.toNat, by omega⟩
  rw [show (((⟨x.toNat, by omega⟩ : Fin 128) : Nat) : Int) = x from Int.toNat_of_nonneg hx.1, show (((⟨j.toNat, by omega⟩ : Fin 7) : Nat) : Int) = j from Int.toNat_of_nonneg hj'.1] at e
  exact e
theorem DFR_ok {a j : Int} (z : DFR a j) : Scr a j := by
  rcases z with rfl | rfl | ⟨rfl, rfl⟩
  · exact ⟨by simp [Wok], by omega, by omega⟩
  · exact ⟨by simp [Wok], by omega, by omega⟩
  · exact ⟨by simp [Wok], by omega, by omega⟩
theorem pms_fr {G1 : MM} (P : PMS G N A B) (FR : FrN DFR G G1) : PMS G1 N A B := by
  obtain ⟨S, hN, e2, q⟩ := P
  refine ⟨FR.sh (fun a j z => (DFR_ok z).1) S, hN, by rw [FR.2 _ _ (by unfold DFR; omega)]; exact e2, fun j j0 j1 => ?_⟩
  rw [FR.2 _ _ (by unfold DFR; omega), FR.2 _ _ (by unfold DFR; omega)]
  exact q j j0 j1
theorem cpy_l {FF : Int → Int → Int → Int → Int → Int → MM → RR} (hc : 0 ≤ c ∧ c ≤ 7) : ∀ (m : Nat) (i : Int) (G : MM), Sh G → 0 ≤ i → i ≤ c → c - i < (m : Int) → ∃ G', f_X12_does_16 FF n 197 c T s p hr m i G = f_X12_does_42 FF n 197 c T s p hr G' ∧ FrN (fun a j => a = 204 ∧ i ≤ j) G G' ∧ ∀ q : Int, i ≤ q → q < c → mv G' 204 q = mv G 203 q
  | 0, i, G, S, i0, i1, m0 => by omega
  | m + 1, i, G, S, i0, i1, m0 => by
    have Sm := S
    by_cases top : c ≤ i
    · refine ⟨G, ?_, FrN.refl G, fun q q0 q1 => by omega⟩
      simp (disch := first | assumption | (with_reducible show Sh _; simp only [S100_2, S101_7, S101_8, S101_9, S101_10, S102_5, S103, M103, S104, M104, S105, M105, S106, M106, S107, M107, S108_6, S108_7, S108_8, S108_9, S109, M109, S110, M110, S111, M111, S112, M112, S113, M113, S114, M114, S115_8, S116, M116, S117, M117, S118, M118, S119, M119, S120, M120, S121, M121, S122, M122, S123, M123, S124_2, S125, M125, S126, M126, S127, M127, S128, M128, S130, M130, S131, M131, S132_1, S132_2, S133, M133, S134_1, S134_2, S135, M135, S136_1, S136_2, S137, M137, S138_1, S138_2, S139, M139, S140_7, S140_8, S140_9, S140_10, S141_5, S142, M142, S143, M143, S144, M144, S145, M145, S146, M146, S147_6, S147_7, S147_8, S147_9, S148, M148, S149, M149, S150, M150, S151, M151, S152, M152, S153, M153, S154_8, S155, M155, S156, M156, S157, M157, S158, M158, S159, M159, S160, M160, S161, M161, S162, M162, S163_2, S164, M164, S165, M165, S166, M166, S167, M167, S169, M169, S170, M170, S171_1, S171_2, S172, M172, S173_1, S173_2, S174, M174, S175_1, S175_2, S176, M176, S177_1, S177_2, S178, M178, S179, M179, S180_1, S180_2, S180_5, S180_6, S180_7, S180_8, S181, M181, S182, M182, S183, M183, S184_6, S185, M185, S186, M186, S187, M187, S188, M188, S189, M189, S190, M190, S191_5, S191_6, S192, M192, S193, M193, S194, M194, S195, M195, S196, M196, S197_0, S197_3, S197_4, S197_5, S197_6, S197_7, S197_13, S198, M198, S199, M199, S200, M200, S201, M201, S202, M202, S203, M203, S204, M204, S205, M205, S206, M206, S207, M207, S208, M208, S209, M209, S210, M210, S211, M211] <;> assumption) | (with_reducible show tg _ _ = _; simp only [tg_ms, tg_ma]; assumption) | (with_reducible show ln _ _ = _; simp only [ln_ms, ln_ma]; assumption) | (with_reducible show J64 _; unfold J64; omega) | (with_reducible show J _; unfold J; omega) | omega) only [↓f_X12_does_16, ↓f_X12_does_16b, ↓bd_i, ↓lb_i, ↓rd_i, ↓wt_i, ↓pf_i, bdi_e, lbi_e, ↓ck_t, isb_0, isb_1, ↓reduceIte, ↓if_pos, ↓if_neg, Int.reduceEq, Int.reduceLT, Int.reduceLE, Int.reduceNe, Int.reduceNeg, Int.reduceAdd, Int.reduceSub, Int.reduceMul, Int.add_sub_cancel, tg_ms, ln_ms, nx_ms, tg_ma, ln_ma, nx_ma, mv_s, mv_o, mv_ma_eq, mv_ma_ne, wrk, within_t, within_f, in_t, in_f, isCell_t, isCell_f, isHolder_t, isHolder_f, isHolderm_t, isHolderm_f, isDay_t, isDay_f, isDaym_t, isDaym_f, isSheet_t, isSheet_f, isSheetm_t, isSheetm_f,  ↓gk197, ↓g197_0, pi197_0, S197_0, ↓g197_1, ↓g197_2, ↓g197_3, pi197_3, S197_3, ↓g197_4, pi197_4, S197_4, ↓g197_5, pi197_5, S197_5, ↓g197_6, pi197_6, S197_6, ↓g197_7, pi197_7, S197_7, ↓g197_8, ↓g197_9, ↓g197_10, ↓g197_11, ↓g197_12, ↓g197_13, pi197_13, S197_13, ↓g197_14, ↓g197_15, ↓g197_16, ↓g197_17, ↓g197_18, ↓g197_19, ↓g197_20, ↓al198, ri198, wi198, S198, M198, ↓al199, ri199, wi199, S199, M199, ↓al200, ri200, wi200, S200, M200, ↓al201, ri201, wi201, S201, M201, ↓al202, ri202, wi202, S202, M202, ↓al203, ri203, wi203, S203, M203, ↓al204, ri204, wi204, S204, M204, ↓al205, ri205, wi205, S205, M205, ↓al206, ri206, wi206, S206, M206, ↓al207, ri207, wi207, S207, M207, ↓al208, ri208, wi208, S208, M208, ↓al209, ri209, wi209, S209, M209, ↓al210, ri210, wi210, S210, M210, ↓al211, ri211, wi211, S211, M211]
    · obtain ⟨G', x1, x2, x3⟩ := cpy_l hc (FF := FF) m (i + 1) (ms G 204 i (mv G 203 i)) (by simp only [S100_2, S101_7, S101_8, S101_9, S101_10, S102_5, S103, M103, S104, M104, S105, M105, S106, M106, S107, M107, S108_6, S108_7, S108_8, S108_9, S109, M109, S110, M110, S111, M111, S112, M112, S113, M113, S114, M114, S115_8, S116, M116, S117, M117, S118, M118, S119, M119, S120, M120, S121, M121, S122, M122, S123, M123, S124_2, S125, M125, S126, M126, S127, M127, S128, M128, S130, M130, S131, M131, S132_1, S132_2, S133, M133, S134_1, S134_2, S135, M135, S136_1, S136_2, S137, M137, S138_1, S138_2, S139, M139, S140_7, S140_8, S140_9, S140_10, S141_5, S142, M142, S143, M143, S144, M144, S145, M145, S146, M146, S147_6, S147_7, S147_8, S147_9, S148, M148, S149, M149, S150, M150, S151, M151, S152, M152, S153, M153, S154_8, S155, M155, S156, M156, S157, M157, S158, M158, S159, M159, S160, M160, S161, M161, S162, M162, S163_2, S164, M164, S165, M165, S166, M166, S167, M167, S169, M169, S170, M170, S171_1, S171_2, S172, M172, S173_1, S173_2, S174, M174, S175_1, S175_2, S176, M176, S177_1, S177_2, S178, M178, S179, M179, S180_1, S180_2, S180_5, S180_6, S180_7, S180_8, S181, M181, S182, M182, S183, M183, S184_6, S185, M185, S186, M186, S187, M187, S188, M188, S189, M189, S190, M190, S191_5, S191_6, S192, M192, S193, M193, S194, M194, S195, M195, S196, M196, S197_0, S197_3, S197_4, S197_5, S197_6, S197_7, S197_13, S198, M198, S199, M199, S200, M200, S201, M201, S202, M202, S203, M203, S204, M204, S205, M205, S206, M206, S207, M207, S208, M208, S209, M209, S210, M210, S211, M211]; exact S) (by omega) (by omega) (by omega)
      refine ⟨G', ?_, ((FrN.refl G).w (by omega)).trans (x2.mono (fun a j z => ⟨z.1, by omega⟩)), fun q q0 q1 => ?_⟩
      · rw [← x1]
        simp (disch := first | assumption | (with_reducible show Sh _; simp only [S100_2, S101_7, S101_8, S101_9, S101_10, S102_5, S103, M103, S104, M104, S105, M105, S106, M106, S107, M107, S108_6, S108_7, S108_8, S108_9, S109, M109, S110, M110, S111, M111, S112, M112, S113, M113, S114, M114, S115_8, S116, M116, S117, M117, S118, M118, S119, M119, S120, M120, S121, M121, S122, M122, S123, M123, S124_2, S125, M125, S126, M126, S127, M127, S128, M128, S130, M130, S131, M131, S132_1, S132_2, S133, M133, S134_1, S134_2, S135, M135, S136_1, S136_2, S137, M137, S138_1, S138_2, S139, M139, S140_7, S140_8, S140_9, S140_10, S141_5, S142, M142, S143, M143, S144, M144, S145, M145, S146, M146, S147_6, S147_7, S147_8, S147_9, S148, M148, S149, M149, S150, M150, S151, M151, S152, M152, S153, M153, S154_8, S155, M155, S156, M156, S157, M157, S158, M158, S159, M159, S160, M160, S161, M161, S162, M162, S163_2, S164, M164, S165, M165, S166, M166, S167, M167, S169, M169, S170, M170, S171_1, S171_2, S172, M172, S173_1, S173_2, S174, M174, S175_1, S175_2, S176, M176, S177_1, S177_2, S178, M178, S179, M179, S180_1, S180_2, S180_5, S180_6, S180_7, S180_8, S181, M181, S182, M182, S183, M183, S184_6, S185, M185, S186, M186, S187, M187, S188, M188, S189, M189, S190, M190, S191_5, S191_6, S192, M192, S193, M193, S194, M194, S195, M195, S196, M196, S197_0, S197_3, S197_4, S197_5, S197_6, S197_7, S197_13, S198, M198, S199, M199, S200, M200, S201, M201, S202, M202, S203, M203, S204, M204, S205, M205, S206, M206, S207, M207, S208, M208, S209, M209, S210, M210, S211, M211] <;> assumption) | (with_reducible show tg _ _ = _; simp only [tg_ms, tg_ma]; assumption) | (with_reducible show ln _ _ = _; simp only [ln_ms, ln_ma]; assumption) | (with_reducible show J64 _; unfold J64; omega) | (with_reducible show J _; unfold J; omega) | omega) only [↓f_X12_does_16, ↓f_X12_does_16b, ↓bd_i, ↓lb_i, ↓rd_i, ↓wt_i, ↓pf_i, bdi_e, lbi_e, ↓ck_t, isb_0, isb_1, ↓reduceIte, ↓if_pos, ↓if_neg, Int.reduceEq, Int.reduceLT, Int.reduceLE, Int.reduceNe, Int.reduceNeg, Int.reduceAdd, Int.reduceSub, Int.reduceMul, Int.add_sub_cancel, tg_ms, ln_ms, nx_ms, tg_ma, ln_ma, nx_ma, mv_s, mv_o, mv_ma_eq, mv_ma_ne, wrk, within_t, within_f, in_t, in_f, isCell_t, isCell_f, isHolder_t, isHolder_f, isHolderm_t, isHolderm_f, isDay_t, isDay_f, isDaym_t, isDaym_f, isSheet_t, isSheet_f, isSheetm_t, isSheetm_f,  ↓gk197, ↓g197_0, pi197_0, S197_0, ↓g197_1, ↓g197_2, ↓g197_3, pi197_3, S197_3, ↓g197_4, pi197_4, S197_4, ↓g197_5, pi197_5, S197_5, ↓g197_6, pi197_6, S197_6, ↓g197_7, pi197_7, S197_7, ↓g197_8, ↓g197_9, ↓g197_10, ↓g197_11, ↓g197_12, ↓g197_13, pi197_13, S197_13, ↓g197_14, ↓g197_15, ↓g197_16, ↓g197_17, ↓g197_18, ↓g197_19, ↓g197_20, ↓al198, ri198, wi198, S198, M198, ↓al199, ri199, wi199, S199, M199, ↓al200, ri200, wi200, S200, M200, ↓al201, ri201, wi201, S201, M201, ↓al202, ri202, wi202, S202, M202, ↓al203, ri203, wi203, S203, M203, ↓al204, ri204, wi204, S204, M204, ↓al205, ri205, wi205, S205, M205, ↓al206, ri206, wi206, S206, M206, ↓al207, ri207, wi207, S207, M207, ↓al208, ri208, wi208, S208, M208, ↓al209, ri209, wi209, S209, M209, ↓al210, ri210, wi210, S210, M210, ↓al211, ri211, wi211, S211, M211]
      · by_cases e : q = i
        · subst e; rw [x2.2 _ _ (by omega), mv_s rfl]
        · rw [x3 q (by omega) q1, mv_o (by omega)]
theorem mxA {b c v w : Int} (q : c + jmax v (w + 1) ≤ b) : jmax b (c + v) = b ∧ c + 1 + w ≤ b ∧ c + v ≤ b := by
  have a := jmax_l v (w + 1)
  have e : jmax b (c + v) = b := if_neg (by omega)
  exact ⟨e, by omega, by omega⟩
theorem mxB {b c v w : Int} (q : jmax b (c + v) < c + 1 + w) : jmax v (w + 1) = w + 1 := by
  have a := jmax_l b (c + v)
  exact if_pos (by omega)
theorem mxC {b c v w : Int} (q : ¬ jmax b (c + v) < c + 1 + w) (q2 : b < c + jmax v (w + 1)) : jmax v (w + 1) = v ∧ b < c + v := by
  have a := jmax_l b (c + v)
  have d := jmax_l v (w + 1)
  have e : jmax v (w + 1) = v := if_neg (by omega)
  exact ⟨e, by omega⟩
theorem mxD {b c v w : Int} : jmax (jmax b (c + v)) (c + 1 + w) = jmax b (c + jmax v (w + 1)) := by
  have a := jmax_l b (c + v)
  have d := jmax_l v (w + 1)
  have e := jmax_l (jmax b (c + v)) (c + 1 + w)
  have f := jmax_l b (c + jmax v (w + 1))
  omega
theorem dlp_l {FF : Int → Int → Int → Int → Int → Int → MM → RR} (hh : 1 ≤ hr ∧ hr ≤ 999) (hc : 0 ≤ c ∧ c + szF (fcm N T) ≤ 7) (hT : 0 ≤ T ∧ T < 128) (js : 0 ≤ s ∧ s ≤ 100 * c) (jp : 0 ≤ p ∧ p ≤ hr) (b0 : 0 ≤ mv G0 197 13 ∧ mv G0 197 13 ≤ 7) (IH : ∀ (j : Int) (G : MM), j7 j → fcm N T j = true → PMS G N A B → 0 ≤ mv G 197 13 ∧ mv G 197 13 ≤ 7 → eoj A B s p j ≤ hr → 0 ≤ eoj A B s p j → ∃ G' w, FF 197 (c + 1) (bor T (shl 1 j)) (s + A j) (eoj A B s p j) hr G = some (0, G') ∧ IsM A B hr (rmv (fcm N T) j) (s + A j) (eoj A B s p j) w ∧ LIV A B hr N (c + 1) (bor T (shl 1 j)) (s + A j) (eoj A B s p j) G G' w) : ∀ (m : Nat) (j v : Int) (G : MM), PMS G N A B → 0 ≤ j → j ≤ N → N - j < (m : Int) → MJ A B hr (fcm N T) s p j v → (∀ i : Int, j7 i → i < j → fcm N T i = true → eoj A B s p i ≤ hr → ∃ w, IsM A B hr (rmv (fcm N T) i) (s + A i) (eoj A B s p i) w) → LIV A B hr N c T s p G0 G v → ∃ G' v', f_X12_does_45 FF n 197 c T s p hr m j G = some (0, G') ∧ IsM A B hr (fcm N T) s p v' ∧ LIV A B hr N c T s p G0 G' v'
  | 0, j, v, G, P, j0, j1, m0, M, ex, L => by omega
  | m + 1, j, v, G, P, j0, j1, m0, M, ex, L => by
    obtain ⟨S, hN, e7, pq⟩ := id P
    have Sm := S
    have hB : ∀ j : Int, j7 j → fcm N T j = true → 0 ≤ B j := fun j _ fj => by
      have := pq j (fcm_t.mp fj).1.1 (fcm_t.mp fj).1.2; omega
    by_cases top : N ≤ j
    · have e : j = N := by omega
      subst e
      refine ⟨G, v, ?_, IsM_MJ hB jp.2 (fun i i0 fi ei => ex i i0 (fcm_t.mp fi).1.2 fi ei) (fun i i0 fi => (fcm_t.mp fi).1.2) M L.2.2.1, L⟩
      simp (disch := first | assumption | (with_reducible show Sh _; simp only [S100_2, S101_7, S101_8, S101_9, S101_10, S102_5, S103, M103, S104, M104, S105, M105, S106, M106, S107, M107, S108_6, S108_7, S108_8, S108_9, S109, M109, S110, M110, S111, M111, S112, M112, S113, M113, S114, M114, S115_8, S116, M116, S117, M117, S118, M118, S119, M119, S120, M120, S121, M121, S122, M122, S123, M123, S124_2, S125, M125, S126, M126, S127, M127, S128, M128, S130, M130, S131, M131, S132_1, S132_2, S133, M133, S134_1, S134_2, S135, M135, S136_1, S136_2, S137, M137, S138_1, S138_2, S139, M139, S140_7, S140_8, S140_9, S140_10, S141_5, S142, M142, S143, M143, S144, M144, S145, M145, S146, M146, S147_6, S147_7, S147_8, S147_9, S148, M148, S149, M149, S150, M150, S151, M151, S152, M152, S153, M153, S154_8, S155, M155, S156, M156, S157, M157, S158, M158, S159, M159, S160, M160, S161, M161, S162, M162, S163_2, S164, M164, S165, M165, S166, M166, S167, M167, S169, M169, S170, M170, S171_1, S171_2, S172, M172, S173_1, S173_2, S174, M174, S175_1, S175_2, S176, M176, S177_1, S177_2, S178, M178, S179, M179, S180_1, S180_2, S180_5, S180_6, S180_7, S180_8, S181, M181, S182, M182, S183, M183, S184_6, S185, M185, S186, M186, S187, M187, S188, M188, S189, M189, S190, M190, S191_5, S191_6, S192, M192, S193, M193, S194, M194, S195, M195, S196, M196, S197_0, S197_3, S197_4, S197_5, S197_6, S197_7, S197_13, S198, M198, S199, M199, S200, M200, S201, M201, S202, M202, S203, M203, S204, M204, S205, M205, S206, M206, S207, M207, S208, M208, S209, M209, S210, M210, S211, M211] <;> assumption) | (with_reducible show tg _ _ = _; simp only [tg_ms, tg_ma]; assumption) | (with_reducible show ln _ _ = _; simp only [ln_ms, ln_ma]; assumption) | (with_reducible show J64 _; unfold J64; omega) | (with_reducible show J _; unfold J; omega) | omega) only [↓f_X12_does_45, ↓f_X12_does_45b, ↓e7, ↓bd_i, ↓lb_i, ↓rd_i, ↓wt_i, ↓pf_i, bdi_e, lbi_e, ↓ck_t, isb_0, isb_1, ↓reduceIte, ↓if_pos, ↓if_neg, Int.reduceEq, Int.reduceLT, Int.reduceLE, Int.reduceNe, Int.reduceNeg, Int.reduceAdd, Int.reduceSub, Int.reduceMul, Int.add_sub_cancel, tg_ms, ln_ms, nx_ms, tg_ma, ln_ma, nx_ma, mv_s, mv_o, mv_ma_eq, mv_ma_ne, wrk, within_t, within_f, in_t, in_f, isCell_t, isCell_f, isHolder_t, isHolder_f, isHolderm_t, isHolderm_f, isDay_t, isDay_f, isDaym_t, isDaym_f, isSheet_t, isSheet_f, isSheetm_t, isSheetm_f,  ↓gk197, ↓g197_0, pi197_0, S197_0, ↓g197_1, ↓g197_2, ↓g197_3, pi197_3, S197_3, ↓g197_4, pi197_4, S197_4, ↓g197_5, pi197_5, S197_5, ↓g197_6, pi197_6, S197_6, ↓g197_7, pi197_7, S197_7, ↓g197_8, ↓g197_9, ↓g197_10, ↓g197_11, ↓g197_12, ↓g197_13, pi197_13, S197_13, ↓g197_14, ↓g197_15, ↓g197_16, ↓g197_17, ↓g197_18, ↓g197_19, ↓g197_20, ↓al198, ri198, wi198, S198, M198, ↓al199, ri199, wi199, S199, M199, ↓al200, ri200, wi200, S200, M200, ↓al201, ri201, wi201, S201, M201, ↓al202, ri202, wi202, S202, M202, ↓al203, ri203, wi203, S203, M203, ↓al204, ri204, wi204, S204, M204, ↓al205, ri205, wi205, S205, M205, ↓al206, ri206, wi206, S206, M206, ↓al207, ri207, wi207, S207, M207, ↓al208, ri208, wi208, S208, M208, ↓al209, ri209, wi209, S209, M209, ↓al210, ri210, wi210, S210, M210, ↓al211, ri211, wi211, S211, M211]
    have j7j : j7 j := ⟨j0, by omega⟩
    obtain ⟨q1, q2, q3, q4, q5, q6⟩ := pq j j0 (by omega)
    have jm := jmax_l (s + A j) p
    have ee : eoj A B s p j = jmax (s + A j) p + B j := rfl
    have szn0 := szF_nn (f := fcm N T)
    have s1 : s + A j ≤ 1000 := by omega
    have evl : ∀ (rc : Int → MM → RR), f_X12_does_45b FF n rc 197 c T s p hr j G = f_X12_does_86 FF n rc 197 c T s p hr j (s + A j) (jmax (s + A j) p) G := fun rc => by
      unfold jmax
      by_cases cj : s + A j < p
      · rw [if_pos cj]
        simp (disch := first | assumption | (with_reducible show Sh _; simp only [S100_2, S101_7, S101_8, S101_9, S101_10, S102_5, S103, M103, S104, M104, S105, M105, S106, M106, S107, M107, S108_6, S108_7, S108_8, S108_9, S109, M109, S110, M110, S111, M111, S112, M112, S113, M113, S114, M114, S115_8, S116, M116, S117, M117, S118, M118, S119, M119, S120, M120, S121, M121, S122, M122, S123, M123, S124_2, S125, M125, S126, M126, S127, M127, S128, M128, S130, M130, S131, M131, S132_1, S132_2, S133, M133, S134_1, S134_2, S135, M135, S136_1, S136_2, S137, M137, S138_1, S138_2, S139, M139, S140_7, S140_8, S140_9, S140_10, S141_5, S142, M142, S143, M143, S144, M144, S145, M145, S146, M146, S147_6, S147_7, S147_8, S147_9, S148, M148, S149, M149, S150, M150, S151, M151, S152, M152, S153, M153, S154_8, S155, M155, S156, M156, S157, M157, S158, M158, S159, M159, S160, M160, S161, M161, S162, M162, S163_2, S164, M164, S165, M165, S166, M166, S167, M167, S169, M169, S170, M170, S171_1, S171_2, S172, M172, S173_1, S173_2, S174, M174, S175_1, S175_2, S176, M176, S177_1, S177_2, S178, M178, S179, M179, S180_1, S180_2, S180_5, S180_6, S180_7, S180_8, S181, M181, S182, M182, S183, M183, S184_6, S185, M185, S186, M186, S187, M187, S188, M188, S189, M189, S190, M190, S191_5, S191_6, S192, M192, S193, M193, S194, M194, S195, M195, S196, M196, S197_0, S197_3, S197_4, S197_5, S197_6, S197_7, S197_13, S198, M198, S199, M199, S200, M200, S201, M201, S202, M202, S203, M203, S204, M204, S205, M205, S206, M206, S207, M207, S208, M208, S209, M209, S210, M210, S211, M211] <;> assumption) | (with_reducible show tg _ _ = _; simp only [tg_ms, tg_ma]; assumption) | (with_reducible show ln _ _ = _; simp only [ln_ms, ln_ma]; assumption) | (with_reducible show J64 _; unfold J64; omega) | (with_reducible show J _; unfold J; omega) | omega) only [↓f_X12_does_45b, ↓e7, ↓q1, ↓bd_i, ↓lb_i, ↓rd_i, ↓wt_i, ↓pf_i, bdi_e, lbi_e, ↓ck_t, isb_0, isb_1, ↓reduceIte, ↓if_pos, ↓if_neg, Int.reduceEq, Int.reduceLT, Int.reduceLE, Int.reduceNe, Int.reduceNeg, Int.reduceAdd, Int.reduceSub, Int.reduceMul, Int.add_sub_cancel, tg_ms, ln_ms, nx_ms, tg_ma, ln_ma, nx_ma, mv_s, mv_o, mv_ma_eq, mv_ma_ne, wrk, within_t, within_f, in_t, in_f, isCell_t, isCell_f, isHolder_t, isHolder_f, isHolderm_t, isHolderm_f, isDay_t, isDay_f, isDaym_t, isDaym_f, isSheet_t, isSheet_f, isSheetm_t, isSheetm_f,  ↓gk197, ↓g197_0, pi197_0, S197_0, ↓g197_1, ↓g197_2, ↓g197_3, pi197_3, S197_3, ↓g197_4, pi197_4, S197_4, ↓g197_5, pi197_5, S197_5, ↓g197_6, pi197_6, S197_6, ↓g197_7, pi197_7, S197_7, ↓g197_8, ↓g197_9, ↓g197_10, ↓g197_11, ↓g197_12, ↓g197_13, pi197_13, S197_13, ↓g197_14, ↓g197_15, ↓g197_16, ↓g197_17, ↓g197_18, ↓g197_19, ↓g197_20, ↓al198, ri198, wi198, S198, M198, ↓al199, ri199, wi199, S199, M199, ↓al200, ri200, wi200, S200, M200, ↓al201, ri201, wi201, S201, M201, ↓al202, ri202, wi202, S202, M202, ↓al203, ri203, wi203, S203, M203, ↓al204, ri204, wi204, S204, M204, ↓al205, ri205, wi205, S205, M205, ↓al206, ri206, wi206, S206, M206, ↓al207, ri207, wi207, S207, M207, ↓al208, ri208, wi208, S208, M208, ↓al209, ri209, wi209, S209, M209, ↓al210, ri210, wi210, S210, M210, ↓al211, ri211, wi211, S211, M211]
      · rw [if_neg cj]
        by_cases ce : s + A j = p
        · rw [ce] at cj ⊢
          simp (disch := first | assumption | (with_reducible show Sh _; simp only [S100_2, S101_7, S101_8, S101_9, S101_10, S102_5, S103, M103, S104, M104, S105, M105, S106, M106, S107, M107, S108_6, S108_7, S108_8, S108_9, S109, M109, S110, M110, S111, M111, S112, M112, S113, M113, S114, M114, S115_8, S116, M116, S117, M117, S118, M118, S119, M119, S120, M120, S121, M121, S122, M122, S123, M123, S124_2, S125, M125, S126, M126, S127, M127, S128, M128, S130, M130, S131, M131, S132_1, S132_2, S133, M133, S134_1, S134_2, S135, M135, S136_1, S136_2, S137, M137, S138_1, S138_2, S139, M139, S140_7, S140_8, S140_9, S140_10, S141_5, S142, M142, S143, M143, S144, M144, S145, M145, S146, M146, S147_6, S147_7, S147_8, S147_9, S148, M148, S149, M149, S150, M150, S151, M151, S152, M152, S153, M153, S154_8, S155, M155, S156, M156, S157, M157, S158, M158, S159, M159, S160, M160, S161, M161, S162, M162, S163_2, S164, M164, S165, M165, S166, M166, S167, M167, S169, M169, S170, M170, S171_1, S171_2, S172, M172, S173_1, S173_2, S174, M174, S175_1, S175_2, S176, M176, S177_1, S177_2, S178, M178, S179, M179, S180_1, S180_2, S180_5, S180_6, S180_7, S180_8, S181, M181, S182, M182, S183, M183, S184_6, S185, M185, S186, M186, S187, M187, S188, M188, S189, M189, S190, M190, S191_5, S191_6, S192, M192, S193, M193, S194, M194, S195, M195, S196, M196, S197_0, S197_3, S197_4, S197_5, S197_6, S197_7, S197_13, S198, M198, S199, M199, S200, M200, S201, M201, S202, M202, S203, M203, S204, M204, S205, M205, S206, M206, S207, M207, S208, M208, S209, M209, S210, M210, S211, M211] <;> assumption) | (with_reducible show tg _ _ = _; simp only [tg_ms, tg_ma]; assumption) | (with_reducible show ln _ _ = _; simp only [ln_ms, ln_ma]; assumption) | (with_reducible show J64 _; unfold J64; omega) | (with_reducible show J _; unfold J; omega) | omega) only [↓f_X12_does_45b, ↓e7, ↓q1, ↓ce, ↓bd_i, ↓lb_i, ↓rd_i, ↓wt_i, ↓pf_i, bdi_e, lbi_e, ↓ck_t, isb_0, isb_1, ↓reduceIte, ↓if_pos, ↓if_neg, Int.reduceEq, Int.reduceLT, Int.reduceLE, Int.reduceNe, Int.reduceNeg, Int.reduceAdd, Int.reduceSub, Int.reduceMul, Int.add_sub_cancel, tg_ms, ln_ms, nx_ms, tg_ma, ln_ma, nx_ma, mv_s, mv_o, mv_ma_eq, mv_ma_ne, wrk, within_t, within_f, in_t, in_f, isCell_t, isCell_f, isHolder_t, isHolder_f, isHolderm_t, isHolderm_f, isDay_t, isDay_f, isDaym_t, isDaym_f, isSheet_t, isSheet_f, isSheetm_t, isSheetm_f,  ↓gk197, ↓g197_0, pi197_0, S197_0, ↓g197_1, ↓g197_2, ↓g197_3, pi197_3, S197_3, ↓g197_4, pi197_4, S197_4, ↓g197_5, pi197_5, S197_5, ↓g197_6, pi197_6, S197_6, ↓g197_7, pi197_7, S197_7, ↓g197_8, ↓g197_9, ↓g197_10, ↓g197_11, ↓g197_12, ↓g197_13, pi197_13, S197_13, ↓g197_14, ↓g197_15, ↓g197_16, ↓g197_17, ↓g197_18, ↓g197_19, ↓g197_20, ↓al198, ri198, wi198, S198, M198, ↓al199, ri199, wi199, S199, M199, ↓al200, ri200, wi200, S200, M200, ↓al201, ri201, wi201, S201, M201, ↓al202, ri202, wi202, S202, M202, ↓al203, ri203, wi203, S203, M203, ↓al204, ri204, wi204, S204, M204, ↓al205, ri205, wi205, S205, M205, ↓al206, ri206, wi206, S206, M206, ↓al207, ri207, wi207, S207, M207, ↓al208, ri208, wi208, S208, M208, ↓al209, ri209, wi209, S209, M209, ↓al210, ri210, wi210, S210, M210, ↓al211, ri211, wi211, S211, M211]
        · simp (disch := first | assumption | (with_reducible show Sh _; simp only [S100_2, S101_7, S101_8, S101_9, S101_10, S102_5, S103, M103, S104, M104, S105, M105, S106, M106, S107, M107, S108_6, S108_7, S108_8, S108_9, S109, M109, S110, M110, S111, M111, S112, M112, S113, M113, S114, M114, S115_8, S116, M116, S117, M117, S118, M118, S119, M119, S120, M120, S121, M121, S122, M122, S123, M123, S124_2, S125, M125, S126, M126, S127, M127, S128, M128, S130, M130, S131, M131, S132_1, S132_2, S133, M133, S134_1, S134_2, S135, M135, S136_1, S136_2, S137, M137, S138_1, S138_2, S139, M139, S140_7, S140_8, S140_9, S140_10, S141_5, S142, M142, S143, M143, S144, M144, S145, M145, S146, M146, S147_6, S147_7, S147_8, S147_9, S148, M148, S149, M149, S150, M150, S151, M151, S152, M152, S153, M153, S154_8, S155, M155, S156, M156, S157, M157, S158, M158, S159, M159, S160, M160, S161, M161, S162, M162, S163_2, S164, M164, S165, M165, S166, M166, S167, M167, S169, M169, S170, M170, S171_1, S171_2, S172, M172, S173_1, S173_2, S174, M174, S175_1, S175_2, S176, M176, S177_1, S177_2, S178, M178, S179, M179, S180_1, S180_2, S180_5, S180_6, S180_7, S180_8, S181, M181, S182, M182, S183, M183, S184_6, S185, M185, S186, M186, S187, M187, S188, M188, S189, M189, S190, M190, S191_5, S191_6, S192, M192, S193, M193, S194, M194, S195, M195, S196, M196, S197_0, S197_3, S197_4, S197_5, S197_6, S197_7, S197_13, S198, M198, S199, M199, S200, M200, S201, M201, S202, M202, S203, M203, S204, M204, S205, M205, S206, M206, S207, M207, S208, M208, S209, M209, S210, M210, S211, M211] <;> assumption) | (with_reducible show tg _ _ = _; simp only [tg_ms, tg_ma]; assumption) | (with_reducible show ln _ _ = _; simp only [ln_ms, ln_ma]; assumption) | (with_reducible show J64 _; unfold J64; omega) | (with_reducible show J _; unfold J; omega) | omega) only [↓f_X12_does_45b, ↓e7, ↓q1, ↓bd_i, ↓lb_i, ↓rd_i, ↓wt_i, ↓pf_i, bdi_e, lbi_e, ↓ck_t, isb_0, isb_1, ↓reduceIte, ↓if_pos, ↓if_neg, Int.reduceEq, Int.reduceLT, Int.reduceLE, Int.reduceNe, Int.reduceNeg, Int.reduceAdd, Int.reduceSub, Int.reduceMul, Int.add_sub_cancel, tg_ms, ln_ms, nx_ms, tg_ma, ln_ma, nx_ma, mv_s, mv_o, mv_ma_eq, mv_ma_ne, wrk, within_t, within_f, in_t, in_f, isCell_t, isCell_f, isHolder_t, isHolder_f, isHolderm_t, isHolderm_f, isDay_t, isDay_f, isDaym_t, isDaym_f, isSheet_t, isSheet_f, isSheetm_t, isSheetm_f,  ↓gk197, ↓g197_0, pi197_0, S197_0, ↓g197_1, ↓g197_2, ↓g197_3, pi197_3, S197_3, ↓g197_4, pi197_4, S197_4, ↓g197_5, pi197_5, S197_5, ↓g197_6, pi197_6, S197_6, ↓g197_7, pi197_7, S197_7, ↓g197_8, ↓g197_9, ↓g197_10, ↓g197_11, ↓g197_12, ↓g197_13, pi197_13, S197_13, ↓g197_14, ↓g197_15, ↓g197_16, ↓g197_17, ↓g197_18, ↓g197_19, ↓g197_20, ↓al198, ri198, wi198, S198, M198, ↓al199, ri199, wi199, S199, M199, ↓al200, ri200, wi200, S200, M200, ↓al201, ri201, wi201, S201, M201, ↓al202, ri202, wi202, S202, M202, ↓al203, ri203, wi203, S203, M203, ↓al204, ri204, wi204, S204, M204, ↓al205, ri205, wi205, S205, M205, ↓al206, ri206, wi206, S206, M206, ↓al207, ri207, wi207, S207, M207, ↓al208, ri208, wi208, S208, M208, ↓al209, ri209, wi209, S209, M209, ↓al210, ri210, wi210, S210, M210, ↓al211, ri211, wi211, S211, M211]
    have skip : (fcm N T j = true → hr < eoj A B s p j) → f_X12_does_45 FF n 197 c T s p hr (m + 1) j G = f_X12_does_45 FF n 197 c T s p hr m (j + 1) G → ∃ G' v', f_X12_does_45 FF n 197 c T s p hr (m + 1) j G = some (0, G') ∧ IsM A B hr (fcm N T) s p v' ∧ LIV A B hr N c T s p G0 G' v' := fun no e1 => by
      obtain ⟨G', v', y1, y2, y3⟩ := dlp_l hh hc hT js jp b0 IH m (j + 1) v G P (by omega) (by omega) (by omega) ⟨by
        rcases M.1 with u | ⟨i, i0, i1, i2⟩
        · exact Or.inl u
        · exact Or.inr ⟨i, i0, by omega, i2⟩, fun i w i0 i1 fi W => by
        by_cases e : i = j
        · subst e
          have hBi : ∀ k : Int, j7 k → rmv (fcm N T) i k = true → 0 ≤ B k := fun k kk fk => hB k kk (rmv_t fk).1
          have := IsM.ge hBi W
          have := no fi
          omega
        · exact M.2 i w i0 (by omega) fi W⟩ (fun i i0 i1 fi ei => by
        by_cases e : i = j
        · subst e; have := no fi; omega
        · exact ex i i0 (by omega) fi ei) L
      exact ⟨G', v', e1.trans y1, y2, y3⟩
    have st : f_X12_does_45 FF n 197 c T s p hr (m + 1) j G = f_X12_does_86 FF n (f_X12_does_45 FF n 197 c T s p hr m) 197 c T s p hr j (s + A j) (jmax (s + A j) p) G := evl _
    by_cases bT : ban (shr T j) 1 = 0
    · have fj : fcm N T j = true := fcm_t.mpr ⟨⟨j0, by omega⟩, bT⟩
      by_cases le : eoj A B s p j ≤ hr
      · have szj := szF_r j7j fj
        have szn := szF_nn (f := rmv (fcm N T) j)
        obtain ⟨l1, l2, l3, l4, l5, l6⟩ := L
        have P1 : PMS (ms G 203 c j) N A B := pms_fr P ((FrN.refl G).w (Or.inl rfl))
        have jb := jmax_l (mv G0 197 13) (c + v)
        have o13 : mv (ms G 203 c j) 197 13 = mv G 197 13 := mv_o (by omega)
        have v7 : c + v ≤ 7 := by
          rcases M.1 with u | ⟨i, i0, i1, fi, W⟩
          · omega
          · obtain ⟨k, f, ek, sb, sz, -⟩ := W.1
            have s2 := szF_r i0 fi
            have : szF f ≤ szF (rmv (fcm N T) i) := by
              have : ∀ k : Nat, (k : Int) ≤ 7 → sumI (fun i => if f i = true then (1 : Int) else 0) k ≤ sumI (fun x => if rmv (fcm N T) i x = true then (1 : Int) else 0) k := by
                intro k
                induction k with
                | zero => intro _; exact Int.le_refl _
                | succ k ih =>
                  intro hk
                  have a := ih (by omega)
                  have b : (if f (k : Int) = true then (1 : Int) else 0) ≤ if rmv (fcm N T) i (k : Int) = true then 1 else 0 := by
                    by_cases u : f (k : Int) = true
                    · rw [if_pos u, if_pos (sb (k : Int) ⟨by omega, by omega⟩ u)]; exact Int.le_refl _
                    · rw [if_neg u]; split <;> omega
                  show sumI (fun i => if f i = true then (1 : Int) else 0) k + (if f (k : Int) = true then (1 : Int) else 0) ≤ sumI (fun x => if rmv (fcm N T) i x = true then (1 : Int) else 0) k + (if rmv (fcm N T) i (k : Int) = true then 1 else 0)
                  exact Int.add_le_add a b
              exact this 7 (by omega)
            omega
        obtain ⟨G2, w, y1, y2, y3⟩ := IH j (ms G 203 c j) j7j fj P1 (by rw [o13, l4]; omega) le (by rw [ee]; omega)
        obtain ⟨r1, r2, r3, r4, r5, r6⟩ := y3
        have S2 := (pms_fr P1 r1).1
        rw [o13] at r4 r5 r6
        have jb2 := jmax_l (mv G 197 13) (c + 1 + w)
        have bo := bor_e hT j7j
        have M' : MJ A B hr (fcm N T) s p (j + 1) (jmax v (w + 1)) := by
          have jv := jmax_l v (w + 1)
          refine ⟨?_, fun i w' i0 i1 fi W => ?_⟩
          · rcases jv.2.2 with u | u
            · rw [u]
              rcases M.1 with u2 | ⟨i, i0, i1, i2⟩
              · exact Or.inl u2
              · exact Or.inr ⟨i, i0, by omega, i2⟩
            · rw [u]
              exact Or.inr ⟨j, j7j, by omega, fj, by rw [show w + 1 - 1 = w by omega]; exact y2⟩
          · by_cases e : i = j
            · subst e
              have := IsM.u W y2
              omega
            · have := M.2 i w' i0 (by omega) fi W
              omega
        have L' : LIV A B hr N c T s p G0 G2 (jmax v (w + 1)) := by
          have jv := jmax_l v (w + 1)
          have FR : FrN DFR G0 G2 := (l1.w (Or.inl rfl)).trans r1
          refine ⟨FR, fun i i0 i1 => ?_, by omega, ?_, fun q i i0 i1 => ?_, fun q => ?_⟩
          · rw [r2 i i0 (by omega), mv_o (by omega)]; exact l2 i i0 i1
          · rw [r4, l4]; exact mxD
          · obtain ⟨m1, m2, m3⟩ := mxA q
            have bm : mv G 197 13 = mv G0 197 13 := l4.trans m1
            rw [bm] at r5
            rw [r5 m2 i i0 i1, mv_o (Or.inl (by decide))]
            exact l5 m3 i i0 i1
          · by_cases up : mv G 197 13 < c + 1 + w
            · have up' := up
              rw [l4] at up'
              have ev := mxB up'
              obtain ⟨t1, k, tk, t2⟩ := r6 up
              have bc' : mv G2 204 c = j := by rw [t1 c hc.1 (by omega), mv_s rfl]
              refine ⟨fun i i0 i1 => ?_, k + 1, ?_, ?_⟩
              · rw [t1 i i0 (by omega), mv_o (by omega)]; exact l2 i i0 i1
              · rw [ev, ← tk]; rfl
              · unfold OptW
                rw [bc']
                rw [fcm_r hN.2 j7j] at t2
                refine ⟨j7j, fj, by rw [tk]; exact y2, fun i w' i0 i1 fi W => ?_, t2⟩
                have z := M.2 i w' i0 i1 fi W
                have z2 : v ≤ w := by
                  have := (jmax_l (mv G0 197 13) (c + v)).2.1
                  omega
                omega
            · have up' := up
              rw [l4] at up'
              obtain ⟨ev, q'⟩ := mxC up' q
              rw [ev]
              obtain ⟨t1, k, tk, t2⟩ := l6 q'
              have up2 : c + 1 + w ≤ mv G 197 13 := Int.not_lt.mp up
              have same : ∀ i : Int, 0 ≤ i → i < mv G 197 13 → mv G2 204 i = mv G 204 i := fun i i0 i1 => by rw [r5 up2 i i0 i1, mv_o (Or.inl (by decide))]
              have big : c + v ≤ mv G 197 13 := by rw [l4]; exact (jmax_l _ _).2.1
              refine ⟨fun i i0 i1 => by rw [same i i0 (by omega)]; exact t1 i i0 i1, k, tk, OptW_c k _ _ _ (mv G 204) _ c (fun i i0 i1 => same i (by omega) (by omega)) t2⟩
        obtain ⟨G', v', z1, z2, z3⟩ := dlp_l hh hc hT js jp b0 IH m (j + 1) (jmax v (w + 1)) G2 (pms_fr P1 r1) (by omega) (by omega) (by omega) M' (fun i i0 i1 fi ei => by
          by_cases e : i = j
          · subst e; exact ⟨w, y2⟩
          · exact ex i i0 (by omega) fi ei) L'
        refine ⟨G', v', ?_, z2, z3⟩
        rw [← z1, st]
        rw [ee] at y1 le
        generalize hJ : jmax (s + A j) p = jj at y1 le jm
        simp (disch := first | assumption | (with_reducible show Sh _; simp only [S100_2, S101_7, S101_8, S101_9, S101_10, S102_5, S103, M103, S104, M104, S105, M105, S106, M106, S107, M107, S108_6, S108_7, S108_8, S108_9, S109, M109, S110, M110, S111, M111, S112, M112, S113, M113, S114, M114, S115_8, S116, M116, S117, M117, S118, M118, S119, M119, S120, M120, S121, M121, S122, M122, S123, M123, S124_2, S125, M125, S126, M126, S127, M127, S128, M128, S130, M130, S131, M131, S132_1, S132_2, S133, M133, S134_1, S134_2, S135, M135, S136_1, S136_2, S137, M137, S138_1, S138_2, S139, M139, S140_7, S140_8, S140_9, S140_10, S141_5, S142, M142, S143, M143, S144, M144, S145, M145, S146, M146, S147_6, S147_7, S147_8, S147_9, S148, M148, S149, M149, S150, M150, S151, M151, S152, M152, S153, M153, S154_8, S155, M155, S156, M156, S157, M157, S158, M158, S159, M159, S160, M160, S161, M161, S162, M162, S163_2, S164, M164, S165, M165, S166, M166, S167, M167, S169, M169, S170, M170, S171_1, S171_2, S172, M172, S173_1, S173_2, S174, M174, S175_1, S175_2, S176, M176, S177_1, S177_2, S178, M178, S179, M179, S180_1, S180_2, S180_5, S180_6, S180_7, S180_8, S181, M181, S182, M182, S183, M183, S184_6, S185, M185, S186, M186, S187, M187, S188, M188, S189, M189, S190, M190, S191_5, S191_6, S192, M192, S193, M193, S194, M194, S195, M195, S196, M196, S197_0, S197_3, S197_4, S197_5, S197_6, S197_7, S197_13, S198, M198, S199, M199, S200, M200, S201, M201, S202, M202, S203, M203, S204, M204, S205, M205, S206, M206, S207, M207, S208, M208, S209, M209, S210, M210, S211, M211] <;> assumption) | (with_reducible show tg _ _ = _; simp only [tg_ms, tg_ma]; assumption) | (with_reducible show ln _ _ = _; simp only [ln_ms, ln_ma]; assumption) | (with_reducible show J64 _; unfold J64; omega) | (with_reducible show J _; unfold J; omega) | omega) only [↓f_X12_does_86, ↓f_X12_does_143, ↓q2, ↓y1, ↓bd_i, ↓lb_i, ↓rd_i, ↓wt_i, ↓pf_i, bdi_e, lbi_e, ↓ck_t, isb_0, isb_1, ↓reduceIte, ↓if_pos, ↓if_neg, Int.reduceEq, Int.reduceLT, Int.reduceLE, Int.reduceNe, Int.reduceNeg, Int.reduceAdd, Int.reduceSub, Int.reduceMul, Int.add_sub_cancel, tg_ms, ln_ms, nx_ms, tg_ma, ln_ma, nx_ma, mv_s, mv_o, mv_ma_eq, mv_ma_ne, wrk, within_t, within_f, in_t, in_f, isCell_t, isCell_f, isHolder_t, isHolder_f, isHolderm_t, isHolderm_f, isDay_t, isDay_f, isDaym_t, isDaym_f, isSheet_t, isSheet_f, isSheetm_t, isSheetm_f,  ↓gk197, ↓g197_0, pi197_0, S197_0, ↓g197_1, ↓g197_2, ↓g197_3, pi197_3, S197_3, ↓g197_4, pi197_4, S197_4, ↓g197_5, pi197_5, S197_5, ↓g197_6, pi197_6, S197_6, ↓g197_7, pi197_7, S197_7, ↓g197_8, ↓g197_9, ↓g197_10, ↓g197_11, ↓g197_12, ↓g197_13, pi197_13, S197_13, ↓g197_14, ↓g197_15, ↓g197_16, ↓g197_17, ↓g197_18, ↓g197_19, ↓g197_20, ↓al198, ri198, wi198, S198, M198, ↓al199, ri199, wi199, S199, M199, ↓al200, ri200, wi200, S200, M200, ↓al201, ri201, wi201, S201, M201, ↓al202, ri202, wi202, S202, M202, ↓al203, ri203, wi203, S203, M203, ↓al204, ri204, wi204, S204, M204, ↓al205, ri205, wi205, S205, M205, ↓al206, ri206, wi206, S206, M206, ↓al207, ri207, wi207, S207, M207, ↓al208, ri208, wi208, S208, M208, ↓al209, ri209, wi209, S209, M209, ↓al210, ri210, wi210, S210, M210, ↓al211, ri211, wi211, S211, M211]
      · refine skip (fun _ => by omega) ?_
        rw [st]
        rw [ee] at le
        generalize hJ : jmax (s + A j) p = jj at le jm
        simp (disch := first | assumption | (with_reducible show Sh _; simp only [S100_2, S101_7, S101_8, S101_9, S101_10, S102_5, S103, M103, S104, M104, S105, M105, S106, M106, S107, M107, S108_6, S108_7, S108_8, S108_9, S109, M109, S110, M110, S111, M111, S112, M112, S113, M113, S114, M114, S115_8, S116, M116, S117, M117, S118, M118, S119, M119, S120, M120, S121, M121, S122, M122, S123, M123, S124_2, S125, M125, S126, M126, S127, M127, S128, M128, S130, M130, S131, M131, S132_1, S132_2, S133, M133, S134_1, S134_2, S135, M135, S136_1, S136_2, S137, M137, S138_1, S138_2, S139, M139, S140_7, S140_8, S140_9, S140_10, S141_5, S142, M142, S143, M143, S144, M144, S145, M145, S146, M146, S147_6, S147_7, S147_8, S147_9, S148, M148, S149, M149, S150, M150, S151, M151, S152, M152, S153, M153, S154_8, S155, M155, S156, M156, S157, M157, S158, M158, S159, M159, S160, M160, S161, M161, S162, M162, S163_2, S164, M164, S165, M165, S166, M166, S167, M167, S169, M169, S170, M170, S171_1, S171_2, S172, M172, S173_1, S173_2, S174, M174, S175_1, S175_2, S176, M176, S177_1, S177_2, S178, M178, S179, M179, S180_1, S180_2, S180_5, S180_6, S180_7, S180_8, S181, M181, S182, M182, S183, M183, S184_6, S185, M185, S186, M186, S187, M187, S188, M188, S189, M189, S190, M190, S191_5, S191_6, S192, M192, S193, M193, S194, M194, S195, M195, S196, M196, S197_0, S197_3, S197_4, S197_5, S197_6, S197_7, S197_13, S198, M198, S199, M199, S200, M200, S201, M201, S202, M202, S203, M203, S204, M204, S205, M205, S206, M206, S207, M207, S208, M208, S209, M209, S210, M210, S211, M211] <;> assumption) | (with_reducible show tg _ _ = _; simp only [tg_ms, tg_ma]; assumption) | (with_reducible show ln _ _ = _; simp only [ln_ms, ln_ma]; assumption) | (with_reducible show J64 _; unfold J64; omega) | (with_reducible show J _; unfold J; omega) | omega) only [↓f_X12_does_86, ↓f_X12_does_143, ↓q2, ↓bd_i, ↓lb_i, ↓rd_i, ↓wt_i, ↓pf_i, bdi_e, lbi_e, ↓ck_t, isb_0, isb_1, ↓reduceIte, ↓if_pos, ↓if_neg, Int.reduceEq, Int.reduceLT, Int.reduceLE, Int.reduceNe, Int.reduceNeg, Int.reduceAdd, Int.reduceSub, Int.reduceMul, Int.add_sub_cancel, tg_ms, ln_ms, nx_ms, tg_ma, ln_ma, nx_ma, mv_s, mv_o, mv_ma_eq, mv_ma_ne, wrk, within_t, within_f, in_t, in_f, isCell_t, isCell_f, isHolder_t, isHolder_f, isHolderm_t, isHolderm_f, isDay_t, isDay_f, isDaym_t, isDaym_f, isSheet_t, isSheet_f, isSheetm_t, isSheetm_f,  ↓gk197, ↓g197_0, pi197_0, S197_0, ↓g197_1, ↓g197_2, ↓g197_3, pi197_3, S197_3, ↓g197_4, pi197_4, S197_4, ↓g197_5, pi197_5, S197_5, ↓g197_6, pi197_6, S197_6, ↓g197_7, pi197_7, S197_7, ↓g197_8, ↓g197_9, ↓g197_10, ↓g197_11, ↓g197_12, ↓g197_13, pi197_13, S197_13, ↓g197_14, ↓g197_15, ↓g197_16, ↓g197_17, ↓g197_18, ↓g197_19, ↓g197_20, ↓al198, ri198, wi198, S198, M198, ↓al199, ri199, wi199, S199, M199, ↓al200, ri200, wi200, S200, M200, ↓al201, ri201, wi201, S201, M201, ↓al202, ri202, wi202, S202, M202, ↓al203, ri203, wi203, S203, M203, ↓al204, ri204, wi204, S204, M204, ↓al205, ri205, wi205, S205, M205, ↓al206, ri206, wi206, S206, M206, ↓al207, ri207, wi207, S207, M207, ↓al208, ri208, wi208, S208, M208, ↓al209, ri209, wi209, S209, M209, ↓al210, ri210, wi210, S210, M210, ↓al211, ri211, wi211, S211, M211]
    · refine skip (fun u => absurd (fcm_t.mp u).2 bT) ?_
      rw [st]
      generalize hJ : jmax (s + A j) p = jj at jm
      simp (disch := first | assumption | (with_reducible show Sh _; simp only [S100_2, S101_7, S101_8, S101_9, S101_10, S102_5, S103, M103, S104, M104, S105, M105, S106, M106, S107, M107, S108_6, S108_7, S108_8, S108_9, S109, M109, S110, M110, S111, M111, S112, M112, S113, M113, S114, M114, S115_8, S116, M116, S117, M117, S118, M118, S119, M119, S120, M120, S121, M121, S122, M122, S123, M123, S124_2, S125, M125, S126, M126, S127, M127, S128, M128, S130, M130, S131, M131, S132_1, S132_2, S133, M133, S134_1, S134_2, S135, M135, S136_1, S136_2, S137, M137, S138_1, S138_2, S139, M139, S140_7, S140_8, S140_9, S140_10, S141_5, S142, M142, S143, M143, S144, M144, S145, M145, S146, M146, S147_6, S147_7, S147_8, S147_9, S148, M148, S149, M149, S150, M150, S151, M151, S152, M152, S153, M153, S154_8, S155, M155, S156, M156, S157, M157, S158, M158, S159, M159, S160, M160, S161, M161, S162, M162, S163_2, S164, M164, S165, M165, S166, M166, S167, M167, S169, M169, S170, M170, S171_1, S171_2, S172, M172, S173_1, S173_2, S174, M174, S175_1, S175_2, S176, M176, S177_1, S177_2, S178, M178, S179, M179, S180_1, S180_2, S180_5, S180_6, S180_7, S180_8, S181, M181, S182, M182, S183, M183, S184_6, S185, M185, S186, M186, S187, M187, S188, M188, S189, M189, S190, M190, S191_5, S191_6, S192, M192, S193, M193, S194, M194, S195, M195, S196, M196, S197_0, S197_3, S197_4, S197_5, S197_6, S197_7, S197_13, S198, M198, S199, M199, S200, M200, S201, M201, S202, M202, S203, M203, S204, M204, S205, M205, S206, M206, S207, M207, S208, M208, S209, M209, S210, M210, S211, M211] <;> assumption) | (with_reducible show tg _ _ = _; simp only [tg_ms, tg_ma]; assumption) | (with_reducible show ln _ _ = _; simp only [ln_ms, ln_ma]; assumption) | (with_reducible show J64 _; unfold J64; omega) | (with_reducible show J _; unfold J; omega) | omega) only [↓f_X12_does_86, ↓f_X12_does_143, ↓q2, ↓bd_i, ↓lb_i, ↓rd_i, ↓wt_i, ↓pf_i, bdi_e, lbi_e, ↓ck_t, isb_0, isb_1, ↓reduceIte, ↓if_pos, ↓if_neg, Int.reduceEq, Int.reduceLT, Int.reduceLE, Int.reduceNe, Int.reduceNeg, Int.reduceAdd, Int.reduceSub, Int.reduceMul, Int.add_sub_cancel, tg_ms, ln_ms, nx_ms, tg_ma, ln_ma, nx_ma, mv_s, mv_o, mv_ma_eq, mv_ma_ne, wrk, within_t, within_f, in_t, in_f, isCell_t, isCell_f, isHolder_t, isHolder_f, isHolderm_t, isHolderm_f, isDay_t, isDay_f, isDaym_t, isDaym_f, isSheet_t, isSheet_f, isSheetm_t, isSheetm_f,  ↓gk197, ↓g197_0, pi197_0, S197_0, ↓g197_1, ↓g197_2, ↓g197_3, pi197_3, S197_3, ↓g197_4, pi197_4, S197_4, ↓g197_5, pi197_5, S197_5, ↓g197_6, pi197_6, S197_6, ↓g197_7, pi197_7, S197_7, ↓g197_8, ↓g197_9, ↓g197_10, ↓g197_11, ↓g197_12, ↓g197_13, pi197_13, S197_13, ↓g197_14, ↓g197_15, ↓g197_16, ↓g197_17, ↓g197_18, ↓g197_19, ↓g197_20, ↓al198, ri198, wi198, S198, M198, ↓al199, ri199, wi199, S199, M199, ↓al200, ri200, wi200, S200, M200, ↓al201, ri201, wi201, S201, M201, ↓al202, ri202, wi202, S202, M202, ↓al203, ri203, wi203, S203, M203, ↓al204, ri204, wi204, S204, M204, ↓al205, ri205, wi205, S205, M205, ↓al206, ri206, wi206, S206, M206, ↓al207, ri207, wi207, S207, M207, ↓al208, ri208, wi208, S208, M208, ↓al209, ri209, wi209, S209, M209, ↓al210, ri210, wi210, S210, M210, ↓al211, ri211, wi211, S211, M211]
end DOE
