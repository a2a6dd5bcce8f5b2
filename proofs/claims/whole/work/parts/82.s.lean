/-! WRITES TO ORDERS' FACTS AND PLACES, AND TO WHAT IS ONLY SCRATCH -/
def Mt (h : MM) (a j : Int) : Prop := 212 ≤ a ∧ ((tg h a = 3 ∧ j = 5) ∨ (tg h a = 100 ∧ tg h (a - 3) = 3))
def FrM (h h1 : MM) : Prop := h1.2 = h.2 ∧ ∀ a j : Int, ¬ (Mt h a j ∨ Scr a j) → mv h1 a j = mv h a j
section FRM
variable {h h0 h1 h2 g : MM} {a i v : Int}
theorem tg2 (e : h1.2 = h.2) : tg h1 a = tg h a := congrArg (fun z : (Int → Int × Int) × Int × Int => (z.1 a).1) e
theorem ln2 (e : h1.2 = h.2) : ln h1 a = ln h a := congrArg (fun z : (Int → Int × Int) × Int × Int => (z.1 a).2) e
theorem nx2 (e : h1.2 = h.2) : nx h1 = nx h := congrArg (fun z : (Int → Int × Int) × Int × Int => z.2.1) e
theorem sl2 (e : h1.2 = h.2) : sl h1 = sl h := congrArg (fun z : (Int → Int × Int) × Int × Int => z.2.2) e
theorem FrM.refl (h : MM) : FrM h h := ⟨rfl, fun _ _ _ => rfl⟩
theorem Mt_2 (e : h1.2 = h.2) {a j : Int} : Mt h1 a j ↔ Mt h a j := by unfold Mt; rw [tg2 e, tg2 e]
theorem FrM.trans (F : FrM h h1) (G : FrM h1 h2) : FrM h h2 := ⟨G.1.trans F.1, fun a j q => (G.2 a j (fun z => q (z.elim (fun y => Or.inl ((Mt_2 F.1).mp y)) Or.inr))).trans (F.2 a j q)⟩
theorem FrM.w (F : FrM h h1) (q : Mt h a i) : FrM h (ms h1 a i v) := by
  refine ⟨F.1, fun b j hb => ?_⟩
  rw [mv_o ?_]
  · exact F.2 b j hb
  · by_cases c : b = a
    · by_cases d : j = i
      · subst c; subst d; exact absurd (Or.inl q) hb
      · exact Or.inr d
    · exact Or.inl c
theorem FrN.m {P : Int → Int → Prop} (F : FrN P h h1) (ok : ∀ a j, P a j → Scr a j) : FrM h h1 := ⟨F.1, fun a j q => F.2 a j (fun z => q (Or.inr (ok a j z)))⟩
theorem FrM.sh (F : FrM h h1) (S : Sh h) : Sh h1 := by
  refine ⟨fun k hk => ?_, fun p hp => ?_, by rw [nx2 F.1]; exact S.2.2⟩
  · rw [tg2 F.1, ln2 F.1]; exact S.1 k hk
  · have z := rL_lt p hp
    rw [F.2 _ _ (fun q => q.elim (fun y => by have := y.1; omega) (fun y => Wok_ref p hp y.1))]; exact S.2.1 p hp
theorem FrM.keep (F : FrM h h1) : Keep h h1 := by
  refine ⟨by rw [nx2 F.1]; omega, fun a _ => ⟨tg2 F.1, ln2 F.1⟩, fun a j _ hb hm => F.2 a j (fun z => ?_), F.2 _ _ (fun z => ?_), F.2 _ _ (fun z => ?_)⟩
  · rcases z with z | z
    · exact hm z
    · obtain ⟨z1, z2, z3⟩ := z
      unfold Wok at z1
      omega
  · rcases z with z | z
    · have := z.1; omega
    · have := z.2; omega
  · rcases z with z | z
    · have := z.1; omega
    · have := z.1; unfold Wok at this; omega
theorem FrM.lo (F : FrM h h1) {a j : Int} (q : a ≤ 179 ∨ a = 198) : mv h1 a j = mv h a j := by
  refine F.2 a j (fun z => ?_)
  rcases z with z | z
  · have := z.1; omega
  · have := z.2; omega
theorem Inv.sm0 {k : Int} (I : Inv k h) (F : FrM h h1) : Inv k h1 := by
  have K := F.keep
  have hS := F.sh I.1
  obtain ⟨i1, i2, i3, i4, i5, ⟨i6, i7⟩, i8, i9, i10⟩ := I
  have hz : 200 ≤ nx h := by have := i1.2.2; omega
  have P := i3.keep K hz
  have b0 : mv h 198 0 ≤ 999 := i5.1.2.1.1.2
  refine ⟨hS, i2.keep K (fun a g1 g2 => by rw [nx2 F.1] at g2; omega), P.1, i4.keep K.imm hz, ?_, ⟨?_, ?_⟩, by rw [nx2 F.1]; exact i8, by rw [sl2 F.1]; exact i9, by rw [F.lo (Or.inr rfl)]; exact i10⟩
  · have W : SameW 0 198 h h1 := ⟨fun a j g1 g2 => F.lo (by omega), fun j => F.lo (Or.inr rfl)⟩
    refine i5.fr i2 W K.imm (fun rp => ?_)
    exact rp.fr W.2 (fun d _ _ => P.2.1 d) (fun d h0 h1 => P.2.2 d h0 (by omega) (rp d h0 h1).1)
  · rw [K.2.2.2.1, K.2.2.2.2]; exact i6
  · rw [K.2.2.2.1]
    rcases i7 with q | ⟨q1, q2, q3, q4⟩
    · exact Or.inl q
    · have W : SameW 39 199 h h1 := ⟨fun a j g1 g2 => K.2.2.1 a j (by omega) (by omega) (by omega), fun j => K.2.2.1 199 j (by omega) (by omega) (by omega)⟩
      refine Or.inr ⟨q1, (q2.fr i2 W K.imm (fun rp => ?_)), by rw [W.2, F.lo (Or.inr rfl)]; exact q3, by rw [W.2]; exact q4⟩
      have b0 : mv h 199 0 ≤ 999 := q2.1.2.1.1.2
      exact rp.fr W.2 (fun d _ _ => P.2.1 d) (fun d h0 h1 => P.2.2 d h0 (by omega) (rp d h0 h1).1)
theorem Inv.up {k : Int} (I : Inv k h) : Inv (k + 1) h := I.q I.1 (Keep.refl h) rfl rfl (SameW.refl _ _ h)
theorem Mt_mut {a j : Int} (q : Mt h a j) : Mut h a j := by
  obtain ⟨q1, q2 | q2⟩ := q
  · exact ⟨q1, Or.inl q2⟩
  · exact ⟨q1, Or.inr ⟨q2.1, Or.inl q2.2⟩⟩
theorem Dc.fm (D : Dc h h0) (F : FrM h h1) : Dc h1 h0 := by
  obtain ⟨d1, d2, d3, d4, d5⟩ := D
  refine ⟨d1, F.sh d2, F.1.trans d3, fun a j g1 g2 => ?_, d5.trans F.keep.imm⟩
  rw [F.lo (by omega)]; exact d4 a j g1 g2
theorem Dm.fm (E : Dm g h0) (F : FrM g h1) : Dm h1 h0 := ⟨E.1, F.sh E.2.1, fun j => (F.lo (Or.inr rfl)).trans (E.2.2 j)⟩
theorem StI.fm (T : StI h) (S : Sh h) (F : FrM h h1) : StI h1 := T.keep F.keep.imm (by have := S.2.2; omega)
theorem Rd.dc (R : Rd h) : Dc h h := ⟨R, R.1, rfl, fun _ _ _ _ => rfl, Imm.refl h⟩
theorem Rd.dm (R : Rd h) : Dm h h := ⟨R, R.1, fun _ => rfl⟩
end FRM
/-! YARDS OF A PLAN, IN BOTH STATES -/
section YDS
variable {n : Nat} {h g h0 : MM} {p w d a o : Int}
noncomputable def ydS (n : Nat) (h0 : MM) (w : Int) : Int := match f_X12_yardsOf n 197 w h0 with
  | some (y, _) => y
  | none => 0
theorem yd_u {y : Int} (e : f_X12_yardsOf n 197 w h0 = some (y, h0)) : ydS n h0 w = y := by unfold ydS; rw [e]
theorem yd_m (hn : 10000000 ≤ n) (E : Dm g h0) (w0 : 0 ≤ w) (w1 : w < mv h0 198 2) (w2 : mv h0 198 (370 + w) = 2) : f_X12_yardsOf n 197 w g = some (ydS n h0 w, g) ∧ 0 ≤ ydS n h0 w ∧ ydS n h0 w ≤ 13080 := by
  have D := E.1.dc
  obtain ⟨k1, k2, k3, k4, k5, k6, k7, -⟩ := pob D w0 w1
  obtain ⟨y, y1, y2, y3⟩ := yards_e hn D E w0 w1 w2 k7 (pln D w0 w1 w2).1
  obtain ⟨z, z1, z2, z3⟩ := yards_e hn D E.1.dm w0 w1 w2 k7 (pln D w0 w1 w2).1
  rw [y1] at z1
  injection z1 with z1
  injection z1 with z1 z4
  rw [yd_u z2, ← z1]
  exact ⟨y2, by omega, by omega⟩
theorem yd_c (hn : 10000000 ≤ n) (D : Dc h h0) (q0 : 0 ≤ p) (q1 : p < mv h0 198 2) (q2 : mv h0 198 (370 + p) = 3) : f_X1_yardsOf n 102 (mv h (mv h 109 p) 3) h = some (ydS n h0 (mv h0 198 (430 + p)), h) := by
  obtain ⟨k1, k2, k3, k4, k5, k6, k7, -⟩ := pob D q0 q1
  obtain ⟨w0, w1, w2, -⟩ := bpl D.1 q0 q1 q2
  obtain ⟨y, y1, y2, y3⟩ := yards_e hn D D.1.dm w0 (by omega) w2 k7 (bcl D q0 q1 q2)
  rw [yd_u y2]; exact y1
/-- the six facts -/
noncomputable def fcS (n : Nat) (h0 : MM) (p i : Int) : Int := if i = 0 then idv (ydS n h0 (mv h0 198 (430 + p))) 10 else if i = 1 then mv h0 198 (186 + mv h0 198 (550 + p)) + mv h0 198 (186 + mv h0 198 (610 + p)) else if i = 2 then grN h0 (mv h0 198 (430 + p)) 2 (mv h0 198 (850 + mv h0 198 (430 + p))).toNat else if i = 3 then grN h0 (mv h0 198 (430 + p)) 1 (mv h0 198 (850 + mv h0 198 (430 + p))).toNat else if i = 4 then clN h0 (mv h0 198 (430 + p)) (mv h0 198 2).toNat else mv h0 198 (670 + p)
noncomputable def letE (n : Nat) (h0 : MM) (p d : Int) : PR := exS (oB 198 h0 (rlS h0 6 d)) (fcS n h0 p) 5 (mv h0 198 (11070 + 8 * rlS h0 6 d + lastc 198 h0 (rlS h0 6 d) 6))
noncomputable def letS (n : Nat) (h0 : MM) (p d : Int) : Int := if rlS h0 6 d = -1 then 1 else if (letE n h0 p d).1 = some true then 1 else 0
theorem letS_01 : letS n h0 p d = 0 ∨ letS n h0 p d = 1 := by
  unfold letS
  split
  · exact Or.inr rfl
  · split
    · exact Or.inr rfl
    · exact Or.inl rfl
/-- the order that rules LET, its place and that it reads -/
theorem letO (R : Rd h0) (z : rlS h0 6 d ≠ -1) : 0 ≤ mv h0 198 (11070 + 8 * rlS h0 6 d + lastc 198 h0 (rlS h0 6 d) 6) ∧ mv h0 198 (11070 + 8 * rlS h0 6 d + lastc 198 h0 (rlS h0 6 d) 6) ≤ mv h0 198 (9630 + rlS h0 6 d) ∧ (letE n h0 p d).1 ≠ none := by
  obtain ⟨a0, a1, l0, l1⟩ := rlS_f R z
  obtain ⟨o1, o2, o3, o4, o5⟩ := ordo R a0 a1
  have lb := lastc_bd (w := 6) R a0 a1
  have e : mv h0 198 (10910 + 8 * rlS h0 6 d + lastc 198 h0 (rlS h0 6 d) 6) = 6 := lcI_eq _ (show lcI 198 h0 (rlS h0 6 d) 6 _ ≠ -1 from fun y => by have y : lastc 198 h0 (rlS h0 6 d) 6 = -1 := y; omega)
  have x := (o5 _ l0 lb.2).2.2.2.2 e
  refine ⟨x.2.1, x.2.2.1, fun y => x.2.2.2 ?_⟩
  exact (exS_sm 5 _).2.mp y
/-- class-side facts of a bill's way -/
theorem bfc (hn : 10000000 ≤ n) (D : Dc h h0) (q0 : 0 ≤ p) (q1 : p < mv h0 198 2) (q2 : mv h0 198 (370 + p) = 3) : f_X1_yardsOf n 102 (mv h (mv h 109 p) 3) h = some (ydS n h0 (mv h0 198 (430 + p)), h) ∧ f_X1_cellsOf n 102 (mv h (mv h 109 p) 3) 2 h = some (fcS n h0 p 2, h) ∧ f_X1_cellsOf n 102 (mv h (mv h 109 p) 3) 1 h = some (fcS n h0 p 3, h) ∧ f_X1_claimsOf n 102 (mv h (mv h 109 p) 3) h = some (fcS n h0 p 4, h) := by
  obtain ⟨k1, k2, k3, k4, k5, k6, k7, -⟩ := pob D q0 q1
  obtain ⟨w0, w1, w2, -⟩ := bpl D.1 q0 q1 q2
  have K := bcl D q0 q1 q2
  have W := pwo D.1 w0 (by omega) w2
  refine ⟨yd_c hn D q0 q1 q2, ?_, ?_, ?_⟩
  · exact cells_l (s := 2) D k7 w0 (by omega) w2 K.1 (fun k g0 g1 => K.2.2.1 k g0 g1) n 0 (by omega) (by omega)
  · exact cells_l (s := 1) D k7 w0 (by omega) w2 K.1 (fun k g0 g1 => K.2.2.1 k g0 g1) n 0 (by omega) (by omega)
  · exact claims_l D k7 w0 (by omega) w2 K.1 (fun k g0 g1 => K.2.2.1 k g0 g1) n 0 (by omega) (by omega)
def fct (h : MM) (o : Int) (f : Int → Int) : MM := ms (ms (ms (ms (ms (ms h (o + 3) 0 (f 0)) (o + 3) 1 (f 1)) (o + 3) 2 (f 2)) (o + 3) 3 (f 3)) (o + 3) 4 (f 4)) (o + 3) 5 (f 5)
theorem canBeLet_e (hn : 10000000 ≤ n) (D : Dc h h0) (q0 : 0 ≤ p) (q1 : p < mv h0 198 2) (q2 : mv h0 198 (370 + p) = 3) (hd : 0 ≤ d ∧ d ≤ 999) : ∃ h1, f_X10_canBeLet n 101 (mv h 109 p) d h = some (letS n h0 p d, h1) ∧ FrM h h1 := by
  have S := D.2.1
  have Ec := D.2.2.2.1
  obtain ⟨e0, e1, e2, e3, e4, e5, e6, e7, e8, e9⟩ := sc2 D
  obtain ⟨b0, b1, b2, b3, b4, b5, b6, b7, b8, b9⟩ := rbd D.1
  have ru := ruling_e (w := 6) hn D ⟨by omega, by omega⟩ hd
  by_cases z : rlS h0 6 d = -1
  · rw [if_pos z] at ru
    refine ⟨h, ?_, FrM.refl h⟩
    unfold letS
    rw [if_pos z]
    simp (disch := first | assumption | (with_reducible show Sh _; simp only [S100_2, S101_7, S101_8, S101_9, S101_10, S102_5, S103, M103, S104, M104, S105, M105, S106, M106, S107, M107, S108_6, S108_7, S108_8, S108_9, S109, M109, S110, M110, S111, M111, S112, M112, S113, M113, S114, M114, S115_8, S116, M116, S117, M117, S118, M118, S119, M119, S120, M120, S121, M121, S122, M122, S123, M123, S124_2, S125, M125, S126, M126, S127, M127, S128, M128, S130, M130, S131, M131, S132_1, S132_2, S133, M133, S134_1, S134_2, S135, M135, S136_1, S136_2, S137, M137, S138_1, S138_2, S139, M139, S140_7, S140_8, S140_9, S140_10, S141_5, S142, M142, S143, M143, S144, M144, S145, M145, S146, M146, S147_6, S147_7, S147_8, S147_9, S148, M148, S149, M149, S150, M150, S151, M151, S152, M152, S153, M153, S154_8, S155, M155, S156, M156, S157, M157, S158, M158, S159, M159, S160, M160, S161, M161, S162, M162, S163_2, S164, M164, S165, M165, S166, M166, S167, M167, S169, M169, S170, M170, S171_1, S171_2, S172, M172, S173_1, S173_2, S174, M174, S175_1, S175_2, S176, M176, S177_1, S177_2, S178, M178, S179, M179, S180_1, S180_2, S180_5, S180_6, S180_7, S180_8, S181, M181, S182, M182, S183, M183, S184_6, S185, M185, S186, M186, S187, M187, S188, M188, S189, M189, S190, M190, S191_5, S191_6, S192, M192, S193, M193, S194, M194, S195, M195, S196, M196, S197_0, S197_3, S197_4, S197_5, S197_6, S197_7, S197_13, S198, M198, S199, M199, S200, M200, S201, M201, S202, M202, S203, M203, S204, M204, S205, M205, S206, M206, S207, M207, S208, M208, S209, M209, S210, M210, S211, M211] <;> assumption) | (with_reducible show tg _ _ = _; simp only [tg_ms, tg_ma]; assumption) | (with_reducible show ln _ _ = _; simp only [ln_ms, ln_ma]; assumption) | (with_reducible show J64 _; unfold J64; omega) | (with_reducible show J _; unfold J; omega) | omega) only [↓f_X10_canBeLet, ↓ru, ↓bd_i, ↓lb_i, ↓rd_i, ↓wt_i, ↓pf_i, bdi_e, lbi_e, ↓ck_t, isb_0, isb_1, ↓reduceIte, ↓if_pos, ↓if_neg, Int.reduceEq, Int.reduceLT, Int.reduceLE, Int.reduceNe, Int.reduceNeg, Int.reduceAdd, Int.reduceSub, Int.reduceMul, Int.add_sub_cancel, tg_ms, ln_ms, nx_ms, tg_ma, ln_ma, nx_ma, mv_s, mv_o, mv_ma_eq, mv_ma_ne, wrk, within_t, within_f, in_t, in_f, isCell_t, isCell_f, isHolder_t, isHolder_f, isHolderm_t, isHolderm_f, isDay_t, isDay_f, isDaym_t, isDaym_f, isSheet_t, isSheet_f, isSheetm_t, isSheetm_f,  ↓gk100, ↓g100_0, ↓g100_1, ↓g100_2, pi100_2, S100_2, ↓g100_3, ↓g100_4, ↓g100_5, ↓g100_6, ↓gk101, ↓g101_0, ↓g101_1, ↓g101_2, ↓g101_3, ↓g101_4, ↓g101_5, ↓g101_6, ↓g101_7, pi101_7, S101_7, ↓g101_8, pi101_8, S101_8, ↓g101_9, pi101_9, S101_9, ↓g101_10, pi101_10, S101_10, ↓gk102, ↓g102_0, ↓g102_1, ↓g102_2, ↓g102_3, ↓g102_4, ↓g102_5, pi102_5, S102_5, ↓al103, ri103, wi103, S103, M103, ↓al104, ri104, wi104, S104, M104, ↓al105, ri105, wi105, S105, M105, ↓al106, ri106, wi106, S106, M106, ↓al107, ri107, wi107, S107, M107, ↓gk108, ↓g108_0, ↓g108_1, ↓g108_2, ↓g108_3, ↓g108_4, ↓g108_5, ↓g108_6, pi108_6, S108_6, ↓g108_7, pi108_7, S108_7, ↓g108_8, pi108_8, S108_8, ↓g108_9, pi108_9, S108_9, ↓al109, ri109, wi109, S109, M109, ↓al110, ri110, wi110, S110, M110, ↓al111, ri111, wi111, S111, M111, ↓al112, ri112, wi112, S112, M112, ↓al113, ri113, wi113, S113, M113, ↓al114, ri114, wi114, S114, M114, ↓gk115, ↓g115_0, ↓g115_1, ↓g115_2, ↓g115_3, ↓g115_4, ↓g115_5, ↓g115_6, ↓g115_7, ↓g115_8, pi115_8, S115_8, ↓al116, ri116, wi116, S116, M116, ↓al117, ri117, wi117, S117, M117, ↓al118, ri118, wi118, S118, M118, ↓al119, ri119, wi119, S119, M119, ↓al120, ri120, wi120, S120, M120, ↓al121, ri121, wi121, S121, M121, ↓al122, ri122, wi122, S122, M122, ↓al123, ri123, wi123, S123, M123, ↓gk124, ↓g124_0, ↓g124_1, ↓g124_2, pi124_2, S124_2, ↓g124_3, ↓g124_4, ↓al125, ri125, wi125, S125, M125, ↓al126, ri126, wi126, S126, M126, ↓al127, ri127, wi127, S127, M127, ↓al128, ri128, wi128, S128, M128, ↓al129, ri129, ↓al130, ri130, wi130, S130, M130, ↓al131, ri131, wi131, S131, M131, ↓gk132, ↓g132_0, ↓g132_1, pi132_1, S132_1, ↓g132_2, pi132_2, S132_2, ↓al133, ri133, wi133, S133, M133, ↓gk134, ↓g134_0, ↓g134_1, pi134_1, S134_1, ↓g134_2, pi134_2, S134_2, ↓al135, ri135, wi135, S135, M135, ↓gk136, ↓g136_0, ↓g136_1, pi136_1, S136_1, ↓g136_2, pi136_2, S136_2, ↓al137, ri137, wi137, S137, M137, ↓gk138, ↓g138_0, ↓g138_1, pi138_1, S138_1, ↓g138_2, pi138_2, S138_2, ↓al139, ri139, wi139, S139, M139, ↓al179, ri179, wi179, S179, M179, ↓gk180, ↓g180_0, ↓g180_1, pi180_1, S180_1, ↓g180_2, pi180_2, S180_2, ↓g180_3, ↓g180_4, ↓g180_5, pi180_5, S180_5, ↓g180_6, pi180_6, S180_6, ↓g180_7, pi180_7, S180_7, ↓g180_8, pi180_8, S180_8, ↓al181, ri181, wi181, S181, M181, ↓al182, ri182, wi182, S182, M182, ↓al183, ri183, wi183, S183, M183, ↓gk184, ↓g184_0, ↓g184_1, ↓g184_2, ↓g184_3, ↓g184_4, ↓g184_5, ↓g184_6, pi184_6, S184_6, ↓al185, ri185, wi185, S185, M185, ↓al186, ri186, wi186, S186, M186, ↓al187, ri187, wi187, S187, M187, ↓al188, ri188, wi188, S188, M188, ↓al189, ri189, wi189, S189, M189, ↓al190, ri190, wi190, S190, M190, ↓gk191, ↓g191_0, ↓g191_1, ↓g191_2, ↓g191_3, ↓g191_4, ↓g191_5, pi191_5, S191_5, ↓g191_6, pi191_6, S191_6, ↓al192, ri192, wi192, S192, M192, ↓al193, ri193, wi193, S193, M193, ↓al194, ri194, wi194, S194, M194, ↓al195, ri195, wi195, S195, M195, ↓al196, ri196, wi196, S196, M196]
  rw [if_neg z] at ru
  obtain ⟨a0, a1, l0, l1⟩ := rlS_f D.1 z
  obtain ⟨u1, u2, u3⟩ := letO (n := n) (p := p) D.1 z
  obtain ⟨f1, f2, ⟨f3, f4, f5⟩, f6⟩ := ordf D a0 a1
  obtain ⟨s1, s2⟩ := f6 6 (by omega) (by omega)
  have s3 := s2 (by omega)
  rw [if_pos rfl] at s3
  obtain ⟨-, ⟨tx0, tx1⟩, tx2, -⟩ := f1
  generalize hO : mv h 131 (rlS h0 6 d) = o at ru f2 f3 f4 f5 s1 s2 s3
  obtain ⟨o1, o2, o3, o4, o5, o6, o7, o8, o9, o10, o11, o12, o13, o14⟩ := f2
  obtain ⟨k1, k2, k3, k4, k5, k6, k7, k8, k9, k10, k11, k12⟩ := pob D q0 q1
  obtain ⟨p1, p2, p3, p4⟩ := pen D.1 q0 q1 (by omega)
  have t1 := twf D p1.1 p1.2
  have t2 := twf D p2.1 p2.2
  have mt : ∀ i, Mt h (o + 3) i := fun i => ⟨by omega, Or.inr ⟨o12, by rw [show o + 3 - 3 = o by omega]; exact o3⟩⟩
  have m5 : Mt h o 5 := ⟨o1, Or.inl ⟨o3, rfl⟩⟩
  have B := bfc (n := n) hn D q0 q1 q2
  have B2 := bfc (n := n) hn (D.fm (((FrM.refl h).w (v := fcS n h0 p 0) (mt 0)).w (v := fcS n h0 p 1) (mt 1))) q0 q1 q2
  have B3 := bfc (n := n) hn (D.fm ((((FrM.refl h).w (v := fcS n h0 p 0) (mt 0)).w (v := fcS n h0 p 1) (mt 1)).w (v := fcS n h0 p 2) (mt 2))) q0 q1 q2
  have B4 := bfc (n := n) hn (D.fm (((((FrM.refl h).w (v := fcS n h0 p 0) (mt 0)).w (v := fcS n h0 p 1) (mt 1)).w (v := fcS n h0 p 2) (mt 2)).w (v := fcS n h0 p 3) (mt 3))) q0 q1 q2
  have FF : FrM h (fct h o (fcS n h0 p)) := ((((((FrM.refl h).w (mt 0)).w (mt 1)).w (mt 2)).w (mt 3)).w (mt 4)).w (mt 5)
  have ne : mv h 109 p ≠ o + 3 := fun y => by rw [y] at k3; omega
  have sr : ∀ (h' : MM) (k : Int → RR), tg h' (o + 1) = 100 → ln h' (o + 1) = 7 → @rdi h' (o + 1) 100 6 ⟨k⟩ = k (mv h' (o + 1) 6) := fun h' k g0 g1 => rd_e g0 (by omega) (by omega)
  have sw : ∀ (h' : MM) (i v : Int) (k : MM → RR), tg h' (o + 3) = 100 → ln h' (o + 3) = 6 → 0 ≤ i ∧ i < 6 → @wti h' (o + 3) 100 i v ⟨k⟩ = k (ms h' (o + 3) i v) := fun h' i v k g0 g1 g2 => wt_e g0 (by omega) g2.1 (by omega)
  have sp : ∀ (h' : MM) (v : Int) (k : MM → RR), tg h' o = 3 → @pfi h' o 3 5 v ⟨k⟩ = k (ms h' o 5 v) := fun h' v k g0 => pf_e g0 (by omega)
  have sg : ∀ (h' : MM) (k : RR), tg h' o = 3 → gk h' o 3 k = k := fun h' k g0 => gk_e g0
  have ob : OB (fct h o (fcS n h0 p)) o (mv h0 198 (9630 + rlS h0 6 d)) (oB 198 h0 (rlS h0 6 d)) (fcS n h0 p) := by
    have v : ∀ b j, b ≠ o + 3 → mv (fct h o (fcS n h0 p)) b j = mv h b j := fun b j hb => by unfold fct; simp (disch := omega) only [mv_o]
    refine ⟨o1, o3, by rw [v o 1 (by omega)]; exact o4, by rw [v o 4 (by omega)]; exact o7, o14, f4, tx0, tx1, fun j g0 g1 => ?_, fun j g0 => ?_, o12, o13, fun i g0 g1 => ?_⟩
    · rw [v _ _ (by omega), f5 j g0 g1]
      unfold oB
      rw [if_pos ⟨g0, g1⟩]
      exact ⟨rfl, tx2 j g0 g1⟩
    · unfold oB
      rw [if_neg (by omega)]
    · unfold fct
      have : i = 0 ∨ i = 1 ∨ i = 2 ∨ i = 3 ∨ i = 4 ∨ i = 5 := by omega
      rcases this with rfl | rfl | rfl | rfl | rfl | rfl <;> simp (disch := omega) only [mv_o, mv_s]
  have ex := (ex_e (n := n) hn ob (j := mv h0 198 (11070 + 8 * rlS h0 6 d + lastc 198 h0 (rlS h0 6 d) 6)) ⟨u1, u2⟩).1
  have e0' : fcS n h0 p 0 = idv (ydS n h0 (mv h0 198 (430 + p))) 10 := rfl
  have e1' : fcS n h0 p 1 = mv h0 198 (186 + mv h0 198 (550 + p)) + mv h0 198 (186 + mv h0 198 (610 + p)) := rfl
  have e5' : fcS n h0 p 5 = mv h0 198 (670 + p) := rfl
  unfold fct at ex
  rw [e0', e1', e5'] at ex
  rw [e0', e1'] at B2 B3 B4
  have sh3 : ∀ (h' : MM) (i v : Int), Sh (ms h' (o + 3) i v) ↔ Sh h' := fun h' i v => Sh_msd (by omega)
  have sh5 : ∀ (h' : MM) (i v : Int), Sh (ms h' o i v) ↔ Sh h' := fun h' i v => Sh_msd o1
  generalize hy0 : idv (ydS n h0 (mv h0 198 (430 + p))) 10 = y0 at ex B2 B3 B4
  generalize fcS n h0 p 2 = y2 at ex B2 B3 B4
  generalize fcS n h0 p 3 = y3 at ex B3 B4
  generalize fcS n h0 p 4 = y4 at ex B4
  rw [show exS (oB 198 h0 (rlS h0 6 d)) (fcS n h0 p) 5 (mv h0 198 (11070 + 8 * rlS h0 6 d + lastc 198 h0 (rlS h0 6 d) 6)) = letE n h0 p d from rfl] at ex
  simp (disch := omega) only [mv_o] at B2 B3 B4
  unfold letS
  rw [if_neg z]
  clear FF
  generalize hL : letE n h0 p d = R at ex u3 ⊢
  obtain ⟨w, q⟩ := R
  cases w with
  | none => exact absurd rfl u3
  | some v =>
    refine ⟨_, ?_, (((((((FrM.refl h).w (v := y0) (mt 0)).w (v := mv h0 198 (186 + mv h0 198 (550 + p)) + mv h0 198 (186 + mv h0 198 (610 + p))) (mt 1)).w (v := y2) (mt 2)).w (v := y3) (mt 3)).w (v := y4) (mt 4)).w (v := mv h0 198 (670 + p)) (mt 5)).w (v := q) m5⟩
    cases v with
    | true =>
      rw [if_pos rfl]
      dsimp only [enc] at ex
      simp (disch := first | assumption | (with_reducible show Sh _; simp only [S100_2, S101_7, S101_8, S101_9, S101_10, S102_5, S103, M103, S104, M104, S105, M105, S106, M106, S107, M107, S108_6, S108_7, S108_8, S108_9, S109, M109, S110, M110, S111, M111, S112, M112, S113, M113, S114, M114, S115_8, S116, M116, S117, M117, S118, M118, S119, M119, S120, M120, S121, M121, S122, M122, S123, M123, S124_2, S125, M125, S126, M126, S127, M127, S128, M128, S130, M130, S131, M131, S132_1, S132_2, S133, M133, S134_1, S134_2, S135, M135, S136_1, S136_2, S137, M137, S138_1, S138_2, S139, M139, S140_7, S140_8, S140_9, S140_10, S141_5, S142, M142, S143, M143, S144, M144, S145, M145, S146, M146, S147_6, S147_7, S147_8, S147_9, S148, M148, S149, M149, S150, M150, S151, M151, S152, M152, S153, M153, S154_8, S155, M155, S156, M156, S157, M157, S158, M158, S159, M159, S160, M160, S161, M161, S162, M162, S163_2, S164, M164, S165, M165, S166, M166, S167, M167, S169, M169, S170, M170, S171_1, S171_2, S172, M172, S173_1, S173_2, S174, M174, S175_1, S175_2, S176, M176, S177_1, S177_2, S178, M178, S179, M179, S180_1, S180_2, S180_5, S180_6, S180_7, S180_8, S181, M181, S182, M182, S183, M183, S184_6, S185, M185, S186, M186, S187, M187, S188, M188, S189, M189, S190, M190, S191_5, S191_6, S192, M192, S193, M193, S194, M194, S195, M195, S196, M196, S197_0, S197_3, S197_4, S197_5, S197_6, S197_7, S197_13, S198, M198, S199, M199, S200, M200, S201, M201, S202, M202, S203, M203, S204, M204, S205, M205, S206, M206, S207, M207, S208, M208, S209, M209, S210, M210, S211, M211, sh3, sh5] <;> assumption) | (with_reducible show tg _ _ = _; simp only [tg_ms, tg_ma]; assumption) | (with_reducible show ln _ _ = _; simp only [ln_ms, ln_ma]; assumption) | (with_reducible show J64 _; unfold J64; omega) | (with_reducible show J _; unfold J; omega) | omega) only [↓f_X10_canBeLet, ↓f_X3_lets, ↓f_X3_lets_25, ↓ru, ↓go_e, ↓gp_e, ↓sg, ↓B.1, ↓B2.2.1, ↓B3.2.2.1, ↓B4.2.2.2, ↓sr, ↓sw, ↓sp, ↓ex, ↓t1.2.1, ↓t2.2.1, ↓k9, ↓k10, ↓k11, ↓s3, ↓o5, ↓o7, ↓hy0, ↓bd_i, ↓lb_i, ↓rd_i, ↓wt_i, ↓pf_i, bdi_e, lbi_e, ↓ck_t, isb_0, isb_1, ↓reduceIte, ↓if_pos, ↓if_neg, Int.reduceEq, Int.reduceLT, Int.reduceLE, Int.reduceNe, Int.reduceNeg, Int.reduceAdd, Int.reduceSub, Int.reduceMul, Int.add_sub_cancel, tg_ms, ln_ms, nx_ms, tg_ma, ln_ma, nx_ma, mv_s, mv_o, mv_ma_eq, mv_ma_ne, wrk, within_t, within_f, in_t, in_f, isCell_t, isCell_f, isHolder_t, isHolder_f, isHolderm_t, isHolderm_f, isDay_t, isDay_f, isDaym_t, isDaym_f, isSheet_t, isSheet_f, isSheetm_t, isSheetm_f,  ↓gk100, ↓g100_0, ↓g100_1, ↓g100_2, pi100_2, S100_2, ↓g100_3, ↓g100_4, ↓g100_5, ↓g100_6, ↓gk101, ↓g101_0, ↓g101_1, ↓g101_2, ↓g101_3, ↓g101_4, ↓g101_5, ↓g101_6, ↓g101_7, pi101_7, S101_7, ↓g101_8, pi101_8, S101_8, ↓g101_9, pi101_9, S101_9, ↓g101_10, pi101_10, S101_10, ↓gk102, ↓g102_0, ↓g102_1, ↓g102_2, ↓g102_3, ↓g102_4, ↓g102_5, pi102_5, S102_5, ↓al103, ri103, wi103, S103, M103, ↓al104, ri104, wi104, S104, M104, ↓al105, ri105, wi105, S105, M105, ↓al106, ri106, wi106, S106, M106, ↓al107, ri107, wi107, S107, M107, ↓gk108, ↓g108_0, ↓g108_1, ↓g108_2, ↓g108_3, ↓g108_4, ↓g108_5, ↓g108_6, pi108_6, S108_6, ↓g108_7, pi108_7, S108_7, ↓g108_8, pi108_8, S108_8, ↓g108_9, pi108_9, S108_9, ↓al109, ri109, wi109, S109, M109, ↓al110, ri110, wi110, S110, M110, ↓al111, ri111, wi111, S111, M111, ↓al112, ri112, wi112, S112, M112, ↓al113, ri113, wi113, S113, M113, ↓al114, ri114, wi114, S114, M114, ↓gk115, ↓g115_0, ↓g115_1, ↓g115_2, ↓g115_3, ↓g115_4, ↓g115_5, ↓g115_6, ↓g115_7, ↓g115_8, pi115_8, S115_8, ↓al116, ri116, wi116, S116, M116, ↓al117, ri117, wi117, S117, M117, ↓al118, ri118, wi118, S118, M118, ↓al119, ri119, wi119, S119, M119, ↓al120, ri120, wi120, S120, M120, ↓al121, ri121, wi121, S121, M121, ↓al122, ri122, wi122, S122, M122, ↓al123, ri123, wi123, S123, M123, ↓gk124, ↓g124_0, ↓g124_1, ↓g124_2, pi124_2, S124_2, ↓g124_3, ↓g124_4, ↓al125, ri125, wi125, S125, M125, ↓al126, ri126, wi126, S126, M126, ↓al127, ri127, wi127, S127, M127, ↓al128, ri128, wi128, S128, M128, ↓al129, ri129, ↓al130, ri130, wi130, S130, M130, ↓al131, ri131, wi131, S131, M131, ↓gk132, ↓g132_0, ↓g132_1, pi132_1, S132_1, ↓g132_2, pi132_2, S132_2, ↓al133, ri133, wi133, S133, M133, ↓gk134, ↓g134_0, ↓g134_1, pi134_1, S134_1, ↓g134_2, pi134_2, S134_2, ↓al135, ri135, wi135, S135, M135, ↓gk136, ↓g136_0, ↓g136_1, pi136_1, S136_1, ↓g136_2, pi136_2, S136_2, ↓al137, ri137, wi137, S137, M137, ↓gk138, ↓g138_0, ↓g138_1, pi138_1, S138_1, ↓g138_2, pi138_2, S138_2, ↓al139, ri139, wi139, S139, M139, ↓al179, ri179, wi179, S179, M179, ↓gk180, ↓g180_0, ↓g180_1, pi180_1, S180_1, ↓g180_2, pi180_2, S180_2, ↓g180_3, ↓g180_4, ↓g180_5, pi180_5, S180_5, ↓g180_6, pi180_6, S180_6, ↓g180_7, pi180_7, S180_7, ↓g180_8, pi180_8, S180_8, ↓al181, ri181, wi181, S181, M181, ↓al182, ri182, wi182, S182, M182, ↓al183, ri183, wi183, S183, M183, ↓gk184, ↓g184_0, ↓g184_1, ↓g184_2, ↓g184_3, ↓g184_4, ↓g184_5, ↓g184_6, pi184_6, S184_6, ↓al185, ri185, wi185, S185, M185, ↓al186, ri186, wi186, S186, M186, ↓al187, ri187, wi187, S187, M187, ↓al188, ri188, wi188, S188, M188, ↓al189, ri189, wi189, S189, M189, ↓al190, ri190, wi190, S190, M190, ↓gk191, ↓g191_0, ↓g191_1, ↓g191_2, ↓g191_3, ↓g191_4, ↓g191_5, pi191_5, S191_5, ↓g191_6, pi191_6, S191_6, ↓al192, ri192, wi192, S192, M192, ↓al193, ri193, wi193, S193, M193, ↓al194, ri194, wi194, S194, M194, ↓al195, ri195, wi195, S195, M195, ↓al196, ri196, wi196, S196, M196]
    | false =>
      rw [if_neg (by intro y; cases y)]
      dsimp only [enc] at ex
      simp (disch := first | assumption | (with_reducible show Sh _; simp only [S100_2, S101_7, S101_8, S101_9, S101_10, S102_5, S103, M103, S104, M104, S105, M105, S106, M106, S107, M107, S108_6, S108_7, S108_8, S108_9, S109, M109, S110, M110, S111, M111, S112, M112, S113, M113, S114, M114, S115_8, S116, M116, S117, M117, S118, M118, S119, M119, S120, M120, S121, M121, S122, M122, S123, M123, S124_2, S125, M125, S126, M126, S127, M127, S128, M128, S130, M130, S131, M131, S132_1, S132_2, S133, M133, S134_1, S134_2, S135, M135, S136_1, S136_2, S137, M137, S138_1, S138_2, S139, M139, S140_7, S140_8, S140_9, S140_10, S141_5, S142, M142, S143, M143, S144, M144, S145, M145, S146, M146, S147_6, S147_7, S147_8, S147_9, S148, M148, S149, M149, S150, M150, S151, M151, S152, M152, S153, M153, S154_8, S155, M155, S156, M156, S157, M157, S158, M158, S159, M159, S160, M160, S161, M161, S162, M162, S163_2, S164, M164, S165, M165, S166, M166, S167, M167, S169, M169, S170, M170, S171_1, S171_2, S172, M172, S173_1, S173_2, S174, M174, S175_1, S175_2, S176, M176, S177_1, S177_2, S178, M178, S179, M179, S180_1, S180_2, S180_5, S180_6, S180_7, S180_8, S181, M181, S182, M182, S183, M183, S184_6, S185, M185, S186, M186, S187, M187, S188, M188, S189, M189, S190, M190, S191_5, S191_6, S192, M192, S193, M193, S194, M194, S195, M195, S196, M196, S197_0, S197_3, S197_4, S197_5, S197_6, S197_7, S197_13, S198, M198, S199, M199, S200, M200, S201, M201, S202, M202, S203, M203, S204, M204, S205, M205, S206, M206, S207, M207, S208, M208, S209, M209, S210, M210, S211, M211, sh3, sh5] <;> assumption) | (with_reducible show tg _ _ = _; simp only [tg_ms, tg_ma]; assumption) | (with_reducible show ln _ _ = _; simp only [ln_ms, ln_ma]; assumption) | (with_reducible show J64 _; unfold J64; omega) | (with_reducible show J _; unfold J; omega) | omega) only [↓f_X10_canBeLet, ↓f_X3_lets, ↓f_X3_lets_25, ↓ru, ↓go_e, ↓gp_e, ↓sg, ↓B.1, ↓B2.2.1, ↓B3.2.2.1, ↓B4.2.2.2, ↓sr, ↓sw, ↓sp, ↓ex, ↓t1.2.1, ↓t2.2.1, ↓k9, ↓k10, ↓k11, ↓s3, ↓o5, ↓o7, ↓hy0, ↓bd_i, ↓lb_i, ↓rd_i, ↓wt_i, ↓pf_i, bdi_e, lbi_e, ↓ck_t, isb_0, isb_1, ↓reduceIte, ↓if_pos, ↓if_neg, Int.reduceEq, Int.reduceLT, Int.reduceLE, Int.reduceNe, Int.reduceNeg, Int.reduceAdd, Int.reduceSub, Int.reduceMul, Int.add_sub_cancel, tg_ms, ln_ms, nx_ms, tg_ma, ln_ma, nx_ma, mv_s, mv_o, mv_ma_eq, mv_ma_ne, wrk, within_t, within_f, in_t, in_f, isCell_t, isCell_f, isHolder_t, isHolder_f, isHolderm_t, isHolderm_f, isDay_t, isDay_f, isDaym_t, isDaym_f, isSheet_t, isSheet_f, isSheetm_t, isSheetm_f,  ↓gk100, ↓g100_0, ↓g100_1, ↓g100_2, pi100_2, S100_2, ↓g100_3, ↓g100_4, ↓g100_5, ↓g100_6, ↓gk101, ↓g101_0, ↓g101_1, ↓g101_2, ↓g101_3, ↓g101_4, ↓g101_5, ↓g101_6, ↓g101_7, pi101_7, S101_7, ↓g101_8, pi101_8, S101_8, ↓g101_9, pi101_9, S101_9, ↓g101_10, pi101_10, S101_10, ↓gk102, ↓g102_0, ↓g102_1, ↓g102_2, ↓g102_3, ↓g102_4, ↓g102_5, pi102_5, S102_5, ↓al103, ri103, wi103, S103, M103, ↓al104, ri104, wi104, S104, M104, ↓al105, ri105, wi105, S105, M105, ↓al106, ri106, wi106, S106, M106, ↓al107, ri107, wi107, S107, M107, ↓gk108, ↓g108_0, ↓g108_1, ↓g108_2, ↓g108_3, ↓g108_4, ↓g108_5, ↓g108_6, pi108_6, S108_6, ↓g108_7, pi108_7, S108_7, ↓g108_8, pi108_8, S108_8, ↓g108_9, pi108_9, S108_9, ↓al109, ri109, wi109, S109, M109, ↓al110, ri110, wi110, S110, M110, ↓al111, ri111, wi111, S111, M111, ↓al112, ri112, wi112, S112, M112, ↓al113, ri113, wi113, S113, M113, ↓al114, ri114, wi114, S114, M114, ↓gk115, ↓g115_0, ↓g115_1, ↓g115_2, ↓g115_3, ↓g115_4, ↓g115_5, ↓g115_6, ↓g115_7, ↓g115_8, pi115_8, S115_8, ↓al116, ri116, wi116, S116, M116, ↓al117, ri117, wi117, S117, M117, ↓al118, ri118, wi118, S118, M118, ↓al119, ri119, wi119, S119, M119, ↓al120, ri120, wi120, S120, M120, ↓al121, ri121, wi121, S121, M121, ↓al122, ri122, wi122, S122, M122, ↓al123, ri123, wi123, S123, M123, ↓gk124, ↓g124_0, ↓g124_1, ↓g124_2, pi124_2, S124_2, ↓g124_3, ↓g124_4, ↓al125, ri125, wi125, S125, M125, ↓al126, ri126, wi126, S126, M126, ↓al127, ri127, wi127, S127, M127, ↓al128, ri128, wi128, S128, M128, ↓al129, ri129, ↓al130, ri130, wi130, S130, M130, ↓al131, ri131, wi131, S131, M131, ↓gk132, ↓g132_0, ↓g132_1, pi132_1, S132_1, ↓g132_2, pi132_2, S132_2, ↓al133, ri133, wi133, S133, M133, ↓gk134, ↓g134_0, ↓g134_1, pi134_1, S134_1, ↓g134_2, pi134_2, S134_2, ↓al135, ri135, wi135, S135, M135, ↓gk136, ↓g136_0, ↓g136_1, pi136_1, S136_1, ↓g136_2, pi136_2, S136_2, ↓al137, ri137, wi137, S137, M137, ↓gk138, ↓g138_0, ↓g138_1, pi138_1, S138_1, ↓g138_2, pi138_2, S138_2, ↓al139, ri139, wi139, S139, M139, ↓al179, ri179, wi179, S179, M179, ↓gk180, ↓g180_0, ↓g180_1, pi180_1, S180_1, ↓g180_2, pi180_2, S180_2, ↓g180_3, ↓g180_4, ↓g180_5, pi180_5, S180_5, ↓g180_6, pi180_6, S180_6, ↓g180_7, pi180_7, S180_7, ↓g180_8, pi180_8, S180_8, ↓al181, ri181, wi181, S181, M181, ↓al182, ri182, wi182, S182, M182, ↓al183, ri183, wi183, S183, M183, ↓gk184, ↓g184_0, ↓g184_1, ↓g184_2, ↓g184_3, ↓g184_4, ↓g184_5, ↓g184_6, pi184_6, S184_6, ↓al185, ri185, wi185, S185, M185, ↓al186, ri186, wi186, S186, M186, ↓al187, ri187, wi187, S187, M187, ↓al188, ri188, wi188, S188, M188, ↓al189, ri189, wi189, S189, M189, ↓al190, ri190, wi190, S190, M190, ↓gk191, ↓g191_0, ↓g191_1, ↓g191_2, ↓g191_3, ↓g191_4, ↓g191_5, pi191_5, S191_5, ↓g191_6, pi191_6, S191_6, ↓al192, ri192, wi192, S192, M192, ↓al193, ri193, wi193, S193, M193, ↓al194, ri194, wi194, S194, M194, ↓al195, ri195, wi195, S195, M195, ↓al196, ri196, wi196, S196, M196]
end YDS
