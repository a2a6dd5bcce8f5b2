theorem w_590 : (Cond.fieldLink "java/lang/String" 38 "java/lang/String" "COMPACT_STRINGS" "Z") ∈ wG := wG_in 590 (by decide +kernel) (by decide +kernel)
theorem w_1904 : (Cond.fieldLink "java/lang/String" 15 "java/lang/String" "coder" "B") ∈ wG := wG_in 1904 (by decide +kernel) (by decide +kernel)
theorem w_589 : (Cond.code ⟨"java/lang/String", "coder", "()B"⟩ prog_18_method_152_code 1 (some .byte)) ∈ wG := wG_in 589 (by decide +kernel) (by decide +kernel)
theorem w_102 : (Cond.initialized "java/lang/String") ∈ wG := wG_in 102 (by decide +kernel) (by decide +kernel)
theorem w_587 : (Cond.instanceMethod ⟨"java/lang/String", "coder", "()B"⟩) ∈ wG := wG_in 587 (by decide +kernel) (by decide +kernel)
theorem w_588 : (Cond.selects "java/lang/String" ⟨"java/lang/String", "coder", "()B"⟩ ⟨"java/lang/String", "coder", "()B"⟩) ∈ wG := wG_in 588 (by decide +kernel) (by decide +kernel)
theorem w_1903 : (Cond.fieldLink "java/lang/String" 9 "java/lang/String" "value" "[B") ∈ wG := wG_in 1903 (by decide +kernel) (by decide +kernel)
theorem w_586 : (Cond.methodLink "java/lang/String" 335 ⟨"java/lang/String", "coder", "()B"⟩) ∈ wG := wG_in 586 (by decide +kernel) (by decide +kernel)
theorem w_585 : (Cond.code ⟨"java/lang/String", "length", "()I"⟩ prog_18_method_54_code 1 (some .int)) ∈ wG := wG_in 585 (by decide +kernel) (by decide +kernel)
theorem w_583 : (Cond.instanceMethod ⟨"java/lang/String", "length", "()I"⟩) ∈ wG := wG_in 583 (by decide +kernel) (by decide +kernel)
theorem w_584 : (Cond.selects "java/lang/String" ⟨"java/lang/String", "length", "()I"⟩ ⟨"java/lang/String", "length", "()I"⟩) ∈ wG := wG_in 584 (by decide +kernel) (by decide +kernel)
theorem w_599 : (Cond.code ⟨"java/lang/String", "isLatin1", "()Z"⟩ prog_18_method_154_code 1 (some .boolean)) ∈ wG := wG_in 599 (by decide +kernel) (by decide +kernel)
theorem w_597 : (Cond.instanceMethod ⟨"java/lang/String", "isLatin1", "()Z"⟩) ∈ wG := wG_in 597 (by decide +kernel) (by decide +kernel)
theorem w_598 : (Cond.selects "java/lang/String" ⟨"java/lang/String", "isLatin1", "()Z"⟩ ⟨"java/lang/String", "isLatin1", "()Z"⟩) ∈ wG := wG_in 598 (by decide +kernel) (by decide +kernel)
theorem w_610 : (Cond.code ⟨"jdk/internal/util/Preconditions", "checkIndex", "(IILjava/util/function/BiFunction;)I"⟩ prog_23_method_11_code 3 (some .int)) ∈ wG := wG_in 610 (by decide +kernel) (by decide +kernel)
theorem w_104 : (Cond.initialized "jdk/internal/util/Preconditions") ∈ wG := wG_in 104 (by decide +kernel) (by decide +kernel)
theorem w_609 : (Cond.static ⟨"jdk/internal/util/Preconditions", "checkIndex", "(IILjava/util/function/BiFunction;)I"⟩) ∈ wG := wG_in 609 (by decide +kernel) (by decide +kernel)
theorem w_606 : (Cond.fieldLink "java/lang/String" 1053 "jdk/internal/util/Preconditions" "SIOOBE_FORMATTER" "Ljava/util/function/BiFunction;") ∈ wG := wG_in 606 (by decide +kernel) (by decide +kernel)
theorem w_608 : (Cond.methodLink "java/lang/String" 1059 ⟨"jdk/internal/util/Preconditions", "checkIndex", "(IILjava/util/function/BiFunction;)I"⟩) ∈ wG := wG_in 608 (by decide +kernel) (by decide +kernel)
theorem w_605 : (Cond.code ⟨"java/lang/String", "checkIndex", "(II)V"⟩ prog_18_method_155_code 2 none) ∈ wG := wG_in 605 (by decide +kernel) (by decide +kernel)
theorem w_604 : (Cond.static ⟨"java/lang/String", "checkIndex", "(II)V"⟩) ∈ wG := wG_in 604 (by decide +kernel) (by decide +kernel)
theorem w_603 : (Cond.methodLink "java/lang/StringLatin1" 9 ⟨"java/lang/String", "checkIndex", "(II)V"⟩) ∈ wG := wG_in 603 (by decide +kernel) (by decide +kernel)
theorem w_602 : (Cond.code ⟨"java/lang/StringLatin1", "charAt", "([BI)C"⟩ prog_19_method_2_code 2 (some .char)) ∈ wG := wG_in 602 (by decide +kernel) (by decide +kernel)
theorem w_103 : (Cond.initialized "java/lang/StringLatin1") ∈ wG := wG_in 103 (by decide +kernel) (by decide +kernel)
theorem w_601 : (Cond.static ⟨"java/lang/StringLatin1", "charAt", "([BI)C"⟩) ∈ wG := wG_in 601 (by decide +kernel) (by decide +kernel)
theorem w_596 : (Cond.methodLink "java/lang/String" 492 ⟨"java/lang/String", "isLatin1", "()Z"⟩) ∈ wG := wG_in 596 (by decide +kernel) (by decide +kernel)
theorem w_600 : (Cond.methodLink "java/lang/String" 495 ⟨"java/lang/StringLatin1", "charAt", "([BI)C"⟩) ∈ wG := wG_in 600 (by decide +kernel) (by decide +kernel)
theorem w_595 : (Cond.code ⟨"java/lang/String", "charAt", "(I)C"⟩ prog_18_method_56_code 2 (some .char)) ∈ wG := wG_in 595 (by decide +kernel) (by decide +kernel)
theorem w_593 : (Cond.instanceMethod ⟨"java/lang/String", "charAt", "(I)C"⟩) ∈ wG := wG_in 593 (by decide +kernel) (by decide +kernel)
theorem w_594 : (Cond.selects "java/lang/String" ⟨"java/lang/String", "charAt", "(I)C"⟩ ⟨"java/lang/String", "charAt", "(I)C"⟩) ∈ wG := wG_in 594 (by decide +kernel) (by decide +kernel)
theorem w_1086 : (Cond.constant "java/lang/Integer" 265 (i32 1431655765)) ∈ wG := wG_in 1086 (by decide +kernel) (by decide +kernel)
theorem w_1087 : (Cond.constant "java/lang/Integer" 266 (i32 858993459)) ∈ wG := wG_in 1087 (by decide +kernel) (by decide +kernel)
theorem w_1088 : (Cond.constant "java/lang/Integer" 267 (i32 252645135)) ∈ wG := wG_in 1088 (by decide +kernel) (by decide +kernel)
theorem w_1085 : (Cond.code ⟨"java/lang/Integer", "bitCount", "(I)I"⟩ prog_16_method_49_code 1 (some .int)) ∈ wG := wG_in 1085 (by decide +kernel) (by decide +kernel)
theorem w_107 : (Cond.initialized "java/lang/Integer") ∈ wG := wG_in 107 (by decide +kernel) (by decide +kernel)
theorem w_1084 : (Cond.static ⟨"java/lang/Integer", "bitCount", "(I)I"⟩) ∈ wG := wG_in 1084 (by decide +kernel) (by decide +kernel)
theorem w_1426 : (Cond.fieldLink "LinesPromisedModel" 8 "LinesPromisedModel" "s" "[I") ∈ wG := wG_in 1426 (by decide +kernel) (by decide +kernel)
theorem w_1733 : (Cond.methodLink "LinesPromisedModel" 225 ⟨"LinesPromisedModel", "worth", "(I)I"⟩) ∈ wG := wG_in 1733 (by decide +kernel) (by decide +kernel)
theorem w_1736 : (Cond.code ⟨"LinesPromisedModel", "worth", "(I)I"⟩ prog_14_method_62_code 2 (some .int)) ∈ wG := wG_in 1736 (by decide +kernel) (by decide +kernel)
theorem w_97 : (Cond.initialized "LinesPromisedModel") ∈ wG := wG_in 97 (by decide +kernel) (by decide +kernel)
theorem w_1735 : (Cond.instanceMethod ⟨"LinesPromisedModel", "worth", "(I)I"⟩) ∈ wG := wG_in 1735 (by decide +kernel) (by decide +kernel)
theorem w_73 : (Cond.selects "LinesPromisedModel" ⟨"LinesPromisedModel", "worth", "(I)I"⟩ ⟨"LinesPromisedModel", "worth", "(I)I"⟩) ∈ wG := wG_in 73 (by decide +kernel) (by decide +kernel)
theorem w_156 : (Cond.arrayClass .int) ∈ wG := wG_in 156 (by decide +kernel) (by decide +kernel)
theorem w_523 : (Cond.methodLink "java/util/Arrays" 304 ⟨"java/lang/Math", "min", "(II)I"⟩) ∈ wG := wG_in 523 (by decide +kernel) (by decide +kernel)
theorem w_526 : (Cond.methodLink "java/util/Arrays" 150 arraycopyName) ∈ wG := wG_in 526 (by decide +kernel) (by decide +kernel)
theorem w_831 : (Cond.methodLink "java/util/Arrays" 316 ⟨"[I", "clone", "()Ljava/lang/Object;"⟩) ∈ wG := wG_in 831 (by decide +kernel) (by decide +kernel)
theorem w_835 : (Cond.classLink "java/util/Arrays" 317 "[I") ∈ wG := wG_in 835 (by decide +kernel) (by decide +kernel)
theorem w_830 : (Cond.code ⟨"java/util/Arrays", "copyOf", "([II)[I"⟩ prog_22_method_123_code 3 (some (.array .int))) ∈ wG := wG_in 830 (by decide +kernel) (by decide +kernel)
theorem w_99 : (Cond.initialized "java/util/Arrays") ∈ wG := wG_in 99 (by decide +kernel) (by decide +kernel)
theorem w_829 : (Cond.static ⟨"java/util/Arrays", "copyOf", "([II)[I"⟩) ∈ wG := wG_in 829 (by decide +kernel) (by decide +kernel)
theorem w_297 : (Cond.arrayClass .byte) ∈ wG := wG_in 297 (by decide +kernel) (by decide +kernel)
theorem w_516 : (Cond.methodLink "java/util/Arrays" 310 ⟨"[B", "clone", "()Ljava/lang/Object;"⟩) ∈ wG := wG_in 516 (by decide +kernel) (by decide +kernel)
theorem w_522 : (Cond.classLink "java/util/Arrays" 311 "[B") ∈ wG := wG_in 522 (by decide +kernel) (by decide +kernel)
theorem w_515 : (Cond.code ⟨"java/util/Arrays", "copyOf", "([BI)[B"⟩ prog_22_method_121_code 3 (some (.array .byte))) ∈ wG := wG_in 515 (by decide +kernel) (by decide +kernel)
theorem w_514 : (Cond.static ⟨"java/util/Arrays", "copyOf", "([BI)[B"⟩) ∈ wG := wG_in 514 (by decide +kernel) (by decide +kernel)
theorem w_531 : (Cond.code ⟨"java/util/Arrays", "fill", "([II)V"⟩ prog_22_method_103_code 4 none) ∈ wG := wG_in 531 (by decide +kernel) (by decide +kernel)
theorem w_530 : (Cond.static ⟨"java/util/Arrays", "fill", "([II)V"⟩) ∈ wG := wG_in 530 (by decide +kernel) (by decide +kernel)
/-! java/lang/String.coder()B -/
theorem dJ0_coder_7d493_0 : decode cJ0_coder_7d493 0 = .ok (.getstatic 38, 3) := by decide +kernel
theorem dJ0_coder_7d493_3 : decode cJ0_coder_7d493 3 = .ok (.ifCond .eq 10, 3) := by decide +kernel
theorem dJ0_coder_7d493_6 : decode cJ0_coder_7d493 6 = .ok (.aload_n 0, 1) := by decide +kernel
theorem dJ0_coder_7d493_7 : decode cJ0_coder_7d493 7 = .ok (.getfield 15, 3) := by decide +kernel
theorem dJ0_coder_7d493_10 : decode cJ0_coder_7d493 10 = .ok (.goto 4, 3) := by decide +kernel
theorem dJ0_coder_7d493_13 : decode cJ0_coder_7d493 13 = .ok (.iconst 1, 1) := by decide +kernel
theorem dJ0_coder_7d493_14 : decode cJ0_coder_7d493 14 = .ok (.ireturn, 1) := by decide +kernel
theorem cm_J0_coder_7d493 : CMt yJ0_coder_7d493 cJ0_coder_7d493 1 (some .byte) 0 := ⟨w_587, w_588, w_589, w_102, ⟨by decide +kernel, by decide +kernel, by decide +kernel⟩, rfl⟩
noncomputable def f_J0_coder_7d493_14 (n : Nat)  (s0 : Int) (h : MM) : RR :=
  ck (inb s0) <|
  some (s0, h)
noncomputable def f_J0_coder_7d493 (n : Nat) (v0 : Int) (h : MM) : RR :=
  gf h v0 13 1 fun r2 =>
  f_J0_coder_7d493_14 n r2 h
set_option maxRecDepth 20000 in
theorem b_J0_coder_7d493_14 {g : GT} {Z : Int × MM} {n : Nat} (C : Cx g cJ0_coder_7d493 1 yJ0_coder_7d493 0 0) (hr : Rt g (some .byte) 0 Z) {s0 : Int}    (cs0 : in32 s0) {h : MM} (hf : f_J0_coder_7d493_14 n  s0 h = some Z) : G g 14 [(3, 0)] [(0, s0)] h := by
  unfold f_J0_coder_7d493_14 at hf
  obtain ⟨b1, hf⟩ := ck_s hf
  cases hf
  exact r_bret C hr dJ0_coder_7d493_14 b1
set_option maxRecDepth 20000 in
theorem e_J0_coder_7d493 {g : GT} {Z : Int × MM} {n : Nat} (C : Cx g cJ0_coder_7d493 1 yJ0_coder_7d493 0 0) (hr : Rt g (some .byte) 0 Z) {v0 : Int} (cv0 : cK 2 v0) {h : MM} (hf : f_J0_coder_7d493 n v0 h = some Z) : G g 0 [(2, v0)] [] h := by
  unfold f_J0_coder_7d493 at hf
  refine r_gsC C dJ0_coder_7d493_0 w_590 ?_
  refine r_if_eq C dJ0_coder_7d493_3 (tgt := 13) (by decide) (in32_of rfl) (fun n1 => ?_) (fun n1 => ?_)
  · exact absurd n1 (by decide)
  · refine r_aload_n C dJ0_coder_7d493_6 rfl ?_
    obtain ⟨q2, hf⟩ := gf_s hf
    refine r_gfS1 C dJ0_coder_7d493_7 q2 w_1904 (fun c2 => ?_)
    refine r_goto C dJ0_coder_7d493_10 (tgt := 14) (by decide) ?_
    exact G.mask [false] rfl rfl (b_J0_coder_7d493_14 C hr  c2 hf)
set_option maxRecDepth 20000 in
theorem am_J0_coder_7d493 (l : Launch) (n : Nat) : AM l yJ0_coder_7d493 cJ0_coder_7d493 1 (some .byte) 0 0 [2] 0 (un1 (f_J0_coder_7d493 n)) := by
  refine AM.intro (by decide) (fun xs hx => ?_) (fun g xs h Z hl C hr hx hf => ?_)
  · obtain ⟨a0, rfl, c0⟩ := canL_1 hx
    exact Nat.le_of_ble_eq_true rfl
  · obtain ⟨a0, rfl, c0⟩ := canL_1 hx
    have hf := (un1_e _ a0 _).symm.trans hf
    exact e_J0_coder_7d493 (n := n) C hr c0 hf
/-! java/lang/String.length()I -/
theorem dJ0_length_8abf5_0 : decode cJ0_length_8abf5 0 = .ok (.aload_n 0, 1) := by decide +kernel
theorem dJ0_length_8abf5_1 : decode cJ0_length_8abf5 1 = .ok (.getfield 9, 3) := by decide +kernel
theorem dJ0_length_8abf5_4 : decode cJ0_length_8abf5 4 = .ok (.arraylength, 1) := by decide +kernel
theorem dJ0_length_8abf5_5 : decode cJ0_length_8abf5 5 = .ok (.aload_n 0, 1) := by decide +kernel
theorem dJ0_length_8abf5_6 : decode cJ0_length_8abf5 6 = .ok (.invokevirtual 335, 3) := by decide +kernel
theorem dJ0_length_8abf5_9 : decode cJ0_length_8abf5 9 = .ok (.ishr, 1) := by decide +kernel
theorem dJ0_length_8abf5_10 : decode cJ0_length_8abf5 10 = .ok (.ireturn, 1) := by decide +kernel
theorem cm_J0_length_8abf5 : CMt yJ0_length_8abf5 cJ0_length_8abf5 1 (some .int) 0 := ⟨w_583, w_584, w_585, w_102, ⟨by decide +kernel, by decide +kernel, by decide +kernel⟩, rfl⟩
noncomputable def f_J0_length_8abf5 (n : Nat) (v0 : Int) (h : MM) : RR :=
  gf h v0 13 0 fun r1 =>
  al h r1 102 fun r2 =>
  gk h v0 13 <|
  bd (f_J0_coder_7d493 n v0 h) fun r3 h3 =>
  some (shr r2 r3, h3)
set_option maxRecDepth 20000 in
theorem e_J0_length_8abf5 {g : GT} {Z : Int × MM} {n : Nat} (C : Cx g cJ0_length_8abf5 1 yJ0_length_8abf5 1 20) (hr : Rt g (some .int) 0 Z) {v0 : Int} (cv0 : cK 2 v0) {h : MM} (hf : f_J0_length_8abf5 n v0 h = some Z) : G g 0 [(2, v0)] [] h := by
  unfold f_J0_length_8abf5 at hf
  refine r_aload_n C dJ0_length_8abf5_0 rfl ?_
  obtain ⟨q1, hf⟩ := gf_s hf
  refine r_gfS0 C dJ0_length_8abf5_1 q1 w_1903 ?_
  obtain ⟨q2, hf⟩ := al_s hf
  refine r_alen C (tn := 102) dJ0_length_8abf5_4 q2 rfl (by decide) (fun c2 _ => ?_)
  refine r_aload_n C dJ0_length_8abf5_5 rfl ?_
  obtain ⟨p3, hf⟩ := gk_s hf
  obtain ⟨r3, h3, hq3, hf⟩ := bd_s hf
  refine r_cVs0 C (am_J0_coder_7d493 (gl g) n) cm_J0_coder_7d493 w_586 dJ0_length_8abf5_6 ⟨Nat.le_of_ble_eq_true rfl, Nat.le_of_ble_eq_true rfl⟩ p3  rfl (Nat.le_of_ble_eq_true rfl) hq3 (by decide) (fun c3 => ?_)
  have c3 : in32 _ := c3
  refine r_ishr C dJ0_length_8abf5_9 ?_
  cases hf
  exact r_jret C hr dJ0_length_8abf5_10 (in32_t _)
set_option maxRecDepth 20000 in
theorem am_J0_length_8abf5 (l : Launch) (n : Nat) : AM l yJ0_length_8abf5 cJ0_length_8abf5 1 (some .int) 1 20 [2] 0 (un1 (f_J0_length_8abf5 n)) := by
  refine AM.intro (by decide) (fun xs hx => ?_) (fun g xs h Z hl C hr hx hf => ?_)
  · obtain ⟨a0, rfl, c0⟩ := canL_1 hx
    exact Nat.le_of_ble_eq_true rfl
  · obtain ⟨a0, rfl, c0⟩ := canL_1 hx
    have hf := (un1_e _ a0 _).symm.trans hf
    exact e_J0_length_8abf5 (n := n) C hr c0 hf
/-! java/lang/String.isLatin1()Z -/
theorem dJ0_isLatin1_aae02_0 : decode cJ0_isLatin1_aae02 0 = .ok (.getstatic 38, 3) := by decide +kernel
theorem dJ0_isLatin1_aae02_3 : decode cJ0_isLatin1_aae02 3 = .ok (.ifCond .eq 14, 3) := by decide +kernel
theorem dJ0_isLatin1_aae02_6 : decode cJ0_isLatin1_aae02 6 = .ok (.aload_n 0, 1) := by decide +kernel
theorem dJ0_isLatin1_aae02_7 : decode cJ0_isLatin1_aae02 7 = .ok (.getfield 15, 3) := by decide +kernel
theorem dJ0_isLatin1_aae02_10 : decode cJ0_isLatin1_aae02 10 = .ok (.ifCond .ne 7, 3) := by decide +kernel
theorem dJ0_isLatin1_aae02_13 : decode cJ0_isLatin1_aae02 13 = .ok (.iconst 1, 1) := by decide +kernel
theorem dJ0_isLatin1_aae02_14 : decode cJ0_isLatin1_aae02 14 = .ok (.goto 4, 3) := by decide +kernel
theorem dJ0_isLatin1_aae02_17 : decode cJ0_isLatin1_aae02 17 = .ok (.iconst 0, 1) := by decide +kernel
theorem dJ0_isLatin1_aae02_18 : decode cJ0_isLatin1_aae02 18 = .ok (.ireturn, 1) := by decide +kernel
theorem cm_J0_isLatin1_aae02 : CMt yJ0_isLatin1_aae02 cJ0_isLatin1_aae02 1 (some .boolean) 0 := ⟨w_597, w_598, w_599, w_102, ⟨by decide +kernel, by decide +kernel, by decide +kernel⟩, rfl⟩
noncomputable def f_J0_isLatin1_aae02_18 (n : Nat)  (s0 : Int) (h : MM) : RR :=
  ck (isb s0) <|
  some (s0, h)
noncomputable def f_J0_isLatin1_aae02_17 (n : Nat)  (h : MM) : RR :=
  f_J0_isLatin1_aae02_18 n 0 h
noncomputable def f_J0_isLatin1_aae02 (n : Nat) (v0 : Int) (h : MM) : RR :=
  gf h v0 13 1 fun r2 =>
  if r2 = 0 then
    f_J0_isLatin1_aae02_18 n 1 h
  else
  f_J0_isLatin1_aae02_17 n h
set_option maxRecDepth 20000 in
theorem b_J0_isLatin1_aae02_18 {g : GT} {Z : Int × MM} {n : Nat} (C : Cx g cJ0_isLatin1_aae02 1 yJ0_isLatin1_aae02 0 0) (hr : Rt g (some .boolean) 0 Z) {s0 : Int}    (cs0 : in32 s0) {h : MM} (hf : f_J0_isLatin1_aae02_18 n  s0 h = some Z) : G g 18 [(3, 0)] [(0, s0)] h := by
  unfold f_J0_isLatin1_aae02_18 at hf
  obtain ⟨b1, hf⟩ := ck_s hf
  cases hf
  exact r_zret C hr dJ0_isLatin1_aae02_18 b1
set_option maxRecDepth 20000 in
theorem b_J0_isLatin1_aae02_17 {g : GT} {Z : Int × MM} {n : Nat} (C : Cx g cJ0_isLatin1_aae02 1 yJ0_isLatin1_aae02 0 0) (hr : Rt g (some .boolean) 0 Z)     {h : MM} (hf : f_J0_isLatin1_aae02_17 n   h = some Z) : G g 17 [(3, 0)] [] h := by
  unfold f_J0_isLatin1_aae02_17 at hf
  refine r_iconst C dJ0_isLatin1_aae02_17 ?_
  exact G.mask [false] rfl rfl (b_J0_isLatin1_aae02_18 C hr  (in32_of rfl) hf)
set_option maxRecDepth 20000 in
theorem e_J0_isLatin1_aae02 {g : GT} {Z : Int × MM} {n : Nat} (C : Cx g cJ0_isLatin1_aae02 1 yJ0_isLatin1_aae02 0 0) (hr : Rt g (some .boolean) 0 Z) {v0 : Int} (cv0 : cK 2 v0) {h : MM} (hf : f_J0_isLatin1_aae02 n v0 h = some Z) : G g 0 [(2, v0)] [] h := by
  unfold f_J0_isLatin1_aae02 at hf
  refine r_gsC C dJ0_isLatin1_aae02_0 w_590 ?_
  refine r_if_eq C dJ0_isLatin1_aae02_3 (tgt := 17) (by decide) (in32_of rfl) (fun n1 => ?_) (fun n1 => ?_)
  · exact absurd n1 (by decide)
  · refine r_aload_n C dJ0_isLatin1_aae02_6 rfl ?_
    obtain ⟨q2, hf⟩ := gf_s hf
    refine r_gfS1 C dJ0_isLatin1_aae02_7 q2 w_1904 (fun c2 => ?_)
    refine r_if_ne C dJ0_isLatin1_aae02_10 (tgt := 17) (by decide) c2 (fun n3 => ?_) (fun n3 => ?_)
    · have hf := ite_n n3 hf
      exact G.mask [false] rfl rfl (b_J0_isLatin1_aae02_17 C hr   hf)
    · have hf := ite_p n3 hf
      refine r_iconst C dJ0_isLatin1_aae02_13 ?_
      refine r_goto C dJ0_isLatin1_aae02_14 (tgt := 18) (by decide) ?_
      exact G.mask [false] rfl rfl (b_J0_isLatin1_aae02_18 C hr  (in32_of rfl) hf)
set_option maxRecDepth 20000 in
theorem am_J0_isLatin1_aae02 (l : Launch) (n : Nat) : AM l yJ0_isLatin1_aae02 cJ0_isLatin1_aae02 1 (some .boolean) 0 0 [2] 0 (un1 (f_J0_isLatin1_aae02 n)) := by
  refine AM.intro (by decide) (fun xs hx => ?_) (fun g xs h Z hl C hr hx hf => ?_)
  · obtain ⟨a0, rfl, c0⟩ := canL_1 hx
    exact Nat.le_of_ble_eq_true rfl
  · obtain ⟨a0, rfl, c0⟩ := canL_1 hx
    have hf := (un1_e _ a0 _).symm.trans hf
    exact e_J0_isLatin1_aae02 (n := n) C hr c0 hf
/-! jdk/internal/util/Preconditions.checkIndex(IILjava/util/function/BiFunction;)I -/
theorem dJ3_checkIndex_8e157_0 : decode cJ3_checkIndex_8e157 0 = .ok (.iload_n 0, 1) := by decide +kernel
theorem dJ3_checkIndex_8e157_1 : decode cJ3_checkIndex_8e157 1 = .ok (.ifCond .lt 8, 3) := by decide +kernel
theorem dJ3_checkIndex_8e157_4 : decode cJ3_checkIndex_8e157 4 = .ok (.iload_n 0, 1) := by decide +kernel
theorem dJ3_checkIndex_8e157_5 : decode cJ3_checkIndex_8e157 5 = .ok (.iload_n 1, 1) := by decide +kernel
theorem dJ3_checkIndex_8e157_6 : decode cJ3_checkIndex_8e157 6 = .ok (.if_icmp .lt 10, 3) := by decide +kernel
theorem dJ3_checkIndex_8e157_9 : decode cJ3_checkIndex_8e157 9 = .ok (.aload_n 2, 1) := by decide +kernel
theorem dJ3_checkIndex_8e157_16 : decode cJ3_checkIndex_8e157 16 = .ok (.iload_n 0, 1) := by decide +kernel
theorem dJ3_checkIndex_8e157_17 : decode cJ3_checkIndex_8e157 17 = .ok (.ireturn, 1) := by decide +kernel
theorem cm_J3_checkIndex_8e157 : CMs yJ3_checkIndex_8e157 cJ3_checkIndex_8e157 3 (some .int) 3 := ⟨w_609, w_610, w_104, ⟨by decide +kernel, by decide +kernel, by decide +kernel⟩⟩
noncomputable def f_J3_checkIndex_8e157_9 (n : Nat)  (v2 : Int) (h : MM) : RR :=
  none
noncomputable def f_J3_checkIndex_8e157 (n : Nat) (v0 v1 v2 : Int) (h : MM) : RR :=
  if v0 < 0 then
    f_J3_checkIndex_8e157_9 n v2 h
  else
  if v0 < v1 then
    some (v0, h)
  else
  f_J3_checkIndex_8e157_9 n v2 h
set_option maxRecDepth 20000 in
theorem b_J3_checkIndex_8e157_9 {g : GT} {Z : Int × MM} {n : Nat} (C : Cx g cJ3_checkIndex_8e157 3 yJ3_checkIndex_8e157 0 0) (hr : Rt g (some .int) 0 Z) {v2 : Int}     {h : MM} (hf : f_J3_checkIndex_8e157_9 n  v2 h = some Z) : G g 9 [(3, 0), (3, 0), (2, v2)] [] h := by
  unfold f_J3_checkIndex_8e157_9 at hf
  cases hf
set_option maxRecDepth 20000 in
theorem e_J3_checkIndex_8e157 {g : GT} {Z : Int × MM} {n : Nat} (C : Cx g cJ3_checkIndex_8e157 3 yJ3_checkIndex_8e157 0 0) (hr : Rt g (some .int) 0 Z) {v0 v1 v2 : Int} (cv0 : cK 0 v0) (cv1 : cK 0 v1) (cv2 : cK 2 v2) {h : MM} (hf : f_J3_checkIndex_8e157 n v0 v1 v2 h = some Z) : G g 0 [(0, v0), (0, v1), (2, v2)] [] h := by
  have cv0 : in32 v0 := cv0
  have cv1 : in32 v1 := cv1
  unfold f_J3_checkIndex_8e157 at hf
  refine r_iload_n C dJ3_checkIndex_8e157_0 rfl ?_
  refine r_if_lt C dJ3_checkIndex_8e157_1 (tgt := 9) (by decide) cv0 (fun n1 => ?_) (fun n1 => ?_)
  · have hf := ite_p n1 hf
    exact G.mask [false, false, true] rfl rfl (b_J3_checkIndex_8e157_9 C hr   hf)
  · have hf := ite_n n1 hf
    refine r_iload_n C dJ3_checkIndex_8e157_4 rfl ?_
    refine r_iload_n C dJ3_checkIndex_8e157_5 rfl ?_
    refine r_icmp_lt C dJ3_checkIndex_8e157_6 (tgt := 16) (by decide) cv0 cv1 (fun n2 => ?_) (fun n2 => ?_)
    · have hf := ite_p n2 hf
      refine r_iload_n C dJ3_checkIndex_8e157_16 rfl ?_
      cases hf
      exact r_jret C hr dJ3_checkIndex_8e157_17 cv0
    · have hf := ite_n n2 hf
      exact G.mask [false, false, true] rfl rfl (b_J3_checkIndex_8e157_9 C hr   hf)
set_option maxRecDepth 20000 in
theorem am_J3_checkIndex_8e157 (l : Launch) (n : Nat) : AM l yJ3_checkIndex_8e157 cJ3_checkIndex_8e157 3 (some .int) 0 0 [0, 0, 2] 0 (un3 (f_J3_checkIndex_8e157 n)) := by
  refine AM.intro (by decide) (fun xs hx => ?_) (fun g xs h Z hl C hr hx hf => ?_)
  · obtain ⟨a0, a1, a2, rfl, c0, c1, c2⟩ := canL_3 hx
    exact Nat.le_of_ble_eq_true rfl
  · obtain ⟨a0, a1, a2, rfl, c0, c1, c2⟩ := canL_3 hx
    have hf := (un3_e _ a0 a1 a2 _).symm.trans hf
    exact e_J3_checkIndex_8e157 (n := n) C hr c0 c1 c2 hf
/-! java/lang/String.checkIndex(II)V -/
theorem dJ0_checkIndex_df160_0 : decode cJ0_checkIndex_df160 0 = .ok (.iload_n 0, 1) := by decide +kernel
theorem dJ0_checkIndex_df160_1 : decode cJ0_checkIndex_df160 1 = .ok (.iload_n 1, 1) := by decide +kernel
theorem dJ0_checkIndex_df160_2 : decode cJ0_checkIndex_df160 2 = .ok (.getstatic 1053, 3) := by decide +kernel
theorem dJ0_checkIndex_df160_5 : decode cJ0_checkIndex_df160 5 = .ok (.invokestatic 1059, 3) := by decide +kernel
theorem dJ0_checkIndex_df160_8 : decode cJ0_checkIndex_df160 8 = .ok (.pop, 1) := by decide +kernel
theorem dJ0_checkIndex_df160_9 : decode cJ0_checkIndex_df160 9 = .ok (.return_, 1) := by decide +kernel
theorem cm_J0_checkIndex_df160 : CMs yJ0_checkIndex_df160 cJ0_checkIndex_df160 2 none 2 := ⟨w_604, w_605, w_102, ⟨by decide +kernel, by decide +kernel, by decide +kernel⟩⟩
noncomputable def f_J0_checkIndex_df160 (n : Nat) (v0 v1 : Int) (h : MM) : RR :=
  bd (f_J3_checkIndex_8e157 n v0 v1 0 h) fun r2 h2 =>
  some (0, h2)
set_option maxRecDepth 20000 in
theorem e_J0_checkIndex_df160 {g : GT} {Z : Int × MM} {n : Nat} (C : Cx g cJ0_checkIndex_df160 2 yJ0_checkIndex_df160 1 22) (hr : Rt g none 3 Z) {v0 v1 : Int} (cv0 : cK 0 v0) (cv1 : cK 0 v1) {h : MM} (hf : f_J0_checkIndex_df160 n v0 v1 h = some Z) : G g 0 [(0, v0), (0, v1)] [] h := by
  have cv0 : in32 v0 := cv0
  have cv1 : in32 v1 := cv1
  unfold f_J0_checkIndex_df160 at hf
  refine r_iload_n C dJ0_checkIndex_df160_0 rfl ?_
  refine r_iload_n C dJ0_checkIndex_df160_1 rfl ?_
  refine r_gsF C dJ0_checkIndex_df160_2 w_606 (fun o1 => ?_)
  obtain ⟨r2, h2, hq2, hf⟩ := bd_s hf
  refine r_cS3 C (am_J3_checkIndex_8e157 (gl g) n) cm_J3_checkIndex_8e157 w_608 dJ0_checkIndex_df160_5 ⟨Nat.le_of_ble_eq_true rfl, Nat.le_of_ble_eq_true rfl⟩ cv0 cv1 trivial rfl (Nat.le_of_ble_eq_true rfl) hq2 (by decide) (fun c2 => ?_)
  have c2 : in32 _ := c2
  refine r_pop C dJ0_checkIndex_df160_8 (by decide) ?_
  cases hf
  exact r_vret C hr dJ0_checkIndex_df160_9
set_option maxRecDepth 20000 in
theorem am_J0_checkIndex_df160 (l : Launch) (n : Nat) : AM l yJ0_checkIndex_df160 cJ0_checkIndex_df160 2 none 1 22 [0, 0] 3 (un2 (f_J0_checkIndex_df160 n)) := by
  refine AM.intro (by decide) (fun xs hx => ?_) (fun g xs h Z hl C hr hx hf => ?_)
  · obtain ⟨a0, a1, rfl, c0, c1⟩ := canL_2 hx
    exact Nat.le_of_ble_eq_true rfl
  · obtain ⟨a0, a1, rfl, c0, c1⟩ := canL_2 hx
    have hf := (un2_e _ a0 a1 _).symm.trans hf
    exact e_J0_checkIndex_df160 (n := n) C hr c0 c1 hf
/-! java/lang/StringLatin1.charAt([BI)C -/
theorem dJ1_charAt_3b067_0 : decode cJ1_charAt_3b067 0 = .ok (.iload_n 1, 1) := by decide +kernel
theorem dJ1_charAt_3b067_1 : decode cJ1_charAt_3b067 1 = .ok (.aload_n 0, 1) := by decide +kernel
theorem dJ1_charAt_3b067_2 : decode cJ1_charAt_3b067 2 = .ok (.arraylength, 1) := by decide +kernel
theorem dJ1_charAt_3b067_3 : decode cJ1_charAt_3b067 3 = .ok (.invokestatic 9, 3) := by decide +kernel
theorem dJ1_charAt_3b067_6 : decode cJ1_charAt_3b067 6 = .ok (.aload_n 0, 1) := by decide +kernel
theorem dJ1_charAt_3b067_7 : decode cJ1_charAt_3b067 7 = .ok (.iload_n 1, 1) := by decide +kernel
theorem dJ1_charAt_3b067_8 : decode cJ1_charAt_3b067 8 = .ok (.baload, 1) := by decide +kernel
theorem dJ1_charAt_3b067_9 : decode cJ1_charAt_3b067 9 = .ok (.sipush 255, 3) := by decide +kernel
theorem dJ1_charAt_3b067_12 : decode cJ1_charAt_3b067 12 = .ok (.iand, 1) := by decide +kernel
theorem dJ1_charAt_3b067_13 : decode cJ1_charAt_3b067 13 = .ok (.i2c, 1) := by decide +kernel
theorem dJ1_charAt_3b067_14 : decode cJ1_charAt_3b067 14 = .ok (.ireturn, 1) := by decide +kernel
theorem cm_J1_charAt_3b067 : CMs yJ1_charAt_3b067 cJ1_charAt_3b067 2 (some .char) 2 := ⟨w_601, w_602, w_103, ⟨by decide +kernel, by decide +kernel, by decide +kernel⟩⟩
noncomputable def f_J1_charAt_3b067 (n : Nat) (v0 v1 : Int) (h : MM) : RR :=
  al h v0 102 fun r1 =>
  bd (f_J0_checkIndex_df160 n v1 r1 h) fun r2 h2 =>
  rd h2 v0 102 v1 fun r3 =>
  ck (inc (c16 (ban r3 255))) <|
  some (c16 (ban r3 255), h2)
set_option maxRecDepth 20000 in
theorem e_J1_charAt_3b067 {g : GT} {Z : Int × MM} {n : Nat} (C : Cx g cJ1_charAt_3b067 2 yJ1_charAt_3b067 2 43) (hr : Rt g (some .char) 0 Z) {v0 v1 : Int} (cv0 : cK 2 v0) (cv1 : cK 0 v1) {h : MM} (hf : f_J1_charAt_3b067 n v0 v1 h = some Z) : G g 0 [(2, v0), (0, v1)] [] h := by
  have cv1 : in32 v1 := cv1
  unfold f_J1_charAt_3b067 at hf
  refine r_iload_n C dJ1_charAt_3b067_0 rfl ?_
  refine r_aload_n C dJ1_charAt_3b067_1 rfl ?_
  obtain ⟨q1, hf⟩ := al_s hf
  refine r_alen C (tn := 102) dJ1_charAt_3b067_2 q1 rfl (by decide) (fun c1 _ => ?_)
  obtain ⟨r2, h2, hq2, hf⟩ := bd_s hf
  refine r_cS2v C (am_J0_checkIndex_df160 (gl g) n) cm_J0_checkIndex_df160 w_603 dJ1_charAt_3b067_3 ⟨Nat.le_of_ble_eq_true rfl, Nat.le_of_ble_eq_true rfl⟩ cv1 c1 rfl (Nat.le_of_ble_eq_true rfl) hq2 ?_
  refine r_aload_n C dJ1_charAt_3b067_6 rfl ?_
  refine r_iload_n C dJ1_charAt_3b067_7 rfl ?_
  obtain ⟨q3, hf⟩ := rd_s hf
  refine r_bald C dJ1_charAt_3b067_8 q3 rfl (fun c3 => ?_)
  refine r_sipush C dJ1_charAt_3b067_9 rfl ?_
  refine r_iand C dJ1_charAt_3b067_12 ?_
  refine r_i2c C dJ1_charAt_3b067_13 ?_
  obtain ⟨b4, hf⟩ := ck_s hf
  cases hf
  exact r_cret C hr dJ1_charAt_3b067_14 b4
set_option maxRecDepth 20000 in
theorem am_J1_charAt_3b067 (l : Launch) (n : Nat) : AM l yJ1_charAt_3b067 cJ1_charAt_3b067 2 (some .char) 2 43 [2, 0] 0 (un2 (f_J1_charAt_3b067 n)) := by
  refine AM.intro (by decide) (fun xs hx => ?_) (fun g xs h Z hl C hr hx hf => ?_)
  · obtain ⟨a0, a1, rfl, c0, c1⟩ := canL_2 hx
    exact Nat.le_of_ble_eq_true rfl
  · obtain ⟨a0, a1, rfl, c0, c1⟩ := canL_2 hx
    have hf := (un2_e _ a0 a1 _).symm.trans hf
    exact e_J1_charAt_3b067 (n := n) C hr c0 c1 hf
/-! java/lang/String.charAt(I)C -/
theorem dJ0_charAt_5068e_0 : decode cJ0_charAt_5068e 0 = .ok (.aload_n 0, 1) := by decide +kernel
theorem dJ0_charAt_5068e_1 : decode cJ0_charAt_5068e 1 = .ok (.invokevirtual 492, 3) := by decide +kernel
theorem dJ0_charAt_5068e_4 : decode cJ0_charAt_5068e 4 = .ok (.ifCond .eq 12, 3) := by decide +kernel
theorem dJ0_charAt_5068e_7 : decode cJ0_charAt_5068e 7 = .ok (.aload_n 0, 1) := by decide +kernel
theorem dJ0_charAt_5068e_8 : decode cJ0_charAt_5068e 8 = .ok (.getfield 9, 3) := by decide +kernel
theorem dJ0_charAt_5068e_11 : decode cJ0_charAt_5068e 11 = .ok (.iload_n 1, 1) := by decide +kernel
theorem dJ0_charAt_5068e_12 : decode cJ0_charAt_5068e 12 = .ok (.invokestatic 495, 3) := by decide +kernel
theorem dJ0_charAt_5068e_15 : decode cJ0_charAt_5068e 15 = .ok (.ireturn, 1) := by decide +kernel
theorem dJ0_charAt_5068e_16 : decode cJ0_charAt_5068e 16 = .ok (.aload_n 0, 1) := by decide +kernel
theorem cm_J0_charAt_5068e : CMt yJ0_charAt_5068e cJ0_charAt_5068e 2 (some .char) 1 := ⟨w_593, w_594, w_595, w_102, ⟨by decide +kernel, by decide +kernel, by decide +kernel⟩, rfl⟩
noncomputable def f_J0_charAt_5068e (n : Nat) (v0 v1 : Int) (h : MM) : RR :=
  gk h v0 13 <|
  bd (f_J0_isLatin1_aae02 n v0 h) fun r1 h1 =>
  if r1 = 0 then
    none
  else
  gf h1 v0 13 0 fun r3 =>
  bd (f_J1_charAt_3b067 n r3 v1 h1) fun r4 h4 =>
  ck (inc r4) <|
  some (r4, h4)
set_option maxRecDepth 20000 in
theorem e_J0_charAt_5068e {g : GT} {Z : Int × MM} {n : Nat} (C : Cx g cJ0_charAt_5068e 2 yJ0_charAt_5068e 3 64) (hr : Rt g (some .char) 0 Z) {v0 v1 : Int} (cv0 : cK 2 v0) (cv1 : cK 0 v1) {h : MM} (hf : f_J0_charAt_5068e n v0 v1 h = some Z) : G g 0 [(2, v0), (0, v1)] [] h := by
  have cv1 : in32 v1 := cv1
  unfold f_J0_charAt_5068e at hf
  refine r_aload_n C dJ0_charAt_5068e_0 rfl ?_
  obtain ⟨p1, hf⟩ := gk_s hf
  obtain ⟨r1, h1, hq1, hf⟩ := bd_s hf
  refine r_cVs0 C (am_J0_isLatin1_aae02 (gl g) n) cm_J0_isLatin1_aae02 w_596 dJ0_charAt_5068e_1 ⟨Nat.le_of_ble_eq_true rfl, Nat.le_of_ble_eq_true rfl⟩ p1  rfl (Nat.le_of_ble_eq_true rfl) hq1 (by decide) (fun c1 => ?_)
  have c1 : in32 _ := c1
  refine r_if_eq C dJ0_charAt_5068e_4 (tgt := 16) (by decide) c1 (fun n2 => ?_) (fun n2 => ?_)
  · have hf := ite_p n2 hf
    cases hf
  · have hf := ite_n n2 hf
    refine r_aload_n C dJ0_charAt_5068e_7 rfl ?_
    obtain ⟨q3, hf⟩ := gf_s hf
    refine r_gfS0 C dJ0_charAt_5068e_8 q3 w_1903 ?_
    refine r_iload_n C dJ0_charAt_5068e_11 rfl ?_
    obtain ⟨r4, h4, hq4, hf⟩ := bd_s hf
    refine r_cS2 C (am_J1_charAt_3b067 (gl g) n) cm_J1_charAt_3b067 w_600 dJ0_charAt_5068e_12 ⟨Nat.le_of_ble_eq_true rfl, Nat.le_of_ble_eq_true rfl⟩ trivial cv1 rfl (Nat.le_of_ble_eq_true rfl) hq4 (by decide) (fun c4 => ?_)
    have c4 : in32 _ := c4
    obtain ⟨b5, hf⟩ := ck_s hf
    cases hf
    exact r_cret C hr dJ0_charAt_5068e_15 b5
set_option maxRecDepth 20000 in
theorem am_J0_charAt_5068e (l : Launch) (n : Nat) : AM l yJ0_charAt_5068e cJ0_charAt_5068e 2 (some .char) 3 64 [2, 0] 0 (un2 (f_J0_charAt_5068e n)) := by
  refine AM.intro (by decide) (fun xs hx => ?_) (fun g xs h Z hl C hr hx hf => ?_)
  · obtain ⟨a0, a1, rfl, c0, c1⟩ := canL_2 hx
    exact Nat.le_of_ble_eq_true rfl
  · obtain ⟨a0, a1, rfl, c0, c1⟩ := canL_2 hx
    have hf := (un2_e _ a0 a1 _).symm.trans hf
    exact e_J0_charAt_5068e (n := n) C hr c0 c1 hf
/-! java/lang/Integer.bitCount(I)I -/
theorem dJ6_bitCount_0f7a4_0 : decode cJ6_bitCount_0f7a4 0 = .ok (.iload_n 0, 1) := by decide +kernel
theorem dJ6_bitCount_0f7a4_1 : decode cJ6_bitCount_0f7a4 1 = .ok (.iload_n 0, 1) := by decide +kernel
theorem dJ6_bitCount_0f7a4_2 : decode cJ6_bitCount_0f7a4 2 = .ok (.iconst 1, 1) := by decide +kernel
theorem dJ6_bitCount_0f7a4_3 : decode cJ6_bitCount_0f7a4 3 = .ok (.iushr, 1) := by decide +kernel
theorem dJ6_bitCount_0f7a4_4 : decode cJ6_bitCount_0f7a4 4 = .ok (.ldc_w 265, 3) := by decide +kernel
theorem dJ6_bitCount_0f7a4_7 : decode cJ6_bitCount_0f7a4 7 = .ok (.iand, 1) := by decide +kernel
theorem dJ6_bitCount_0f7a4_8 : decode cJ6_bitCount_0f7a4 8 = .ok (.isub, 1) := by decide +kernel
theorem dJ6_bitCount_0f7a4_9 : decode cJ6_bitCount_0f7a4 9 = .ok (.istore_n 0, 1) := by decide +kernel
theorem dJ6_bitCount_0f7a4_10 : decode cJ6_bitCount_0f7a4 10 = .ok (.iload_n 0, 1) := by decide +kernel
theorem dJ6_bitCount_0f7a4_11 : decode cJ6_bitCount_0f7a4 11 = .ok (.ldc_w 266, 3) := by decide +kernel
theorem dJ6_bitCount_0f7a4_14 : decode cJ6_bitCount_0f7a4 14 = .ok (.iand, 1) := by decide +kernel
theorem dJ6_bitCount_0f7a4_15 : decode cJ6_bitCount_0f7a4 15 = .ok (.iload_n 0, 1) := by decide +kernel
theorem dJ6_bitCount_0f7a4_16 : decode cJ6_bitCount_0f7a4 16 = .ok (.iconst 2, 1) := by decide +kernel
theorem dJ6_bitCount_0f7a4_17 : decode cJ6_bitCount_0f7a4 17 = .ok (.iushr, 1) := by decide +kernel
theorem dJ6_bitCount_0f7a4_18 : decode cJ6_bitCount_0f7a4 18 = .ok (.ldc_w 266, 3) := by decide +kernel
theorem dJ6_bitCount_0f7a4_21 : decode cJ6_bitCount_0f7a4 21 = .ok (.iand, 1) := by decide +kernel
theorem dJ6_bitCount_0f7a4_22 : decode cJ6_bitCount_0f7a4 22 = .ok (.iadd, 1) := by decide +kernel
theorem dJ6_bitCount_0f7a4_23 : decode cJ6_bitCount_0f7a4 23 = .ok (.istore_n 0, 1) := by decide +kernel
theorem dJ6_bitCount_0f7a4_24 : decode cJ6_bitCount_0f7a4 24 = .ok (.iload_n 0, 1) := by decide +kernel
theorem dJ6_bitCount_0f7a4_25 : decode cJ6_bitCount_0f7a4 25 = .ok (.iload_n 0, 1) := by decide +kernel
theorem dJ6_bitCount_0f7a4_26 : decode cJ6_bitCount_0f7a4 26 = .ok (.iconst 4, 1) := by decide +kernel
theorem dJ6_bitCount_0f7a4_27 : decode cJ6_bitCount_0f7a4 27 = .ok (.iushr, 1) := by decide +kernel
theorem dJ6_bitCount_0f7a4_28 : decode cJ6_bitCount_0f7a4 28 = .ok (.iadd, 1) := by decide +kernel
theorem dJ6_bitCount_0f7a4_29 : decode cJ6_bitCount_0f7a4 29 = .ok (.ldc_w 267, 3) := by decide +kernel
theorem dJ6_bitCount_0f7a4_32 : decode cJ6_bitCount_0f7a4 32 = .ok (.iand, 1) := by decide +kernel
theorem dJ6_bitCount_0f7a4_33 : decode cJ6_bitCount_0f7a4 33 = .ok (.istore_n 0, 1) := by decide +kernel
theorem dJ6_bitCount_0f7a4_34 : decode cJ6_bitCount_0f7a4 34 = .ok (.iload_n 0, 1) := by decide +kernel
theorem dJ6_bitCount_0f7a4_35 : decode cJ6_bitCount_0f7a4 35 = .ok (.iload_n 0, 1) := by decide +kernel
theorem dJ6_bitCount_0f7a4_36 : decode cJ6_bitCount_0f7a4 36 = .ok (.bipush 8, 2) := by decide +kernel
theorem dJ6_bitCount_0f7a4_38 : decode cJ6_bitCount_0f7a4 38 = .ok (.iushr, 1) := by decide +kernel
theorem dJ6_bitCount_0f7a4_39 : decode cJ6_bitCount_0f7a4 39 = .ok (.iadd, 1) := by decide +kernel
theorem dJ6_bitCount_0f7a4_40 : decode cJ6_bitCount_0f7a4 40 = .ok (.istore_n 0, 1) := by decide +kernel
theorem dJ6_bitCount_0f7a4_41 : decode cJ6_bitCount_0f7a4 41 = .ok (.iload_n 0, 1) := by decide +kernel
theorem dJ6_bitCount_0f7a4_42 : decode cJ6_bitCount_0f7a4 42 = .ok (.iload_n 0, 1) := by decide +kernel
theorem dJ6_bitCount_0f7a4_43 : decode cJ6_bitCount_0f7a4 43 = .ok (.bipush 16, 2) := by decide +kernel
theorem dJ6_bitCount_0f7a4_45 : decode cJ6_bitCount_0f7a4 45 = .ok (.iushr, 1) := by decide +kernel
theorem dJ6_bitCount_0f7a4_46 : decode cJ6_bitCount_0f7a4 46 = .ok (.iadd, 1) := by decide +kernel
theorem dJ6_bitCount_0f7a4_47 : decode cJ6_bitCount_0f7a4 47 = .ok (.istore_n 0, 1) := by decide +kernel
theorem dJ6_bitCount_0f7a4_48 : decode cJ6_bitCount_0f7a4 48 = .ok (.iload_n 0, 1) := by decide +kernel
theorem dJ6_bitCount_0f7a4_49 : decode cJ6_bitCount_0f7a4 49 = .ok (.bipush 63, 2) := by decide +kernel
theorem dJ6_bitCount_0f7a4_51 : decode cJ6_bitCount_0f7a4 51 = .ok (.iand, 1) := by decide +kernel
theorem dJ6_bitCount_0f7a4_52 : decode cJ6_bitCount_0f7a4 52 = .ok (.ireturn, 1) := by decide +kernel
theorem cm_J6_bitCount_0f7a4 : CMs yJ6_bitCount_0f7a4 cJ6_bitCount_0f7a4 1 (some .int) 1 := ⟨w_1084, w_1085, w_107, ⟨by decide +kernel, by decide +kernel, by decide +kernel⟩⟩
noncomputable def f_J6_bitCount_0f7a4 (n : Nat) (v0 : Int) (h : MM) : RR :=
  lb (wr (v0 - (ban (ush v0 1) 1431655765))) fun x1 =>
  lb (wr ((ban x1 858993459) + (ban (ush x1 2) 858993459))) fun x2 =>
  lb (ban (wr (x2 + (ush x2 4))) 252645135) fun x3 =>
  lb (wr (x3 + (ush x3 8))) fun x4 =>
  lb (wr (x4 + (ush x4 16))) fun x5 =>
  some (ban x5 63, h)
set_option maxRecDepth 20000 in
theorem e_J6_bitCount_0f7a4 {g : GT} {Z : Int × MM} {n : Nat} (C : Cx g cJ6_bitCount_0f7a4 1 yJ6_bitCount_0f7a4 0 0) (hr : Rt g (some .int) 0 Z) {v0 : Int} (cv0 : cK 0 v0) {h : MM} (hf : f_J6_bitCount_0f7a4 n v0 h = some Z) : G g 0 [(0, v0)] [] h := by
  have cv0 : in32 v0 := cv0
  unfold f_J6_bitCount_0f7a4 at hf
  refine r_iload_n C dJ6_bitCount_0f7a4_0 rfl ?_
  refine r_iload_n C dJ6_bitCount_0f7a4_1 rfl ?_
  refine r_iconst C dJ6_bitCount_0f7a4_2 ?_
  refine r_iushr C dJ6_bitCount_0f7a4_3 ?_
  refine r_ldcw C (v := 1431655765) dJ6_bitCount_0f7a4_4 w_1086 ?_
  refine r_iand C dJ6_bitCount_0f7a4_7 ?_
  refine r_isub C dJ6_bitCount_0f7a4_8 ?_
  obtain ⟨x1, e1, hf⟩ := lb_s hf
  have c1 : in32 x1 := by rw [e1]; exact (in32_t _)
  refine r_istore_nL C dJ6_bitCount_0f7a4_9 e1 (Nat.le_of_ble_eq_true rfl) rfl ?_
  refine r_iload_n C dJ6_bitCount_0f7a4_10 rfl ?_
  refine r_ldcw C (v := 858993459) dJ6_bitCount_0f7a4_11 w_1087 ?_
  refine r_iand C dJ6_bitCount_0f7a4_14 ?_
  refine r_iload_n C dJ6_bitCount_0f7a4_15 rfl ?_
  refine r_iconst C dJ6_bitCount_0f7a4_16 ?_
  refine r_iushr C dJ6_bitCount_0f7a4_17 ?_
  refine r_ldcw C (v := 858993459) dJ6_bitCount_0f7a4_18 w_1087 ?_
  refine r_iand C dJ6_bitCount_0f7a4_21 ?_
  refine r_iadd C dJ6_bitCount_0f7a4_22 ?_
  obtain ⟨x2, e2, hf⟩ := lb_s hf
  have c2 : in32 x2 := by rw [e2]; exact (in32_t _)
  refine r_istore_nL C dJ6_bitCount_0f7a4_23 e2 (Nat.le_of_ble_eq_true rfl) rfl ?_
  refine r_iload_n C dJ6_bitCount_0f7a4_24 rfl ?_
  refine r_iload_n C dJ6_bitCount_0f7a4_25 rfl ?_
  refine r_iconst C dJ6_bitCount_0f7a4_26 ?_
  refine r_iushr C dJ6_bitCount_0f7a4_27 ?_
  refine r_iadd C dJ6_bitCount_0f7a4_28 ?_
  refine r_ldcw C (v := 252645135) dJ6_bitCount_0f7a4_29 w_1088 ?_
  refine r_iand C dJ6_bitCount_0f7a4_32 ?_
  obtain ⟨x3, e3, hf⟩ := lb_s hf
  have c3 : in32 x3 := by rw [e3]; exact (in32_t _)
  refine r_istore_nL C dJ6_bitCount_0f7a4_33 e3 (Nat.le_of_ble_eq_true rfl) rfl ?_
  refine r_iload_n C dJ6_bitCount_0f7a4_34 rfl ?_
  refine r_iload_n C dJ6_bitCount_0f7a4_35 rfl ?_
  refine r_bipush C dJ6_bitCount_0f7a4_36 rfl ?_
  refine r_iushr C dJ6_bitCount_0f7a4_38 ?_
  refine r_iadd C dJ6_bitCount_0f7a4_39 ?_
  obtain ⟨x4, e4, hf⟩ := lb_s hf
  have c4 : in32 x4 := by rw [e4]; exact (in32_t _)
  refine r_istore_nL C dJ6_bitCount_0f7a4_40 e4 (Nat.le_of_ble_eq_true rfl) rfl ?_
  refine r_iload_n C dJ6_bitCount_0f7a4_41 rfl ?_
  refine r_iload_n C dJ6_bitCount_0f7a4_42 rfl ?_
  refine r_bipush C dJ6_bitCount_0f7a4_43 rfl ?_
  refine r_iushr C dJ6_bitCount_0f7a4_45 ?_
  refine r_iadd C dJ6_bitCount_0f7a4_46 ?_
  obtain ⟨x5, e5, hf⟩ := lb_s hf
  have c5 : in32 x5 := by rw [e5]; exact (in32_t _)
  refine r_istore_nL C dJ6_bitCount_0f7a4_47 e5 (Nat.le_of_ble_eq_true rfl) rfl ?_
  refine r_iload_n C dJ6_bitCount_0f7a4_48 rfl ?_
  refine r_bipush C dJ6_bitCount_0f7a4_49 rfl ?_
  refine r_iand C dJ6_bitCount_0f7a4_51 ?_
  cases hf
  exact r_jret C hr dJ6_bitCount_0f7a4_52 (in32_t _)
set_option maxRecDepth 20000 in
theorem am_J6_bitCount_0f7a4 (l : Launch) (n : Nat) : AM l yJ6_bitCount_0f7a4 cJ6_bitCount_0f7a4 1 (some .int) 0 0 [0] 0 (un1 (f_J6_bitCount_0f7a4 n)) := by
  refine AM.intro (by decide) (fun xs hx => ?_) (fun g xs h Z hl C hr hx hf => ?_)
  · obtain ⟨a0, rfl, c0⟩ := canL_1 hx
    exact Nat.le_of_ble_eq_true rfl
  · obtain ⟨a0, rfl, c0⟩ := canL_1 hx
    have hf := (un1_e _ a0 _).symm.trans hf
    exact e_J6_bitCount_0f7a4 (n := n) C hr c0 hf
/-! LinesPromisedModel.worth(I)I -/
theorem dX12_worth_0 : decode cX12_worth 0 = .ok (.aload_n 0, 1) := by decide +kernel
theorem dX12_worth_1 : decode cX12_worth 1 = .ok (.getfield 8, 3) := by decide +kernel
theorem dX12_worth_4 : decode cX12_worth 4 = .ok (.sipush 370, 3) := by decide +kernel
theorem dX12_worth_7 : decode cX12_worth 7 = .ok (.iload_n 1, 1) := by decide +kernel
theorem dX12_worth_8 : decode cX12_worth 8 = .ok (.iadd, 1) := by decide +kernel
theorem dX12_worth_9 : decode cX12_worth 9 = .ok (.iaload, 1) := by decide +kernel
theorem dX12_worth_10 : decode cX12_worth 10 = .ok (.tableswitch 129 1 5 #[34, 48, 82, 99, 112], 34) := by decide +kernel
theorem dX12_worth_44 : decode cX12_worth 44 = .ok (.bipush 10, 2) := by decide +kernel
theorem dX12_worth_46 : decode cX12_worth 46 = .ok (.aload_n 0, 1) := by decide +kernel
theorem dX12_worth_47 : decode cX12_worth 47 = .ok (.getfield 8, 3) := by decide +kernel
theorem dX12_worth_50 : decode cX12_worth 50 = .ok (.sipush 730, 3) := by decide +kernel
theorem dX12_worth_53 : decode cX12_worth 53 = .ok (.iload_n 1, 1) := by decide +kernel
theorem dX12_worth_54 : decode cX12_worth 54 = .ok (.iadd, 1) := by decide +kernel
theorem dX12_worth_55 : decode cX12_worth 55 = .ok (.iaload, 1) := by decide +kernel
theorem dX12_worth_56 : decode cX12_worth 56 = .ok (.iadd, 1) := by decide +kernel
theorem dX12_worth_57 : decode cX12_worth 57 = .ok (.ireturn, 1) := by decide +kernel
theorem dX12_worth_58 : decode cX12_worth 58 = .ok (.bipush 10, 2) := by decide +kernel
theorem dX12_worth_60 : decode cX12_worth 60 = .ok (.aload_n 0, 1) := by decide +kernel
theorem dX12_worth_61 : decode cX12_worth 61 = .ok (.getfield 8, 3) := by decide +kernel
theorem dX12_worth_64 : decode cX12_worth 64 = .ok (.sipush 730, 3) := by decide +kernel
theorem dX12_worth_67 : decode cX12_worth 67 = .ok (.aload_n 0, 1) := by decide +kernel
theorem dX12_worth_68 : decode cX12_worth 68 = .ok (.getfield 8, 3) := by decide +kernel
theorem dX12_worth_71 : decode cX12_worth 71 = .ok (.sipush 430, 3) := by decide +kernel
theorem dX12_worth_74 : decode cX12_worth 74 = .ok (.iload_n 1, 1) := by decide +kernel
theorem dX12_worth_75 : decode cX12_worth 75 = .ok (.iadd, 1) := by decide +kernel
theorem dX12_worth_76 : decode cX12_worth 76 = .ok (.iaload, 1) := by decide +kernel
theorem dX12_worth_77 : decode cX12_worth 77 = .ok (.iadd, 1) := by decide +kernel
theorem dX12_worth_78 : decode cX12_worth 78 = .ok (.iaload, 1) := by decide +kernel
theorem dX12_worth_79 : decode cX12_worth 79 = .ok (.iadd, 1) := by decide +kernel
theorem dX12_worth_80 : decode cX12_worth 80 = .ok (.aload_n 0, 1) := by decide +kernel
theorem dX12_worth_81 : decode cX12_worth 81 = .ok (.getfield 8, 3) := by decide +kernel
theorem dX12_worth_84 : decode cX12_worth 84 = .ok (.sipush 850, 3) := by decide +kernel
theorem dX12_worth_87 : decode cX12_worth 87 = .ok (.iload_n 1, 1) := by decide +kernel
theorem dX12_worth_88 : decode cX12_worth 88 = .ok (.iadd, 1) := by decide +kernel
theorem dX12_worth_89 : decode cX12_worth 89 = .ok (.iaload, 1) := by decide +kernel
theorem dX12_worth_90 : decode cX12_worth 90 = .ok (.iadd, 1) := by decide +kernel
theorem dX12_worth_91 : decode cX12_worth 91 = .ok (.ireturn, 1) := by decide +kernel
theorem dX12_worth_92 : decode cX12_worth 92 = .ok (.iconst 2, 1) := by decide +kernel
theorem dX12_worth_93 : decode cX12_worth 93 = .ok (.aload_n 0, 1) := by decide +kernel
theorem dX12_worth_94 : decode cX12_worth 94 = .ok (.aload_n 0, 1) := by decide +kernel
theorem dX12_worth_95 : decode cX12_worth 95 = .ok (.getfield 8, 3) := by decide +kernel
theorem dX12_worth_98 : decode cX12_worth 98 = .ok (.sipush 430, 3) := by decide +kernel
theorem dX12_worth_101 : decode cX12_worth 101 = .ok (.iload_n 1, 1) := by decide +kernel
theorem dX12_worth_102 : decode cX12_worth 102 = .ok (.iadd, 1) := by decide +kernel
theorem dX12_worth_103 : decode cX12_worth 103 = .ok (.iaload, 1) := by decide +kernel
theorem dX12_worth_104 : decode cX12_worth 104 = .ok (.invokevirtual 225, 3) := by decide +kernel
theorem dX12_worth_107 : decode cX12_worth 107 = .ok (.imul, 1) := by decide +kernel
theorem dX12_worth_108 : decode cX12_worth 108 = .ok (.ireturn, 1) := by decide +kernel
theorem dX12_worth_109 : decode cX12_worth 109 = .ok (.iconst 4, 1) := by decide +kernel
theorem dX12_worth_110 : decode cX12_worth 110 = .ok (.aload_n 0, 1) := by decide +kernel
theorem dX12_worth_111 : decode cX12_worth 111 = .ok (.getfield 8, 3) := by decide +kernel
theorem dX12_worth_114 : decode cX12_worth 114 = .ok (.sipush 730, 3) := by decide +kernel
theorem dX12_worth_117 : decode cX12_worth 117 = .ok (.iload_n 1, 1) := by decide +kernel
theorem dX12_worth_118 : decode cX12_worth 118 = .ok (.iadd, 1) := by decide +kernel
theorem dX12_worth_119 : decode cX12_worth 119 = .ok (.iaload, 1) := by decide +kernel
theorem dX12_worth_120 : decode cX12_worth 120 = .ok (.iadd, 1) := by decide +kernel
theorem dX12_worth_121 : decode cX12_worth 121 = .ok (.ireturn, 1) := by decide +kernel
theorem dX12_worth_122 : decode cX12_worth 122 = .ok (.iconst 2, 1) := by decide +kernel
theorem dX12_worth_123 : decode cX12_worth 123 = .ok (.iconst 4, 1) := by decide +kernel
theorem dX12_worth_124 : decode cX12_worth 124 = .ok (.aload_n 0, 1) := by decide +kernel
theorem dX12_worth_125 : decode cX12_worth 125 = .ok (.getfield 8, 3) := by decide +kernel
theorem dX12_worth_128 : decode cX12_worth 128 = .ok (.sipush 730, 3) := by decide +kernel
theorem dX12_worth_131 : decode cX12_worth 131 = .ok (.iload_n 1, 1) := by decide +kernel
theorem dX12_worth_132 : decode cX12_worth 132 = .ok (.iadd, 1) := by decide +kernel
theorem dX12_worth_133 : decode cX12_worth 133 = .ok (.iaload, 1) := by decide +kernel
theorem dX12_worth_134 : decode cX12_worth 134 = .ok (.iadd, 1) := by decide +kernel
theorem dX12_worth_135 : decode cX12_worth 135 = .ok (.imul, 1) := by decide +kernel
theorem dX12_worth_136 : decode cX12_worth 136 = .ok (.iconst 1, 1) := by decide +kernel
theorem dX12_worth_137 : decode cX12_worth 137 = .ok (.isub, 1) := by decide +kernel
theorem dX12_worth_138 : decode cX12_worth 138 = .ok (.ireturn, 1) := by decide +kernel
theorem dX12_worth_139 : decode cX12_worth 139 = .ok (.iconst 1, 1) := by decide +kernel
theorem dX12_worth_140 : decode cX12_worth 140 = .ok (.aload_n 0, 1) := by decide +kernel
theorem dX12_worth_141 : decode cX12_worth 141 = .ok (.getfield 8, 3) := by decide +kernel
theorem dX12_worth_144 : decode cX12_worth 144 = .ok (.sipush 730, 3) := by decide +kernel
theorem dX12_worth_147 : decode cX12_worth 147 = .ok (.iload_n 1, 1) := by decide +kernel
theorem dX12_worth_148 : decode cX12_worth 148 = .ok (.iadd, 1) := by decide +kernel
theorem dX12_worth_149 : decode cX12_worth 149 = .ok (.iaload, 1) := by decide +kernel
theorem dX12_worth_150 : decode cX12_worth 150 = .ok (.iadd, 1) := by decide +kernel
theorem dX12_worth_151 : decode cX12_worth 151 = .ok (.ireturn, 1) := by decide +kernel
theorem cm_X12_worth : CM yX12_worth cX12_worth 2 (some .int) 1 12 := ⟨w_1735, w_73, w_1736, w_97, ⟨by decide +kernel, by decide +kernel, by decide +kernel⟩, ⟨_, _, rfl⟩, by decide⟩
noncomputable def f_X12_worth_op (F_X12_worth : Int → Int → MM → RR) (n : Nat) (v0 v1 : Int) (h : MM) : RR :=
  gf h v0 12 1 fun r1 =>
  rd h r1 100 (wr (370 + v1)) fun r2 =>
  if r2 = 1 then
    gf h v0 12 1 fun r4 =>
    rd h r4 100 (wr (730 + v1)) fun r5 =>
    some (wr (10 + r5), h)
  else
  if r2 = 2 then
    gf h v0 12 1 fun r7 =>
    gf h v0 12 1 fun r8 =>
    rd h r8 100 (wr (430 + v1)) fun r9 =>
    rd h r7 100 (wr (730 + r9)) fun r10 =>
    gf h v0 12 1 fun r11 =>
    rd h r11 100 (wr (850 + v1)) fun r12 =>
    some (wr ((wr (10 + r10)) + r12), h)
  else
  if r2 = 3 then
    gf h v0 12 1 fun r14 =>
    rd h r14 100 (wr (430 + v1)) fun r15 =>
    gk h v0 12 <|
    bd (F_X12_worth v0 r15 h) fun r16 h16 =>
    some (wr (2 * r16), h16)
  else
  if r2 = 4 then
    gf h v0 12 1 fun r18 =>
    rd h r18 100 (wr (730 + v1)) fun r19 =>
    some (wr (4 + r19), h)
  else
  if r2 = 5 then
    gf h v0 12 1 fun r21 =>
    rd h r21 100 (wr (730 + v1)) fun r22 =>
    some (wr ((wr (2 * (wr (4 + r22)))) - 1), h)
  else
  gf h v0 12 1 fun r23 =>
  rd h r23 100 (wr (730 + v1)) fun r24 =>
  some (wr (1 + r24), h)
noncomputable def t_X12_worth (n : Nat) : Nat → (Int → Int → MM → RR)
  | 0 => ((fun _ _ _ => none))
  | k + 1 => (f_X12_worth_op ((t_X12_worth n k)) n)
noncomputable def f_X12_worth (n : Nat) : (Int → Int → MM → RR) := (t_X12_worth n 4)
set_option maxRecDepth 20000 in
theorem e_X12_worth {g : GT} {Z : Int × MM} {n : Nat} {fA lA : Nat} {F_X12_worth : Int → Int → MM → RR} (A_X12_worth : AM (gl g) yX12_worth cX12_worth 2 (some .int) (fA) (lA) [2, 0] 0 (un2 F_X12_worth)) (C : Cx g cX12_worth 2 yX12_worth (fA + 1) (lA + 21)) (hr : Rt g (some .int) 0 Z) {v0 v1 : Int} (cv0 : cK 2 v0) (cv1 : cK 0 v1) {h : MM} (hf : f_X12_worth_op F_X12_worth n v0 v1 h = some Z) : G g 0 [(2, v0), (0, v1)] [] h := by
  have cv1 : in32 v1 := cv1
  unfold f_X12_worth_op at hf
  refine r_aload_n C dX12_worth_0 rfl ?_
  obtain ⟨q1, hf⟩ := gf_s hf
  refine r_gf C ct12 (j := 1) (ji := 1) dX12_worth_1 q1 rfl rfl (by decide) w_1426 rfl (fun c1 => ?_)
  refine r_sipush C dX12_worth_4 rfl ?_
  refine r_iload_n C dX12_worth_7 rfl ?_
  refine r_iadd C dX12_worth_8 ?_
  obtain ⟨q2, hf⟩ := rd_s hf
  refine r_iald C dX12_worth_9 q2 rfl (fun c2 => ?_)
  rcases ite_s hf with ⟨n3, hf⟩ | ⟨n3, hf⟩
  · refine r_tsw C dX12_worth_10 (tgt := 44) c2 n3 rfl rfl (by decide) ?_
    refine r_bipush C dX12_worth_44 rfl ?_
    refine r_aload_n C dX12_worth_46 rfl ?_
    obtain ⟨q4, hf⟩ := gf_s hf
    refine r_gf C ct12 (j := 1) (ji := 1) dX12_worth_47 q4 rfl rfl (by decide) w_1426 rfl (fun c4 => ?_)
    refine r_sipush C dX12_worth_50 rfl ?_
    refine r_iload_n C dX12_worth_53 rfl ?_
    refine r_iadd C dX12_worth_54 ?_
    obtain ⟨q5, hf⟩ := rd_s hf
    refine r_iald C dX12_worth_55 q5 rfl (fun c5 => ?_)
    refine r_iadd C dX12_worth_56 ?_
    cases hf
    exact r_jret C hr dX12_worth_57 (in32_t _)
  rcases ite_s hf with ⟨n6, hf⟩ | ⟨n6, hf⟩
  · refine r_tsw C dX12_worth_10 (tgt := 58) c2 n6 rfl rfl (by decide) ?_
    refine r_bipush C dX12_worth_58 rfl ?_
    refine r_aload_n C dX12_worth_60 rfl ?_
    obtain ⟨q7, hf⟩ := gf_s hf
    refine r_gf C ct12 (j := 1) (ji := 1) dX12_worth_61 q7 rfl rfl (by decide) w_1426 rfl (fun c7 => ?_)
    refine r_sipush C dX12_worth_64 rfl ?_
    refine r_aload_n C dX12_worth_67 rfl ?_
    obtain ⟨q8, hf⟩ := gf_s hf
    refine r_gf C ct12 (j := 1) (ji := 1) dX12_worth_68 q8 rfl rfl (by decide) w_1426 rfl (fun c8 => ?_)
    refine r_sipush C dX12_worth_71 rfl ?_
    refine r_iload_n C dX12_worth_74 rfl ?_
    refine r_iadd C dX12_worth_75 ?_
    obtain ⟨q9, hf⟩ := rd_s hf
    refine r_iald C dX12_worth_76 q9 rfl (fun c9 => ?_)
    refine r_iadd C dX12_worth_77 ?_
    obtain ⟨q10, hf⟩ := rd_s hf
    refine r_iald C dX12_worth_78 q10 rfl (fun c10 => ?_)
    refine r_iadd C dX12_worth_79 ?_
    refine r_aload_n C dX12_worth_80 rfl ?_
    obtain ⟨q11, hf⟩ := gf_s hf
    refine r_gf C ct12 (j := 1) (ji := 1) dX12_worth_81 q11 rfl rfl (by decide) w_1426 rfl (fun c11 => ?_)
    refine r_sipush C dX12_worth_84 rfl ?_
    refine r_iload_n C dX12_worth_87 rfl ?_
    refine r_iadd C dX12_worth_88 ?_
    obtain ⟨q12, hf⟩ := rd_s hf
    refine r_iald C dX12_worth_89 q12 rfl (fun c12 => ?_)
    refine r_iadd C dX12_worth_90 ?_
    cases hf
    exact r_jret C hr dX12_worth_91 (in32_t _)
  rcases ite_s hf with ⟨n13, hf⟩ | ⟨n13, hf⟩
  · refine r_tsw C dX12_worth_10 (tgt := 92) c2 n13 rfl rfl (by decide) ?_
    refine r_iconst C dX12_worth_92 ?_
    refine r_aload_n C dX12_worth_93 rfl ?_
    refine r_aload_n C dX12_worth_94 rfl ?_
    obtain ⟨q14, hf⟩ := gf_s hf
    refine r_gf C ct12 (j := 1) (ji := 1) dX12_worth_95 q14 rfl rfl (by decide) w_1426 rfl (fun c14 => ?_)
    refine r_sipush C dX12_worth_98 rfl ?_
    refine r_iload_n C dX12_worth_101 rfl ?_
    refine r_iadd C dX12_worth_102 ?_
    obtain ⟨q15, hf⟩ := rd_s hf
    refine r_iald C dX12_worth_103 q15 rfl (fun c15 => ?_)
    obtain ⟨p16, hf⟩ := gk_s hf
    obtain ⟨r16, h16, hq16, hf⟩ := bd_s hf
    refine r_cV1 C A_X12_worth cm_X12_worth w_1733 dX12_worth_104 ⟨by omega, by omega⟩ p16 rfl c15 rfl (Nat.le_of_ble_eq_true rfl) hq16 (by decide) (fun c16 => ?_)
    have c16 : in32 _ := c16
    refine r_imul C dX12_worth_107 ?_
    cases hf
    exact r_jret C hr dX12_worth_108 (in32_t _)
  rcases ite_s hf with ⟨n17, hf⟩ | ⟨n17, hf⟩
  · refine r_tsw C dX12_worth_10 (tgt := 109) c2 n17 rfl rfl (by decide) ?_
    refine r_iconst C dX12_worth_109 ?_
    refine r_aload_n C dX12_worth_110 rfl ?_
    obtain ⟨q18, hf⟩ := gf_s hf
    refine r_gf C ct12 (j := 1) (ji := 1) dX12_worth_111 q18 rfl rfl (by decide) w_1426 rfl (fun c18 => ?_)
    refine r_sipush C dX12_worth_114 rfl ?_
    refine r_iload_n C dX12_worth_117 rfl ?_
    refine r_iadd C dX12_worth_118 ?_
    obtain ⟨q19, hf⟩ := rd_s hf
    refine r_iald C dX12_worth_119 q19 rfl (fun c19 => ?_)
    refine r_iadd C dX12_worth_120 ?_
    cases hf
    exact r_jret C hr dX12_worth_121 (in32_t _)
  rcases ite_s hf with ⟨n20, hf⟩ | ⟨n20, hf⟩
  · refine r_tsw C dX12_worth_10 (tgt := 122) c2 n20 rfl rfl (by decide) ?_
    refine r_iconst C dX12_worth_122 ?_
    refine r_iconst C dX12_worth_123 ?_
    refine r_aload_n C dX12_worth_124 rfl ?_
    obtain ⟨q21, hf⟩ := gf_s hf
    refine r_gf C ct12 (j := 1) (ji := 1) dX12_worth_125 q21 rfl rfl (by decide) w_1426 rfl (fun c21 => ?_)
    refine r_sipush C dX12_worth_128 rfl ?_
    refine r_iload_n C dX12_worth_131 rfl ?_
    refine r_iadd C dX12_worth_132 ?_
    obtain ⟨q22, hf⟩ := rd_s hf
    refine r_iald C dX12_worth_133 q22 rfl (fun c22 => ?_)
    refine r_iadd C dX12_worth_134 ?_
    refine r_imul C dX12_worth_135 ?_
    refine r_iconst C dX12_worth_136 ?_
    refine r_isub C dX12_worth_137 ?_
    cases hf
    exact r_jret C hr dX12_worth_138 (in32_t _)
  refine r_tswd C dX12_worth_10 (tgt := 139) c2 (by omega) (by decide) ?_
  refine r_iconst C dX12_worth_139 ?_
  refine r_aload_n C dX12_worth_140 rfl ?_
  obtain ⟨q23, hf⟩ := gf_s hf
  refine r_gf C ct12 (j := 1) (ji := 1) dX12_worth_141 q23 rfl rfl (by decide) w_1426 rfl (fun c23 => ?_)
  refine r_sipush C dX12_worth_144 rfl ?_
  refine r_iload_n C dX12_worth_147 rfl ?_
  refine r_iadd C dX12_worth_148 ?_
  obtain ⟨q24, hf⟩ := rd_s hf
  refine r_iald C dX12_worth_149 q24 rfl (fun c24 => ?_)
  refine r_iadd C dX12_worth_150 ?_
  cases hf
  exact r_jret C hr dX12_worth_151 (in32_t _)
set_option maxRecDepth 20000 in
theorem at_t_X12_worth (l : Launch) (n : Nat) : ∀ k : Nat, AM l yX12_worth cX12_worth 2 (some .int) (1 * k) (21 * k) [2, 0] 0 (un2 ((t_X12_worth n k))) := by
  intro k
  induction k with
  | zero =>
    exact AM.none (fun xs h Z hx q => by
      obtain ⟨a0, a1, rfl, c0, c1⟩ := canL_2 hx
      cases q)
  | succ k ih =>
    have i_X12_worth := ih
    exact AM.intro (by decide) (fun xs hx => by
      obtain ⟨a0, a1, rfl, c0, c1⟩ := canL_2 hx
      exact Nat.le_of_ble_eq_true rfl) (fun g xs h Z hl C hr hx hf => by
      subst hl
      obtain ⟨a0, a1, rfl, c0, c1⟩ := canL_2 hx
      exact e_X12_worth (n := n) i_X12_worth C hr c0 c1 hf)
set_option maxRecDepth 20000 in
theorem am_X12_worth (l : Launch) (n : Nat) : AM l yX12_worth cX12_worth 2 (some .int) 4 84 [2, 0] 0 (un2 (f_X12_worth n)) := (at_t_X12_worth l n 4)
/-! java/util/Arrays.copyOf([II)[I -/
theorem dJ7_copyOf_59c91_0 : decode cJ7_copyOf_59c91 0 = .ok (.iload_n 1, 1) := by decide +kernel
theorem dJ7_copyOf_59c91_1 : decode cJ7_copyOf_59c91 1 = .ok (.aload_n 0, 1) := by decide +kernel
theorem dJ7_copyOf_59c91_2 : decode cJ7_copyOf_59c91 2 = .ok (.arraylength, 1) := by decide +kernel
theorem dJ7_copyOf_59c91_3 : decode cJ7_copyOf_59c91 3 = .ok (.if_icmp .ne 11, 3) := by decide +kernel
theorem dJ7_copyOf_59c91_6 : decode cJ7_copyOf_59c91 6 = .ok (.aload_n 0, 1) := by decide +kernel
theorem dJ7_copyOf_59c91_7 : decode cJ7_copyOf_59c91 7 = .ok (.invokevirtual 316, 3) := by decide +kernel
theorem dJ7_copyOf_59c91_10 : decode cJ7_copyOf_59c91 10 = .ok (.checkcast 317, 3) := by decide +kernel
theorem dJ7_copyOf_59c91_13 : decode cJ7_copyOf_59c91 13 = .ok (.areturn, 1) := by decide +kernel
theorem dJ7_copyOf_59c91_14 : decode cJ7_copyOf_59c91 14 = .ok (.iload_n 1, 1) := by decide +kernel
theorem dJ7_copyOf_59c91_15 : decode cJ7_copyOf_59c91 15 = .ok (.newarray .int, 2) := by decide +kernel
theorem dJ7_copyOf_59c91_17 : decode cJ7_copyOf_59c91 17 = .ok (.astore_n 2, 1) := by decide +kernel
theorem dJ7_copyOf_59c91_18 : decode cJ7_copyOf_59c91 18 = .ok (.aload_n 0, 1) := by decide +kernel
theorem dJ7_copyOf_59c91_19 : decode cJ7_copyOf_59c91 19 = .ok (.iconst 0, 1) := by decide +kernel
theorem dJ7_copyOf_59c91_20 : decode cJ7_copyOf_59c91 20 = .ok (.aload_n 2, 1) := by decide +kernel
theorem dJ7_copyOf_59c91_21 : decode cJ7_copyOf_59c91 21 = .ok (.iconst 0, 1) := by decide +kernel
theorem dJ7_copyOf_59c91_22 : decode cJ7_copyOf_59c91 22 = .ok (.aload_n 0, 1) := by decide +kernel
theorem dJ7_copyOf_59c91_23 : decode cJ7_copyOf_59c91 23 = .ok (.arraylength, 1) := by decide +kernel
theorem dJ7_copyOf_59c91_24 : decode cJ7_copyOf_59c91 24 = .ok (.iload_n 1, 1) := by decide +kernel
theorem dJ7_copyOf_59c91_25 : decode cJ7_copyOf_59c91 25 = .ok (.invokestatic 304, 3) := by decide +kernel
theorem dJ7_copyOf_59c91_28 : decode cJ7_copyOf_59c91 28 = .ok (.invokestatic 150, 3) := by decide +kernel
theorem dJ7_copyOf_59c91_31 : decode cJ7_copyOf_59c91 31 = .ok (.aload_n 2, 1) := by decide +kernel
theorem dJ7_copyOf_59c91_32 : decode cJ7_copyOf_59c91 32 = .ok (.areturn, 1) := by decide +kernel
theorem cm_J7_copyOf_59c91 : CMs yJ7_copyOf_59c91 cJ7_copyOf_59c91 3 (some (.array .int)) 2 := ⟨w_829, w_830, w_99, ⟨by decide +kernel, by decide +kernel, by decide +kernel⟩⟩
noncomputable def f_J7_copyOf_59c91 (n : Nat) (v0 v1 : Int) (h : MM) : RR :=
  al h v0 100 fun r1 =>
  if v1 = r1 then
    cln h 100 v0 fun r6 h6 =>
    gk2 h6 r6 100 <|
    some (r6, h6)
  else
  na h 100 v1 fun r3 h3 =>
  al h3 v0 100 fun r4 =>
  ac h3 100 v0 0 r3 0 (jmin r4 v1) fun h5 =>
  some (r3, h5)
set_option maxRecDepth 20000 in
theorem e_J7_copyOf_59c91 {g : GT} {Z : Int × MM} {n : Nat} (C : Cx g cJ7_copyOf_59c91 3 yJ7_copyOf_59c91 1 60) (hr : Rt g (some (.array .int)) 2 Z) {v0 v1 : Int} (cv0 : cK 2 v0) (cv1 : cK 0 v1) {h : MM} (hf : f_J7_copyOf_59c91 n v0 v1 h = some Z) : G g 0 [(2, v0), (0, v1), (3, 0)] [] h := by
  have cv1 : in32 v1 := cv1
  unfold f_J7_copyOf_59c91 at hf
  refine r_iload_n C dJ7_copyOf_59c91_0 rfl ?_
  refine r_aload_n C dJ7_copyOf_59c91_1 rfl ?_
  obtain ⟨q1, hf⟩ := al_s hf
  refine r_alen C (tn := 100) dJ7_copyOf_59c91_2 q1 rfl (by decide) (fun c1 _ => ?_)
  refine r_icmp_ne C dJ7_copyOf_59c91_3 (tgt := 14) (by decide) cv1 c1 (fun n2 => ?_) (fun n2 => ?_)
  · have hf := ite_n n2 hf
    refine r_iload_n C dJ7_copyOf_59c91_14 rfl ?_
    obtain ⟨q3, hf⟩ := na_s hf
    refine r_na C (tn := 100) dJ7_copyOf_59c91_15 q3 rfl (by decide) (by decide) w_156 ?_
    refine r_astore_n C dJ7_copyOf_59c91_17 (Nat.le_of_ble_eq_true rfl) rfl ?_
    refine r_aload_n C dJ7_copyOf_59c91_18 rfl ?_
    refine r_iconst C dJ7_copyOf_59c91_19 ?_
    refine r_aload_n C dJ7_copyOf_59c91_20 rfl ?_
    refine r_iconst C dJ7_copyOf_59c91_21 ?_
    refine r_aload_n C dJ7_copyOf_59c91_22 rfl ?_
    obtain ⟨q4, hf⟩ := al_s hf
    refine r_alen C (tn := 100) dJ7_copyOf_59c91_23 q4 rfl (by decide) (fun c4 _ => ?_)
    refine r_iload_n C dJ7_copyOf_59c91_24 rfl ?_
    refine r_mmin C dJ7_copyOf_59c91_25 w_523 ⟨Nat.le_of_ble_eq_true rfl, Nat.le_of_ble_eq_true rfl⟩ rfl c4 cv1 ?_
    obtain ⟨q5, hf⟩ := ac_s hf
    refine r_acopy C (t := 100) dJ7_copyOf_59c91_28 q5 rfl (by decide) (by decide) w_526 wa1 wa2 wa3 ⟨Nat.le_of_ble_eq_true rfl, by decide⟩ rfl ?_
    refine r_aload_n C dJ7_copyOf_59c91_31 rfl ?_
    cases hf
    exact r_aret C hr dJ7_copyOf_59c91_32 (Or.inr ⟨_, rfl⟩)
  · have hf := ite_p n2 hf
    refine r_aload_n C dJ7_copyOf_59c91_6 rfl ?_
    obtain ⟨q6, hf⟩ := cln_s hf
    refine r_aclone C (t := 100) dJ7_copyOf_59c91_7 q6 rfl (by decide) (by decide) rfl w_831 wc100a wc1 wc2 wc100b C.hK.2.2.2.2.2.2.2.2.2.1 ⟨Nat.le_of_ble_eq_true rfl, Nat.le_of_ble_eq_true rfl⟩ rfl ?_
    obtain ⟨p7, hf⟩ := gk2_s hf
    refine r_ccast C (t := 100) dJ7_copyOf_59c91_10 w_835 p7 rfl (by decide) (by decide) rfl ?_
    cases hf
    exact r_aret C hr dJ7_copyOf_59c91_13 (Or.inr ⟨_, rfl⟩)
set_option maxRecDepth 20000 in
theorem am_J7_copyOf_59c91 (l : Launch) (n : Nat) : AM l yJ7_copyOf_59c91 cJ7_copyOf_59c91 3 (some (.array .int)) 1 60 [2, 0] 2 (un2 (f_J7_copyOf_59c91 n)) := by
  refine AM.intro (by decide) (fun xs hx => ?_) (fun g xs h Z hl C hr hx hf => ?_)
  · obtain ⟨a0, a1, rfl, c0, c1⟩ := canL_2 hx
    exact Nat.le_of_ble_eq_true rfl
  · obtain ⟨a0, a1, rfl, c0, c1⟩ := canL_2 hx
    have hf := (un2_e _ a0 a1 _).symm.trans hf
    exact e_J7_copyOf_59c91 (n := n) C hr c0 c1 hf
/-! java/util/Arrays.copyOf([BI)[B -/
theorem dJ7_copyOf_9075b_0 : decode cJ7_copyOf_9075b 0 = .ok (.iload_n 1, 1) := by decide +kernel
theorem dJ7_copyOf_9075b_1 : decode cJ7_copyOf_9075b 1 = .ok (.aload_n 0, 1) := by decide +kernel
theorem dJ7_copyOf_9075b_2 : decode cJ7_copyOf_9075b 2 = .ok (.arraylength, 1) := by decide +kernel
theorem dJ7_copyOf_9075b_3 : decode cJ7_copyOf_9075b 3 = .ok (.if_icmp .ne 11, 3) := by decide +kernel
theorem dJ7_copyOf_9075b_6 : decode cJ7_copyOf_9075b 6 = .ok (.aload_n 0, 1) := by decide +kernel
theorem dJ7_copyOf_9075b_7 : decode cJ7_copyOf_9075b 7 = .ok (.invokevirtual 310, 3) := by decide +kernel
theorem dJ7_copyOf_9075b_10 : decode cJ7_copyOf_9075b 10 = .ok (.checkcast 311, 3) := by decide +kernel
theorem dJ7_copyOf_9075b_13 : decode cJ7_copyOf_9075b 13 = .ok (.areturn, 1) := by decide +kernel
theorem dJ7_copyOf_9075b_14 : decode cJ7_copyOf_9075b 14 = .ok (.iload_n 1, 1) := by decide +kernel
theorem dJ7_copyOf_9075b_15 : decode cJ7_copyOf_9075b 15 = .ok (.newarray .byte, 2) := by decide +kernel
theorem dJ7_copyOf_9075b_17 : decode cJ7_copyOf_9075b 17 = .ok (.astore_n 2, 1) := by decide +kernel
theorem dJ7_copyOf_9075b_18 : decode cJ7_copyOf_9075b 18 = .ok (.aload_n 0, 1) := by decide +kernel
theorem dJ7_copyOf_9075b_19 : decode cJ7_copyOf_9075b 19 = .ok (.iconst 0, 1) := by decide +kernel
theorem dJ7_copyOf_9075b_20 : decode cJ7_copyOf_9075b 20 = .ok (.aload_n 2, 1) := by decide +kernel
theorem dJ7_copyOf_9075b_21 : decode cJ7_copyOf_9075b 21 = .ok (.iconst 0, 1) := by decide +kernel
theorem dJ7_copyOf_9075b_22 : decode cJ7_copyOf_9075b 22 = .ok (.aload_n 0, 1) := by decide +kernel
theorem dJ7_copyOf_9075b_23 : decode cJ7_copyOf_9075b 23 = .ok (.arraylength, 1) := by decide +kernel
theorem dJ7_copyOf_9075b_24 : decode cJ7_copyOf_9075b 24 = .ok (.iload_n 1, 1) := by decide +kernel
theorem dJ7_copyOf_9075b_25 : decode cJ7_copyOf_9075b 25 = .ok (.invokestatic 304, 3) := by decide +kernel
theorem dJ7_copyOf_9075b_28 : decode cJ7_copyOf_9075b 28 = .ok (.invokestatic 150, 3) := by decide +kernel
theorem dJ7_copyOf_9075b_31 : decode cJ7_copyOf_9075b 31 = .ok (.aload_n 2, 1) := by decide +kernel
theorem dJ7_copyOf_9075b_32 : decode cJ7_copyOf_9075b 32 = .ok (.areturn, 1) := by decide +kernel
theorem cm_J7_copyOf_9075b : CMs yJ7_copyOf_9075b cJ7_copyOf_9075b 3 (some (.array .byte)) 2 := ⟨w_514, w_515, w_99, ⟨by decide +kernel, by decide +kernel, by decide +kernel⟩⟩
noncomputable def f_J7_copyOf_9075b (n : Nat) (v0 v1 : Int) (h : MM) : RR :=
  al h v0 102 fun r1 =>
  if v1 = r1 then
    cln h 102 v0 fun r6 h6 =>
    gk2 h6 r6 102 <|
    some (r6, h6)
  else
  na h 102 v1 fun r3 h3 =>
  al h3 v0 102 fun r4 =>
  ac h3 102 v0 0 r3 0 (jmin r4 v1) fun h5 =>
  some (r3, h5)
set_option maxRecDepth 20000 in
theorem e_J7_copyOf_9075b {g : GT} {Z : Int × MM} {n : Nat} (C : Cx g cJ7_copyOf_9075b 3 yJ7_copyOf_9075b 1 60) (hr : Rt g (some (.array .byte)) 2 Z) {v0 v1 : Int} (cv0 : cK 2 v0) (cv1 : cK 0 v1) {h : MM} (hf : f_J7_copyOf_9075b n v0 v1 h = some Z) : G g 0 [(2, v0), (0, v1), (3, 0)] [] h := by
  have cv1 : in32 v1 := cv1
  unfold f_J7_copyOf_9075b at hf
  refine r_iload_n C dJ7_copyOf_9075b_0 rfl ?_
  refine r_aload_n C dJ7_copyOf_9075b_1 rfl ?_
  obtain ⟨q1, hf⟩ := al_s hf
  refine r_alen C (tn := 102) dJ7_copyOf_9075b_2 q1 rfl (by decide) (fun c1 _ => ?_)
  refine r_icmp_ne C dJ7_copyOf_9075b_3 (tgt := 14) (by decide) cv1 c1 (fun n2 => ?_) (fun n2 => ?_)
  · have hf := ite_n n2 hf
    refine r_iload_n C dJ7_copyOf_9075b_14 rfl ?_
    obtain ⟨q3, hf⟩ := na_s hf
    refine r_na C (tn := 102) dJ7_copyOf_9075b_15 q3 rfl (by decide) (by decide) w_297 ?_
    refine r_astore_n C dJ7_copyOf_9075b_17 (Nat.le_of_ble_eq_true rfl) rfl ?_
    refine r_aload_n C dJ7_copyOf_9075b_18 rfl ?_
    refine r_iconst C dJ7_copyOf_9075b_19 ?_
    refine r_aload_n C dJ7_copyOf_9075b_20 rfl ?_
    refine r_iconst C dJ7_copyOf_9075b_21 ?_
    refine r_aload_n C dJ7_copyOf_9075b_22 rfl ?_
    obtain ⟨q4, hf⟩ := al_s hf
    refine r_alen C (tn := 102) dJ7_copyOf_9075b_23 q4 rfl (by decide) (fun c4 _ => ?_)
    refine r_iload_n C dJ7_copyOf_9075b_24 rfl ?_
    refine r_mmin C dJ7_copyOf_9075b_25 w_523 ⟨Nat.le_of_ble_eq_true rfl, Nat.le_of_ble_eq_true rfl⟩ rfl c4 cv1 ?_
    obtain ⟨q5, hf⟩ := ac_s hf
    refine r_acopy C (t := 102) dJ7_copyOf_9075b_28 q5 rfl (by decide) (by decide) w_526 wa1 wa2 wa3 ⟨Nat.le_of_ble_eq_true rfl, by decide⟩ rfl ?_
    refine r_aload_n C dJ7_copyOf_9075b_31 rfl ?_
    cases hf
    exact r_aret C hr dJ7_copyOf_9075b_32 (Or.inr ⟨_, rfl⟩)
  · have hf := ite_p n2 hf
    refine r_aload_n C dJ7_copyOf_9075b_6 rfl ?_
    obtain ⟨q6, hf⟩ := cln_s hf
    refine r_aclone C (t := 102) dJ7_copyOf_9075b_7 q6 rfl (by decide) (by decide) rfl w_516 wc102a wc1 wc2 wc102b C.hK.2.2.2.2.2.2.2.2.1 ⟨Nat.le_of_ble_eq_true rfl, Nat.le_of_ble_eq_true rfl⟩ rfl ?_
    obtain ⟨p7, hf⟩ := gk2_s hf
    refine r_ccast C (t := 102) dJ7_copyOf_9075b_10 w_522 p7 rfl (by decide) (by decide) rfl ?_
    cases hf
    exact r_aret C hr dJ7_copyOf_9075b_13 (Or.inr ⟨_, rfl⟩)
set_option maxRecDepth 20000 in
theorem am_J7_copyOf_9075b (l : Launch) (n : Nat) : AM l yJ7_copyOf_9075b cJ7_copyOf_9075b 3 (some (.array .byte)) 1 60 [2, 0] 2 (un2 (f_J7_copyOf_9075b n)) := by
  refine AM.intro (by decide) (fun xs hx => ?_) (fun g xs h Z hl C hr hx hf => ?_)
  · obtain ⟨a0, a1, rfl, c0, c1⟩ := canL_2 hx
    exact Nat.le_of_ble_eq_true rfl
  · obtain ⟨a0, a1, rfl, c0, c1⟩ := canL_2 hx
    have hf := (un2_e _ a0 a1 _).symm.trans hf
    exact e_J7_copyOf_9075b (n := n) C hr c0 c1 hf
/-! java/util/Arrays.fill([II)V -/
theorem dJ7_fill_53178_0 : decode cJ7_fill_53178 0 = .ok (.iconst 0, 1) := by decide +kernel
theorem dJ7_fill_53178_1 : decode cJ7_fill_53178 1 = .ok (.istore_n 2, 1) := by decide +kernel
theorem dJ7_fill_53178_2 : decode cJ7_fill_53178 2 = .ok (.aload_n 0, 1) := by decide +kernel
theorem dJ7_fill_53178_3 : decode cJ7_fill_53178 3 = .ok (.arraylength, 1) := by decide +kernel
theorem dJ7_fill_53178_4 : decode cJ7_fill_53178 4 = .ok (.istore_n 3, 1) := by decide +kernel
theorem dJ7_fill_53178_5 : decode cJ7_fill_53178 5 = .ok (.iload_n 2, 1) := by decide +kernel
theorem dJ7_fill_53178_6 : decode cJ7_fill_53178 6 = .ok (.iload_n 3, 1) := by decide +kernel
theorem dJ7_fill_53178_7 : decode cJ7_fill_53178 7 = .ok (.if_icmp .ge 13, 3) := by decide +kernel
theorem dJ7_fill_53178_10 : decode cJ7_fill_53178 10 = .ok (.aload_n 0, 1) := by decide +kernel
theorem dJ7_fill_53178_11 : decode cJ7_fill_53178 11 = .ok (.iload_n 2, 1) := by decide +kernel
theorem dJ7_fill_53178_12 : decode cJ7_fill_53178 12 = .ok (.iload_n 1, 1) := by decide +kernel
theorem dJ7_fill_53178_13 : decode cJ7_fill_53178 13 = .ok (.iastore, 1) := by decide +kernel
theorem dJ7_fill_53178_14 : decode cJ7_fill_53178 14 = .ok (.iinc 2 1, 3) := by decide +kernel
theorem dJ7_fill_53178_17 : decode cJ7_fill_53178 17 = .ok (.goto (-12), 3) := by decide +kernel
theorem dJ7_fill_53178_20 : decode cJ7_fill_53178 20 = .ok (.return_, 1) := by decide +kernel
theorem cm_J7_fill_53178 : CMs yJ7_fill_53178 cJ7_fill_53178 4 none 2 := ⟨w_530, w_531, w_99, ⟨by decide +kernel, by decide +kernel, by decide +kernel⟩⟩
noncomputable def f_J7_fill_53178_5b (n : Nat) (rec5 : Int → MM → RR) (v0 v1 v2 v3 : Int) (h : MM) : RR :=
  if v3 ≤ v2 then
    some (0, h)
  else
  wt h v0 100 v2 v1 fun h2 =>
  lb (wr (v2 + 1)) fun x3 =>
  rec5 x3 h2
noncomputable def f_J7_fill_53178_5 (n : Nat)  (v0 v1 v3 : Int) : Nat → Int → MM → RR
  | 0, _, _ => none
  | k + 1, v2, h => f_J7_fill_53178_5b n  (f_J7_fill_53178_5 n  v0 v1 v3 k) v0 v1 v2 v3 h
noncomputable def f_J7_fill_53178 (n : Nat) (v0 v1 : Int) (h : MM) : RR :=
  al h v0 100 fun r1 =>
  f_J7_fill_53178_5 n v0 v1 r1 n 0 h
set_option maxRecDepth 20000 in
theorem b_J7_fill_53178_5b {g : GT} {Z : Int × MM} {n : Nat} (C : Cx g cJ7_fill_53178 4 yJ7_fill_53178 0 0) (hr : Rt g none 3 Z) {v0 v1 v2 v3 : Int}  {rec5 : Int → MM → RR} (L5 : ∀ (u2 : Int) (h : MM), in32 u2 → rec5 u2 h = some Z → G g 5 [(2, v0), (0, v1), (0, u2), (0, v3)] [] h) (cv1 : in32 v1) (cv2 : in32 v2) (cv3 : in32 v3) {h : MM} (hf : f_J7_fill_53178_5b n rec5 v0 v1 v2 v3 h = some Z) : G g 5 [(2, v0), (0, v1), (0, v2), (0, v3)] [] h := by
  unfold f_J7_fill_53178_5b at hf
  refine r_iload_n C dJ7_fill_53178_5 rfl ?_
  refine r_iload_n C dJ7_fill_53178_6 rfl ?_
  refine r_icmp_ge C dJ7_fill_53178_7 (tgt := 20) (by decide) cv2 cv3 (fun n1 => ?_) (fun n1 => ?_)
  · have hf := ite_p n1 hf
    cases hf
    exact r_vret C hr dJ7_fill_53178_20
  · have hf := ite_n n1 hf
    refine r_aload_n C dJ7_fill_53178_10 rfl ?_
    refine r_iload_n C dJ7_fill_53178_11 rfl ?_
    refine r_iload_n C dJ7_fill_53178_12 rfl ?_
    obtain ⟨q2, hf⟩ := wt_s hf
    refine r_iast C dJ7_fill_53178_13 q2 rfl cv1 ?_
    obtain ⟨x3, e3, hf⟩ := lb_s hf
    have c3 : in32 x3 := by rw [e3]; exact (in32_t _)
    refine r_iincL C dJ7_fill_53178_14 rfl e3 (Nat.le_of_ble_eq_true rfl) rfl ?_
    refine r_goto C dJ7_fill_53178_17 (tgt := 5) (by decide) ?_
    exact G.mask [true, true, true, true] rfl rfl (L5 _ _ c3 hf)
set_option maxRecDepth 20000 in
theorem l_J7_fill_53178_5 {g : GT} {Z : Int × MM} {n : Nat} (C : Cx g cJ7_fill_53178 4 yJ7_fill_53178 0 0) (hr : Rt g none 3 Z) {v0 v1 v3 : Int}   (cv1 : in32 v1) (cv3 : in32 v3) : ∀ (k : Nat) (v2 : Int) (h : MM), in32 v2 → f_J7_fill_53178_5 n  v0 v1 v3 k v2 h = some Z → G g 5 [(2, v0), (0, v1), (0, v2), (0, v3)] [] h := by
  intro k
  induction k with
  | zero => intro v2 h cv2 hf; exact absurd hf (by intro z; cases z)
  | succ k ih => intro v2 h cv2 hf; exact b_J7_fill_53178_5b C hr (rec5 := f_J7_fill_53178_5 n  v0 v1 v3 k)  ih cv1 cv2 cv3 (show f_J7_fill_53178_5b n  (f_J7_fill_53178_5 n  v0 v1 v3 k) v0 v1 v2 v3 h = some Z from hf)
set_option maxRecDepth 20000 in
theorem e_J7_fill_53178 {g : GT} {Z : Int × MM} {n : Nat} (C : Cx g cJ7_fill_53178 4 yJ7_fill_53178 0 0) (hr : Rt g none 3 Z) {v0 v1 : Int} (cv0 : cK 2 v0) (cv1 : cK 0 v1) {h : MM} (hf : f_J7_fill_53178 n v0 v1 h = some Z) : G g 0 [(2, v0), (0, v1), (3, 0), (3, 0)] [] h := by
  have cv1 : in32 v1 := cv1
  unfold f_J7_fill_53178 at hf
  refine r_iconst C dJ7_fill_53178_0 ?_
  refine r_istore_n C dJ7_fill_53178_1 (Nat.le_of_ble_eq_true rfl) rfl ?_
  refine r_aload_n C dJ7_fill_53178_2 rfl ?_
  obtain ⟨q1, hf⟩ := al_s hf
  refine r_alen C (tn := 100) dJ7_fill_53178_3 q1 rfl (by decide) (fun c1 _ => ?_)
  refine r_istore_n C dJ7_fill_53178_4 (Nat.le_of_ble_eq_true rfl) rfl ?_
  exact G.mask [true, true, true, true] rfl rfl (l_J7_fill_53178_5 C hr  cv1 c1 _ _ _ (in32_of rfl) hf)
set_option maxRecDepth 20000 in
theorem am_J7_fill_53178 (l : Launch) (n : Nat) : AM l yJ7_fill_53178 cJ7_fill_53178 4 none 0 0 [2, 0] 3 (un2 (f_J7_fill_53178 n)) := by
  refine AM.intro (by decide) (fun xs hx => ?_) (fun g xs h Z hl C hr hx hf => ?_)
  · obtain ⟨a0, a1, rfl, c0, c1⟩ := canL_2 hx
    exact Nat.le_of_ble_eq_true rfl
  · obtain ⟨a0, a1, rfl, c0, c1⟩ := canL_2 hx
    have hf := (un2_e _ a0 a1 _).symm.trans hf
    exact e_J7_fill_53178 (n := n) C hr c0 c1 hf
