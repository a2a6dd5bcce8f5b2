theorem w_1514 : (Cond.code ⟨"LinesPromisedModel", "man", "(I)I"⟩ prog_14_method_13_code 3 (some .int)) ∈ wG := wG_in 1514 (by decide +kernel) (by decide +kernel)
theorem w_1512 : (Cond.instanceMethod ⟨"LinesPromisedModel", "man", "(I)I"⟩) ∈ wG := wG_in 1512 (by decide +kernel) (by decide +kernel)
theorem w_1513 : (Cond.selects "LinesPromisedModel" ⟨"LinesPromisedModel", "man", "(I)I"⟩ ⟨"LinesPromisedModel", "man", "(I)I"⟩) ∈ wG := wG_in 1513 (by decide +kernel) (by decide +kernel)
theorem w_1519 : (Cond.constantLong "LinesPromisedModel" 73 (i64 255)) ∈ wG := wG_in 1519 (by decide +kernel) (by decide +kernel)
theorem w_1518 : (Cond.code ⟨"LinesPromisedModel", "feed", "(JI)I"⟩ prog_14_method_14_code 5 (some .int)) ∈ wG := wG_in 1518 (by decide +kernel) (by decide +kernel)
theorem w_1516 : (Cond.instanceMethod ⟨"LinesPromisedModel", "feed", "(JI)I"⟩) ∈ wG := wG_in 1516 (by decide +kernel) (by decide +kernel)
theorem w_1517 : (Cond.selects "LinesPromisedModel" ⟨"LinesPromisedModel", "feed", "(JI)I"⟩ ⟨"LinesPromisedModel", "feed", "(JI)I"⟩) ∈ wG := wG_in 1517 (by decide +kernel) (by decide +kernel)
theorem w_1526 : (Cond.code ⟨"LinesPromisedModel", "isDay", "(I)Z"⟩ prog_14_method_7_code 1 (some .boolean)) ∈ wG := wG_in 1526 (by decide +kernel) (by decide +kernel)
theorem w_1525 : (Cond.static ⟨"LinesPromisedModel", "isDay", "(I)Z"⟩) ∈ wG := wG_in 1525 (by decide +kernel) (by decide +kernel)
theorem w_1541 : (Cond.code ⟨"LinesPromisedModel", "word", "(I)Ljava/lang/String;"⟩ prog_14_method_17_code 1 (some (.object "java/lang/String"))) ∈ wG := wG_in 1541 (by decide +kernel) (by decide +kernel)
theorem w_1540 : (Cond.static ⟨"LinesPromisedModel", "word", "(I)Ljava/lang/String;"⟩) ∈ wG := wG_in 1540 (by decide +kernel) (by decide +kernel)
theorem w_1430 : (Cond.fieldLink "LinesPromisedModel" 75 "LinesPromisedModel" "spot" "I") ∈ wG := wG_in 1430 (by decide +kernel) (by decide +kernel)
theorem w_1429 : (Cond.fieldLink "LinesPromisedModel" 78 "LinesPromisedModel" "act" "I") ∈ wG := wG_in 1429 (by decide +kernel) (by decide +kernel)
theorem w_1554 : (Cond.code ⟨"LinesPromisedModel", "here", "()I"⟩ prog_14_method_15_code 1 (some .int)) ∈ wG := wG_in 1554 (by decide +kernel) (by decide +kernel)
theorem w_1553 : (Cond.instanceMethod ⟨"LinesPromisedModel", "here", "()I"⟩) ∈ wG := wG_in 1553 (by decide +kernel) (by decide +kernel)
theorem w_46 : (Cond.selects "LinesPromisedModel" ⟨"LinesPromisedModel", "here", "()I"⟩ ⟨"LinesPromisedModel", "here", "()I"⟩) ∈ wG := wG_in 46 (by decide +kernel) (by decide +kernel)
theorem w_1539 : (Cond.methodLink "LinesPromisedModel" 103 ⟨"LinesPromisedModel", "word", "(I)Ljava/lang/String;"⟩) ∈ wG := wG_in 1539 (by decide +kernel) (by decide +kernel)
theorem w_1549 : (Cond.methodLink "LinesPromisedModel" 107 ⟨"java/lang/String", "length", "()I"⟩) ∈ wG := wG_in 1549 (by decide +kernel) (by decide +kernel)
theorem w_1431 : (Cond.fieldLink "LinesPromisedModel" 81 "LinesPromisedModel" "isWrong" "Z") ∈ wG := wG_in 1431 (by decide +kernel) (by decide +kernel)
theorem w_1550 : (Cond.methodLink "LinesPromisedModel" 112 ⟨"java/lang/String", "charAt", "(I)C"⟩) ∈ wG := wG_in 1550 (by decide +kernel) (by decide +kernel)
theorem w_1551 : (Cond.methodLink "LinesPromisedModel" 85 ⟨"LinesPromisedModel", "here", "()I"⟩) ∈ wG := wG_in 1551 (by decide +kernel) (by decide +kernel)
theorem w_1538 : (Cond.code ⟨"LinesPromisedModel", "oneWord", "()I"⟩ prog_14_method_18_code 5 (some .int)) ∈ wG := wG_in 1538 (by decide +kernel) (by decide +kernel)
theorem w_1537 : (Cond.instanceMethod ⟨"LinesPromisedModel", "oneWord", "()I"⟩) ∈ wG := wG_in 1537 (by decide +kernel) (by decide +kernel)
theorem w_45 : (Cond.selects "LinesPromisedModel" ⟨"LinesPromisedModel", "oneWord", "()I"⟩ ⟨"LinesPromisedModel", "oneWord", "()I"⟩) ∈ wG := wG_in 45 (by decide +kernel) (by decide +kernel)
theorem w_1570 : (Cond.code ⟨"LinesPromisedModel", "must", "(I)V"⟩ prog_14_method_16_code 2 none) ∈ wG := wG_in 1570 (by decide +kernel) (by decide +kernel)
theorem w_1569 : (Cond.instanceMethod ⟨"LinesPromisedModel", "must", "(I)V"⟩) ∈ wG := wG_in 1569 (by decide +kernel) (by decide +kernel)
theorem w_50 : (Cond.selects "LinesPromisedModel" ⟨"LinesPromisedModel", "must", "(I)V"⟩ ⟨"LinesPromisedModel", "must", "(I)V"⟩) ∈ wG := wG_in 50 (by decide +kernel) (by decide +kernel)
theorem w_1574 : (Cond.code ⟨"LinesPromisedModel", "number", "()I"⟩ prog_14_method_19_code 3 (some .int)) ∈ wG := wG_in 1574 (by decide +kernel) (by decide +kernel)
theorem w_1573 : (Cond.instanceMethod ⟨"LinesPromisedModel", "number", "()I"⟩) ∈ wG := wG_in 1573 (by decide +kernel) (by decide +kernel)
theorem w_51 : (Cond.selects "LinesPromisedModel" ⟨"LinesPromisedModel", "number", "()I"⟩ ⟨"LinesPromisedModel", "number", "()I"⟩) ∈ wG := wG_in 51 (by decide +kernel) (by decide +kernel)
theorem w_1432 : (Cond.fieldLink "LinesPromisedModel" 116 "LinesPromisedModel" "open" "I") ∈ wG := wG_in 1432 (by decide +kernel) (by decide +kernel)
theorem w_1567 : (Cond.methodLink "LinesPromisedModel" 125 ⟨"LinesPromisedModel", "must", "(I)V"⟩) ∈ wG := wG_in 1567 (by decide +kernel) (by decide +kernel)
theorem w_1555 : (Cond.methodLink "LinesPromisedModel" 123 ⟨"LinesPromisedModel", "some", "()Z"⟩) ∈ wG := wG_in 1555 (by decide +kernel) (by decide +kernel)
theorem w_1563 : (Cond.methodLink "LinesPromisedModel" 119 ⟨"LinesPromisedModel", "factor", "()Z"⟩) ∈ wG := wG_in 1563 (by decide +kernel) (by decide +kernel)
theorem w_1571 : (Cond.methodLink "LinesPromisedModel" 129 ⟨"LinesPromisedModel", "number", "()I"⟩) ∈ wG := wG_in 1571 (by decide +kernel) (by decide +kernel)
theorem w_1559 : (Cond.methodLink "LinesPromisedModel" 132 ⟨"LinesPromisedModel", "every", "()Z"⟩) ∈ wG := wG_in 1559 (by decide +kernel) (by decide +kernel)
theorem w_1566 : (Cond.code ⟨"LinesPromisedModel", "factor", "()Z"⟩ prog_14_method_20_code 6 (some .boolean)) ∈ wG := wG_in 1566 (by decide +kernel) (by decide +kernel)
theorem w_1565 : (Cond.instanceMethod ⟨"LinesPromisedModel", "factor", "()Z"⟩) ∈ wG := wG_in 1565 (by decide +kernel) (by decide +kernel)
theorem w_49 : (Cond.selects "LinesPromisedModel" ⟨"LinesPromisedModel", "factor", "()Z"⟩ ⟨"LinesPromisedModel", "factor", "()Z"⟩) ∈ wG := wG_in 49 (by decide +kernel) (by decide +kernel)
theorem w_1562 : (Cond.code ⟨"LinesPromisedModel", "every", "()Z"⟩ prog_14_method_21_code 3 (some .boolean)) ∈ wG := wG_in 1562 (by decide +kernel) (by decide +kernel)
theorem w_1561 : (Cond.instanceMethod ⟨"LinesPromisedModel", "every", "()Z"⟩) ∈ wG := wG_in 1561 (by decide +kernel) (by decide +kernel)
theorem w_48 : (Cond.selects "LinesPromisedModel" ⟨"LinesPromisedModel", "every", "()Z"⟩ ⟨"LinesPromisedModel", "every", "()Z"⟩) ∈ wG := wG_in 48 (by decide +kernel) (by decide +kernel)
theorem w_1558 : (Cond.code ⟨"LinesPromisedModel", "some", "()Z"⟩ prog_14_method_22_code 3 (some .boolean)) ∈ wG := wG_in 1558 (by decide +kernel) (by decide +kernel)
theorem w_1557 : (Cond.instanceMethod ⟨"LinesPromisedModel", "some", "()Z"⟩) ∈ wG := wG_in 1557 (by decide +kernel) (by decide +kernel)
theorem w_47 : (Cond.selects "LinesPromisedModel" ⟨"LinesPromisedModel", "some", "()Z"⟩ ⟨"LinesPromisedModel", "some", "()Z"⟩) ∈ wG := wG_in 47 (by decide +kernel) (by decide +kernel)
theorem w_1535 : (Cond.methodLink "LinesPromisedModel" 135 ⟨"LinesPromisedModel", "oneWord", "()I"⟩) ∈ wG := wG_in 1535 (by decide +kernel) (by decide +kernel)
theorem w_1534 : (Cond.code ⟨"LinesPromisedModel", "reads", "(I)V"⟩ prog_14_method_23_code 5 none) ∈ wG := wG_in 1534 (by decide +kernel) (by decide +kernel)
theorem w_1533 : (Cond.instanceMethod ⟨"LinesPromisedModel", "reads", "(I)V"⟩) ∈ wG := wG_in 1533 (by decide +kernel) (by decide +kernel)
theorem w_44 : (Cond.selects "LinesPromisedModel" ⟨"LinesPromisedModel", "reads", "(I)V"⟩ ⟨"LinesPromisedModel", "reads", "(I)V"⟩) ∈ wG := wG_in 44 (by decide +kernel) (by decide +kernel)
theorem w_1531 : (Cond.methodLink "LinesPromisedModel" 138 ⟨"LinesPromisedModel", "reads", "(I)V"⟩) ∈ wG := wG_in 1531 (by decide +kernel) (by decide +kernel)
theorem w_1530 : (Cond.code ⟨"LinesPromisedModel", "readsOrder", "(II)Z"⟩ prog_14_method_24_code 4 (some .boolean)) ∈ wG := wG_in 1530 (by decide +kernel) (by decide +kernel)
theorem w_1529 : (Cond.instanceMethod ⟨"LinesPromisedModel", "readsOrder", "(II)Z"⟩) ∈ wG := wG_in 1529 (by decide +kernel) (by decide +kernel)
theorem w_43 : (Cond.selects "LinesPromisedModel" ⟨"LinesPromisedModel", "readsOrder", "(II)Z"⟩ ⟨"LinesPromisedModel", "readsOrder", "(II)Z"⟩) ∈ wG := wG_in 43 (by decide +kernel) (by decide +kernel)
theorem w_1524 : (Cond.methodLink "LinesPromisedModel" 141 ⟨"LinesPromisedModel", "isDay", "(I)Z"⟩) ∈ wG := wG_in 1524 (by decide +kernel) (by decide +kernel)
theorem w_1527 : (Cond.methodLink "LinesPromisedModel" 144 ⟨"LinesPromisedModel", "readsOrder", "(II)Z"⟩) ∈ wG := wG_in 1527 (by decide +kernel) (by decide +kernel)
theorem w_1523 : (Cond.code ⟨"LinesPromisedModel", "text", "(I)I"⟩ prog_14_method_25_code 2 (some .int)) ∈ wG := wG_in 1523 (by decide +kernel) (by decide +kernel)
theorem w_1521 : (Cond.instanceMethod ⟨"LinesPromisedModel", "text", "(I)I"⟩) ∈ wG := wG_in 1521 (by decide +kernel) (by decide +kernel)
theorem w_1522 : (Cond.selects "LinesPromisedModel" ⟨"LinesPromisedModel", "text", "(I)I"⟩ ⟨"LinesPromisedModel", "text", "(I)I"⟩) ∈ wG := wG_in 1522 (by decide +kernel) (by decide +kernel)
/-! LinesPromisedModel.man(I)I -/
theorem dX12_man_0 : decode cX12_man 0 = .ok (.iload_n 1, 1) := by decide +kernel
theorem dX12_man_1 : decode cX12_man 1 = .ok (.iconst 0, 1) := by decide +kernel
theorem dX12_man_2 : decode cX12_man 2 = .ok (.bipush 99, 2) := by decide +kernel
theorem dX12_man_4 : decode cX12_man 4 = .ok (.invokestatic 58, 3) := by decide +kernel
theorem dX12_man_7 : decode cX12_man 7 = .ok (.ifCond .ne 6, 3) := by decide +kernel
theorem dX12_man_10 : decode cX12_man 10 = .ok (.bipush (-2), 2) := by decide +kernel
theorem dX12_man_12 : decode cX12_man 12 = .ok (.ireturn, 1) := by decide +kernel
theorem dX12_man_13 : decode cX12_man 13 = .ok (.aload_n 0, 1) := by decide +kernel
theorem dX12_man_14 : decode cX12_man 14 = .ok (.getfield 8, 3) := by decide +kernel
theorem dX12_man_17 : decode cX12_man 17 = .ok (.iconst 5, 1) := by decide +kernel
theorem dX12_man_18 : decode cX12_man 18 = .ok (.iaload, 1) := by decide +kernel
theorem dX12_man_19 : decode cX12_man 19 = .ok (.istore_n 2, 1) := by decide +kernel
theorem dX12_man_20 : decode cX12_man 20 = .ok (.aload_n 0, 1) := by decide +kernel
theorem dX12_man_21 : decode cX12_man 21 = .ok (.getfield 8, 3) := by decide +kernel
theorem dX12_man_24 : decode cX12_man 24 = .ok (.iconst 5, 1) := by decide +kernel
theorem dX12_man_25 : decode cX12_man 25 = .ok (.iload_n 1, 1) := by decide +kernel
theorem dX12_man_26 : decode cX12_man 26 = .ok (.iastore, 1) := by decide +kernel
theorem dX12_man_27 : decode cX12_man 27 = .ok (.iload_n 2, 1) := by decide +kernel
theorem dX12_man_28 : decode cX12_man 28 = .ok (.ireturn, 1) := by decide +kernel
theorem cm_X12_man : CM yX12_man cX12_man 3 (some .int) 1 12 := ⟨w_1512, w_1513, w_1514, w_97, ⟨by decide +kernel, by decide +kernel, by decide +kernel⟩, ⟨_, _, rfl⟩, by decide⟩
noncomputable def f_X12_man (n : Nat) (v0 v1 : Int) (h : MM) : RR :=
  bd (f_X12_in n v1 0 99 h) fun r1 h1 =>
  if r1 = 0 then
    some ((-2), h1)
  else
  gf h1 v0 12 1 fun r3 =>
  rd h1 r3 100 5 fun r4 =>
  gf h1 v0 12 1 fun r5 =>
  wt h1 r5 100 5 v1 fun h6 =>
  some (r4, h6)
set_option maxRecDepth 20000 in
theorem e_X12_man {g : GT} {Z : Int × MM} {n : Nat} (C : Cx g cX12_man 3 yX12_man 1 22) (hr : Rt g (some .int) 0 Z) {v0 v1 : Int} (cv0 : cK 2 v0) (cv1 : cK 0 v1) {h : MM} (hf : f_X12_man n v0 v1 h = some Z) : G g 0 [(2, v0), (0, v1), (3, 0)] [] h := by
  have cv1 : in32 v1 := cv1
  unfold f_X12_man at hf
  refine r_iload_n C dX12_man_0 rfl ?_
  refine r_iconst C dX12_man_1 ?_
  refine r_bipush C dX12_man_2 rfl ?_
  obtain ⟨r1, h1, hq1, hf⟩ := bd_s hf
  refine r_cS3 C (am_X12_in (gl g) n) cm_X12_in w_1496 dX12_man_4 ⟨Nat.le_of_ble_eq_true rfl, Nat.le_of_ble_eq_true rfl⟩ cv1 (in32_of rfl) (in32_of rfl) rfl (Nat.le_of_ble_eq_true rfl) hq1 (by decide) (fun c1 => ?_)
  have c1 : in32 _ := c1
  refine r_if_ne C dX12_man_7 (tgt := 13) (by decide) c1 (fun n2 => ?_) (fun n2 => ?_)
  · have hf := ite_n n2 hf
    refine r_aload_n C dX12_man_13 rfl ?_
    obtain ⟨q3, hf⟩ := gf_s hf
    refine r_gf C ct12 (j := 1) (ji := 1) dX12_man_14 q3 rfl rfl (by decide) w_1426 rfl (fun c3 => ?_)
    refine r_iconst C dX12_man_17 ?_
    obtain ⟨q4, hf⟩ := rd_s hf
    refine r_iald C dX12_man_18 q4 rfl (fun c4 => ?_)
    refine r_istore_n C dX12_man_19 (Nat.le_of_ble_eq_true rfl) rfl ?_
    refine r_aload_n C dX12_man_20 rfl ?_
    obtain ⟨q5, hf⟩ := gf_s hf
    refine r_gf C ct12 (j := 1) (ji := 1) dX12_man_21 q5 rfl rfl (by decide) w_1426 rfl (fun c5 => ?_)
    refine r_iconst C dX12_man_24 ?_
    refine r_iload_n C dX12_man_25 rfl ?_
    obtain ⟨q6, hf⟩ := wt_s hf
    refine r_iast C dX12_man_26 q6 rfl cv1 ?_
    refine r_iload_n C dX12_man_27 rfl ?_
    cases hf
    exact r_jret C hr dX12_man_28 c4
  · have hf := ite_p n2 hf
    refine r_bipush C dX12_man_10 rfl ?_
    cases hf
    exact r_jret C hr dX12_man_12 (in32_of rfl)
set_option maxRecDepth 20000 in
theorem am_X12_man (l : Launch) (n : Nat) : AM l yX12_man cX12_man 3 (some .int) 1 22 [2, 0] 0 (un2 (f_X12_man n)) := by
  refine AM.intro (by decide) (fun xs hx => ?_) (fun g xs h Z hl C hr hx hf => ?_)
  · obtain ⟨a0, a1, rfl, c0, c1⟩ := canL_2 hx
    exact Nat.le_of_ble_eq_true rfl
  · obtain ⟨a0, a1, rfl, c0, c1⟩ := canL_2 hx
    have hf := (un2_e _ a0 a1 _).symm.trans hf
    exact e_X12_man (n := n) C hr c0 c1 hf
/-! LinesPromisedModel.feed(JI)I -/
theorem dX12_feed_0 : decode cX12_feed 0 = .ok (.iload_n 3, 1) := by decide +kernel
theorem dX12_feed_1 : decode cX12_feed 1 = .ok (.iconst 1, 1) := by decide +kernel
theorem dX12_feed_2 : decode cX12_feed 2 = .ok (.bipush 8, 2) := by decide +kernel
theorem dX12_feed_4 : decode cX12_feed 4 = .ok (.invokestatic 58, 3) := by decide +kernel
theorem dX12_feed_7 : decode cX12_feed 7 = .ok (.ifCond .ne 6, 3) := by decide +kernel
theorem dX12_feed_10 : decode cX12_feed 10 = .ok (.bipush (-2), 2) := by decide +kernel
theorem dX12_feed_12 : decode cX12_feed 12 = .ok (.ireturn, 1) := by decide +kernel
theorem dX12_feed_13 : decode cX12_feed 13 = .ok (.aload_n 0, 1) := by decide +kernel
theorem dX12_feed_14 : decode cX12_feed 14 = .ok (.getfield 8, 3) := by decide +kernel
theorem dX12_feed_17 : decode cX12_feed 17 = .ok (.iconst 4, 1) := by decide +kernel
theorem dX12_feed_18 : decode cX12_feed 18 = .ok (.iaload, 1) := by decide +kernel
theorem dX12_feed_19 : decode cX12_feed 19 = .ok (.iload_n 3, 1) := by decide +kernel
theorem dX12_feed_20 : decode cX12_feed 20 = .ok (.iadd, 1) := by decide +kernel
theorem dX12_feed_21 : decode cX12_feed 21 = .ok (.sipush 140, 3) := by decide +kernel
theorem dX12_feed_24 : decode cX12_feed 24 = .ok (.if_icmp .le 6, 3) := by decide +kernel
theorem dX12_feed_27 : decode cX12_feed 27 = .ok (.bipush (-4), 2) := by decide +kernel
theorem dX12_feed_29 : decode cX12_feed 29 = .ok (.ireturn, 1) := by decide +kernel
theorem dX12_feed_30 : decode cX12_feed 30 = .ok (.iload_n 3, 1) := by decide +kernel
theorem dX12_feed_31 : decode cX12_feed 31 = .ok (.iconst 1, 1) := by decide +kernel
theorem dX12_feed_32 : decode cX12_feed 32 = .ok (.isub, 1) := by decide +kernel
theorem dX12_feed_33 : decode cX12_feed 33 = .ok (.istore 4, 2) := by decide +kernel
theorem dX12_feed_35 : decode cX12_feed 35 = .ok (.iload 4, 2) := by decide +kernel
theorem dX12_feed_37 : decode cX12_feed 37 = .ok (.ifCond .lt 46, 3) := by decide +kernel
theorem dX12_feed_40 : decode cX12_feed 40 = .ok (.aload_n 0, 1) := by decide +kernel
theorem dX12_feed_41 : decode cX12_feed 41 = .ok (.getfield 8, 3) := by decide +kernel
theorem dX12_feed_44 : decode cX12_feed 44 = .ok (.sipush 11150, 3) := by decide +kernel
theorem dX12_feed_47 : decode cX12_feed 47 = .ok (.aload_n 0, 1) := by decide +kernel
theorem dX12_feed_48 : decode cX12_feed 48 = .ok (.getfield 8, 3) := by decide +kernel
theorem dX12_feed_51 : decode cX12_feed 51 = .ok (.iconst 4, 1) := by decide +kernel
theorem dX12_feed_52 : decode cX12_feed 52 = .ok (.iaload, 1) := by decide +kernel
theorem dX12_feed_53 : decode cX12_feed 53 = .ok (.iadd, 1) := by decide +kernel
theorem dX12_feed_54 : decode cX12_feed 54 = .ok (.lload_n 1, 1) := by decide +kernel
theorem dX12_feed_55 : decode cX12_feed 55 = .ok (.bipush 8, 2) := by decide +kernel
theorem dX12_feed_57 : decode cX12_feed 57 = .ok (.iload 4, 2) := by decide +kernel
theorem dX12_feed_59 : decode cX12_feed 59 = .ok (.imul, 1) := by decide +kernel
theorem dX12_feed_60 : decode cX12_feed 60 = .ok (.lshr, 1) := by decide +kernel
theorem dX12_feed_61 : decode cX12_feed 61 = .ok (.ldc2_w 73, 3) := by decide +kernel
theorem dX12_feed_64 : decode cX12_feed 64 = .ok (.land, 1) := by decide +kernel
theorem dX12_feed_65 : decode cX12_feed 65 = .ok (.l2i, 1) := by decide +kernel
theorem dX12_feed_66 : decode cX12_feed 66 = .ok (.iastore, 1) := by decide +kernel
theorem dX12_feed_67 : decode cX12_feed 67 = .ok (.aload_n 0, 1) := by decide +kernel
theorem dX12_feed_68 : decode cX12_feed 68 = .ok (.getfield 8, 3) := by decide +kernel
theorem dX12_feed_71 : decode cX12_feed 71 = .ok (.iconst 4, 1) := by decide +kernel
theorem dX12_feed_72 : decode cX12_feed 72 = .ok (.dup2, 1) := by decide +kernel
theorem dX12_feed_73 : decode cX12_feed 73 = .ok (.iaload, 1) := by decide +kernel
theorem dX12_feed_74 : decode cX12_feed 74 = .ok (.iconst 1, 1) := by decide +kernel
theorem dX12_feed_75 : decode cX12_feed 75 = .ok (.iadd, 1) := by decide +kernel
theorem dX12_feed_76 : decode cX12_feed 76 = .ok (.iastore, 1) := by decide +kernel
theorem dX12_feed_77 : decode cX12_feed 77 = .ok (.iinc 4 (-1), 3) := by decide +kernel
theorem dX12_feed_80 : decode cX12_feed 80 = .ok (.goto (-45), 3) := by decide +kernel
theorem dX12_feed_83 : decode cX12_feed 83 = .ok (.aload_n 0, 1) := by decide +kernel
theorem dX12_feed_84 : decode cX12_feed 84 = .ok (.getfield 8, 3) := by decide +kernel
theorem dX12_feed_87 : decode cX12_feed 87 = .ok (.iconst 4, 1) := by decide +kernel
theorem dX12_feed_88 : decode cX12_feed 88 = .ok (.iaload, 1) := by decide +kernel
theorem dX12_feed_89 : decode cX12_feed 89 = .ok (.ireturn, 1) := by decide +kernel
theorem cm_X12_feed : CM yX12_feed cX12_feed 5 (some .int) 2 12 := ⟨w_1516, w_1517, w_1518, w_97, ⟨by decide +kernel, by decide +kernel, by decide +kernel⟩, ⟨_, _, rfl⟩, by decide⟩
noncomputable def f_X12_feed_35b (n : Nat) (rec35 : Int → MM → RR) (v0 v1 v4 : Int) (h : MM) : RR :=
  if v4 < 0 then
    gf h v0 12 1 fun r2 =>
    rd h r2 100 4 fun r3 =>
    some (r3, h)
  else
  gf h v0 12 1 fun r4 =>
  gf h v0 12 1 fun r5 =>
  rd h r5 100 4 fun r6 =>
  wt h r4 100 (wr (11150 + r6)) (wr (lan (lsr v1 (wr (8 * v4))) 255)) fun h7 =>
  gf h7 v0 12 1 fun r8 =>
  rd h7 r8 100 4 fun r9 =>
  wt h7 r8 100 4 (wr (r9 + 1)) fun h10 =>
  lb (wr (v4 + (-1))) fun x11 =>
  rec35 x11 h10
noncomputable def f_X12_feed_35 (n : Nat)  (v0 v1 : Int) : Nat → Int → MM → RR
  | 0, _, _ => none
  | k + 1, v4, h => f_X12_feed_35b n  (f_X12_feed_35 n  v0 v1 k) v0 v1 v4 h
noncomputable def f_X12_feed (n : Nat) (v0 v1 v3 : Int) (h : MM) : RR :=
  bd (f_X12_in n v3 1 8 h) fun r1 h1 =>
  if r1 = 0 then
    some ((-2), h1)
  else
  gf h1 v0 12 1 fun r3 =>
  rd h1 r3 100 4 fun r4 =>
  if wr (r4 + v3) ≤ 140 then
    lb (wr (v3 - 1)) fun x6 =>
    f_X12_feed_35 n v0 v1 n x6 h1
  else
  some ((-4), h1)
set_option maxRecDepth 20000 in
theorem b_X12_feed_35b {g : GT} {Z : Int × MM} {n : Nat} (C : Cx g cX12_feed 5 yX12_feed 1 22) (hr : Rt g (some .int) 0 Z) {v0 v1 v4 : Int}  {rec35 : Int → MM → RR} (L35 : ∀ (u4 : Int) (h : MM), in32 u4 → rec35 u4 h = some Z → G g 35 [(2, v0), (1, v1), (4, 0), (3, 0), (0, u4)] [] h) (cv1 : in64 v1) (cv4 : in32 v4) {h : MM} (hf : f_X12_feed_35b n rec35 v0 v1 v4 h = some Z) : G g 35 [(2, v0), (1, v1), (4, 0), (3, 0), (0, v4)] [] h := by
  unfold f_X12_feed_35b at hf
  refine r_iload C dX12_feed_35 rfl ?_
  refine r_if_lt C dX12_feed_37 (tgt := 83) (by decide) cv4 (fun n1 => ?_) (fun n1 => ?_)
  · have hf := ite_p n1 hf
    refine r_aload_n C dX12_feed_83 rfl ?_
    obtain ⟨q2, hf⟩ := gf_s hf
    refine r_gf C ct12 (j := 1) (ji := 1) dX12_feed_84 q2 rfl rfl (by decide) w_1426 rfl (fun c2 => ?_)
    refine r_iconst C dX12_feed_87 ?_
    obtain ⟨q3, hf⟩ := rd_s hf
    refine r_iald C dX12_feed_88 q3 rfl (fun c3 => ?_)
    cases hf
    exact r_jret C hr dX12_feed_89 c3
  · have hf := ite_n n1 hf
    refine r_aload_n C dX12_feed_40 rfl ?_
    obtain ⟨q4, hf⟩ := gf_s hf
    refine r_gf C ct12 (j := 1) (ji := 1) dX12_feed_41 q4 rfl rfl (by decide) w_1426 rfl (fun c4 => ?_)
    refine r_sipush C dX12_feed_44 rfl ?_
    refine r_aload_n C dX12_feed_47 rfl ?_
    obtain ⟨q5, hf⟩ := gf_s hf
    refine r_gf C ct12 (j := 1) (ji := 1) dX12_feed_48 q5 rfl rfl (by decide) w_1426 rfl (fun c5 => ?_)
    refine r_iconst C dX12_feed_51 ?_
    obtain ⟨q6, hf⟩ := rd_s hf
    refine r_iald C dX12_feed_52 q6 rfl (fun c6 => ?_)
    refine r_iadd C dX12_feed_53 ?_
    refine r_lload_n C dX12_feed_54 rfl ?_
    refine r_bipush C dX12_feed_55 rfl ?_
    refine r_iload C dX12_feed_57 rfl ?_
    refine r_imul C dX12_feed_59 ?_
    refine r_lshr C dX12_feed_60 ?_
    refine r_ldc2 C (v := 255) dX12_feed_61 w_1519 ?_
    refine r_land C dX12_feed_64 ?_
    refine r_l2i C dX12_feed_65 ?_
    obtain ⟨q7, hf⟩ := wt_s hf
    refine r_iast C dX12_feed_66 q7 rfl (in32_t _) ?_
    refine r_aload_n C dX12_feed_67 rfl ?_
    obtain ⟨q8, hf⟩ := gf_s hf
    refine r_gf C ct12 (j := 1) (ji := 1) dX12_feed_68 q8 rfl rfl (by decide) w_1426 rfl (fun c8 => ?_)
    refine r_iconst C dX12_feed_71 ?_
    refine r_dup2 C dX12_feed_72 (by decide) (by decide) ?_
    obtain ⟨q9, hf⟩ := rd_s hf
    refine r_iald C dX12_feed_73 q9 rfl (fun c9 => ?_)
    refine r_iconst C dX12_feed_74 ?_
    refine r_iadd C dX12_feed_75 ?_
    obtain ⟨q10, hf⟩ := wt_s hf
    refine r_iast C dX12_feed_76 q10 rfl (in32_t _) ?_
    obtain ⟨x11, e11, hf⟩ := lb_s hf
    have c11 : in32 x11 := by rw [e11]; exact (in32_t _)
    refine r_iincL C dX12_feed_77 rfl e11 (Nat.le_of_ble_eq_true rfl) rfl ?_
    refine r_goto C dX12_feed_80 (tgt := 35) (by decide) ?_
    exact G.mask [true, true, true, false, true] rfl rfl (L35 _ _ c11 hf)
set_option maxRecDepth 20000 in
theorem l_X12_feed_35 {g : GT} {Z : Int × MM} {n : Nat} (C : Cx g cX12_feed 5 yX12_feed 1 22) (hr : Rt g (some .int) 0 Z) {v0 v1 : Int}   (cv1 : in64 v1) : ∀ (k : Nat) (v4 : Int) (h : MM), in32 v4 → f_X12_feed_35 n  v0 v1 k v4 h = some Z → G g 35 [(2, v0), (1, v1), (4, 0), (3, 0), (0, v4)] [] h := by
  intro k
  induction k with
  | zero => intro v4 h cv4 hf; exact absurd hf (by intro z; cases z)
  | succ k ih => intro v4 h cv4 hf; exact b_X12_feed_35b C hr (rec35 := f_X12_feed_35 n  v0 v1 k)  ih cv1 cv4 (show f_X12_feed_35b n  (f_X12_feed_35 n  v0 v1 k) v0 v1 v4 h = some Z from hf)
set_option maxRecDepth 20000 in
theorem e_X12_feed {g : GT} {Z : Int × MM} {n : Nat} (C : Cx g cX12_feed 5 yX12_feed 1 22) (hr : Rt g (some .int) 0 Z) {v0 v1 v3 : Int} (cv0 : cK 2 v0) (cv1 : cK 1 v1) (cv3 : cK 0 v3) {h : MM} (hf : f_X12_feed n v0 v1 v3 h = some Z) : G g 0 [(2, v0), (1, v1), (4, 0), (0, v3), (3, 0)] [] h := by
  have cv1 : in64 v1 := cv1
  have cv3 : in32 v3 := cv3
  unfold f_X12_feed at hf
  refine r_iload_n C dX12_feed_0 rfl ?_
  refine r_iconst C dX12_feed_1 ?_
  refine r_bipush C dX12_feed_2 rfl ?_
  obtain ⟨r1, h1, hq1, hf⟩ := bd_s hf
  refine r_cS3 C (am_X12_in (gl g) n) cm_X12_in w_1496 dX12_feed_4 ⟨Nat.le_of_ble_eq_true rfl, Nat.le_of_ble_eq_true rfl⟩ cv3 (in32_of rfl) (in32_of rfl) rfl (Nat.le_of_ble_eq_true rfl) hq1 (by decide) (fun c1 => ?_)
  have c1 : in32 _ := c1
  refine r_if_ne C dX12_feed_7 (tgt := 13) (by decide) c1 (fun n2 => ?_) (fun n2 => ?_)
  · have hf := ite_n n2 hf
    refine r_aload_n C dX12_feed_13 rfl ?_
    obtain ⟨q3, hf⟩ := gf_s hf
    refine r_gf C ct12 (j := 1) (ji := 1) dX12_feed_14 q3 rfl rfl (by decide) w_1426 rfl (fun c3 => ?_)
    refine r_iconst C dX12_feed_17 ?_
    obtain ⟨q4, hf⟩ := rd_s hf
    refine r_iald C dX12_feed_18 q4 rfl (fun c4 => ?_)
    refine r_iload_n C dX12_feed_19 rfl ?_
    refine r_iadd C dX12_feed_20 ?_
    refine r_sipush C dX12_feed_21 rfl ?_
    refine r_icmp_le C dX12_feed_24 (tgt := 30) (by decide) (in32_t _) (in32_of rfl) (fun n5 => ?_) (fun n5 => ?_)
    · have hf := ite_p n5 hf
      refine r_iload_n C dX12_feed_30 rfl ?_
      refine r_iconst C dX12_feed_31 ?_
      refine r_isub C dX12_feed_32 ?_
      obtain ⟨x6, e6, hf⟩ := lb_s hf
      have c6 : in32 x6 := by rw [e6]; exact (in32_t _)
      refine r_istoreL C dX12_feed_33 e6 (Nat.le_of_ble_eq_true rfl) rfl ?_
      exact G.mask [true, true, true, false, true] rfl rfl (l_X12_feed_35 C hr  cv1 _ _ _ c6 hf)
    · have hf := ite_n n5 hf
      refine r_bipush C dX12_feed_27 rfl ?_
      cases hf
      exact r_jret C hr dX12_feed_29 (in32_of rfl)
  · have hf := ite_p n2 hf
    refine r_bipush C dX12_feed_10 rfl ?_
    cases hf
    exact r_jret C hr dX12_feed_12 (in32_of rfl)
set_option maxRecDepth 20000 in
theorem am_X12_feed (l : Launch) (n : Nat) : AM l yX12_feed cX12_feed 5 (some .int) 1 22 [2, 1, 0] 0 (un3 (f_X12_feed n)) := by
  refine AM.intro (by decide) (fun xs hx => ?_) (fun g xs h Z hl C hr hx hf => ?_)
  · obtain ⟨a0, a1, a2, rfl, c0, c1, c2⟩ := canL_3 hx
    exact Nat.le_of_ble_eq_true rfl
  · obtain ⟨a0, a1, a2, rfl, c0, c1, c2⟩ := canL_3 hx
    have hf := (un3_e _ a0 a1 a2 _).symm.trans hf
    exact e_X12_feed (n := n) C hr c0 c1 c2 hf
/-! LinesPromisedModel.isDay(I)Z -/
theorem dX12_isDay_0 : decode cX12_isDay 0 = .ok (.iload_n 0, 1) := by decide +kernel
theorem dX12_isDay_1 : decode cX12_isDay 1 = .ok (.iconst 0, 1) := by decide +kernel
theorem dX12_isDay_2 : decode cX12_isDay 2 = .ok (.sipush 999, 3) := by decide +kernel
theorem dX12_isDay_5 : decode cX12_isDay 5 = .ok (.invokestatic 58, 3) := by decide +kernel
theorem dX12_isDay_8 : decode cX12_isDay 8 = .ok (.ireturn, 1) := by decide +kernel
theorem cm_X12_isDay : CMs yX12_isDay cX12_isDay 1 (some .boolean) 1 := ⟨w_1525, w_1526, w_97, ⟨by decide +kernel, by decide +kernel, by decide +kernel⟩⟩
noncomputable def f_X12_isDay (n : Nat) (v0 : Int) (h : MM) : RR :=
  bd (f_X12_in n v0 0 999 h) fun r1 h1 =>
  ck (isb r1) <|
  some (r1, h1)
set_option maxRecDepth 20000 in
theorem e_X12_isDay {g : GT} {Z : Int × MM} {n : Nat} (C : Cx g cX12_isDay 1 yX12_isDay 1 22) (hr : Rt g (some .boolean) 0 Z) {v0 : Int} (cv0 : cK 0 v0) {h : MM} (hf : f_X12_isDay n v0 h = some Z) : G g 0 [(0, v0)] [] h := by
  have cv0 : in32 v0 := cv0
  unfold f_X12_isDay at hf
  refine r_iload_n C dX12_isDay_0 rfl ?_
  refine r_iconst C dX12_isDay_1 ?_
  refine r_sipush C dX12_isDay_2 rfl ?_
  obtain ⟨r1, h1, hq1, hf⟩ := bd_s hf
  refine r_cS3 C (am_X12_in (gl g) n) cm_X12_in w_1496 dX12_isDay_5 ⟨Nat.le_of_ble_eq_true rfl, Nat.le_of_ble_eq_true rfl⟩ cv0 (in32_of rfl) (in32_of rfl) rfl (Nat.le_of_ble_eq_true rfl) hq1 (by decide) (fun c1 => ?_)
  have c1 : in32 _ := c1
  obtain ⟨b2, hf⟩ := ck_s hf
  cases hf
  exact r_zret C hr dX12_isDay_8 b2
set_option maxRecDepth 20000 in
theorem am_X12_isDay (l : Launch) (n : Nat) : AM l yX12_isDay cX12_isDay 1 (some .boolean) 1 22 [0] 0 (un1 (f_X12_isDay n)) := by
  refine AM.intro (by decide) (fun xs hx => ?_) (fun g xs h Z hl C hr hx hf => ?_)
  · obtain ⟨a0, rfl, c0⟩ := canL_1 hx
    exact Nat.le_of_ble_eq_true rfl
  · obtain ⟨a0, rfl, c0⟩ := canL_1 hx
    have hf := (un1_e _ a0 _).symm.trans hf
    exact e_X12_isDay (n := n) C hr c0 hf
/-! LinesPromisedModel.word(I)Ljava/lang/String; -/
theorem dX12_word_0 : decode cX12_word 0 = .ok (.iload_n 0, 1) := by decide +kernel
theorem dX12_word_1 : decode cX12_word 1 = .ok (.tableswitch 57 0 5 #[39, 42, 45, 48, 51, 54], 39) := by decide +kernel
theorem dX12_word_40 : decode cX12_word 40 = .ok (.ldc 89, 2) := by decide +kernel
theorem dX12_word_42 : decode cX12_word 42 = .ok (.areturn, 1) := by decide +kernel
theorem dX12_word_43 : decode cX12_word 43 = .ok (.ldc 91, 2) := by decide +kernel
theorem dX12_word_45 : decode cX12_word 45 = .ok (.areturn, 1) := by decide +kernel
theorem dX12_word_46 : decode cX12_word 46 = .ok (.ldc 93, 2) := by decide +kernel
theorem dX12_word_48 : decode cX12_word 48 = .ok (.areturn, 1) := by decide +kernel
theorem dX12_word_49 : decode cX12_word 49 = .ok (.ldc 95, 2) := by decide +kernel
theorem dX12_word_51 : decode cX12_word 51 = .ok (.areturn, 1) := by decide +kernel
theorem dX12_word_52 : decode cX12_word 52 = .ok (.ldc 97, 2) := by decide +kernel
theorem dX12_word_54 : decode cX12_word 54 = .ok (.areturn, 1) := by decide +kernel
theorem dX12_word_55 : decode cX12_word 55 = .ok (.ldc 99, 2) := by decide +kernel
theorem dX12_word_57 : decode cX12_word 57 = .ok (.areturn, 1) := by decide +kernel
theorem dX12_word_58 : decode cX12_word 58 = .ok (.ldc 101, 2) := by decide +kernel
theorem dX12_word_60 : decode cX12_word 60 = .ok (.areturn, 1) := by decide +kernel
theorem cm_X12_word : CMs yX12_word cX12_word 1 (some (.object "java/lang/String")) 1 := ⟨w_1540, w_1541, w_97, ⟨by decide +kernel, by decide +kernel, by decide +kernel⟩⟩
noncomputable def f_X12_word (n : Nat) (v0 : Int) (h : MM) : RR :=
  if v0 = 0 then
    some (10, h)
  else
  if v0 = 1 then
    some (11, h)
  else
  if v0 = 2 then
    some (12, h)
  else
  if v0 = 3 then
    some (13, h)
  else
  if v0 = 4 then
    some (14, h)
  else
  if v0 = 5 then
    some (15, h)
  else
  some (16, h)
set_option maxRecDepth 20000 in
theorem e_X12_word {g : GT} {Z : Int × MM} {n : Nat} (C : Cx g cX12_word 1 yX12_word 0 0) (hr : Rt g (some (.object "java/lang/String")) 2 Z) {v0 : Int} (cv0 : cK 0 v0) {h : MM} (hf : f_X12_word n v0 h = some Z) : G g 0 [(0, v0)] [] h := by
  have cv0 : in32 v0 := cv0
  unfold f_X12_word at hf
  refine r_iload_n C dX12_word_0 rfl ?_
  rcases ite_s hf with ⟨n1, hf⟩ | ⟨n1, hf⟩
  · refine r_tsw C dX12_word_1 (tgt := 40) cv0 n1 rfl rfl (by decide) ?_
    refine r_ldcM C (i := 0) (v := 10) dX12_word_40 rfl (by decide) rfl rfl ?_
    cases hf
    exact r_aret C hr dX12_word_42 (Or.inl ⟨_, rfl⟩)
  rcases ite_s hf with ⟨n2, hf⟩ | ⟨n2, hf⟩
  · refine r_tsw C dX12_word_1 (tgt := 43) cv0 n2 rfl rfl (by decide) ?_
    refine r_ldcM C (i := 1) (v := 11) dX12_word_43 rfl (by decide) rfl rfl ?_
    cases hf
    exact r_aret C hr dX12_word_45 (Or.inl ⟨_, rfl⟩)
  rcases ite_s hf with ⟨n3, hf⟩ | ⟨n3, hf⟩
  · refine r_tsw C dX12_word_1 (tgt := 46) cv0 n3 rfl rfl (by decide) ?_
    refine r_ldcM C (i := 2) (v := 12) dX12_word_46 rfl (by decide) rfl rfl ?_
    cases hf
    exact r_aret C hr dX12_word_48 (Or.inl ⟨_, rfl⟩)
  rcases ite_s hf with ⟨n4, hf⟩ | ⟨n4, hf⟩
  · refine r_tsw C dX12_word_1 (tgt := 49) cv0 n4 rfl rfl (by decide) ?_
    refine r_ldcM C (i := 3) (v := 13) dX12_word_49 rfl (by decide) rfl rfl ?_
    cases hf
    exact r_aret C hr dX12_word_51 (Or.inl ⟨_, rfl⟩)
  rcases ite_s hf with ⟨n5, hf⟩ | ⟨n5, hf⟩
  · refine r_tsw C dX12_word_1 (tgt := 52) cv0 n5 rfl rfl (by decide) ?_
    refine r_ldcM C (i := 4) (v := 14) dX12_word_52 rfl (by decide) rfl rfl ?_
    cases hf
    exact r_aret C hr dX12_word_54 (Or.inl ⟨_, rfl⟩)
  rcases ite_s hf with ⟨n6, hf⟩ | ⟨n6, hf⟩
  · refine r_tsw C dX12_word_1 (tgt := 55) cv0 n6 rfl rfl (by decide) ?_
    refine r_ldcM C (i := 5) (v := 15) dX12_word_55 rfl (by decide) rfl rfl ?_
    cases hf
    exact r_aret C hr dX12_word_57 (Or.inl ⟨_, rfl⟩)
  refine r_tswd C dX12_word_1 (tgt := 58) cv0 (by omega) (by decide) ?_
  refine r_ldcM C (i := 6) (v := 16) dX12_word_58 rfl (by decide) rfl rfl ?_
  cases hf
  exact r_aret C hr dX12_word_60 (Or.inl ⟨_, rfl⟩)
set_option maxRecDepth 20000 in
theorem am_X12_word (l : Launch) (n : Nat) : AM l yX12_word cX12_word 1 (some (.object "java/lang/String")) 0 0 [0] 2 (un1 (f_X12_word n)) := by
  refine AM.intro (by decide) (fun xs hx => ?_) (fun g xs h Z hl C hr hx hf => ?_)
  · obtain ⟨a0, rfl, c0⟩ := canL_1 hx
    exact Nat.le_of_ble_eq_true rfl
  · obtain ⟨a0, rfl, c0⟩ := canL_1 hx
    have hf := (un1_e _ a0 _).symm.trans hf
    exact e_X12_word (n := n) C hr c0 hf
/-! LinesPromisedModel.here()I -/
theorem dX12_here_0 : decode cX12_here 0 = .ok (.aload_n 0, 1) := by decide +kernel
theorem dX12_here_1 : decode cX12_here 1 = .ok (.getfield 75, 3) := by decide +kernel
theorem dX12_here_4 : decode cX12_here 4 = .ok (.aload_n 0, 1) := by decide +kernel
theorem dX12_here_5 : decode cX12_here 5 = .ok (.getfield 8, 3) := by decide +kernel
theorem dX12_here_8 : decode cX12_here 8 = .ok (.sipush 9630, 3) := by decide +kernel
theorem dX12_here_11 : decode cX12_here 11 = .ok (.aload_n 0, 1) := by decide +kernel
theorem dX12_here_12 : decode cX12_here 12 = .ok (.getfield 78, 3) := by decide +kernel
theorem dX12_here_15 : decode cX12_here 15 = .ok (.iadd, 1) := by decide +kernel
theorem dX12_here_16 : decode cX12_here 16 = .ok (.iaload, 1) := by decide +kernel
theorem dX12_here_17 : decode cX12_here 17 = .ok (.if_icmp .ge 28, 3) := by decide +kernel
theorem dX12_here_20 : decode cX12_here 20 = .ok (.aload_n 0, 1) := by decide +kernel
theorem dX12_here_21 : decode cX12_here 21 = .ok (.getfield 8, 3) := by decide +kernel
theorem dX12_here_24 : decode cX12_here 24 = .ok (.sipush 9640, 3) := by decide +kernel
theorem dX12_here_27 : decode cX12_here 27 = .ok (.sipush 140, 3) := by decide +kernel
theorem dX12_here_30 : decode cX12_here 30 = .ok (.aload_n 0, 1) := by decide +kernel
theorem dX12_here_31 : decode cX12_here 31 = .ok (.getfield 78, 3) := by decide +kernel
theorem dX12_here_34 : decode cX12_here 34 = .ok (.imul, 1) := by decide +kernel
theorem dX12_here_35 : decode cX12_here 35 = .ok (.iadd, 1) := by decide +kernel
theorem dX12_here_36 : decode cX12_here 36 = .ok (.aload_n 0, 1) := by decide +kernel
theorem dX12_here_37 : decode cX12_here 37 = .ok (.getfield 75, 3) := by decide +kernel
theorem dX12_here_40 : decode cX12_here 40 = .ok (.iadd, 1) := by decide +kernel
theorem dX12_here_41 : decode cX12_here 41 = .ok (.iaload, 1) := by decide +kernel
theorem dX12_here_42 : decode cX12_here 42 = .ok (.goto 4, 3) := by decide +kernel
theorem dX12_here_45 : decode cX12_here 45 = .ok (.iconst (-1), 1) := by decide +kernel
theorem dX12_here_46 : decode cX12_here 46 = .ok (.ireturn, 1) := by decide +kernel
theorem cm_X12_here : CM yX12_here cX12_here 1 (some .int) 0 12 := ⟨w_1553, w_46, w_1554, w_97, ⟨by decide +kernel, by decide +kernel, by decide +kernel⟩, ⟨_, _, rfl⟩, by decide⟩
noncomputable def f_X12_here_46 (n : Nat)  (s0 : Int) (h : MM) : RR :=
  some (s0, h)
noncomputable def f_X12_here (n : Nat) (v0 : Int) (h : MM) : RR :=
  gf h v0 12 5 fun r1 =>
  gf h v0 12 1 fun r2 =>
  gf h v0 12 4 fun r3 =>
  rd h r2 100 (wr (9630 + r3)) fun r4 =>
  if r4 ≤ r1 then
    f_X12_here_46 n ((-1)) h
  else
  gf h v0 12 1 fun r6 =>
  gf h v0 12 4 fun r7 =>
  gf h v0 12 5 fun r8 =>
  rd h r6 100 (wr ((wr (9640 + (wr (140 * r7)))) + r8)) fun r9 =>
  f_X12_here_46 n r9 h
set_option maxRecDepth 20000 in
theorem b_X12_here_46 {g : GT} {Z : Int × MM} {n : Nat} (C : Cx g cX12_here 1 yX12_here 0 0) (hr : Rt g (some .int) 0 Z) {s0 : Int}    (cs0 : in32 s0) {h : MM} (hf : f_X12_here_46 n  s0 h = some Z) : G g 46 [(3, 0)] [(0, s0)] h := by
  unfold f_X12_here_46 at hf
  cases hf
  exact r_jret C hr dX12_here_46 cs0
set_option maxRecDepth 20000 in
theorem e_X12_here {g : GT} {Z : Int × MM} {n : Nat} (C : Cx g cX12_here 1 yX12_here 0 0) (hr : Rt g (some .int) 0 Z) {v0 : Int} (cv0 : cK 2 v0) {h : MM} (hf : f_X12_here n v0 h = some Z) : G g 0 [(2, v0)] [] h := by
  unfold f_X12_here at hf
  refine r_aload_n C dX12_here_0 rfl ?_
  obtain ⟨q1, hf⟩ := gf_s hf
  refine r_gf C ct12 (j := 5) (ji := 5) dX12_here_1 q1 rfl rfl (by decide) w_1430 rfl (fun c1 => ?_)
  have c1 : in32 _ := c1
  refine r_aload_n C dX12_here_4 rfl ?_
  obtain ⟨q2, hf⟩ := gf_s hf
  refine r_gf C ct12 (j := 1) (ji := 1) dX12_here_5 q2 rfl rfl (by decide) w_1426 rfl (fun c2 => ?_)
  refine r_sipush C dX12_here_8 rfl ?_
  refine r_aload_n C dX12_here_11 rfl ?_
  obtain ⟨q3, hf⟩ := gf_s hf
  refine r_gf C ct12 (j := 4) (ji := 4) dX12_here_12 q3 rfl rfl (by decide) w_1429 rfl (fun c3 => ?_)
  have c3 : in32 _ := c3
  refine r_iadd C dX12_here_15 ?_
  obtain ⟨q4, hf⟩ := rd_s hf
  refine r_iald C dX12_here_16 q4 rfl (fun c4 => ?_)
  refine r_icmp_ge C dX12_here_17 (tgt := 45) (by decide) c1 c4 (fun n5 => ?_) (fun n5 => ?_)
  · have hf := ite_p n5 hf
    refine r_iconst C dX12_here_45 ?_
    exact G.mask [false] rfl rfl (b_X12_here_46 C hr  (in32_of rfl) hf)
  · have hf := ite_n n5 hf
    refine r_aload_n C dX12_here_20 rfl ?_
    obtain ⟨q6, hf⟩ := gf_s hf
    refine r_gf C ct12 (j := 1) (ji := 1) dX12_here_21 q6 rfl rfl (by decide) w_1426 rfl (fun c6 => ?_)
    refine r_sipush C dX12_here_24 rfl ?_
    refine r_sipush C dX12_here_27 rfl ?_
    refine r_aload_n C dX12_here_30 rfl ?_
    obtain ⟨q7, hf⟩ := gf_s hf
    refine r_gf C ct12 (j := 4) (ji := 4) dX12_here_31 q7 rfl rfl (by decide) w_1429 rfl (fun c7 => ?_)
    have c7 : in32 _ := c7
    refine r_imul C dX12_here_34 ?_
    refine r_iadd C dX12_here_35 ?_
    refine r_aload_n C dX12_here_36 rfl ?_
    obtain ⟨q8, hf⟩ := gf_s hf
    refine r_gf C ct12 (j := 5) (ji := 5) dX12_here_37 q8 rfl rfl (by decide) w_1430 rfl (fun c8 => ?_)
    have c8 : in32 _ := c8
    refine r_iadd C dX12_here_40 ?_
    obtain ⟨q9, hf⟩ := rd_s hf
    refine r_iald C dX12_here_41 q9 rfl (fun c9 => ?_)
    refine r_goto C dX12_here_42 (tgt := 46) (by decide) ?_
    exact G.mask [false] rfl rfl (b_X12_here_46 C hr  c9 hf)
set_option maxRecDepth 20000 in
theorem am_X12_here (l : Launch) (n : Nat) : AM l yX12_here cX12_here 1 (some .int) 0 0 [2] 0 (un1 (f_X12_here n)) := by
  refine AM.intro (by decide) (fun xs hx => ?_) (fun g xs h Z hl C hr hx hf => ?_)
  · obtain ⟨a0, rfl, c0⟩ := canL_1 hx
    exact Nat.le_of_ble_eq_true rfl
  · obtain ⟨a0, rfl, c0⟩ := canL_1 hx
    have hf := (un1_e _ a0 _).symm.trans hf
    exact e_X12_here (n := n) C hr c0 hf
/-! LinesPromisedModel.oneWord()I -/
theorem dX12_oneWord_0 : decode cX12_oneWord 0 = .ok (.bipush 127, 2) := by decide +kernel
theorem dX12_oneWord_2 : decode cX12_oneWord 2 = .ok (.istore_n 1, 1) := by decide +kernel
theorem dX12_oneWord_3 : decode cX12_oneWord 3 = .ok (.iconst 0, 1) := by decide +kernel
theorem dX12_oneWord_4 : decode cX12_oneWord 4 = .ok (.istore_n 2, 1) := by decide +kernel
theorem dX12_oneWord_5 : decode cX12_oneWord 5 = .ok (.iconst 0, 1) := by decide +kernel
theorem dX12_oneWord_6 : decode cX12_oneWord 6 = .ok (.istore_n 3, 1) := by decide +kernel
theorem dX12_oneWord_7 : decode cX12_oneWord 7 = .ok (.iconst 0, 1) := by decide +kernel
theorem dX12_oneWord_8 : decode cX12_oneWord 8 = .ok (.istore 4, 2) := by decide +kernel
theorem dX12_oneWord_10 : decode cX12_oneWord 10 = .ok (.iload 4, 2) := by decide +kernel
theorem dX12_oneWord_12 : decode cX12_oneWord 12 = .ok (.bipush 7, 2) := by decide +kernel
theorem dX12_oneWord_14 : decode cX12_oneWord 14 = .ok (.if_icmp .ge 58, 3) := by decide +kernel
theorem dX12_oneWord_17 : decode cX12_oneWord 17 = .ok (.iload_n 3, 1) := by decide +kernel
theorem dX12_oneWord_18 : decode cX12_oneWord 18 = .ok (.iload_n 1, 1) := by decide +kernel
theorem dX12_oneWord_19 : decode cX12_oneWord 19 = .ok (.iload 4, 2) := by decide +kernel
theorem dX12_oneWord_21 : decode cX12_oneWord 21 = .ok (.ishr, 1) := by decide +kernel
theorem dX12_oneWord_22 : decode cX12_oneWord 22 = .ok (.iconst 1, 1) := by decide +kernel
theorem dX12_oneWord_23 : decode cX12_oneWord 23 = .ok (.iand, 1) := by decide +kernel
theorem dX12_oneWord_24 : decode cX12_oneWord 24 = .ok (.iconst 1, 1) := by decide +kernel
theorem dX12_oneWord_25 : decode cX12_oneWord 25 = .ok (.if_icmp .ne 38, 3) := by decide +kernel
theorem dX12_oneWord_28 : decode cX12_oneWord 28 = .ok (.iload_n 2, 1) := by decide +kernel
theorem dX12_oneWord_29 : decode cX12_oneWord 29 = .ok (.iload 4, 2) := by decide +kernel
theorem dX12_oneWord_31 : decode cX12_oneWord 31 = .ok (.invokestatic 103, 3) := by decide +kernel
theorem dX12_oneWord_34 : decode cX12_oneWord 34 = .ok (.invokevirtual 107, 3) := by decide +kernel
theorem dX12_oneWord_37 : decode cX12_oneWord 37 = .ok (.if_icmp .ge 26, 3) := by decide +kernel
theorem dX12_oneWord_40 : decode cX12_oneWord 40 = .ok (.iload 4, 2) := by decide +kernel
theorem dX12_oneWord_42 : decode cX12_oneWord 42 = .ok (.invokestatic 103, 3) := by decide +kernel
theorem dX12_oneWord_45 : decode cX12_oneWord 45 = .ok (.iload_n 2, 1) := by decide +kernel
theorem dX12_oneWord_46 : decode cX12_oneWord 46 = .ok (.invokevirtual 112, 3) := by decide +kernel
theorem dX12_oneWord_49 : decode cX12_oneWord 49 = .ok (.aload_n 0, 1) := by decide +kernel
theorem dX12_oneWord_50 : decode cX12_oneWord 50 = .ok (.invokevirtual 85, 3) := by decide +kernel
theorem dX12_oneWord_53 : decode cX12_oneWord 53 = .ok (.if_icmp .ne 10, 3) := by decide +kernel
theorem dX12_oneWord_56 : decode cX12_oneWord 56 = .ok (.iconst 1, 1) := by decide +kernel
theorem dX12_oneWord_57 : decode cX12_oneWord 57 = .ok (.iload 4, 2) := by decide +kernel
theorem dX12_oneWord_59 : decode cX12_oneWord 59 = .ok (.ishl, 1) := by decide +kernel
theorem dX12_oneWord_60 : decode cX12_oneWord 60 = .ok (.goto 4, 3) := by decide +kernel
theorem dX12_oneWord_63 : decode cX12_oneWord 63 = .ok (.iconst 0, 1) := by decide +kernel
theorem dX12_oneWord_64 : decode cX12_oneWord 64 = .ok (.ior, 1) := by decide +kernel
theorem dX12_oneWord_65 : decode cX12_oneWord 65 = .ok (.istore_n 3, 1) := by decide +kernel
theorem dX12_oneWord_66 : decode cX12_oneWord 66 = .ok (.iinc 4 1, 3) := by decide +kernel
theorem dX12_oneWord_69 : decode cX12_oneWord 69 = .ok (.goto (-59), 3) := by decide +kernel
theorem dX12_oneWord_72 : decode cX12_oneWord 72 = .ok (.iload_n 3, 1) := by decide +kernel
theorem dX12_oneWord_73 : decode cX12_oneWord 73 = .ok (.ifCond .ne 10, 3) := by decide +kernel
theorem dX12_oneWord_76 : decode cX12_oneWord 76 = .ok (.aload_n 0, 1) := by decide +kernel
theorem dX12_oneWord_77 : decode cX12_oneWord 77 = .ok (.iconst 1, 1) := by decide +kernel
theorem dX12_oneWord_78 : decode cX12_oneWord 78 = .ok (.putfield 81, 3) := by decide +kernel
theorem dX12_oneWord_81 : decode cX12_oneWord 81 = .ok (.iconst 0, 1) := by decide +kernel
theorem dX12_oneWord_82 : decode cX12_oneWord 82 = .ok (.ireturn, 1) := by decide +kernel
theorem dX12_oneWord_83 : decode cX12_oneWord 83 = .ok (.iload_n 3, 1) := by decide +kernel
theorem dX12_oneWord_84 : decode cX12_oneWord 84 = .ok (.istore_n 1, 1) := by decide +kernel
theorem dX12_oneWord_85 : decode cX12_oneWord 85 = .ok (.aload_n 0, 1) := by decide +kernel
theorem dX12_oneWord_86 : decode cX12_oneWord 86 = .ok (.dup, 1) := by decide +kernel
theorem dX12_oneWord_87 : decode cX12_oneWord 87 = .ok (.getfield 75, 3) := by decide +kernel
theorem dX12_oneWord_90 : decode cX12_oneWord 90 = .ok (.iconst 1, 1) := by decide +kernel
theorem dX12_oneWord_91 : decode cX12_oneWord 91 = .ok (.iadd, 1) := by decide +kernel
theorem dX12_oneWord_92 : decode cX12_oneWord 92 = .ok (.putfield 75, 3) := by decide +kernel
theorem dX12_oneWord_95 : decode cX12_oneWord 95 = .ok (.iinc 2 1, 3) := by decide +kernel
theorem dX12_oneWord_98 : decode cX12_oneWord 98 = .ok (.iconst 0, 1) := by decide +kernel
theorem dX12_oneWord_99 : decode cX12_oneWord 99 = .ok (.istore 4, 2) := by decide +kernel
theorem dX12_oneWord_101 : decode cX12_oneWord 101 = .ok (.iload 4, 2) := by decide +kernel
theorem dX12_oneWord_103 : decode cX12_oneWord 103 = .ok (.bipush 7, 2) := by decide +kernel
theorem dX12_oneWord_105 : decode cX12_oneWord 105 = .ok (.if_icmp .ge 32, 3) := by decide +kernel
theorem dX12_oneWord_108 : decode cX12_oneWord 108 = .ok (.iload_n 1, 1) := by decide +kernel
theorem dX12_oneWord_109 : decode cX12_oneWord 109 = .ok (.iconst 1, 1) := by decide +kernel
theorem dX12_oneWord_110 : decode cX12_oneWord 110 = .ok (.iload 4, 2) := by decide +kernel
theorem dX12_oneWord_112 : decode cX12_oneWord 112 = .ok (.ishl, 1) := by decide +kernel
theorem dX12_oneWord_113 : decode cX12_oneWord 113 = .ok (.if_icmp .ne 18, 3) := by decide +kernel
theorem dX12_oneWord_116 : decode cX12_oneWord 116 = .ok (.iload 4, 2) := by decide +kernel
theorem dX12_oneWord_118 : decode cX12_oneWord 118 = .ok (.invokestatic 103, 3) := by decide +kernel
theorem dX12_oneWord_121 : decode cX12_oneWord 121 = .ok (.invokevirtual 107, 3) := by decide +kernel
theorem dX12_oneWord_124 : decode cX12_oneWord 124 = .ok (.iload_n 2, 1) := by decide +kernel
theorem dX12_oneWord_125 : decode cX12_oneWord 125 = .ok (.if_icmp .ne 6, 3) := by decide +kernel
theorem dX12_oneWord_128 : decode cX12_oneWord 128 = .ok (.iload 4, 2) := by decide +kernel
theorem dX12_oneWord_130 : decode cX12_oneWord 130 = .ok (.ireturn, 1) := by decide +kernel
theorem dX12_oneWord_131 : decode cX12_oneWord 131 = .ok (.iinc 4 1, 3) := by decide +kernel
theorem dX12_oneWord_134 : decode cX12_oneWord 134 = .ok (.goto (-33), 3) := by decide +kernel
theorem dX12_oneWord_137 : decode cX12_oneWord 137 = .ok (.goto (-132), 3) := by decide +kernel
theorem cm_X12_oneWord : CM yX12_oneWord cX12_oneWord 5 (some .int) 0 12 := ⟨w_1537, w_45, w_1538, w_97, ⟨by decide +kernel, by decide +kernel, by decide +kernel⟩, ⟨_, _, rfl⟩, by decide⟩
noncomputable def f_X12_oneWord_131 (n : Nat) (rec5 : Int → Int → MM → RR) (rec101 : Int → MM → RR) (v0 v1 v2 v4 : Int) (h : MM) : RR :=
  lb (wr (v4 + 1)) fun x1 =>
  rec101 x1 h
noncomputable def f_X12_oneWord_101b (n : Nat) (rec5 : Int → Int → MM → RR) (rec101 : Int → MM → RR) (v0 v1 v2 v4 : Int) (h : MM) : RR :=
  if 7 ≤ v4 then
    rec5 v1 v2 h
  else
  if v1 = shl 1 v4 then
    bd (f_X12_word n v4 h) fun r3 h3 =>
    gk h3 r3 13 <|
    bd (f_J0_length_8abf5 n r3 h3) fun r4 h4 =>
    if r4 = v2 then
      some (v4, h4)
    else
    f_X12_oneWord_131 n rec5 rec101 v0 v1 v2 v4 h4
  else
  f_X12_oneWord_131 n rec5 rec101 v0 v1 v2 v4 h
noncomputable def f_X12_oneWord_101 (n : Nat) (rec5 : Int → Int → MM → RR) (v0 v1 v2 : Int) : Nat → Int → MM → RR
  | 0, _, _ => none
  | k + 1, v4, h => f_X12_oneWord_101b n rec5 (f_X12_oneWord_101 n rec5 v0 v1 v2 k) v0 v1 v2 v4 h
noncomputable def f_X12_oneWord_64 (n : Nat) (rec5 : Int → Int → MM → RR) (rec10 : Int → Int → MM → RR) (v0 v1 v2 v4 s0 s1 : Int) (h : MM) : RR :=
  lb (bor s0 s1) fun x1 =>
  lb (wr (v4 + 1)) fun x2 =>
  rec10 x1 x2 h
noncomputable def f_X12_oneWord_63 (n : Nat) (rec5 : Int → Int → MM → RR) (rec10 : Int → Int → MM → RR) (v0 v1 v2 v4 s0 : Int) (h : MM) : RR :=
  f_X12_oneWord_64 n rec5 rec10 v0 v1 v2 v4 s0 0 h
noncomputable def f_X12_oneWord_10b (n : Nat) (rec5 : Int → Int → MM → RR) (rec10 : Int → Int → MM → RR) (v0 v1 v2 v3 v4 : Int) (h : MM) : RR :=
  if 7 ≤ v4 then
    if v3 = 0 then
      ck (isb 1) <|
      pf h v0 12 6 1 fun h6 =>
      some (0, h6)
    else
    gf h v0 12 5 fun r3 =>
    pf h v0 12 5 (wr (r3 + 1)) fun h4 =>
    lb (wr (v2 + 1)) fun x5 =>
    f_X12_oneWord_101 n rec5 v0 v3 x5 n 0 h4
  else
  if ban (shr v1 v4) 1 = 1 then
    bd (f_X12_word n v4 h) fun r9 h9 =>
    gk h9 r9 13 <|
    bd (f_J0_length_8abf5 n r9 h9) fun r10 h10 =>
    if r10 ≤ v2 then
      f_X12_oneWord_63 n rec5 rec10 v0 v1 v2 v4 v3 h10
    else
    bd (f_X12_word n v4 h10) fun r12 h12 =>
    gk h12 r12 13 <|
    bd (f_J0_charAt_5068e n r12 v2 h12) fun r13 h13 =>
    gk h13 v0 12 <|
    bd (f_X12_here n v0 h13) fun r14 h14 =>
    if r13 = r14 then
      f_X12_oneWord_64 n rec5 rec10 v0 v1 v2 v4 v3 (shl 1 v4) h14
    else
    f_X12_oneWord_63 n rec5 rec10 v0 v1 v2 v4 v3 h14
  else
  f_X12_oneWord_63 n rec5 rec10 v0 v1 v2 v4 v3 h
noncomputable def f_X12_oneWord_10 (n : Nat) (rec5 : Int → Int → MM → RR) (v0 v1 v2 : Int) : Nat → Int → Int → MM → RR
  | 0, _, _, _ => none
  | k + 1, v3, v4, h => f_X12_oneWord_10b n rec5 (f_X12_oneWord_10 n rec5 v0 v1 v2 k) v0 v1 v2 v3 v4 h
noncomputable def f_X12_oneWord_5b (n : Nat) (rec5 : Int → Int → MM → RR) (v0 v1 v2 : Int) (h : MM) : RR :=
  f_X12_oneWord_10 n rec5 v0 v1 v2 n 0 0 h
noncomputable def f_X12_oneWord_5 (n : Nat)  (v0 : Int) : Nat → Int → Int → MM → RR
  | 0, _, _, _ => none
  | k + 1, v1, v2, h => f_X12_oneWord_5b n  (f_X12_oneWord_5 n  v0 k) v0 v1 v2 h
noncomputable def f_X12_oneWord (n : Nat) (v0 : Int) (h : MM) : RR :=
  f_X12_oneWord_5 n v0 n 127 0 h
set_option maxRecDepth 20000 in
theorem b_X12_oneWord_131 {g : GT} {Z : Int × MM} {n : Nat} (C : Cx g cX12_oneWord 5 yX12_oneWord 4 85) (hr : Rt g (some .int) 0 Z) {v0 v1 v2 v4 : Int}  {rec5 : Int → Int → MM → RR} {rec101 : Int → MM → RR} (L5 : ∀ (u1 u2 : Int) (h : MM), in32 u1 → in32 u2 → rec5 u1 u2 h = some Z → G g 5 [(2, v0), (0, u1), (0, u2), (3, 0), (3, 0)] [] h) (L101 : ∀ (u4 : Int) (h : MM), in32 u4 → rec101 u4 h = some Z → G g 101 [(2, v0), (0, v1), (0, v2), (3, 0), (0, u4)] [] h) (cv1 : in32 v1) (cv2 : in32 v2) (cv4 : in32 v4) {h : MM} (hf : f_X12_oneWord_131 n rec5 rec101 v0 v1 v2 v4 h = some Z) : G g 131 [(2, v0), (0, v1), (0, v2), (3, 0), (0, v4)] [] h := by
  unfold f_X12_oneWord_131 at hf
  obtain ⟨x1, e1, hf⟩ := lb_s hf
  have c1 : in32 x1 := by rw [e1]; exact (in32_t _)
  refine r_iincL C dX12_oneWord_131 rfl e1 (Nat.le_of_ble_eq_true rfl) rfl ?_
  refine r_goto C dX12_oneWord_134 (tgt := 101) (by decide) ?_
  exact G.mask [true, true, true, false, true] rfl rfl (L101 _ _ c1 hf)
set_option maxRecDepth 20000 in
theorem b_X12_oneWord_101b {g : GT} {Z : Int × MM} {n : Nat} (C : Cx g cX12_oneWord 5 yX12_oneWord 4 85) (hr : Rt g (some .int) 0 Z) {v0 v1 v2 v4 : Int}  {rec5 : Int → Int → MM → RR} {rec101 : Int → MM → RR} (L5 : ∀ (u1 u2 : Int) (h : MM), in32 u1 → in32 u2 → rec5 u1 u2 h = some Z → G g 5 [(2, v0), (0, u1), (0, u2), (3, 0), (3, 0)] [] h) (L101 : ∀ (u4 : Int) (h : MM), in32 u4 → rec101 u4 h = some Z → G g 101 [(2, v0), (0, v1), (0, v2), (3, 0), (0, u4)] [] h) (cv1 : in32 v1) (cv2 : in32 v2) (cv4 : in32 v4) {h : MM} (hf : f_X12_oneWord_101b n rec5 rec101 v0 v1 v2 v4 h = some Z) : G g 101 [(2, v0), (0, v1), (0, v2), (3, 0), (0, v4)] [] h := by
  unfold f_X12_oneWord_101b at hf
  refine r_iload C dX12_oneWord_101 rfl ?_
  refine r_bipush C dX12_oneWord_103 rfl ?_
  refine r_icmp_ge C dX12_oneWord_105 (tgt := 137) (by decide) cv4 (in32_of rfl) (fun n1 => ?_) (fun n1 => ?_)
  · have hf := ite_p n1 hf
    refine r_goto C dX12_oneWord_137 (tgt := 5) (by decide) ?_
    exact G.mask [true, true, true, false, false] rfl rfl (L5 _ _ _ cv1 cv2 hf)
  · have hf := ite_n n1 hf
    refine r_iload_n C dX12_oneWord_108 rfl ?_
    refine r_iconst C dX12_oneWord_109 ?_
    refine r_iload C dX12_oneWord_110 rfl ?_
    refine r_ishl C dX12_oneWord_112 ?_
    refine r_icmp_ne C dX12_oneWord_113 (tgt := 131) (by decide) cv1 (in32_t _) (fun n2 => ?_) (fun n2 => ?_)
    · have hf := ite_n n2 hf
      exact G.mask [true, true, true, false, true] rfl rfl (b_X12_oneWord_131 C hr L5 L101 cv1 cv2 cv4 hf)
    · have hf := ite_p n2 hf
      refine r_iload C dX12_oneWord_116 rfl ?_
      obtain ⟨r3, h3, hq3, hf⟩ := bd_s hf
      refine r_cS1 C (am_X12_word (gl g) n) cm_X12_word w_1539 dX12_oneWord_118 ⟨Nat.le_of_ble_eq_true rfl, Nat.le_of_ble_eq_true rfl⟩ cv4 rfl (Nat.le_of_ble_eq_true rfl) hq3 (by decide) (fun c3 => ?_)
      obtain ⟨p4, hf⟩ := gk_s hf
      obtain ⟨r4, h4, hq4, hf⟩ := bd_s hf
      refine r_cVs0 C (am_J0_length_8abf5 (gl g) n) cm_J0_length_8abf5 w_1549 dX12_oneWord_121 ⟨Nat.le_of_ble_eq_true rfl, Nat.le_of_ble_eq_true rfl⟩ p4  rfl (Nat.le_of_ble_eq_true rfl) hq4 (by decide) (fun c4 => ?_)
      have c4 : in32 _ := c4
      refine r_iload_n C dX12_oneWord_124 rfl ?_
      refine r_icmp_ne C dX12_oneWord_125 (tgt := 131) (by decide) c4 cv2 (fun n5 => ?_) (fun n5 => ?_)
      · have hf := ite_n n5 hf
        exact G.mask [true, true, true, false, true] rfl rfl (b_X12_oneWord_131 C hr L5 L101 cv1 cv2 cv4 hf)
      · have hf := ite_p n5 hf
        refine r_iload C dX12_oneWord_128 rfl ?_
        cases hf
        exact r_jret C hr dX12_oneWord_130 cv4
set_option maxRecDepth 20000 in
theorem l_X12_oneWord_101 {g : GT} {Z : Int × MM} {n : Nat} (C : Cx g cX12_oneWord 5 yX12_oneWord 4 85) (hr : Rt g (some .int) 0 Z) {v0 v1 v2 : Int} {rec5 : Int → Int → MM → RR} (L5 : ∀ (u1 u2 : Int) (h : MM), in32 u1 → in32 u2 → rec5 u1 u2 h = some Z → G g 5 [(2, v0), (0, u1), (0, u2), (3, 0), (3, 0)] [] h) (cv1 : in32 v1) (cv2 : in32 v2) : ∀ (k : Nat) (v4 : Int) (h : MM), in32 v4 → f_X12_oneWord_101 n rec5 v0 v1 v2 k v4 h = some Z → G g 101 [(2, v0), (0, v1), (0, v2), (3, 0), (0, v4)] [] h := by
  intro k
  induction k with
  | zero => intro v4 h cv4 hf; exact absurd hf (by intro z; cases z)
  | succ k ih => intro v4 h cv4 hf; exact b_X12_oneWord_101b C hr (rec101 := f_X12_oneWord_101 n rec5 v0 v1 v2 k) L5 ih cv1 cv2 cv4 (show f_X12_oneWord_101b n rec5 (f_X12_oneWord_101 n rec5 v0 v1 v2 k) v0 v1 v2 v4 h = some Z from hf)
set_option maxRecDepth 20000 in
theorem b_X12_oneWord_64 {g : GT} {Z : Int × MM} {n : Nat} (C : Cx g cX12_oneWord 5 yX12_oneWord 4 85) (hr : Rt g (some .int) 0 Z) {v0 v1 v2 v4 s0 s1 : Int}  {rec5 : Int → Int → MM → RR} {rec10 : Int → Int → MM → RR} (L5 : ∀ (u1 u2 : Int) (h : MM), in32 u1 → in32 u2 → rec5 u1 u2 h = some Z → G g 5 [(2, v0), (0, u1), (0, u2), (3, 0), (3, 0)] [] h) (L10 : ∀ (u3 u4 : Int) (h : MM), in32 u3 → in32 u4 → rec10 u3 u4 h = some Z → G g 10 [(2, v0), (0, v1), (0, v2), (0, u3), (0, u4)] [] h) (cv1 : in32 v1) (cv2 : in32 v2) (cv4 : in32 v4) (cs0 : in32 s0) (cs1 : in32 s1) {h : MM} (hf : f_X12_oneWord_64 n rec5 rec10 v0 v1 v2 v4 s0 s1 h = some Z) : G g 64 [(2, v0), (0, v1), (0, v2), (3, 0), (0, v4)] [(0, s1), (0, s0)] h := by
  unfold f_X12_oneWord_64 at hf
  refine r_ior C dX12_oneWord_64 ?_
  obtain ⟨x1, e1, hf⟩ := lb_s hf
  have c1 : in32 x1 := by rw [e1]; exact (in32_t _)
  refine r_istore_nL C dX12_oneWord_65 e1 (Nat.le_of_ble_eq_true rfl) rfl ?_
  obtain ⟨x2, e2, hf⟩ := lb_s hf
  have c2 : in32 x2 := by rw [e2]; exact (in32_t _)
  refine r_iincL C dX12_oneWord_66 rfl e2 (Nat.le_of_ble_eq_true rfl) rfl ?_
  refine r_goto C dX12_oneWord_69 (tgt := 10) (by decide) ?_
  exact G.mask [true, true, true, true, true] rfl rfl (L10 _ _ _ c1 c2 hf)
set_option maxRecDepth 20000 in
theorem b_X12_oneWord_63 {g : GT} {Z : Int × MM} {n : Nat} (C : Cx g cX12_oneWord 5 yX12_oneWord 4 85) (hr : Rt g (some .int) 0 Z) {v0 v1 v2 v4 s0 : Int}  {rec5 : Int → Int → MM → RR} {rec10 : Int → Int → MM → RR} (L5 : ∀ (u1 u2 : Int) (h : MM), in32 u1 → in32 u2 → rec5 u1 u2 h = some Z → G g 5 [(2, v0), (0, u1), (0, u2), (3, 0), (3, 0)] [] h) (L10 : ∀ (u3 u4 : Int) (h : MM), in32 u3 → in32 u4 → rec10 u3 u4 h = some Z → G g 10 [(2, v0), (0, v1), (0, v2), (0, u3), (0, u4)] [] h) (cv1 : in32 v1) (cv2 : in32 v2) (cv4 : in32 v4) (cs0 : in32 s0) {h : MM} (hf : f_X12_oneWord_63 n rec5 rec10 v0 v1 v2 v4 s0 h = some Z) : G g 63 [(2, v0), (0, v1), (0, v2), (3, 0), (0, v4)] [(0, s0)] h := by
  unfold f_X12_oneWord_63 at hf
  refine r_iconst C dX12_oneWord_63 ?_
  exact G.mask [true, true, true, false, true] rfl rfl (b_X12_oneWord_64 C hr L5 L10 cv1 cv2 cv4 cs0 (in32_of rfl) hf)
set_option maxRecDepth 20000 in
theorem b_X12_oneWord_10b {g : GT} {Z : Int × MM} {n : Nat} (C : Cx g cX12_oneWord 5 yX12_oneWord 4 85) (hr : Rt g (some .int) 0 Z) {v0 v1 v2 v3 v4 : Int}  {rec5 : Int → Int → MM → RR} {rec10 : Int → Int → MM → RR} (L5 : ∀ (u1 u2 : Int) (h : MM), in32 u1 → in32 u2 → rec5 u1 u2 h = some Z → G g 5 [(2, v0), (0, u1), (0, u2), (3, 0), (3, 0)] [] h) (L10 : ∀ (u3 u4 : Int) (h : MM), in32 u3 → in32 u4 → rec10 u3 u4 h = some Z → G g 10 [(2, v0), (0, v1), (0, v2), (0, u3), (0, u4)] [] h) (cv1 : in32 v1) (cv2 : in32 v2) (cv3 : in32 v3) (cv4 : in32 v4) {h : MM} (hf : f_X12_oneWord_10b n rec5 rec10 v0 v1 v2 v3 v4 h = some Z) : G g 10 [(2, v0), (0, v1), (0, v2), (0, v3), (0, v4)] [] h := by
  unfold f_X12_oneWord_10b at hf
  refine r_iload C dX12_oneWord_10 rfl ?_
  refine r_bipush C dX12_oneWord_12 rfl ?_
  refine r_icmp_ge C dX12_oneWord_14 (tgt := 72) (by decide) cv4 (in32_of rfl) (fun n1 => ?_) (fun n1 => ?_)
  · have hf := ite_p n1 hf
    refine r_iload_n C dX12_oneWord_72 rfl ?_
    refine r_if_ne C dX12_oneWord_73 (tgt := 83) (by decide) cv3 (fun n2 => ?_) (fun n2 => ?_)
    · have hf := ite_n n2 hf
      refine r_iload_n C dX12_oneWord_83 rfl ?_
      refine r_istore_n C dX12_oneWord_84 (Nat.le_of_ble_eq_true rfl) rfl ?_
      refine r_aload_n C dX12_oneWord_85 rfl ?_
      refine r_dup C dX12_oneWord_86 (by decide) ?_
      obtain ⟨q3, hf⟩ := gf_s hf
      refine r_gf C ct12 (j := 5) (ji := 5) dX12_oneWord_87 q3 rfl rfl (by decide) w_1430 rfl (fun c3 => ?_)
      have c3 : in32 _ := c3
      refine r_iconst C dX12_oneWord_90 ?_
      refine r_iadd C dX12_oneWord_91 ?_
      obtain ⟨q4, hf⟩ := pf_s hf
      refine r_pf C ct12 (j := 5) (ji := 5) dX12_oneWord_92 q4 rfl rfl (by decide) w_1430 rfl (Or.inl rfl) nar_int (in32_t _) ?_
      obtain ⟨x5, e5, hf⟩ := lb_s hf
      have c5 : in32 x5 := by rw [e5]; exact (in32_t _)
      refine r_iincL C dX12_oneWord_95 rfl e5 (Nat.le_of_ble_eq_true rfl) rfl ?_
      refine r_iconst C dX12_oneWord_98 ?_
      refine r_istore C dX12_oneWord_99 (Nat.le_of_ble_eq_true rfl) rfl ?_
      exact G.mask [true, true, true, false, true] rfl rfl (l_X12_oneWord_101 C hr L5 cv3 c5 _ _ _ (in32_of rfl) hf)
    · have hf := ite_p n2 hf
      refine r_aload_n C dX12_oneWord_76 rfl ?_
      refine r_iconst C dX12_oneWord_77 ?_
      obtain ⟨b7, hf⟩ := ck_s hf
      obtain ⟨q6, hf⟩ := pf_s hf
      refine r_pf C ct12 (j := 6) (ji := 6) dX12_oneWord_78 q6 rfl rfl (by decide) w_1431 rfl (Or.inl rfl) (nar_bool (isb_s b7)) (in32_of rfl) ?_
      refine r_iconst C dX12_oneWord_81 ?_
      cases hf
      exact r_jret C hr dX12_oneWord_82 (in32_of rfl)
  · have hf := ite_n n1 hf
    refine r_iload_n C dX12_oneWord_17 rfl ?_
    refine r_iload_n C dX12_oneWord_18 rfl ?_
    refine r_iload C dX12_oneWord_19 rfl ?_
    refine r_ishr C dX12_oneWord_21 ?_
    refine r_iconst C dX12_oneWord_22 ?_
    refine r_iand C dX12_oneWord_23 ?_
    refine r_iconst C dX12_oneWord_24 ?_
    refine r_icmp_ne C dX12_oneWord_25 (tgt := 63) (by decide) (in32_t _) (in32_of rfl) (fun n8 => ?_) (fun n8 => ?_)
    · have hf := ite_n n8 hf
      exact G.mask [true, true, true, false, true] rfl rfl (b_X12_oneWord_63 C hr L5 L10 cv1 cv2 cv4 cv3 hf)
    · have hf := ite_p n8 hf
      refine r_iload_n C dX12_oneWord_28 rfl ?_
      refine r_iload C dX12_oneWord_29 rfl ?_
      obtain ⟨r9, h9, hq9, hf⟩ := bd_s hf
      refine r_cS1 C (am_X12_word (gl g) n) cm_X12_word w_1539 dX12_oneWord_31 ⟨Nat.le_of_ble_eq_true rfl, Nat.le_of_ble_eq_true rfl⟩ cv4 rfl (Nat.le_of_ble_eq_true rfl) hq9 (by decide) (fun c9 => ?_)
      obtain ⟨p10, hf⟩ := gk_s hf
      obtain ⟨r10, h10, hq10, hf⟩ := bd_s hf
      refine r_cVs0 C (am_J0_length_8abf5 (gl g) n) cm_J0_length_8abf5 w_1549 dX12_oneWord_34 ⟨Nat.le_of_ble_eq_true rfl, Nat.le_of_ble_eq_true rfl⟩ p10  rfl (Nat.le_of_ble_eq_true rfl) hq10 (by decide) (fun c10 => ?_)
      have c10 : in32 _ := c10
      refine r_icmp_ge C dX12_oneWord_37 (tgt := 63) (by decide) cv2 c10 (fun n11 => ?_) (fun n11 => ?_)
      · have hf := ite_p n11 hf
        exact G.mask [true, true, true, false, true] rfl rfl (b_X12_oneWord_63 C hr L5 L10 cv1 cv2 cv4 cv3 hf)
      · have hf := ite_n n11 hf
        refine r_iload C dX12_oneWord_40 rfl ?_
        obtain ⟨r12, h12, hq12, hf⟩ := bd_s hf
        refine r_cS1 C (am_X12_word (gl g) n) cm_X12_word w_1539 dX12_oneWord_42 ⟨Nat.le_of_ble_eq_true rfl, Nat.le_of_ble_eq_true rfl⟩ cv4 rfl (Nat.le_of_ble_eq_true rfl) hq12 (by decide) (fun c12 => ?_)
        refine r_iload_n C dX12_oneWord_45 rfl ?_
        obtain ⟨p13, hf⟩ := gk_s hf
        obtain ⟨r13, h13, hq13, hf⟩ := bd_s hf
        refine r_cVs1 C (am_J0_charAt_5068e (gl g) n) cm_J0_charAt_5068e w_1550 dX12_oneWord_46 ⟨Nat.le_of_ble_eq_true rfl, Nat.le_of_ble_eq_true rfl⟩ p13 cv2 rfl (Nat.le_of_ble_eq_true rfl) hq13 (by decide) (fun c13 => ?_)
        have c13 : in32 _ := c13
        refine r_aload_n C dX12_oneWord_49 rfl ?_
        obtain ⟨p14, hf⟩ := gk_s hf
        obtain ⟨r14, h14, hq14, hf⟩ := bd_s hf
        refine r_cV0 C (am_X12_here (gl g) n) cm_X12_here w_1551 dX12_oneWord_50 ⟨Nat.le_of_ble_eq_true rfl, Nat.le_of_ble_eq_true rfl⟩ p14 rfl  rfl (Nat.le_of_ble_eq_true rfl) hq14 (by decide) (fun c14 => ?_)
        have c14 : in32 _ := c14
        refine r_icmp_ne C dX12_oneWord_53 (tgt := 63) (by decide) c13 c14 (fun n15 => ?_) (fun n15 => ?_)
        · have hf := ite_n n15 hf
          exact G.mask [true, true, true, false, true] rfl rfl (b_X12_oneWord_63 C hr L5 L10 cv1 cv2 cv4 cv3 hf)
        · have hf := ite_p n15 hf
          refine r_iconst C dX12_oneWord_56 ?_
          refine r_iload C dX12_oneWord_57 rfl ?_
          refine r_ishl C dX12_oneWord_59 ?_
          refine r_goto C dX12_oneWord_60 (tgt := 64) (by decide) ?_
          exact G.mask [true, true, true, false, true] rfl rfl (b_X12_oneWord_64 C hr L5 L10 cv1 cv2 cv4 cv3 (in32_t _) hf)
set_option maxRecDepth 20000 in
theorem l_X12_oneWord_10 {g : GT} {Z : Int × MM} {n : Nat} (C : Cx g cX12_oneWord 5 yX12_oneWord 4 85) (hr : Rt g (some .int) 0 Z) {v0 v1 v2 : Int} {rec5 : Int → Int → MM → RR} (L5 : ∀ (u1 u2 : Int) (h : MM), in32 u1 → in32 u2 → rec5 u1 u2 h = some Z → G g 5 [(2, v0), (0, u1), (0, u2), (3, 0), (3, 0)] [] h) (cv1 : in32 v1) (cv2 : in32 v2) : ∀ (k : Nat) (v3 v4 : Int) (h : MM), in32 v3 → in32 v4 → f_X12_oneWord_10 n rec5 v0 v1 v2 k v3 v4 h = some Z → G g 10 [(2, v0), (0, v1), (0, v2), (0, v3), (0, v4)] [] h := by
  intro k
  induction k with
  | zero => intro v3 v4 h cv3 cv4 hf; exact absurd hf (by intro z; cases z)
  | succ k ih => intro v3 v4 h cv3 cv4 hf; exact b_X12_oneWord_10b C hr (rec10 := f_X12_oneWord_10 n rec5 v0 v1 v2 k) L5 ih cv1 cv2 cv3 cv4 (show f_X12_oneWord_10b n rec5 (f_X12_oneWord_10 n rec5 v0 v1 v2 k) v0 v1 v2 v3 v4 h = some Z from hf)
set_option maxRecDepth 20000 in
theorem b_X12_oneWord_5b {g : GT} {Z : Int × MM} {n : Nat} (C : Cx g cX12_oneWord 5 yX12_oneWord 4 85) (hr : Rt g (some .int) 0 Z) {v0 v1 v2 : Int}  {rec5 : Int → Int → MM → RR} (L5 : ∀ (u1 u2 : Int) (h : MM), in32 u1 → in32 u2 → rec5 u1 u2 h = some Z → G g 5 [(2, v0), (0, u1), (0, u2), (3, 0), (3, 0)] [] h) (cv1 : in32 v1) (cv2 : in32 v2) {h : MM} (hf : f_X12_oneWord_5b n rec5 v0 v1 v2 h = some Z) : G g 5 [(2, v0), (0, v1), (0, v2), (3, 0), (3, 0)] [] h := by
  unfold f_X12_oneWord_5b at hf
  refine r_iconst C dX12_oneWord_5 ?_
  refine r_istore_n C dX12_oneWord_6 (Nat.le_of_ble_eq_true rfl) rfl ?_
  refine r_iconst C dX12_oneWord_7 ?_
  refine r_istore C dX12_oneWord_8 (Nat.le_of_ble_eq_true rfl) rfl ?_
  exact G.mask [true, true, true, true, true] rfl rfl (l_X12_oneWord_10 C hr L5 cv1 cv2 _ _ _ _ (in32_of rfl) (in32_of rfl) hf)
set_option maxRecDepth 20000 in
theorem l_X12_oneWord_5 {g : GT} {Z : Int × MM} {n : Nat} (C : Cx g cX12_oneWord 5 yX12_oneWord 4 85) (hr : Rt g (some .int) 0 Z) {v0 : Int}    : ∀ (k : Nat) (v1 v2 : Int) (h : MM), in32 v1 → in32 v2 → f_X12_oneWord_5 n  v0 k v1 v2 h = some Z → G g 5 [(2, v0), (0, v1), (0, v2), (3, 0), (3, 0)] [] h := by
  intro k
  induction k with
  | zero => intro v1 v2 h cv1 cv2 hf; exact absurd hf (by intro z; cases z)
  | succ k ih => intro v1 v2 h cv1 cv2 hf; exact b_X12_oneWord_5b C hr (rec5 := f_X12_oneWord_5 n  v0 k)  ih cv1 cv2 (show f_X12_oneWord_5b n  (f_X12_oneWord_5 n  v0 k) v0 v1 v2 h = some Z from hf)
set_option maxRecDepth 20000 in
theorem e_X12_oneWord {g : GT} {Z : Int × MM} {n : Nat} (C : Cx g cX12_oneWord 5 yX12_oneWord 4 85) (hr : Rt g (some .int) 0 Z) {v0 : Int} (cv0 : cK 2 v0) {h : MM} (hf : f_X12_oneWord n v0 h = some Z) : G g 0 [(2, v0), (3, 0), (3, 0), (3, 0), (3, 0)] [] h := by
  unfold f_X12_oneWord at hf
  refine r_bipush C dX12_oneWord_0 rfl ?_
  refine r_istore_n C dX12_oneWord_2 (Nat.le_of_ble_eq_true rfl) rfl ?_
  refine r_iconst C dX12_oneWord_3 ?_
  refine r_istore_n C dX12_oneWord_4 (Nat.le_of_ble_eq_true rfl) rfl ?_
  exact G.mask [true, true, true, false, false] rfl rfl (l_X12_oneWord_5 C hr   _ _ _ _ (in32_of rfl) (in32_of rfl) hf)
set_option maxRecDepth 20000 in
theorem am_X12_oneWord (l : Launch) (n : Nat) : AM l yX12_oneWord cX12_oneWord 5 (some .int) 4 85 [2] 0 (un1 (f_X12_oneWord n)) := by
  refine AM.intro (by decide) (fun xs hx => ?_) (fun g xs h Z hl C hr hx hf => ?_)
  · obtain ⟨a0, rfl, c0⟩ := canL_1 hx
    exact Nat.le_of_ble_eq_true rfl
  · obtain ⟨a0, rfl, c0⟩ := canL_1 hx
    have hf := (un1_e _ a0 _).symm.trans hf
    exact e_X12_oneWord (n := n) C hr c0 hf
/-! LinesPromisedModel.must(I)V -/
theorem dX12_must_0 : decode cX12_must 0 = .ok (.aload_n 0, 1) := by decide +kernel
theorem dX12_must_1 : decode cX12_must 1 = .ok (.aload_n 0, 1) := by decide +kernel
theorem dX12_must_2 : decode cX12_must 2 = .ok (.getfield 81, 3) := by decide +kernel
theorem dX12_must_5 : decode cX12_must 5 = .ok (.ifCond .ne 11, 3) := by decide +kernel
theorem dX12_must_8 : decode cX12_must 8 = .ok (.aload_n 0, 1) := by decide +kernel
theorem dX12_must_9 : decode cX12_must 9 = .ok (.invokevirtual 85, 3) := by decide +kernel
theorem dX12_must_12 : decode cX12_must 12 = .ok (.iload_n 1, 1) := by decide +kernel
theorem dX12_must_13 : decode cX12_must 13 = .ok (.if_icmp .eq 7, 3) := by decide +kernel
theorem dX12_must_16 : decode cX12_must 16 = .ok (.iconst 1, 1) := by decide +kernel
theorem dX12_must_17 : decode cX12_must 17 = .ok (.goto 4, 3) := by decide +kernel
theorem dX12_must_20 : decode cX12_must 20 = .ok (.iconst 0, 1) := by decide +kernel
theorem dX12_must_21 : decode cX12_must 21 = .ok (.putfield 81, 3) := by decide +kernel
theorem dX12_must_24 : decode cX12_must 24 = .ok (.aload_n 0, 1) := by decide +kernel
theorem dX12_must_25 : decode cX12_must 25 = .ok (.dup, 1) := by decide +kernel
theorem dX12_must_26 : decode cX12_must 26 = .ok (.getfield 75, 3) := by decide +kernel
theorem dX12_must_29 : decode cX12_must 29 = .ok (.aload_n 0, 1) := by decide +kernel
theorem dX12_must_30 : decode cX12_must 30 = .ok (.getfield 81, 3) := by decide +kernel
theorem dX12_must_33 : decode cX12_must 33 = .ok (.ifCond .eq 7, 3) := by decide +kernel
theorem dX12_must_36 : decode cX12_must 36 = .ok (.iconst 0, 1) := by decide +kernel
theorem dX12_must_37 : decode cX12_must 37 = .ok (.goto 4, 3) := by decide +kernel
theorem dX12_must_40 : decode cX12_must 40 = .ok (.iconst 1, 1) := by decide +kernel
theorem dX12_must_41 : decode cX12_must 41 = .ok (.iadd, 1) := by decide +kernel
theorem dX12_must_42 : decode cX12_must 42 = .ok (.putfield 75, 3) := by decide +kernel
theorem dX12_must_45 : decode cX12_must 45 = .ok (.return_, 1) := by decide +kernel
theorem cm_X12_must : CM yX12_must cX12_must 2 none 1 12 := ⟨w_1569, w_50, w_1570, w_97, ⟨by decide +kernel, by decide +kernel, by decide +kernel⟩, ⟨_, _, rfl⟩, by decide⟩
noncomputable def f_X12_must_41 (n : Nat)  (s0 s1 s2 : Int) (h : MM) : RR :=
  pf h s0 12 5 (wr (s1 + s2)) fun h1 =>
  some (0, h1)
noncomputable def f_X12_must_21 (n : Nat)  (v0 s0 s1 : Int) (h : MM) : RR :=
  ck (isb s1) <|
  pf h s0 12 6 s1 fun h1 =>
  gf h1 v0 12 5 fun r3 =>
  gf h1 v0 12 6 fun r4 =>
  if r4 = 0 then
    f_X12_must_41 n v0 r3 1 h1
  else
  f_X12_must_41 n v0 r3 0 h1
noncomputable def f_X12_must_16 (n : Nat)  (v0 s0 : Int) (h : MM) : RR :=
  f_X12_must_21 n v0 s0 1 h
noncomputable def f_X12_must (n : Nat) (v0 v1 : Int) (h : MM) : RR :=
  gf h v0 12 6 fun r1 =>
  if r1 = 0 then
    gk h v0 12 <|
    bd (f_X12_here n v0 h) fun r3 h3 =>
    if r3 = v1 then
      f_X12_must_21 n v0 v0 0 h3
    else
    f_X12_must_16 n v0 v0 h3
  else
  f_X12_must_16 n v0 v0 h
set_option maxRecDepth 20000 in
theorem b_X12_must_41 {g : GT} {Z : Int × MM} {n : Nat} (C : Cx g cX12_must 2 yX12_must 1 20) (hr : Rt g none 3 Z) {s0 s1 s2 : Int}    (cs1 : in32 s1) (cs2 : in32 s2) {h : MM} (hf : f_X12_must_41 n  s0 s1 s2 h = some Z) : G g 41 [(3, 0), (3, 0)] [(0, s2), (0, s1), (2, s0)] h := by
  unfold f_X12_must_41 at hf
  refine r_iadd C dX12_must_41 ?_
  obtain ⟨q1, hf⟩ := pf_s hf
  refine r_pf C ct12 (j := 5) (ji := 5) dX12_must_42 q1 rfl rfl (by decide) w_1430 rfl (Or.inl rfl) nar_int (in32_t _) ?_
  cases hf
  exact r_vret C hr dX12_must_45
set_option maxRecDepth 20000 in
theorem b_X12_must_21 {g : GT} {Z : Int × MM} {n : Nat} (C : Cx g cX12_must 2 yX12_must 1 20) (hr : Rt g none 3 Z) {v0 s0 s1 : Int}    (cs1 : in32 s1) {h : MM} (hf : f_X12_must_21 n  v0 s0 s1 h = some Z) : G g 21 [(2, v0), (3, 0)] [(0, s1), (2, s0)] h := by
  unfold f_X12_must_21 at hf
  obtain ⟨b2, hf⟩ := ck_s hf
  obtain ⟨q1, hf⟩ := pf_s hf
  refine r_pf C ct12 (j := 6) (ji := 6) dX12_must_21 q1 rfl rfl (by decide) w_1431 rfl (Or.inl rfl) (nar_bool (isb_s b2)) cs1 ?_
  refine r_aload_n C dX12_must_24 rfl ?_
  refine r_dup C dX12_must_25 (by decide) ?_
  obtain ⟨q3, hf⟩ := gf_s hf
  refine r_gf C ct12 (j := 5) (ji := 5) dX12_must_26 q3 rfl rfl (by decide) w_1430 rfl (fun c3 => ?_)
  have c3 : in32 _ := c3
  refine r_aload_n C dX12_must_29 rfl ?_
  obtain ⟨q4, hf⟩ := gf_s hf
  refine r_gf C ct12 (j := 6) (ji := 6) dX12_must_30 q4 rfl rfl (by decide) w_1431 rfl (fun c4 => ?_)
  have c4 : in32 _ := c4
  refine r_if_eq C dX12_must_33 (tgt := 40) (by decide) c4 (fun n5 => ?_) (fun n5 => ?_)
  · have hf := ite_p n5 hf
    refine r_iconst C dX12_must_40 ?_
    exact G.mask [false, false] rfl rfl (b_X12_must_41 C hr  c3 (in32_of rfl) hf)
  · have hf := ite_n n5 hf
    refine r_iconst C dX12_must_36 ?_
    refine r_goto C dX12_must_37 (tgt := 41) (by decide) ?_
    exact G.mask [false, false] rfl rfl (b_X12_must_41 C hr  c3 (in32_of rfl) hf)
set_option maxRecDepth 20000 in
theorem b_X12_must_16 {g : GT} {Z : Int × MM} {n : Nat} (C : Cx g cX12_must 2 yX12_must 1 20) (hr : Rt g none 3 Z) {v0 s0 : Int}     {h : MM} (hf : f_X12_must_16 n  v0 s0 h = some Z) : G g 16 [(2, v0), (3, 0)] [(2, s0)] h := by
  unfold f_X12_must_16 at hf
  refine r_iconst C dX12_must_16 ?_
  refine r_goto C dX12_must_17 (tgt := 21) (by decide) ?_
  exact G.mask [true, false] rfl rfl (b_X12_must_21 C hr  (in32_of rfl) hf)
set_option maxRecDepth 20000 in
theorem e_X12_must {g : GT} {Z : Int × MM} {n : Nat} (C : Cx g cX12_must 2 yX12_must 1 20) (hr : Rt g none 3 Z) {v0 v1 : Int} (cv0 : cK 2 v0) (cv1 : cK 0 v1) {h : MM} (hf : f_X12_must n v0 v1 h = some Z) : G g 0 [(2, v0), (0, v1)] [] h := by
  have cv1 : in32 v1 := cv1
  unfold f_X12_must at hf
  refine r_aload_n C dX12_must_0 rfl ?_
  refine r_aload_n C dX12_must_1 rfl ?_
  obtain ⟨q1, hf⟩ := gf_s hf
  refine r_gf C ct12 (j := 6) (ji := 6) dX12_must_2 q1 rfl rfl (by decide) w_1431 rfl (fun c1 => ?_)
  have c1 : in32 _ := c1
  refine r_if_ne C dX12_must_5 (tgt := 16) (by decide) c1 (fun n2 => ?_) (fun n2 => ?_)
  · have hf := ite_n n2 hf
    exact G.mask [true, false] rfl rfl (b_X12_must_16 C hr   hf)
  · have hf := ite_p n2 hf
    refine r_aload_n C dX12_must_8 rfl ?_
    obtain ⟨p3, hf⟩ := gk_s hf
    obtain ⟨r3, h3, hq3, hf⟩ := bd_s hf
    refine r_cV0 C (am_X12_here (gl g) n) cm_X12_here w_1551 dX12_must_9 ⟨Nat.le_of_ble_eq_true rfl, Nat.le_of_ble_eq_true rfl⟩ p3 rfl  rfl (Nat.le_of_ble_eq_true rfl) hq3 (by decide) (fun c3 => ?_)
    have c3 : in32 _ := c3
    refine r_iload_n C dX12_must_12 rfl ?_
    refine r_icmp_eq C dX12_must_13 (tgt := 20) (by decide) c3 cv1 (fun n4 => ?_) (fun n4 => ?_)
    · have hf := ite_p n4 hf
      refine r_iconst C dX12_must_20 ?_
      exact G.mask [true, false] rfl rfl (b_X12_must_21 C hr  (in32_of rfl) hf)
    · have hf := ite_n n4 hf
      exact G.mask [true, false] rfl rfl (b_X12_must_16 C hr   hf)
set_option maxRecDepth 20000 in
theorem am_X12_must (l : Launch) (n : Nat) : AM l yX12_must cX12_must 2 none 1 20 [2, 0] 3 (un2 (f_X12_must n)) := by
  refine AM.intro (by decide) (fun xs hx => ?_) (fun g xs h Z hl C hr hx hf => ?_)
  · obtain ⟨a0, a1, rfl, c0, c1⟩ := canL_2 hx
    exact Nat.le_of_ble_eq_true rfl
  · obtain ⟨a0, a1, rfl, c0, c1⟩ := canL_2 hx
    have hf := (un2_e _ a0 a1 _).symm.trans hf
    exact e_X12_must (n := n) C hr c0 c1 hf
/-! LinesPromisedModel.number()I -/
theorem dX12_number_0 : decode cX12_number 0 = .ok (.aload_n 0, 1) := by decide +kernel
theorem dX12_number_1 : decode cX12_number 1 = .ok (.aload_n 0, 1) := by decide +kernel
theorem dX12_number_2 : decode cX12_number 2 = .ok (.getfield 81, 3) := by decide +kernel
theorem dX12_number_5 : decode cX12_number 5 = .ok (.ifCond .ne 17, 3) := by decide +kernel
theorem dX12_number_8 : decode cX12_number 8 = .ok (.aload_n 0, 1) := by decide +kernel
theorem dX12_number_9 : decode cX12_number 9 = .ok (.invokevirtual 85, 3) := by decide +kernel
theorem dX12_number_12 : decode cX12_number 12 = .ok (.bipush 48, 2) := by decide +kernel
theorem dX12_number_14 : decode cX12_number 14 = .ok (.bipush 57, 2) := by decide +kernel
theorem dX12_number_16 : decode cX12_number 16 = .ok (.invokestatic 58, 3) := by decide +kernel
theorem dX12_number_19 : decode cX12_number 19 = .ok (.ifCond .ne 7, 3) := by decide +kernel
theorem dX12_number_22 : decode cX12_number 22 = .ok (.iconst 1, 1) := by decide +kernel
theorem dX12_number_23 : decode cX12_number 23 = .ok (.goto 4, 3) := by decide +kernel
theorem dX12_number_26 : decode cX12_number 26 = .ok (.iconst 0, 1) := by decide +kernel
theorem dX12_number_27 : decode cX12_number 27 = .ok (.putfield 81, 3) := by decide +kernel
theorem dX12_number_30 : decode cX12_number 30 = .ok (.iconst 0, 1) := by decide +kernel
theorem dX12_number_31 : decode cX12_number 31 = .ok (.istore_n 1, 1) := by decide +kernel
theorem dX12_number_32 : decode cX12_number 32 = .ok (.iconst 0, 1) := by decide +kernel
theorem dX12_number_33 : decode cX12_number 33 = .ok (.istore_n 2, 1) := by decide +kernel
theorem dX12_number_34 : decode cX12_number 34 = .ok (.iload_n 2, 1) := by decide +kernel
theorem dX12_number_35 : decode cX12_number 35 = .ok (.iconst 3, 1) := by decide +kernel
theorem dX12_number_36 : decode cX12_number 36 = .ok (.if_icmp .ge 61, 3) := by decide +kernel
theorem dX12_number_39 : decode cX12_number 39 = .ok (.aload_n 0, 1) := by decide +kernel
theorem dX12_number_40 : decode cX12_number 40 = .ok (.getfield 81, 3) := by decide +kernel
theorem dX12_number_43 : decode cX12_number 43 = .ok (.ifCond .ne 54, 3) := by decide +kernel
theorem dX12_number_46 : decode cX12_number 46 = .ok (.aload_n 0, 1) := by decide +kernel
theorem dX12_number_47 : decode cX12_number 47 = .ok (.invokevirtual 85, 3) := by decide +kernel
theorem dX12_number_50 : decode cX12_number 50 = .ok (.bipush 48, 2) := by decide +kernel
theorem dX12_number_52 : decode cX12_number 52 = .ok (.bipush 57, 2) := by decide +kernel
theorem dX12_number_54 : decode cX12_number 54 = .ok (.invokestatic 58, 3) := by decide +kernel
theorem dX12_number_57 : decode cX12_number 57 = .ok (.ifCond .eq 40, 3) := by decide +kernel
theorem dX12_number_60 : decode cX12_number 60 = .ok (.iload_n 2, 1) := by decide +kernel
theorem dX12_number_61 : decode cX12_number 61 = .ok (.ifCond .eq 7, 3) := by decide +kernel
theorem dX12_number_64 : decode cX12_number 64 = .ok (.iload_n 1, 1) := by decide +kernel
theorem dX12_number_65 : decode cX12_number 65 = .ok (.ifCond .le 32, 3) := by decide +kernel
theorem dX12_number_68 : decode cX12_number 68 = .ok (.bipush 10, 2) := by decide +kernel
theorem dX12_number_70 : decode cX12_number 70 = .ok (.iload_n 1, 1) := by decide +kernel
theorem dX12_number_71 : decode cX12_number 71 = .ok (.imul, 1) := by decide +kernel
theorem dX12_number_72 : decode cX12_number 72 = .ok (.aload_n 0, 1) := by decide +kernel
theorem dX12_number_73 : decode cX12_number 73 = .ok (.invokevirtual 85, 3) := by decide +kernel
theorem dX12_number_76 : decode cX12_number 76 = .ok (.iadd, 1) := by decide +kernel
theorem dX12_number_77 : decode cX12_number 77 = .ok (.bipush 48, 2) := by decide +kernel
theorem dX12_number_79 : decode cX12_number 79 = .ok (.isub, 1) := by decide +kernel
theorem dX12_number_80 : decode cX12_number 80 = .ok (.istore_n 1, 1) := by decide +kernel
theorem dX12_number_81 : decode cX12_number 81 = .ok (.aload_n 0, 1) := by decide +kernel
theorem dX12_number_82 : decode cX12_number 82 = .ok (.dup, 1) := by decide +kernel
theorem dX12_number_83 : decode cX12_number 83 = .ok (.getfield 75, 3) := by decide +kernel
theorem dX12_number_86 : decode cX12_number 86 = .ok (.iconst 1, 1) := by decide +kernel
theorem dX12_number_87 : decode cX12_number 87 = .ok (.iadd, 1) := by decide +kernel
theorem dX12_number_88 : decode cX12_number 88 = .ok (.putfield 75, 3) := by decide +kernel
theorem dX12_number_91 : decode cX12_number 91 = .ok (.iinc 2 1, 3) := by decide +kernel
theorem dX12_number_94 : decode cX12_number 94 = .ok (.goto (-60), 3) := by decide +kernel
theorem dX12_number_97 : decode cX12_number 97 = .ok (.iload_n 1, 1) := by decide +kernel
theorem dX12_number_98 : decode cX12_number 98 = .ok (.ireturn, 1) := by decide +kernel
theorem cm_X12_number : CM yX12_number cX12_number 3 (some .int) 0 12 := ⟨w_1573, w_51, w_1574, w_97, ⟨by decide +kernel, by decide +kernel, by decide +kernel⟩, ⟨_, _, rfl⟩, by decide⟩
noncomputable def f_X12_number_97 (n : Nat)  (v1 : Int) (h : MM) : RR :=
  some (v1, h)
noncomputable def f_X12_number_68 (n : Nat) (rec34 : Int → Int → MM → RR) (v0 v1 v2 : Int) (h : MM) : RR :=
  gk h v0 12 <|
  bd (f_X12_here n v0 h) fun r1 h1 =>
  lb (wr ((wr ((wr (10 * v1)) + r1)) - 48)) fun x2 =>
  gf h1 v0 12 5 fun r3 =>
  pf h1 v0 12 5 (wr (r3 + 1)) fun h4 =>
  lb (wr (v2 + 1)) fun x5 =>
  rec34 x2 x5 h4
noncomputable def f_X12_number_34b (n : Nat) (rec34 : Int → Int → MM → RR) (v0 v1 v2 : Int) (h : MM) : RR :=
  if 3 ≤ v2 then
    f_X12_number_97 n v1 h
  else
  gf h v0 12 6 fun r2 =>
  if r2 = 0 then
    gk h v0 12 <|
    bd (f_X12_here n v0 h) fun r4 h4 =>
    bd (f_X12_in n r4 48 57 h4) fun r5 h5 =>
    if r5 = 0 then
      f_X12_number_97 n v1 h5
    else
    if v2 = 0 then
      f_X12_number_68 n rec34 v0 v1 v2 h5
    else
    if v1 ≤ 0 then
      f_X12_number_97 n v1 h5
    else
    f_X12_number_68 n rec34 v0 v1 v2 h5
  else
  f_X12_number_97 n v1 h
noncomputable def f_X12_number_34 (n : Nat)  (v0 : Int) : Nat → Int → Int → MM → RR
  | 0, _, _, _ => none
  | k + 1, v1, v2, h => f_X12_number_34b n  (f_X12_number_34 n  v0 k) v0 v1 v2 h
noncomputable def f_X12_number_27 (n : Nat)  (v0 s0 s1 : Int) (h : MM) : RR :=
  ck (isb s1) <|
  pf h s0 12 6 s1 fun h1 =>
  f_X12_number_34 n v0 n 0 0 h1
noncomputable def f_X12_number_22 (n : Nat)  (v0 s0 : Int) (h : MM) : RR :=
  f_X12_number_27 n v0 s0 1 h
noncomputable def f_X12_number (n : Nat) (v0 : Int) (h : MM) : RR :=
  gf h v0 12 6 fun r1 =>
  if r1 = 0 then
    gk h v0 12 <|
    bd (f_X12_here n v0 h) fun r3 h3 =>
    bd (f_X12_in n r3 48 57 h3) fun r4 h4 =>
    if r4 = 0 then
      f_X12_number_22 n v0 v0 h4
    else
    f_X12_number_27 n v0 v0 0 h4
  else
  f_X12_number_22 n v0 v0 h
set_option maxRecDepth 20000 in
theorem b_X12_number_97 {g : GT} {Z : Int × MM} {n : Nat} (C : Cx g cX12_number 3 yX12_number 1 22) (hr : Rt g (some .int) 0 Z) {v1 : Int}    (cv1 : in32 v1) {h : MM} (hf : f_X12_number_97 n  v1 h = some Z) : G g 97 [(3, 0), (0, v1), (3, 0)] [] h := by
  unfold f_X12_number_97 at hf
  refine r_iload_n C dX12_number_97 rfl ?_
  cases hf
  exact r_jret C hr dX12_number_98 cv1
set_option maxRecDepth 20000 in
theorem b_X12_number_68 {g : GT} {Z : Int × MM} {n : Nat} (C : Cx g cX12_number 3 yX12_number 1 22) (hr : Rt g (some .int) 0 Z) {v0 v1 v2 : Int}  {rec34 : Int → Int → MM → RR} (L34 : ∀ (u1 u2 : Int) (h : MM), in32 u1 → in32 u2 → rec34 u1 u2 h = some Z → G g 34 [(2, v0), (0, u1), (0, u2)] [] h) (cv1 : in32 v1) (cv2 : in32 v2) {h : MM} (hf : f_X12_number_68 n rec34 v0 v1 v2 h = some Z) : G g 68 [(2, v0), (0, v1), (0, v2)] [] h := by
  unfold f_X12_number_68 at hf
  refine r_bipush C dX12_number_68 rfl ?_
  refine r_iload_n C dX12_number_70 rfl ?_
  refine r_imul C dX12_number_71 ?_
  refine r_aload_n C dX12_number_72 rfl ?_
  obtain ⟨p1, hf⟩ := gk_s hf
  obtain ⟨r1, h1, hq1, hf⟩ := bd_s hf
  refine r_cV0 C (am_X12_here (gl g) n) cm_X12_here w_1551 dX12_number_73 ⟨Nat.le_of_ble_eq_true rfl, Nat.le_of_ble_eq_true rfl⟩ p1 rfl  rfl (Nat.le_of_ble_eq_true rfl) hq1 (by decide) (fun c1 => ?_)
  have c1 : in32 _ := c1
  refine r_iadd C dX12_number_76 ?_
  refine r_bipush C dX12_number_77 rfl ?_
  refine r_isub C dX12_number_79 ?_
  obtain ⟨x2, e2, hf⟩ := lb_s hf
  have c2 : in32 x2 := by rw [e2]; exact (in32_t _)
  refine r_istore_nL C dX12_number_80 e2 (Nat.le_of_ble_eq_true rfl) rfl ?_
  refine r_aload_n C dX12_number_81 rfl ?_
  refine r_dup C dX12_number_82 (by decide) ?_
  obtain ⟨q3, hf⟩ := gf_s hf
  refine r_gf C ct12 (j := 5) (ji := 5) dX12_number_83 q3 rfl rfl (by decide) w_1430 rfl (fun c3 => ?_)
  have c3 : in32 _ := c3
  refine r_iconst C dX12_number_86 ?_
  refine r_iadd C dX12_number_87 ?_
  obtain ⟨q4, hf⟩ := pf_s hf
  refine r_pf C ct12 (j := 5) (ji := 5) dX12_number_88 q4 rfl rfl (by decide) w_1430 rfl (Or.inl rfl) nar_int (in32_t _) ?_
  obtain ⟨x5, e5, hf⟩ := lb_s hf
  have c5 : in32 x5 := by rw [e5]; exact (in32_t _)
  refine r_iincL C dX12_number_91 rfl e5 (Nat.le_of_ble_eq_true rfl) rfl ?_
  refine r_goto C dX12_number_94 (tgt := 34) (by decide) ?_
  exact G.mask [true, true, true] rfl rfl (L34 _ _ _ c2 c5 hf)
set_option maxRecDepth 20000 in
theorem b_X12_number_34b {g : GT} {Z : Int × MM} {n : Nat} (C : Cx g cX12_number 3 yX12_number 1 22) (hr : Rt g (some .int) 0 Z) {v0 v1 v2 : Int}  {rec34 : Int → Int → MM → RR} (L34 : ∀ (u1 u2 : Int) (h : MM), in32 u1 → in32 u2 → rec34 u1 u2 h = some Z → G g 34 [(2, v0), (0, u1), (0, u2)] [] h) (cv1 : in32 v1) (cv2 : in32 v2) {h : MM} (hf : f_X12_number_34b n rec34 v0 v1 v2 h = some Z) : G g 34 [(2, v0), (0, v1), (0, v2)] [] h := by
  unfold f_X12_number_34b at hf
  refine r_iload_n C dX12_number_34 rfl ?_
  refine r_iconst C dX12_number_35 ?_
  refine r_icmp_ge C dX12_number_36 (tgt := 97) (by decide) cv2 (in32_of rfl) (fun n1 => ?_) (fun n1 => ?_)
  · have hf := ite_p n1 hf
    exact G.mask [false, true, false] rfl rfl (b_X12_number_97 C hr  cv1 hf)
  · have hf := ite_n n1 hf
    refine r_aload_n C dX12_number_39 rfl ?_
    obtain ⟨q2, hf⟩ := gf_s hf
    refine r_gf C ct12 (j := 6) (ji := 6) dX12_number_40 q2 rfl rfl (by decide) w_1431 rfl (fun c2 => ?_)
    have c2 : in32 _ := c2
    refine r_if_ne C dX12_number_43 (tgt := 97) (by decide) c2 (fun n3 => ?_) (fun n3 => ?_)
    · have hf := ite_n n3 hf
      exact G.mask [false, true, false] rfl rfl (b_X12_number_97 C hr  cv1 hf)
    · have hf := ite_p n3 hf
      refine r_aload_n C dX12_number_46 rfl ?_
      obtain ⟨p4, hf⟩ := gk_s hf
      obtain ⟨r4, h4, hq4, hf⟩ := bd_s hf
      refine r_cV0 C (am_X12_here (gl g) n) cm_X12_here w_1551 dX12_number_47 ⟨Nat.le_of_ble_eq_true rfl, Nat.le_of_ble_eq_true rfl⟩ p4 rfl  rfl (Nat.le_of_ble_eq_true rfl) hq4 (by decide) (fun c4 => ?_)
      have c4 : in32 _ := c4
      refine r_bipush C dX12_number_50 rfl ?_
      refine r_bipush C dX12_number_52 rfl ?_
      obtain ⟨r5, h5, hq5, hf⟩ := bd_s hf
      refine r_cS3 C (am_X12_in (gl g) n) cm_X12_in w_1496 dX12_number_54 ⟨Nat.le_of_ble_eq_true rfl, Nat.le_of_ble_eq_true rfl⟩ c4 (in32_of rfl) (in32_of rfl) rfl (Nat.le_of_ble_eq_true rfl) hq5 (by decide) (fun c5 => ?_)
      have c5 : in32 _ := c5
      refine r_if_eq C dX12_number_57 (tgt := 97) (by decide) c5 (fun n6 => ?_) (fun n6 => ?_)
      · have hf := ite_p n6 hf
        exact G.mask [false, true, false] rfl rfl (b_X12_number_97 C hr  cv1 hf)
      · have hf := ite_n n6 hf
        refine r_iload_n C dX12_number_60 rfl ?_
        refine r_if_eq C dX12_number_61 (tgt := 68) (by decide) cv2 (fun n7 => ?_) (fun n7 => ?_)
        · have hf := ite_p n7 hf
          exact G.mask [true, true, true] rfl rfl (b_X12_number_68 C hr L34 cv1 cv2 hf)
        · have hf := ite_n n7 hf
          refine r_iload_n C dX12_number_64 rfl ?_
          refine r_if_le C dX12_number_65 (tgt := 97) (by decide) cv1 (fun n8 => ?_) (fun n8 => ?_)
          · have hf := ite_p n8 hf
            exact G.mask [false, true, false] rfl rfl (b_X12_number_97 C hr  cv1 hf)
          · have hf := ite_n n8 hf
            exact G.mask [true, true, true] rfl rfl (b_X12_number_68 C hr L34 cv1 cv2 hf)
set_option maxRecDepth 20000 in
theorem l_X12_number_34 {g : GT} {Z : Int × MM} {n : Nat} (C : Cx g cX12_number 3 yX12_number 1 22) (hr : Rt g (some .int) 0 Z) {v0 : Int}    : ∀ (k : Nat) (v1 v2 : Int) (h : MM), in32 v1 → in32 v2 → f_X12_number_34 n  v0 k v1 v2 h = some Z → G g 34 [(2, v0), (0, v1), (0, v2)] [] h := by
  intro k
  induction k with
  | zero => intro v1 v2 h cv1 cv2 hf; exact absurd hf (by intro z; cases z)
  | succ k ih => intro v1 v2 h cv1 cv2 hf; exact b_X12_number_34b C hr (rec34 := f_X12_number_34 n  v0 k)  ih cv1 cv2 (show f_X12_number_34b n  (f_X12_number_34 n  v0 k) v0 v1 v2 h = some Z from hf)
set_option maxRecDepth 20000 in
theorem b_X12_number_27 {g : GT} {Z : Int × MM} {n : Nat} (C : Cx g cX12_number 3 yX12_number 1 22) (hr : Rt g (some .int) 0 Z) {v0 s0 s1 : Int}    (cs1 : in32 s1) {h : MM} (hf : f_X12_number_27 n  v0 s0 s1 h = some Z) : G g 27 [(2, v0), (3, 0), (3, 0)] [(0, s1), (2, s0)] h := by
  unfold f_X12_number_27 at hf
  obtain ⟨b2, hf⟩ := ck_s hf
  obtain ⟨q1, hf⟩ := pf_s hf
  refine r_pf C ct12 (j := 6) (ji := 6) dX12_number_27 q1 rfl rfl (by decide) w_1431 rfl (Or.inl rfl) (nar_bool (isb_s b2)) cs1 ?_
  refine r_iconst C dX12_number_30 ?_
  refine r_istore_n C dX12_number_31 (Nat.le_of_ble_eq_true rfl) rfl ?_
  refine r_iconst C dX12_number_32 ?_
  refine r_istore_n C dX12_number_33 (Nat.le_of_ble_eq_true rfl) rfl ?_
  exact G.mask [true, true, true] rfl rfl (l_X12_number_34 C hr   _ _ _ _ (in32_of rfl) (in32_of rfl) hf)
set_option maxRecDepth 20000 in
theorem b_X12_number_22 {g : GT} {Z : Int × MM} {n : Nat} (C : Cx g cX12_number 3 yX12_number 1 22) (hr : Rt g (some .int) 0 Z) {v0 s0 : Int}     {h : MM} (hf : f_X12_number_22 n  v0 s0 h = some Z) : G g 22 [(2, v0), (3, 0), (3, 0)] [(2, s0)] h := by
  unfold f_X12_number_22 at hf
  refine r_iconst C dX12_number_22 ?_
  refine r_goto C dX12_number_23 (tgt := 27) (by decide) ?_
  exact G.mask [true, false, false] rfl rfl (b_X12_number_27 C hr  (in32_of rfl) hf)
set_option maxRecDepth 20000 in
theorem e_X12_number {g : GT} {Z : Int × MM} {n : Nat} (C : Cx g cX12_number 3 yX12_number 1 22) (hr : Rt g (some .int) 0 Z) {v0 : Int} (cv0 : cK 2 v0) {h : MM} (hf : f_X12_number n v0 h = some Z) : G g 0 [(2, v0), (3, 0), (3, 0)] [] h := by
  unfold f_X12_number at hf
  refine r_aload_n C dX12_number_0 rfl ?_
  refine r_aload_n C dX12_number_1 rfl ?_
  obtain ⟨q1, hf⟩ := gf_s hf
  refine r_gf C ct12 (j := 6) (ji := 6) dX12_number_2 q1 rfl rfl (by decide) w_1431 rfl (fun c1 => ?_)
  have c1 : in32 _ := c1
  refine r_if_ne C dX12_number_5 (tgt := 22) (by decide) c1 (fun n2 => ?_) (fun n2 => ?_)
  · have hf := ite_n n2 hf
    exact G.mask [true, false, false] rfl rfl (b_X12_number_22 C hr   hf)
  · have hf := ite_p n2 hf
    refine r_aload_n C dX12_number_8 rfl ?_
    obtain ⟨p3, hf⟩ := gk_s hf
    obtain ⟨r3, h3, hq3, hf⟩ := bd_s hf
    refine r_cV0 C (am_X12_here (gl g) n) cm_X12_here w_1551 dX12_number_9 ⟨Nat.le_of_ble_eq_true rfl, Nat.le_of_ble_eq_true rfl⟩ p3 rfl  rfl (Nat.le_of_ble_eq_true rfl) hq3 (by decide) (fun c3 => ?_)
    have c3 : in32 _ := c3
    refine r_bipush C dX12_number_12 rfl ?_
    refine r_bipush C dX12_number_14 rfl ?_
    obtain ⟨r4, h4, hq4, hf⟩ := bd_s hf
    refine r_cS3 C (am_X12_in (gl g) n) cm_X12_in w_1496 dX12_number_16 ⟨Nat.le_of_ble_eq_true rfl, Nat.le_of_ble_eq_true rfl⟩ c3 (in32_of rfl) (in32_of rfl) rfl (Nat.le_of_ble_eq_true rfl) hq4 (by decide) (fun c4 => ?_)
    have c4 : in32 _ := c4
    refine r_if_ne C dX12_number_19 (tgt := 26) (by decide) c4 (fun n5 => ?_) (fun n5 => ?_)
    · have hf := ite_n n5 hf
      refine r_iconst C dX12_number_26 ?_
      exact G.mask [true, false, false] rfl rfl (b_X12_number_27 C hr  (in32_of rfl) hf)
    · have hf := ite_p n5 hf
      exact G.mask [true, false, false] rfl rfl (b_X12_number_22 C hr   hf)
set_option maxRecDepth 20000 in
theorem am_X12_number (l : Launch) (n : Nat) : AM l yX12_number cX12_number 3 (some .int) 1 22 [2] 0 (un1 (f_X12_number n)) := by
  refine AM.intro (by decide) (fun xs hx => ?_) (fun g xs h Z hl C hr hx hf => ?_)
  · obtain ⟨a0, rfl, c0⟩ := canL_1 hx
    exact Nat.le_of_ble_eq_true rfl
  · obtain ⟨a0, rfl, c0⟩ := canL_1 hx
    have hf := (un1_e _ a0 _).symm.trans hf
    exact e_X12_number (n := n) C hr c0 hf
/-! LinesPromisedModel.factor()Z, LinesPromisedModel.every()Z, LinesPromisedModel.some()Z -/
theorem dX12_factor_0 : decode cX12_factor 0 = .ok (.aload_n 0, 1) := by decide +kernel
theorem dX12_factor_1 : decode cX12_factor 1 = .ok (.getfield 81, 3) := by decide +kernel
theorem dX12_factor_4 : decode cX12_factor 4 = .ok (.ifCond .eq 5, 3) := by decide +kernel
theorem dX12_factor_7 : decode cX12_factor 7 = .ok (.iconst 0, 1) := by decide +kernel
theorem dX12_factor_8 : decode cX12_factor 8 = .ok (.ireturn, 1) := by decide +kernel
theorem dX12_factor_9 : decode cX12_factor 9 = .ok (.aload_n 0, 1) := by decide +kernel
theorem dX12_factor_10 : decode cX12_factor 10 = .ok (.invokevirtual 85, 3) := by decide +kernel
theorem dX12_factor_13 : decode cX12_factor 13 = .ok (.istore_n 1, 1) := by decide +kernel
theorem dX12_factor_14 : decode cX12_factor 14 = .ok (.iload_n 1, 1) := by decide +kernel
theorem dX12_factor_15 : decode cX12_factor 15 = .ok (.bipush 33, 2) := by decide +kernel
theorem dX12_factor_17 : decode cX12_factor 17 = .ok (.if_icmp .eq 9, 3) := by decide +kernel
theorem dX12_factor_20 : decode cX12_factor 20 = .ok (.iload_n 1, 1) := by decide +kernel
theorem dX12_factor_21 : decode cX12_factor 21 = .ok (.bipush 40, 2) := by decide +kernel
theorem dX12_factor_23 : decode cX12_factor 23 = .ok (.if_icmp .ne 112, 3) := by decide +kernel
theorem dX12_factor_26 : decode cX12_factor 26 = .ok (.aload_n 0, 1) := by decide +kernel
theorem dX12_factor_27 : decode cX12_factor 27 = .ok (.aload_n 0, 1) := by decide +kernel
theorem dX12_factor_28 : decode cX12_factor 28 = .ok (.getfield 116, 3) := by decide +kernel
theorem dX12_factor_31 : decode cX12_factor 31 = .ok (.iconst 5, 1) := by decide +kernel
theorem dX12_factor_32 : decode cX12_factor 32 = .ok (.if_icmp .ne 7, 3) := by decide +kernel
theorem dX12_factor_35 : decode cX12_factor 35 = .ok (.iconst 1, 1) := by decide +kernel
theorem dX12_factor_36 : decode cX12_factor 36 = .ok (.goto 4, 3) := by decide +kernel
theorem dX12_factor_39 : decode cX12_factor 39 = .ok (.iconst 0, 1) := by decide +kernel
theorem dX12_factor_40 : decode cX12_factor 40 = .ok (.putfield 81, 3) := by decide +kernel
theorem dX12_factor_43 : decode cX12_factor 43 = .ok (.aload_n 0, 1) := by decide +kernel
theorem dX12_factor_44 : decode cX12_factor 44 = .ok (.dup, 1) := by decide +kernel
theorem dX12_factor_45 : decode cX12_factor 45 = .ok (.getfield 116, 3) := by decide +kernel
theorem dX12_factor_48 : decode cX12_factor 48 = .ok (.iconst 1, 1) := by decide +kernel
theorem dX12_factor_49 : decode cX12_factor 49 = .ok (.iadd, 1) := by decide +kernel
theorem dX12_factor_50 : decode cX12_factor 50 = .ok (.putfield 116, 3) := by decide +kernel
theorem dX12_factor_53 : decode cX12_factor 53 = .ok (.aload_n 0, 1) := by decide +kernel
theorem dX12_factor_54 : decode cX12_factor 54 = .ok (.dup, 1) := by decide +kernel
theorem dX12_factor_55 : decode cX12_factor 55 = .ok (.getfield 75, 3) := by decide +kernel
theorem dX12_factor_58 : decode cX12_factor 58 = .ok (.aload_n 0, 1) := by decide +kernel
theorem dX12_factor_59 : decode cX12_factor 59 = .ok (.getfield 81, 3) := by decide +kernel
theorem dX12_factor_62 : decode cX12_factor 62 = .ok (.ifCond .eq 7, 3) := by decide +kernel
theorem dX12_factor_65 : decode cX12_factor 65 = .ok (.iconst 0, 1) := by decide +kernel
theorem dX12_factor_66 : decode cX12_factor 66 = .ok (.goto 4, 3) := by decide +kernel
theorem dX12_factor_69 : decode cX12_factor 69 = .ok (.iconst 1, 1) := by decide +kernel
theorem dX12_factor_70 : decode cX12_factor 70 = .ok (.iadd, 1) := by decide +kernel
theorem dX12_factor_71 : decode cX12_factor 71 = .ok (.putfield 75, 3) := by decide +kernel
theorem dX12_factor_74 : decode cX12_factor 74 = .ok (.aload_n 0, 1) := by decide +kernel
theorem dX12_factor_75 : decode cX12_factor 75 = .ok (.getfield 81, 3) := by decide +kernel
theorem dX12_factor_78 : decode cX12_factor 78 = .ok (.ifCond .eq 7, 3) := by decide +kernel
theorem dX12_factor_81 : decode cX12_factor 81 = .ok (.iconst 0, 1) := by decide +kernel
theorem dX12_factor_82 : decode cX12_factor 82 = .ok (.goto 28, 3) := by decide +kernel
theorem dX12_factor_85 : decode cX12_factor 85 = .ok (.iload_n 1, 1) := by decide +kernel
theorem dX12_factor_86 : decode cX12_factor 86 = .ok (.bipush 33, 2) := by decide +kernel
theorem dX12_factor_88 : decode cX12_factor 88 = .ok (.if_icmp .ne 18, 3) := by decide +kernel
theorem dX12_factor_91 : decode cX12_factor 91 = .ok (.aload_n 0, 1) := by decide +kernel
theorem dX12_factor_92 : decode cX12_factor 92 = .ok (.invokevirtual 119, 3) := by decide +kernel
theorem dX12_factor_95 : decode cX12_factor 95 = .ok (.ifCond .ne 7, 3) := by decide +kernel
theorem dX12_factor_98 : decode cX12_factor 98 = .ok (.iconst 1, 1) := by decide +kernel
theorem dX12_factor_99 : decode cX12_factor 99 = .ok (.goto 11, 3) := by decide +kernel
theorem dX12_factor_102 : decode cX12_factor 102 = .ok (.iconst 0, 1) := by decide +kernel
theorem dX12_factor_103 : decode cX12_factor 103 = .ok (.goto 7, 3) := by decide +kernel
theorem dX12_factor_106 : decode cX12_factor 106 = .ok (.aload_n 0, 1) := by decide +kernel
theorem dX12_factor_107 : decode cX12_factor 107 = .ok (.invokevirtual 123, 3) := by decide +kernel
theorem dX12_factor_110 : decode cX12_factor 110 = .ok (.istore_n 2, 1) := by decide +kernel
theorem dX12_factor_111 : decode cX12_factor 111 = .ok (.iload_n 1, 1) := by decide +kernel
theorem dX12_factor_112 : decode cX12_factor 112 = .ok (.bipush 40, 2) := by decide +kernel
theorem dX12_factor_114 : decode cX12_factor 114 = .ok (.if_icmp .ne 9, 3) := by decide +kernel
theorem dX12_factor_117 : decode cX12_factor 117 = .ok (.aload_n 0, 1) := by decide +kernel
theorem dX12_factor_118 : decode cX12_factor 118 = .ok (.bipush 41, 2) := by decide +kernel
theorem dX12_factor_120 : decode cX12_factor 120 = .ok (.invokevirtual 125, 3) := by decide +kernel
theorem dX12_factor_123 : decode cX12_factor 123 = .ok (.aload_n 0, 1) := by decide +kernel
theorem dX12_factor_124 : decode cX12_factor 124 = .ok (.dup, 1) := by decide +kernel
theorem dX12_factor_125 : decode cX12_factor 125 = .ok (.getfield 116, 3) := by decide +kernel
theorem dX12_factor_128 : decode cX12_factor 128 = .ok (.iconst 1, 1) := by decide +kernel
theorem dX12_factor_129 : decode cX12_factor 129 = .ok (.isub, 1) := by decide +kernel
theorem dX12_factor_130 : decode cX12_factor 130 = .ok (.putfield 116, 3) := by decide +kernel
theorem dX12_factor_133 : decode cX12_factor 133 = .ok (.iload_n 2, 1) := by decide +kernel
theorem dX12_factor_134 : decode cX12_factor 134 = .ok (.ireturn, 1) := by decide +kernel
theorem dX12_factor_135 : decode cX12_factor 135 = .ok (.iload_n 1, 1) := by decide +kernel
theorem dX12_factor_136 : decode cX12_factor 136 = .ok (.bipush 103, 2) := by decide +kernel
theorem dX12_factor_138 : decode cX12_factor 138 = .ok (.if_icmp .ne 89, 3) := by decide +kernel
theorem dX12_factor_141 : decode cX12_factor 141 = .ok (.aload_n 0, 1) := by decide +kernel
theorem dX12_factor_142 : decode cX12_factor 142 = .ok (.dup, 1) := by decide +kernel
theorem dX12_factor_143 : decode cX12_factor 143 = .ok (.getfield 75, 3) := by decide +kernel
theorem dX12_factor_146 : decode cX12_factor 146 = .ok (.iconst 1, 1) := by decide +kernel
theorem dX12_factor_147 : decode cX12_factor 147 = .ok (.iadd, 1) := by decide +kernel
theorem dX12_factor_148 : decode cX12_factor 148 = .ok (.putfield 75, 3) := by decide +kernel
theorem dX12_factor_151 : decode cX12_factor 151 = .ok (.aload_n 0, 1) := by decide +kernel
theorem dX12_factor_152 : decode cX12_factor 152 = .ok (.bipush 61, 2) := by decide +kernel
theorem dX12_factor_154 : decode cX12_factor 154 = .ok (.invokevirtual 125, 3) := by decide +kernel
theorem dX12_factor_157 : decode cX12_factor 157 = .ok (.aload_n 0, 1) := by decide +kernel
theorem dX12_factor_158 : decode cX12_factor 158 = .ok (.invokevirtual 85, 3) := by decide +kernel
theorem dX12_factor_161 : decode cX12_factor 161 = .ok (.bipush 48, 2) := by decide +kernel
theorem dX12_factor_163 : decode cX12_factor 163 = .ok (.isub, 1) := by decide +kernel
theorem dX12_factor_164 : decode cX12_factor 164 = .ok (.istore_n 2, 1) := by decide +kernel
theorem dX12_factor_165 : decode cX12_factor 165 = .ok (.aload_n 0, 1) := by decide +kernel
theorem dX12_factor_166 : decode cX12_factor 166 = .ok (.aload_n 0, 1) := by decide +kernel
theorem dX12_factor_167 : decode cX12_factor 167 = .ok (.getfield 81, 3) := by decide +kernel
theorem dX12_factor_170 : decode cX12_factor 170 = .ok (.ifCond .ne 12, 3) := by decide +kernel
theorem dX12_factor_173 : decode cX12_factor 173 = .ok (.iload_n 2, 1) := by decide +kernel
theorem dX12_factor_174 : decode cX12_factor 174 = .ok (.iconst 0, 1) := by decide +kernel
theorem dX12_factor_175 : decode cX12_factor 175 = .ok (.iconst 1, 1) := by decide +kernel
theorem dX12_factor_176 : decode cX12_factor 176 = .ok (.invokestatic 58, 3) := by decide +kernel
theorem dX12_factor_179 : decode cX12_factor 179 = .ok (.ifCond .ne 7, 3) := by decide +kernel
theorem dX12_factor_182 : decode cX12_factor 182 = .ok (.iconst 1, 1) := by decide +kernel
theorem dX12_factor_183 : decode cX12_factor 183 = .ok (.goto 4, 3) := by decide +kernel
theorem dX12_factor_186 : decode cX12_factor 186 = .ok (.iconst 0, 1) := by decide +kernel
theorem dX12_factor_187 : decode cX12_factor 187 = .ok (.putfield 81, 3) := by decide +kernel
theorem dX12_factor_190 : decode cX12_factor 190 = .ok (.aload_n 0, 1) := by decide +kernel
theorem dX12_factor_191 : decode cX12_factor 191 = .ok (.dup, 1) := by decide +kernel
theorem dX12_factor_192 : decode cX12_factor 192 = .ok (.getfield 75, 3) := by decide +kernel
theorem dX12_factor_195 : decode cX12_factor 195 = .ok (.aload_n 0, 1) := by decide +kernel
theorem dX12_factor_196 : decode cX12_factor 196 = .ok (.getfield 81, 3) := by decide +kernel
theorem dX12_factor_199 : decode cX12_factor 199 = .ok (.ifCond .eq 7, 3) := by decide +kernel
theorem dX12_factor_202 : decode cX12_factor 202 = .ok (.iconst 0, 1) := by decide +kernel
theorem dX12_factor_203 : decode cX12_factor 203 = .ok (.goto 4, 3) := by decide +kernel
theorem dX12_factor_206 : decode cX12_factor 206 = .ok (.iconst 1, 1) := by decide +kernel
theorem dX12_factor_207 : decode cX12_factor 207 = .ok (.iadd, 1) := by decide +kernel
theorem dX12_factor_208 : decode cX12_factor 208 = .ok (.putfield 75, 3) := by decide +kernel
theorem dX12_factor_211 : decode cX12_factor 211 = .ok (.aload_n 0, 1) := by decide +kernel
theorem dX12_factor_212 : decode cX12_factor 212 = .ok (.getfield 17, 3) := by decide +kernel
theorem dX12_factor_215 : decode cX12_factor 215 = .ok (.iconst 5, 1) := by decide +kernel
theorem dX12_factor_216 : decode cX12_factor 216 = .ok (.iaload, 1) := by decide +kernel
theorem dX12_factor_217 : decode cX12_factor 217 = .ok (.iload_n 2, 1) := by decide +kernel
theorem dX12_factor_218 : decode cX12_factor 218 = .ok (.if_icmp .ne 7, 3) := by decide +kernel
theorem dX12_factor_221 : decode cX12_factor 221 = .ok (.iconst 1, 1) := by decide +kernel
theorem dX12_factor_222 : decode cX12_factor 222 = .ok (.goto 4, 3) := by decide +kernel
theorem dX12_factor_225 : decode cX12_factor 225 = .ok (.iconst 0, 1) := by decide +kernel
theorem dX12_factor_226 : decode cX12_factor 226 = .ok (.ireturn, 1) := by decide +kernel
theorem dX12_factor_227 : decode cX12_factor 227 = .ok (.iload_n 1, 1) := by decide +kernel
theorem dX12_factor_228 : decode cX12_factor 228 = .ok (.bipush 121, 2) := by decide +kernel
theorem dX12_factor_230 : decode cX12_factor 230 = .ok (.if_icmp .ne 7, 3) := by decide +kernel
theorem dX12_factor_233 : decode cX12_factor 233 = .ok (.iconst 0, 1) := by decide +kernel
theorem dX12_factor_234 : decode cX12_factor 234 = .ok (.goto 44, 3) := by decide +kernel
theorem dX12_factor_237 : decode cX12_factor 237 = .ok (.iload_n 1, 1) := by decide +kernel
theorem dX12_factor_238 : decode cX12_factor 238 = .ok (.bipush 116, 2) := by decide +kernel
theorem dX12_factor_240 : decode cX12_factor 240 = .ok (.if_icmp .ne 7, 3) := by decide +kernel
theorem dX12_factor_243 : decode cX12_factor 243 = .ok (.iconst 1, 1) := by decide +kernel
theorem dX12_factor_244 : decode cX12_factor 244 = .ok (.goto 34, 3) := by decide +kernel
theorem dX12_factor_247 : decode cX12_factor 247 = .ok (.iload_n 1, 1) := by decide +kernel
theorem dX12_factor_248 : decode cX12_factor 248 = .ok (.bipush 119, 2) := by decide +kernel
theorem dX12_factor_250 : decode cX12_factor 250 = .ok (.if_icmp .ne 7, 3) := by decide +kernel
theorem dX12_factor_253 : decode cX12_factor 253 = .ok (.iconst 2, 1) := by decide +kernel
theorem dX12_factor_254 : decode cX12_factor 254 = .ok (.goto 24, 3) := by decide +kernel
theorem dX12_factor_257 : decode cX12_factor 257 = .ok (.iload_n 1, 1) := by decide +kernel
theorem dX12_factor_258 : decode cX12_factor 258 = .ok (.bipush 114, 2) := by decide +kernel
theorem dX12_factor_260 : decode cX12_factor 260 = .ok (.if_icmp .ne 7, 3) := by decide +kernel
theorem dX12_factor_263 : decode cX12_factor 263 = .ok (.iconst 3, 1) := by decide +kernel
theorem dX12_factor_264 : decode cX12_factor 264 = .ok (.goto 14, 3) := by decide +kernel
theorem dX12_factor_267 : decode cX12_factor 267 = .ok (.iload_n 1, 1) := by decide +kernel
theorem dX12_factor_268 : decode cX12_factor 268 = .ok (.bipush 99, 2) := by decide +kernel
theorem dX12_factor_270 : decode cX12_factor 270 = .ok (.if_icmp .ne 7, 3) := by decide +kernel
theorem dX12_factor_273 : decode cX12_factor 273 = .ok (.iconst 4, 1) := by decide +kernel
theorem dX12_factor_274 : decode cX12_factor 274 = .ok (.goto 4, 3) := by decide +kernel
theorem dX12_factor_277 : decode cX12_factor 277 = .ok (.iconst (-1), 1) := by decide +kernel
theorem dX12_factor_278 : decode cX12_factor 278 = .ok (.istore_n 2, 1) := by decide +kernel
theorem dX12_factor_279 : decode cX12_factor 279 = .ok (.aload_n 0, 1) := by decide +kernel
theorem dX12_factor_280 : decode cX12_factor 280 = .ok (.iload_n 2, 1) := by decide +kernel
theorem dX12_factor_281 : decode cX12_factor 281 = .ok (.iconst (-1), 1) := by decide +kernel
theorem dX12_factor_282 : decode cX12_factor 282 = .ok (.if_icmp .ne 7, 3) := by decide +kernel
theorem dX12_factor_285 : decode cX12_factor 285 = .ok (.iconst 1, 1) := by decide +kernel
theorem dX12_factor_286 : decode cX12_factor 286 = .ok (.goto 4, 3) := by decide +kernel
theorem dX12_factor_289 : decode cX12_factor 289 = .ok (.iconst 0, 1) := by decide +kernel
theorem dX12_factor_290 : decode cX12_factor 290 = .ok (.putfield 81, 3) := by decide +kernel
theorem dX12_factor_293 : decode cX12_factor 293 = .ok (.aload_n 0, 1) := by decide +kernel
theorem dX12_factor_294 : decode cX12_factor 294 = .ok (.dup, 1) := by decide +kernel
theorem dX12_factor_295 : decode cX12_factor 295 = .ok (.getfield 75, 3) := by decide +kernel
theorem dX12_factor_298 : decode cX12_factor 298 = .ok (.aload_n 0, 1) := by decide +kernel
theorem dX12_factor_299 : decode cX12_factor 299 = .ok (.getfield 81, 3) := by decide +kernel
theorem dX12_factor_302 : decode cX12_factor 302 = .ok (.ifCond .eq 7, 3) := by decide +kernel
theorem dX12_factor_305 : decode cX12_factor 305 = .ok (.iconst 0, 1) := by decide +kernel
theorem dX12_factor_306 : decode cX12_factor 306 = .ok (.goto 4, 3) := by decide +kernel
theorem dX12_factor_309 : decode cX12_factor 309 = .ok (.iconst 1, 1) := by decide +kernel
theorem dX12_factor_310 : decode cX12_factor 310 = .ok (.iadd, 1) := by decide +kernel
theorem dX12_factor_311 : decode cX12_factor 311 = .ok (.putfield 75, 3) := by decide +kernel
theorem dX12_factor_314 : decode cX12_factor 314 = .ok (.aload_n 0, 1) := by decide +kernel
theorem dX12_factor_315 : decode cX12_factor 315 = .ok (.invokevirtual 85, 3) := by decide +kernel
theorem dX12_factor_318 : decode cX12_factor 318 = .ok (.istore_n 3, 1) := by decide +kernel
theorem dX12_factor_319 : decode cX12_factor 319 = .ok (.aload_n 0, 1) := by decide +kernel
theorem dX12_factor_320 : decode cX12_factor 320 = .ok (.aload_n 0, 1) := by decide +kernel
theorem dX12_factor_321 : decode cX12_factor 321 = .ok (.getfield 81, 3) := by decide +kernel
theorem dX12_factor_324 : decode cX12_factor 324 = .ok (.ifCond .ne 15, 3) := by decide +kernel
theorem dX12_factor_327 : decode cX12_factor 327 = .ok (.iload_n 3, 1) := by decide +kernel
theorem dX12_factor_328 : decode cX12_factor 328 = .ok (.bipush 60, 2) := by decide +kernel
theorem dX12_factor_330 : decode cX12_factor 330 = .ok (.if_icmp .eq 13, 3) := by decide +kernel
theorem dX12_factor_333 : decode cX12_factor 333 = .ok (.iload_n 3, 1) := by decide +kernel
theorem dX12_factor_334 : decode cX12_factor 334 = .ok (.bipush 62, 2) := by decide +kernel
theorem dX12_factor_336 : decode cX12_factor 336 = .ok (.if_icmp .eq 7, 3) := by decide +kernel
theorem dX12_factor_339 : decode cX12_factor 339 = .ok (.iconst 1, 1) := by decide +kernel
theorem dX12_factor_340 : decode cX12_factor 340 = .ok (.goto 4, 3) := by decide +kernel
theorem dX12_factor_343 : decode cX12_factor 343 = .ok (.iconst 0, 1) := by decide +kernel
theorem dX12_factor_344 : decode cX12_factor 344 = .ok (.putfield 81, 3) := by decide +kernel
theorem dX12_factor_347 : decode cX12_factor 347 = .ok (.aload_n 0, 1) := by decide +kernel
theorem dX12_factor_348 : decode cX12_factor 348 = .ok (.dup, 1) := by decide +kernel
theorem dX12_factor_349 : decode cX12_factor 349 = .ok (.getfield 75, 3) := by decide +kernel
theorem dX12_factor_352 : decode cX12_factor 352 = .ok (.aload_n 0, 1) := by decide +kernel
theorem dX12_factor_353 : decode cX12_factor 353 = .ok (.getfield 81, 3) := by decide +kernel
theorem dX12_factor_356 : decode cX12_factor 356 = .ok (.ifCond .eq 7, 3) := by decide +kernel
theorem dX12_factor_359 : decode cX12_factor 359 = .ok (.iconst 0, 1) := by decide +kernel
theorem dX12_factor_360 : decode cX12_factor 360 = .ok (.goto 4, 3) := by decide +kernel
theorem dX12_factor_363 : decode cX12_factor 363 = .ok (.iconst 1, 1) := by decide +kernel
theorem dX12_factor_364 : decode cX12_factor 364 = .ok (.iadd, 1) := by decide +kernel
theorem dX12_factor_365 : decode cX12_factor 365 = .ok (.putfield 75, 3) := by decide +kernel
theorem dX12_factor_368 : decode cX12_factor 368 = .ok (.aload_n 0, 1) := by decide +kernel
theorem dX12_factor_369 : decode cX12_factor 369 = .ok (.invokevirtual 129, 3) := by decide +kernel
theorem dX12_factor_372 : decode cX12_factor 372 = .ok (.istore 4, 2) := by decide +kernel
theorem dX12_factor_374 : decode cX12_factor 374 = .ok (.aload_n 0, 1) := by decide +kernel
theorem dX12_factor_375 : decode cX12_factor 375 = .ok (.getfield 81, 3) := by decide +kernel
theorem dX12_factor_378 : decode cX12_factor 378 = .ok (.ifCond .eq 7, 3) := by decide +kernel
theorem dX12_factor_381 : decode cX12_factor 381 = .ok (.iconst 0, 1) := by decide +kernel
theorem dX12_factor_382 : decode cX12_factor 382 = .ok (.goto 9, 3) := by decide +kernel
theorem dX12_factor_385 : decode cX12_factor 385 = .ok (.aload_n 0, 1) := by decide +kernel
theorem dX12_factor_386 : decode cX12_factor 386 = .ok (.getfield 17, 3) := by decide +kernel
theorem dX12_factor_389 : decode cX12_factor 389 = .ok (.iload_n 2, 1) := by decide +kernel
theorem dX12_factor_390 : decode cX12_factor 390 = .ok (.iaload, 1) := by decide +kernel
theorem dX12_factor_391 : decode cX12_factor 391 = .ok (.istore 5, 2) := by decide +kernel
theorem dX12_factor_393 : decode cX12_factor 393 = .ok (.iload_n 3, 1) := by decide +kernel
theorem dX12_factor_394 : decode cX12_factor 394 = .ok (.bipush 60, 2) := by decide +kernel
theorem dX12_factor_396 : decode cX12_factor 396 = .ok (.if_icmp .ne 18, 3) := by decide +kernel
theorem dX12_factor_399 : decode cX12_factor 399 = .ok (.iload 5, 2) := by decide +kernel
theorem dX12_factor_401 : decode cX12_factor 401 = .ok (.iload 4, 2) := by decide +kernel
theorem dX12_factor_403 : decode cX12_factor 403 = .ok (.if_icmp .ge 7, 3) := by decide +kernel
theorem dX12_factor_406 : decode cX12_factor 406 = .ok (.iconst 1, 1) := by decide +kernel
theorem dX12_factor_407 : decode cX12_factor 407 = .ok (.goto 19, 3) := by decide +kernel
theorem dX12_factor_410 : decode cX12_factor 410 = .ok (.iconst 0, 1) := by decide +kernel
theorem dX12_factor_411 : decode cX12_factor 411 = .ok (.goto 15, 3) := by decide +kernel
theorem dX12_factor_414 : decode cX12_factor 414 = .ok (.iload 5, 2) := by decide +kernel
theorem dX12_factor_416 : decode cX12_factor 416 = .ok (.iload 4, 2) := by decide +kernel
theorem dX12_factor_418 : decode cX12_factor 418 = .ok (.if_icmp .le 7, 3) := by decide +kernel
theorem dX12_factor_421 : decode cX12_factor 421 = .ok (.iconst 1, 1) := by decide +kernel
theorem dX12_factor_422 : decode cX12_factor 422 = .ok (.goto 4, 3) := by decide +kernel
theorem dX12_factor_425 : decode cX12_factor 425 = .ok (.iconst 0, 1) := by decide +kernel
theorem dX12_factor_426 : decode cX12_factor 426 = .ok (.ireturn, 1) := by decide +kernel
theorem dX12_every_0 : decode cX12_every 0 = .ok (.aload_n 0, 1) := by decide +kernel
theorem dX12_every_1 : decode cX12_every 1 = .ok (.invokevirtual 119, 3) := by decide +kernel
theorem dX12_every_4 : decode cX12_every 4 = .ok (.istore_n 1, 1) := by decide +kernel
theorem dX12_every_5 : decode cX12_every 5 = .ok (.aload_n 0, 1) := by decide +kernel
theorem dX12_every_6 : decode cX12_every 6 = .ok (.getfield 81, 3) := by decide +kernel
theorem dX12_every_9 : decode cX12_every 9 = .ok (.ifCond .ne 44, 3) := by decide +kernel
theorem dX12_every_12 : decode cX12_every 12 = .ok (.aload_n 0, 1) := by decide +kernel
theorem dX12_every_13 : decode cX12_every 13 = .ok (.invokevirtual 85, 3) := by decide +kernel
theorem dX12_every_16 : decode cX12_every 16 = .ok (.bipush 38, 2) := by decide +kernel
theorem dX12_every_18 : decode cX12_every 18 = .ok (.if_icmp .ne 35, 3) := by decide +kernel
theorem dX12_every_21 : decode cX12_every 21 = .ok (.aload_n 0, 1) := by decide +kernel
theorem dX12_every_22 : decode cX12_every 22 = .ok (.dup, 1) := by decide +kernel
theorem dX12_every_23 : decode cX12_every 23 = .ok (.getfield 75, 3) := by decide +kernel
theorem dX12_every_26 : decode cX12_every 26 = .ok (.iconst 1, 1) := by decide +kernel
theorem dX12_every_27 : decode cX12_every 27 = .ok (.iadd, 1) := by decide +kernel
theorem dX12_every_28 : decode cX12_every 28 = .ok (.putfield 75, 3) := by decide +kernel
theorem dX12_every_31 : decode cX12_every 31 = .ok (.aload_n 0, 1) := by decide +kernel
theorem dX12_every_32 : decode cX12_every 32 = .ok (.invokevirtual 119, 3) := by decide +kernel
theorem dX12_every_35 : decode cX12_every 35 = .ok (.istore_n 2, 1) := by decide +kernel
theorem dX12_every_36 : decode cX12_every 36 = .ok (.iload_n 1, 1) := by decide +kernel
theorem dX12_every_37 : decode cX12_every 37 = .ok (.ifCond .eq 11, 3) := by decide +kernel
theorem dX12_every_40 : decode cX12_every 40 = .ok (.iload_n 2, 1) := by decide +kernel
theorem dX12_every_41 : decode cX12_every 41 = .ok (.ifCond .eq 7, 3) := by decide +kernel
theorem dX12_every_44 : decode cX12_every 44 = .ok (.iconst 1, 1) := by decide +kernel
theorem dX12_every_45 : decode cX12_every 45 = .ok (.goto 4, 3) := by decide +kernel
theorem dX12_every_48 : decode cX12_every 48 = .ok (.iconst 0, 1) := by decide +kernel
theorem dX12_every_49 : decode cX12_every 49 = .ok (.istore_n 1, 1) := by decide +kernel
theorem dX12_every_50 : decode cX12_every 50 = .ok (.goto (-45), 3) := by decide +kernel
theorem dX12_every_53 : decode cX12_every 53 = .ok (.iload_n 1, 1) := by decide +kernel
theorem dX12_every_54 : decode cX12_every 54 = .ok (.ireturn, 1) := by decide +kernel
theorem dX12_some_0 : decode cX12_some 0 = .ok (.aload_n 0, 1) := by decide +kernel
theorem dX12_some_1 : decode cX12_some 1 = .ok (.invokevirtual 132, 3) := by decide +kernel
theorem dX12_some_4 : decode cX12_some 4 = .ok (.istore_n 1, 1) := by decide +kernel
theorem dX12_some_5 : decode cX12_some 5 = .ok (.aload_n 0, 1) := by decide +kernel
theorem dX12_some_6 : decode cX12_some 6 = .ok (.getfield 81, 3) := by decide +kernel
theorem dX12_some_9 : decode cX12_some 9 = .ok (.ifCond .ne 44, 3) := by decide +kernel
theorem dX12_some_12 : decode cX12_some 12 = .ok (.aload_n 0, 1) := by decide +kernel
theorem dX12_some_13 : decode cX12_some 13 = .ok (.invokevirtual 85, 3) := by decide +kernel
theorem dX12_some_16 : decode cX12_some 16 = .ok (.bipush 124, 2) := by decide +kernel
theorem dX12_some_18 : decode cX12_some 18 = .ok (.if_icmp .ne 35, 3) := by decide +kernel
theorem dX12_some_21 : decode cX12_some 21 = .ok (.aload_n 0, 1) := by decide +kernel
theorem dX12_some_22 : decode cX12_some 22 = .ok (.dup, 1) := by decide +kernel
theorem dX12_some_23 : decode cX12_some 23 = .ok (.getfield 75, 3) := by decide +kernel
theorem dX12_some_26 : decode cX12_some 26 = .ok (.iconst 1, 1) := by decide +kernel
theorem dX12_some_27 : decode cX12_some 27 = .ok (.iadd, 1) := by decide +kernel
theorem dX12_some_28 : decode cX12_some 28 = .ok (.putfield 75, 3) := by decide +kernel
theorem dX12_some_31 : decode cX12_some 31 = .ok (.aload_n 0, 1) := by decide +kernel
theorem dX12_some_32 : decode cX12_some 32 = .ok (.invokevirtual 132, 3) := by decide +kernel
theorem dX12_some_35 : decode cX12_some 35 = .ok (.istore_n 2, 1) := by decide +kernel
theorem dX12_some_36 : decode cX12_some 36 = .ok (.iload_n 1, 1) := by decide +kernel
theorem dX12_some_37 : decode cX12_some 37 = .ok (.ifCond .ne 7, 3) := by decide +kernel
theorem dX12_some_40 : decode cX12_some 40 = .ok (.iload_n 2, 1) := by decide +kernel
theorem dX12_some_41 : decode cX12_some 41 = .ok (.ifCond .eq 7, 3) := by decide +kernel
theorem dX12_some_44 : decode cX12_some 44 = .ok (.iconst 1, 1) := by decide +kernel
theorem dX12_some_45 : decode cX12_some 45 = .ok (.goto 4, 3) := by decide +kernel
theorem dX12_some_48 : decode cX12_some 48 = .ok (.iconst 0, 1) := by decide +kernel
theorem dX12_some_49 : decode cX12_some 49 = .ok (.istore_n 1, 1) := by decide +kernel
theorem dX12_some_50 : decode cX12_some 50 = .ok (.goto (-45), 3) := by decide +kernel
theorem dX12_some_53 : decode cX12_some 53 = .ok (.iload_n 1, 1) := by decide +kernel
theorem dX12_some_54 : decode cX12_some 54 = .ok (.ireturn, 1) := by decide +kernel
theorem cm_X12_factor : CM yX12_factor cX12_factor 6 (some .boolean) 0 12 := ⟨w_1565, w_49, w_1566, w_97, ⟨by decide +kernel, by decide +kernel, by decide +kernel⟩, ⟨_, _, rfl⟩, by decide⟩
theorem cm_X12_every : CM yX12_every cX12_every 3 (some .boolean) 0 12 := ⟨w_1561, w_48, w_1562, w_97, ⟨by decide +kernel, by decide +kernel, by decide +kernel⟩, ⟨_, _, rfl⟩, by decide⟩
theorem cm_X12_some : CM yX12_some cX12_some 3 (some .boolean) 0 12 := ⟨w_1557, w_47, w_1558, w_97, ⟨by decide +kernel, by decide +kernel, by decide +kernel⟩, ⟨_, _, rfl⟩, by decide⟩
noncomputable def f_X12_factor_123 (F_X12_factor : Int → MM → RR) (F_X12_every : Int → MM → RR) (F_X12_some : Int → MM → RR) (n : Nat)  (v0 v2 : Int) (h : MM) : RR :=
  gf h v0 12 7 fun r1 =>
  pf h v0 12 7 (wr (r1 - 1)) fun h2 =>
  ck (isb v2) <|
  some (v2, h2)
noncomputable def f_X12_factor_110 (F_X12_factor : Int → MM → RR) (F_X12_every : Int → MM → RR) (F_X12_some : Int → MM → RR) (n : Nat)  (v0 v1 s0 : Int) (h : MM) : RR :=
  if v1 = 40 then
    gk h v0 12 <|
    bd (f_X12_must n v0 41 h) fun r2 h2 =>
    f_X12_factor_123 F_X12_factor F_X12_every F_X12_some n v0 s0 h2
  else
  f_X12_factor_123 F_X12_factor F_X12_every F_X12_some n v0 s0 h
noncomputable def f_X12_factor_70 (F_X12_factor : Int → MM → RR) (F_X12_every : Int → MM → RR) (F_X12_some : Int → MM → RR) (n : Nat)  (v0 v1 s0 s1 s2 : Int) (h : MM) : RR :=
  pf h s0 12 5 (wr (s1 + s2)) fun h1 =>
  gf h1 v0 12 6 fun r2 =>
  if r2 = 0 then
    if v1 = 33 then
      gk h1 v0 12 <|
      bd (F_X12_factor v0 h1) fun r6 h6 =>
      if r6 = 0 then
        f_X12_factor_110 F_X12_factor F_X12_every F_X12_some n v0 v1 1 h6
      else
      f_X12_factor_110 F_X12_factor F_X12_every F_X12_some n v0 v1 0 h6
    else
    gk h1 v0 12 <|
    bd (F_X12_some v0 h1) fun r5 h5 =>
    f_X12_factor_110 F_X12_factor F_X12_every F_X12_some n v0 v1 r5 h5
  else
  f_X12_factor_110 F_X12_factor F_X12_every F_X12_some n v0 v1 0 h1
noncomputable def f_X12_factor_40 (F_X12_factor : Int → MM → RR) (F_X12_every : Int → MM → RR) (F_X12_some : Int → MM → RR) (n : Nat)  (v0 v1 s0 s1 : Int) (h : MM) : RR :=
  ck (isb s1) <|
  pf h s0 12 6 s1 fun h1 =>
  gf h1 v0 12 7 fun r3 =>
  pf h1 v0 12 7 (wr (r3 + 1)) fun h4 =>
  gf h4 v0 12 5 fun r5 =>
  gf h4 v0 12 6 fun r6 =>
  if r6 = 0 then
    f_X12_factor_70 F_X12_factor F_X12_every F_X12_some n v0 v1 v0 r5 1 h4
  else
  f_X12_factor_70 F_X12_factor F_X12_every F_X12_some n v0 v1 v0 r5 0 h4
noncomputable def f_X12_factor_26 (F_X12_factor : Int → MM → RR) (F_X12_every : Int → MM → RR) (F_X12_some : Int → MM → RR) (n : Nat)  (v0 v1 : Int) (h : MM) : RR :=
  gf h v0 12 7 fun r1 =>
  if r1 = 5 then
    f_X12_factor_40 F_X12_factor F_X12_every F_X12_some n v0 v1 v0 1 h
  else
  f_X12_factor_40 F_X12_factor F_X12_every F_X12_some n v0 v1 v0 0 h
noncomputable def f_X12_factor_426 (F_X12_factor : Int → MM → RR) (F_X12_every : Int → MM → RR) (F_X12_some : Int → MM → RR) (n : Nat)  (s0 : Int) (h : MM) : RR :=
  ck (isb s0) <|
  some (s0, h)
noncomputable def f_X12_factor_391 (F_X12_factor : Int → MM → RR) (F_X12_every : Int → MM → RR) (F_X12_some : Int → MM → RR) (n : Nat)  (v3 v4 s0 : Int) (h : MM) : RR :=
  if v3 = 60 then
    if v4 ≤ s0 then
      f_X12_factor_426 F_X12_factor F_X12_every F_X12_some n 0 h
    else
    f_X12_factor_426 F_X12_factor F_X12_every F_X12_some n 1 h
  else
  if s0 ≤ v4 then
    f_X12_factor_426 F_X12_factor F_X12_every F_X12_some n 0 h
  else
  f_X12_factor_426 F_X12_factor F_X12_every F_X12_some n 1 h
noncomputable def f_X12_factor_364 (F_X12_factor : Int → MM → RR) (F_X12_every : Int → MM → RR) (F_X12_some : Int → MM → RR) (n : Nat)  (v0 v2 v3 s0 s1 s2 : Int) (h : MM) : RR :=
  pf h s0 12 5 (wr (s1 + s2)) fun h1 =>
  gk h1 v0 12 <|
  bd (f_X12_number n v0 h1) fun r2 h2 =>
  gf h2 v0 12 6 fun r3 =>
  if r3 = 0 then
    gf h2 v0 12 8 fun r5 =>
    rd h2 r5 100 v2 fun r6 =>
    f_X12_factor_391 F_X12_factor F_X12_every F_X12_some n v3 r2 r6 h2
  else
  f_X12_factor_391 F_X12_factor F_X12_every F_X12_some n v3 r2 0 h2
noncomputable def f_X12_factor_344 (F_X12_factor : Int → MM → RR) (F_X12_every : Int → MM → RR) (F_X12_some : Int → MM → RR) (n : Nat)  (v0 v2 v3 s0 s1 : Int) (h : MM) : RR :=
  ck (isb s1) <|
  pf h s0 12 6 s1 fun h1 =>
  gf h1 v0 12 5 fun r3 =>
  gf h1 v0 12 6 fun r4 =>
  if r4 = 0 then
    f_X12_factor_364 F_X12_factor F_X12_every F_X12_some n v0 v2 v3 v0 r3 1 h1
  else
  f_X12_factor_364 F_X12_factor F_X12_every F_X12_some n v0 v2 v3 v0 r3 0 h1
noncomputable def f_X12_factor_339 (F_X12_factor : Int → MM → RR) (F_X12_every : Int → MM → RR) (F_X12_some : Int → MM → RR) (n : Nat)  (v0 v2 v3 s0 : Int) (h : MM) : RR :=
  f_X12_factor_344 F_X12_factor F_X12_every F_X12_some n v0 v2 v3 s0 1 h
noncomputable def f_X12_factor_343 (F_X12_factor : Int → MM → RR) (F_X12_every : Int → MM → RR) (F_X12_some : Int → MM → RR) (n : Nat)  (v0 v2 v3 s0 : Int) (h : MM) : RR :=
  f_X12_factor_344 F_X12_factor F_X12_every F_X12_some n v0 v2 v3 s0 0 h
noncomputable def f_X12_factor_310 (F_X12_factor : Int → MM → RR) (F_X12_every : Int → MM → RR) (F_X12_some : Int → MM → RR) (n : Nat)  (v0 v2 s0 s1 s2 : Int) (h : MM) : RR :=
  pf h s0 12 5 (wr (s1 + s2)) fun h1 =>
  gk h1 v0 12 <|
  bd (f_X12_here n v0 h1) fun r2 h2 =>
  gf h2 v0 12 6 fun r3 =>
  if r3 = 0 then
    if r2 = 60 then
      f_X12_factor_343 F_X12_factor F_X12_every F_X12_some n v0 v2 r2 v0 h2
    else
    if r2 = 62 then
      f_X12_factor_343 F_X12_factor F_X12_every F_X12_some n v0 v2 r2 v0 h2
    else
    f_X12_factor_339 F_X12_factor F_X12_every F_X12_some n v0 v2 r2 v0 h2
  else
  f_X12_factor_339 F_X12_factor F_X12_every F_X12_some n v0 v2 r2 v0 h2
noncomputable def f_X12_factor_290 (F_X12_factor : Int → MM → RR) (F_X12_every : Int → MM → RR) (F_X12_some : Int → MM → RR) (n : Nat)  (v0 v2 s0 s1 : Int) (h : MM) : RR :=
  ck (isb s1) <|
  pf h s0 12 6 s1 fun h1 =>
  gf h1 v0 12 5 fun r3 =>
  gf h1 v0 12 6 fun r4 =>
  if r4 = 0 then
    f_X12_factor_310 F_X12_factor F_X12_every F_X12_some n v0 v2 v0 r3 1 h1
  else
  f_X12_factor_310 F_X12_factor F_X12_every F_X12_some n v0 v2 v0 r3 0 h1
noncomputable def f_X12_factor_278 (F_X12_factor : Int → MM → RR) (F_X12_every : Int → MM → RR) (F_X12_some : Int → MM → RR) (n : Nat)  (v0 s0 : Int) (h : MM) : RR :=
  if s0 = (-1) then
    f_X12_factor_290 F_X12_factor F_X12_every F_X12_some n v0 s0 v0 1 h
  else
  f_X12_factor_290 F_X12_factor F_X12_every F_X12_some n v0 s0 v0 0 h
noncomputable def f_X12_factor_226 (F_X12_factor : Int → MM → RR) (F_X12_every : Int → MM → RR) (F_X12_some : Int → MM → RR) (n : Nat)  (s0 : Int) (h : MM) : RR :=
  ck (isb s0) <|
  some (s0, h)
noncomputable def f_X12_factor_207 (F_X12_factor : Int → MM → RR) (F_X12_every : Int → MM → RR) (F_X12_some : Int → MM → RR) (n : Nat)  (v0 v2 s0 s1 s2 : Int) (h : MM) : RR :=
  pf h s0 12 5 (wr (s1 + s2)) fun h1 =>
  gf h1 v0 12 8 fun r2 =>
  rd h1 r2 100 5 fun r3 =>
  if r3 = v2 then
    f_X12_factor_226 F_X12_factor F_X12_every F_X12_some n 1 h1
  else
  f_X12_factor_226 F_X12_factor F_X12_every F_X12_some n 0 h1
noncomputable def f_X12_factor_187 (F_X12_factor : Int → MM → RR) (F_X12_every : Int → MM → RR) (F_X12_some : Int → MM → RR) (n : Nat)  (v0 v2 s0 s1 : Int) (h : MM) : RR :=
  ck (isb s1) <|
  pf h s0 12 6 s1 fun h1 =>
  gf h1 v0 12 5 fun r3 =>
  gf h1 v0 12 6 fun r4 =>
  if r4 = 0 then
    f_X12_factor_207 F_X12_factor F_X12_every F_X12_some n v0 v2 v0 r3 1 h1
  else
  f_X12_factor_207 F_X12_factor F_X12_every F_X12_some n v0 v2 v0 r3 0 h1
noncomputable def f_X12_factor_182 (F_X12_factor : Int → MM → RR) (F_X12_every : Int → MM → RR) (F_X12_some : Int → MM → RR) (n : Nat)  (v0 v2 s0 : Int) (h : MM) : RR :=
  f_X12_factor_187 F_X12_factor F_X12_every F_X12_some n v0 v2 s0 1 h
noncomputable def f_X12_factor_op (F_X12_factor : Int → MM → RR) (F_X12_every : Int → MM → RR) (F_X12_some : Int → MM → RR) (n : Nat) (v0 : Int) (h : MM) : RR :=
  gf h v0 12 6 fun r1 =>
  if r1 = 0 then
    gk h v0 12 <|
    bd (f_X12_here n v0 h) fun r3 h3 =>
    if r3 = 33 then
      f_X12_factor_26 F_X12_factor F_X12_every F_X12_some n v0 r3 h3
    else
    if r3 = 40 then
      f_X12_factor_26 F_X12_factor F_X12_every F_X12_some n v0 r3 h3
    else
    if r3 = 103 then
      gf h3 v0 12 5 fun r12 =>
      pf h3 v0 12 5 (wr (r12 + 1)) fun h13 =>
      gk h13 v0 12 <|
      bd (f_X12_must n v0 61 h13) fun r14 h14 =>
      gk h14 v0 12 <|
      bd (f_X12_here n v0 h14) fun r15 h15 =>
      lb (wr (r15 - 48)) fun x16 =>
      gf h15 v0 12 6 fun r17 =>
      if r17 = 0 then
        bd (f_X12_in n x16 0 1 h15) fun r19 h19 =>
        if r19 = 0 then
          f_X12_factor_182 F_X12_factor F_X12_every F_X12_some n v0 x16 v0 h19
        else
        f_X12_factor_187 F_X12_factor F_X12_every F_X12_some n v0 x16 v0 0 h19
      else
      f_X12_factor_182 F_X12_factor F_X12_every F_X12_some n v0 x16 v0 h15
    else
    if r3 = 121 then
      f_X12_factor_278 F_X12_factor F_X12_every F_X12_some n v0 0 h3
    else
    if r3 = 116 then
      f_X12_factor_278 F_X12_factor F_X12_every F_X12_some n v0 1 h3
    else
    if r3 = 119 then
      f_X12_factor_278 F_X12_factor F_X12_every F_X12_some n v0 2 h3
    else
    if r3 = 114 then
      f_X12_factor_278 F_X12_factor F_X12_every F_X12_some n v0 3 h3
    else
    if r3 = 99 then
      f_X12_factor_278 F_X12_factor F_X12_every F_X12_some n v0 4 h3
    else
    f_X12_factor_278 F_X12_factor F_X12_every F_X12_some n v0 ((-1)) h3
  else
  ck (isb 0) <|
  some (0, h)
noncomputable def f_X12_every_53 (F_X12_factor : Int → MM → RR) (F_X12_every : Int → MM → RR) (F_X12_some : Int → MM → RR) (n : Nat)  (v1 : Int) (h : MM) : RR :=
  ck (isb v1) <|
  some (v1, h)
noncomputable def f_X12_every_49 (F_X12_factor : Int → MM → RR) (F_X12_every : Int → MM → RR) (F_X12_some : Int → MM → RR) (n : Nat) (rec5 : Int → MM → RR) (v0 s0 : Int) (h : MM) : RR :=
  rec5 s0 h
noncomputable def f_X12_every_48 (F_X12_factor : Int → MM → RR) (F_X12_every : Int → MM → RR) (F_X12_some : Int → MM → RR) (n : Nat) (rec5 : Int → MM → RR) (v0 : Int) (h : MM) : RR :=
  f_X12_every_49 F_X12_factor F_X12_every F_X12_some n rec5 v0 0 h
noncomputable def f_X12_every_5b (F_X12_factor : Int → MM → RR) (F_X12_every : Int → MM → RR) (F_X12_some : Int → MM → RR) (n : Nat) (rec5 : Int → MM → RR) (v0 v1 : Int) (h : MM) : RR :=
  gf h v0 12 6 fun r1 =>
  if r1 = 0 then
    gk h v0 12 <|
    bd (f_X12_here n v0 h) fun r3 h3 =>
    if r3 = 38 then
      gf h3 v0 12 5 fun r5 =>
      pf h3 v0 12 5 (wr (r5 + 1)) fun h6 =>
      gk h6 v0 12 <|
      bd (F_X12_factor v0 h6) fun r7 h7 =>
      if v1 = 0 then
        f_X12_every_48 F_X12_factor F_X12_every F_X12_some n rec5 v0 h7
      else
      if r7 = 0 then
        f_X12_every_48 F_X12_factor F_X12_every F_X12_some n rec5 v0 h7
      else
      f_X12_every_49 F_X12_factor F_X12_every F_X12_some n rec5 v0 1 h7
    else
    f_X12_every_53 F_X12_factor F_X12_every F_X12_some n v1 h3
  else
  f_X12_every_53 F_X12_factor F_X12_every F_X12_some n v1 h
noncomputable def f_X12_every_5 (F_X12_factor : Int → MM → RR) (F_X12_every : Int → MM → RR) (F_X12_some : Int → MM → RR) (n : Nat)  (v0 : Int) : Nat → Int → MM → RR
  | 0, _, _ => none
  | k + 1, v1, h => f_X12_every_5b F_X12_factor F_X12_every F_X12_some n  (f_X12_every_5 F_X12_factor F_X12_every F_X12_some n  v0 k) v0 v1 h
noncomputable def f_X12_every_op (F_X12_factor : Int → MM → RR) (F_X12_every : Int → MM → RR) (F_X12_some : Int → MM → RR) (n : Nat) (v0 : Int) (h : MM) : RR :=
  gk h v0 12 <|
  bd (F_X12_factor v0 h) fun r1 h1 =>
  f_X12_every_5 F_X12_factor F_X12_every F_X12_some n v0 n r1 h1
noncomputable def f_X12_some_53 (F_X12_factor : Int → MM → RR) (F_X12_every : Int → MM → RR) (F_X12_some : Int → MM → RR) (n : Nat)  (v1 : Int) (h : MM) : RR :=
  ck (isb v1) <|
  some (v1, h)
noncomputable def f_X12_some_49 (F_X12_factor : Int → MM → RR) (F_X12_every : Int → MM → RR) (F_X12_some : Int → MM → RR) (n : Nat) (rec5 : Int → MM → RR) (v0 s0 : Int) (h : MM) : RR :=
  rec5 s0 h
noncomputable def f_X12_some_44 (F_X12_factor : Int → MM → RR) (F_X12_every : Int → MM → RR) (F_X12_some : Int → MM → RR) (n : Nat) (rec5 : Int → MM → RR) (v0 : Int) (h : MM) : RR :=
  f_X12_some_49 F_X12_factor F_X12_every F_X12_some n rec5 v0 1 h
noncomputable def f_X12_some_5b (F_X12_factor : Int → MM → RR) (F_X12_every : Int → MM → RR) (F_X12_some : Int → MM → RR) (n : Nat) (rec5 : Int → MM → RR) (v0 v1 : Int) (h : MM) : RR :=
  gf h v0 12 6 fun r1 =>
  if r1 = 0 then
    gk h v0 12 <|
    bd (f_X12_here n v0 h) fun r3 h3 =>
    if r3 = 124 then
      gf h3 v0 12 5 fun r5 =>
      pf h3 v0 12 5 (wr (r5 + 1)) fun h6 =>
      gk h6 v0 12 <|
      bd (F_X12_every v0 h6) fun r7 h7 =>
      if v1 = 0 then
        if r7 = 0 then
          f_X12_some_49 F_X12_factor F_X12_every F_X12_some n rec5 v0 0 h7
        else
        f_X12_some_44 F_X12_factor F_X12_every F_X12_some n rec5 v0 h7
      else
      f_X12_some_44 F_X12_factor F_X12_every F_X12_some n rec5 v0 h7
    else
    f_X12_some_53 F_X12_factor F_X12_every F_X12_some n v1 h3
  else
  f_X12_some_53 F_X12_factor F_X12_every F_X12_some n v1 h
noncomputable def f_X12_some_5 (F_X12_factor : Int → MM → RR) (F_X12_every : Int → MM → RR) (F_X12_some : Int → MM → RR) (n : Nat)  (v0 : Int) : Nat → Int → MM → RR
  | 0, _, _ => none
  | k + 1, v1, h => f_X12_some_5b F_X12_factor F_X12_every F_X12_some n  (f_X12_some_5 F_X12_factor F_X12_every F_X12_some n  v0 k) v0 v1 h
noncomputable def f_X12_some_op (F_X12_factor : Int → MM → RR) (F_X12_every : Int → MM → RR) (F_X12_some : Int → MM → RR) (n : Nat) (v0 : Int) (h : MM) : RR :=
  gk h v0 12 <|
  bd (F_X12_every v0 h) fun r1 h1 =>
  f_X12_some_5 F_X12_factor F_X12_every F_X12_some n v0 n r1 h1
noncomputable def t_X12_factor (n : Nat) : Nat → (Int → MM → RR) × (Int → MM → RR) × (Int → MM → RR)
  | 0 => ((fun _ _ => none), (fun _ _ => none), (fun _ _ => none))
  | k + 1 => (f_X12_factor_op ((t_X12_factor n k).1) ((t_X12_factor n k).2.1) ((t_X12_factor n k).2.2) n, f_X12_every_op ((t_X12_factor n k).1) ((t_X12_factor n k).2.1) ((t_X12_factor n k).2.2) n, f_X12_some_op ((t_X12_factor n k).1) ((t_X12_factor n k).2.1) ((t_X12_factor n k).2.2) n)
noncomputable def f_X12_factor (n : Nat) : (Int → MM → RR) := (t_X12_factor n 26).1
noncomputable def f_X12_every (n : Nat) : (Int → MM → RR) := (t_X12_factor n 26).2.1
noncomputable def f_X12_some (n : Nat) : (Int → MM → RR) := (t_X12_factor n 26).2.2
set_option maxRecDepth 20000 in
theorem b_X12_factor_123 {g : GT} {Z : Int × MM} {n : Nat} {fA lA : Nat} {F_X12_factor : Int → MM → RR} (A_X12_factor : AM (gl g) yX12_factor cX12_factor 6 (some .boolean) (fA) (lA) [2] 0 (un1 F_X12_factor)) {F_X12_every : Int → MM → RR} (A_X12_every : AM (gl g) yX12_every cX12_every 3 (some .boolean) (fA) (lA) [2] 0 (un1 F_X12_every)) {F_X12_some : Int → MM → RR} (A_X12_some : AM (gl g) yX12_some cX12_some 3 (some .boolean) (fA) (lA) [2] 0 (un1 F_X12_some)) (C : Cx g cX12_factor 6 yX12_factor (fA + 2) (lA + 44)) (hr : Rt g (some .boolean) 0 Z) {v0 v2 : Int}    (cv2 : in32 v2) {h : MM} (hf : f_X12_factor_123 F_X12_factor F_X12_every F_X12_some n  v0 v2 h = some Z) : G g 123 [(2, v0), (3, 0), (0, v2), (3, 0), (3, 0), (3, 0)] [] h := by
  unfold f_X12_factor_123 at hf
  refine r_aload_n C dX12_factor_123 rfl ?_
  refine r_dup C dX12_factor_124 (by decide) ?_
  obtain ⟨q1, hf⟩ := gf_s hf
  refine r_gf C ct12 (j := 7) (ji := 7) dX12_factor_125 q1 rfl rfl (by decide) w_1432 rfl (fun c1 => ?_)
  have c1 : in32 _ := c1
  refine r_iconst C dX12_factor_128 ?_
  refine r_isub C dX12_factor_129 ?_
  obtain ⟨q2, hf⟩ := pf_s hf
  refine r_pf C ct12 (j := 7) (ji := 7) dX12_factor_130 q2 rfl rfl (by decide) w_1432 rfl (Or.inl rfl) nar_int (in32_t _) ?_
  refine r_iload_n C dX12_factor_133 rfl ?_
  obtain ⟨b3, hf⟩ := ck_s hf
  cases hf
  exact r_zret C hr dX12_factor_134 b3
set_option maxRecDepth 20000 in
theorem b_X12_factor_110 {g : GT} {Z : Int × MM} {n : Nat} {fA lA : Nat} {F_X12_factor : Int → MM → RR} (A_X12_factor : AM (gl g) yX12_factor cX12_factor 6 (some .boolean) (fA) (lA) [2] 0 (un1 F_X12_factor)) {F_X12_every : Int → MM → RR} (A_X12_every : AM (gl g) yX12_every cX12_every 3 (some .boolean) (fA) (lA) [2] 0 (un1 F_X12_every)) {F_X12_some : Int → MM → RR} (A_X12_some : AM (gl g) yX12_some cX12_some 3 (some .boolean) (fA) (lA) [2] 0 (un1 F_X12_some)) (C : Cx g cX12_factor 6 yX12_factor (fA + 2) (lA + 44)) (hr : Rt g (some .boolean) 0 Z) {v0 v1 s0 : Int}    (cv1 : in32 v1) (cs0 : in32 s0) {h : MM} (hf : f_X12_factor_110 F_X12_factor F_X12_every F_X12_some n  v0 v1 s0 h = some Z) : G g 110 [(2, v0), (0, v1), (3, 0), (3, 0), (3, 0), (3, 0)] [(0, s0)] h := by
  unfold f_X12_factor_110 at hf
  refine r_istore_n C dX12_factor_110 (Nat.le_of_ble_eq_true rfl) rfl ?_
  refine r_iload_n C dX12_factor_111 rfl ?_
  refine r_bipush C dX12_factor_112 rfl ?_
  refine r_icmp_ne C dX12_factor_114 (tgt := 123) (by decide) cv1 (in32_of rfl) (fun n1 => ?_) (fun n1 => ?_)
  · have hf := ite_n n1 hf
    exact G.mask [true, false, true, false, false, false] rfl rfl (b_X12_factor_123 A_X12_factor A_X12_every A_X12_some C hr  cs0 hf)
  · have hf := ite_p n1 hf
    refine r_aload_n C dX12_factor_117 rfl ?_
    refine r_bipush C dX12_factor_118 rfl ?_
    obtain ⟨p2, hf⟩ := gk_s hf
    obtain ⟨r2, h2, hq2, hf⟩ := bd_s hf
    refine r_cV1v C (am_X12_must (gl g) n) cm_X12_must w_1567 dX12_factor_120 ⟨by omega, by omega⟩ p2 rfl (in32_of rfl) rfl (Nat.le_of_ble_eq_true rfl) hq2 ?_
    exact G.mask [true, false, true, false, false, false] rfl rfl (b_X12_factor_123 A_X12_factor A_X12_every A_X12_some C hr  cs0 hf)
set_option maxRecDepth 20000 in
theorem b_X12_factor_70 {g : GT} {Z : Int × MM} {n : Nat} {fA lA : Nat} {F_X12_factor : Int → MM → RR} (A_X12_factor : AM (gl g) yX12_factor cX12_factor 6 (some .boolean) (fA) (lA) [2] 0 (un1 F_X12_factor)) {F_X12_every : Int → MM → RR} (A_X12_every : AM (gl g) yX12_every cX12_every 3 (some .boolean) (fA) (lA) [2] 0 (un1 F_X12_every)) {F_X12_some : Int → MM → RR} (A_X12_some : AM (gl g) yX12_some cX12_some 3 (some .boolean) (fA) (lA) [2] 0 (un1 F_X12_some)) (C : Cx g cX12_factor 6 yX12_factor (fA + 2) (lA + 44)) (hr : Rt g (some .boolean) 0 Z) {v0 v1 s0 s1 s2 : Int}    (cv1 : in32 v1) (cs1 : in32 s1) (cs2 : in32 s2) {h : MM} (hf : f_X12_factor_70 F_X12_factor F_X12_every F_X12_some n  v0 v1 s0 s1 s2 h = some Z) : G g 70 [(2, v0), (0, v1), (3, 0), (3, 0), (3, 0), (3, 0)] [(0, s2), (0, s1), (2, s0)] h := by
  unfold f_X12_factor_70 at hf
  refine r_iadd C dX12_factor_70 ?_
  obtain ⟨q1, hf⟩ := pf_s hf
  refine r_pf C ct12 (j := 5) (ji := 5) dX12_factor_71 q1 rfl rfl (by decide) w_1430 rfl (Or.inl rfl) nar_int (in32_t _) ?_
  refine r_aload_n C dX12_factor_74 rfl ?_
  obtain ⟨q2, hf⟩ := gf_s hf
  refine r_gf C ct12 (j := 6) (ji := 6) dX12_factor_75 q2 rfl rfl (by decide) w_1431 rfl (fun c2 => ?_)
  have c2 : in32 _ := c2
  refine r_if_eq C dX12_factor_78 (tgt := 85) (by decide) c2 (fun n3 => ?_) (fun n3 => ?_)
  · have hf := ite_p n3 hf
    refine r_iload_n C dX12_factor_85 rfl ?_
    refine r_bipush C dX12_factor_86 rfl ?_
    refine r_icmp_ne C dX12_factor_88 (tgt := 106) (by decide) cv1 (in32_of rfl) (fun n4 => ?_) (fun n4 => ?_)
    · have hf := ite_n n4 hf
      refine r_aload_n C dX12_factor_106 rfl ?_
      obtain ⟨p5, hf⟩ := gk_s hf
      obtain ⟨r5, h5, hq5, hf⟩ := bd_s hf
      refine r_cV0 C A_X12_some cm_X12_some w_1555 dX12_factor_107 ⟨by omega, by omega⟩ p5 rfl  rfl (Nat.le_of_ble_eq_true rfl) hq5 (by decide) (fun c5 => ?_)
      have c5 : in32 _ := c5
      exact G.mask [true, true, false, false, false, false] rfl rfl (b_X12_factor_110 A_X12_factor A_X12_every A_X12_some C hr  cv1 c5 hf)
    · have hf := ite_p n4 hf
      refine r_aload_n C dX12_factor_91 rfl ?_
      obtain ⟨p6, hf⟩ := gk_s hf
      obtain ⟨r6, h6, hq6, hf⟩ := bd_s hf
      refine r_cV0 C A_X12_factor cm_X12_factor w_1563 dX12_factor_92 ⟨by omega, by omega⟩ p6 rfl  rfl (Nat.le_of_ble_eq_true rfl) hq6 (by decide) (fun c6 => ?_)
      have c6 : in32 _ := c6
      refine r_if_ne C dX12_factor_95 (tgt := 102) (by decide) c6 (fun n7 => ?_) (fun n7 => ?_)
      · have hf := ite_n n7 hf
        refine r_iconst C dX12_factor_102 ?_
        refine r_goto C dX12_factor_103 (tgt := 110) (by decide) ?_
        exact G.mask [true, true, false, false, false, false] rfl rfl (b_X12_factor_110 A_X12_factor A_X12_every A_X12_some C hr  cv1 (in32_of rfl) hf)
      · have hf := ite_p n7 hf
        refine r_iconst C dX12_factor_98 ?_
        refine r_goto C dX12_factor_99 (tgt := 110) (by decide) ?_
        exact G.mask [true, true, false, false, false, false] rfl rfl (b_X12_factor_110 A_X12_factor A_X12_every A_X12_some C hr  cv1 (in32_of rfl) hf)
  · have hf := ite_n n3 hf
    refine r_iconst C dX12_factor_81 ?_
    refine r_goto C dX12_factor_82 (tgt := 110) (by decide) ?_
    exact G.mask [true, true, false, false, false, false] rfl rfl (b_X12_factor_110 A_X12_factor A_X12_every A_X12_some C hr  cv1 (in32_of rfl) hf)
set_option maxRecDepth 20000 in
theorem b_X12_factor_40 {g : GT} {Z : Int × MM} {n : Nat} {fA lA : Nat} {F_X12_factor : Int → MM → RR} (A_X12_factor : AM (gl g) yX12_factor cX12_factor 6 (some .boolean) (fA) (lA) [2] 0 (un1 F_X12_factor)) {F_X12_every : Int → MM → RR} (A_X12_every : AM (gl g) yX12_every cX12_every 3 (some .boolean) (fA) (lA) [2] 0 (un1 F_X12_every)) {F_X12_some : Int → MM → RR} (A_X12_some : AM (gl g) yX12_some cX12_some 3 (some .boolean) (fA) (lA) [2] 0 (un1 F_X12_some)) (C : Cx g cX12_factor 6 yX12_factor (fA + 2) (lA + 44)) (hr : Rt g (some .boolean) 0 Z) {v0 v1 s0 s1 : Int}    (cv1 : in32 v1) (cs1 : in32 s1) {h : MM} (hf : f_X12_factor_40 F_X12_factor F_X12_every F_X12_some n  v0 v1 s0 s1 h = some Z) : G g 40 [(2, v0), (0, v1), (3, 0), (3, 0), (3, 0), (3, 0)] [(0, s1), (2, s0)] h := by
  unfold f_X12_factor_40 at hf
  obtain ⟨b2, hf⟩ := ck_s hf
  obtain ⟨q1, hf⟩ := pf_s hf
  refine r_pf C ct12 (j := 6) (ji := 6) dX12_factor_40 q1 rfl rfl (by decide) w_1431 rfl (Or.inl rfl) (nar_bool (isb_s b2)) cs1 ?_
  refine r_aload_n C dX12_factor_43 rfl ?_
  refine r_dup C dX12_factor_44 (by decide) ?_
  obtain ⟨q3, hf⟩ := gf_s hf
  refine r_gf C ct12 (j := 7) (ji := 7) dX12_factor_45 q3 rfl rfl (by decide) w_1432 rfl (fun c3 => ?_)
  have c3 : in32 _ := c3
  refine r_iconst C dX12_factor_48 ?_
  refine r_iadd C dX12_factor_49 ?_
  obtain ⟨q4, hf⟩ := pf_s hf
  refine r_pf C ct12 (j := 7) (ji := 7) dX12_factor_50 q4 rfl rfl (by decide) w_1432 rfl (Or.inl rfl) nar_int (in32_t _) ?_
  refine r_aload_n C dX12_factor_53 rfl ?_
  refine r_dup C dX12_factor_54 (by decide) ?_
  obtain ⟨q5, hf⟩ := gf_s hf
  refine r_gf C ct12 (j := 5) (ji := 5) dX12_factor_55 q5 rfl rfl (by decide) w_1430 rfl (fun c5 => ?_)
  have c5 : in32 _ := c5
  refine r_aload_n C dX12_factor_58 rfl ?_
  obtain ⟨q6, hf⟩ := gf_s hf
  refine r_gf C ct12 (j := 6) (ji := 6) dX12_factor_59 q6 rfl rfl (by decide) w_1431 rfl (fun c6 => ?_)
  have c6 : in32 _ := c6
  refine r_if_eq C dX12_factor_62 (tgt := 69) (by decide) c6 (fun n7 => ?_) (fun n7 => ?_)
  · have hf := ite_p n7 hf
    refine r_iconst C dX12_factor_69 ?_
    exact G.mask [true, true, false, false, false, false] rfl rfl (b_X12_factor_70 A_X12_factor A_X12_every A_X12_some C hr  cv1 c5 (in32_of rfl) hf)
  · have hf := ite_n n7 hf
    refine r_iconst C dX12_factor_65 ?_
    refine r_goto C dX12_factor_66 (tgt := 70) (by decide) ?_
    exact G.mask [true, true, false, false, false, false] rfl rfl (b_X12_factor_70 A_X12_factor A_X12_every A_X12_some C hr  cv1 c5 (in32_of rfl) hf)
set_option maxRecDepth 20000 in
theorem b_X12_factor_26 {g : GT} {Z : Int × MM} {n : Nat} {fA lA : Nat} {F_X12_factor : Int → MM → RR} (A_X12_factor : AM (gl g) yX12_factor cX12_factor 6 (some .boolean) (fA) (lA) [2] 0 (un1 F_X12_factor)) {F_X12_every : Int → MM → RR} (A_X12_every : AM (gl g) yX12_every cX12_every 3 (some .boolean) (fA) (lA) [2] 0 (un1 F_X12_every)) {F_X12_some : Int → MM → RR} (A_X12_some : AM (gl g) yX12_some cX12_some 3 (some .boolean) (fA) (lA) [2] 0 (un1 F_X12_some)) (C : Cx g cX12_factor 6 yX12_factor (fA + 2) (lA + 44)) (hr : Rt g (some .boolean) 0 Z) {v0 v1 : Int}    (cv1 : in32 v1) {h : MM} (hf : f_X12_factor_26 F_X12_factor F_X12_every F_X12_some n  v0 v1 h = some Z) : G g 26 [(2, v0), (0, v1), (3, 0), (3, 0), (3, 0), (3, 0)] [] h := by
  unfold f_X12_factor_26 at hf
  refine r_aload_n C dX12_factor_26 rfl ?_
  refine r_aload_n C dX12_factor_27 rfl ?_
  obtain ⟨q1, hf⟩ := gf_s hf
  refine r_gf C ct12 (j := 7) (ji := 7) dX12_factor_28 q1 rfl rfl (by decide) w_1432 rfl (fun c1 => ?_)
  have c1 : in32 _ := c1
  refine r_iconst C dX12_factor_31 ?_
  refine r_icmp_ne C dX12_factor_32 (tgt := 39) (by decide) c1 (in32_of rfl) (fun n2 => ?_) (fun n2 => ?_)
  · have hf := ite_n n2 hf
    refine r_iconst C dX12_factor_39 ?_
    exact G.mask [true, true, false, false, false, false] rfl rfl (b_X12_factor_40 A_X12_factor A_X12_every A_X12_some C hr  cv1 (in32_of rfl) hf)
  · have hf := ite_p n2 hf
    refine r_iconst C dX12_factor_35 ?_
    refine r_goto C dX12_factor_36 (tgt := 40) (by decide) ?_
    exact G.mask [true, true, false, false, false, false] rfl rfl (b_X12_factor_40 A_X12_factor A_X12_every A_X12_some C hr  cv1 (in32_of rfl) hf)
set_option maxRecDepth 20000 in
theorem b_X12_factor_426 {g : GT} {Z : Int × MM} {n : Nat} {fA lA : Nat} {F_X12_factor : Int → MM → RR} (A_X12_factor : AM (gl g) yX12_factor cX12_factor 6 (some .boolean) (fA) (lA) [2] 0 (un1 F_X12_factor)) {F_X12_every : Int → MM → RR} (A_X12_every : AM (gl g) yX12_every cX12_every 3 (some .boolean) (fA) (lA) [2] 0 (un1 F_X12_every)) {F_X12_some : Int → MM → RR} (A_X12_some : AM (gl g) yX12_some cX12_some 3 (some .boolean) (fA) (lA) [2] 0 (un1 F_X12_some)) (C : Cx g cX12_factor 6 yX12_factor (fA + 2) (lA + 44)) (hr : Rt g (some .boolean) 0 Z) {s0 : Int}    (cs0 : in32 s0) {h : MM} (hf : f_X12_factor_426 F_X12_factor F_X12_every F_X12_some n  s0 h = some Z) : G g 426 [(3, 0), (3, 0), (3, 0), (3, 0), (3, 0), (3, 0)] [(0, s0)] h := by
  unfold f_X12_factor_426 at hf
  obtain ⟨b1, hf⟩ := ck_s hf
  cases hf
  exact r_zret C hr dX12_factor_426 b1
set_option maxRecDepth 20000 in
theorem b_X12_factor_391 {g : GT} {Z : Int × MM} {n : Nat} {fA lA : Nat} {F_X12_factor : Int → MM → RR} (A_X12_factor : AM (gl g) yX12_factor cX12_factor 6 (some .boolean) (fA) (lA) [2] 0 (un1 F_X12_factor)) {F_X12_every : Int → MM → RR} (A_X12_every : AM (gl g) yX12_every cX12_every 3 (some .boolean) (fA) (lA) [2] 0 (un1 F_X12_every)) {F_X12_some : Int → MM → RR} (A_X12_some : AM (gl g) yX12_some cX12_some 3 (some .boolean) (fA) (lA) [2] 0 (un1 F_X12_some)) (C : Cx g cX12_factor 6 yX12_factor (fA + 2) (lA + 44)) (hr : Rt g (some .boolean) 0 Z) {v3 v4 s0 : Int}    (cv3 : in32 v3) (cv4 : in32 v4) (cs0 : in32 s0) {h : MM} (hf : f_X12_factor_391 F_X12_factor F_X12_every F_X12_some n  v3 v4 s0 h = some Z) : G g 391 [(3, 0), (3, 0), (3, 0), (0, v3), (0, v4), (3, 0)] [(0, s0)] h := by
  unfold f_X12_factor_391 at hf
  refine r_istore C dX12_factor_391 (Nat.le_of_ble_eq_true rfl) rfl ?_
  refine r_iload_n C dX12_factor_393 rfl ?_
  refine r_bipush C dX12_factor_394 rfl ?_
  refine r_icmp_ne C dX12_factor_396 (tgt := 414) (by decide) cv3 (in32_of rfl) (fun n1 => ?_) (fun n1 => ?_)
  · have hf := ite_n n1 hf
    refine r_iload C dX12_factor_414 rfl ?_
    refine r_iload C dX12_factor_416 rfl ?_
    refine r_icmp_le C dX12_factor_418 (tgt := 425) (by decide) cs0 cv4 (fun n2 => ?_) (fun n2 => ?_)
    · have hf := ite_p n2 hf
      refine r_iconst C dX12_factor_425 ?_
      exact G.mask [false, false, false, false, false, false] rfl rfl (b_X12_factor_426 A_X12_factor A_X12_every A_X12_some C hr  (in32_of rfl) hf)
    · have hf := ite_n n2 hf
      refine r_iconst C dX12_factor_421 ?_
      refine r_goto C dX12_factor_422 (tgt := 426) (by decide) ?_
      exact G.mask [false, false, false, false, false, false] rfl rfl (b_X12_factor_426 A_X12_factor A_X12_every A_X12_some C hr  (in32_of rfl) hf)
  · have hf := ite_p n1 hf
    refine r_iload C dX12_factor_399 rfl ?_
    refine r_iload C dX12_factor_401 rfl ?_
    refine r_icmp_ge C dX12_factor_403 (tgt := 410) (by decide) cs0 cv4 (fun n3 => ?_) (fun n3 => ?_)
    · have hf := ite_p n3 hf
      refine r_iconst C dX12_factor_410 ?_
      refine r_goto C dX12_factor_411 (tgt := 426) (by decide) ?_
      exact G.mask [false, false, false, false, false, false] rfl rfl (b_X12_factor_426 A_X12_factor A_X12_every A_X12_some C hr  (in32_of rfl) hf)
    · have hf := ite_n n3 hf
      refine r_iconst C dX12_factor_406 ?_
      refine r_goto C dX12_factor_407 (tgt := 426) (by decide) ?_
      exact G.mask [false, false, false, false, false, false] rfl rfl (b_X12_factor_426 A_X12_factor A_X12_every A_X12_some C hr  (in32_of rfl) hf)
set_option maxRecDepth 20000 in
theorem b_X12_factor_364 {g : GT} {Z : Int × MM} {n : Nat} {fA lA : Nat} {F_X12_factor : Int → MM → RR} (A_X12_factor : AM (gl g) yX12_factor cX12_factor 6 (some .boolean) (fA) (lA) [2] 0 (un1 F_X12_factor)) {F_X12_every : Int → MM → RR} (A_X12_every : AM (gl g) yX12_every cX12_every 3 (some .boolean) (fA) (lA) [2] 0 (un1 F_X12_every)) {F_X12_some : Int → MM → RR} (A_X12_some : AM (gl g) yX12_some cX12_some 3 (some .boolean) (fA) (lA) [2] 0 (un1 F_X12_some)) (C : Cx g cX12_factor 6 yX12_factor (fA + 2) (lA + 44)) (hr : Rt g (some .boolean) 0 Z) {v0 v2 v3 s0 s1 s2 : Int}    (cv2 : in32 v2) (cv3 : in32 v3) (cs1 : in32 s1) (cs2 : in32 s2) {h : MM} (hf : f_X12_factor_364 F_X12_factor F_X12_every F_X12_some n  v0 v2 v3 s0 s1 s2 h = some Z) : G g 364 [(2, v0), (3, 0), (0, v2), (0, v3), (3, 0), (3, 0)] [(0, s2), (0, s1), (2, s0)] h := by
  unfold f_X12_factor_364 at hf
  refine r_iadd C dX12_factor_364 ?_
  obtain ⟨q1, hf⟩ := pf_s hf
  refine r_pf C ct12 (j := 5) (ji := 5) dX12_factor_365 q1 rfl rfl (by decide) w_1430 rfl (Or.inl rfl) nar_int (in32_t _) ?_
  refine r_aload_n C dX12_factor_368 rfl ?_
  obtain ⟨p2, hf⟩ := gk_s hf
  obtain ⟨r2, h2, hq2, hf⟩ := bd_s hf
  refine r_cV0 C (am_X12_number (gl g) n) cm_X12_number w_1571 dX12_factor_369 ⟨by omega, by omega⟩ p2 rfl  rfl (Nat.le_of_ble_eq_true rfl) hq2 (by decide) (fun c2 => ?_)
  have c2 : in32 _ := c2
  refine r_istore C dX12_factor_372 (Nat.le_of_ble_eq_true rfl) rfl ?_
  refine r_aload_n C dX12_factor_374 rfl ?_
  obtain ⟨q3, hf⟩ := gf_s hf
  refine r_gf C ct12 (j := 6) (ji := 6) dX12_factor_375 q3 rfl rfl (by decide) w_1431 rfl (fun c3 => ?_)
  have c3 : in32 _ := c3
  refine r_if_eq C dX12_factor_378 (tgt := 385) (by decide) c3 (fun n4 => ?_) (fun n4 => ?_)
  · have hf := ite_p n4 hf
    refine r_aload_n C dX12_factor_385 rfl ?_
    obtain ⟨q5, hf⟩ := gf_s hf
    refine r_gf C ct12 (j := 8) (ji := 8) dX12_factor_386 q5 rfl rfl (by decide) w_1433 rfl (fun c5 => ?_)
    refine r_iload_n C dX12_factor_389 rfl ?_
    obtain ⟨q6, hf⟩ := rd_s hf
    refine r_iald C dX12_factor_390 q6 rfl (fun c6 => ?_)
    exact G.mask [false, false, false, true, true, false] rfl rfl (b_X12_factor_391 A_X12_factor A_X12_every A_X12_some C hr  cv3 c2 c6 hf)
  · have hf := ite_n n4 hf
    refine r_iconst C dX12_factor_381 ?_
    refine r_goto C dX12_factor_382 (tgt := 391) (by decide) ?_
    exact G.mask [false, false, false, true, true, false] rfl rfl (b_X12_factor_391 A_X12_factor A_X12_every A_X12_some C hr  cv3 c2 (in32_of rfl) hf)
set_option maxRecDepth 20000 in
theorem b_X12_factor_344 {g : GT} {Z : Int × MM} {n : Nat} {fA lA : Nat} {F_X12_factor : Int → MM → RR} (A_X12_factor : AM (gl g) yX12_factor cX12_factor 6 (some .boolean) (fA) (lA) [2] 0 (un1 F_X12_factor)) {F_X12_every : Int → MM → RR} (A_X12_every : AM (gl g) yX12_every cX12_every 3 (some .boolean) (fA) (lA) [2] 0 (un1 F_X12_every)) {F_X12_some : Int → MM → RR} (A_X12_some : AM (gl g) yX12_some cX12_some 3 (some .boolean) (fA) (lA) [2] 0 (un1 F_X12_some)) (C : Cx g cX12_factor 6 yX12_factor (fA + 2) (lA + 44)) (hr : Rt g (some .boolean) 0 Z) {v0 v2 v3 s0 s1 : Int}    (cv2 : in32 v2) (cv3 : in32 v3) (cs1 : in32 s1) {h : MM} (hf : f_X12_factor_344 F_X12_factor F_X12_every F_X12_some n  v0 v2 v3 s0 s1 h = some Z) : G g 344 [(2, v0), (3, 0), (0, v2), (0, v3), (3, 0), (3, 0)] [(0, s1), (2, s0)] h := by
  unfold f_X12_factor_344 at hf
  obtain ⟨b2, hf⟩ := ck_s hf
  obtain ⟨q1, hf⟩ := pf_s hf
  refine r_pf C ct12 (j := 6) (ji := 6) dX12_factor_344 q1 rfl rfl (by decide) w_1431 rfl (Or.inl rfl) (nar_bool (isb_s b2)) cs1 ?_
  refine r_aload_n C dX12_factor_347 rfl ?_
  refine r_dup C dX12_factor_348 (by decide) ?_
  obtain ⟨q3, hf⟩ := gf_s hf
  refine r_gf C ct12 (j := 5) (ji := 5) dX12_factor_349 q3 rfl rfl (by decide) w_1430 rfl (fun c3 => ?_)
  have c3 : in32 _ := c3
  refine r_aload_n C dX12_factor_352 rfl ?_
  obtain ⟨q4, hf⟩ := gf_s hf
  refine r_gf C ct12 (j := 6) (ji := 6) dX12_factor_353 q4 rfl rfl (by decide) w_1431 rfl (fun c4 => ?_)
  have c4 : in32 _ := c4
  refine r_if_eq C dX12_factor_356 (tgt := 363) (by decide) c4 (fun n5 => ?_) (fun n5 => ?_)
  · have hf := ite_p n5 hf
    refine r_iconst C dX12_factor_363 ?_
    exact G.mask [true, false, true, true, false, false] rfl rfl (b_X12_factor_364 A_X12_factor A_X12_every A_X12_some C hr  cv2 cv3 c3 (in32_of rfl) hf)
  · have hf := ite_n n5 hf
    refine r_iconst C dX12_factor_359 ?_
    refine r_goto C dX12_factor_360 (tgt := 364) (by decide) ?_
    exact G.mask [true, false, true, true, false, false] rfl rfl (b_X12_factor_364 A_X12_factor A_X12_every A_X12_some C hr  cv2 cv3 c3 (in32_of rfl) hf)
set_option maxRecDepth 20000 in
theorem b_X12_factor_339 {g : GT} {Z : Int × MM} {n : Nat} {fA lA : Nat} {F_X12_factor : Int → MM → RR} (A_X12_factor : AM (gl g) yX12_factor cX12_factor 6 (some .boolean) (fA) (lA) [2] 0 (un1 F_X12_factor)) {F_X12_every : Int → MM → RR} (A_X12_every : AM (gl g) yX12_every cX12_every 3 (some .boolean) (fA) (lA) [2] 0 (un1 F_X12_every)) {F_X12_some : Int → MM → RR} (A_X12_some : AM (gl g) yX12_some cX12_some 3 (some .boolean) (fA) (lA) [2] 0 (un1 F_X12_some)) (C : Cx g cX12_factor 6 yX12_factor (fA + 2) (lA + 44)) (hr : Rt g (some .boolean) 0 Z) {v0 v2 v3 s0 : Int}    (cv2 : in32 v2) (cv3 : in32 v3) {h : MM} (hf : f_X12_factor_339 F_X12_factor F_X12_every F_X12_some n  v0 v2 v3 s0 h = some Z) : G g 339 [(2, v0), (3, 0), (0, v2), (0, v3), (3, 0), (3, 0)] [(2, s0)] h := by
  unfold f_X12_factor_339 at hf
  refine r_iconst C dX12_factor_339 ?_
  refine r_goto C dX12_factor_340 (tgt := 344) (by decide) ?_
  exact G.mask [true, false, true, true, false, false] rfl rfl (b_X12_factor_344 A_X12_factor A_X12_every A_X12_some C hr  cv2 cv3 (in32_of rfl) hf)
set_option maxRecDepth 20000 in
theorem b_X12_factor_343 {g : GT} {Z : Int × MM} {n : Nat} {fA lA : Nat} {F_X12_factor : Int → MM → RR} (A_X12_factor : AM (gl g) yX12_factor cX12_factor 6 (some .boolean) (fA) (lA) [2] 0 (un1 F_X12_factor)) {F_X12_every : Int → MM → RR} (A_X12_every : AM (gl g) yX12_every cX12_every 3 (some .boolean) (fA) (lA) [2] 0 (un1 F_X12_every)) {F_X12_some : Int → MM → RR} (A_X12_some : AM (gl g) yX12_some cX12_some 3 (some .boolean) (fA) (lA) [2] 0 (un1 F_X12_some)) (C : Cx g cX12_factor 6 yX12_factor (fA + 2) (lA + 44)) (hr : Rt g (some .boolean) 0 Z) {v0 v2 v3 s0 : Int}    (cv2 : in32 v2) (cv3 : in32 v3) {h : MM} (hf : f_X12_factor_343 F_X12_factor F_X12_every F_X12_some n  v0 v2 v3 s0 h = some Z) : G g 343 [(2, v0), (3, 0), (0, v2), (0, v3), (3, 0), (3, 0)] [(2, s0)] h := by
  unfold f_X12_factor_343 at hf
  refine r_iconst C dX12_factor_343 ?_
  exact G.mask [true, false, true, true, false, false] rfl rfl (b_X12_factor_344 A_X12_factor A_X12_every A_X12_some C hr  cv2 cv3 (in32_of rfl) hf)
set_option maxRecDepth 20000 in
theorem b_X12_factor_310 {g : GT} {Z : Int × MM} {n : Nat} {fA lA : Nat} {F_X12_factor : Int → MM → RR} (A_X12_factor : AM (gl g) yX12_factor cX12_factor 6 (some .boolean) (fA) (lA) [2] 0 (un1 F_X12_factor)) {F_X12_every : Int → MM → RR} (A_X12_every : AM (gl g) yX12_every cX12_every 3 (some .boolean) (fA) (lA) [2] 0 (un1 F_X12_every)) {F_X12_some : Int → MM → RR} (A_X12_some : AM (gl g) yX12_some cX12_some 3 (some .boolean) (fA) (lA) [2] 0 (un1 F_X12_some)) (C : Cx g cX12_factor 6 yX12_factor (fA + 2) (lA + 44)) (hr : Rt g (some .boolean) 0 Z) {v0 v2 s0 s1 s2 : Int}    (cv2 : in32 v2) (cs1 : in32 s1) (cs2 : in32 s2) {h : MM} (hf : f_X12_factor_310 F_X12_factor F_X12_every F_X12_some n  v0 v2 s0 s1 s2 h = some Z) : G g 310 [(2, v0), (3, 0), (0, v2), (3, 0), (3, 0), (3, 0)] [(0, s2), (0, s1), (2, s0)] h := by
  unfold f_X12_factor_310 at hf
  refine r_iadd C dX12_factor_310 ?_
  obtain ⟨q1, hf⟩ := pf_s hf
  refine r_pf C ct12 (j := 5) (ji := 5) dX12_factor_311 q1 rfl rfl (by decide) w_1430 rfl (Or.inl rfl) nar_int (in32_t _) ?_
  refine r_aload_n C dX12_factor_314 rfl ?_
  obtain ⟨p2, hf⟩ := gk_s hf
  obtain ⟨r2, h2, hq2, hf⟩ := bd_s hf
  refine r_cV0 C (am_X12_here (gl g) n) cm_X12_here w_1551 dX12_factor_315 ⟨by omega, by omega⟩ p2 rfl  rfl (Nat.le_of_ble_eq_true rfl) hq2 (by decide) (fun c2 => ?_)
  have c2 : in32 _ := c2
  refine r_istore_n C dX12_factor_318 (Nat.le_of_ble_eq_true rfl) rfl ?_
  refine r_aload_n C dX12_factor_319 rfl ?_
  refine r_aload_n C dX12_factor_320 rfl ?_
  obtain ⟨q3, hf⟩ := gf_s hf
  refine r_gf C ct12 (j := 6) (ji := 6) dX12_factor_321 q3 rfl rfl (by decide) w_1431 rfl (fun c3 => ?_)
  have c3 : in32 _ := c3
  refine r_if_ne C dX12_factor_324 (tgt := 339) (by decide) c3 (fun n4 => ?_) (fun n4 => ?_)
  · have hf := ite_n n4 hf
    exact G.mask [true, false, true, true, false, false] rfl rfl (b_X12_factor_339 A_X12_factor A_X12_every A_X12_some C hr  cv2 c2 hf)
  · have hf := ite_p n4 hf
    refine r_iload_n C dX12_factor_327 rfl ?_
    refine r_bipush C dX12_factor_328 rfl ?_
    refine r_icmp_eq C dX12_factor_330 (tgt := 343) (by decide) c2 (in32_of rfl) (fun n5 => ?_) (fun n5 => ?_)
    · have hf := ite_p n5 hf
      exact G.mask [true, false, true, true, false, false] rfl rfl (b_X12_factor_343 A_X12_factor A_X12_every A_X12_some C hr  cv2 c2 hf)
    · have hf := ite_n n5 hf
      refine r_iload_n C dX12_factor_333 rfl ?_
      refine r_bipush C dX12_factor_334 rfl ?_
      refine r_icmp_eq C dX12_factor_336 (tgt := 343) (by decide) c2 (in32_of rfl) (fun n6 => ?_) (fun n6 => ?_)
      · have hf := ite_p n6 hf
        exact G.mask [true, false, true, true, false, false] rfl rfl (b_X12_factor_343 A_X12_factor A_X12_every A_X12_some C hr  cv2 c2 hf)
      · have hf := ite_n n6 hf
        exact G.mask [true, false, true, true, false, false] rfl rfl (b_X12_factor_339 A_X12_factor A_X12_every A_X12_some C hr  cv2 c2 hf)
set_option maxRecDepth 20000 in
theorem b_X12_factor_290 {g : GT} {Z : Int × MM} {n : Nat} {fA lA : Nat} {F_X12_factor : Int → MM → RR} (A_X12_factor : AM (gl g) yX12_factor cX12_factor 6 (some .boolean) (fA) (lA) [2] 0 (un1 F_X12_factor)) {F_X12_every : Int → MM → RR} (A_X12_every : AM (gl g) yX12_every cX12_every 3 (some .boolean) (fA) (lA) [2] 0 (un1 F_X12_every)) {F_X12_some : Int → MM → RR} (A_X12_some : AM (gl g) yX12_some cX12_some 3 (some .boolean) (fA) (lA) [2] 0 (un1 F_X12_some)) (C : Cx g cX12_factor 6 yX12_factor (fA + 2) (lA + 44)) (hr : Rt g (some .boolean) 0 Z) {v0 v2 s0 s1 : Int}    (cv2 : in32 v2) (cs1 : in32 s1) {h : MM} (hf : f_X12_factor_290 F_X12_factor F_X12_every F_X12_some n  v0 v2 s0 s1 h = some Z) : G g 290 [(2, v0), (3, 0), (0, v2), (3, 0), (3, 0), (3, 0)] [(0, s1), (2, s0)] h := by
  unfold f_X12_factor_290 at hf
  obtain ⟨b2, hf⟩ := ck_s hf
  obtain ⟨q1, hf⟩ := pf_s hf
  refine r_pf C ct12 (j := 6) (ji := 6) dX12_factor_290 q1 rfl rfl (by decide) w_1431 rfl (Or.inl rfl) (nar_bool (isb_s b2)) cs1 ?_
  refine r_aload_n C dX12_factor_293 rfl ?_
  refine r_dup C dX12_factor_294 (by decide) ?_
  obtain ⟨q3, hf⟩ := gf_s hf
  refine r_gf C ct12 (j := 5) (ji := 5) dX12_factor_295 q3 rfl rfl (by decide) w_1430 rfl (fun c3 => ?_)
  have c3 : in32 _ := c3
  refine r_aload_n C dX12_factor_298 rfl ?_
  obtain ⟨q4, hf⟩ := gf_s hf
  refine r_gf C ct12 (j := 6) (ji := 6) dX12_factor_299 q4 rfl rfl (by decide) w_1431 rfl (fun c4 => ?_)
  have c4 : in32 _ := c4
  refine r_if_eq C dX12_factor_302 (tgt := 309) (by decide) c4 (fun n5 => ?_) (fun n5 => ?_)
  · have hf := ite_p n5 hf
    refine r_iconst C dX12_factor_309 ?_
    exact G.mask [true, false, true, false, false, false] rfl rfl (b_X12_factor_310 A_X12_factor A_X12_every A_X12_some C hr  cv2 c3 (in32_of rfl) hf)
  · have hf := ite_n n5 hf
    refine r_iconst C dX12_factor_305 ?_
    refine r_goto C dX12_factor_306 (tgt := 310) (by decide) ?_
    exact G.mask [true, false, true, false, false, false] rfl rfl (b_X12_factor_310 A_X12_factor A_X12_every A_X12_some C hr  cv2 c3 (in32_of rfl) hf)
set_option maxRecDepth 20000 in
theorem b_X12_factor_278 {g : GT} {Z : Int × MM} {n : Nat} {fA lA : Nat} {F_X12_factor : Int → MM → RR} (A_X12_factor : AM (gl g) yX12_factor cX12_factor 6 (some .boolean) (fA) (lA) [2] 0 (un1 F_X12_factor)) {F_X12_every : Int → MM → RR} (A_X12_every : AM (gl g) yX12_every cX12_every 3 (some .boolean) (fA) (lA) [2] 0 (un1 F_X12_every)) {F_X12_some : Int → MM → RR} (A_X12_some : AM (gl g) yX12_some cX12_some 3 (some .boolean) (fA) (lA) [2] 0 (un1 F_X12_some)) (C : Cx g cX12_factor 6 yX12_factor (fA + 2) (lA + 44)) (hr : Rt g (some .boolean) 0 Z) {v0 s0 : Int}    (cs0 : in32 s0) {h : MM} (hf : f_X12_factor_278 F_X12_factor F_X12_every F_X12_some n  v0 s0 h = some Z) : G g 278 [(2, v0), (3, 0), (3, 0), (3, 0), (3, 0), (3, 0)] [(0, s0)] h := by
  unfold f_X12_factor_278 at hf
  refine r_istore_n C dX12_factor_278 (Nat.le_of_ble_eq_true rfl) rfl ?_
  refine r_aload_n C dX12_factor_279 rfl ?_
  refine r_iload_n C dX12_factor_280 rfl ?_
  refine r_iconst C dX12_factor_281 ?_
  refine r_icmp_ne C dX12_factor_282 (tgt := 289) (by decide) cs0 (in32_of rfl) (fun n1 => ?_) (fun n1 => ?_)
  · have hf := ite_n n1 hf
    refine r_iconst C dX12_factor_289 ?_
    exact G.mask [true, false, true, false, false, false] rfl rfl (b_X12_factor_290 A_X12_factor A_X12_every A_X12_some C hr  cs0 (in32_of rfl) hf)
  · have hf := ite_p n1 hf
    refine r_iconst C dX12_factor_285 ?_
    refine r_goto C dX12_factor_286 (tgt := 290) (by decide) ?_
    exact G.mask [true, false, true, false, false, false] rfl rfl (b_X12_factor_290 A_X12_factor A_X12_every A_X12_some C hr  cs0 (in32_of rfl) hf)
set_option maxRecDepth 20000 in
theorem b_X12_factor_226 {g : GT} {Z : Int × MM} {n : Nat} {fA lA : Nat} {F_X12_factor : Int → MM → RR} (A_X12_factor : AM (gl g) yX12_factor cX12_factor 6 (some .boolean) (fA) (lA) [2] 0 (un1 F_X12_factor)) {F_X12_every : Int → MM → RR} (A_X12_every : AM (gl g) yX12_every cX12_every 3 (some .boolean) (fA) (lA) [2] 0 (un1 F_X12_every)) {F_X12_some : Int → MM → RR} (A_X12_some : AM (gl g) yX12_some cX12_some 3 (some .boolean) (fA) (lA) [2] 0 (un1 F_X12_some)) (C : Cx g cX12_factor 6 yX12_factor (fA + 2) (lA + 44)) (hr : Rt g (some .boolean) 0 Z) {s0 : Int}    (cs0 : in32 s0) {h : MM} (hf : f_X12_factor_226 F_X12_factor F_X12_every F_X12_some n  s0 h = some Z) : G g 226 [(3, 0), (3, 0), (3, 0), (3, 0), (3, 0), (3, 0)] [(0, s0)] h := by
  unfold f_X12_factor_226 at hf
  obtain ⟨b1, hf⟩ := ck_s hf
  cases hf
  exact r_zret C hr dX12_factor_226 b1
set_option maxRecDepth 20000 in
theorem b_X12_factor_207 {g : GT} {Z : Int × MM} {n : Nat} {fA lA : Nat} {F_X12_factor : Int → MM → RR} (A_X12_factor : AM (gl g) yX12_factor cX12_factor 6 (some .boolean) (fA) (lA) [2] 0 (un1 F_X12_factor)) {F_X12_every : Int → MM → RR} (A_X12_every : AM (gl g) yX12_every cX12_every 3 (some .boolean) (fA) (lA) [2] 0 (un1 F_X12_every)) {F_X12_some : Int → MM → RR} (A_X12_some : AM (gl g) yX12_some cX12_some 3 (some .boolean) (fA) (lA) [2] 0 (un1 F_X12_some)) (C : Cx g cX12_factor 6 yX12_factor (fA + 2) (lA + 44)) (hr : Rt g (some .boolean) 0 Z) {v0 v2 s0 s1 s2 : Int}    (cv2 : in32 v2) (cs1 : in32 s1) (cs2 : in32 s2) {h : MM} (hf : f_X12_factor_207 F_X12_factor F_X12_every F_X12_some n  v0 v2 s0 s1 s2 h = some Z) : G g 207 [(2, v0), (3, 0), (0, v2), (3, 0), (3, 0), (3, 0)] [(0, s2), (0, s1), (2, s0)] h := by
  unfold f_X12_factor_207 at hf
  refine r_iadd C dX12_factor_207 ?_
  obtain ⟨q1, hf⟩ := pf_s hf
  refine r_pf C ct12 (j := 5) (ji := 5) dX12_factor_208 q1 rfl rfl (by decide) w_1430 rfl (Or.inl rfl) nar_int (in32_t _) ?_
  refine r_aload_n C dX12_factor_211 rfl ?_
  obtain ⟨q2, hf⟩ := gf_s hf
  refine r_gf C ct12 (j := 8) (ji := 8) dX12_factor_212 q2 rfl rfl (by decide) w_1433 rfl (fun c2 => ?_)
  refine r_iconst C dX12_factor_215 ?_
  obtain ⟨q3, hf⟩ := rd_s hf
  refine r_iald C dX12_factor_216 q3 rfl (fun c3 => ?_)
  refine r_iload_n C dX12_factor_217 rfl ?_
  refine r_icmp_ne C dX12_factor_218 (tgt := 225) (by decide) c3 cv2 (fun n4 => ?_) (fun n4 => ?_)
  · have hf := ite_n n4 hf
    refine r_iconst C dX12_factor_225 ?_
    exact G.mask [false, false, false, false, false, false] rfl rfl (b_X12_factor_226 A_X12_factor A_X12_every A_X12_some C hr  (in32_of rfl) hf)
  · have hf := ite_p n4 hf
    refine r_iconst C dX12_factor_221 ?_
    refine r_goto C dX12_factor_222 (tgt := 226) (by decide) ?_
    exact G.mask [false, false, false, false, false, false] rfl rfl (b_X12_factor_226 A_X12_factor A_X12_every A_X12_some C hr  (in32_of rfl) hf)
set_option maxRecDepth 20000 in
theorem b_X12_factor_187 {g : GT} {Z : Int × MM} {n : Nat} {fA lA : Nat} {F_X12_factor : Int → MM → RR} (A_X12_factor : AM (gl g) yX12_factor cX12_factor 6 (some .boolean) (fA) (lA) [2] 0 (un1 F_X12_factor)) {F_X12_every : Int → MM → RR} (A_X12_every : AM (gl g) yX12_every cX12_every 3 (some .boolean) (fA) (lA) [2] 0 (un1 F_X12_every)) {F_X12_some : Int → MM → RR} (A_X12_some : AM (gl g) yX12_some cX12_some 3 (some .boolean) (fA) (lA) [2] 0 (un1 F_X12_some)) (C : Cx g cX12_factor 6 yX12_factor (fA + 2) (lA + 44)) (hr : Rt g (some .boolean) 0 Z) {v0 v2 s0 s1 : Int}    (cv2 : in32 v2) (cs1 : in32 s1) {h : MM} (hf : f_X12_factor_187 F_X12_factor F_X12_every F_X12_some n  v0 v2 s0 s1 h = some Z) : G g 187 [(2, v0), (3, 0), (0, v2), (3, 0), (3, 0), (3, 0)] [(0, s1), (2, s0)] h := by
  unfold f_X12_factor_187 at hf
  obtain ⟨b2, hf⟩ := ck_s hf
  obtain ⟨q1, hf⟩ := pf_s hf
  refine r_pf C ct12 (j := 6) (ji := 6) dX12_factor_187 q1 rfl rfl (by decide) w_1431 rfl (Or.inl rfl) (nar_bool (isb_s b2)) cs1 ?_
  refine r_aload_n C dX12_factor_190 rfl ?_
  refine r_dup C dX12_factor_191 (by decide) ?_
  obtain ⟨q3, hf⟩ := gf_s hf
  refine r_gf C ct12 (j := 5) (ji := 5) dX12_factor_192 q3 rfl rfl (by decide) w_1430 rfl (fun c3 => ?_)
  have c3 : in32 _ := c3
  refine r_aload_n C dX12_factor_195 rfl ?_
  obtain ⟨q4, hf⟩ := gf_s hf
  refine r_gf C ct12 (j := 6) (ji := 6) dX12_factor_196 q4 rfl rfl (by decide) w_1431 rfl (fun c4 => ?_)
  have c4 : in32 _ := c4
  refine r_if_eq C dX12_factor_199 (tgt := 206) (by decide) c4 (fun n5 => ?_) (fun n5 => ?_)
  · have hf := ite_p n5 hf
    refine r_iconst C dX12_factor_206 ?_
    exact G.mask [true, false, true, false, false, false] rfl rfl (b_X12_factor_207 A_X12_factor A_X12_every A_X12_some C hr  cv2 c3 (in32_of rfl) hf)
  · have hf := ite_n n5 hf
    refine r_iconst C dX12_factor_202 ?_
    refine r_goto C dX12_factor_203 (tgt := 207) (by decide) ?_
    exact G.mask [true, false, true, false, false, false] rfl rfl (b_X12_factor_207 A_X12_factor A_X12_every A_X12_some C hr  cv2 c3 (in32_of rfl) hf)
set_option maxRecDepth 20000 in
theorem b_X12_factor_182 {g : GT} {Z : Int × MM} {n : Nat} {fA lA : Nat} {F_X12_factor : Int → MM → RR} (A_X12_factor : AM (gl g) yX12_factor cX12_factor 6 (some .boolean) (fA) (lA) [2] 0 (un1 F_X12_factor)) {F_X12_every : Int → MM → RR} (A_X12_every : AM (gl g) yX12_every cX12_every 3 (some .boolean) (fA) (lA) [2] 0 (un1 F_X12_every)) {F_X12_some : Int → MM → RR} (A_X12_some : AM (gl g) yX12_some cX12_some 3 (some .boolean) (fA) (lA) [2] 0 (un1 F_X12_some)) (C : Cx g cX12_factor 6 yX12_factor (fA + 2) (lA + 44)) (hr : Rt g (some .boolean) 0 Z) {v0 v2 s0 : Int}    (cv2 : in32 v2) {h : MM} (hf : f_X12_factor_182 F_X12_factor F_X12_every F_X12_some n  v0 v2 s0 h = some Z) : G g 182 [(2, v0), (3, 0), (0, v2), (3, 0), (3, 0), (3, 0)] [(2, s0)] h := by
  unfold f_X12_factor_182 at hf
  refine r_iconst C dX12_factor_182 ?_
  refine r_goto C dX12_factor_183 (tgt := 187) (by decide) ?_
  exact G.mask [true, false, true, false, false, false] rfl rfl (b_X12_factor_187 A_X12_factor A_X12_every A_X12_some C hr  cv2 (in32_of rfl) hf)
set_option maxRecDepth 20000 in
theorem e_X12_factor {g : GT} {Z : Int × MM} {n : Nat} {fA lA : Nat} {F_X12_factor : Int → MM → RR} (A_X12_factor : AM (gl g) yX12_factor cX12_factor 6 (some .boolean) (fA) (lA) [2] 0 (un1 F_X12_factor)) {F_X12_every : Int → MM → RR} (A_X12_every : AM (gl g) yX12_every cX12_every 3 (some .boolean) (fA) (lA) [2] 0 (un1 F_X12_every)) {F_X12_some : Int → MM → RR} (A_X12_some : AM (gl g) yX12_some cX12_some 3 (some .boolean) (fA) (lA) [2] 0 (un1 F_X12_some)) (C : Cx g cX12_factor 6 yX12_factor (fA + 2) (lA + 44)) (hr : Rt g (some .boolean) 0 Z) {v0 : Int} (cv0 : cK 2 v0) {h : MM} (hf : f_X12_factor_op F_X12_factor F_X12_every F_X12_some n v0 h = some Z) : G g 0 [(2, v0), (3, 0), (3, 0), (3, 0), (3, 0), (3, 0)] [] h := by
  unfold f_X12_factor_op at hf
  refine r_aload_n C dX12_factor_0 rfl ?_
  obtain ⟨q1, hf⟩ := gf_s hf
  refine r_gf C ct12 (j := 6) (ji := 6) dX12_factor_1 q1 rfl rfl (by decide) w_1431 rfl (fun c1 => ?_)
  have c1 : in32 _ := c1
  refine r_if_eq C dX12_factor_4 (tgt := 9) (by decide) c1 (fun n2 => ?_) (fun n2 => ?_)
  · have hf := ite_p n2 hf
    refine r_aload_n C dX12_factor_9 rfl ?_
    obtain ⟨p3, hf⟩ := gk_s hf
    obtain ⟨r3, h3, hq3, hf⟩ := bd_s hf
    refine r_cV0 C (am_X12_here (gl g) n) cm_X12_here w_1551 dX12_factor_10 ⟨by omega, by omega⟩ p3 rfl  rfl (Nat.le_of_ble_eq_true rfl) hq3 (by decide) (fun c3 => ?_)
    have c3 : in32 _ := c3
    refine r_istore_n C dX12_factor_13 (Nat.le_of_ble_eq_true rfl) rfl ?_
    refine r_iload_n C dX12_factor_14 rfl ?_
    refine r_bipush C dX12_factor_15 rfl ?_
    refine r_icmp_eq C dX12_factor_17 (tgt := 26) (by decide) c3 (in32_of rfl) (fun n4 => ?_) (fun n4 => ?_)
    · have hf := ite_p n4 hf
      exact G.mask [true, true, false, false, false, false] rfl rfl (b_X12_factor_26 A_X12_factor A_X12_every A_X12_some C hr  c3 hf)
    · have hf := ite_n n4 hf
      refine r_iload_n C dX12_factor_20 rfl ?_
      refine r_bipush C dX12_factor_21 rfl ?_
      refine r_icmp_ne C dX12_factor_23 (tgt := 135) (by decide) c3 (in32_of rfl) (fun n5 => ?_) (fun n5 => ?_)
      · have hf := ite_n n5 hf
        refine r_iload_n C dX12_factor_135 rfl ?_
        refine r_bipush C dX12_factor_136 rfl ?_
        refine r_icmp_ne C dX12_factor_138 (tgt := 227) (by decide) c3 (in32_of rfl) (fun n6 => ?_) (fun n6 => ?_)
        · have hf := ite_n n6 hf
          refine r_iload_n C dX12_factor_227 rfl ?_
          refine r_bipush C dX12_factor_228 rfl ?_
          refine r_icmp_ne C dX12_factor_230 (tgt := 237) (by decide) c3 (in32_of rfl) (fun n7 => ?_) (fun n7 => ?_)
          · have hf := ite_n n7 hf
            refine r_iload_n C dX12_factor_237 rfl ?_
            refine r_bipush C dX12_factor_238 rfl ?_
            refine r_icmp_ne C dX12_factor_240 (tgt := 247) (by decide) c3 (in32_of rfl) (fun n8 => ?_) (fun n8 => ?_)
            · have hf := ite_n n8 hf
              refine r_iload_n C dX12_factor_247 rfl ?_
              refine r_bipush C dX12_factor_248 rfl ?_
              refine r_icmp_ne C dX12_factor_250 (tgt := 257) (by decide) c3 (in32_of rfl) (fun n9 => ?_) (fun n9 => ?_)
              · have hf := ite_n n9 hf
                refine r_iload_n C dX12_factor_257 rfl ?_
                refine r_bipush C dX12_factor_258 rfl ?_
                refine r_icmp_ne C dX12_factor_260 (tgt := 267) (by decide) c3 (in32_of rfl) (fun n10 => ?_) (fun n10 => ?_)
                · have hf := ite_n n10 hf
                  refine r_iload_n C dX12_factor_267 rfl ?_
                  refine r_bipush C dX12_factor_268 rfl ?_
                  refine r_icmp_ne C dX12_factor_270 (tgt := 277) (by decide) c3 (in32_of rfl) (fun n11 => ?_) (fun n11 => ?_)
                  · have hf := ite_n n11 hf
                    refine r_iconst C dX12_factor_277 ?_
                    exact G.mask [true, false, false, false, false, false] rfl rfl (b_X12_factor_278 A_X12_factor A_X12_every A_X12_some C hr  (in32_of rfl) hf)
                  · have hf := ite_p n11 hf
                    refine r_iconst C dX12_factor_273 ?_
                    refine r_goto C dX12_factor_274 (tgt := 278) (by decide) ?_
                    exact G.mask [true, false, false, false, false, false] rfl rfl (b_X12_factor_278 A_X12_factor A_X12_every A_X12_some C hr  (in32_of rfl) hf)
                · have hf := ite_p n10 hf
                  refine r_iconst C dX12_factor_263 ?_
                  refine r_goto C dX12_factor_264 (tgt := 278) (by decide) ?_
                  exact G.mask [true, false, false, false, false, false] rfl rfl (b_X12_factor_278 A_X12_factor A_X12_every A_X12_some C hr  (in32_of rfl) hf)
              · have hf := ite_p n9 hf
                refine r_iconst C dX12_factor_253 ?_
                refine r_goto C dX12_factor_254 (tgt := 278) (by decide) ?_
                exact G.mask [true, false, false, false, false, false] rfl rfl (b_X12_factor_278 A_X12_factor A_X12_every A_X12_some C hr  (in32_of rfl) hf)
            · have hf := ite_p n8 hf
              refine r_iconst C dX12_factor_243 ?_
              refine r_goto C dX12_factor_244 (tgt := 278) (by decide) ?_
              exact G.mask [true, false, false, false, false, false] rfl rfl (b_X12_factor_278 A_X12_factor A_X12_every A_X12_some C hr  (in32_of rfl) hf)
          · have hf := ite_p n7 hf
            refine r_iconst C dX12_factor_233 ?_
            refine r_goto C dX12_factor_234 (tgt := 278) (by decide) ?_
            exact G.mask [true, false, false, false, false, false] rfl rfl (b_X12_factor_278 A_X12_factor A_X12_every A_X12_some C hr  (in32_of rfl) hf)
        · have hf := ite_p n6 hf
          refine r_aload_n C dX12_factor_141 rfl ?_
          refine r_dup C dX12_factor_142 (by decide) ?_
          obtain ⟨q12, hf⟩ := gf_s hf
          refine r_gf C ct12 (j := 5) (ji := 5) dX12_factor_143 q12 rfl rfl (by decide) w_1430 rfl (fun c12 => ?_)
          have c12 : in32 _ := c12
          refine r_iconst C dX12_factor_146 ?_
          refine r_iadd C dX12_factor_147 ?_
          obtain ⟨q13, hf⟩ := pf_s hf
          refine r_pf C ct12 (j := 5) (ji := 5) dX12_factor_148 q13 rfl rfl (by decide) w_1430 rfl (Or.inl rfl) nar_int (in32_t _) ?_
          refine r_aload_n C dX12_factor_151 rfl ?_
          refine r_bipush C dX12_factor_152 rfl ?_
          obtain ⟨p14, hf⟩ := gk_s hf
          obtain ⟨r14, h14, hq14, hf⟩ := bd_s hf
          refine r_cV1v C (am_X12_must (gl g) n) cm_X12_must w_1567 dX12_factor_154 ⟨by omega, by omega⟩ p14 rfl (in32_of rfl) rfl (Nat.le_of_ble_eq_true rfl) hq14 ?_
          refine r_aload_n C dX12_factor_157 rfl ?_
          obtain ⟨p15, hf⟩ := gk_s hf
          obtain ⟨r15, h15, hq15, hf⟩ := bd_s hf
          refine r_cV0 C (am_X12_here (gl g) n) cm_X12_here w_1551 dX12_factor_158 ⟨by omega, by omega⟩ p15 rfl  rfl (Nat.le_of_ble_eq_true rfl) hq15 (by decide) (fun c15 => ?_)
          have c15 : in32 _ := c15
          refine r_bipush C dX12_factor_161 rfl ?_
          refine r_isub C dX12_factor_163 ?_
          obtain ⟨x16, e16, hf⟩ := lb_s hf
          have c16 : in32 x16 := by rw [e16]; exact (in32_t _)
          refine r_istore_nL C dX12_factor_164 e16 (Nat.le_of_ble_eq_true rfl) rfl ?_
          refine r_aload_n C dX12_factor_165 rfl ?_
          refine r_aload_n C dX12_factor_166 rfl ?_
          obtain ⟨q17, hf⟩ := gf_s hf
          refine r_gf C ct12 (j := 6) (ji := 6) dX12_factor_167 q17 rfl rfl (by decide) w_1431 rfl (fun c17 => ?_)
          have c17 : in32 _ := c17
          refine r_if_ne C dX12_factor_170 (tgt := 182) (by decide) c17 (fun n18 => ?_) (fun n18 => ?_)
          · have hf := ite_n n18 hf
            exact G.mask [true, false, true, false, false, false] rfl rfl (b_X12_factor_182 A_X12_factor A_X12_every A_X12_some C hr  c16 hf)
          · have hf := ite_p n18 hf
            refine r_iload_n C dX12_factor_173 rfl ?_
            refine r_iconst C dX12_factor_174 ?_
            refine r_iconst C dX12_factor_175 ?_
            obtain ⟨r19, h19, hq19, hf⟩ := bd_s hf
            refine r_cS3 C (am_X12_in (gl g) n) cm_X12_in w_1496 dX12_factor_176 ⟨by omega, by omega⟩ c16 (in32_of rfl) (in32_of rfl) rfl (Nat.le_of_ble_eq_true rfl) hq19 (by decide) (fun c19 => ?_)
            have c19 : in32 _ := c19
            refine r_if_ne C dX12_factor_179 (tgt := 186) (by decide) c19 (fun n20 => ?_) (fun n20 => ?_)
            · have hf := ite_n n20 hf
              refine r_iconst C dX12_factor_186 ?_
              exact G.mask [true, false, true, false, false, false] rfl rfl (b_X12_factor_187 A_X12_factor A_X12_every A_X12_some C hr  c16 (in32_of rfl) hf)
            · have hf := ite_p n20 hf
              exact G.mask [true, false, true, false, false, false] rfl rfl (b_X12_factor_182 A_X12_factor A_X12_every A_X12_some C hr  c16 hf)
      · have hf := ite_p n5 hf
        exact G.mask [true, true, false, false, false, false] rfl rfl (b_X12_factor_26 A_X12_factor A_X12_every A_X12_some C hr  c3 hf)
  · have hf := ite_n n2 hf
    refine r_iconst C dX12_factor_7 ?_
    obtain ⟨b21, hf⟩ := ck_s hf
    cases hf
    exact r_zret C hr dX12_factor_8 b21
set_option maxRecDepth 20000 in
theorem b_X12_every_53 {g : GT} {Z : Int × MM} {n : Nat} {fA lA : Nat} {F_X12_factor : Int → MM → RR} (A_X12_factor : AM (gl g) yX12_factor cX12_factor 6 (some .boolean) (fA) (lA) [2] 0 (un1 F_X12_factor)) {F_X12_every : Int → MM → RR} (A_X12_every : AM (gl g) yX12_every cX12_every 3 (some .boolean) (fA) (lA) [2] 0 (un1 F_X12_every)) {F_X12_some : Int → MM → RR} (A_X12_some : AM (gl g) yX12_some cX12_some 3 (some .boolean) (fA) (lA) [2] 0 (un1 F_X12_some)) (C : Cx g cX12_every 3 yX12_every (fA + 2) (lA + 44)) (hr : Rt g (some .boolean) 0 Z) {v1 : Int}    (cv1 : in32 v1) {h : MM} (hf : f_X12_every_53 F_X12_factor F_X12_every F_X12_some n  v1 h = some Z) : G g 53 [(3, 0), (0, v1), (3, 0)] [] h := by
  unfold f_X12_every_53 at hf
  refine r_iload_n C dX12_every_53 rfl ?_
  obtain ⟨b1, hf⟩ := ck_s hf
  cases hf
  exact r_zret C hr dX12_every_54 b1
set_option maxRecDepth 20000 in
theorem b_X12_every_49 {g : GT} {Z : Int × MM} {n : Nat} {fA lA : Nat} {F_X12_factor : Int → MM → RR} (A_X12_factor : AM (gl g) yX12_factor cX12_factor 6 (some .boolean) (fA) (lA) [2] 0 (un1 F_X12_factor)) {F_X12_every : Int → MM → RR} (A_X12_every : AM (gl g) yX12_every cX12_every 3 (some .boolean) (fA) (lA) [2] 0 (un1 F_X12_every)) {F_X12_some : Int → MM → RR} (A_X12_some : AM (gl g) yX12_some cX12_some 3 (some .boolean) (fA) (lA) [2] 0 (un1 F_X12_some)) (C : Cx g cX12_every 3 yX12_every (fA + 2) (lA + 44)) (hr : Rt g (some .boolean) 0 Z) {v0 s0 : Int}  {rec5 : Int → MM → RR} (L5 : ∀ (u1 : Int) (h : MM), in32 u1 → rec5 u1 h = some Z → G g 5 [(2, v0), (0, u1), (3, 0)] [] h) (cs0 : in32 s0) {h : MM} (hf : f_X12_every_49 F_X12_factor F_X12_every F_X12_some n rec5 v0 s0 h = some Z) : G g 49 [(2, v0), (3, 0), (3, 0)] [(0, s0)] h := by
  unfold f_X12_every_49 at hf
  refine r_istore_n C dX12_every_49 (Nat.le_of_ble_eq_true rfl) rfl ?_
  refine r_goto C dX12_every_50 (tgt := 5) (by decide) ?_
  exact G.mask [true, true, false] rfl rfl (L5 _ _ cs0 hf)
set_option maxRecDepth 20000 in
theorem b_X12_every_48 {g : GT} {Z : Int × MM} {n : Nat} {fA lA : Nat} {F_X12_factor : Int → MM → RR} (A_X12_factor : AM (gl g) yX12_factor cX12_factor 6 (some .boolean) (fA) (lA) [2] 0 (un1 F_X12_factor)) {F_X12_every : Int → MM → RR} (A_X12_every : AM (gl g) yX12_every cX12_every 3 (some .boolean) (fA) (lA) [2] 0 (un1 F_X12_every)) {F_X12_some : Int → MM → RR} (A_X12_some : AM (gl g) yX12_some cX12_some 3 (some .boolean) (fA) (lA) [2] 0 (un1 F_X12_some)) (C : Cx g cX12_every 3 yX12_every (fA + 2) (lA + 44)) (hr : Rt g (some .boolean) 0 Z) {v0 : Int}  {rec5 : Int → MM → RR} (L5 : ∀ (u1 : Int) (h : MM), in32 u1 → rec5 u1 h = some Z → G g 5 [(2, v0), (0, u1), (3, 0)] [] h)  {h : MM} (hf : f_X12_every_48 F_X12_factor F_X12_every F_X12_some n rec5 v0 h = some Z) : G g 48 [(2, v0), (3, 0), (3, 0)] [] h := by
  unfold f_X12_every_48 at hf
  refine r_iconst C dX12_every_48 ?_
  exact G.mask [true, false, false] rfl rfl (b_X12_every_49 A_X12_factor A_X12_every A_X12_some C hr L5 (in32_of rfl) hf)
set_option maxRecDepth 20000 in
theorem b_X12_every_5b {g : GT} {Z : Int × MM} {n : Nat} {fA lA : Nat} {F_X12_factor : Int → MM → RR} (A_X12_factor : AM (gl g) yX12_factor cX12_factor 6 (some .boolean) (fA) (lA) [2] 0 (un1 F_X12_factor)) {F_X12_every : Int → MM → RR} (A_X12_every : AM (gl g) yX12_every cX12_every 3 (some .boolean) (fA) (lA) [2] 0 (un1 F_X12_every)) {F_X12_some : Int → MM → RR} (A_X12_some : AM (gl g) yX12_some cX12_some 3 (some .boolean) (fA) (lA) [2] 0 (un1 F_X12_some)) (C : Cx g cX12_every 3 yX12_every (fA + 2) (lA + 44)) (hr : Rt g (some .boolean) 0 Z) {v0 v1 : Int}  {rec5 : Int → MM → RR} (L5 : ∀ (u1 : Int) (h : MM), in32 u1 → rec5 u1 h = some Z → G g 5 [(2, v0), (0, u1), (3, 0)] [] h) (cv1 : in32 v1) {h : MM} (hf : f_X12_every_5b F_X12_factor F_X12_every F_X12_some n rec5 v0 v1 h = some Z) : G g 5 [(2, v0), (0, v1), (3, 0)] [] h := by
  unfold f_X12_every_5b at hf
  refine r_aload_n C dX12_every_5 rfl ?_
  obtain ⟨q1, hf⟩ := gf_s hf
  refine r_gf C ct12 (j := 6) (ji := 6) dX12_every_6 q1 rfl rfl (by decide) w_1431 rfl (fun c1 => ?_)
  have c1 : in32 _ := c1
  refine r_if_ne C dX12_every_9 (tgt := 53) (by decide) c1 (fun n2 => ?_) (fun n2 => ?_)
  · have hf := ite_n n2 hf
    exact G.mask [false, true, false] rfl rfl (b_X12_every_53 A_X12_factor A_X12_every A_X12_some C hr  cv1 hf)
  · have hf := ite_p n2 hf
    refine r_aload_n C dX12_every_12 rfl ?_
    obtain ⟨p3, hf⟩ := gk_s hf
    obtain ⟨r3, h3, hq3, hf⟩ := bd_s hf
    refine r_cV0 C (am_X12_here (gl g) n) cm_X12_here w_1551 dX12_every_13 ⟨by omega, by omega⟩ p3 rfl  rfl (Nat.le_of_ble_eq_true rfl) hq3 (by decide) (fun c3 => ?_)
    have c3 : in32 _ := c3
    refine r_bipush C dX12_every_16 rfl ?_
    refine r_icmp_ne C dX12_every_18 (tgt := 53) (by decide) c3 (in32_of rfl) (fun n4 => ?_) (fun n4 => ?_)
    · have hf := ite_n n4 hf
      exact G.mask [false, true, false] rfl rfl (b_X12_every_53 A_X12_factor A_X12_every A_X12_some C hr  cv1 hf)
    · have hf := ite_p n4 hf
      refine r_aload_n C dX12_every_21 rfl ?_
      refine r_dup C dX12_every_22 (by decide) ?_
      obtain ⟨q5, hf⟩ := gf_s hf
      refine r_gf C ct12 (j := 5) (ji := 5) dX12_every_23 q5 rfl rfl (by decide) w_1430 rfl (fun c5 => ?_)
      have c5 : in32 _ := c5
      refine r_iconst C dX12_every_26 ?_
      refine r_iadd C dX12_every_27 ?_
      obtain ⟨q6, hf⟩ := pf_s hf
      refine r_pf C ct12 (j := 5) (ji := 5) dX12_every_28 q6 rfl rfl (by decide) w_1430 rfl (Or.inl rfl) nar_int (in32_t _) ?_
      refine r_aload_n C dX12_every_31 rfl ?_
      obtain ⟨p7, hf⟩ := gk_s hf
      obtain ⟨r7, h7, hq7, hf⟩ := bd_s hf
      refine r_cV0 C A_X12_factor cm_X12_factor w_1563 dX12_every_32 ⟨by omega, by omega⟩ p7 rfl  rfl (Nat.le_of_ble_eq_true rfl) hq7 (by decide) (fun c7 => ?_)
      have c7 : in32 _ := c7
      refine r_istore_n C dX12_every_35 (Nat.le_of_ble_eq_true rfl) rfl ?_
      refine r_iload_n C dX12_every_36 rfl ?_
      refine r_if_eq C dX12_every_37 (tgt := 48) (by decide) cv1 (fun n8 => ?_) (fun n8 => ?_)
      · have hf := ite_p n8 hf
        exact G.mask [true, false, false] rfl rfl (b_X12_every_48 A_X12_factor A_X12_every A_X12_some C hr L5  hf)
      · have hf := ite_n n8 hf
        refine r_iload_n C dX12_every_40 rfl ?_
        refine r_if_eq C dX12_every_41 (tgt := 48) (by decide) c7 (fun n9 => ?_) (fun n9 => ?_)
        · have hf := ite_p n9 hf
          exact G.mask [true, false, false] rfl rfl (b_X12_every_48 A_X12_factor A_X12_every A_X12_some C hr L5  hf)
        · have hf := ite_n n9 hf
          refine r_iconst C dX12_every_44 ?_
          refine r_goto C dX12_every_45 (tgt := 49) (by decide) ?_
          exact G.mask [true, false, false] rfl rfl (b_X12_every_49 A_X12_factor A_X12_every A_X12_some C hr L5 (in32_of rfl) hf)
set_option maxRecDepth 20000 in
theorem l_X12_every_5 {g : GT} {Z : Int × MM} {n : Nat} {fA lA : Nat} {F_X12_factor : Int → MM → RR} (A_X12_factor : AM (gl g) yX12_factor cX12_factor 6 (some .boolean) (fA) (lA) [2] 0 (un1 F_X12_factor)) {F_X12_every : Int → MM → RR} (A_X12_every : AM (gl g) yX12_every cX12_every 3 (some .boolean) (fA) (lA) [2] 0 (un1 F_X12_every)) {F_X12_some : Int → MM → RR} (A_X12_some : AM (gl g) yX12_some cX12_some 3 (some .boolean) (fA) (lA) [2] 0 (un1 F_X12_some)) (C : Cx g cX12_every 3 yX12_every (fA + 2) (lA + 44)) (hr : Rt g (some .boolean) 0 Z) {v0 : Int}    : ∀ (k : Nat) (v1 : Int) (h : MM), in32 v1 → f_X12_every_5 F_X12_factor F_X12_every F_X12_some n  v0 k v1 h = some Z → G g 5 [(2, v0), (0, v1), (3, 0)] [] h := by
  intro k
  induction k with
  | zero => intro v1 h cv1 hf; exact absurd hf (by intro z; cases z)
  | succ k ih => intro v1 h cv1 hf; exact b_X12_every_5b A_X12_factor A_X12_every A_X12_some C hr (rec5 := f_X12_every_5 F_X12_factor F_X12_every F_X12_some n  v0 k)  ih cv1 (show f_X12_every_5b F_X12_factor F_X12_every F_X12_some n  (f_X12_every_5 F_X12_factor F_X12_every F_X12_some n  v0 k) v0 v1 h = some Z from hf)
set_option maxRecDepth 20000 in
theorem e_X12_every {g : GT} {Z : Int × MM} {n : Nat} {fA lA : Nat} {F_X12_factor : Int → MM → RR} (A_X12_factor : AM (gl g) yX12_factor cX12_factor 6 (some .boolean) (fA) (lA) [2] 0 (un1 F_X12_factor)) {F_X12_every : Int → MM → RR} (A_X12_every : AM (gl g) yX12_every cX12_every 3 (some .boolean) (fA) (lA) [2] 0 (un1 F_X12_every)) {F_X12_some : Int → MM → RR} (A_X12_some : AM (gl g) yX12_some cX12_some 3 (some .boolean) (fA) (lA) [2] 0 (un1 F_X12_some)) (C : Cx g cX12_every 3 yX12_every (fA + 2) (lA + 44)) (hr : Rt g (some .boolean) 0 Z) {v0 : Int} (cv0 : cK 2 v0) {h : MM} (hf : f_X12_every_op F_X12_factor F_X12_every F_X12_some n v0 h = some Z) : G g 0 [(2, v0), (3, 0), (3, 0)] [] h := by
  unfold f_X12_every_op at hf
  refine r_aload_n C dX12_every_0 rfl ?_
  obtain ⟨p1, hf⟩ := gk_s hf
  obtain ⟨r1, h1, hq1, hf⟩ := bd_s hf
  refine r_cV0 C A_X12_factor cm_X12_factor w_1563 dX12_every_1 ⟨by omega, by omega⟩ p1 rfl  rfl (Nat.le_of_ble_eq_true rfl) hq1 (by decide) (fun c1 => ?_)
  have c1 : in32 _ := c1
  refine r_istore_n C dX12_every_4 (Nat.le_of_ble_eq_true rfl) rfl ?_
  exact G.mask [true, true, false] rfl rfl (l_X12_every_5 A_X12_factor A_X12_every A_X12_some C hr   _ _ _ c1 hf)
set_option maxRecDepth 20000 in
theorem b_X12_some_53 {g : GT} {Z : Int × MM} {n : Nat} {fA lA : Nat} {F_X12_factor : Int → MM → RR} (A_X12_factor : AM (gl g) yX12_factor cX12_factor 6 (some .boolean) (fA) (lA) [2] 0 (un1 F_X12_factor)) {F_X12_every : Int → MM → RR} (A_X12_every : AM (gl g) yX12_every cX12_every 3 (some .boolean) (fA) (lA) [2] 0 (un1 F_X12_every)) {F_X12_some : Int → MM → RR} (A_X12_some : AM (gl g) yX12_some cX12_some 3 (some .boolean) (fA) (lA) [2] 0 (un1 F_X12_some)) (C : Cx g cX12_some 3 yX12_some (fA + 2) (lA + 44)) (hr : Rt g (some .boolean) 0 Z) {v1 : Int}    (cv1 : in32 v1) {h : MM} (hf : f_X12_some_53 F_X12_factor F_X12_every F_X12_some n  v1 h = some Z) : G g 53 [(3, 0), (0, v1), (3, 0)] [] h := by
  unfold f_X12_some_53 at hf
  refine r_iload_n C dX12_some_53 rfl ?_
  obtain ⟨b1, hf⟩ := ck_s hf
  cases hf
  exact r_zret C hr dX12_some_54 b1
set_option maxRecDepth 20000 in
theorem b_X12_some_49 {g : GT} {Z : Int × MM} {n : Nat} {fA lA : Nat} {F_X12_factor : Int → MM → RR} (A_X12_factor : AM (gl g) yX12_factor cX12_factor 6 (some .boolean) (fA) (lA) [2] 0 (un1 F_X12_factor)) {F_X12_every : Int → MM → RR} (A_X12_every : AM (gl g) yX12_every cX12_every 3 (some .boolean) (fA) (lA) [2] 0 (un1 F_X12_every)) {F_X12_some : Int → MM → RR} (A_X12_some : AM (gl g) yX12_some cX12_some 3 (some .boolean) (fA) (lA) [2] 0 (un1 F_X12_some)) (C : Cx g cX12_some 3 yX12_some (fA + 2) (lA + 44)) (hr : Rt g (some .boolean) 0 Z) {v0 s0 : Int}  {rec5 : Int → MM → RR} (L5 : ∀ (u1 : Int) (h : MM), in32 u1 → rec5 u1 h = some Z → G g 5 [(2, v0), (0, u1), (3, 0)] [] h) (cs0 : in32 s0) {h : MM} (hf : f_X12_some_49 F_X12_factor F_X12_every F_X12_some n rec5 v0 s0 h = some Z) : G g 49 [(2, v0), (3, 0), (3, 0)] [(0, s0)] h := by
  unfold f_X12_some_49 at hf
  refine r_istore_n C dX12_some_49 (Nat.le_of_ble_eq_true rfl) rfl ?_
  refine r_goto C dX12_some_50 (tgt := 5) (by decide) ?_
  exact G.mask [true, true, false] rfl rfl (L5 _ _ cs0 hf)
set_option maxRecDepth 20000 in
theorem b_X12_some_44 {g : GT} {Z : Int × MM} {n : Nat} {fA lA : Nat} {F_X12_factor : Int → MM → RR} (A_X12_factor : AM (gl g) yX12_factor cX12_factor 6 (some .boolean) (fA) (lA) [2] 0 (un1 F_X12_factor)) {F_X12_every : Int → MM → RR} (A_X12_every : AM (gl g) yX12_every cX12_every 3 (some .boolean) (fA) (lA) [2] 0 (un1 F_X12_every)) {F_X12_some : Int → MM → RR} (A_X12_some : AM (gl g) yX12_some cX12_some 3 (some .boolean) (fA) (lA) [2] 0 (un1 F_X12_some)) (C : Cx g cX12_some 3 yX12_some (fA + 2) (lA + 44)) (hr : Rt g (some .boolean) 0 Z) {v0 : Int}  {rec5 : Int → MM → RR} (L5 : ∀ (u1 : Int) (h : MM), in32 u1 → rec5 u1 h = some Z → G g 5 [(2, v0), (0, u1), (3, 0)] [] h)  {h : MM} (hf : f_X12_some_44 F_X12_factor F_X12_every F_X12_some n rec5 v0 h = some Z) : G g 44 [(2, v0), (3, 0), (3, 0)] [] h := by
  unfold f_X12_some_44 at hf
  refine r_iconst C dX12_some_44 ?_
  refine r_goto C dX12_some_45 (tgt := 49) (by decide) ?_
  exact G.mask [true, false, false] rfl rfl (b_X12_some_49 A_X12_factor A_X12_every A_X12_some C hr L5 (in32_of rfl) hf)
set_option maxRecDepth 20000 in
theorem b_X12_some_5b {g : GT} {Z : Int × MM} {n : Nat} {fA lA : Nat} {F_X12_factor : Int → MM → RR} (A_X12_factor : AM (gl g) yX12_factor cX12_factor 6 (some .boolean) (fA) (lA) [2] 0 (un1 F_X12_factor)) {F_X12_every : Int → MM → RR} (A_X12_every : AM (gl g) yX12_every cX12_every 3 (some .boolean) (fA) (lA) [2] 0 (un1 F_X12_every)) {F_X12_some : Int → MM → RR} (A_X12_some : AM (gl g) yX12_some cX12_some 3 (some .boolean) (fA) (lA) [2] 0 (un1 F_X12_some)) (C : Cx g cX12_some 3 yX12_some (fA + 2) (lA + 44)) (hr : Rt g (some .boolean) 0 Z) {v0 v1 : Int}  {rec5 : Int → MM → RR} (L5 : ∀ (u1 : Int) (h : MM), in32 u1 → rec5 u1 h = some Z → G g 5 [(2, v0), (0, u1), (3, 0)] [] h) (cv1 : in32 v1) {h : MM} (hf : f_X12_some_5b F_X12_factor F_X12_every F_X12_some n rec5 v0 v1 h = some Z) : G g 5 [(2, v0), (0, v1), (3, 0)] [] h := by
  unfold f_X12_some_5b at hf
  refine r_aload_n C dX12_some_5 rfl ?_
  obtain ⟨q1, hf⟩ := gf_s hf
  refine r_gf C ct12 (j := 6) (ji := 6) dX12_some_6 q1 rfl rfl (by decide) w_1431 rfl (fun c1 => ?_)
  have c1 : in32 _ := c1
  refine r_if_ne C dX12_some_9 (tgt := 53) (by decide) c1 (fun n2 => ?_) (fun n2 => ?_)
  · have hf := ite_n n2 hf
    exact G.mask [false, true, false] rfl rfl (b_X12_some_53 A_X12_factor A_X12_every A_X12_some C hr  cv1 hf)
  · have hf := ite_p n2 hf
    refine r_aload_n C dX12_some_12 rfl ?_
    obtain ⟨p3, hf⟩ := gk_s hf
    obtain ⟨r3, h3, hq3, hf⟩ := bd_s hf
    refine r_cV0 C (am_X12_here (gl g) n) cm_X12_here w_1551 dX12_some_13 ⟨by omega, by omega⟩ p3 rfl  rfl (Nat.le_of_ble_eq_true rfl) hq3 (by decide) (fun c3 => ?_)
    have c3 : in32 _ := c3
    refine r_bipush C dX12_some_16 rfl ?_
    refine r_icmp_ne C dX12_some_18 (tgt := 53) (by decide) c3 (in32_of rfl) (fun n4 => ?_) (fun n4 => ?_)
    · have hf := ite_n n4 hf
      exact G.mask [false, true, false] rfl rfl (b_X12_some_53 A_X12_factor A_X12_every A_X12_some C hr  cv1 hf)
    · have hf := ite_p n4 hf
      refine r_aload_n C dX12_some_21 rfl ?_
      refine r_dup C dX12_some_22 (by decide) ?_
      obtain ⟨q5, hf⟩ := gf_s hf
      refine r_gf C ct12 (j := 5) (ji := 5) dX12_some_23 q5 rfl rfl (by decide) w_1430 rfl (fun c5 => ?_)
      have c5 : in32 _ := c5
      refine r_iconst C dX12_some_26 ?_
      refine r_iadd C dX12_some_27 ?_
      obtain ⟨q6, hf⟩ := pf_s hf
      refine r_pf C ct12 (j := 5) (ji := 5) dX12_some_28 q6 rfl rfl (by decide) w_1430 rfl (Or.inl rfl) nar_int (in32_t _) ?_
      refine r_aload_n C dX12_some_31 rfl ?_
      obtain ⟨p7, hf⟩ := gk_s hf
      obtain ⟨r7, h7, hq7, hf⟩ := bd_s hf
      refine r_cV0 C A_X12_every cm_X12_every w_1559 dX12_some_32 ⟨by omega, by omega⟩ p7 rfl  rfl (Nat.le_of_ble_eq_true rfl) hq7 (by decide) (fun c7 => ?_)
      have c7 : in32 _ := c7
      refine r_istore_n C dX12_some_35 (Nat.le_of_ble_eq_true rfl) rfl ?_
      refine r_iload_n C dX12_some_36 rfl ?_
      refine r_if_ne C dX12_some_37 (tgt := 44) (by decide) cv1 (fun n8 => ?_) (fun n8 => ?_)
      · have hf := ite_n n8 hf
        exact G.mask [true, false, false] rfl rfl (b_X12_some_44 A_X12_factor A_X12_every A_X12_some C hr L5  hf)
      · have hf := ite_p n8 hf
        refine r_iload_n C dX12_some_40 rfl ?_
        refine r_if_eq C dX12_some_41 (tgt := 48) (by decide) c7 (fun n9 => ?_) (fun n9 => ?_)
        · have hf := ite_p n9 hf
          refine r_iconst C dX12_some_48 ?_
          exact G.mask [true, false, false] rfl rfl (b_X12_some_49 A_X12_factor A_X12_every A_X12_some C hr L5 (in32_of rfl) hf)
        · have hf := ite_n n9 hf
          exact G.mask [true, false, false] rfl rfl (b_X12_some_44 A_X12_factor A_X12_every A_X12_some C hr L5  hf)
set_option maxRecDepth 20000 in
theorem l_X12_some_5 {g : GT} {Z : Int × MM} {n : Nat} {fA lA : Nat} {F_X12_factor : Int → MM → RR} (A_X12_factor : AM (gl g) yX12_factor cX12_factor 6 (some .boolean) (fA) (lA) [2] 0 (un1 F_X12_factor)) {F_X12_every : Int → MM → RR} (A_X12_every : AM (gl g) yX12_every cX12_every 3 (some .boolean) (fA) (lA) [2] 0 (un1 F_X12_every)) {F_X12_some : Int → MM → RR} (A_X12_some : AM (gl g) yX12_some cX12_some 3 (some .boolean) (fA) (lA) [2] 0 (un1 F_X12_some)) (C : Cx g cX12_some 3 yX12_some (fA + 2) (lA + 44)) (hr : Rt g (some .boolean) 0 Z) {v0 : Int}    : ∀ (k : Nat) (v1 : Int) (h : MM), in32 v1 → f_X12_some_5 F_X12_factor F_X12_every F_X12_some n  v0 k v1 h = some Z → G g 5 [(2, v0), (0, v1), (3, 0)] [] h := by
  intro k
  induction k with
  | zero => intro v1 h cv1 hf; exact absurd hf (by intro z; cases z)
  | succ k ih => intro v1 h cv1 hf; exact b_X12_some_5b A_X12_factor A_X12_every A_X12_some C hr (rec5 := f_X12_some_5 F_X12_factor F_X12_every F_X12_some n  v0 k)  ih cv1 (show f_X12_some_5b F_X12_factor F_X12_every F_X12_some n  (f_X12_some_5 F_X12_factor F_X12_every F_X12_some n  v0 k) v0 v1 h = some Z from hf)
set_option maxRecDepth 20000 in
theorem e_X12_some {g : GT} {Z : Int × MM} {n : Nat} {fA lA : Nat} {F_X12_factor : Int → MM → RR} (A_X12_factor : AM (gl g) yX12_factor cX12_factor 6 (some .boolean) (fA) (lA) [2] 0 (un1 F_X12_factor)) {F_X12_every : Int → MM → RR} (A_X12_every : AM (gl g) yX12_every cX12_every 3 (some .boolean) (fA) (lA) [2] 0 (un1 F_X12_every)) {F_X12_some : Int → MM → RR} (A_X12_some : AM (gl g) yX12_some cX12_some 3 (some .boolean) (fA) (lA) [2] 0 (un1 F_X12_some)) (C : Cx g cX12_some 3 yX12_some (fA + 2) (lA + 44)) (hr : Rt g (some .boolean) 0 Z) {v0 : Int} (cv0 : cK 2 v0) {h : MM} (hf : f_X12_some_op F_X12_factor F_X12_every F_X12_some n v0 h = some Z) : G g 0 [(2, v0), (3, 0), (3, 0)] [] h := by
  unfold f_X12_some_op at hf
  refine r_aload_n C dX12_some_0 rfl ?_
  obtain ⟨p1, hf⟩ := gk_s hf
  obtain ⟨r1, h1, hq1, hf⟩ := bd_s hf
  refine r_cV0 C A_X12_every cm_X12_every w_1559 dX12_some_1 ⟨by omega, by omega⟩ p1 rfl  rfl (Nat.le_of_ble_eq_true rfl) hq1 (by decide) (fun c1 => ?_)
  have c1 : in32 _ := c1
  refine r_istore_n C dX12_some_4 (Nat.le_of_ble_eq_true rfl) rfl ?_
  exact G.mask [true, true, false] rfl rfl (l_X12_some_5 A_X12_factor A_X12_every A_X12_some C hr   _ _ _ c1 hf)
set_option maxRecDepth 20000 in
theorem at_t_X12_factor (l : Launch) (n : Nat) : ∀ k : Nat, AM l yX12_factor cX12_factor 6 (some .boolean) (2 * k) (44 * k) [2] 0 (un1 ((t_X12_factor n k).1)) ∧ AM l yX12_every cX12_every 3 (some .boolean) (2 * k) (44 * k) [2] 0 (un1 ((t_X12_factor n k).2.1)) ∧ AM l yX12_some cX12_some 3 (some .boolean) (2 * k) (44 * k) [2] 0 (un1 ((t_X12_factor n k).2.2)) := by
  intro k
  induction k with
  | zero =>
    exact ⟨AM.none (fun xs h Z hx q => by
      obtain ⟨a0, rfl, c0⟩ := canL_1 hx
      cases q), AM.none (fun xs h Z hx q => by
      obtain ⟨a0, rfl, c0⟩ := canL_1 hx
      cases q), AM.none (fun xs h Z hx q => by
      obtain ⟨a0, rfl, c0⟩ := canL_1 hx
      cases q)⟩
  | succ k ih =>
    obtain ⟨i_X12_factor, i_X12_every, i_X12_some⟩ := ih
    exact ⟨AM.intro (by decide) (fun xs hx => by
      obtain ⟨a0, rfl, c0⟩ := canL_1 hx
      exact Nat.le_of_ble_eq_true rfl) (fun g xs h Z hl C hr hx hf => by
      subst hl
      obtain ⟨a0, rfl, c0⟩ := canL_1 hx
      exact e_X12_factor (n := n) i_X12_factor i_X12_every i_X12_some C hr c0 hf), AM.intro (by decide) (fun xs hx => by
      obtain ⟨a0, rfl, c0⟩ := canL_1 hx
      exact Nat.le_of_ble_eq_true rfl) (fun g xs h Z hl C hr hx hf => by
      subst hl
      obtain ⟨a0, rfl, c0⟩ := canL_1 hx
      exact e_X12_every (n := n) i_X12_factor i_X12_every i_X12_some C hr c0 hf), AM.intro (by decide) (fun xs hx => by
      obtain ⟨a0, rfl, c0⟩ := canL_1 hx
      exact Nat.le_of_ble_eq_true rfl) (fun g xs h Z hl C hr hx hf => by
      subst hl
      obtain ⟨a0, rfl, c0⟩ := canL_1 hx
      exact e_X12_some (n := n) i_X12_factor i_X12_every i_X12_some C hr c0 hf)⟩
set_option maxRecDepth 20000 in
theorem am_X12_factor (l : Launch) (n : Nat) : AM l yX12_factor cX12_factor 6 (some .boolean) 52 1144 [2] 0 (un1 (f_X12_factor n)) := (at_t_X12_factor l n 26).1
set_option maxRecDepth 20000 in
theorem am_X12_every (l : Launch) (n : Nat) : AM l yX12_every cX12_every 3 (some .boolean) 52 1144 [2] 0 (un1 (f_X12_every n)) := (at_t_X12_factor l n 26).2.1
set_option maxRecDepth 20000 in
theorem am_X12_some (l : Launch) (n : Nat) : AM l yX12_some cX12_some 3 (some .boolean) 52 1144 [2] 0 (un1 (f_X12_some n)) := (at_t_X12_factor l n 26).2.2
/-! LinesPromisedModel.reads(I)V -/
theorem dX12_reads_0 : decode cX12_reads 0 = .ok (.bipush 8, 2) := by decide +kernel
theorem dX12_reads_2 : decode cX12_reads 2 = .ok (.iload_n 1, 1) := by decide +kernel
theorem dX12_reads_3 : decode cX12_reads 3 = .ok (.imul, 1) := by decide +kernel
theorem dX12_reads_4 : decode cX12_reads 4 = .ok (.aload_n 0, 1) := by decide +kernel
theorem dX12_reads_5 : decode cX12_reads 5 = .ok (.getfield 8, 3) := by decide +kernel
theorem dX12_reads_8 : decode cX12_reads 8 = .ok (.sipush 10900, 3) := by decide +kernel
theorem dX12_reads_11 : decode cX12_reads 11 = .ok (.iload_n 1, 1) := by decide +kernel
theorem dX12_reads_12 : decode cX12_reads 12 = .ok (.iadd, 1) := by decide +kernel
theorem dX12_reads_13 : decode cX12_reads 13 = .ok (.iaload, 1) := by decide +kernel
theorem dX12_reads_14 : decode cX12_reads 14 = .ok (.iadd, 1) := by decide +kernel
theorem dX12_reads_15 : decode cX12_reads 15 = .ok (.istore_n 2, 1) := by decide +kernel
theorem dX12_reads_16 : decode cX12_reads 16 = .ok (.aload_n 0, 1) := by decide +kernel
theorem dX12_reads_17 : decode cX12_reads 17 = .ok (.invokevirtual 135, 3) := by decide +kernel
theorem dX12_reads_20 : decode cX12_reads 20 = .ok (.istore_n 3, 1) := by decide +kernel
theorem dX12_reads_21 : decode cX12_reads 21 = .ok (.aload_n 0, 1) := by decide +kernel
theorem dX12_reads_22 : decode cX12_reads 22 = .ok (.getfield 81, 3) := by decide +kernel
theorem dX12_reads_25 : decode cX12_reads 25 = .ok (.ifCond .eq 4, 3) := by decide +kernel
theorem dX12_reads_28 : decode cX12_reads 28 = .ok (.return_, 1) := by decide +kernel
theorem dX12_reads_29 : decode cX12_reads 29 = .ok (.aload_n 0, 1) := by decide +kernel
theorem dX12_reads_30 : decode cX12_reads 30 = .ok (.getfield 8, 3) := by decide +kernel
theorem dX12_reads_33 : decode cX12_reads 33 = .ok (.sipush 10910, 3) := by decide +kernel
theorem dX12_reads_36 : decode cX12_reads 36 = .ok (.iload_n 2, 1) := by decide +kernel
theorem dX12_reads_37 : decode cX12_reads 37 = .ok (.iadd, 1) := by decide +kernel
theorem dX12_reads_38 : decode cX12_reads 38 = .ok (.iload_n 3, 1) := by decide +kernel
theorem dX12_reads_39 : decode cX12_reads 39 = .ok (.iastore, 1) := by decide +kernel
theorem dX12_reads_40 : decode cX12_reads 40 = .ok (.aload_n 0, 1) := by decide +kernel
theorem dX12_reads_41 : decode cX12_reads 41 = .ok (.getfield 8, 3) := by decide +kernel
theorem dX12_reads_44 : decode cX12_reads 44 = .ok (.sipush 11070, 3) := by decide +kernel
theorem dX12_reads_47 : decode cX12_reads 47 = .ok (.iload_n 2, 1) := by decide +kernel
theorem dX12_reads_48 : decode cX12_reads 48 = .ok (.iadd, 1) := by decide +kernel
theorem dX12_reads_49 : decode cX12_reads 49 = .ok (.aload_n 0, 1) := by decide +kernel
theorem dX12_reads_50 : decode cX12_reads 50 = .ok (.getfield 75, 3) := by decide +kernel
theorem dX12_reads_53 : decode cX12_reads 53 = .ok (.iastore, 1) := by decide +kernel
theorem dX12_reads_54 : decode cX12_reads 54 = .ok (.iload_n 3, 1) := by decide +kernel
theorem dX12_reads_55 : decode cX12_reads 55 = .ok (.iconst 5, 1) := by decide +kernel
theorem dX12_reads_56 : decode cX12_reads 56 = .ok (.if_icmp .ne 78, 3) := by decide +kernel
theorem dX12_reads_59 : decode cX12_reads 59 = .ok (.aload_n 0, 1) := by decide +kernel
theorem dX12_reads_60 : decode cX12_reads 60 = .ok (.invokevirtual 85, 3) := by decide +kernel
theorem dX12_reads_63 : decode cX12_reads 63 = .ok (.istore 4, 2) := by decide +kernel
theorem dX12_reads_65 : decode cX12_reads 65 = .ok (.aload_n 0, 1) := by decide +kernel
theorem dX12_reads_66 : decode cX12_reads 66 = .ok (.iload 4, 2) := by decide +kernel
theorem dX12_reads_68 : decode cX12_reads 68 = .ok (.bipush 121, 2) := by decide +kernel
theorem dX12_reads_70 : decode cX12_reads 70 = .ok (.if_icmp .eq 14, 3) := by decide +kernel
theorem dX12_reads_73 : decode cX12_reads 73 = .ok (.iload 4, 2) := by decide +kernel
theorem dX12_reads_75 : decode cX12_reads 75 = .ok (.bipush 110, 2) := by decide +kernel
theorem dX12_reads_77 : decode cX12_reads 77 = .ok (.if_icmp .eq 7, 3) := by decide +kernel
theorem dX12_reads_80 : decode cX12_reads 80 = .ok (.iconst 1, 1) := by decide +kernel
theorem dX12_reads_81 : decode cX12_reads 81 = .ok (.goto 4, 3) := by decide +kernel
theorem dX12_reads_84 : decode cX12_reads 84 = .ok (.iconst 0, 1) := by decide +kernel
theorem dX12_reads_85 : decode cX12_reads 85 = .ok (.putfield 81, 3) := by decide +kernel
theorem dX12_reads_88 : decode cX12_reads 88 = .ok (.aload_n 0, 1) := by decide +kernel
theorem dX12_reads_89 : decode cX12_reads 89 = .ok (.dup, 1) := by decide +kernel
theorem dX12_reads_90 : decode cX12_reads 90 = .ok (.getfield 75, 3) := by decide +kernel
theorem dX12_reads_93 : decode cX12_reads 93 = .ok (.aload_n 0, 1) := by decide +kernel
theorem dX12_reads_94 : decode cX12_reads 94 = .ok (.getfield 81, 3) := by decide +kernel
theorem dX12_reads_97 : decode cX12_reads 97 = .ok (.ifCond .eq 7, 3) := by decide +kernel
theorem dX12_reads_100 : decode cX12_reads 100 = .ok (.iconst 0, 1) := by decide +kernel
theorem dX12_reads_101 : decode cX12_reads 101 = .ok (.goto 4, 3) := by decide +kernel
theorem dX12_reads_104 : decode cX12_reads 104 = .ok (.iconst 1, 1) := by decide +kernel
theorem dX12_reads_105 : decode cX12_reads 105 = .ok (.iadd, 1) := by decide +kernel
theorem dX12_reads_106 : decode cX12_reads 106 = .ok (.putfield 75, 3) := by decide +kernel
theorem dX12_reads_109 : decode cX12_reads 109 = .ok (.aload_n 0, 1) := by decide +kernel
theorem dX12_reads_110 : decode cX12_reads 110 = .ok (.getfield 8, 3) := by decide +kernel
theorem dX12_reads_113 : decode cX12_reads 113 = .ok (.sipush 10990, 3) := by decide +kernel
theorem dX12_reads_116 : decode cX12_reads 116 = .ok (.iload_n 2, 1) := by decide +kernel
theorem dX12_reads_117 : decode cX12_reads 117 = .ok (.iadd, 1) := by decide +kernel
theorem dX12_reads_118 : decode cX12_reads 118 = .ok (.iload 4, 2) := by decide +kernel
theorem dX12_reads_120 : decode cX12_reads 120 = .ok (.bipush 121, 2) := by decide +kernel
theorem dX12_reads_122 : decode cX12_reads 122 = .ok (.if_icmp .ne 7, 3) := by decide +kernel
theorem dX12_reads_125 : decode cX12_reads 125 = .ok (.iconst 1, 1) := by decide +kernel
theorem dX12_reads_126 : decode cX12_reads 126 = .ok (.goto 4, 3) := by decide +kernel
theorem dX12_reads_129 : decode cX12_reads 129 = .ok (.iconst 0, 1) := by decide +kernel
theorem dX12_reads_130 : decode cX12_reads 130 = .ok (.iastore, 1) := by decide +kernel
theorem dX12_reads_131 : decode cX12_reads 131 = .ok (.goto 43, 3) := by decide +kernel
theorem dX12_reads_134 : decode cX12_reads 134 = .ok (.iload_n 3, 1) := by decide +kernel
theorem dX12_reads_135 : decode cX12_reads 135 = .ok (.bipush 6, 2) := by decide +kernel
theorem dX12_reads_137 : decode cX12_reads 137 = .ok (.if_icmp .ne 23, 3) := by decide +kernel
theorem dX12_reads_140 : decode cX12_reads 140 = .ok (.aload_n 0, 1) := by decide +kernel
theorem dX12_reads_141 : decode cX12_reads 141 = .ok (.invokevirtual 123, 3) := by decide +kernel
theorem dX12_reads_144 : decode cX12_reads 144 = .ok (.istore 4, 2) := by decide +kernel
theorem dX12_reads_146 : decode cX12_reads 146 = .ok (.aload_n 0, 1) := by decide +kernel
theorem dX12_reads_147 : decode cX12_reads 147 = .ok (.getfield 8, 3) := by decide +kernel
theorem dX12_reads_150 : decode cX12_reads 150 = .ok (.sipush 10990, 3) := by decide +kernel
theorem dX12_reads_153 : decode cX12_reads 153 = .ok (.iload_n 2, 1) := by decide +kernel
theorem dX12_reads_154 : decode cX12_reads 154 = .ok (.iadd, 1) := by decide +kernel
theorem dX12_reads_155 : decode cX12_reads 155 = .ok (.iconst 1, 1) := by decide +kernel
theorem dX12_reads_156 : decode cX12_reads 156 = .ok (.iastore, 1) := by decide +kernel
theorem dX12_reads_157 : decode cX12_reads 157 = .ok (.goto 17, 3) := by decide +kernel
theorem dX12_reads_160 : decode cX12_reads 160 = .ok (.aload_n 0, 1) := by decide +kernel
theorem dX12_reads_161 : decode cX12_reads 161 = .ok (.getfield 8, 3) := by decide +kernel
theorem dX12_reads_164 : decode cX12_reads 164 = .ok (.sipush 10990, 3) := by decide +kernel
theorem dX12_reads_167 : decode cX12_reads 167 = .ok (.iload_n 2, 1) := by decide +kernel
theorem dX12_reads_168 : decode cX12_reads 168 = .ok (.iadd, 1) := by decide +kernel
theorem dX12_reads_169 : decode cX12_reads 169 = .ok (.aload_n 0, 1) := by decide +kernel
theorem dX12_reads_170 : decode cX12_reads 170 = .ok (.invokevirtual 129, 3) := by decide +kernel
theorem dX12_reads_173 : decode cX12_reads 173 = .ok (.iastore, 1) := by decide +kernel
theorem dX12_reads_174 : decode cX12_reads 174 = .ok (.aload_n 0, 1) := by decide +kernel
theorem dX12_reads_175 : decode cX12_reads 175 = .ok (.getfield 8, 3) := by decide +kernel
theorem dX12_reads_178 : decode cX12_reads 178 = .ok (.sipush 10900, 3) := by decide +kernel
theorem dX12_reads_181 : decode cX12_reads 181 = .ok (.iload_n 1, 1) := by decide +kernel
theorem dX12_reads_182 : decode cX12_reads 182 = .ok (.iadd, 1) := by decide +kernel
theorem dX12_reads_183 : decode cX12_reads 183 = .ok (.dup2, 1) := by decide +kernel
theorem dX12_reads_184 : decode cX12_reads 184 = .ok (.iaload, 1) := by decide +kernel
theorem dX12_reads_185 : decode cX12_reads 185 = .ok (.iconst 1, 1) := by decide +kernel
theorem dX12_reads_186 : decode cX12_reads 186 = .ok (.iadd, 1) := by decide +kernel
theorem dX12_reads_187 : decode cX12_reads 187 = .ok (.iastore, 1) := by decide +kernel
theorem dX12_reads_188 : decode cX12_reads 188 = .ok (.return_, 1) := by decide +kernel
theorem cm_X12_reads : CM yX12_reads cX12_reads 5 none 1 12 := ⟨w_1533, w_44, w_1534, w_97, ⟨by decide +kernel, by decide +kernel, by decide +kernel⟩, ⟨_, _, rfl⟩, by decide⟩
noncomputable def f_X12_reads_174 (n : Nat)  (v0 v1 : Int) (h : MM) : RR :=
  gf h v0 12 1 fun r1 =>
  rd h r1 100 (wr (10900 + v1)) fun r2 =>
  wt h r1 100 (wr (10900 + v1)) (wr (r2 + 1)) fun h3 =>
  some (0, h3)
noncomputable def f_X12_reads_130 (n : Nat)  (v0 v1 s0 s1 s2 : Int) (h : MM) : RR :=
  wt h s0 100 s1 s2 fun h1 =>
  f_X12_reads_174 n v0 v1 h1
noncomputable def f_X12_reads_105 (n : Nat)  (v0 v1 v2 v4 s0 s1 s2 : Int) (h : MM) : RR :=
  pf h s0 12 5 (wr (s1 + s2)) fun h1 =>
  gf h1 v0 12 1 fun r2 =>
  if v4 = 121 then
    f_X12_reads_130 n v0 v1 r2 (wr (10990 + v2)) 1 h1
  else
  f_X12_reads_130 n v0 v1 r2 (wr (10990 + v2)) 0 h1
noncomputable def f_X12_reads_85 (n : Nat)  (v0 v1 v2 v4 s0 s1 : Int) (h : MM) : RR :=
  ck (isb s1) <|
  pf h s0 12 6 s1 fun h1 =>
  gf h1 v0 12 5 fun r3 =>
  gf h1 v0 12 6 fun r4 =>
  if r4 = 0 then
    f_X12_reads_105 n v0 v1 v2 v4 v0 r3 1 h1
  else
  f_X12_reads_105 n v0 v1 v2 v4 v0 r3 0 h1
noncomputable def f_X12_reads_84 (n : Nat)  (v0 v1 v2 v4 s0 : Int) (h : MM) : RR :=
  f_X12_reads_85 n v0 v1 v2 v4 s0 0 h
noncomputable def f_X12_reads (n : Nat) (v0 v1 : Int) (h : MM) : RR :=
  gf h v0 12 1 fun r1 =>
  rd h r1 100 (wr (10900 + v1)) fun r2 =>
  lb (wr ((wr (8 * v1)) + r2)) fun x3 =>
  gk h v0 12 <|
  bd (f_X12_oneWord n v0 h) fun r4 h4 =>
  gf h4 v0 12 6 fun r5 =>
  if r5 = 0 then
    gf h4 v0 12 1 fun r7 =>
    wt h4 r7 100 (wr (10910 + x3)) r4 fun h8 =>
    gf h8 v0 12 1 fun r9 =>
    gf h8 v0 12 5 fun r10 =>
    wt h8 r9 100 (wr (11070 + x3)) r10 fun h11 =>
    if r4 = 5 then
      gk h11 v0 12 <|
      bd (f_X12_here n v0 h11) fun r20 h20 =>
      if r20 = 121 then
        f_X12_reads_84 n v0 v1 x3 r20 v0 h20
      else
      if r20 = 110 then
        f_X12_reads_84 n v0 v1 x3 r20 v0 h20
      else
      f_X12_reads_85 n v0 v1 x3 r20 v0 1 h20
    else
    if r4 = 6 then
      gk h11 v0 12 <|
      bd (f_X12_some n v0 h11) fun r17 h17 =>
      gf h17 v0 12 1 fun r18 =>
      wt h17 r18 100 (wr (10990 + x3)) 1 fun h19 =>
      f_X12_reads_174 n v0 v1 h19
    else
    gf h11 v0 12 1 fun r14 =>
    gk h11 v0 12 <|
    bd (f_X12_number n v0 h11) fun r15 h15 =>
    wt h15 r14 100 (wr (10990 + x3)) r15 fun h16 =>
    f_X12_reads_174 n v0 v1 h16
  else
  some (0, h4)
set_option maxRecDepth 20000 in
theorem b_X12_reads_174 {g : GT} {Z : Int × MM} {n : Nat} (C : Cx g cX12_reads 5 yX12_reads 53 1166) (hr : Rt g none 3 Z) {v0 v1 : Int}    (cv1 : in32 v1) {h : MM} (hf : f_X12_reads_174 n  v0 v1 h = some Z) : G g 174 [(2, v0), (0, v1), (3, 0), (3, 0), (3, 0)] [] h := by
  unfold f_X12_reads_174 at hf
  refine r_aload_n C dX12_reads_174 rfl ?_
  obtain ⟨q1, hf⟩ := gf_s hf
  refine r_gf C ct12 (j := 1) (ji := 1) dX12_reads_175 q1 rfl rfl (by decide) w_1426 rfl (fun c1 => ?_)
  refine r_sipush C dX12_reads_178 rfl ?_
  refine r_iload_n C dX12_reads_181 rfl ?_
  refine r_iadd C dX12_reads_182 ?_
  refine r_dup2 C dX12_reads_183 (by decide) (by decide) ?_
  obtain ⟨q2, hf⟩ := rd_s hf
  refine r_iald C dX12_reads_184 q2 rfl (fun c2 => ?_)
  refine r_iconst C dX12_reads_185 ?_
  refine r_iadd C dX12_reads_186 ?_
  obtain ⟨q3, hf⟩ := wt_s hf
  refine r_iast C dX12_reads_187 q3 rfl (in32_t _) ?_
  cases hf
  exact r_vret C hr dX12_reads_188
set_option maxRecDepth 20000 in
theorem b_X12_reads_130 {g : GT} {Z : Int × MM} {n : Nat} (C : Cx g cX12_reads 5 yX12_reads 53 1166) (hr : Rt g none 3 Z) {v0 v1 s0 s1 s2 : Int}    (cv1 : in32 v1) (cs1 : in32 s1) (cs2 : in32 s2) {h : MM} (hf : f_X12_reads_130 n  v0 v1 s0 s1 s2 h = some Z) : G g 130 [(2, v0), (0, v1), (3, 0), (3, 0), (3, 0)] [(0, s2), (0, s1), (2, s0)] h := by
  unfold f_X12_reads_130 at hf
  obtain ⟨q1, hf⟩ := wt_s hf
  refine r_iast C dX12_reads_130 q1 rfl cs2 ?_
  refine r_goto C dX12_reads_131 (tgt := 174) (by decide) ?_
  exact G.mask [true, true, false, false, false] rfl rfl (b_X12_reads_174 C hr  cv1 hf)
set_option maxRecDepth 20000 in
theorem b_X12_reads_105 {g : GT} {Z : Int × MM} {n : Nat} (C : Cx g cX12_reads 5 yX12_reads 53 1166) (hr : Rt g none 3 Z) {v0 v1 v2 v4 s0 s1 s2 : Int}    (cv1 : in32 v1) (cv2 : in32 v2) (cv4 : in32 v4) (cs1 : in32 s1) (cs2 : in32 s2) {h : MM} (hf : f_X12_reads_105 n  v0 v1 v2 v4 s0 s1 s2 h = some Z) : G g 105 [(2, v0), (0, v1), (0, v2), (3, 0), (0, v4)] [(0, s2), (0, s1), (2, s0)] h := by
  unfold f_X12_reads_105 at hf
  refine r_iadd C dX12_reads_105 ?_
  obtain ⟨q1, hf⟩ := pf_s hf
  refine r_pf C ct12 (j := 5) (ji := 5) dX12_reads_106 q1 rfl rfl (by decide) w_1430 rfl (Or.inl rfl) nar_int (in32_t _) ?_
  refine r_aload_n C dX12_reads_109 rfl ?_
  obtain ⟨q2, hf⟩ := gf_s hf
  refine r_gf C ct12 (j := 1) (ji := 1) dX12_reads_110 q2 rfl rfl (by decide) w_1426 rfl (fun c2 => ?_)
  refine r_sipush C dX12_reads_113 rfl ?_
  refine r_iload_n C dX12_reads_116 rfl ?_
  refine r_iadd C dX12_reads_117 ?_
  refine r_iload C dX12_reads_118 rfl ?_
  refine r_bipush C dX12_reads_120 rfl ?_
  refine r_icmp_ne C dX12_reads_122 (tgt := 129) (by decide) cv4 (in32_of rfl) (fun n3 => ?_) (fun n3 => ?_)
  · have hf := ite_n n3 hf
    refine r_iconst C dX12_reads_129 ?_
    exact G.mask [true, true, false, false, false] rfl rfl (b_X12_reads_130 C hr  cv1 (in32_t _) (in32_of rfl) hf)
  · have hf := ite_p n3 hf
    refine r_iconst C dX12_reads_125 ?_
    refine r_goto C dX12_reads_126 (tgt := 130) (by decide) ?_
    exact G.mask [true, true, false, false, false] rfl rfl (b_X12_reads_130 C hr  cv1 (in32_t _) (in32_of rfl) hf)
set_option maxRecDepth 20000 in
theorem b_X12_reads_85 {g : GT} {Z : Int × MM} {n : Nat} (C : Cx g cX12_reads 5 yX12_reads 53 1166) (hr : Rt g none 3 Z) {v0 v1 v2 v4 s0 s1 : Int}    (cv1 : in32 v1) (cv2 : in32 v2) (cv4 : in32 v4) (cs1 : in32 s1) {h : MM} (hf : f_X12_reads_85 n  v0 v1 v2 v4 s0 s1 h = some Z) : G g 85 [(2, v0), (0, v1), (0, v2), (3, 0), (0, v4)] [(0, s1), (2, s0)] h := by
  unfold f_X12_reads_85 at hf
  obtain ⟨b2, hf⟩ := ck_s hf
  obtain ⟨q1, hf⟩ := pf_s hf
  refine r_pf C ct12 (j := 6) (ji := 6) dX12_reads_85 q1 rfl rfl (by decide) w_1431 rfl (Or.inl rfl) (nar_bool (isb_s b2)) cs1 ?_
  refine r_aload_n C dX12_reads_88 rfl ?_
  refine r_dup C dX12_reads_89 (by decide) ?_
  obtain ⟨q3, hf⟩ := gf_s hf
  refine r_gf C ct12 (j := 5) (ji := 5) dX12_reads_90 q3 rfl rfl (by decide) w_1430 rfl (fun c3 => ?_)
  have c3 : in32 _ := c3
  refine r_aload_n C dX12_reads_93 rfl ?_
  obtain ⟨q4, hf⟩ := gf_s hf
  refine r_gf C ct12 (j := 6) (ji := 6) dX12_reads_94 q4 rfl rfl (by decide) w_1431 rfl (fun c4 => ?_)
  have c4 : in32 _ := c4
  refine r_if_eq C dX12_reads_97 (tgt := 104) (by decide) c4 (fun n5 => ?_) (fun n5 => ?_)
  · have hf := ite_p n5 hf
    refine r_iconst C dX12_reads_104 ?_
    exact G.mask [true, true, true, false, true] rfl rfl (b_X12_reads_105 C hr  cv1 cv2 cv4 c3 (in32_of rfl) hf)
  · have hf := ite_n n5 hf
    refine r_iconst C dX12_reads_100 ?_
    refine r_goto C dX12_reads_101 (tgt := 105) (by decide) ?_
    exact G.mask [true, true, true, false, true] rfl rfl (b_X12_reads_105 C hr  cv1 cv2 cv4 c3 (in32_of rfl) hf)
set_option maxRecDepth 20000 in
theorem b_X12_reads_84 {g : GT} {Z : Int × MM} {n : Nat} (C : Cx g cX12_reads 5 yX12_reads 53 1166) (hr : Rt g none 3 Z) {v0 v1 v2 v4 s0 : Int}    (cv1 : in32 v1) (cv2 : in32 v2) (cv4 : in32 v4) {h : MM} (hf : f_X12_reads_84 n  v0 v1 v2 v4 s0 h = some Z) : G g 84 [(2, v0), (0, v1), (0, v2), (3, 0), (0, v4)] [(2, s0)] h := by
  unfold f_X12_reads_84 at hf
  refine r_iconst C dX12_reads_84 ?_
  exact G.mask [true, true, true, false, true] rfl rfl (b_X12_reads_85 C hr  cv1 cv2 cv4 (in32_of rfl) hf)
set_option maxRecDepth 20000 in
theorem e_X12_reads {g : GT} {Z : Int × MM} {n : Nat} (C : Cx g cX12_reads 5 yX12_reads 53 1166) (hr : Rt g none 3 Z) {v0 v1 : Int} (cv0 : cK 2 v0) (cv1 : cK 0 v1) {h : MM} (hf : f_X12_reads n v0 v1 h = some Z) : G g 0 [(2, v0), (0, v1), (3, 0), (3, 0), (3, 0)] [] h := by
  have cv1 : in32 v1 := cv1
  unfold f_X12_reads at hf
  refine r_bipush C dX12_reads_0 rfl ?_
  refine r_iload_n C dX12_reads_2 rfl ?_
  refine r_imul C dX12_reads_3 ?_
  refine r_aload_n C dX12_reads_4 rfl ?_
  obtain ⟨q1, hf⟩ := gf_s hf
  refine r_gf C ct12 (j := 1) (ji := 1) dX12_reads_5 q1 rfl rfl (by decide) w_1426 rfl (fun c1 => ?_)
  refine r_sipush C dX12_reads_8 rfl ?_
  refine r_iload_n C dX12_reads_11 rfl ?_
  refine r_iadd C dX12_reads_12 ?_
  obtain ⟨q2, hf⟩ := rd_s hf
  refine r_iald C dX12_reads_13 q2 rfl (fun c2 => ?_)
  refine r_iadd C dX12_reads_14 ?_
  obtain ⟨x3, e3, hf⟩ := lb_s hf
  have c3 : in32 x3 := by rw [e3]; exact (in32_t _)
  refine r_istore_nL C dX12_reads_15 e3 (Nat.le_of_ble_eq_true rfl) rfl ?_
  refine r_aload_n C dX12_reads_16 rfl ?_
  obtain ⟨p4, hf⟩ := gk_s hf
  obtain ⟨r4, h4, hq4, hf⟩ := bd_s hf
  refine r_cV0 C (am_X12_oneWord (gl g) n) cm_X12_oneWord w_1535 dX12_reads_17 ⟨Nat.le_of_ble_eq_true rfl, Nat.le_of_ble_eq_true rfl⟩ p4 rfl  rfl (Nat.le_of_ble_eq_true rfl) hq4 (by decide) (fun c4 => ?_)
  have c4 : in32 _ := c4
  refine r_istore_n C dX12_reads_20 (Nat.le_of_ble_eq_true rfl) rfl ?_
  refine r_aload_n C dX12_reads_21 rfl ?_
  obtain ⟨q5, hf⟩ := gf_s hf
  refine r_gf C ct12 (j := 6) (ji := 6) dX12_reads_22 q5 rfl rfl (by decide) w_1431 rfl (fun c5 => ?_)
  have c5 : in32 _ := c5
  refine r_if_eq C dX12_reads_25 (tgt := 29) (by decide) c5 (fun n6 => ?_) (fun n6 => ?_)
  · have hf := ite_p n6 hf
    refine r_aload_n C dX12_reads_29 rfl ?_
    obtain ⟨q7, hf⟩ := gf_s hf
    refine r_gf C ct12 (j := 1) (ji := 1) dX12_reads_30 q7 rfl rfl (by decide) w_1426 rfl (fun c7 => ?_)
    refine r_sipush C dX12_reads_33 rfl ?_
    refine r_iload_n C dX12_reads_36 rfl ?_
    refine r_iadd C dX12_reads_37 ?_
    refine r_iload_n C dX12_reads_38 rfl ?_
    obtain ⟨q8, hf⟩ := wt_s hf
    refine r_iast C dX12_reads_39 q8 rfl c4 ?_
    refine r_aload_n C dX12_reads_40 rfl ?_
    obtain ⟨q9, hf⟩ := gf_s hf
    refine r_gf C ct12 (j := 1) (ji := 1) dX12_reads_41 q9 rfl rfl (by decide) w_1426 rfl (fun c9 => ?_)
    refine r_sipush C dX12_reads_44 rfl ?_
    refine r_iload_n C dX12_reads_47 rfl ?_
    refine r_iadd C dX12_reads_48 ?_
    refine r_aload_n C dX12_reads_49 rfl ?_
    obtain ⟨q10, hf⟩ := gf_s hf
    refine r_gf C ct12 (j := 5) (ji := 5) dX12_reads_50 q10 rfl rfl (by decide) w_1430 rfl (fun c10 => ?_)
    have c10 : in32 _ := c10
    obtain ⟨q11, hf⟩ := wt_s hf
    refine r_iast C dX12_reads_53 q11 rfl c10 ?_
    refine r_iload_n C dX12_reads_54 rfl ?_
    refine r_iconst C dX12_reads_55 ?_
    refine r_icmp_ne C dX12_reads_56 (tgt := 134) (by decide) c4 (in32_of rfl) (fun n12 => ?_) (fun n12 => ?_)
    · have hf := ite_n n12 hf
      refine r_iload_n C dX12_reads_134 rfl ?_
      refine r_bipush C dX12_reads_135 rfl ?_
      refine r_icmp_ne C dX12_reads_137 (tgt := 160) (by decide) c4 (in32_of rfl) (fun n13 => ?_) (fun n13 => ?_)
      · have hf := ite_n n13 hf
        refine r_aload_n C dX12_reads_160 rfl ?_
        obtain ⟨q14, hf⟩ := gf_s hf
        refine r_gf C ct12 (j := 1) (ji := 1) dX12_reads_161 q14 rfl rfl (by decide) w_1426 rfl (fun c14 => ?_)
        refine r_sipush C dX12_reads_164 rfl ?_
        refine r_iload_n C dX12_reads_167 rfl ?_
        refine r_iadd C dX12_reads_168 ?_
        refine r_aload_n C dX12_reads_169 rfl ?_
        obtain ⟨p15, hf⟩ := gk_s hf
        obtain ⟨r15, h15, hq15, hf⟩ := bd_s hf
        refine r_cV0 C (am_X12_number (gl g) n) cm_X12_number w_1571 dX12_reads_170 ⟨Nat.le_of_ble_eq_true rfl, Nat.le_of_ble_eq_true rfl⟩ p15 rfl  rfl (Nat.le_of_ble_eq_true rfl) hq15 (by decide) (fun c15 => ?_)
        have c15 : in32 _ := c15
        obtain ⟨q16, hf⟩ := wt_s hf
        refine r_iast C dX12_reads_173 q16 rfl c15 ?_
        exact G.mask [true, true, false, false, false] rfl rfl (b_X12_reads_174 C hr  cv1 hf)
      · have hf := ite_p n13 hf
        refine r_aload_n C dX12_reads_140 rfl ?_
        obtain ⟨p17, hf⟩ := gk_s hf
        obtain ⟨r17, h17, hq17, hf⟩ := bd_s hf
        refine r_cV0 C (am_X12_some (gl g) n) cm_X12_some w_1555 dX12_reads_141 ⟨Nat.le_of_ble_eq_true rfl, Nat.le_of_ble_eq_true rfl⟩ p17 rfl  rfl (Nat.le_of_ble_eq_true rfl) hq17 (by decide) (fun c17 => ?_)
        have c17 : in32 _ := c17
        refine r_istore C dX12_reads_144 (Nat.le_of_ble_eq_true rfl) rfl ?_
        refine r_aload_n C dX12_reads_146 rfl ?_
        obtain ⟨q18, hf⟩ := gf_s hf
        refine r_gf C ct12 (j := 1) (ji := 1) dX12_reads_147 q18 rfl rfl (by decide) w_1426 rfl (fun c18 => ?_)
        refine r_sipush C dX12_reads_150 rfl ?_
        refine r_iload_n C dX12_reads_153 rfl ?_
        refine r_iadd C dX12_reads_154 ?_
        refine r_iconst C dX12_reads_155 ?_
        obtain ⟨q19, hf⟩ := wt_s hf
        refine r_iast C dX12_reads_156 q19 rfl (in32_of rfl) ?_
        refine r_goto C dX12_reads_157 (tgt := 174) (by decide) ?_
        exact G.mask [true, true, false, false, false] rfl rfl (b_X12_reads_174 C hr  cv1 hf)
    · have hf := ite_p n12 hf
      refine r_aload_n C dX12_reads_59 rfl ?_
      obtain ⟨p20, hf⟩ := gk_s hf
      obtain ⟨r20, h20, hq20, hf⟩ := bd_s hf
      refine r_cV0 C (am_X12_here (gl g) n) cm_X12_here w_1551 dX12_reads_60 ⟨Nat.le_of_ble_eq_true rfl, Nat.le_of_ble_eq_true rfl⟩ p20 rfl  rfl (Nat.le_of_ble_eq_true rfl) hq20 (by decide) (fun c20 => ?_)
      have c20 : in32 _ := c20
      refine r_istore C dX12_reads_63 (Nat.le_of_ble_eq_true rfl) rfl ?_
      refine r_aload_n C dX12_reads_65 rfl ?_
      refine r_iload C dX12_reads_66 rfl ?_
      refine r_bipush C dX12_reads_68 rfl ?_
      refine r_icmp_eq C dX12_reads_70 (tgt := 84) (by decide) c20 (in32_of rfl) (fun n21 => ?_) (fun n21 => ?_)
      · have hf := ite_p n21 hf
        exact G.mask [true, true, true, false, true] rfl rfl (b_X12_reads_84 C hr  cv1 c3 c20 hf)
      · have hf := ite_n n21 hf
        refine r_iload C dX12_reads_73 rfl ?_
        refine r_bipush C dX12_reads_75 rfl ?_
        refine r_icmp_eq C dX12_reads_77 (tgt := 84) (by decide) c20 (in32_of rfl) (fun n22 => ?_) (fun n22 => ?_)
        · have hf := ite_p n22 hf
          exact G.mask [true, true, true, false, true] rfl rfl (b_X12_reads_84 C hr  cv1 c3 c20 hf)
        · have hf := ite_n n22 hf
          refine r_iconst C dX12_reads_80 ?_
          refine r_goto C dX12_reads_81 (tgt := 85) (by decide) ?_
          exact G.mask [true, true, true, false, true] rfl rfl (b_X12_reads_85 C hr  cv1 c3 c20 (in32_of rfl) hf)
  · have hf := ite_n n6 hf
    cases hf
    exact r_vret C hr dX12_reads_28
set_option maxRecDepth 20000 in
theorem am_X12_reads (l : Launch) (n : Nat) : AM l yX12_reads cX12_reads 5 none 53 1166 [2, 0] 3 (un2 (f_X12_reads n)) := by
  refine AM.intro (by decide) (fun xs hx => ?_) (fun g xs h Z hl C hr hx hf => ?_)
  · obtain ⟨a0, a1, rfl, c0, c1⟩ := canL_2 hx
    exact Nat.le_of_ble_eq_true rfl
  · obtain ⟨a0, a1, rfl, c0, c1⟩ := canL_2 hx
    have hf := (un2_e _ a0 a1 _).symm.trans hf
    exact e_X12_reads (n := n) C hr c0 c1 hf
/-! LinesPromisedModel.readsOrder(II)Z -/
theorem dX12_readsOrder_0 : decode cX12_readsOrder 0 = .ok (.aload_n 0, 1) := by decide +kernel
theorem dX12_readsOrder_1 : decode cX12_readsOrder 1 = .ok (.getfield 8, 3) := by decide +kernel
theorem dX12_readsOrder_4 : decode cX12_readsOrder 4 = .ok (.sipush 9620, 3) := by decide +kernel
theorem dX12_readsOrder_7 : decode cX12_readsOrder 7 = .ok (.iload_n 1, 1) := by decide +kernel
theorem dX12_readsOrder_8 : decode cX12_readsOrder 8 = .ok (.iadd, 1) := by decide +kernel
theorem dX12_readsOrder_9 : decode cX12_readsOrder 9 = .ok (.iload_n 2, 1) := by decide +kernel
theorem dX12_readsOrder_10 : decode cX12_readsOrder 10 = .ok (.iastore, 1) := by decide +kernel
theorem dX12_readsOrder_11 : decode cX12_readsOrder 11 = .ok (.aload_n 0, 1) := by decide +kernel
theorem dX12_readsOrder_12 : decode cX12_readsOrder 12 = .ok (.getfield 8, 3) := by decide +kernel
theorem dX12_readsOrder_15 : decode cX12_readsOrder 15 = .ok (.sipush 9630, 3) := by decide +kernel
theorem dX12_readsOrder_18 : decode cX12_readsOrder 18 = .ok (.iload_n 1, 1) := by decide +kernel
theorem dX12_readsOrder_19 : decode cX12_readsOrder 19 = .ok (.iadd, 1) := by decide +kernel
theorem dX12_readsOrder_20 : decode cX12_readsOrder 20 = .ok (.aload_n 0, 1) := by decide +kernel
theorem dX12_readsOrder_21 : decode cX12_readsOrder 21 = .ok (.getfield 8, 3) := by decide +kernel
theorem dX12_readsOrder_24 : decode cX12_readsOrder 24 = .ok (.iconst 4, 1) := by decide +kernel
theorem dX12_readsOrder_25 : decode cX12_readsOrder 25 = .ok (.iaload, 1) := by decide +kernel
theorem dX12_readsOrder_26 : decode cX12_readsOrder 26 = .ok (.iastore, 1) := by decide +kernel
theorem dX12_readsOrder_27 : decode cX12_readsOrder 27 = .ok (.iconst 0, 1) := by decide +kernel
theorem dX12_readsOrder_28 : decode cX12_readsOrder 28 = .ok (.istore_n 3, 1) := by decide +kernel
theorem dX12_readsOrder_29 : decode cX12_readsOrder 29 = .ok (.iload_n 3, 1) := by decide +kernel
theorem dX12_readsOrder_30 : decode cX12_readsOrder 30 = .ok (.aload_n 0, 1) := by decide +kernel
theorem dX12_readsOrder_31 : decode cX12_readsOrder 31 = .ok (.getfield 8, 3) := by decide +kernel
theorem dX12_readsOrder_34 : decode cX12_readsOrder 34 = .ok (.iconst 4, 1) := by decide +kernel
theorem dX12_readsOrder_35 : decode cX12_readsOrder 35 = .ok (.iaload, 1) := by decide +kernel
theorem dX12_readsOrder_36 : decode cX12_readsOrder 36 = .ok (.if_icmp .ge 35, 3) := by decide +kernel
theorem dX12_readsOrder_39 : decode cX12_readsOrder 39 = .ok (.aload_n 0, 1) := by decide +kernel
theorem dX12_readsOrder_40 : decode cX12_readsOrder 40 = .ok (.getfield 8, 3) := by decide +kernel
theorem dX12_readsOrder_43 : decode cX12_readsOrder 43 = .ok (.sipush 9640, 3) := by decide +kernel
theorem dX12_readsOrder_46 : decode cX12_readsOrder 46 = .ok (.sipush 140, 3) := by decide +kernel
theorem dX12_readsOrder_49 : decode cX12_readsOrder 49 = .ok (.iload_n 1, 1) := by decide +kernel
theorem dX12_readsOrder_50 : decode cX12_readsOrder 50 = .ok (.imul, 1) := by decide +kernel
theorem dX12_readsOrder_51 : decode cX12_readsOrder 51 = .ok (.iadd, 1) := by decide +kernel
theorem dX12_readsOrder_52 : decode cX12_readsOrder 52 = .ok (.iload_n 3, 1) := by decide +kernel
theorem dX12_readsOrder_53 : decode cX12_readsOrder 53 = .ok (.iadd, 1) := by decide +kernel
theorem dX12_readsOrder_54 : decode cX12_readsOrder 54 = .ok (.aload_n 0, 1) := by decide +kernel
theorem dX12_readsOrder_55 : decode cX12_readsOrder 55 = .ok (.getfield 8, 3) := by decide +kernel
theorem dX12_readsOrder_58 : decode cX12_readsOrder 58 = .ok (.sipush 11150, 3) := by decide +kernel
theorem dX12_readsOrder_61 : decode cX12_readsOrder 61 = .ok (.iload_n 3, 1) := by decide +kernel
theorem dX12_readsOrder_62 : decode cX12_readsOrder 62 = .ok (.iadd, 1) := by decide +kernel
theorem dX12_readsOrder_63 : decode cX12_readsOrder 63 = .ok (.iaload, 1) := by decide +kernel
theorem dX12_readsOrder_64 : decode cX12_readsOrder 64 = .ok (.iastore, 1) := by decide +kernel
theorem dX12_readsOrder_65 : decode cX12_readsOrder 65 = .ok (.iinc 3 1, 3) := by decide +kernel
theorem dX12_readsOrder_68 : decode cX12_readsOrder 68 = .ok (.goto (-39), 3) := by decide +kernel
theorem dX12_readsOrder_71 : decode cX12_readsOrder 71 = .ok (.aload_n 0, 1) := by decide +kernel
theorem dX12_readsOrder_72 : decode cX12_readsOrder 72 = .ok (.getfield 8, 3) := by decide +kernel
theorem dX12_readsOrder_75 : decode cX12_readsOrder 75 = .ok (.iconst 4, 1) := by decide +kernel
theorem dX12_readsOrder_76 : decode cX12_readsOrder 76 = .ok (.iconst 0, 1) := by decide +kernel
theorem dX12_readsOrder_77 : decode cX12_readsOrder 77 = .ok (.iastore, 1) := by decide +kernel
theorem dX12_readsOrder_78 : decode cX12_readsOrder 78 = .ok (.aload_n 0, 1) := by decide +kernel
theorem dX12_readsOrder_79 : decode cX12_readsOrder 79 = .ok (.getfield 8, 3) := by decide +kernel
theorem dX12_readsOrder_82 : decode cX12_readsOrder 82 = .ok (.sipush 10900, 3) := by decide +kernel
theorem dX12_readsOrder_85 : decode cX12_readsOrder 85 = .ok (.iload_n 1, 1) := by decide +kernel
theorem dX12_readsOrder_86 : decode cX12_readsOrder 86 = .ok (.iadd, 1) := by decide +kernel
theorem dX12_readsOrder_87 : decode cX12_readsOrder 87 = .ok (.iconst 0, 1) := by decide +kernel
theorem dX12_readsOrder_88 : decode cX12_readsOrder 88 = .ok (.iastore, 1) := by decide +kernel
theorem dX12_readsOrder_89 : decode cX12_readsOrder 89 = .ok (.aload_n 0, 1) := by decide +kernel
theorem dX12_readsOrder_90 : decode cX12_readsOrder 90 = .ok (.iload_n 1, 1) := by decide +kernel
theorem dX12_readsOrder_91 : decode cX12_readsOrder 91 = .ok (.putfield 78, 3) := by decide +kernel
theorem dX12_readsOrder_94 : decode cX12_readsOrder 94 = .ok (.aload_n 0, 1) := by decide +kernel
theorem dX12_readsOrder_95 : decode cX12_readsOrder 95 = .ok (.iconst 0, 1) := by decide +kernel
theorem dX12_readsOrder_96 : decode cX12_readsOrder 96 = .ok (.putfield 75, 3) := by decide +kernel
theorem dX12_readsOrder_99 : decode cX12_readsOrder 99 = .ok (.aload_n 0, 1) := by decide +kernel
theorem dX12_readsOrder_100 : decode cX12_readsOrder 100 = .ok (.iconst 0, 1) := by decide +kernel
theorem dX12_readsOrder_101 : decode cX12_readsOrder 101 = .ok (.putfield 116, 3) := by decide +kernel
theorem dX12_readsOrder_104 : decode cX12_readsOrder 104 = .ok (.aload_n 0, 1) := by decide +kernel
theorem dX12_readsOrder_105 : decode cX12_readsOrder 105 = .ok (.iconst 0, 1) := by decide +kernel
theorem dX12_readsOrder_106 : decode cX12_readsOrder 106 = .ok (.putfield 81, 3) := by decide +kernel
theorem dX12_readsOrder_109 : decode cX12_readsOrder 109 = .ok (.aload_n 0, 1) := by decide +kernel
theorem dX12_readsOrder_110 : decode cX12_readsOrder 110 = .ok (.iload_n 1, 1) := by decide +kernel
theorem dX12_readsOrder_111 : decode cX12_readsOrder 111 = .ok (.invokevirtual 138, 3) := by decide +kernel
theorem dX12_readsOrder_114 : decode cX12_readsOrder 114 = .ok (.aload_n 0, 1) := by decide +kernel
theorem dX12_readsOrder_115 : decode cX12_readsOrder 115 = .ok (.getfield 81, 3) := by decide +kernel
theorem dX12_readsOrder_118 : decode cX12_readsOrder 118 = .ok (.ifCond .ne 45, 3) := by decide +kernel
theorem dX12_readsOrder_121 : decode cX12_readsOrder 121 = .ok (.aload_n 0, 1) := by decide +kernel
theorem dX12_readsOrder_122 : decode cX12_readsOrder 122 = .ok (.getfield 8, 3) := by decide +kernel
theorem dX12_readsOrder_125 : decode cX12_readsOrder 125 = .ok (.sipush 10900, 3) := by decide +kernel
theorem dX12_readsOrder_128 : decode cX12_readsOrder 128 = .ok (.iload_n 1, 1) := by decide +kernel
theorem dX12_readsOrder_129 : decode cX12_readsOrder 129 = .ok (.iadd, 1) := by decide +kernel
theorem dX12_readsOrder_130 : decode cX12_readsOrder 130 = .ok (.iaload, 1) := by decide +kernel
theorem dX12_readsOrder_131 : decode cX12_readsOrder 131 = .ok (.bipush 8, 2) := by decide +kernel
theorem dX12_readsOrder_133 : decode cX12_readsOrder 133 = .ok (.if_icmp .ge 30, 3) := by decide +kernel
theorem dX12_readsOrder_136 : decode cX12_readsOrder 136 = .ok (.aload_n 0, 1) := by decide +kernel
theorem dX12_readsOrder_137 : decode cX12_readsOrder 137 = .ok (.invokevirtual 85, 3) := by decide +kernel
theorem dX12_readsOrder_140 : decode cX12_readsOrder 140 = .ok (.bipush 59, 2) := by decide +kernel
theorem dX12_readsOrder_142 : decode cX12_readsOrder 142 = .ok (.if_icmp .ne 21, 3) := by decide +kernel
theorem dX12_readsOrder_145 : decode cX12_readsOrder 145 = .ok (.aload_n 0, 1) := by decide +kernel
theorem dX12_readsOrder_146 : decode cX12_readsOrder 146 = .ok (.dup, 1) := by decide +kernel
theorem dX12_readsOrder_147 : decode cX12_readsOrder 147 = .ok (.getfield 75, 3) := by decide +kernel
theorem dX12_readsOrder_150 : decode cX12_readsOrder 150 = .ok (.iconst 1, 1) := by decide +kernel
theorem dX12_readsOrder_151 : decode cX12_readsOrder 151 = .ok (.iadd, 1) := by decide +kernel
theorem dX12_readsOrder_152 : decode cX12_readsOrder 152 = .ok (.putfield 75, 3) := by decide +kernel
theorem dX12_readsOrder_155 : decode cX12_readsOrder 155 = .ok (.aload_n 0, 1) := by decide +kernel
theorem dX12_readsOrder_156 : decode cX12_readsOrder 156 = .ok (.iload_n 1, 1) := by decide +kernel
theorem dX12_readsOrder_157 : decode cX12_readsOrder 157 = .ok (.invokevirtual 138, 3) := by decide +kernel
theorem dX12_readsOrder_160 : decode cX12_readsOrder 160 = .ok (.goto (-46), 3) := by decide +kernel
theorem dX12_readsOrder_163 : decode cX12_readsOrder 163 = .ok (.aload_n 0, 1) := by decide +kernel
theorem dX12_readsOrder_164 : decode cX12_readsOrder 164 = .ok (.aload_n 0, 1) := by decide +kernel
theorem dX12_readsOrder_165 : decode cX12_readsOrder 165 = .ok (.getfield 81, 3) := by decide +kernel
theorem dX12_readsOrder_168 : decode cX12_readsOrder 168 = .ok (.ifCond .ne 20, 3) := by decide +kernel
theorem dX12_readsOrder_171 : decode cX12_readsOrder 171 = .ok (.aload_n 0, 1) := by decide +kernel
theorem dX12_readsOrder_172 : decode cX12_readsOrder 172 = .ok (.getfield 75, 3) := by decide +kernel
theorem dX12_readsOrder_175 : decode cX12_readsOrder 175 = .ok (.aload_n 0, 1) := by decide +kernel
theorem dX12_readsOrder_176 : decode cX12_readsOrder 176 = .ok (.getfield 8, 3) := by decide +kernel
theorem dX12_readsOrder_179 : decode cX12_readsOrder 179 = .ok (.sipush 9630, 3) := by decide +kernel
theorem dX12_readsOrder_182 : decode cX12_readsOrder 182 = .ok (.iload_n 1, 1) := by decide +kernel
theorem dX12_readsOrder_183 : decode cX12_readsOrder 183 = .ok (.iadd, 1) := by decide +kernel
theorem dX12_readsOrder_184 : decode cX12_readsOrder 184 = .ok (.iaload, 1) := by decide +kernel
theorem dX12_readsOrder_185 : decode cX12_readsOrder 185 = .ok (.if_icmp .eq 7, 3) := by decide +kernel
theorem dX12_readsOrder_188 : decode cX12_readsOrder 188 = .ok (.iconst 1, 1) := by decide +kernel
theorem dX12_readsOrder_189 : decode cX12_readsOrder 189 = .ok (.goto 4, 3) := by decide +kernel
theorem dX12_readsOrder_192 : decode cX12_readsOrder 192 = .ok (.iconst 0, 1) := by decide +kernel
theorem dX12_readsOrder_193 : decode cX12_readsOrder 193 = .ok (.putfield 81, 3) := by decide +kernel
theorem dX12_readsOrder_196 : decode cX12_readsOrder 196 = .ok (.aload_n 0, 1) := by decide +kernel
theorem dX12_readsOrder_197 : decode cX12_readsOrder 197 = .ok (.getfield 81, 3) := by decide +kernel
theorem dX12_readsOrder_200 : decode cX12_readsOrder 200 = .ok (.ifCond .ne 7, 3) := by decide +kernel
theorem dX12_readsOrder_203 : decode cX12_readsOrder 203 = .ok (.iconst 1, 1) := by decide +kernel
theorem dX12_readsOrder_204 : decode cX12_readsOrder 204 = .ok (.goto 4, 3) := by decide +kernel
theorem dX12_readsOrder_207 : decode cX12_readsOrder 207 = .ok (.iconst 0, 1) := by decide +kernel
theorem dX12_readsOrder_208 : decode cX12_readsOrder 208 = .ok (.ireturn, 1) := by decide +kernel
theorem cm_X12_readsOrder : CM yX12_readsOrder cX12_readsOrder 4 (some .boolean) 2 12 := ⟨w_1529, w_43, w_1530, w_97, ⟨by decide +kernel, by decide +kernel, by decide +kernel⟩, ⟨_, _, rfl⟩, by decide⟩
noncomputable def f_X12_readsOrder_208 (n : Nat)  (s0 : Int) (h : MM) : RR :=
  ck (isb s0) <|
  some (s0, h)
noncomputable def f_X12_readsOrder_193 (n : Nat)  (v0 s0 s1 : Int) (h : MM) : RR :=
  ck (isb s1) <|
  pf h s0 12 6 s1 fun h1 =>
  gf h1 v0 12 6 fun r3 =>
  if r3 = 0 then
    f_X12_readsOrder_208 n 1 h1
  else
  f_X12_readsOrder_208 n 0 h1
noncomputable def f_X12_readsOrder_188 (n : Nat)  (v0 s0 : Int) (h : MM) : RR :=
  f_X12_readsOrder_193 n v0 s0 1 h
noncomputable def f_X12_readsOrder_163 (n : Nat)  (v0 v1 : Int) (h : MM) : RR :=
  gf h v0 12 6 fun r1 =>
  if r1 = 0 then
    gf h v0 12 5 fun r3 =>
    gf h v0 12 1 fun r4 =>
    rd h r4 100 (wr (9630 + v1)) fun r5 =>
    if r3 = r5 then
      f_X12_readsOrder_193 n v0 v0 0 h
    else
    f_X12_readsOrder_188 n v0 v0 h
  else
  f_X12_readsOrder_188 n v0 v0 h
noncomputable def f_X12_readsOrder_114b (n : Nat) (rec114 : MM → RR) (v0 v1 : Int) (h : MM) : RR :=
  gf h v0 12 6 fun r1 =>
  if r1 = 0 then
    gf h v0 12 1 fun r3 =>
    rd h r3 100 (wr (10900 + v1)) fun r4 =>
    if 8 ≤ r4 then
      f_X12_readsOrder_163 n v0 v1 h
    else
    gk h v0 12 <|
    bd (f_X12_here n v0 h) fun r6 h6 =>
    if r6 = 59 then
      gf h6 v0 12 5 fun r8 =>
      pf h6 v0 12 5 (wr (r8 + 1)) fun h9 =>
      gk h9 v0 12 <|
      bd (f_X12_reads n v0 v1 h9) fun r10 h10 =>
      rec114  h10
    else
    f_X12_readsOrder_163 n v0 v1 h6
  else
  f_X12_readsOrder_163 n v0 v1 h
noncomputable def f_X12_readsOrder_114 (n : Nat)  (v0 v1 : Int) : Nat → MM → RR
  | 0, _ => none
  | k + 1, h => f_X12_readsOrder_114b n  (f_X12_readsOrder_114 n  v0 v1 k) v0 v1 h
noncomputable def f_X12_readsOrder_29b (n : Nat) (rec29 : Int → MM → RR) (v0 v1 v3 : Int) (h : MM) : RR :=
  gf h v0 12 1 fun r1 =>
  rd h r1 100 4 fun r2 =>
  if r2 ≤ v3 then
    gf h v0 12 1 fun r4 =>
    wt h r4 100 4 0 fun h5 =>
    gf h5 v0 12 1 fun r6 =>
    wt h5 r6 100 (wr (10900 + v1)) 0 fun h7 =>
    pf h7 v0 12 4 v1 fun h8 =>
    pf h8 v0 12 5 0 fun h9 =>
    pf h9 v0 12 7 0 fun h10 =>
    ck (isb 0) <|
    pf h10 v0 12 6 0 fun h11 =>
    gk h11 v0 12 <|
    bd (f_X12_reads n v0 v1 h11) fun r13 h13 =>
    f_X12_readsOrder_114 n v0 v1 n h13
  else
  gf h v0 12 1 fun r14 =>
  gf h v0 12 1 fun r15 =>
  rd h r15 100 (wr (11150 + v3)) fun r16 =>
  wt h r14 100 (wr ((wr (9640 + (wr (140 * v1)))) + v3)) r16 fun h17 =>
  lb (wr (v3 + 1)) fun x18 =>
  rec29 x18 h17
noncomputable def f_X12_readsOrder_29 (n : Nat)  (v0 v1 : Int) : Nat → Int → MM → RR
  | 0, _, _ => none
  | k + 1, v3, h => f_X12_readsOrder_29b n  (f_X12_readsOrder_29 n  v0 v1 k) v0 v1 v3 h
noncomputable def f_X12_readsOrder (n : Nat) (v0 v1 v2 : Int) (h : MM) : RR :=
  gf h v0 12 1 fun r1 =>
  wt h r1 100 (wr (9620 + v1)) v2 fun h2 =>
  gf h2 v0 12 1 fun r3 =>
  gf h2 v0 12 1 fun r4 =>
  rd h2 r4 100 4 fun r5 =>
  wt h2 r3 100 (wr (9630 + v1)) r5 fun h6 =>
  f_X12_readsOrder_29 n v0 v1 n 0 h6
set_option maxRecDepth 20000 in
theorem b_X12_readsOrder_208 {g : GT} {Z : Int × MM} {n : Nat} (C : Cx g cX12_readsOrder 4 yX12_readsOrder 54 1190) (hr : Rt g (some .boolean) 0 Z) {s0 : Int}    (cs0 : in32 s0) {h : MM} (hf : f_X12_readsOrder_208 n  s0 h = some Z) : G g 208 [(3, 0), (3, 0), (3, 0), (3, 0)] [(0, s0)] h := by
  unfold f_X12_readsOrder_208 at hf
  obtain ⟨b1, hf⟩ := ck_s hf
  cases hf
  exact r_zret C hr dX12_readsOrder_208 b1
set_option maxRecDepth 20000 in
theorem b_X12_readsOrder_193 {g : GT} {Z : Int × MM} {n : Nat} (C : Cx g cX12_readsOrder 4 yX12_readsOrder 54 1190) (hr : Rt g (some .boolean) 0 Z) {v0 s0 s1 : Int}    (cs1 : in32 s1) {h : MM} (hf : f_X12_readsOrder_193 n  v0 s0 s1 h = some Z) : G g 193 [(2, v0), (3, 0), (3, 0), (3, 0)] [(0, s1), (2, s0)] h := by
  unfold f_X12_readsOrder_193 at hf
  obtain ⟨b2, hf⟩ := ck_s hf
  obtain ⟨q1, hf⟩ := pf_s hf
  refine r_pf C ct12 (j := 6) (ji := 6) dX12_readsOrder_193 q1 rfl rfl (by decide) w_1431 rfl (Or.inl rfl) (nar_bool (isb_s b2)) cs1 ?_
  refine r_aload_n C dX12_readsOrder_196 rfl ?_
  obtain ⟨q3, hf⟩ := gf_s hf
  refine r_gf C ct12 (j := 6) (ji := 6) dX12_readsOrder_197 q3 rfl rfl (by decide) w_1431 rfl (fun c3 => ?_)
  have c3 : in32 _ := c3
  refine r_if_ne C dX12_readsOrder_200 (tgt := 207) (by decide) c3 (fun n4 => ?_) (fun n4 => ?_)
  · have hf := ite_n n4 hf
    refine r_iconst C dX12_readsOrder_207 ?_
    exact G.mask [false, false, false, false] rfl rfl (b_X12_readsOrder_208 C hr  (in32_of rfl) hf)
  · have hf := ite_p n4 hf
    refine r_iconst C dX12_readsOrder_203 ?_
    refine r_goto C dX12_readsOrder_204 (tgt := 208) (by decide) ?_
    exact G.mask [false, false, false, false] rfl rfl (b_X12_readsOrder_208 C hr  (in32_of rfl) hf)
set_option maxRecDepth 20000 in
theorem b_X12_readsOrder_188 {g : GT} {Z : Int × MM} {n : Nat} (C : Cx g cX12_readsOrder 4 yX12_readsOrder 54 1190) (hr : Rt g (some .boolean) 0 Z) {v0 s0 : Int}     {h : MM} (hf : f_X12_readsOrder_188 n  v0 s0 h = some Z) : G g 188 [(2, v0), (3, 0), (3, 0), (3, 0)] [(2, s0)] h := by
  unfold f_X12_readsOrder_188 at hf
  refine r_iconst C dX12_readsOrder_188 ?_
  refine r_goto C dX12_readsOrder_189 (tgt := 193) (by decide) ?_
  exact G.mask [true, false, false, false] rfl rfl (b_X12_readsOrder_193 C hr  (in32_of rfl) hf)
set_option maxRecDepth 20000 in
theorem b_X12_readsOrder_163 {g : GT} {Z : Int × MM} {n : Nat} (C : Cx g cX12_readsOrder 4 yX12_readsOrder 54 1190) (hr : Rt g (some .boolean) 0 Z) {v0 v1 : Int}    (cv1 : in32 v1) {h : MM} (hf : f_X12_readsOrder_163 n  v0 v1 h = some Z) : G g 163 [(2, v0), (0, v1), (3, 0), (3, 0)] [] h := by
  unfold f_X12_readsOrder_163 at hf
  refine r_aload_n C dX12_readsOrder_163 rfl ?_
  refine r_aload_n C dX12_readsOrder_164 rfl ?_
  obtain ⟨q1, hf⟩ := gf_s hf
  refine r_gf C ct12 (j := 6) (ji := 6) dX12_readsOrder_165 q1 rfl rfl (by decide) w_1431 rfl (fun c1 => ?_)
  have c1 : in32 _ := c1
  refine r_if_ne C dX12_readsOrder_168 (tgt := 188) (by decide) c1 (fun n2 => ?_) (fun n2 => ?_)
  · have hf := ite_n n2 hf
    exact G.mask [true, false, false, false] rfl rfl (b_X12_readsOrder_188 C hr   hf)
  · have hf := ite_p n2 hf
    refine r_aload_n C dX12_readsOrder_171 rfl ?_
    obtain ⟨q3, hf⟩ := gf_s hf
    refine r_gf C ct12 (j := 5) (ji := 5) dX12_readsOrder_172 q3 rfl rfl (by decide) w_1430 rfl (fun c3 => ?_)
    have c3 : in32 _ := c3
    refine r_aload_n C dX12_readsOrder_175 rfl ?_
    obtain ⟨q4, hf⟩ := gf_s hf
    refine r_gf C ct12 (j := 1) (ji := 1) dX12_readsOrder_176 q4 rfl rfl (by decide) w_1426 rfl (fun c4 => ?_)
    refine r_sipush C dX12_readsOrder_179 rfl ?_
    refine r_iload_n C dX12_readsOrder_182 rfl ?_
    refine r_iadd C dX12_readsOrder_183 ?_
    obtain ⟨q5, hf⟩ := rd_s hf
    refine r_iald C dX12_readsOrder_184 q5 rfl (fun c5 => ?_)
    refine r_icmp_eq C dX12_readsOrder_185 (tgt := 192) (by decide) c3 c5 (fun n6 => ?_) (fun n6 => ?_)
    · have hf := ite_p n6 hf
      refine r_iconst C dX12_readsOrder_192 ?_
      exact G.mask [true, false, false, false] rfl rfl (b_X12_readsOrder_193 C hr  (in32_of rfl) hf)
    · have hf := ite_n n6 hf
      exact G.mask [true, false, false, false] rfl rfl (b_X12_readsOrder_188 C hr   hf)
set_option maxRecDepth 20000 in
theorem b_X12_readsOrder_114b {g : GT} {Z : Int × MM} {n : Nat} (C : Cx g cX12_readsOrder 4 yX12_readsOrder 54 1190) (hr : Rt g (some .boolean) 0 Z) {v0 v1 : Int}  {rec114 : MM → RR} (L114 : ∀ (h : MM), rec114  h = some Z → G g 114 [(2, v0), (0, v1), (3, 0), (3, 0)] [] h) (cv1 : in32 v1) {h : MM} (hf : f_X12_readsOrder_114b n rec114 v0 v1 h = some Z) : G g 114 [(2, v0), (0, v1), (3, 0), (3, 0)] [] h := by
  unfold f_X12_readsOrder_114b at hf
  refine r_aload_n C dX12_readsOrder_114 rfl ?_
  obtain ⟨q1, hf⟩ := gf_s hf
  refine r_gf C ct12 (j := 6) (ji := 6) dX12_readsOrder_115 q1 rfl rfl (by decide) w_1431 rfl (fun c1 => ?_)
  have c1 : in32 _ := c1
  refine r_if_ne C dX12_readsOrder_118 (tgt := 163) (by decide) c1 (fun n2 => ?_) (fun n2 => ?_)
  · have hf := ite_n n2 hf
    exact G.mask [true, true, false, false] rfl rfl (b_X12_readsOrder_163 C hr  cv1 hf)
  · have hf := ite_p n2 hf
    refine r_aload_n C dX12_readsOrder_121 rfl ?_
    obtain ⟨q3, hf⟩ := gf_s hf
    refine r_gf C ct12 (j := 1) (ji := 1) dX12_readsOrder_122 q3 rfl rfl (by decide) w_1426 rfl (fun c3 => ?_)
    refine r_sipush C dX12_readsOrder_125 rfl ?_
    refine r_iload_n C dX12_readsOrder_128 rfl ?_
    refine r_iadd C dX12_readsOrder_129 ?_
    obtain ⟨q4, hf⟩ := rd_s hf
    refine r_iald C dX12_readsOrder_130 q4 rfl (fun c4 => ?_)
    refine r_bipush C dX12_readsOrder_131 rfl ?_
    refine r_icmp_ge C dX12_readsOrder_133 (tgt := 163) (by decide) c4 (in32_of rfl) (fun n5 => ?_) (fun n5 => ?_)
    · have hf := ite_p n5 hf
      exact G.mask [true, true, false, false] rfl rfl (b_X12_readsOrder_163 C hr  cv1 hf)
    · have hf := ite_n n5 hf
      refine r_aload_n C dX12_readsOrder_136 rfl ?_
      obtain ⟨p6, hf⟩ := gk_s hf
      obtain ⟨r6, h6, hq6, hf⟩ := bd_s hf
      refine r_cV0 C (am_X12_here (gl g) n) cm_X12_here w_1551 dX12_readsOrder_137 ⟨Nat.le_of_ble_eq_true rfl, Nat.le_of_ble_eq_true rfl⟩ p6 rfl  rfl (Nat.le_of_ble_eq_true rfl) hq6 (by decide) (fun c6 => ?_)
      have c6 : in32 _ := c6
      refine r_bipush C dX12_readsOrder_140 rfl ?_
      refine r_icmp_ne C dX12_readsOrder_142 (tgt := 163) (by decide) c6 (in32_of rfl) (fun n7 => ?_) (fun n7 => ?_)
      · have hf := ite_n n7 hf
        exact G.mask [true, true, false, false] rfl rfl (b_X12_readsOrder_163 C hr  cv1 hf)
      · have hf := ite_p n7 hf
        refine r_aload_n C dX12_readsOrder_145 rfl ?_
        refine r_dup C dX12_readsOrder_146 (by decide) ?_
        obtain ⟨q8, hf⟩ := gf_s hf
        refine r_gf C ct12 (j := 5) (ji := 5) dX12_readsOrder_147 q8 rfl rfl (by decide) w_1430 rfl (fun c8 => ?_)
        have c8 : in32 _ := c8
        refine r_iconst C dX12_readsOrder_150 ?_
        refine r_iadd C dX12_readsOrder_151 ?_
        obtain ⟨q9, hf⟩ := pf_s hf
        refine r_pf C ct12 (j := 5) (ji := 5) dX12_readsOrder_152 q9 rfl rfl (by decide) w_1430 rfl (Or.inl rfl) nar_int (in32_t _) ?_
        refine r_aload_n C dX12_readsOrder_155 rfl ?_
        refine r_iload_n C dX12_readsOrder_156 rfl ?_
        obtain ⟨p10, hf⟩ := gk_s hf
        obtain ⟨r10, h10, hq10, hf⟩ := bd_s hf
        refine r_cV1v C (am_X12_reads (gl g) n) cm_X12_reads w_1531 dX12_readsOrder_157 ⟨Nat.le_of_ble_eq_true rfl, Nat.le_of_ble_eq_true rfl⟩ p10 rfl cv1 rfl (Nat.le_of_ble_eq_true rfl) hq10 ?_
        refine r_goto C dX12_readsOrder_160 (tgt := 114) (by decide) ?_
        exact G.mask [true, true, false, false] rfl rfl (L114 _  hf)
set_option maxRecDepth 20000 in
theorem l_X12_readsOrder_114 {g : GT} {Z : Int × MM} {n : Nat} (C : Cx g cX12_readsOrder 4 yX12_readsOrder 54 1190) (hr : Rt g (some .boolean) 0 Z) {v0 v1 : Int}   (cv1 : in32 v1) : ∀ (k : Nat) (h : MM), f_X12_readsOrder_114 n  v0 v1 k  h = some Z → G g 114 [(2, v0), (0, v1), (3, 0), (3, 0)] [] h := by
  intro k
  induction k with
  | zero => intro h hf; exact absurd hf (by intro z; cases z)
  | succ k ih => intro h hf; exact b_X12_readsOrder_114b C hr (rec114 := f_X12_readsOrder_114 n  v0 v1 k)  ih cv1 (show f_X12_readsOrder_114b n  (f_X12_readsOrder_114 n  v0 v1 k) v0 v1 h = some Z from hf)
set_option maxRecDepth 20000 in
theorem b_X12_readsOrder_29b {g : GT} {Z : Int × MM} {n : Nat} (C : Cx g cX12_readsOrder 4 yX12_readsOrder 54 1190) (hr : Rt g (some .boolean) 0 Z) {v0 v1 v3 : Int}  {rec29 : Int → MM → RR} (L29 : ∀ (u3 : Int) (h : MM), in32 u3 → rec29 u3 h = some Z → G g 29 [(2, v0), (0, v1), (3, 0), (0, u3)] [] h) (cv1 : in32 v1) (cv3 : in32 v3) {h : MM} (hf : f_X12_readsOrder_29b n rec29 v0 v1 v3 h = some Z) : G g 29 [(2, v0), (0, v1), (3, 0), (0, v3)] [] h := by
  unfold f_X12_readsOrder_29b at hf
  refine r_iload_n C dX12_readsOrder_29 rfl ?_
  refine r_aload_n C dX12_readsOrder_30 rfl ?_
  obtain ⟨q1, hf⟩ := gf_s hf
  refine r_gf C ct12 (j := 1) (ji := 1) dX12_readsOrder_31 q1 rfl rfl (by decide) w_1426 rfl (fun c1 => ?_)
  refine r_iconst C dX12_readsOrder_34 ?_
  obtain ⟨q2, hf⟩ := rd_s hf
  refine r_iald C dX12_readsOrder_35 q2 rfl (fun c2 => ?_)
  refine r_icmp_ge C dX12_readsOrder_36 (tgt := 71) (by decide) cv3 c2 (fun n3 => ?_) (fun n3 => ?_)
  · have hf := ite_p n3 hf
    refine r_aload_n C dX12_readsOrder_71 rfl ?_
    obtain ⟨q4, hf⟩ := gf_s hf
    refine r_gf C ct12 (j := 1) (ji := 1) dX12_readsOrder_72 q4 rfl rfl (by decide) w_1426 rfl (fun c4 => ?_)
    refine r_iconst C dX12_readsOrder_75 ?_
    refine r_iconst C dX12_readsOrder_76 ?_
    obtain ⟨q5, hf⟩ := wt_s hf
    refine r_iast C dX12_readsOrder_77 q5 rfl (in32_of rfl) ?_
    refine r_aload_n C dX12_readsOrder_78 rfl ?_
    obtain ⟨q6, hf⟩ := gf_s hf
    refine r_gf C ct12 (j := 1) (ji := 1) dX12_readsOrder_79 q6 rfl rfl (by decide) w_1426 rfl (fun c6 => ?_)
    refine r_sipush C dX12_readsOrder_82 rfl ?_
    refine r_iload_n C dX12_readsOrder_85 rfl ?_
    refine r_iadd C dX12_readsOrder_86 ?_
    refine r_iconst C dX12_readsOrder_87 ?_
    obtain ⟨q7, hf⟩ := wt_s hf
    refine r_iast C dX12_readsOrder_88 q7 rfl (in32_of rfl) ?_
    refine r_aload_n C dX12_readsOrder_89 rfl ?_
    refine r_iload_n C dX12_readsOrder_90 rfl ?_
    obtain ⟨q8, hf⟩ := pf_s hf
    refine r_pf C ct12 (j := 4) (ji := 4) dX12_readsOrder_91 q8 rfl rfl (by decide) w_1429 rfl (Or.inl rfl) nar_int cv1 ?_
    refine r_aload_n C dX12_readsOrder_94 rfl ?_
    refine r_iconst C dX12_readsOrder_95 ?_
    obtain ⟨q9, hf⟩ := pf_s hf
    refine r_pf C ct12 (j := 5) (ji := 5) dX12_readsOrder_96 q9 rfl rfl (by decide) w_1430 rfl (Or.inl rfl) nar_int (in32_of rfl) ?_
    refine r_aload_n C dX12_readsOrder_99 rfl ?_
    refine r_iconst C dX12_readsOrder_100 ?_
    obtain ⟨q10, hf⟩ := pf_s hf
    refine r_pf C ct12 (j := 7) (ji := 7) dX12_readsOrder_101 q10 rfl rfl (by decide) w_1432 rfl (Or.inl rfl) nar_int (in32_of rfl) ?_
    refine r_aload_n C dX12_readsOrder_104 rfl ?_
    refine r_iconst C dX12_readsOrder_105 ?_
    obtain ⟨b12, hf⟩ := ck_s hf
    obtain ⟨q11, hf⟩ := pf_s hf
    refine r_pf C ct12 (j := 6) (ji := 6) dX12_readsOrder_106 q11 rfl rfl (by decide) w_1431 rfl (Or.inl rfl) (nar_bool (isb_s b12)) (in32_of rfl) ?_
    refine r_aload_n C dX12_readsOrder_109 rfl ?_
    refine r_iload_n C dX12_readsOrder_110 rfl ?_
    obtain ⟨p13, hf⟩ := gk_s hf
    obtain ⟨r13, h13, hq13, hf⟩ := bd_s hf
    refine r_cV1v C (am_X12_reads (gl g) n) cm_X12_reads w_1531 dX12_readsOrder_111 ⟨Nat.le_of_ble_eq_true rfl, Nat.le_of_ble_eq_true rfl⟩ p13 rfl cv1 rfl (Nat.le_of_ble_eq_true rfl) hq13 ?_
    exact G.mask [true, true, false, false] rfl rfl (l_X12_readsOrder_114 C hr  cv1 _ _  hf)
  · have hf := ite_n n3 hf
    refine r_aload_n C dX12_readsOrder_39 rfl ?_
    obtain ⟨q14, hf⟩ := gf_s hf
    refine r_gf C ct12 (j := 1) (ji := 1) dX12_readsOrder_40 q14 rfl rfl (by decide) w_1426 rfl (fun c14 => ?_)
    refine r_sipush C dX12_readsOrder_43 rfl ?_
    refine r_sipush C dX12_readsOrder_46 rfl ?_
    refine r_iload_n C dX12_readsOrder_49 rfl ?_
    refine r_imul C dX12_readsOrder_50 ?_
    refine r_iadd C dX12_readsOrder_51 ?_
    refine r_iload_n C dX12_readsOrder_52 rfl ?_
    refine r_iadd C dX12_readsOrder_53 ?_
    refine r_aload_n C dX12_readsOrder_54 rfl ?_
    obtain ⟨q15, hf⟩ := gf_s hf
    refine r_gf C ct12 (j := 1) (ji := 1) dX12_readsOrder_55 q15 rfl rfl (by decide) w_1426 rfl (fun c15 => ?_)
    refine r_sipush C dX12_readsOrder_58 rfl ?_
    refine r_iload_n C dX12_readsOrder_61 rfl ?_
    refine r_iadd C dX12_readsOrder_62 ?_
    obtain ⟨q16, hf⟩ := rd_s hf
    refine r_iald C dX12_readsOrder_63 q16 rfl (fun c16 => ?_)
    obtain ⟨q17, hf⟩ := wt_s hf
    refine r_iast C dX12_readsOrder_64 q17 rfl c16 ?_
    obtain ⟨x18, e18, hf⟩ := lb_s hf
    have c18 : in32 x18 := by rw [e18]; exact (in32_t _)
    refine r_iincL C dX12_readsOrder_65 rfl e18 (Nat.le_of_ble_eq_true rfl) rfl ?_
    refine r_goto C dX12_readsOrder_68 (tgt := 29) (by decide) ?_
    exact G.mask [true, true, false, true] rfl rfl (L29 _ _ c18 hf)
set_option maxRecDepth 20000 in
theorem l_X12_readsOrder_29 {g : GT} {Z : Int × MM} {n : Nat} (C : Cx g cX12_readsOrder 4 yX12_readsOrder 54 1190) (hr : Rt g (some .boolean) 0 Z) {v0 v1 : Int}   (cv1 : in32 v1) : ∀ (k : Nat) (v3 : Int) (h : MM), in32 v3 → f_X12_readsOrder_29 n  v0 v1 k v3 h = some Z → G g 29 [(2, v0), (0, v1), (3, 0), (0, v3)] [] h := by
  intro k
  induction k with
  | zero => intro v3 h cv3 hf; exact absurd hf (by intro z; cases z)
  | succ k ih => intro v3 h cv3 hf; exact b_X12_readsOrder_29b C hr (rec29 := f_X12_readsOrder_29 n  v0 v1 k)  ih cv1 cv3 (show f_X12_readsOrder_29b n  (f_X12_readsOrder_29 n  v0 v1 k) v0 v1 v3 h = some Z from hf)
set_option maxRecDepth 20000 in
theorem e_X12_readsOrder {g : GT} {Z : Int × MM} {n : Nat} (C : Cx g cX12_readsOrder 4 yX12_readsOrder 54 1190) (hr : Rt g (some .boolean) 0 Z) {v0 v1 v2 : Int} (cv0 : cK 2 v0) (cv1 : cK 0 v1) (cv2 : cK 0 v2) {h : MM} (hf : f_X12_readsOrder n v0 v1 v2 h = some Z) : G g 0 [(2, v0), (0, v1), (0, v2), (3, 0)] [] h := by
  have cv1 : in32 v1 := cv1
  have cv2 : in32 v2 := cv2
  unfold f_X12_readsOrder at hf
  refine r_aload_n C dX12_readsOrder_0 rfl ?_
  obtain ⟨q1, hf⟩ := gf_s hf
  refine r_gf C ct12 (j := 1) (ji := 1) dX12_readsOrder_1 q1 rfl rfl (by decide) w_1426 rfl (fun c1 => ?_)
  refine r_sipush C dX12_readsOrder_4 rfl ?_
  refine r_iload_n C dX12_readsOrder_7 rfl ?_
  refine r_iadd C dX12_readsOrder_8 ?_
  refine r_iload_n C dX12_readsOrder_9 rfl ?_
  obtain ⟨q2, hf⟩ := wt_s hf
  refine r_iast C dX12_readsOrder_10 q2 rfl cv2 ?_
  refine r_aload_n C dX12_readsOrder_11 rfl ?_
  obtain ⟨q3, hf⟩ := gf_s hf
  refine r_gf C ct12 (j := 1) (ji := 1) dX12_readsOrder_12 q3 rfl rfl (by decide) w_1426 rfl (fun c3 => ?_)
  refine r_sipush C dX12_readsOrder_15 rfl ?_
  refine r_iload_n C dX12_readsOrder_18 rfl ?_
  refine r_iadd C dX12_readsOrder_19 ?_
  refine r_aload_n C dX12_readsOrder_20 rfl ?_
  obtain ⟨q4, hf⟩ := gf_s hf
  refine r_gf C ct12 (j := 1) (ji := 1) dX12_readsOrder_21 q4 rfl rfl (by decide) w_1426 rfl (fun c4 => ?_)
  refine r_iconst C dX12_readsOrder_24 ?_
  obtain ⟨q5, hf⟩ := rd_s hf
  refine r_iald C dX12_readsOrder_25 q5 rfl (fun c5 => ?_)
  obtain ⟨q6, hf⟩ := wt_s hf
  refine r_iast C dX12_readsOrder_26 q6 rfl c5 ?_
  refine r_iconst C dX12_readsOrder_27 ?_
  refine r_istore_n C dX12_readsOrder_28 (Nat.le_of_ble_eq_true rfl) rfl ?_
  exact G.mask [true, true, false, true] rfl rfl (l_X12_readsOrder_29 C hr  cv1 _ _ _ (in32_of rfl) hf)
set_option maxRecDepth 20000 in
theorem am_X12_readsOrder (l : Launch) (n : Nat) : AM l yX12_readsOrder cX12_readsOrder 4 (some .boolean) 54 1190 [2, 0, 0] 0 (un3 (f_X12_readsOrder n)) := by
  refine AM.intro (by decide) (fun xs hx => ?_) (fun g xs h Z hl C hr hx hf => ?_)
  · obtain ⟨a0, a1, a2, rfl, c0, c1, c2⟩ := canL_3 hx
    exact Nat.le_of_ble_eq_true rfl
  · obtain ⟨a0, a1, a2, rfl, c0, c1, c2⟩ := canL_3 hx
    have hf := (un3_e _ a0 a1 a2 _).symm.trans hf
    exact e_X12_readsOrder (n := n) C hr c0 c1 c2 hf
/-! LinesPromisedModel.text(I)I -/
theorem dX12_text_0 : decode cX12_text 0 = .ok (.iload_n 1, 1) := by decide +kernel
theorem dX12_text_1 : decode cX12_text 1 = .ok (.invokestatic 141, 3) := by decide +kernel
theorem dX12_text_4 : decode cX12_text 4 = .ok (.ifCond .ne 6, 3) := by decide +kernel
theorem dX12_text_7 : decode cX12_text 7 = .ok (.bipush (-2), 2) := by decide +kernel
theorem dX12_text_9 : decode cX12_text 9 = .ok (.ireturn, 1) := by decide +kernel
theorem dX12_text_10 : decode cX12_text 10 = .ok (.aload_n 0, 1) := by decide +kernel
theorem dX12_text_11 : decode cX12_text 11 = .ok (.getfield 8, 3) := by decide +kernel
theorem dX12_text_14 : decode cX12_text 14 = .ok (.iconst 3, 1) := by decide +kernel
theorem dX12_text_15 : decode cX12_text 15 = .ok (.iaload, 1) := by decide +kernel
theorem dX12_text_16 : decode cX12_text 16 = .ok (.bipush 8, 2) := by decide +kernel
theorem dX12_text_18 : decode cX12_text 18 = .ok (.if_icmp .ne 6, 3) := by decide +kernel
theorem dX12_text_21 : decode cX12_text 21 = .ok (.bipush (-4), 2) := by decide +kernel
theorem dX12_text_23 : decode cX12_text 23 = .ok (.ireturn, 1) := by decide +kernel
theorem dX12_text_24 : decode cX12_text 24 = .ok (.aload_n 0, 1) := by decide +kernel
theorem dX12_text_25 : decode cX12_text 25 = .ok (.aload_n 0, 1) := by decide +kernel
theorem dX12_text_26 : decode cX12_text 26 = .ok (.getfield 8, 3) := by decide +kernel
theorem dX12_text_29 : decode cX12_text 29 = .ok (.iconst 3, 1) := by decide +kernel
theorem dX12_text_30 : decode cX12_text 30 = .ok (.iaload, 1) := by decide +kernel
theorem dX12_text_31 : decode cX12_text 31 = .ok (.iload_n 1, 1) := by decide +kernel
theorem dX12_text_32 : decode cX12_text 32 = .ok (.invokevirtual 144, 3) := by decide +kernel
theorem dX12_text_35 : decode cX12_text 35 = .ok (.ifCond .ne 11, 3) := by decide +kernel
theorem dX12_text_38 : decode cX12_text 38 = .ok (.bipush (-10), 2) := by decide +kernel
theorem dX12_text_40 : decode cX12_text 40 = .ok (.aload_n 0, 1) := by decide +kernel
theorem dX12_text_41 : decode cX12_text 41 = .ok (.getfield 75, 3) := by decide +kernel
theorem dX12_text_44 : decode cX12_text 44 = .ok (.isub, 1) := by decide +kernel
theorem dX12_text_45 : decode cX12_text 45 = .ok (.ireturn, 1) := by decide +kernel
theorem dX12_text_46 : decode cX12_text 46 = .ok (.aload_n 0, 1) := by decide +kernel
theorem dX12_text_47 : decode cX12_text 47 = .ok (.getfield 8, 3) := by decide +kernel
theorem dX12_text_50 : decode cX12_text 50 = .ok (.iconst 3, 1) := by decide +kernel
theorem dX12_text_51 : decode cX12_text 51 = .ok (.dup2, 1) := by decide +kernel
theorem dX12_text_52 : decode cX12_text 52 = .ok (.iaload, 1) := by decide +kernel
theorem dX12_text_53 : decode cX12_text 53 = .ok (.iconst 1, 1) := by decide +kernel
theorem dX12_text_54 : decode cX12_text 54 = .ok (.iadd, 1) := by decide +kernel
theorem dX12_text_55 : decode cX12_text 55 = .ok (.iastore, 1) := by decide +kernel
theorem dX12_text_56 : decode cX12_text 56 = .ok (.aload_n 0, 1) := by decide +kernel
theorem dX12_text_57 : decode cX12_text 57 = .ok (.getfield 8, 3) := by decide +kernel
theorem dX12_text_60 : decode cX12_text 60 = .ok (.iconst 3, 1) := by decide +kernel
theorem dX12_text_61 : decode cX12_text 61 = .ok (.iaload, 1) := by decide +kernel
theorem dX12_text_62 : decode cX12_text 62 = .ok (.iconst 1, 1) := by decide +kernel
theorem dX12_text_63 : decode cX12_text 63 = .ok (.isub, 1) := by decide +kernel
theorem dX12_text_64 : decode cX12_text 64 = .ok (.ireturn, 1) := by decide +kernel
theorem cm_X12_text : CM yX12_text cX12_text 2 (some .int) 1 12 := ⟨w_1521, w_1522, w_1523, w_97, ⟨by decide +kernel, by decide +kernel, by decide +kernel⟩, ⟨_, _, rfl⟩, by decide⟩
noncomputable def f_X12_text (n : Nat) (v0 v1 : Int) (h : MM) : RR :=
  bd (f_X12_isDay n v1 h) fun r1 h1 =>
  if r1 = 0 then
    some ((-2), h1)
  else
  gf h1 v0 12 1 fun r3 =>
  rd h1 r3 100 3 fun r4 =>
  if r4 = 8 then
    some ((-4), h1)
  else
  gf h1 v0 12 1 fun r6 =>
  rd h1 r6 100 3 fun r7 =>
  gk h1 v0 12 <|
  bd (f_X12_readsOrder n v0 r7 v1 h1) fun r8 h8 =>
  if r8 = 0 then
    gf h8 v0 12 5 fun r15 =>
    some (wr (((-10)) - r15), h8)
  else
  gf h8 v0 12 1 fun r10 =>
  rd h8 r10 100 3 fun r11 =>
  wt h8 r10 100 3 (wr (r11 + 1)) fun h12 =>
  gf h12 v0 12 1 fun r13 =>
  rd h12 r13 100 3 fun r14 =>
  some (wr (r14 - 1), h12)
set_option maxRecDepth 20000 in
theorem e_X12_text {g : GT} {Z : Int × MM} {n : Nat} (C : Cx g cX12_text 2 yX12_text 55 1213) (hr : Rt g (some .int) 0 Z) {v0 v1 : Int} (cv0 : cK 2 v0) (cv1 : cK 0 v1) {h : MM} (hf : f_X12_text n v0 v1 h = some Z) : G g 0 [(2, v0), (0, v1)] [] h := by
  have cv1 : in32 v1 := cv1
  unfold f_X12_text at hf
  refine r_iload_n C dX12_text_0 rfl ?_
  obtain ⟨r1, h1, hq1, hf⟩ := bd_s hf
  refine r_cS1 C (am_X12_isDay (gl g) n) cm_X12_isDay w_1524 dX12_text_1 ⟨Nat.le_of_ble_eq_true rfl, Nat.le_of_ble_eq_true rfl⟩ cv1 rfl (Nat.le_of_ble_eq_true rfl) hq1 (by decide) (fun c1 => ?_)
  have c1 : in32 _ := c1
  refine r_if_ne C dX12_text_4 (tgt := 10) (by decide) c1 (fun n2 => ?_) (fun n2 => ?_)
  · have hf := ite_n n2 hf
    refine r_aload_n C dX12_text_10 rfl ?_
    obtain ⟨q3, hf⟩ := gf_s hf
    refine r_gf C ct12 (j := 1) (ji := 1) dX12_text_11 q3 rfl rfl (by decide) w_1426 rfl (fun c3 => ?_)
    refine r_iconst C dX12_text_14 ?_
    obtain ⟨q4, hf⟩ := rd_s hf
    refine r_iald C dX12_text_15 q4 rfl (fun c4 => ?_)
    refine r_bipush C dX12_text_16 rfl ?_
    refine r_icmp_ne C dX12_text_18 (tgt := 24) (by decide) c4 (in32_of rfl) (fun n5 => ?_) (fun n5 => ?_)
    · have hf := ite_n n5 hf
      refine r_aload_n C dX12_text_24 rfl ?_
      refine r_aload_n C dX12_text_25 rfl ?_
      obtain ⟨q6, hf⟩ := gf_s hf
      refine r_gf C ct12 (j := 1) (ji := 1) dX12_text_26 q6 rfl rfl (by decide) w_1426 rfl (fun c6 => ?_)
      refine r_iconst C dX12_text_29 ?_
      obtain ⟨q7, hf⟩ := rd_s hf
      refine r_iald C dX12_text_30 q7 rfl (fun c7 => ?_)
      refine r_iload_n C dX12_text_31 rfl ?_
      obtain ⟨p8, hf⟩ := gk_s hf
      obtain ⟨r8, h8, hq8, hf⟩ := bd_s hf
      refine r_cV2 C (am_X12_readsOrder (gl g) n) cm_X12_readsOrder w_1527 dX12_text_32 ⟨Nat.le_of_ble_eq_true rfl, Nat.le_of_ble_eq_true rfl⟩ p8 rfl c7 cv1 rfl (Nat.le_of_ble_eq_true rfl) hq8 (by decide) (fun c8 => ?_)
      have c8 : in32 _ := c8
      refine r_if_ne C dX12_text_35 (tgt := 46) (by decide) c8 (fun n9 => ?_) (fun n9 => ?_)
      · have hf := ite_n n9 hf
        refine r_aload_n C dX12_text_46 rfl ?_
        obtain ⟨q10, hf⟩ := gf_s hf
        refine r_gf C ct12 (j := 1) (ji := 1) dX12_text_47 q10 rfl rfl (by decide) w_1426 rfl (fun c10 => ?_)
        refine r_iconst C dX12_text_50 ?_
        refine r_dup2 C dX12_text_51 (by decide) (by decide) ?_
        obtain ⟨q11, hf⟩ := rd_s hf
        refine r_iald C dX12_text_52 q11 rfl (fun c11 => ?_)
        refine r_iconst C dX12_text_53 ?_
        refine r_iadd C dX12_text_54 ?_
        obtain ⟨q12, hf⟩ := wt_s hf
        refine r_iast C dX12_text_55 q12 rfl (in32_t _) ?_
        refine r_aload_n C dX12_text_56 rfl ?_
        obtain ⟨q13, hf⟩ := gf_s hf
        refine r_gf C ct12 (j := 1) (ji := 1) dX12_text_57 q13 rfl rfl (by decide) w_1426 rfl (fun c13 => ?_)
        refine r_iconst C dX12_text_60 ?_
        obtain ⟨q14, hf⟩ := rd_s hf
        refine r_iald C dX12_text_61 q14 rfl (fun c14 => ?_)
        refine r_iconst C dX12_text_62 ?_
        refine r_isub C dX12_text_63 ?_
        cases hf
        exact r_jret C hr dX12_text_64 (in32_t _)
      · have hf := ite_p n9 hf
        refine r_bipush C dX12_text_38 rfl ?_
        refine r_aload_n C dX12_text_40 rfl ?_
        obtain ⟨q15, hf⟩ := gf_s hf
        refine r_gf C ct12 (j := 5) (ji := 5) dX12_text_41 q15 rfl rfl (by decide) w_1430 rfl (fun c15 => ?_)
        have c15 : in32 _ := c15
        refine r_isub C dX12_text_44 ?_
        cases hf
        exact r_jret C hr dX12_text_45 (in32_t _)
    · have hf := ite_p n5 hf
      refine r_bipush C dX12_text_21 rfl ?_
      cases hf
      exact r_jret C hr dX12_text_23 (in32_of rfl)
  · have hf := ite_p n2 hf
    refine r_bipush C dX12_text_7 rfl ?_
    cases hf
    exact r_jret C hr dX12_text_9 (in32_of rfl)
set_option maxRecDepth 20000 in
theorem am_X12_text (l : Launch) (n : Nat) : AM l yX12_text cX12_text 2 (some .int) 55 1213 [2, 0] 0 (un2 (f_X12_text n)) := by
  refine AM.intro (by decide) (fun xs hx => ?_) (fun g xs h Z hl C hr hx hf => ?_)
  · obtain ⟨a0, a1, rfl, c0, c1⟩ := canL_2 hx
    exact Nat.le_of_ble_eq_true rfl
  · obtain ⟨a0, a1, rfl, c0, c1⟩ := canL_2 hx
    have hf := (un2_e _ a0 a1 _).symm.trans hf
    exact e_X12_text (n := n) C hr c0 c1 hf
