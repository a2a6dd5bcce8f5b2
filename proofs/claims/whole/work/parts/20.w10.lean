theorem w_1639 : (Cond.methodLink "LinesPromisedModel" 190 ⟨"LinesPromisedModel", "yardsOf", "(I)I"⟩) ∈ wG := wG_in 1639 (by decide +kernel) (by decide +kernel)
theorem w_1638 : (Cond.code ⟨"LinesPromisedModel", "way", "(II)I"⟩ prog_14_method_42_code 3 (some .int)) ∈ wG := wG_in 1638 (by decide +kernel) (by decide +kernel)
theorem w_1636 : (Cond.instanceMethod ⟨"LinesPromisedModel", "way", "(II)I"⟩) ∈ wG := wG_in 1636 (by decide +kernel) (by decide +kernel)
theorem w_1637 : (Cond.selects "LinesPromisedModel" ⟨"LinesPromisedModel", "way", "(II)I"⟩ ⟨"LinesPromisedModel", "way", "(II)I"⟩) ∈ wG := wG_in 1637 (by decide +kernel) (by decide +kernel)
theorem w_1653 : (Cond.code ⟨"LinesPromisedModel", "level", "(II)I"⟩ prog_14_method_43_code 3 (some .int)) ∈ wG := wG_in 1653 (by decide +kernel) (by decide +kernel)
theorem w_1651 : (Cond.instanceMethod ⟨"LinesPromisedModel", "level", "(II)I"⟩) ∈ wG := wG_in 1651 (by decide +kernel) (by decide +kernel)
theorem w_1652 : (Cond.selects "LinesPromisedModel" ⟨"LinesPromisedModel", "level", "(II)I"⟩ ⟨"LinesPromisedModel", "level", "(II)I"⟩) ∈ wG := wG_in 1652 (by decide +kernel) (by decide +kernel)
theorem w_1661 : (Cond.code ⟨"LinesPromisedModel", "notClose", "(II)I"⟩ prog_14_method_44_code 5 (some .int)) ∈ wG := wG_in 1661 (by decide +kernel) (by decide +kernel)
theorem w_1660 : (Cond.instanceMethod ⟨"LinesPromisedModel", "notClose", "(II)I"⟩) ∈ wG := wG_in 1660 (by decide +kernel) (by decide +kernel)
theorem w_63 : (Cond.selects "LinesPromisedModel" ⟨"LinesPromisedModel", "notClose", "(II)I"⟩ ⟨"LinesPromisedModel", "notClose", "(II)I"⟩) ∈ wG := wG_in 63 (by decide +kernel) (by decide +kernel)
theorem w_1665 : (Cond.code ⟨"LinesPromisedModel", "steep", "(II)I"⟩ prog_14_method_45_code 4 (some .int)) ∈ wG := wG_in 1665 (by decide +kernel) (by decide +kernel)
theorem w_1664 : (Cond.instanceMethod ⟨"LinesPromisedModel", "steep", "(II)I"⟩) ∈ wG := wG_in 1664 (by decide +kernel) (by decide +kernel)
theorem w_64 : (Cond.selects "LinesPromisedModel" ⟨"LinesPromisedModel", "steep", "(II)I"⟩ ⟨"LinesPromisedModel", "steep", "(II)I"⟩) ∈ wG := wG_in 64 (by decide +kernel) (by decide +kernel)
theorem w_1662 : (Cond.methodLink "LinesPromisedModel" 196 ⟨"LinesPromisedModel", "steep", "(II)I"⟩) ∈ wG := wG_in 1662 (by decide +kernel) (by decide +kernel)
theorem w_1658 : (Cond.methodLink "LinesPromisedModel" 193 ⟨"LinesPromisedModel", "notClose", "(II)I"⟩) ∈ wG := wG_in 1658 (by decide +kernel) (by decide +kernel)
theorem w_1657 : (Cond.code ⟨"LinesPromisedModel", "close", "(III)I"⟩ prog_14_method_46_code 4 (some .int)) ∈ wG := wG_in 1657 (by decide +kernel) (by decide +kernel)
theorem w_1655 : (Cond.instanceMethod ⟨"LinesPromisedModel", "close", "(III)I"⟩) ∈ wG := wG_in 1655 (by decide +kernel) (by decide +kernel)
theorem w_1656 : (Cond.selects "LinesPromisedModel" ⟨"LinesPromisedModel", "close", "(III)I"⟩ ⟨"LinesPromisedModel", "close", "(III)I"⟩) ∈ wG := wG_in 1656 (by decide +kernel) (by decide +kernel)
theorem w_1669 : (Cond.code ⟨"LinesPromisedModel", "quarrel", "(II)I"⟩ prog_14_method_47_code 8 (some .int)) ∈ wG := wG_in 1669 (by decide +kernel) (by decide +kernel)
theorem w_1667 : (Cond.instanceMethod ⟨"LinesPromisedModel", "quarrel", "(II)I"⟩) ∈ wG := wG_in 1667 (by decide +kernel) (by decide +kernel)
theorem w_1668 : (Cond.selects "LinesPromisedModel" ⟨"LinesPromisedModel", "quarrel", "(II)I"⟩ ⟨"LinesPromisedModel", "quarrel", "(II)I"⟩) ∈ wG := wG_in 1668 (by decide +kernel) (by decide +kernel)
theorem w_1681 : (Cond.code ⟨"LinesPromisedModel", "canStep", "(IIIII)Z"⟩ prog_14_method_48_code 7 (some .boolean)) ∈ wG := wG_in 1681 (by decide +kernel) (by decide +kernel)
theorem w_1680 : (Cond.instanceMethod ⟨"LinesPromisedModel", "canStep", "(IIIII)Z"⟩) ∈ wG := wG_in 1680 (by decide +kernel) (by decide +kernel)
theorem w_66 : (Cond.selects "LinesPromisedModel" ⟨"LinesPromisedModel", "canStep", "(IIIII)Z"⟩ ⟨"LinesPromisedModel", "canStep", "(IIIII)Z"⟩) ∈ wG := wG_in 66 (by decide +kernel) (by decide +kernel)
theorem w_1678 : (Cond.methodLink "LinesPromisedModel" 199 ⟨"LinesPromisedModel", "canStep", "(IIIII)Z"⟩) ∈ wG := wG_in 1678 (by decide +kernel) (by decide +kernel)
theorem w_1677 : (Cond.code ⟨"LinesPromisedModel", "works", "(III)V"⟩ prog_14_method_49_code 10 none) ∈ wG := wG_in 1677 (by decide +kernel) (by decide +kernel)
theorem w_1676 : (Cond.instanceMethod ⟨"LinesPromisedModel", "works", "(III)V"⟩) ∈ wG := wG_in 1676 (by decide +kernel) (by decide +kernel)
theorem w_65 : (Cond.selects "LinesPromisedModel" ⟨"LinesPromisedModel", "works", "(III)V"⟩ ⟨"LinesPromisedModel", "works", "(III)V"⟩) ∈ wG := wG_in 65 (by decide +kernel) (by decide +kernel)
theorem w_1674 : (Cond.methodLink "LinesPromisedModel" 203 ⟨"LinesPromisedModel", "works", "(III)V"⟩) ∈ wG := wG_in 1674 (by decide +kernel) (by decide +kernel)
theorem w_1673 : (Cond.code ⟨"LinesPromisedModel", "slope", "(IIII)I"⟩ prog_14_method_50_code 10 (some .int)) ∈ wG := wG_in 1673 (by decide +kernel) (by decide +kernel)
theorem w_1671 : (Cond.instanceMethod ⟨"LinesPromisedModel", "slope", "(IIII)I"⟩) ∈ wG := wG_in 1671 (by decide +kernel) (by decide +kernel)
theorem w_1672 : (Cond.selects "LinesPromisedModel" ⟨"LinesPromisedModel", "slope", "(IIII)I"⟩ ⟨"LinesPromisedModel", "slope", "(IIII)I"⟩) ∈ wG := wG_in 1672 (by decide +kernel) (by decide +kernel)
theorem w_1685 : (Cond.code ⟨"LinesPromisedModel", "claim", "(II)I"⟩ prog_14_method_51_code 3 (some .int)) ∈ wG := wG_in 1685 (by decide +kernel) (by decide +kernel)
theorem w_1683 : (Cond.instanceMethod ⟨"LinesPromisedModel", "claim", "(II)I"⟩) ∈ wG := wG_in 1683 (by decide +kernel) (by decide +kernel)
theorem w_1684 : (Cond.selects "LinesPromisedModel" ⟨"LinesPromisedModel", "claim", "(II)I"⟩ ⟨"LinesPromisedModel", "claim", "(II)I"⟩) ∈ wG := wG_in 1684 (by decide +kernel) (by decide +kernel)
theorem w_1689 : (Cond.code ⟨"LinesPromisedModel", "bill", "(I)I"⟩ prog_14_method_52_code 4 (some .int)) ∈ wG := wG_in 1689 (by decide +kernel) (by decide +kernel)
theorem w_1687 : (Cond.instanceMethod ⟨"LinesPromisedModel", "bill", "(I)I"⟩) ∈ wG := wG_in 1687 (by decide +kernel) (by decide +kernel)
theorem w_1688 : (Cond.selects "LinesPromisedModel" ⟨"LinesPromisedModel", "bill", "(I)I"⟩ ⟨"LinesPromisedModel", "bill", "(I)I"⟩) ∈ wG := wG_in 1688 (by decide +kernel) (by decide +kernel)
theorem w_1701 : (Cond.code ⟨"LinesPromisedModel", "inWay", "(II)I"⟩ prog_14_method_54_code 6 (some .int)) ∈ wG := wG_in 1701 (by decide +kernel) (by decide +kernel)
theorem w_1700 : (Cond.instanceMethod ⟨"LinesPromisedModel", "inWay", "(II)I"⟩) ∈ wG := wG_in 1700 (by decide +kernel) (by decide +kernel)
theorem w_68 : (Cond.selects "LinesPromisedModel" ⟨"LinesPromisedModel", "inWay", "(II)I"⟩ ⟨"LinesPromisedModel", "inWay", "(II)I"⟩) ∈ wG := wG_in 68 (by decide +kernel) (by decide +kernel)
theorem w_1705 : (Cond.code ⟨"LinesPromisedModel", "claims", "(I)I"⟩ prog_14_method_53_code 5 (some .int)) ∈ wG := wG_in 1705 (by decide +kernel) (by decide +kernel)
theorem w_1704 : (Cond.instanceMethod ⟨"LinesPromisedModel", "claims", "(I)I"⟩) ∈ wG := wG_in 1704 (by decide +kernel) (by decide +kernel)
theorem w_69 : (Cond.selects "LinesPromisedModel" ⟨"LinesPromisedModel", "claims", "(I)I"⟩ ⟨"LinesPromisedModel", "claims", "(I)I"⟩) ∈ wG := wG_in 69 (by decide +kernel) (by decide +kernel)
/-! LinesPromisedModel.way(II)I -/
theorem dX12_way_0 : decode cX12_way 0 = .ok (.aload_n 0, 1) := by decide +kernel
theorem dX12_way_1 : decode cX12_way 1 = .ok (.iload_n 1, 1) := by decide +kernel
theorem dX12_way_2 : decode cX12_way 2 = .ok (.iconst 2, 1) := by decide +kernel
theorem dX12_way_3 : decode cX12_way 3 = .ok (.invokevirtual 165, 3) := by decide +kernel
theorem dX12_way_6 : decode cX12_way 6 = .ok (.ifCond .ne 5, 3) := by decide +kernel
theorem dX12_way_9 : decode cX12_way 9 = .ok (.iconst (-1), 1) := by decide +kernel
theorem dX12_way_10 : decode cX12_way 10 = .ok (.ireturn, 1) := by decide +kernel
theorem dX12_way_11 : decode cX12_way 11 = .ok (.iload_n 2, 1) := by decide +kernel
theorem dX12_way_12 : decode cX12_way 12 = .ok (.tableswitch 56 0 2 #[28, 39, 50], 28) := by decide +kernel
theorem dX12_way_40 : decode cX12_way 40 = .ok (.aload_n 0, 1) := by decide +kernel
theorem dX12_way_41 : decode cX12_way 41 = .ok (.getfield 8, 3) := by decide +kernel
theorem dX12_way_44 : decode cX12_way 44 = .ok (.sipush 850, 3) := by decide +kernel
theorem dX12_way_47 : decode cX12_way 47 = .ok (.iload_n 1, 1) := by decide +kernel
theorem dX12_way_48 : decode cX12_way 48 = .ok (.iadd, 1) := by decide +kernel
theorem dX12_way_49 : decode cX12_way 49 = .ok (.iaload, 1) := by decide +kernel
theorem dX12_way_50 : decode cX12_way 50 = .ok (.ireturn, 1) := by decide +kernel
theorem dX12_way_51 : decode cX12_way 51 = .ok (.aload_n 0, 1) := by decide +kernel
theorem dX12_way_52 : decode cX12_way 52 = .ok (.getfield 8, 3) := by decide +kernel
theorem dX12_way_55 : decode cX12_way 55 = .ok (.sipush 910, 3) := by decide +kernel
theorem dX12_way_58 : decode cX12_way 58 = .ok (.iload_n 1, 1) := by decide +kernel
theorem dX12_way_59 : decode cX12_way 59 = .ok (.iadd, 1) := by decide +kernel
theorem dX12_way_60 : decode cX12_way 60 = .ok (.iaload, 1) := by decide +kernel
theorem dX12_way_61 : decode cX12_way 61 = .ok (.ireturn, 1) := by decide +kernel
theorem dX12_way_62 : decode cX12_way 62 = .ok (.aload_n 0, 1) := by decide +kernel
theorem dX12_way_63 : decode cX12_way 63 = .ok (.iload_n 1, 1) := by decide +kernel
theorem dX12_way_64 : decode cX12_way 64 = .ok (.invokevirtual 190, 3) := by decide +kernel
theorem dX12_way_67 : decode cX12_way 67 = .ok (.ireturn, 1) := by decide +kernel
theorem dX12_way_68 : decode cX12_way 68 = .ok (.iload_n 2, 1) := by decide +kernel
theorem dX12_way_69 : decode cX12_way 69 = .ok (.bipush 10, 2) := by decide +kernel
theorem dX12_way_71 : decode cX12_way 71 = .ok (.isub, 1) := by decide +kernel
theorem dX12_way_72 : decode cX12_way 72 = .ok (.iconst 0, 1) := by decide +kernel
theorem dX12_way_73 : decode cX12_way 73 = .ok (.aload_n 0, 1) := by decide +kernel
theorem dX12_way_74 : decode cX12_way 74 = .ok (.getfield 8, 3) := by decide +kernel
theorem dX12_way_77 : decode cX12_way 77 = .ok (.sipush 850, 3) := by decide +kernel
theorem dX12_way_80 : decode cX12_way 80 = .ok (.iload_n 1, 1) := by decide +kernel
theorem dX12_way_81 : decode cX12_way 81 = .ok (.iadd, 1) := by decide +kernel
theorem dX12_way_82 : decode cX12_way 82 = .ok (.iaload, 1) := by decide +kernel
theorem dX12_way_83 : decode cX12_way 83 = .ok (.iconst 1, 1) := by decide +kernel
theorem dX12_way_84 : decode cX12_way 84 = .ok (.isub, 1) := by decide +kernel
theorem dX12_way_85 : decode cX12_way 85 = .ok (.invokestatic 58, 3) := by decide +kernel
theorem dX12_way_88 : decode cX12_way 88 = .ok (.ifCond .eq 24, 3) := by decide +kernel
theorem dX12_way_91 : decode cX12_way 91 = .ok (.aload_n 0, 1) := by decide +kernel
theorem dX12_way_92 : decode cX12_way 92 = .ok (.getfield 8, 3) := by decide +kernel
theorem dX12_way_95 : decode cX12_way 95 = .ok (.sipush 4700, 3) := by decide +kernel
theorem dX12_way_98 : decode cX12_way 98 = .ok (.bipush 41, 2) := by decide +kernel
theorem dX12_way_100 : decode cX12_way 100 = .ok (.iload_n 1, 1) := by decide +kernel
theorem dX12_way_101 : decode cX12_way 101 = .ok (.imul, 1) := by decide +kernel
theorem dX12_way_102 : decode cX12_way 102 = .ok (.iadd, 1) := by decide +kernel
theorem dX12_way_103 : decode cX12_way 103 = .ok (.iload_n 2, 1) := by decide +kernel
theorem dX12_way_104 : decode cX12_way 104 = .ok (.iadd, 1) := by decide +kernel
theorem dX12_way_105 : decode cX12_way 105 = .ok (.bipush 10, 2) := by decide +kernel
theorem dX12_way_107 : decode cX12_way 107 = .ok (.isub, 1) := by decide +kernel
theorem dX12_way_108 : decode cX12_way 108 = .ok (.iaload, 1) := by decide +kernel
theorem dX12_way_109 : decode cX12_way 109 = .ok (.goto 4, 3) := by decide +kernel
theorem dX12_way_112 : decode cX12_way 112 = .ok (.iconst (-1), 1) := by decide +kernel
theorem dX12_way_113 : decode cX12_way 113 = .ok (.ireturn, 1) := by decide +kernel
theorem cm_X12_way : CM yX12_way cX12_way 3 (some .int) 2 12 := ⟨w_1636, w_1637, w_1638, w_97, ⟨by decide +kernel, by decide +kernel, by decide +kernel⟩, ⟨_, _, rfl⟩, by decide⟩
noncomputable def f_X12_way_113 (n : Nat)  (s0 : Int) (h : MM) : RR :=
  some (s0, h)
noncomputable def f_X12_way (n : Nat) (v0 v1 v2 : Int) (h : MM) : RR :=
  gk h v0 12 <|
  bd (f_X12_isOf n v0 v1 2 h) fun r1 h1 =>
  if r1 = 0 then
    some ((-1), h1)
  else
  if v2 = 0 then
    gf h1 v0 12 1 fun r4 =>
    rd h1 r4 100 (wr (850 + v1)) fun r5 =>
    some (r5, h1)
  else
  if v2 = 1 then
    gf h1 v0 12 1 fun r7 =>
    rd h1 r7 100 (wr (910 + v1)) fun r8 =>
    some (r8, h1)
  else
  if v2 = 2 then
    gk h1 v0 12 <|
    bd (f_X12_yardsOf n v0 v1 h1) fun r10 h10 =>
    some (r10, h10)
  else
  gf h1 v0 12 1 fun r11 =>
  rd h1 r11 100 (wr (850 + v1)) fun r12 =>
  bd (f_X12_in n (wr (v2 - 10)) 0 (wr (r12 - 1)) h1) fun r13 h13 =>
  if r13 = 0 then
    f_X12_way_113 n ((-1)) h13
  else
  gf h13 v0 12 1 fun r15 =>
  rd h13 r15 100 (wr ((wr ((wr (4700 + (wr (41 * v1)))) + v2)) - 10)) fun r16 =>
  f_X12_way_113 n r16 h13
set_option maxRecDepth 20000 in
theorem b_X12_way_113 {g : GT} {Z : Int × MM} {n : Nat} (C : Cx g cX12_way 3 yX12_way 3 65) (hr : Rt g (some .int) 0 Z) {s0 : Int}    (cs0 : in32 s0) {h : MM} (hf : f_X12_way_113 n  s0 h = some Z) : G g 113 [(3, 0), (3, 0), (3, 0)] [(0, s0)] h := by
  unfold f_X12_way_113 at hf
  cases hf
  exact r_jret C hr dX12_way_113 cs0
set_option maxRecDepth 20000 in
theorem e_X12_way {g : GT} {Z : Int × MM} {n : Nat} (C : Cx g cX12_way 3 yX12_way 3 65) (hr : Rt g (some .int) 0 Z) {v0 v1 v2 : Int} (cv0 : cK 2 v0) (cv1 : cK 0 v1) (cv2 : cK 0 v2) {h : MM} (hf : f_X12_way n v0 v1 v2 h = some Z) : G g 0 [(2, v0), (0, v1), (0, v2)] [] h := by
  have cv1 : in32 v1 := cv1
  have cv2 : in32 v2 := cv2
  unfold f_X12_way at hf
  refine r_aload_n C dX12_way_0 rfl ?_
  refine r_iload_n C dX12_way_1 rfl ?_
  refine r_iconst C dX12_way_2 ?_
  obtain ⟨p1, hf⟩ := gk_s hf
  obtain ⟨r1, h1, hq1, hf⟩ := bd_s hf
  refine r_cV2 C (am_X12_isOf (gl g) n) cm_X12_isOf w_1607 dX12_way_3 ⟨Nat.le_of_ble_eq_true rfl, Nat.le_of_ble_eq_true rfl⟩ p1 rfl cv1 (in32_of rfl) rfl (Nat.le_of_ble_eq_true rfl) hq1 (by decide) (fun c1 => ?_)
  have c1 : in32 _ := c1
  refine r_if_ne C dX12_way_6 (tgt := 11) (by decide) c1 (fun n2 => ?_) (fun n2 => ?_)
  · have hf := ite_n n2 hf
    refine r_iload_n C dX12_way_11 rfl ?_
    rcases ite_s hf with ⟨n3, hf⟩ | ⟨n3, hf⟩
    · refine r_tsw C dX12_way_12 (tgt := 40) cv2 n3 rfl rfl (by decide) ?_
      refine r_aload_n C dX12_way_40 rfl ?_
      obtain ⟨q4, hf⟩ := gf_s hf
      refine r_gf C ct12 (j := 1) (ji := 1) dX12_way_41 q4 rfl rfl (by decide) w_1426 rfl (fun c4 => ?_)
      refine r_sipush C dX12_way_44 rfl ?_
      refine r_iload_n C dX12_way_47 rfl ?_
      refine r_iadd C dX12_way_48 ?_
      obtain ⟨q5, hf⟩ := rd_s hf
      refine r_iald C dX12_way_49 q5 rfl (fun c5 => ?_)
      cases hf
      exact r_jret C hr dX12_way_50 c5
    rcases ite_s hf with ⟨n6, hf⟩ | ⟨n6, hf⟩
    · refine r_tsw C dX12_way_12 (tgt := 51) cv2 n6 rfl rfl (by decide) ?_
      refine r_aload_n C dX12_way_51 rfl ?_
      obtain ⟨q7, hf⟩ := gf_s hf
      refine r_gf C ct12 (j := 1) (ji := 1) dX12_way_52 q7 rfl rfl (by decide) w_1426 rfl (fun c7 => ?_)
      refine r_sipush C dX12_way_55 rfl ?_
      refine r_iload_n C dX12_way_58 rfl ?_
      refine r_iadd C dX12_way_59 ?_
      obtain ⟨q8, hf⟩ := rd_s hf
      refine r_iald C dX12_way_60 q8 rfl (fun c8 => ?_)
      cases hf
      exact r_jret C hr dX12_way_61 c8
    rcases ite_s hf with ⟨n9, hf⟩ | ⟨n9, hf⟩
    · refine r_tsw C dX12_way_12 (tgt := 62) cv2 n9 rfl rfl (by decide) ?_
      refine r_aload_n C dX12_way_62 rfl ?_
      refine r_iload_n C dX12_way_63 rfl ?_
      obtain ⟨p10, hf⟩ := gk_s hf
      obtain ⟨r10, h10, hq10, hf⟩ := bd_s hf
      refine r_cV1 C (am_X12_yardsOf (gl g) n) cm_X12_yardsOf w_1639 dX12_way_64 ⟨Nat.le_of_ble_eq_true rfl, Nat.le_of_ble_eq_true rfl⟩ p10 rfl cv1 rfl (Nat.le_of_ble_eq_true rfl) hq10 (by decide) (fun c10 => ?_)
      have c10 : in32 _ := c10
      cases hf
      exact r_jret C hr dX12_way_67 c10
    refine r_tswd C dX12_way_12 (tgt := 68) cv2 (by omega) (by decide) ?_
    refine r_iload_n C dX12_way_68 rfl ?_
    refine r_bipush C dX12_way_69 rfl ?_
    refine r_isub C dX12_way_71 ?_
    refine r_iconst C dX12_way_72 ?_
    refine r_aload_n C dX12_way_73 rfl ?_
    obtain ⟨q11, hf⟩ := gf_s hf
    refine r_gf C ct12 (j := 1) (ji := 1) dX12_way_74 q11 rfl rfl (by decide) w_1426 rfl (fun c11 => ?_)
    refine r_sipush C dX12_way_77 rfl ?_
    refine r_iload_n C dX12_way_80 rfl ?_
    refine r_iadd C dX12_way_81 ?_
    obtain ⟨q12, hf⟩ := rd_s hf
    refine r_iald C dX12_way_82 q12 rfl (fun c12 => ?_)
    refine r_iconst C dX12_way_83 ?_
    refine r_isub C dX12_way_84 ?_
    obtain ⟨r13, h13, hq13, hf⟩ := bd_s hf
    refine r_cS3 C (am_X12_in (gl g) n) cm_X12_in w_1496 dX12_way_85 ⟨Nat.le_of_ble_eq_true rfl, Nat.le_of_ble_eq_true rfl⟩ (in32_t _) (in32_of rfl) (in32_t _) rfl (Nat.le_of_ble_eq_true rfl) hq13 (by decide) (fun c13 => ?_)
    have c13 : in32 _ := c13
    refine r_if_eq C dX12_way_88 (tgt := 112) (by decide) c13 (fun n14 => ?_) (fun n14 => ?_)
    · have hf := ite_p n14 hf
      refine r_iconst C dX12_way_112 ?_
      exact G.mask [false, false, false] rfl rfl (b_X12_way_113 C hr  (in32_of rfl) hf)
    · have hf := ite_n n14 hf
      refine r_aload_n C dX12_way_91 rfl ?_
      obtain ⟨q15, hf⟩ := gf_s hf
      refine r_gf C ct12 (j := 1) (ji := 1) dX12_way_92 q15 rfl rfl (by decide) w_1426 rfl (fun c15 => ?_)
      refine r_sipush C dX12_way_95 rfl ?_
      refine r_bipush C dX12_way_98 rfl ?_
      refine r_iload_n C dX12_way_100 rfl ?_
      refine r_imul C dX12_way_101 ?_
      refine r_iadd C dX12_way_102 ?_
      refine r_iload_n C dX12_way_103 rfl ?_
      refine r_iadd C dX12_way_104 ?_
      refine r_bipush C dX12_way_105 rfl ?_
      refine r_isub C dX12_way_107 ?_
      obtain ⟨q16, hf⟩ := rd_s hf
      refine r_iald C dX12_way_108 q16 rfl (fun c16 => ?_)
      refine r_goto C dX12_way_109 (tgt := 113) (by decide) ?_
      exact G.mask [false, false, false] rfl rfl (b_X12_way_113 C hr  c16 hf)
  · have hf := ite_p n2 hf
    refine r_iconst C dX12_way_9 ?_
    cases hf
    exact r_jret C hr dX12_way_10 (in32_of rfl)
set_option maxRecDepth 20000 in
theorem am_X12_way (l : Launch) (n : Nat) : AM l yX12_way cX12_way 3 (some .int) 3 65 [2, 0, 0] 0 (un3 (f_X12_way n)) := by
  refine AM.intro (by decide) (fun xs hx => ?_) (fun g xs h Z hl C hr hx hf => ?_)
  · obtain ⟨a0, a1, a2, rfl, c0, c1, c2⟩ := canL_3 hx
    exact Nat.le_of_ble_eq_true rfl
  · obtain ⟨a0, a1, a2, rfl, c0, c1, c2⟩ := canL_3 hx
    have hf := (un3_e _ a0 a1 a2 _).symm.trans hf
    exact e_X12_way (n := n) C hr c0 c1 c2 hf
/-! LinesPromisedModel.level(II)I -/
theorem dX12_level_0 : decode cX12_level 0 = .ok (.aload_n 0, 1) := by decide +kernel
theorem dX12_level_1 : decode cX12_level 1 = .ok (.iload_n 1, 1) := by decide +kernel
theorem dX12_level_2 : decode cX12_level 2 = .ok (.iconst 2, 1) := by decide +kernel
theorem dX12_level_3 : decode cX12_level 3 = .ok (.invokevirtual 165, 3) := by decide +kernel
theorem dX12_level_6 : decode cX12_level 6 = .ok (.ifCond .eq 41, 3) := by decide +kernel
theorem dX12_level_9 : decode cX12_level 9 = .ok (.iload_n 2, 1) := by decide +kernel
theorem dX12_level_10 : decode cX12_level 10 = .ok (.iconst 0, 1) := by decide +kernel
theorem dX12_level_11 : decode cX12_level 11 = .ok (.aload_n 0, 1) := by decide +kernel
theorem dX12_level_12 : decode cX12_level 12 = .ok (.getfield 8, 3) := by decide +kernel
theorem dX12_level_15 : decode cX12_level 15 = .ok (.sipush 850, 3) := by decide +kernel
theorem dX12_level_18 : decode cX12_level 18 = .ok (.iload_n 1, 1) := by decide +kernel
theorem dX12_level_19 : decode cX12_level 19 = .ok (.iadd, 1) := by decide +kernel
theorem dX12_level_20 : decode cX12_level 20 = .ok (.iaload, 1) := by decide +kernel
theorem dX12_level_21 : decode cX12_level 21 = .ok (.iconst 1, 1) := by decide +kernel
theorem dX12_level_22 : decode cX12_level 22 = .ok (.isub, 1) := by decide +kernel
theorem dX12_level_23 : decode cX12_level 23 = .ok (.invokestatic 58, 3) := by decide +kernel
theorem dX12_level_26 : decode cX12_level 26 = .ok (.ifCond .eq 21, 3) := by decide +kernel
theorem dX12_level_29 : decode cX12_level 29 = .ok (.aload_n 0, 1) := by decide +kernel
theorem dX12_level_30 : decode cX12_level 30 = .ok (.getfield 8, 3) := by decide +kernel
theorem dX12_level_33 : decode cX12_level 33 = .ok (.sipush 7160, 3) := by decide +kernel
theorem dX12_level_36 : decode cX12_level 36 = .ok (.bipush 41, 2) := by decide +kernel
theorem dX12_level_38 : decode cX12_level 38 = .ok (.iload_n 1, 1) := by decide +kernel
theorem dX12_level_39 : decode cX12_level 39 = .ok (.imul, 1) := by decide +kernel
theorem dX12_level_40 : decode cX12_level 40 = .ok (.iadd, 1) := by decide +kernel
theorem dX12_level_41 : decode cX12_level 41 = .ok (.iload_n 2, 1) := by decide +kernel
theorem dX12_level_42 : decode cX12_level 42 = .ok (.iadd, 1) := by decide +kernel
theorem dX12_level_43 : decode cX12_level 43 = .ok (.iaload, 1) := by decide +kernel
theorem dX12_level_44 : decode cX12_level 44 = .ok (.goto 4, 3) := by decide +kernel
theorem dX12_level_47 : decode cX12_level 47 = .ok (.iconst (-1), 1) := by decide +kernel
theorem dX12_level_48 : decode cX12_level 48 = .ok (.ireturn, 1) := by decide +kernel
theorem cm_X12_level : CM yX12_level cX12_level 3 (some .int) 2 12 := ⟨w_1651, w_1652, w_1653, w_97, ⟨by decide +kernel, by decide +kernel, by decide +kernel⟩, ⟨_, _, rfl⟩, by decide⟩
noncomputable def f_X12_level_48 (n : Nat)  (s0 : Int) (h : MM) : RR :=
  some (s0, h)
noncomputable def f_X12_level_47 (n : Nat)  (h : MM) : RR :=
  f_X12_level_48 n ((-1)) h
noncomputable def f_X12_level (n : Nat) (v0 v1 v2 : Int) (h : MM) : RR :=
  gk h v0 12 <|
  bd (f_X12_isOf n v0 v1 2 h) fun r1 h1 =>
  if r1 = 0 then
    f_X12_level_47 n h1
  else
  gf h1 v0 12 1 fun r3 =>
  rd h1 r3 100 (wr (850 + v1)) fun r4 =>
  bd (f_X12_in n v2 0 (wr (r4 - 1)) h1) fun r5 h5 =>
  if r5 = 0 then
    f_X12_level_47 n h5
  else
  gf h5 v0 12 1 fun r7 =>
  rd h5 r7 100 (wr ((wr (7160 + (wr (41 * v1)))) + v2)) fun r8 =>
  f_X12_level_48 n r8 h5
set_option maxRecDepth 20000 in
theorem b_X12_level_48 {g : GT} {Z : Int × MM} {n : Nat} (C : Cx g cX12_level 3 yX12_level 3 65) (hr : Rt g (some .int) 0 Z) {s0 : Int}    (cs0 : in32 s0) {h : MM} (hf : f_X12_level_48 n  s0 h = some Z) : G g 48 [(3, 0), (3, 0), (3, 0)] [(0, s0)] h := by
  unfold f_X12_level_48 at hf
  cases hf
  exact r_jret C hr dX12_level_48 cs0
set_option maxRecDepth 20000 in
theorem b_X12_level_47 {g : GT} {Z : Int × MM} {n : Nat} (C : Cx g cX12_level 3 yX12_level 3 65) (hr : Rt g (some .int) 0 Z)     {h : MM} (hf : f_X12_level_47 n   h = some Z) : G g 47 [(3, 0), (3, 0), (3, 0)] [] h := by
  unfold f_X12_level_47 at hf
  refine r_iconst C dX12_level_47 ?_
  exact G.mask [false, false, false] rfl rfl (b_X12_level_48 C hr  (in32_of rfl) hf)
set_option maxRecDepth 20000 in
theorem e_X12_level {g : GT} {Z : Int × MM} {n : Nat} (C : Cx g cX12_level 3 yX12_level 3 65) (hr : Rt g (some .int) 0 Z) {v0 v1 v2 : Int} (cv0 : cK 2 v0) (cv1 : cK 0 v1) (cv2 : cK 0 v2) {h : MM} (hf : f_X12_level n v0 v1 v2 h = some Z) : G g 0 [(2, v0), (0, v1), (0, v2)] [] h := by
  have cv1 : in32 v1 := cv1
  have cv2 : in32 v2 := cv2
  unfold f_X12_level at hf
  refine r_aload_n C dX12_level_0 rfl ?_
  refine r_iload_n C dX12_level_1 rfl ?_
  refine r_iconst C dX12_level_2 ?_
  obtain ⟨p1, hf⟩ := gk_s hf
  obtain ⟨r1, h1, hq1, hf⟩ := bd_s hf
  refine r_cV2 C (am_X12_isOf (gl g) n) cm_X12_isOf w_1607 dX12_level_3 ⟨Nat.le_of_ble_eq_true rfl, Nat.le_of_ble_eq_true rfl⟩ p1 rfl cv1 (in32_of rfl) rfl (Nat.le_of_ble_eq_true rfl) hq1 (by decide) (fun c1 => ?_)
  have c1 : in32 _ := c1
  refine r_if_eq C dX12_level_6 (tgt := 47) (by decide) c1 (fun n2 => ?_) (fun n2 => ?_)
  · have hf := ite_p n2 hf
    exact G.mask [false, false, false] rfl rfl (b_X12_level_47 C hr   hf)
  · have hf := ite_n n2 hf
    refine r_iload_n C dX12_level_9 rfl ?_
    refine r_iconst C dX12_level_10 ?_
    refine r_aload_n C dX12_level_11 rfl ?_
    obtain ⟨q3, hf⟩ := gf_s hf
    refine r_gf C ct12 (j := 1) (ji := 1) dX12_level_12 q3 rfl rfl (by decide) w_1426 rfl (fun c3 => ?_)
    refine r_sipush C dX12_level_15 rfl ?_
    refine r_iload_n C dX12_level_18 rfl ?_
    refine r_iadd C dX12_level_19 ?_
    obtain ⟨q4, hf⟩ := rd_s hf
    refine r_iald C dX12_level_20 q4 rfl (fun c4 => ?_)
    refine r_iconst C dX12_level_21 ?_
    refine r_isub C dX12_level_22 ?_
    obtain ⟨r5, h5, hq5, hf⟩ := bd_s hf
    refine r_cS3 C (am_X12_in (gl g) n) cm_X12_in w_1496 dX12_level_23 ⟨Nat.le_of_ble_eq_true rfl, Nat.le_of_ble_eq_true rfl⟩ cv2 (in32_of rfl) (in32_t _) rfl (Nat.le_of_ble_eq_true rfl) hq5 (by decide) (fun c5 => ?_)
    have c5 : in32 _ := c5
    refine r_if_eq C dX12_level_26 (tgt := 47) (by decide) c5 (fun n6 => ?_) (fun n6 => ?_)
    · have hf := ite_p n6 hf
      exact G.mask [false, false, false] rfl rfl (b_X12_level_47 C hr   hf)
    · have hf := ite_n n6 hf
      refine r_aload_n C dX12_level_29 rfl ?_
      obtain ⟨q7, hf⟩ := gf_s hf
      refine r_gf C ct12 (j := 1) (ji := 1) dX12_level_30 q7 rfl rfl (by decide) w_1426 rfl (fun c7 => ?_)
      refine r_sipush C dX12_level_33 rfl ?_
      refine r_bipush C dX12_level_36 rfl ?_
      refine r_iload_n C dX12_level_38 rfl ?_
      refine r_imul C dX12_level_39 ?_
      refine r_iadd C dX12_level_40 ?_
      refine r_iload_n C dX12_level_41 rfl ?_
      refine r_iadd C dX12_level_42 ?_
      obtain ⟨q8, hf⟩ := rd_s hf
      refine r_iald C dX12_level_43 q8 rfl (fun c8 => ?_)
      refine r_goto C dX12_level_44 (tgt := 48) (by decide) ?_
      exact G.mask [false, false, false] rfl rfl (b_X12_level_48 C hr  c8 hf)
set_option maxRecDepth 20000 in
theorem am_X12_level (l : Launch) (n : Nat) : AM l yX12_level cX12_level 3 (some .int) 3 65 [2, 0, 0] 0 (un3 (f_X12_level n)) := by
  refine AM.intro (by decide) (fun xs hx => ?_) (fun g xs h Z hl C hr hx hf => ?_)
  · obtain ⟨a0, a1, a2, rfl, c0, c1, c2⟩ := canL_3 hx
    exact Nat.le_of_ble_eq_true rfl
  · obtain ⟨a0, a1, a2, rfl, c0, c1, c2⟩ := canL_3 hx
    have hf := (un3_e _ a0 a1 a2 _).symm.trans hf
    exact e_X12_level (n := n) C hr c0 c1 c2 hf
/-! LinesPromisedModel.notClose(II)I -/
theorem dX12_notClose_0 : decode cX12_notClose 0 = .ok (.iconst 0, 1) := by decide +kernel
theorem dX12_notClose_1 : decode cX12_notClose 1 = .ok (.istore_n 3, 1) := by decide +kernel
theorem dX12_notClose_2 : decode cX12_notClose 2 = .ok (.iload_n 3, 1) := by decide +kernel
theorem dX12_notClose_3 : decode cX12_notClose 3 = .ok (.aload_n 0, 1) := by decide +kernel
theorem dX12_notClose_4 : decode cX12_notClose 4 = .ok (.getfield 8, 3) := by decide +kernel
theorem dX12_notClose_7 : decode cX12_notClose 7 = .ok (.sipush 850, 3) := by decide +kernel
theorem dX12_notClose_10 : decode cX12_notClose 10 = .ok (.iload_n 1, 1) := by decide +kernel
theorem dX12_notClose_11 : decode cX12_notClose 11 = .ok (.iadd, 1) := by decide +kernel
theorem dX12_notClose_12 : decode cX12_notClose 12 = .ok (.iaload, 1) := by decide +kernel
theorem dX12_notClose_13 : decode cX12_notClose 13 = .ok (.if_icmp .ge 73, 3) := by decide +kernel
theorem dX12_notClose_16 : decode cX12_notClose 16 = .ok (.aload_n 0, 1) := by decide +kernel
theorem dX12_notClose_17 : decode cX12_notClose 17 = .ok (.getfield 8, 3) := by decide +kernel
theorem dX12_notClose_20 : decode cX12_notClose 20 = .ok (.sipush 7160, 3) := by decide +kernel
theorem dX12_notClose_23 : decode cX12_notClose 23 = .ok (.bipush 41, 2) := by decide +kernel
theorem dX12_notClose_25 : decode cX12_notClose 25 = .ok (.iload_n 1, 1) := by decide +kernel
theorem dX12_notClose_26 : decode cX12_notClose 26 = .ok (.imul, 1) := by decide +kernel
theorem dX12_notClose_27 : decode cX12_notClose 27 = .ok (.iadd, 1) := by decide +kernel
theorem dX12_notClose_28 : decode cX12_notClose 28 = .ok (.iload_n 3, 1) := by decide +kernel
theorem dX12_notClose_29 : decode cX12_notClose 29 = .ok (.iadd, 1) := by decide +kernel
theorem dX12_notClose_30 : decode cX12_notClose 30 = .ok (.iaload, 1) := by decide +kernel
theorem dX12_notClose_31 : decode cX12_notClose 31 = .ok (.istore 4, 2) := by decide +kernel
theorem dX12_notClose_33 : decode cX12_notClose 33 = .ok (.iload 4, 2) := by decide +kernel
theorem dX12_notClose_35 : decode cX12_notClose 35 = .ok (.ldc 181, 2) := by decide +kernel
theorem dX12_notClose_37 : decode cX12_notClose 37 = .ok (.if_icmp .eq 41, 3) := by decide +kernel
theorem dX12_notClose_40 : decode cX12_notClose 40 = .ok (.iload 4, 2) := by decide +kernel
theorem dX12_notClose_42 : decode cX12_notClose 42 = .ok (.aload_n 0, 1) := by decide +kernel
theorem dX12_notClose_43 : decode cX12_notClose 43 = .ok (.getfield 8, 3) := by decide +kernel
theorem dX12_notClose_46 : decode cX12_notClose 46 = .ok (.bipush 20, 2) := by decide +kernel
theorem dX12_notClose_48 : decode cX12_notClose 48 = .ok (.aload_n 0, 1) := by decide +kernel
theorem dX12_notClose_49 : decode cX12_notClose 49 = .ok (.getfield 8, 3) := by decide +kernel
theorem dX12_notClose_52 : decode cX12_notClose 52 = .ok (.sipush 4700, 3) := by decide +kernel
theorem dX12_notClose_55 : decode cX12_notClose 55 = .ok (.bipush 41, 2) := by decide +kernel
theorem dX12_notClose_57 : decode cX12_notClose 57 = .ok (.iload_n 1, 1) := by decide +kernel
theorem dX12_notClose_58 : decode cX12_notClose 58 = .ok (.imul, 1) := by decide +kernel
theorem dX12_notClose_59 : decode cX12_notClose 59 = .ok (.iadd, 1) := by decide +kernel
theorem dX12_notClose_60 : decode cX12_notClose 60 = .ok (.iload_n 3, 1) := by decide +kernel
theorem dX12_notClose_61 : decode cX12_notClose 61 = .ok (.iadd, 1) := by decide +kernel
theorem dX12_notClose_62 : decode cX12_notClose 62 = .ok (.iaload, 1) := by decide +kernel
theorem dX12_notClose_63 : decode cX12_notClose 63 = .ok (.iadd, 1) := by decide +kernel
theorem dX12_notClose_64 : decode cX12_notClose 64 = .ok (.iaload, 1) := by decide +kernel
theorem dX12_notClose_65 : decode cX12_notClose 65 = .ok (.isub, 1) := by decide +kernel
theorem dX12_notClose_66 : decode cX12_notClose 66 = .ok (.invokestatic 183, 3) := by decide +kernel
theorem dX12_notClose_69 : decode cX12_notClose 69 = .ok (.aload_n 0, 1) := by decide +kernel
theorem dX12_notClose_70 : decode cX12_notClose 70 = .ok (.iconst 1, 1) := by decide +kernel
theorem dX12_notClose_71 : decode cX12_notClose 71 = .ok (.iload_n 2, 1) := by decide +kernel
theorem dX12_notClose_72 : decode cX12_notClose 72 = .ok (.invokevirtual 152, 3) := by decide +kernel
theorem dX12_notClose_75 : decode cX12_notClose 75 = .ok (.if_icmp .le 5, 3) := by decide +kernel
theorem dX12_notClose_78 : decode cX12_notClose 78 = .ok (.iload_n 3, 1) := by decide +kernel
theorem dX12_notClose_79 : decode cX12_notClose 79 = .ok (.ireturn, 1) := by decide +kernel
theorem dX12_notClose_80 : decode cX12_notClose 80 = .ok (.iinc 3 1, 3) := by decide +kernel
theorem dX12_notClose_83 : decode cX12_notClose 83 = .ok (.goto (-81), 3) := by decide +kernel
theorem dX12_notClose_86 : decode cX12_notClose 86 = .ok (.bipush (-5), 2) := by decide +kernel
theorem dX12_notClose_88 : decode cX12_notClose 88 = .ok (.ireturn, 1) := by decide +kernel
theorem cm_X12_notClose : CM yX12_notClose cX12_notClose 5 (some .int) 2 12 := ⟨w_1660, w_63, w_1661, w_97, ⟨by decide +kernel, by decide +kernel, by decide +kernel⟩, ⟨_, _, rfl⟩, by decide⟩
noncomputable def f_X12_notClose_78 (n : Nat)  (v3 : Int) (h : MM) : RR :=
  some (v3, h)
noncomputable def f_X12_notClose_2b (n : Nat) (rec2 : Int → MM → RR) (v0 v1 v2 v3 : Int) (h : MM) : RR :=
  gf h v0 12 1 fun r1 =>
  rd h r1 100 (wr (850 + v1)) fun r2 =>
  if r2 ≤ v3 then
    some ((-5), h)
  else
  gf h v0 12 1 fun r4 =>
  rd h r4 100 (wr ((wr (7160 + (wr (41 * v1)))) + v3)) fun r5 =>
  if r5 = (-1000000) then
    f_X12_notClose_78 n v3 h
  else
  gf h v0 12 1 fun r7 =>
  gf h v0 12 1 fun r8 =>
  rd h r8 100 (wr ((wr (4700 + (wr (41 * v1)))) + v3)) fun r9 =>
  rd h r7 100 (wr (20 + r9)) fun r10 =>
  bd (f_X12_size n (wr (r5 - r10)) h) fun r11 h11 =>
  gk h11 v0 12 <|
  bd (f_X12_rule n v0 1 v2 h11) fun r12 h12 =>
  if r11 ≤ r12 then
    lb (wr (v3 + 1)) fun x14 =>
    rec2 x14 h12
  else
  f_X12_notClose_78 n v3 h12
noncomputable def f_X12_notClose_2 (n : Nat)  (v0 v1 v2 : Int) : Nat → Int → MM → RR
  | 0, _, _ => none
  | k + 1, v3, h => f_X12_notClose_2b n  (f_X12_notClose_2 n  v0 v1 v2 k) v0 v1 v2 v3 h
noncomputable def f_X12_notClose (n : Nat) (v0 v1 v2 : Int) (h : MM) : RR :=
  f_X12_notClose_2 n v0 v1 v2 n 0 h
set_option maxRecDepth 20000 in
theorem b_X12_notClose_78 {g : GT} {Z : Int × MM} {n : Nat} (C : Cx g cX12_notClose 5 yX12_notClose 2 49) (hr : Rt g (some .int) 0 Z) {v3 : Int}    (cv3 : in32 v3) {h : MM} (hf : f_X12_notClose_78 n  v3 h = some Z) : G g 78 [(3, 0), (3, 0), (3, 0), (0, v3), (3, 0)] [] h := by
  unfold f_X12_notClose_78 at hf
  refine r_iload_n C dX12_notClose_78 rfl ?_
  cases hf
  exact r_jret C hr dX12_notClose_79 cv3
set_option maxRecDepth 20000 in
theorem b_X12_notClose_2b {g : GT} {Z : Int × MM} {n : Nat} (C : Cx g cX12_notClose 5 yX12_notClose 2 49) (hr : Rt g (some .int) 0 Z) {v0 v1 v2 v3 : Int}  {rec2 : Int → MM → RR} (L2 : ∀ (u3 : Int) (h : MM), in32 u3 → rec2 u3 h = some Z → G g 2 [(2, v0), (0, v1), (0, v2), (0, u3), (3, 0)] [] h) (cv1 : in32 v1) (cv2 : in32 v2) (cv3 : in32 v3) {h : MM} (hf : f_X12_notClose_2b n rec2 v0 v1 v2 v3 h = some Z) : G g 2 [(2, v0), (0, v1), (0, v2), (0, v3), (3, 0)] [] h := by
  unfold f_X12_notClose_2b at hf
  refine r_iload_n C dX12_notClose_2 rfl ?_
  refine r_aload_n C dX12_notClose_3 rfl ?_
  obtain ⟨q1, hf⟩ := gf_s hf
  refine r_gf C ct12 (j := 1) (ji := 1) dX12_notClose_4 q1 rfl rfl (by decide) w_1426 rfl (fun c1 => ?_)
  refine r_sipush C dX12_notClose_7 rfl ?_
  refine r_iload_n C dX12_notClose_10 rfl ?_
  refine r_iadd C dX12_notClose_11 ?_
  obtain ⟨q2, hf⟩ := rd_s hf
  refine r_iald C dX12_notClose_12 q2 rfl (fun c2 => ?_)
  refine r_icmp_ge C dX12_notClose_13 (tgt := 86) (by decide) cv3 c2 (fun n3 => ?_) (fun n3 => ?_)
  · have hf := ite_p n3 hf
    refine r_bipush C dX12_notClose_86 rfl ?_
    cases hf
    exact r_jret C hr dX12_notClose_88 (in32_of rfl)
  · have hf := ite_n n3 hf
    refine r_aload_n C dX12_notClose_16 rfl ?_
    obtain ⟨q4, hf⟩ := gf_s hf
    refine r_gf C ct12 (j := 1) (ji := 1) dX12_notClose_17 q4 rfl rfl (by decide) w_1426 rfl (fun c4 => ?_)
    refine r_sipush C dX12_notClose_20 rfl ?_
    refine r_bipush C dX12_notClose_23 rfl ?_
    refine r_iload_n C dX12_notClose_25 rfl ?_
    refine r_imul C dX12_notClose_26 ?_
    refine r_iadd C dX12_notClose_27 ?_
    refine r_iload_n C dX12_notClose_28 rfl ?_
    refine r_iadd C dX12_notClose_29 ?_
    obtain ⟨q5, hf⟩ := rd_s hf
    refine r_iald C dX12_notClose_30 q5 rfl (fun c5 => ?_)
    refine r_istore C dX12_notClose_31 (Nat.le_of_ble_eq_true rfl) rfl ?_
    refine r_iload C dX12_notClose_33 rfl ?_
    refine r_ldc C (v := (-1000000)) dX12_notClose_35 w_1633 ?_
    refine r_icmp_eq C dX12_notClose_37 (tgt := 78) (by decide) c5 (in32_of rfl) (fun n6 => ?_) (fun n6 => ?_)
    · have hf := ite_p n6 hf
      exact G.mask [false, false, false, true, false] rfl rfl (b_X12_notClose_78 C hr  cv3 hf)
    · have hf := ite_n n6 hf
      refine r_iload C dX12_notClose_40 rfl ?_
      refine r_aload_n C dX12_notClose_42 rfl ?_
      obtain ⟨q7, hf⟩ := gf_s hf
      refine r_gf C ct12 (j := 1) (ji := 1) dX12_notClose_43 q7 rfl rfl (by decide) w_1426 rfl (fun c7 => ?_)
      refine r_bipush C dX12_notClose_46 rfl ?_
      refine r_aload_n C dX12_notClose_48 rfl ?_
      obtain ⟨q8, hf⟩ := gf_s hf
      refine r_gf C ct12 (j := 1) (ji := 1) dX12_notClose_49 q8 rfl rfl (by decide) w_1426 rfl (fun c8 => ?_)
      refine r_sipush C dX12_notClose_52 rfl ?_
      refine r_bipush C dX12_notClose_55 rfl ?_
      refine r_iload_n C dX12_notClose_57 rfl ?_
      refine r_imul C dX12_notClose_58 ?_
      refine r_iadd C dX12_notClose_59 ?_
      refine r_iload_n C dX12_notClose_60 rfl ?_
      refine r_iadd C dX12_notClose_61 ?_
      obtain ⟨q9, hf⟩ := rd_s hf
      refine r_iald C dX12_notClose_62 q9 rfl (fun c9 => ?_)
      refine r_iadd C dX12_notClose_63 ?_
      obtain ⟨q10, hf⟩ := rd_s hf
      refine r_iald C dX12_notClose_64 q10 rfl (fun c10 => ?_)
      refine r_isub C dX12_notClose_65 ?_
      obtain ⟨r11, h11, hq11, hf⟩ := bd_s hf
      refine r_cS1 C (am_X12_size (gl g) n) cm_X12_size w_1647 dX12_notClose_66 ⟨Nat.le_of_ble_eq_true rfl, Nat.le_of_ble_eq_true rfl⟩ (in32_t _) rfl (Nat.le_of_ble_eq_true rfl) hq11 (by decide) (fun c11 => ?_)
      have c11 : in32 _ := c11
      refine r_aload_n C dX12_notClose_69 rfl ?_
      refine r_iconst C dX12_notClose_70 ?_
      refine r_iload_n C dX12_notClose_71 rfl ?_
      obtain ⟨p12, hf⟩ := gk_s hf
      obtain ⟨r12, h12, hq12, hf⟩ := bd_s hf
      refine r_cV2 C (am_X12_rule (gl g) n) cm_X12_rule w_1579 dX12_notClose_72 ⟨Nat.le_of_ble_eq_true rfl, Nat.le_of_ble_eq_true rfl⟩ p12 rfl (in32_of rfl) cv2 rfl (Nat.le_of_ble_eq_true rfl) hq12 (by decide) (fun c12 => ?_)
      have c12 : in32 _ := c12
      refine r_icmp_le C dX12_notClose_75 (tgt := 80) (by decide) c11 c12 (fun n13 => ?_) (fun n13 => ?_)
      · have hf := ite_p n13 hf
        obtain ⟨x14, e14, hf⟩ := lb_s hf
        have c14 : in32 x14 := by rw [e14]; exact (in32_t _)
        refine r_iincL C dX12_notClose_80 rfl e14 (Nat.le_of_ble_eq_true rfl) rfl ?_
        refine r_goto C dX12_notClose_83 (tgt := 2) (by decide) ?_
        exact G.mask [true, true, true, true, false] rfl rfl (L2 _ _ c14 hf)
      · have hf := ite_n n13 hf
        exact G.mask [false, false, false, true, false] rfl rfl (b_X12_notClose_78 C hr  cv3 hf)
set_option maxRecDepth 20000 in
theorem l_X12_notClose_2 {g : GT} {Z : Int × MM} {n : Nat} (C : Cx g cX12_notClose 5 yX12_notClose 2 49) (hr : Rt g (some .int) 0 Z) {v0 v1 v2 : Int}   (cv1 : in32 v1) (cv2 : in32 v2) : ∀ (k : Nat) (v3 : Int) (h : MM), in32 v3 → f_X12_notClose_2 n  v0 v1 v2 k v3 h = some Z → G g 2 [(2, v0), (0, v1), (0, v2), (0, v3), (3, 0)] [] h := by
  intro k
  induction k with
  | zero => intro v3 h cv3 hf; exact absurd hf (by intro z; cases z)
  | succ k ih => intro v3 h cv3 hf; exact b_X12_notClose_2b C hr (rec2 := f_X12_notClose_2 n  v0 v1 v2 k)  ih cv1 cv2 cv3 (show f_X12_notClose_2b n  (f_X12_notClose_2 n  v0 v1 v2 k) v0 v1 v2 v3 h = some Z from hf)
set_option maxRecDepth 20000 in
theorem e_X12_notClose {g : GT} {Z : Int × MM} {n : Nat} (C : Cx g cX12_notClose 5 yX12_notClose 2 49) (hr : Rt g (some .int) 0 Z) {v0 v1 v2 : Int} (cv0 : cK 2 v0) (cv1 : cK 0 v1) (cv2 : cK 0 v2) {h : MM} (hf : f_X12_notClose n v0 v1 v2 h = some Z) : G g 0 [(2, v0), (0, v1), (0, v2), (3, 0), (3, 0)] [] h := by
  have cv1 : in32 v1 := cv1
  have cv2 : in32 v2 := cv2
  unfold f_X12_notClose at hf
  refine r_iconst C dX12_notClose_0 ?_
  refine r_istore_n C dX12_notClose_1 (Nat.le_of_ble_eq_true rfl) rfl ?_
  exact G.mask [true, true, true, true, false] rfl rfl (l_X12_notClose_2 C hr  cv1 cv2 _ _ _ (in32_of rfl) hf)
set_option maxRecDepth 20000 in
theorem am_X12_notClose (l : Launch) (n : Nat) : AM l yX12_notClose cX12_notClose 5 (some .int) 2 49 [2, 0, 0] 0 (un3 (f_X12_notClose n)) := by
  refine AM.intro (by decide) (fun xs hx => ?_) (fun g xs h Z hl C hr hx hf => ?_)
  · obtain ⟨a0, a1, a2, rfl, c0, c1, c2⟩ := canL_3 hx
    exact Nat.le_of_ble_eq_true rfl
  · obtain ⟨a0, a1, a2, rfl, c0, c1, c2⟩ := canL_3 hx
    have hf := (un3_e _ a0 a1 a2 _).symm.trans hf
    exact e_X12_notClose (n := n) C hr c0 c1 c2 hf
/-! LinesPromisedModel.steep(II)I -/
theorem dX12_steep_0 : decode cX12_steep 0 = .ok (.iconst 1, 1) := by decide +kernel
theorem dX12_steep_1 : decode cX12_steep 1 = .ok (.istore_n 3, 1) := by decide +kernel
theorem dX12_steep_2 : decode cX12_steep 2 = .ok (.iload_n 3, 1) := by decide +kernel
theorem dX12_steep_3 : decode cX12_steep 3 = .ok (.aload_n 0, 1) := by decide +kernel
theorem dX12_steep_4 : decode cX12_steep 4 = .ok (.getfield 8, 3) := by decide +kernel
theorem dX12_steep_7 : decode cX12_steep 7 = .ok (.sipush 850, 3) := by decide +kernel
theorem dX12_steep_10 : decode cX12_steep 10 = .ok (.iload_n 1, 1) := by decide +kernel
theorem dX12_steep_11 : decode cX12_steep 11 = .ok (.iadd, 1) := by decide +kernel
theorem dX12_steep_12 : decode cX12_steep 12 = .ok (.iaload, 1) := by decide +kernel
theorem dX12_steep_13 : decode cX12_steep 13 = .ok (.if_icmp .ge 72, 3) := by decide +kernel
theorem dX12_steep_16 : decode cX12_steep 16 = .ok (.aload_n 0, 1) := by decide +kernel
theorem dX12_steep_17 : decode cX12_steep 17 = .ok (.getfield 8, 3) := by decide +kernel
theorem dX12_steep_20 : decode cX12_steep 20 = .ok (.bipush 20, 2) := by decide +kernel
theorem dX12_steep_22 : decode cX12_steep 22 = .ok (.aload_n 0, 1) := by decide +kernel
theorem dX12_steep_23 : decode cX12_steep 23 = .ok (.getfield 8, 3) := by decide +kernel
theorem dX12_steep_26 : decode cX12_steep 26 = .ok (.sipush 4700, 3) := by decide +kernel
theorem dX12_steep_29 : decode cX12_steep 29 = .ok (.bipush 41, 2) := by decide +kernel
theorem dX12_steep_31 : decode cX12_steep 31 = .ok (.iload_n 1, 1) := by decide +kernel
theorem dX12_steep_32 : decode cX12_steep 32 = .ok (.imul, 1) := by decide +kernel
theorem dX12_steep_33 : decode cX12_steep 33 = .ok (.iadd, 1) := by decide +kernel
theorem dX12_steep_34 : decode cX12_steep 34 = .ok (.iload_n 3, 1) := by decide +kernel
theorem dX12_steep_35 : decode cX12_steep 35 = .ok (.iadd, 1) := by decide +kernel
theorem dX12_steep_36 : decode cX12_steep 36 = .ok (.iaload, 1) := by decide +kernel
theorem dX12_steep_37 : decode cX12_steep 37 = .ok (.iadd, 1) := by decide +kernel
theorem dX12_steep_38 : decode cX12_steep 38 = .ok (.iaload, 1) := by decide +kernel
theorem dX12_steep_39 : decode cX12_steep 39 = .ok (.aload_n 0, 1) := by decide +kernel
theorem dX12_steep_40 : decode cX12_steep 40 = .ok (.getfield 8, 3) := by decide +kernel
theorem dX12_steep_43 : decode cX12_steep 43 = .ok (.bipush 20, 2) := by decide +kernel
theorem dX12_steep_45 : decode cX12_steep 45 = .ok (.aload_n 0, 1) := by decide +kernel
theorem dX12_steep_46 : decode cX12_steep 46 = .ok (.getfield 8, 3) := by decide +kernel
theorem dX12_steep_49 : decode cX12_steep 49 = .ok (.sipush 4700, 3) := by decide +kernel
theorem dX12_steep_52 : decode cX12_steep 52 = .ok (.bipush 41, 2) := by decide +kernel
theorem dX12_steep_54 : decode cX12_steep 54 = .ok (.iload_n 1, 1) := by decide +kernel
theorem dX12_steep_55 : decode cX12_steep 55 = .ok (.imul, 1) := by decide +kernel
theorem dX12_steep_56 : decode cX12_steep 56 = .ok (.iadd, 1) := by decide +kernel
theorem dX12_steep_57 : decode cX12_steep 57 = .ok (.iload_n 3, 1) := by decide +kernel
theorem dX12_steep_58 : decode cX12_steep 58 = .ok (.iadd, 1) := by decide +kernel
theorem dX12_steep_59 : decode cX12_steep 59 = .ok (.iconst 1, 1) := by decide +kernel
theorem dX12_steep_60 : decode cX12_steep 60 = .ok (.isub, 1) := by decide +kernel
theorem dX12_steep_61 : decode cX12_steep 61 = .ok (.iaload, 1) := by decide +kernel
theorem dX12_steep_62 : decode cX12_steep 62 = .ok (.iadd, 1) := by decide +kernel
theorem dX12_steep_63 : decode cX12_steep 63 = .ok (.iaload, 1) := by decide +kernel
theorem dX12_steep_64 : decode cX12_steep 64 = .ok (.isub, 1) := by decide +kernel
theorem dX12_steep_65 : decode cX12_steep 65 = .ok (.invokestatic 183, 3) := by decide +kernel
theorem dX12_steep_68 : decode cX12_steep 68 = .ok (.aload_n 0, 1) := by decide +kernel
theorem dX12_steep_69 : decode cX12_steep 69 = .ok (.iconst 0, 1) := by decide +kernel
theorem dX12_steep_70 : decode cX12_steep 70 = .ok (.iload_n 2, 1) := by decide +kernel
theorem dX12_steep_71 : decode cX12_steep 71 = .ok (.invokevirtual 152, 3) := by decide +kernel
theorem dX12_steep_74 : decode cX12_steep 74 = .ok (.if_icmp .le 5, 3) := by decide +kernel
theorem dX12_steep_77 : decode cX12_steep 77 = .ok (.iload_n 3, 1) := by decide +kernel
theorem dX12_steep_78 : decode cX12_steep 78 = .ok (.ireturn, 1) := by decide +kernel
theorem dX12_steep_79 : decode cX12_steep 79 = .ok (.iinc 3 1, 3) := by decide +kernel
theorem dX12_steep_82 : decode cX12_steep 82 = .ok (.goto (-80), 3) := by decide +kernel
theorem dX12_steep_85 : decode cX12_steep 85 = .ok (.bipush (-5), 2) := by decide +kernel
theorem dX12_steep_87 : decode cX12_steep 87 = .ok (.ireturn, 1) := by decide +kernel
theorem cm_X12_steep : CM yX12_steep cX12_steep 4 (some .int) 2 12 := ⟨w_1664, w_64, w_1665, w_97, ⟨by decide +kernel, by decide +kernel, by decide +kernel⟩, ⟨_, _, rfl⟩, by decide⟩
noncomputable def f_X12_steep_2b (n : Nat) (rec2 : Int → MM → RR) (v0 v1 v2 v3 : Int) (h : MM) : RR :=
  gf h v0 12 1 fun r1 =>
  rd h r1 100 (wr (850 + v1)) fun r2 =>
  if r2 ≤ v3 then
    some ((-5), h)
  else
  gf h v0 12 1 fun r4 =>
  gf h v0 12 1 fun r5 =>
  rd h r5 100 (wr ((wr (4700 + (wr (41 * v1)))) + v3)) fun r6 =>
  rd h r4 100 (wr (20 + r6)) fun r7 =>
  gf h v0 12 1 fun r8 =>
  gf h v0 12 1 fun r9 =>
  rd h r9 100 (wr ((wr ((wr (4700 + (wr (41 * v1)))) + v3)) - 1)) fun r10 =>
  rd h r8 100 (wr (20 + r10)) fun r11 =>
  bd (f_X12_size n (wr (r7 - r11)) h) fun r12 h12 =>
  gk h12 v0 12 <|
  bd (f_X12_rule n v0 0 v2 h12) fun r13 h13 =>
  if r12 ≤ r13 then
    lb (wr (v3 + 1)) fun x15 =>
    rec2 x15 h13
  else
  some (v3, h13)
noncomputable def f_X12_steep_2 (n : Nat)  (v0 v1 v2 : Int) : Nat → Int → MM → RR
  | 0, _, _ => none
  | k + 1, v3, h => f_X12_steep_2b n  (f_X12_steep_2 n  v0 v1 v2 k) v0 v1 v2 v3 h
noncomputable def f_X12_steep (n : Nat) (v0 v1 v2 : Int) (h : MM) : RR :=
  f_X12_steep_2 n v0 v1 v2 n 1 h
set_option maxRecDepth 20000 in
theorem b_X12_steep_2b {g : GT} {Z : Int × MM} {n : Nat} (C : Cx g cX12_steep 4 yX12_steep 2 49) (hr : Rt g (some .int) 0 Z) {v0 v1 v2 v3 : Int}  {rec2 : Int → MM → RR} (L2 : ∀ (u3 : Int) (h : MM), in32 u3 → rec2 u3 h = some Z → G g 2 [(2, v0), (0, v1), (0, v2), (0, u3)] [] h) (cv1 : in32 v1) (cv2 : in32 v2) (cv3 : in32 v3) {h : MM} (hf : f_X12_steep_2b n rec2 v0 v1 v2 v3 h = some Z) : G g 2 [(2, v0), (0, v1), (0, v2), (0, v3)] [] h := by
  unfold f_X12_steep_2b at hf
  refine r_iload_n C dX12_steep_2 rfl ?_
  refine r_aload_n C dX12_steep_3 rfl ?_
  obtain ⟨q1, hf⟩ := gf_s hf
  refine r_gf C ct12 (j := 1) (ji := 1) dX12_steep_4 q1 rfl rfl (by decide) w_1426 rfl (fun c1 => ?_)
  refine r_sipush C dX12_steep_7 rfl ?_
  refine r_iload_n C dX12_steep_10 rfl ?_
  refine r_iadd C dX12_steep_11 ?_
  obtain ⟨q2, hf⟩ := rd_s hf
  refine r_iald C dX12_steep_12 q2 rfl (fun c2 => ?_)
  refine r_icmp_ge C dX12_steep_13 (tgt := 85) (by decide) cv3 c2 (fun n3 => ?_) (fun n3 => ?_)
  · have hf := ite_p n3 hf
    refine r_bipush C dX12_steep_85 rfl ?_
    cases hf
    exact r_jret C hr dX12_steep_87 (in32_of rfl)
  · have hf := ite_n n3 hf
    refine r_aload_n C dX12_steep_16 rfl ?_
    obtain ⟨q4, hf⟩ := gf_s hf
    refine r_gf C ct12 (j := 1) (ji := 1) dX12_steep_17 q4 rfl rfl (by decide) w_1426 rfl (fun c4 => ?_)
    refine r_bipush C dX12_steep_20 rfl ?_
    refine r_aload_n C dX12_steep_22 rfl ?_
    obtain ⟨q5, hf⟩ := gf_s hf
    refine r_gf C ct12 (j := 1) (ji := 1) dX12_steep_23 q5 rfl rfl (by decide) w_1426 rfl (fun c5 => ?_)
    refine r_sipush C dX12_steep_26 rfl ?_
    refine r_bipush C dX12_steep_29 rfl ?_
    refine r_iload_n C dX12_steep_31 rfl ?_
    refine r_imul C dX12_steep_32 ?_
    refine r_iadd C dX12_steep_33 ?_
    refine r_iload_n C dX12_steep_34 rfl ?_
    refine r_iadd C dX12_steep_35 ?_
    obtain ⟨q6, hf⟩ := rd_s hf
    refine r_iald C dX12_steep_36 q6 rfl (fun c6 => ?_)
    refine r_iadd C dX12_steep_37 ?_
    obtain ⟨q7, hf⟩ := rd_s hf
    refine r_iald C dX12_steep_38 q7 rfl (fun c7 => ?_)
    refine r_aload_n C dX12_steep_39 rfl ?_
    obtain ⟨q8, hf⟩ := gf_s hf
    refine r_gf C ct12 (j := 1) (ji := 1) dX12_steep_40 q8 rfl rfl (by decide) w_1426 rfl (fun c8 => ?_)
    refine r_bipush C dX12_steep_43 rfl ?_
    refine r_aload_n C dX12_steep_45 rfl ?_
    obtain ⟨q9, hf⟩ := gf_s hf
    refine r_gf C ct12 (j := 1) (ji := 1) dX12_steep_46 q9 rfl rfl (by decide) w_1426 rfl (fun c9 => ?_)
    refine r_sipush C dX12_steep_49 rfl ?_
    refine r_bipush C dX12_steep_52 rfl ?_
    refine r_iload_n C dX12_steep_54 rfl ?_
    refine r_imul C dX12_steep_55 ?_
    refine r_iadd C dX12_steep_56 ?_
    refine r_iload_n C dX12_steep_57 rfl ?_
    refine r_iadd C dX12_steep_58 ?_
    refine r_iconst C dX12_steep_59 ?_
    refine r_isub C dX12_steep_60 ?_
    obtain ⟨q10, hf⟩ := rd_s hf
    refine r_iald C dX12_steep_61 q10 rfl (fun c10 => ?_)
    refine r_iadd C dX12_steep_62 ?_
    obtain ⟨q11, hf⟩ := rd_s hf
    refine r_iald C dX12_steep_63 q11 rfl (fun c11 => ?_)
    refine r_isub C dX12_steep_64 ?_
    obtain ⟨r12, h12, hq12, hf⟩ := bd_s hf
    refine r_cS1 C (am_X12_size (gl g) n) cm_X12_size w_1647 dX12_steep_65 ⟨Nat.le_of_ble_eq_true rfl, Nat.le_of_ble_eq_true rfl⟩ (in32_t _) rfl (Nat.le_of_ble_eq_true rfl) hq12 (by decide) (fun c12 => ?_)
    have c12 : in32 _ := c12
    refine r_aload_n C dX12_steep_68 rfl ?_
    refine r_iconst C dX12_steep_69 ?_
    refine r_iload_n C dX12_steep_70 rfl ?_
    obtain ⟨p13, hf⟩ := gk_s hf
    obtain ⟨r13, h13, hq13, hf⟩ := bd_s hf
    refine r_cV2 C (am_X12_rule (gl g) n) cm_X12_rule w_1579 dX12_steep_71 ⟨Nat.le_of_ble_eq_true rfl, Nat.le_of_ble_eq_true rfl⟩ p13 rfl (in32_of rfl) cv2 rfl (Nat.le_of_ble_eq_true rfl) hq13 (by decide) (fun c13 => ?_)
    have c13 : in32 _ := c13
    refine r_icmp_le C dX12_steep_74 (tgt := 79) (by decide) c12 c13 (fun n14 => ?_) (fun n14 => ?_)
    · have hf := ite_p n14 hf
      obtain ⟨x15, e15, hf⟩ := lb_s hf
      have c15 : in32 x15 := by rw [e15]; exact (in32_t _)
      refine r_iincL C dX12_steep_79 rfl e15 (Nat.le_of_ble_eq_true rfl) rfl ?_
      refine r_goto C dX12_steep_82 (tgt := 2) (by decide) ?_
      exact G.mask [true, true, true, true] rfl rfl (L2 _ _ c15 hf)
    · have hf := ite_n n14 hf
      refine r_iload_n C dX12_steep_77 rfl ?_
      cases hf
      exact r_jret C hr dX12_steep_78 cv3
set_option maxRecDepth 20000 in
theorem l_X12_steep_2 {g : GT} {Z : Int × MM} {n : Nat} (C : Cx g cX12_steep 4 yX12_steep 2 49) (hr : Rt g (some .int) 0 Z) {v0 v1 v2 : Int}   (cv1 : in32 v1) (cv2 : in32 v2) : ∀ (k : Nat) (v3 : Int) (h : MM), in32 v3 → f_X12_steep_2 n  v0 v1 v2 k v3 h = some Z → G g 2 [(2, v0), (0, v1), (0, v2), (0, v3)] [] h := by
  intro k
  induction k with
  | zero => intro v3 h cv3 hf; exact absurd hf (by intro z; cases z)
  | succ k ih => intro v3 h cv3 hf; exact b_X12_steep_2b C hr (rec2 := f_X12_steep_2 n  v0 v1 v2 k)  ih cv1 cv2 cv3 (show f_X12_steep_2b n  (f_X12_steep_2 n  v0 v1 v2 k) v0 v1 v2 v3 h = some Z from hf)
set_option maxRecDepth 20000 in
theorem e_X12_steep {g : GT} {Z : Int × MM} {n : Nat} (C : Cx g cX12_steep 4 yX12_steep 2 49) (hr : Rt g (some .int) 0 Z) {v0 v1 v2 : Int} (cv0 : cK 2 v0) (cv1 : cK 0 v1) (cv2 : cK 0 v2) {h : MM} (hf : f_X12_steep n v0 v1 v2 h = some Z) : G g 0 [(2, v0), (0, v1), (0, v2), (3, 0)] [] h := by
  have cv1 : in32 v1 := cv1
  have cv2 : in32 v2 := cv2
  unfold f_X12_steep at hf
  refine r_iconst C dX12_steep_0 ?_
  refine r_istore_n C dX12_steep_1 (Nat.le_of_ble_eq_true rfl) rfl ?_
  exact G.mask [true, true, true, true] rfl rfl (l_X12_steep_2 C hr  cv1 cv2 _ _ _ (in32_of rfl) hf)
set_option maxRecDepth 20000 in
theorem am_X12_steep (l : Launch) (n : Nat) : AM l yX12_steep cX12_steep 4 (some .int) 2 49 [2, 0, 0] 0 (un3 (f_X12_steep n)) := by
  refine AM.intro (by decide) (fun xs hx => ?_) (fun g xs h Z hl C hr hx hf => ?_)
  · obtain ⟨a0, a1, a2, rfl, c0, c1, c2⟩ := canL_3 hx
    exact Nat.le_of_ble_eq_true rfl
  · obtain ⟨a0, a1, a2, rfl, c0, c1, c2⟩ := canL_3 hx
    have hf := (un3_e _ a0 a1 a2 _).symm.trans hf
    exact e_X12_steep (n := n) C hr c0 c1 c2 hf
/-! LinesPromisedModel.close(III)I -/
theorem dX12_close_0 : decode cX12_close 0 = .ok (.aload_n 0, 1) := by decide +kernel
theorem dX12_close_1 : decode cX12_close 1 = .ok (.iload_n 1, 1) := by decide +kernel
theorem dX12_close_2 : decode cX12_close 2 = .ok (.iconst 2, 1) := by decide +kernel
theorem dX12_close_3 : decode cX12_close 3 = .ok (.invokevirtual 165, 3) := by decide +kernel
theorem dX12_close_6 : decode cX12_close 6 = .ok (.ifCond .eq 12, 3) := by decide +kernel
theorem dX12_close_9 : decode cX12_close 9 = .ok (.iload_n 2, 1) := by decide +kernel
theorem dX12_close_10 : decode cX12_close 10 = .ok (.iconst 0, 1) := by decide +kernel
theorem dX12_close_11 : decode cX12_close 11 = .ok (.iconst 1, 1) := by decide +kernel
theorem dX12_close_12 : decode cX12_close 12 = .ok (.invokestatic 58, 3) := by decide +kernel
theorem dX12_close_15 : decode cX12_close 15 = .ok (.ifCond .ne 5, 3) := by decide +kernel
theorem dX12_close_18 : decode cX12_close 18 = .ok (.iconst (-1), 1) := by decide +kernel
theorem dX12_close_19 : decode cX12_close 19 = .ok (.ireturn, 1) := by decide +kernel
theorem dX12_close_20 : decode cX12_close 20 = .ok (.iload_n 3, 1) := by decide +kernel
theorem dX12_close_21 : decode cX12_close 21 = .ok (.invokestatic 141, 3) := by decide +kernel
theorem dX12_close_24 : decode cX12_close 24 = .ok (.ifCond .ne 8, 3) := by decide +kernel
theorem dX12_close_27 : decode cX12_close 27 = .ok (.bipush (-2), 2) := by decide +kernel
theorem dX12_close_29 : decode cX12_close 29 = .ok (.goto 22, 3) := by decide +kernel
theorem dX12_close_32 : decode cX12_close 32 = .ok (.iload_n 2, 1) := by decide +kernel
theorem dX12_close_33 : decode cX12_close 33 = .ok (.ifCond .ne 12, 3) := by decide +kernel
theorem dX12_close_36 : decode cX12_close 36 = .ok (.aload_n 0, 1) := by decide +kernel
theorem dX12_close_37 : decode cX12_close 37 = .ok (.iload_n 1, 1) := by decide +kernel
theorem dX12_close_38 : decode cX12_close 38 = .ok (.iload_n 3, 1) := by decide +kernel
theorem dX12_close_39 : decode cX12_close 39 = .ok (.invokevirtual 193, 3) := by decide +kernel
theorem dX12_close_42 : decode cX12_close 42 = .ok (.goto 9, 3) := by decide +kernel
theorem dX12_close_45 : decode cX12_close 45 = .ok (.aload_n 0, 1) := by decide +kernel
theorem dX12_close_46 : decode cX12_close 46 = .ok (.iload_n 1, 1) := by decide +kernel
theorem dX12_close_47 : decode cX12_close 47 = .ok (.iload_n 3, 1) := by decide +kernel
theorem dX12_close_48 : decode cX12_close 48 = .ok (.invokevirtual 196, 3) := by decide +kernel
theorem dX12_close_51 : decode cX12_close 51 = .ok (.ireturn, 1) := by decide +kernel
theorem cm_X12_close : CM yX12_close cX12_close 4 (some .int) 3 12 := ⟨w_1655, w_1656, w_1657, w_97, ⟨by decide +kernel, by decide +kernel, by decide +kernel⟩, ⟨_, _, rfl⟩, by decide⟩
noncomputable def f_X12_close_18 (n : Nat)  (h : MM) : RR :=
  some ((-1), h)
noncomputable def f_X12_close_51 (n : Nat)  (s0 : Int) (h : MM) : RR :=
  some (s0, h)
noncomputable def f_X12_close (n : Nat) (v0 v1 v2 v3 : Int) (h : MM) : RR :=
  gk h v0 12 <|
  bd (f_X12_isOf n v0 v1 2 h) fun r1 h1 =>
  if r1 = 0 then
    f_X12_close_18 n h1
  else
  bd (f_X12_in n v2 0 1 h1) fun r3 h3 =>
  if r3 = 0 then
    f_X12_close_18 n h3
  else
  bd (f_X12_isDay n v3 h3) fun r5 h5 =>
  if r5 = 0 then
    f_X12_close_51 n ((-2)) h5
  else
  if v2 = 0 then
    gk h5 v0 12 <|
    bd (f_X12_notClose n v0 v1 v3 h5) fun r9 h9 =>
    f_X12_close_51 n r9 h9
  else
  gk h5 v0 12 <|
  bd (f_X12_steep n v0 v1 v3 h5) fun r8 h8 =>
  f_X12_close_51 n r8 h8
set_option maxRecDepth 20000 in
theorem b_X12_close_18 {g : GT} {Z : Int × MM} {n : Nat} (C : Cx g cX12_close 4 yX12_close 3 73) (hr : Rt g (some .int) 0 Z)     {h : MM} (hf : f_X12_close_18 n   h = some Z) : G g 18 [(3, 0), (3, 0), (3, 0), (3, 0)] [] h := by
  unfold f_X12_close_18 at hf
  refine r_iconst C dX12_close_18 ?_
  cases hf
  exact r_jret C hr dX12_close_19 (in32_of rfl)
set_option maxRecDepth 20000 in
theorem b_X12_close_51 {g : GT} {Z : Int × MM} {n : Nat} (C : Cx g cX12_close 4 yX12_close 3 73) (hr : Rt g (some .int) 0 Z) {s0 : Int}    (cs0 : in32 s0) {h : MM} (hf : f_X12_close_51 n  s0 h = some Z) : G g 51 [(3, 0), (3, 0), (3, 0), (3, 0)] [(0, s0)] h := by
  unfold f_X12_close_51 at hf
  cases hf
  exact r_jret C hr dX12_close_51 cs0
set_option maxRecDepth 20000 in
theorem e_X12_close {g : GT} {Z : Int × MM} {n : Nat} (C : Cx g cX12_close 4 yX12_close 3 73) (hr : Rt g (some .int) 0 Z) {v0 v1 v2 v3 : Int} (cv0 : cK 2 v0) (cv1 : cK 0 v1) (cv2 : cK 0 v2) (cv3 : cK 0 v3) {h : MM} (hf : f_X12_close n v0 v1 v2 v3 h = some Z) : G g 0 [(2, v0), (0, v1), (0, v2), (0, v3)] [] h := by
  have cv1 : in32 v1 := cv1
  have cv2 : in32 v2 := cv2
  have cv3 : in32 v3 := cv3
  unfold f_X12_close at hf
  refine r_aload_n C dX12_close_0 rfl ?_
  refine r_iload_n C dX12_close_1 rfl ?_
  refine r_iconst C dX12_close_2 ?_
  obtain ⟨p1, hf⟩ := gk_s hf
  obtain ⟨r1, h1, hq1, hf⟩ := bd_s hf
  refine r_cV2 C (am_X12_isOf (gl g) n) cm_X12_isOf w_1607 dX12_close_3 ⟨Nat.le_of_ble_eq_true rfl, Nat.le_of_ble_eq_true rfl⟩ p1 rfl cv1 (in32_of rfl) rfl (Nat.le_of_ble_eq_true rfl) hq1 (by decide) (fun c1 => ?_)
  have c1 : in32 _ := c1
  refine r_if_eq C dX12_close_6 (tgt := 18) (by decide) c1 (fun n2 => ?_) (fun n2 => ?_)
  · have hf := ite_p n2 hf
    exact G.mask [false, false, false, false] rfl rfl (b_X12_close_18 C hr   hf)
  · have hf := ite_n n2 hf
    refine r_iload_n C dX12_close_9 rfl ?_
    refine r_iconst C dX12_close_10 ?_
    refine r_iconst C dX12_close_11 ?_
    obtain ⟨r3, h3, hq3, hf⟩ := bd_s hf
    refine r_cS3 C (am_X12_in (gl g) n) cm_X12_in w_1496 dX12_close_12 ⟨Nat.le_of_ble_eq_true rfl, Nat.le_of_ble_eq_true rfl⟩ cv2 (in32_of rfl) (in32_of rfl) rfl (Nat.le_of_ble_eq_true rfl) hq3 (by decide) (fun c3 => ?_)
    have c3 : in32 _ := c3
    refine r_if_ne C dX12_close_15 (tgt := 20) (by decide) c3 (fun n4 => ?_) (fun n4 => ?_)
    · have hf := ite_n n4 hf
      refine r_iload_n C dX12_close_20 rfl ?_
      obtain ⟨r5, h5, hq5, hf⟩ := bd_s hf
      refine r_cS1 C (am_X12_isDay (gl g) n) cm_X12_isDay w_1524 dX12_close_21 ⟨Nat.le_of_ble_eq_true rfl, Nat.le_of_ble_eq_true rfl⟩ cv3 rfl (Nat.le_of_ble_eq_true rfl) hq5 (by decide) (fun c5 => ?_)
      have c5 : in32 _ := c5
      refine r_if_ne C dX12_close_24 (tgt := 32) (by decide) c5 (fun n6 => ?_) (fun n6 => ?_)
      · have hf := ite_n n6 hf
        refine r_iload_n C dX12_close_32 rfl ?_
        refine r_if_ne C dX12_close_33 (tgt := 45) (by decide) cv2 (fun n7 => ?_) (fun n7 => ?_)
        · have hf := ite_n n7 hf
          refine r_aload_n C dX12_close_45 rfl ?_
          refine r_iload_n C dX12_close_46 rfl ?_
          refine r_iload_n C dX12_close_47 rfl ?_
          obtain ⟨p8, hf⟩ := gk_s hf
          obtain ⟨r8, h8, hq8, hf⟩ := bd_s hf
          refine r_cV2 C (am_X12_steep (gl g) n) cm_X12_steep w_1662 dX12_close_48 ⟨Nat.le_of_ble_eq_true rfl, Nat.le_of_ble_eq_true rfl⟩ p8 rfl cv1 cv3 rfl (Nat.le_of_ble_eq_true rfl) hq8 (by decide) (fun c8 => ?_)
          have c8 : in32 _ := c8
          exact G.mask [false, false, false, false] rfl rfl (b_X12_close_51 C hr  c8 hf)
        · have hf := ite_p n7 hf
          refine r_aload_n C dX12_close_36 rfl ?_
          refine r_iload_n C dX12_close_37 rfl ?_
          refine r_iload_n C dX12_close_38 rfl ?_
          obtain ⟨p9, hf⟩ := gk_s hf
          obtain ⟨r9, h9, hq9, hf⟩ := bd_s hf
          refine r_cV2 C (am_X12_notClose (gl g) n) cm_X12_notClose w_1658 dX12_close_39 ⟨Nat.le_of_ble_eq_true rfl, Nat.le_of_ble_eq_true rfl⟩ p9 rfl cv1 cv3 rfl (Nat.le_of_ble_eq_true rfl) hq9 (by decide) (fun c9 => ?_)
          have c9 : in32 _ := c9
          refine r_goto C dX12_close_42 (tgt := 51) (by decide) ?_
          exact G.mask [false, false, false, false] rfl rfl (b_X12_close_51 C hr  c9 hf)
      · have hf := ite_p n6 hf
        refine r_bipush C dX12_close_27 rfl ?_
        refine r_goto C dX12_close_29 (tgt := 51) (by decide) ?_
        exact G.mask [false, false, false, false] rfl rfl (b_X12_close_51 C hr  (in32_of rfl) hf)
    · have hf := ite_p n4 hf
      exact G.mask [false, false, false, false] rfl rfl (b_X12_close_18 C hr   hf)
set_option maxRecDepth 20000 in
theorem am_X12_close (l : Launch) (n : Nat) : AM l yX12_close cX12_close 4 (some .int) 3 73 [2, 0, 0, 0] 0 (un4 (f_X12_close n)) := by
  refine AM.intro (by decide) (fun xs hx => ?_) (fun g xs h Z hl C hr hx hf => ?_)
  · obtain ⟨a0, a1, a2, a3, rfl, c0, c1, c2, c3⟩ := canL_4 hx
    exact Nat.le_of_ble_eq_true rfl
  · obtain ⟨a0, a1, a2, a3, rfl, c0, c1, c2, c3⟩ := canL_4 hx
    have hf := (un4_e _ a0 a1 a2 a3 _).symm.trans hf
    exact e_X12_close (n := n) C hr c0 c1 c2 c3 hf
/-! LinesPromisedModel.quarrel(II)I -/
theorem dX12_quarrel_0 : decode cX12_quarrel 0 = .ok (.aload_n 0, 1) := by decide +kernel
theorem dX12_quarrel_1 : decode cX12_quarrel 1 = .ok (.iload_n 1, 1) := by decide +kernel
theorem dX12_quarrel_2 : decode cX12_quarrel 2 = .ok (.iconst 2, 1) := by decide +kernel
theorem dX12_quarrel_3 : decode cX12_quarrel 3 = .ok (.invokevirtual 165, 3) := by decide +kernel
theorem dX12_quarrel_6 : decode cX12_quarrel 6 = .ok (.ifCond .eq 12, 3) := by decide +kernel
theorem dX12_quarrel_9 : decode cX12_quarrel 9 = .ok (.aload_n 0, 1) := by decide +kernel
theorem dX12_quarrel_10 : decode cX12_quarrel 10 = .ok (.iload_n 2, 1) := by decide +kernel
theorem dX12_quarrel_11 : decode cX12_quarrel 11 = .ok (.iconst 2, 1) := by decide +kernel
theorem dX12_quarrel_12 : decode cX12_quarrel 12 = .ok (.invokevirtual 165, 3) := by decide +kernel
theorem dX12_quarrel_15 : decode cX12_quarrel 15 = .ok (.ifCond .ne 5, 3) := by decide +kernel
theorem dX12_quarrel_18 : decode cX12_quarrel 18 = .ok (.iconst (-1), 1) := by decide +kernel
theorem dX12_quarrel_19 : decode cX12_quarrel 19 = .ok (.ireturn, 1) := by decide +kernel
theorem dX12_quarrel_20 : decode cX12_quarrel 20 = .ok (.iload_n 1, 1) := by decide +kernel
theorem dX12_quarrel_21 : decode cX12_quarrel 21 = .ok (.iload_n 2, 1) := by decide +kernel
theorem dX12_quarrel_22 : decode cX12_quarrel 22 = .ok (.if_icmp .ne 6, 3) := by decide +kernel
theorem dX12_quarrel_25 : decode cX12_quarrel 25 = .ok (.bipush (-2), 2) := by decide +kernel
theorem dX12_quarrel_27 : decode cX12_quarrel 27 = .ok (.ireturn, 1) := by decide +kernel
theorem dX12_quarrel_28 : decode cX12_quarrel 28 = .ok (.iconst 0, 1) := by decide +kernel
theorem dX12_quarrel_29 : decode cX12_quarrel 29 = .ok (.istore_n 3, 1) := by decide +kernel
theorem dX12_quarrel_30 : decode cX12_quarrel 30 = .ok (.iload_n 3, 1) := by decide +kernel
theorem dX12_quarrel_31 : decode cX12_quarrel 31 = .ok (.aload_n 0, 1) := by decide +kernel
theorem dX12_quarrel_32 : decode cX12_quarrel 32 = .ok (.getfield 8, 3) := by decide +kernel
theorem dX12_quarrel_35 : decode cX12_quarrel 35 = .ok (.sipush 850, 3) := by decide +kernel
theorem dX12_quarrel_38 : decode cX12_quarrel 38 = .ok (.iload_n 1, 1) := by decide +kernel
theorem dX12_quarrel_39 : decode cX12_quarrel 39 = .ok (.iadd, 1) := by decide +kernel
theorem dX12_quarrel_40 : decode cX12_quarrel 40 = .ok (.iaload, 1) := by decide +kernel
theorem dX12_quarrel_41 : decode cX12_quarrel 41 = .ok (.if_icmp .ge 105, 3) := by decide +kernel
theorem dX12_quarrel_44 : decode cX12_quarrel 44 = .ok (.aload_n 0, 1) := by decide +kernel
theorem dX12_quarrel_45 : decode cX12_quarrel 45 = .ok (.getfield 8, 3) := by decide +kernel
theorem dX12_quarrel_48 : decode cX12_quarrel 48 = .ok (.sipush 4700, 3) := by decide +kernel
theorem dX12_quarrel_51 : decode cX12_quarrel 51 = .ok (.bipush 41, 2) := by decide +kernel
theorem dX12_quarrel_53 : decode cX12_quarrel 53 = .ok (.iload_n 1, 1) := by decide +kernel
theorem dX12_quarrel_54 : decode cX12_quarrel 54 = .ok (.imul, 1) := by decide +kernel
theorem dX12_quarrel_55 : decode cX12_quarrel 55 = .ok (.iadd, 1) := by decide +kernel
theorem dX12_quarrel_56 : decode cX12_quarrel 56 = .ok (.iload_n 3, 1) := by decide +kernel
theorem dX12_quarrel_57 : decode cX12_quarrel 57 = .ok (.iadd, 1) := by decide +kernel
theorem dX12_quarrel_58 : decode cX12_quarrel 58 = .ok (.iaload, 1) := by decide +kernel
theorem dX12_quarrel_59 : decode cX12_quarrel 59 = .ok (.istore 4, 2) := by decide +kernel
theorem dX12_quarrel_61 : decode cX12_quarrel 61 = .ok (.aload_n 0, 1) := by decide +kernel
theorem dX12_quarrel_62 : decode cX12_quarrel 62 = .ok (.iload_n 2, 1) := by decide +kernel
theorem dX12_quarrel_63 : decode cX12_quarrel 63 = .ok (.iload 4, 2) := by decide +kernel
theorem dX12_quarrel_65 : decode cX12_quarrel 65 = .ok (.invokevirtual 162, 3) := by decide +kernel
theorem dX12_quarrel_68 : decode cX12_quarrel 68 = .ok (.istore 5, 2) := by decide +kernel
theorem dX12_quarrel_70 : decode cX12_quarrel 70 = .ok (.aload_n 0, 1) := by decide +kernel
theorem dX12_quarrel_71 : decode cX12_quarrel 71 = .ok (.getfield 8, 3) := by decide +kernel
theorem dX12_quarrel_74 : decode cX12_quarrel 74 = .ok (.sipush 7160, 3) := by decide +kernel
theorem dX12_quarrel_77 : decode cX12_quarrel 77 = .ok (.bipush 41, 2) := by decide +kernel
theorem dX12_quarrel_79 : decode cX12_quarrel 79 = .ok (.iload_n 1, 1) := by decide +kernel
theorem dX12_quarrel_80 : decode cX12_quarrel 80 = .ok (.imul, 1) := by decide +kernel
theorem dX12_quarrel_81 : decode cX12_quarrel 81 = .ok (.iadd, 1) := by decide +kernel
theorem dX12_quarrel_82 : decode cX12_quarrel 82 = .ok (.iload_n 3, 1) := by decide +kernel
theorem dX12_quarrel_83 : decode cX12_quarrel 83 = .ok (.iadd, 1) := by decide +kernel
theorem dX12_quarrel_84 : decode cX12_quarrel 84 = .ok (.iaload, 1) := by decide +kernel
theorem dX12_quarrel_85 : decode cX12_quarrel 85 = .ok (.istore 6, 2) := by decide +kernel
theorem dX12_quarrel_87 : decode cX12_quarrel 87 = .ok (.iload 5, 2) := by decide +kernel
theorem dX12_quarrel_89 : decode cX12_quarrel 89 = .ok (.iconst (-1), 1) := by decide +kernel
theorem dX12_quarrel_90 : decode cX12_quarrel 90 = .ok (.if_icmp .ne 8, 3) := by decide +kernel
theorem dX12_quarrel_93 : decode cX12_quarrel 93 = .ok (.ldc 181, 2) := by decide +kernel
theorem dX12_quarrel_95 : decode cX12_quarrel 95 = .ok (.goto 19, 3) := by decide +kernel
theorem dX12_quarrel_98 : decode cX12_quarrel 98 = .ok (.aload_n 0, 1) := by decide +kernel
theorem dX12_quarrel_99 : decode cX12_quarrel 99 = .ok (.getfield 8, 3) := by decide +kernel
theorem dX12_quarrel_102 : decode cX12_quarrel 102 = .ok (.sipush 7160, 3) := by decide +kernel
theorem dX12_quarrel_105 : decode cX12_quarrel 105 = .ok (.bipush 41, 2) := by decide +kernel
theorem dX12_quarrel_107 : decode cX12_quarrel 107 = .ok (.iload_n 2, 1) := by decide +kernel
theorem dX12_quarrel_108 : decode cX12_quarrel 108 = .ok (.imul, 1) := by decide +kernel
theorem dX12_quarrel_109 : decode cX12_quarrel 109 = .ok (.iadd, 1) := by decide +kernel
theorem dX12_quarrel_110 : decode cX12_quarrel 110 = .ok (.iload 5, 2) := by decide +kernel
theorem dX12_quarrel_112 : decode cX12_quarrel 112 = .ok (.iadd, 1) := by decide +kernel
theorem dX12_quarrel_113 : decode cX12_quarrel 113 = .ok (.iaload, 1) := by decide +kernel
theorem dX12_quarrel_114 : decode cX12_quarrel 114 = .ok (.istore 7, 2) := by decide +kernel
theorem dX12_quarrel_116 : decode cX12_quarrel 116 = .ok (.iload 6, 2) := by decide +kernel
theorem dX12_quarrel_118 : decode cX12_quarrel 118 = .ok (.ldc 181, 2) := by decide +kernel
theorem dX12_quarrel_120 : decode cX12_quarrel 120 = .ok (.if_icmp .eq 20, 3) := by decide +kernel
theorem dX12_quarrel_123 : decode cX12_quarrel 123 = .ok (.iload 7, 2) := by decide +kernel
theorem dX12_quarrel_125 : decode cX12_quarrel 125 = .ok (.ldc 181, 2) := by decide +kernel
theorem dX12_quarrel_127 : decode cX12_quarrel 127 = .ok (.if_icmp .eq 13, 3) := by decide +kernel
theorem dX12_quarrel_130 : decode cX12_quarrel 130 = .ok (.iload 6, 2) := by decide +kernel
theorem dX12_quarrel_132 : decode cX12_quarrel 132 = .ok (.iload 7, 2) := by decide +kernel
theorem dX12_quarrel_134 : decode cX12_quarrel 134 = .ok (.if_icmp .eq 6, 3) := by decide +kernel
theorem dX12_quarrel_137 : decode cX12_quarrel 137 = .ok (.iload 4, 2) := by decide +kernel
theorem dX12_quarrel_139 : decode cX12_quarrel 139 = .ok (.ireturn, 1) := by decide +kernel
theorem dX12_quarrel_140 : decode cX12_quarrel 140 = .ok (.iinc 3 1, 3) := by decide +kernel
theorem dX12_quarrel_143 : decode cX12_quarrel 143 = .ok (.goto (-113), 3) := by decide +kernel
theorem dX12_quarrel_146 : decode cX12_quarrel 146 = .ok (.bipush (-5), 2) := by decide +kernel
theorem dX12_quarrel_148 : decode cX12_quarrel 148 = .ok (.ireturn, 1) := by decide +kernel
theorem cm_X12_quarrel : CM yX12_quarrel cX12_quarrel 8 (some .int) 2 12 := ⟨w_1667, w_1668, w_1669, w_97, ⟨by decide +kernel, by decide +kernel, by decide +kernel⟩, ⟨_, _, rfl⟩, by decide⟩
noncomputable def f_X12_quarrel_18 (n : Nat)  (h : MM) : RR :=
  some ((-1), h)
noncomputable def f_X12_quarrel_140 (n : Nat) (rec30 : Int → MM → RR) (v0 v1 v2 v3 : Int) (h : MM) : RR :=
  lb (wr (v3 + 1)) fun x1 =>
  rec30 x1 h
noncomputable def f_X12_quarrel_114 (n : Nat) (rec30 : Int → MM → RR) (v0 v1 v2 v3 v4 v6 s0 : Int) (h : MM) : RR :=
  if v6 = (-1000000) then
    f_X12_quarrel_140 n rec30 v0 v1 v2 v3 h
  else
  if s0 = (-1000000) then
    f_X12_quarrel_140 n rec30 v0 v1 v2 v3 h
  else
  if v6 = s0 then
    f_X12_quarrel_140 n rec30 v0 v1 v2 v3 h
  else
  some (v4, h)
noncomputable def f_X12_quarrel_30b (n : Nat) (rec30 : Int → MM → RR) (v0 v1 v2 v3 : Int) (h : MM) : RR :=
  gf h v0 12 1 fun r1 =>
  rd h r1 100 (wr (850 + v1)) fun r2 =>
  if r2 ≤ v3 then
    some ((-5), h)
  else
  gf h v0 12 1 fun r4 =>
  rd h r4 100 (wr ((wr (4700 + (wr (41 * v1)))) + v3)) fun r5 =>
  gk h v0 12 <|
  bd (f_X12_placeIn n v0 v2 r5 h) fun r6 h6 =>
  gf h6 v0 12 1 fun r7 =>
  rd h6 r7 100 (wr ((wr (7160 + (wr (41 * v1)))) + v3)) fun r8 =>
  if r6 = (-1) then
    f_X12_quarrel_114 n rec30 v0 v1 v2 v3 r5 r8 ((-1000000)) h6
  else
  gf h6 v0 12 1 fun r10 =>
  rd h6 r10 100 (wr ((wr (7160 + (wr (41 * v2)))) + r6)) fun r11 =>
  f_X12_quarrel_114 n rec30 v0 v1 v2 v3 r5 r8 r11 h6
noncomputable def f_X12_quarrel_30 (n : Nat)  (v0 v1 v2 : Int) : Nat → Int → MM → RR
  | 0, _, _ => none
  | k + 1, v3, h => f_X12_quarrel_30b n  (f_X12_quarrel_30 n  v0 v1 v2 k) v0 v1 v2 v3 h
noncomputable def f_X12_quarrel (n : Nat) (v0 v1 v2 : Int) (h : MM) : RR :=
  gk h v0 12 <|
  bd (f_X12_isOf n v0 v1 2 h) fun r1 h1 =>
  if r1 = 0 then
    f_X12_quarrel_18 n h1
  else
  gk h1 v0 12 <|
  bd (f_X12_isOf n v0 v2 2 h1) fun r3 h3 =>
  if r3 = 0 then
    f_X12_quarrel_18 n h3
  else
  if v1 = v2 then
    some ((-2), h3)
  else
  f_X12_quarrel_30 n v0 v1 v2 n 0 h3
set_option maxRecDepth 20000 in
theorem b_X12_quarrel_18 {g : GT} {Z : Int × MM} {n : Nat} (C : Cx g cX12_quarrel 8 yX12_quarrel 3 65) (hr : Rt g (some .int) 0 Z)     {h : MM} (hf : f_X12_quarrel_18 n   h = some Z) : G g 18 [(3, 0), (3, 0), (3, 0), (3, 0), (3, 0), (3, 0), (3, 0), (3, 0)] [] h := by
  unfold f_X12_quarrel_18 at hf
  refine r_iconst C dX12_quarrel_18 ?_
  cases hf
  exact r_jret C hr dX12_quarrel_19 (in32_of rfl)
set_option maxRecDepth 20000 in
theorem b_X12_quarrel_140 {g : GT} {Z : Int × MM} {n : Nat} (C : Cx g cX12_quarrel 8 yX12_quarrel 3 65) (hr : Rt g (some .int) 0 Z) {v0 v1 v2 v3 : Int}  {rec30 : Int → MM → RR} (L30 : ∀ (u3 : Int) (h : MM), in32 u3 → rec30 u3 h = some Z → G g 30 [(2, v0), (0, v1), (0, v2), (0, u3), (3, 0), (3, 0), (3, 0), (3, 0)] [] h) (cv1 : in32 v1) (cv2 : in32 v2) (cv3 : in32 v3) {h : MM} (hf : f_X12_quarrel_140 n rec30 v0 v1 v2 v3 h = some Z) : G g 140 [(2, v0), (0, v1), (0, v2), (0, v3), (3, 0), (3, 0), (3, 0), (3, 0)] [] h := by
  unfold f_X12_quarrel_140 at hf
  obtain ⟨x1, e1, hf⟩ := lb_s hf
  have c1 : in32 x1 := by rw [e1]; exact (in32_t _)
  refine r_iincL C dX12_quarrel_140 rfl e1 (Nat.le_of_ble_eq_true rfl) rfl ?_
  refine r_goto C dX12_quarrel_143 (tgt := 30) (by decide) ?_
  exact G.mask [true, true, true, true, false, false, false, false] rfl rfl (L30 _ _ c1 hf)
set_option maxRecDepth 20000 in
theorem b_X12_quarrel_114 {g : GT} {Z : Int × MM} {n : Nat} (C : Cx g cX12_quarrel 8 yX12_quarrel 3 65) (hr : Rt g (some .int) 0 Z) {v0 v1 v2 v3 v4 v6 s0 : Int}  {rec30 : Int → MM → RR} (L30 : ∀ (u3 : Int) (h : MM), in32 u3 → rec30 u3 h = some Z → G g 30 [(2, v0), (0, v1), (0, v2), (0, u3), (3, 0), (3, 0), (3, 0), (3, 0)] [] h) (cv1 : in32 v1) (cv2 : in32 v2) (cv3 : in32 v3) (cv4 : in32 v4) (cv6 : in32 v6) (cs0 : in32 s0) {h : MM} (hf : f_X12_quarrel_114 n rec30 v0 v1 v2 v3 v4 v6 s0 h = some Z) : G g 114 [(2, v0), (0, v1), (0, v2), (0, v3), (0, v4), (3, 0), (0, v6), (3, 0)] [(0, s0)] h := by
  unfold f_X12_quarrel_114 at hf
  refine r_istore C dX12_quarrel_114 (Nat.le_of_ble_eq_true rfl) rfl ?_
  refine r_iload C dX12_quarrel_116 rfl ?_
  refine r_ldc C (v := (-1000000)) dX12_quarrel_118 w_1633 ?_
  refine r_icmp_eq C dX12_quarrel_120 (tgt := 140) (by decide) cv6 (in32_of rfl) (fun n1 => ?_) (fun n1 => ?_)
  · have hf := ite_p n1 hf
    exact G.mask [true, true, true, true, false, false, false, false] rfl rfl (b_X12_quarrel_140 C hr L30 cv1 cv2 cv3 hf)
  · have hf := ite_n n1 hf
    refine r_iload C dX12_quarrel_123 rfl ?_
    refine r_ldc C (v := (-1000000)) dX12_quarrel_125 w_1633 ?_
    refine r_icmp_eq C dX12_quarrel_127 (tgt := 140) (by decide) cs0 (in32_of rfl) (fun n2 => ?_) (fun n2 => ?_)
    · have hf := ite_p n2 hf
      exact G.mask [true, true, true, true, false, false, false, false] rfl rfl (b_X12_quarrel_140 C hr L30 cv1 cv2 cv3 hf)
    · have hf := ite_n n2 hf
      refine r_iload C dX12_quarrel_130 rfl ?_
      refine r_iload C dX12_quarrel_132 rfl ?_
      refine r_icmp_eq C dX12_quarrel_134 (tgt := 140) (by decide) cv6 cs0 (fun n3 => ?_) (fun n3 => ?_)
      · have hf := ite_p n3 hf
        exact G.mask [true, true, true, true, false, false, false, false] rfl rfl (b_X12_quarrel_140 C hr L30 cv1 cv2 cv3 hf)
      · have hf := ite_n n3 hf
        refine r_iload C dX12_quarrel_137 rfl ?_
        cases hf
        exact r_jret C hr dX12_quarrel_139 cv4
set_option maxRecDepth 20000 in
theorem b_X12_quarrel_30b {g : GT} {Z : Int × MM} {n : Nat} (C : Cx g cX12_quarrel 8 yX12_quarrel 3 65) (hr : Rt g (some .int) 0 Z) {v0 v1 v2 v3 : Int}  {rec30 : Int → MM → RR} (L30 : ∀ (u3 : Int) (h : MM), in32 u3 → rec30 u3 h = some Z → G g 30 [(2, v0), (0, v1), (0, v2), (0, u3), (3, 0), (3, 0), (3, 0), (3, 0)] [] h) (cv1 : in32 v1) (cv2 : in32 v2) (cv3 : in32 v3) {h : MM} (hf : f_X12_quarrel_30b n rec30 v0 v1 v2 v3 h = some Z) : G g 30 [(2, v0), (0, v1), (0, v2), (0, v3), (3, 0), (3, 0), (3, 0), (3, 0)] [] h := by
  unfold f_X12_quarrel_30b at hf
  refine r_iload_n C dX12_quarrel_30 rfl ?_
  refine r_aload_n C dX12_quarrel_31 rfl ?_
  obtain ⟨q1, hf⟩ := gf_s hf
  refine r_gf C ct12 (j := 1) (ji := 1) dX12_quarrel_32 q1 rfl rfl (by decide) w_1426 rfl (fun c1 => ?_)
  refine r_sipush C dX12_quarrel_35 rfl ?_
  refine r_iload_n C dX12_quarrel_38 rfl ?_
  refine r_iadd C dX12_quarrel_39 ?_
  obtain ⟨q2, hf⟩ := rd_s hf
  refine r_iald C dX12_quarrel_40 q2 rfl (fun c2 => ?_)
  refine r_icmp_ge C dX12_quarrel_41 (tgt := 146) (by decide) cv3 c2 (fun n3 => ?_) (fun n3 => ?_)
  · have hf := ite_p n3 hf
    refine r_bipush C dX12_quarrel_146 rfl ?_
    cases hf
    exact r_jret C hr dX12_quarrel_148 (in32_of rfl)
  · have hf := ite_n n3 hf
    refine r_aload_n C dX12_quarrel_44 rfl ?_
    obtain ⟨q4, hf⟩ := gf_s hf
    refine r_gf C ct12 (j := 1) (ji := 1) dX12_quarrel_45 q4 rfl rfl (by decide) w_1426 rfl (fun c4 => ?_)
    refine r_sipush C dX12_quarrel_48 rfl ?_
    refine r_bipush C dX12_quarrel_51 rfl ?_
    refine r_iload_n C dX12_quarrel_53 rfl ?_
    refine r_imul C dX12_quarrel_54 ?_
    refine r_iadd C dX12_quarrel_55 ?_
    refine r_iload_n C dX12_quarrel_56 rfl ?_
    refine r_iadd C dX12_quarrel_57 ?_
    obtain ⟨q5, hf⟩ := rd_s hf
    refine r_iald C dX12_quarrel_58 q5 rfl (fun c5 => ?_)
    refine r_istore C dX12_quarrel_59 (Nat.le_of_ble_eq_true rfl) rfl ?_
    refine r_aload_n C dX12_quarrel_61 rfl ?_
    refine r_iload_n C dX12_quarrel_62 rfl ?_
    refine r_iload C dX12_quarrel_63 rfl ?_
    obtain ⟨p6, hf⟩ := gk_s hf
    obtain ⟨r6, h6, hq6, hf⟩ := bd_s hf
    refine r_cV2 C (am_X12_placeIn (gl g) n) cm_X12_placeIn w_1625 dX12_quarrel_65 ⟨Nat.le_of_ble_eq_true rfl, Nat.le_of_ble_eq_true rfl⟩ p6 rfl cv2 c5 rfl (Nat.le_of_ble_eq_true rfl) hq6 (by decide) (fun c6 => ?_)
    have c6 : in32 _ := c6
    refine r_istore C dX12_quarrel_68 (Nat.le_of_ble_eq_true rfl) rfl ?_
    refine r_aload_n C dX12_quarrel_70 rfl ?_
    obtain ⟨q7, hf⟩ := gf_s hf
    refine r_gf C ct12 (j := 1) (ji := 1) dX12_quarrel_71 q7 rfl rfl (by decide) w_1426 rfl (fun c7 => ?_)
    refine r_sipush C dX12_quarrel_74 rfl ?_
    refine r_bipush C dX12_quarrel_77 rfl ?_
    refine r_iload_n C dX12_quarrel_79 rfl ?_
    refine r_imul C dX12_quarrel_80 ?_
    refine r_iadd C dX12_quarrel_81 ?_
    refine r_iload_n C dX12_quarrel_82 rfl ?_
    refine r_iadd C dX12_quarrel_83 ?_
    obtain ⟨q8, hf⟩ := rd_s hf
    refine r_iald C dX12_quarrel_84 q8 rfl (fun c8 => ?_)
    refine r_istore C dX12_quarrel_85 (Nat.le_of_ble_eq_true rfl) rfl ?_
    refine r_iload C dX12_quarrel_87 rfl ?_
    refine r_iconst C dX12_quarrel_89 ?_
    refine r_icmp_ne C dX12_quarrel_90 (tgt := 98) (by decide) c6 (in32_of rfl) (fun n9 => ?_) (fun n9 => ?_)
    · have hf := ite_n n9 hf
      refine r_aload_n C dX12_quarrel_98 rfl ?_
      obtain ⟨q10, hf⟩ := gf_s hf
      refine r_gf C ct12 (j := 1) (ji := 1) dX12_quarrel_99 q10 rfl rfl (by decide) w_1426 rfl (fun c10 => ?_)
      refine r_sipush C dX12_quarrel_102 rfl ?_
      refine r_bipush C dX12_quarrel_105 rfl ?_
      refine r_iload_n C dX12_quarrel_107 rfl ?_
      refine r_imul C dX12_quarrel_108 ?_
      refine r_iadd C dX12_quarrel_109 ?_
      refine r_iload C dX12_quarrel_110 rfl ?_
      refine r_iadd C dX12_quarrel_112 ?_
      obtain ⟨q11, hf⟩ := rd_s hf
      refine r_iald C dX12_quarrel_113 q11 rfl (fun c11 => ?_)
      exact G.mask [true, true, true, true, true, false, true, false] rfl rfl (b_X12_quarrel_114 C hr L30 cv1 cv2 cv3 c5 c8 c11 hf)
    · have hf := ite_p n9 hf
      refine r_ldc C (v := (-1000000)) dX12_quarrel_93 w_1633 ?_
      refine r_goto C dX12_quarrel_95 (tgt := 114) (by decide) ?_
      exact G.mask [true, true, true, true, true, false, true, false] rfl rfl (b_X12_quarrel_114 C hr L30 cv1 cv2 cv3 c5 c8 (in32_of rfl) hf)
set_option maxRecDepth 20000 in
theorem l_X12_quarrel_30 {g : GT} {Z : Int × MM} {n : Nat} (C : Cx g cX12_quarrel 8 yX12_quarrel 3 65) (hr : Rt g (some .int) 0 Z) {v0 v1 v2 : Int}   (cv1 : in32 v1) (cv2 : in32 v2) : ∀ (k : Nat) (v3 : Int) (h : MM), in32 v3 → f_X12_quarrel_30 n  v0 v1 v2 k v3 h = some Z → G g 30 [(2, v0), (0, v1), (0, v2), (0, v3), (3, 0), (3, 0), (3, 0), (3, 0)] [] h := by
  intro k
  induction k with
  | zero => intro v3 h cv3 hf; exact absurd hf (by intro z; cases z)
  | succ k ih => intro v3 h cv3 hf; exact b_X12_quarrel_30b C hr (rec30 := f_X12_quarrel_30 n  v0 v1 v2 k)  ih cv1 cv2 cv3 (show f_X12_quarrel_30b n  (f_X12_quarrel_30 n  v0 v1 v2 k) v0 v1 v2 v3 h = some Z from hf)
set_option maxRecDepth 20000 in
theorem e_X12_quarrel {g : GT} {Z : Int × MM} {n : Nat} (C : Cx g cX12_quarrel 8 yX12_quarrel 3 65) (hr : Rt g (some .int) 0 Z) {v0 v1 v2 : Int} (cv0 : cK 2 v0) (cv1 : cK 0 v1) (cv2 : cK 0 v2) {h : MM} (hf : f_X12_quarrel n v0 v1 v2 h = some Z) : G g 0 [(2, v0), (0, v1), (0, v2), (3, 0), (3, 0), (3, 0), (3, 0), (3, 0)] [] h := by
  have cv1 : in32 v1 := cv1
  have cv2 : in32 v2 := cv2
  unfold f_X12_quarrel at hf
  refine r_aload_n C dX12_quarrel_0 rfl ?_
  refine r_iload_n C dX12_quarrel_1 rfl ?_
  refine r_iconst C dX12_quarrel_2 ?_
  obtain ⟨p1, hf⟩ := gk_s hf
  obtain ⟨r1, h1, hq1, hf⟩ := bd_s hf
  refine r_cV2 C (am_X12_isOf (gl g) n) cm_X12_isOf w_1607 dX12_quarrel_3 ⟨Nat.le_of_ble_eq_true rfl, Nat.le_of_ble_eq_true rfl⟩ p1 rfl cv1 (in32_of rfl) rfl (Nat.le_of_ble_eq_true rfl) hq1 (by decide) (fun c1 => ?_)
  have c1 : in32 _ := c1
  refine r_if_eq C dX12_quarrel_6 (tgt := 18) (by decide) c1 (fun n2 => ?_) (fun n2 => ?_)
  · have hf := ite_p n2 hf
    exact G.mask [false, false, false, false, false, false, false, false] rfl rfl (b_X12_quarrel_18 C hr   hf)
  · have hf := ite_n n2 hf
    refine r_aload_n C dX12_quarrel_9 rfl ?_
    refine r_iload_n C dX12_quarrel_10 rfl ?_
    refine r_iconst C dX12_quarrel_11 ?_
    obtain ⟨p3, hf⟩ := gk_s hf
    obtain ⟨r3, h3, hq3, hf⟩ := bd_s hf
    refine r_cV2 C (am_X12_isOf (gl g) n) cm_X12_isOf w_1607 dX12_quarrel_12 ⟨Nat.le_of_ble_eq_true rfl, Nat.le_of_ble_eq_true rfl⟩ p3 rfl cv2 (in32_of rfl) rfl (Nat.le_of_ble_eq_true rfl) hq3 (by decide) (fun c3 => ?_)
    have c3 : in32 _ := c3
    refine r_if_ne C dX12_quarrel_15 (tgt := 20) (by decide) c3 (fun n4 => ?_) (fun n4 => ?_)
    · have hf := ite_n n4 hf
      refine r_iload_n C dX12_quarrel_20 rfl ?_
      refine r_iload_n C dX12_quarrel_21 rfl ?_
      refine r_icmp_ne C dX12_quarrel_22 (tgt := 28) (by decide) cv1 cv2 (fun n5 => ?_) (fun n5 => ?_)
      · have hf := ite_n n5 hf
        refine r_iconst C dX12_quarrel_28 ?_
        refine r_istore_n C dX12_quarrel_29 (Nat.le_of_ble_eq_true rfl) rfl ?_
        exact G.mask [true, true, true, true, false, false, false, false] rfl rfl (l_X12_quarrel_30 C hr  cv1 cv2 _ _ _ (in32_of rfl) hf)
      · have hf := ite_p n5 hf
        refine r_bipush C dX12_quarrel_25 rfl ?_
        cases hf
        exact r_jret C hr dX12_quarrel_27 (in32_of rfl)
    · have hf := ite_p n4 hf
      exact G.mask [false, false, false, false, false, false, false, false] rfl rfl (b_X12_quarrel_18 C hr   hf)
set_option maxRecDepth 20000 in
theorem am_X12_quarrel (l : Launch) (n : Nat) : AM l yX12_quarrel cX12_quarrel 8 (some .int) 3 65 [2, 0, 0] 0 (un3 (f_X12_quarrel n)) := by
  refine AM.intro (by decide) (fun xs hx => ?_) (fun g xs h Z hl C hr hx hf => ?_)
  · obtain ⟨a0, a1, a2, rfl, c0, c1, c2⟩ := canL_3 hx
    exact Nat.le_of_ble_eq_true rfl
  · obtain ⟨a0, a1, a2, rfl, c0, c1, c2⟩ := canL_3 hx
    have hf := (un3_e _ a0 a1 a2 _).symm.trans hf
    exact e_X12_quarrel (n := n) C hr c0 c1 c2 hf
/-! LinesPromisedModel.canStep(IIIII)Z -/
theorem dX12_canStep_0 : decode cX12_canStep 0 = .ok (.aload_n 0, 1) := by decide +kernel
theorem dX12_canStep_1 : decode cX12_canStep 1 = .ok (.iconst 5, 1) := by decide +kernel
theorem dX12_canStep_2 : decode cX12_canStep 2 = .ok (.iload 5, 2) := by decide +kernel
theorem dX12_canStep_4 : decode cX12_canStep 4 = .ok (.invokevirtual 152, 3) := by decide +kernel
theorem dX12_canStep_7 : decode cX12_canStep 7 = .ok (.ifCond .ne 31, 3) := by decide +kernel
theorem dX12_canStep_10 : decode cX12_canStep 10 = .ok (.aload_n 0, 1) := by decide +kernel
theorem dX12_canStep_11 : decode cX12_canStep 11 = .ok (.getfield 8, 3) := by decide +kernel
theorem dX12_canStep_14 : decode cX12_canStep 14 = .ok (.bipush 100, 2) := by decide +kernel
theorem dX12_canStep_16 : decode cX12_canStep 16 = .ok (.iload_n 2, 1) := by decide +kernel
theorem dX12_canStep_17 : decode cX12_canStep 17 = .ok (.iadd, 1) := by decide +kernel
theorem dX12_canStep_18 : decode cX12_canStep 18 = .ok (.iaload, 1) := by decide +kernel
theorem dX12_canStep_19 : decode cX12_canStep 19 = .ok (.iconst 2, 1) := by decide +kernel
theorem dX12_canStep_20 : decode cX12_canStep 20 = .ok (.if_icmp .ne 18, 3) := by decide +kernel
theorem dX12_canStep_23 : decode cX12_canStep 23 = .ok (.iload_n 2, 1) := by decide +kernel
theorem dX12_canStep_24 : decode cX12_canStep 24 = .ok (.iload_n 3, 1) := by decide +kernel
theorem dX12_canStep_25 : decode cX12_canStep 25 = .ok (.if_icmp .eq 13, 3) := by decide +kernel
theorem dX12_canStep_28 : decode cX12_canStep 28 = .ok (.iload_n 2, 1) := by decide +kernel
theorem dX12_canStep_29 : decode cX12_canStep 29 = .ok (.iload 4, 2) := by decide +kernel
theorem dX12_canStep_31 : decode cX12_canStep 31 = .ok (.if_icmp .eq 7, 3) := by decide +kernel
theorem dX12_canStep_34 : decode cX12_canStep 34 = .ok (.iconst 1, 1) := by decide +kernel
theorem dX12_canStep_35 : decode cX12_canStep 35 = .ok (.goto 4, 3) := by decide +kernel
theorem dX12_canStep_38 : decode cX12_canStep 38 = .ok (.iconst 0, 1) := by decide +kernel
theorem dX12_canStep_39 : decode cX12_canStep 39 = .ok (.istore 6, 2) := by decide +kernel
theorem dX12_canStep_41 : decode cX12_canStep 41 = .ok (.iload_n 1, 1) := by decide +kernel
theorem dX12_canStep_42 : decode cX12_canStep 42 = .ok (.iload_n 2, 1) := by decide +kernel
theorem dX12_canStep_43 : decode cX12_canStep 43 = .ok (.invokestatic 171, 3) := by decide +kernel
theorem dX12_canStep_46 : decode cX12_canStep 46 = .ok (.ifCond .eq 44, 3) := by decide +kernel
theorem dX12_canStep_49 : decode cX12_canStep 49 = .ok (.iload 6, 2) := by decide +kernel
theorem dX12_canStep_51 : decode cX12_canStep 51 = .ok (.ifCond .ne 39, 3) := by decide +kernel
theorem dX12_canStep_54 : decode cX12_canStep 54 = .ok (.aload_n 0, 1) := by decide +kernel
theorem dX12_canStep_55 : decode cX12_canStep 55 = .ok (.getfield 8, 3) := by decide +kernel
theorem dX12_canStep_58 : decode cX12_canStep 58 = .ok (.bipush 20, 2) := by decide +kernel
theorem dX12_canStep_60 : decode cX12_canStep 60 = .ok (.iload_n 1, 1) := by decide +kernel
theorem dX12_canStep_61 : decode cX12_canStep 61 = .ok (.iadd, 1) := by decide +kernel
theorem dX12_canStep_62 : decode cX12_canStep 62 = .ok (.iaload, 1) := by decide +kernel
theorem dX12_canStep_63 : decode cX12_canStep 63 = .ok (.aload_n 0, 1) := by decide +kernel
theorem dX12_canStep_64 : decode cX12_canStep 64 = .ok (.getfield 8, 3) := by decide +kernel
theorem dX12_canStep_67 : decode cX12_canStep 67 = .ok (.bipush 20, 2) := by decide +kernel
theorem dX12_canStep_69 : decode cX12_canStep 69 = .ok (.iload_n 2, 1) := by decide +kernel
theorem dX12_canStep_70 : decode cX12_canStep 70 = .ok (.iadd, 1) := by decide +kernel
theorem dX12_canStep_71 : decode cX12_canStep 71 = .ok (.iaload, 1) := by decide +kernel
theorem dX12_canStep_72 : decode cX12_canStep 72 = .ok (.isub, 1) := by decide +kernel
theorem dX12_canStep_73 : decode cX12_canStep 73 = .ok (.invokestatic 183, 3) := by decide +kernel
theorem dX12_canStep_76 : decode cX12_canStep 76 = .ok (.aload_n 0, 1) := by decide +kernel
theorem dX12_canStep_77 : decode cX12_canStep 77 = .ok (.iconst 0, 1) := by decide +kernel
theorem dX12_canStep_78 : decode cX12_canStep 78 = .ok (.iload 5, 2) := by decide +kernel
theorem dX12_canStep_80 : decode cX12_canStep 80 = .ok (.invokevirtual 152, 3) := by decide +kernel
theorem dX12_canStep_83 : decode cX12_canStep 83 = .ok (.if_icmp .gt 7, 3) := by decide +kernel
theorem dX12_canStep_86 : decode cX12_canStep 86 = .ok (.iconst 1, 1) := by decide +kernel
theorem dX12_canStep_87 : decode cX12_canStep 87 = .ok (.goto 4, 3) := by decide +kernel
theorem dX12_canStep_90 : decode cX12_canStep 90 = .ok (.iconst 0, 1) := by decide +kernel
theorem dX12_canStep_91 : decode cX12_canStep 91 = .ok (.ireturn, 1) := by decide +kernel
theorem cm_X12_canStep : CM yX12_canStep cX12_canStep 7 (some .boolean) 5 12 := ⟨w_1680, w_66, w_1681, w_97, ⟨by decide +kernel, by decide +kernel, by decide +kernel⟩, ⟨_, _, rfl⟩, by decide⟩
noncomputable def f_X12_canStep_91 (n : Nat)  (s0 : Int) (h : MM) : RR :=
  ck (isb s0) <|
  some (s0, h)
noncomputable def f_X12_canStep_90 (n : Nat)  (h : MM) : RR :=
  f_X12_canStep_91 n 0 h
noncomputable def f_X12_canStep_39 (n : Nat)  (v0 v1 v2 v5 s0 : Int) (h : MM) : RR :=
  bd (f_X12_isBeside n v1 v2 h) fun r1 h1 =>
  if r1 = 0 then
    f_X12_canStep_90 n h1
  else
  if s0 = 0 then
    gf h1 v0 12 1 fun r4 =>
    rd h1 r4 100 (wr (20 + v1)) fun r5 =>
    gf h1 v0 12 1 fun r6 =>
    rd h1 r6 100 (wr (20 + v2)) fun r7 =>
    bd (f_X12_size n (wr (r5 - r7)) h1) fun r8 h8 =>
    gk h8 v0 12 <|
    bd (f_X12_rule n v0 0 v5 h8) fun r9 h9 =>
    if r9 < r8 then
      f_X12_canStep_90 n h9
    else
    f_X12_canStep_91 n 1 h9
  else
  f_X12_canStep_90 n h1
noncomputable def f_X12_canStep_38 (n : Nat)  (v0 v1 v2 v5 : Int) (h : MM) : RR :=
  f_X12_canStep_39 n v0 v1 v2 v5 0 h
noncomputable def f_X12_canStep (n : Nat) (v0 v1 v2 v3 v4 v5 : Int) (h : MM) : RR :=
  gk h v0 12 <|
  bd (f_X12_rule n v0 5 v5 h) fun r1 h1 =>
  if r1 = 0 then
    gf h1 v0 12 1 fun r3 =>
    rd h1 r3 100 (wr (100 + v2)) fun r4 =>
    if r4 = 2 then
      if v2 = v3 then
        f_X12_canStep_38 n v0 v1 v2 v5 h1
      else
      if v2 = v4 then
        f_X12_canStep_38 n v0 v1 v2 v5 h1
      else
      f_X12_canStep_39 n v0 v1 v2 v5 1 h1
    else
    f_X12_canStep_38 n v0 v1 v2 v5 h1
  else
  f_X12_canStep_38 n v0 v1 v2 v5 h1
set_option maxRecDepth 20000 in
theorem b_X12_canStep_91 {g : GT} {Z : Int × MM} {n : Nat} (C : Cx g cX12_canStep 7 yX12_canStep 2 49) (hr : Rt g (some .boolean) 0 Z) {s0 : Int}    (cs0 : in32 s0) {h : MM} (hf : f_X12_canStep_91 n  s0 h = some Z) : G g 91 [(3, 0), (3, 0), (3, 0), (3, 0), (3, 0), (3, 0), (3, 0)] [(0, s0)] h := by
  unfold f_X12_canStep_91 at hf
  obtain ⟨b1, hf⟩ := ck_s hf
  cases hf
  exact r_zret C hr dX12_canStep_91 b1
set_option maxRecDepth 20000 in
theorem b_X12_canStep_90 {g : GT} {Z : Int × MM} {n : Nat} (C : Cx g cX12_canStep 7 yX12_canStep 2 49) (hr : Rt g (some .boolean) 0 Z)     {h : MM} (hf : f_X12_canStep_90 n   h = some Z) : G g 90 [(3, 0), (3, 0), (3, 0), (3, 0), (3, 0), (3, 0), (3, 0)] [] h := by
  unfold f_X12_canStep_90 at hf
  refine r_iconst C dX12_canStep_90 ?_
  exact G.mask [false, false, false, false, false, false, false] rfl rfl (b_X12_canStep_91 C hr  (in32_of rfl) hf)
set_option maxRecDepth 20000 in
theorem b_X12_canStep_39 {g : GT} {Z : Int × MM} {n : Nat} (C : Cx g cX12_canStep 7 yX12_canStep 2 49) (hr : Rt g (some .boolean) 0 Z) {v0 v1 v2 v5 s0 : Int}    (cv1 : in32 v1) (cv2 : in32 v2) (cv5 : in32 v5) (cs0 : in32 s0) {h : MM} (hf : f_X12_canStep_39 n  v0 v1 v2 v5 s0 h = some Z) : G g 39 [(2, v0), (0, v1), (0, v2), (3, 0), (3, 0), (0, v5), (3, 0)] [(0, s0)] h := by
  unfold f_X12_canStep_39 at hf
  refine r_istore C dX12_canStep_39 (Nat.le_of_ble_eq_true rfl) rfl ?_
  refine r_iload_n C dX12_canStep_41 rfl ?_
  refine r_iload_n C dX12_canStep_42 rfl ?_
  obtain ⟨r1, h1, hq1, hf⟩ := bd_s hf
  refine r_cS2 C (am_X12_isBeside (gl g) n) cm_X12_isBeside w_1618 dX12_canStep_43 ⟨Nat.le_of_ble_eq_true rfl, Nat.le_of_ble_eq_true rfl⟩ cv1 cv2 rfl (Nat.le_of_ble_eq_true rfl) hq1 (by decide) (fun c1 => ?_)
  have c1 : in32 _ := c1
  refine r_if_eq C dX12_canStep_46 (tgt := 90) (by decide) c1 (fun n2 => ?_) (fun n2 => ?_)
  · have hf := ite_p n2 hf
    exact G.mask [false, false, false, false, false, false, false] rfl rfl (b_X12_canStep_90 C hr   hf)
  · have hf := ite_n n2 hf
    refine r_iload C dX12_canStep_49 rfl ?_
    refine r_if_ne C dX12_canStep_51 (tgt := 90) (by decide) cs0 (fun n3 => ?_) (fun n3 => ?_)
    · have hf := ite_n n3 hf
      exact G.mask [false, false, false, false, false, false, false] rfl rfl (b_X12_canStep_90 C hr   hf)
    · have hf := ite_p n3 hf
      refine r_aload_n C dX12_canStep_54 rfl ?_
      obtain ⟨q4, hf⟩ := gf_s hf
      refine r_gf C ct12 (j := 1) (ji := 1) dX12_canStep_55 q4 rfl rfl (by decide) w_1426 rfl (fun c4 => ?_)
      refine r_bipush C dX12_canStep_58 rfl ?_
      refine r_iload_n C dX12_canStep_60 rfl ?_
      refine r_iadd C dX12_canStep_61 ?_
      obtain ⟨q5, hf⟩ := rd_s hf
      refine r_iald C dX12_canStep_62 q5 rfl (fun c5 => ?_)
      refine r_aload_n C dX12_canStep_63 rfl ?_
      obtain ⟨q6, hf⟩ := gf_s hf
      refine r_gf C ct12 (j := 1) (ji := 1) dX12_canStep_64 q6 rfl rfl (by decide) w_1426 rfl (fun c6 => ?_)
      refine r_bipush C dX12_canStep_67 rfl ?_
      refine r_iload_n C dX12_canStep_69 rfl ?_
      refine r_iadd C dX12_canStep_70 ?_
      obtain ⟨q7, hf⟩ := rd_s hf
      refine r_iald C dX12_canStep_71 q7 rfl (fun c7 => ?_)
      refine r_isub C dX12_canStep_72 ?_
      obtain ⟨r8, h8, hq8, hf⟩ := bd_s hf
      refine r_cS1 C (am_X12_size (gl g) n) cm_X12_size w_1647 dX12_canStep_73 ⟨Nat.le_of_ble_eq_true rfl, Nat.le_of_ble_eq_true rfl⟩ (in32_t _) rfl (Nat.le_of_ble_eq_true rfl) hq8 (by decide) (fun c8 => ?_)
      have c8 : in32 _ := c8
      refine r_aload_n C dX12_canStep_76 rfl ?_
      refine r_iconst C dX12_canStep_77 ?_
      refine r_iload C dX12_canStep_78 rfl ?_
      obtain ⟨p9, hf⟩ := gk_s hf
      obtain ⟨r9, h9, hq9, hf⟩ := bd_s hf
      refine r_cV2 C (am_X12_rule (gl g) n) cm_X12_rule w_1579 dX12_canStep_80 ⟨Nat.le_of_ble_eq_true rfl, Nat.le_of_ble_eq_true rfl⟩ p9 rfl (in32_of rfl) cv5 rfl (Nat.le_of_ble_eq_true rfl) hq9 (by decide) (fun c9 => ?_)
      have c9 : in32 _ := c9
      refine r_icmp_gt C dX12_canStep_83 (tgt := 90) (by decide) c8 c9 (fun n10 => ?_) (fun n10 => ?_)
      · have hf := ite_p n10 hf
        exact G.mask [false, false, false, false, false, false, false] rfl rfl (b_X12_canStep_90 C hr   hf)
      · have hf := ite_n n10 hf
        refine r_iconst C dX12_canStep_86 ?_
        refine r_goto C dX12_canStep_87 (tgt := 91) (by decide) ?_
        exact G.mask [false, false, false, false, false, false, false] rfl rfl (b_X12_canStep_91 C hr  (in32_of rfl) hf)
set_option maxRecDepth 20000 in
theorem b_X12_canStep_38 {g : GT} {Z : Int × MM} {n : Nat} (C : Cx g cX12_canStep 7 yX12_canStep 2 49) (hr : Rt g (some .boolean) 0 Z) {v0 v1 v2 v5 : Int}    (cv1 : in32 v1) (cv2 : in32 v2) (cv5 : in32 v5) {h : MM} (hf : f_X12_canStep_38 n  v0 v1 v2 v5 h = some Z) : G g 38 [(2, v0), (0, v1), (0, v2), (3, 0), (3, 0), (0, v5), (3, 0)] [] h := by
  unfold f_X12_canStep_38 at hf
  refine r_iconst C dX12_canStep_38 ?_
  exact G.mask [true, true, true, false, false, true, false] rfl rfl (b_X12_canStep_39 C hr  cv1 cv2 cv5 (in32_of rfl) hf)
set_option maxRecDepth 20000 in
theorem e_X12_canStep {g : GT} {Z : Int × MM} {n : Nat} (C : Cx g cX12_canStep 7 yX12_canStep 2 49) (hr : Rt g (some .boolean) 0 Z) {v0 v1 v2 v3 v4 v5 : Int} (cv0 : cK 2 v0) (cv1 : cK 0 v1) (cv2 : cK 0 v2) (cv3 : cK 0 v3) (cv4 : cK 0 v4) (cv5 : cK 0 v5) {h : MM} (hf : f_X12_canStep n v0 v1 v2 v3 v4 v5 h = some Z) : G g 0 [(2, v0), (0, v1), (0, v2), (0, v3), (0, v4), (0, v5), (3, 0)] [] h := by
  have cv1 : in32 v1 := cv1
  have cv2 : in32 v2 := cv2
  have cv3 : in32 v3 := cv3
  have cv4 : in32 v4 := cv4
  have cv5 : in32 v5 := cv5
  unfold f_X12_canStep at hf
  refine r_aload_n C dX12_canStep_0 rfl ?_
  refine r_iconst C dX12_canStep_1 ?_
  refine r_iload C dX12_canStep_2 rfl ?_
  obtain ⟨p1, hf⟩ := gk_s hf
  obtain ⟨r1, h1, hq1, hf⟩ := bd_s hf
  refine r_cV2 C (am_X12_rule (gl g) n) cm_X12_rule w_1579 dX12_canStep_4 ⟨Nat.le_of_ble_eq_true rfl, Nat.le_of_ble_eq_true rfl⟩ p1 rfl (in32_of rfl) cv5 rfl (Nat.le_of_ble_eq_true rfl) hq1 (by decide) (fun c1 => ?_)
  have c1 : in32 _ := c1
  refine r_if_ne C dX12_canStep_7 (tgt := 38) (by decide) c1 (fun n2 => ?_) (fun n2 => ?_)
  · have hf := ite_n n2 hf
    exact G.mask [true, true, true, false, false, true, false] rfl rfl (b_X12_canStep_38 C hr  cv1 cv2 cv5 hf)
  · have hf := ite_p n2 hf
    refine r_aload_n C dX12_canStep_10 rfl ?_
    obtain ⟨q3, hf⟩ := gf_s hf
    refine r_gf C ct12 (j := 1) (ji := 1) dX12_canStep_11 q3 rfl rfl (by decide) w_1426 rfl (fun c3 => ?_)
    refine r_bipush C dX12_canStep_14 rfl ?_
    refine r_iload_n C dX12_canStep_16 rfl ?_
    refine r_iadd C dX12_canStep_17 ?_
    obtain ⟨q4, hf⟩ := rd_s hf
    refine r_iald C dX12_canStep_18 q4 rfl (fun c4 => ?_)
    refine r_iconst C dX12_canStep_19 ?_
    refine r_icmp_ne C dX12_canStep_20 (tgt := 38) (by decide) c4 (in32_of rfl) (fun n5 => ?_) (fun n5 => ?_)
    · have hf := ite_n n5 hf
      exact G.mask [true, true, true, false, false, true, false] rfl rfl (b_X12_canStep_38 C hr  cv1 cv2 cv5 hf)
    · have hf := ite_p n5 hf
      refine r_iload_n C dX12_canStep_23 rfl ?_
      refine r_iload_n C dX12_canStep_24 rfl ?_
      refine r_icmp_eq C dX12_canStep_25 (tgt := 38) (by decide) cv2 cv3 (fun n6 => ?_) (fun n6 => ?_)
      · have hf := ite_p n6 hf
        exact G.mask [true, true, true, false, false, true, false] rfl rfl (b_X12_canStep_38 C hr  cv1 cv2 cv5 hf)
      · have hf := ite_n n6 hf
        refine r_iload_n C dX12_canStep_28 rfl ?_
        refine r_iload C dX12_canStep_29 rfl ?_
        refine r_icmp_eq C dX12_canStep_31 (tgt := 38) (by decide) cv2 cv4 (fun n7 => ?_) (fun n7 => ?_)
        · have hf := ite_p n7 hf
          exact G.mask [true, true, true, false, false, true, false] rfl rfl (b_X12_canStep_38 C hr  cv1 cv2 cv5 hf)
        · have hf := ite_n n7 hf
          refine r_iconst C dX12_canStep_34 ?_
          refine r_goto C dX12_canStep_35 (tgt := 39) (by decide) ?_
          exact G.mask [true, true, true, false, false, true, false] rfl rfl (b_X12_canStep_39 C hr  cv1 cv2 cv5 (in32_of rfl) hf)
set_option maxRecDepth 20000 in
theorem am_X12_canStep (l : Launch) (n : Nat) : AM l yX12_canStep cX12_canStep 7 (some .boolean) 2 49 [2, 0, 0, 0, 0, 0] 0 (un6 (f_X12_canStep n)) := by
  refine AM.intro (by decide) (fun xs hx => ?_) (fun g xs h Z hl C hr hx hf => ?_)
  · obtain ⟨a0, a1, a2, a3, a4, a5, rfl, c0, c1, c2, c3, c4, c5⟩ := canL_6 hx
    exact Nat.le_of_ble_eq_true rfl
  · obtain ⟨a0, a1, a2, a3, a4, a5, rfl, c0, c1, c2, c3, c4, c5⟩ := canL_6 hx
    have hf := (un6_e _ a0 a1 a2 a3 a4 a5 _).symm.trans hf
    exact e_X12_canStep (n := n) C hr c0 c1 c2 c3 c4 c5 hf
/-! LinesPromisedModel.works(III)V -/
theorem dX12_works_0 : decode cX12_works 0 = .ok (.iconst 0, 1) := by decide +kernel
theorem dX12_works_1 : decode cX12_works 1 = .ok (.istore 4, 2) := by decide +kernel
theorem dX12_works_3 : decode cX12_works 3 = .ok (.iload 4, 2) := by decide +kernel
theorem dX12_works_5 : decode cX12_works 5 = .ok (.bipush 80, 2) := by decide +kernel
theorem dX12_works_7 : decode cX12_works 7 = .ok (.if_icmp .ge 27, 3) := by decide +kernel
theorem dX12_works_10 : decode cX12_works 10 = .ok (.aload_n 0, 1) := by decide +kernel
theorem dX12_works_11 : decode cX12_works 11 = .ok (.getfield 20, 3) := by decide +kernel
theorem dX12_works_14 : decode cX12_works 14 = .ok (.iload 4, 2) := by decide +kernel
theorem dX12_works_16 : decode cX12_works 16 = .ok (.iload 4, 2) := by decide +kernel
theorem dX12_works_18 : decode cX12_works 18 = .ok (.iload_n 2, 1) := by decide +kernel
theorem dX12_works_19 : decode cX12_works 19 = .ok (.if_icmp .ne 7, 3) := by decide +kernel
theorem dX12_works_22 : decode cX12_works 22 = .ok (.iconst 0, 1) := by decide +kernel
theorem dX12_works_23 : decode cX12_works 23 = .ok (.goto 4, 3) := by decide +kernel
theorem dX12_works_26 : decode cX12_works 26 = .ok (.iconst (-1), 1) := by decide +kernel
theorem dX12_works_27 : decode cX12_works 27 = .ok (.iastore, 1) := by decide +kernel
theorem dX12_works_28 : decode cX12_works 28 = .ok (.iinc 4 1, 3) := by decide +kernel
theorem dX12_works_31 : decode cX12_works 31 = .ok (.goto (-28), 3) := by decide +kernel
theorem dX12_works_34 : decode cX12_works 34 = .ok (.iconst 1, 1) := by decide +kernel
theorem dX12_works_35 : decode cX12_works 35 = .ok (.istore 4, 2) := by decide +kernel
theorem dX12_works_37 : decode cX12_works 37 = .ok (.iload 4, 2) := by decide +kernel
theorem dX12_works_39 : decode cX12_works 39 = .ok (.ifCond .eq 199, 3) := by decide +kernel
theorem dX12_works_42 : decode cX12_works 42 = .ok (.iconst 0, 1) := by decide +kernel
theorem dX12_works_43 : decode cX12_works 43 = .ok (.istore 4, 2) := by decide +kernel
theorem dX12_works_45 : decode cX12_works 45 = .ok (.iconst 0, 1) := by decide +kernel
theorem dX12_works_46 : decode cX12_works 46 = .ok (.istore 5, 2) := by decide +kernel
theorem dX12_works_48 : decode cX12_works 48 = .ok (.iload 5, 2) := by decide +kernel
theorem dX12_works_50 : decode cX12_works 50 = .ok (.bipush 80, 2) := by decide +kernel
theorem dX12_works_52 : decode cX12_works 52 = .ok (.if_icmp .ge 183, 3) := by decide +kernel
theorem dX12_works_55 : decode cX12_works 55 = .ok (.iconst 0, 1) := by decide +kernel
theorem dX12_works_56 : decode cX12_works 56 = .ok (.istore 6, 2) := by decide +kernel
theorem dX12_works_58 : decode cX12_works 58 = .ok (.iload 6, 2) := by decide +kernel
theorem dX12_works_60 : decode cX12_works 60 = .ok (.iconst 4, 1) := by decide +kernel
theorem dX12_works_61 : decode cX12_works 61 = .ok (.if_icmp .ge 168, 3) := by decide +kernel
theorem dX12_works_64 : decode cX12_works 64 = .ok (.iload 5, 2) := by decide +kernel
theorem dX12_works_66 : decode cX12_works 66 = .ok (.iload 6, 2) := by decide +kernel
theorem dX12_works_68 : decode cX12_works 68 = .ok (.ifCond .ne 7, 3) := by decide +kernel
theorem dX12_works_71 : decode cX12_works 71 = .ok (.iconst 1, 1) := by decide +kernel
theorem dX12_works_72 : decode cX12_works 72 = .ok (.goto 26, 3) := by decide +kernel
theorem dX12_works_75 : decode cX12_works 75 = .ok (.iload 6, 2) := by decide +kernel
theorem dX12_works_77 : decode cX12_works 77 = .ok (.iconst 1, 1) := by decide +kernel
theorem dX12_works_78 : decode cX12_works 78 = .ok (.if_icmp .ne 7, 3) := by decide +kernel
theorem dX12_works_81 : decode cX12_works 81 = .ok (.iconst (-1), 1) := by decide +kernel
theorem dX12_works_82 : decode cX12_works 82 = .ok (.goto 16, 3) := by decide +kernel
theorem dX12_works_85 : decode cX12_works 85 = .ok (.iload 6, 2) := by decide +kernel
theorem dX12_works_87 : decode cX12_works 87 = .ok (.iconst 2, 1) := by decide +kernel
theorem dX12_works_88 : decode cX12_works 88 = .ok (.if_icmp .ne 8, 3) := by decide +kernel
theorem dX12_works_91 : decode cX12_works 91 = .ok (.bipush 10, 2) := by decide +kernel
theorem dX12_works_93 : decode cX12_works 93 = .ok (.goto 5, 3) := by decide +kernel
theorem dX12_works_96 : decode cX12_works 96 = .ok (.bipush (-10), 2) := by decide +kernel
theorem dX12_works_98 : decode cX12_works 98 = .ok (.iadd, 1) := by decide +kernel
theorem dX12_works_99 : decode cX12_works 99 = .ok (.istore 7, 2) := by decide +kernel
theorem dX12_works_101 : decode cX12_works 101 = .ok (.iload 7, 2) := by decide +kernel
theorem dX12_works_103 : decode cX12_works 103 = .ok (.invokestatic 66, 3) := by decide +kernel
theorem dX12_works_106 : decode cX12_works 106 = .ok (.ifCond .eq 117, 3) := by decide +kernel
theorem dX12_works_109 : decode cX12_works 109 = .ok (.aload_n 0, 1) := by decide +kernel
theorem dX12_works_110 : decode cX12_works 110 = .ok (.getfield 20, 3) := by decide +kernel
theorem dX12_works_113 : decode cX12_works 113 = .ok (.iload 7, 2) := by decide +kernel
theorem dX12_works_115 : decode cX12_works 115 = .ok (.iaload, 1) := by decide +kernel
theorem dX12_works_116 : decode cX12_works 116 = .ok (.iconst (-1), 1) := by decide +kernel
theorem dX12_works_117 : decode cX12_works 117 = .ok (.if_icmp .eq 106, 3) := by decide +kernel
theorem dX12_works_120 : decode cX12_works 120 = .ok (.aload_n 0, 1) := by decide +kernel
theorem dX12_works_121 : decode cX12_works 121 = .ok (.iload 5, 2) := by decide +kernel
theorem dX12_works_123 : decode cX12_works 123 = .ok (.iload 7, 2) := by decide +kernel
theorem dX12_works_125 : decode cX12_works 125 = .ok (.iload_n 1, 1) := by decide +kernel
theorem dX12_works_126 : decode cX12_works 126 = .ok (.iload_n 2, 1) := by decide +kernel
theorem dX12_works_127 : decode cX12_works 127 = .ok (.iload_n 3, 1) := by decide +kernel
theorem dX12_works_128 : decode cX12_works 128 = .ok (.invokevirtual 199, 3) := by decide +kernel
theorem dX12_works_131 : decode cX12_works 131 = .ok (.ifCond .eq 92, 3) := by decide +kernel
theorem dX12_works_134 : decode cX12_works 134 = .ok (.aload_n 0, 1) := by decide +kernel
theorem dX12_works_135 : decode cX12_works 135 = .ok (.iload 5, 2) := by decide +kernel
theorem dX12_works_137 : decode cX12_works 137 = .ok (.iload 7, 2) := by decide +kernel
theorem dX12_works_139 : decode cX12_works 139 = .ok (.invokevirtual 187, 3) := by decide +kernel
theorem dX12_works_142 : decode cX12_works 142 = .ok (.aload_n 0, 1) := by decide +kernel
theorem dX12_works_143 : decode cX12_works 143 = .ok (.getfield 20, 3) := by decide +kernel
theorem dX12_works_146 : decode cX12_works 146 = .ok (.iload 7, 2) := by decide +kernel
theorem dX12_works_148 : decode cX12_works 148 = .ok (.iaload, 1) := by decide +kernel
theorem dX12_works_149 : decode cX12_works 149 = .ok (.iadd, 1) := by decide +kernel
theorem dX12_works_150 : decode cX12_works 150 = .ok (.istore 8, 2) := by decide +kernel
theorem dX12_works_152 : decode cX12_works 152 = .ok (.aload_n 0, 1) := by decide +kernel
theorem dX12_works_153 : decode cX12_works 153 = .ok (.getfield 20, 3) := by decide +kernel
theorem dX12_works_156 : decode cX12_works 156 = .ok (.iload 5, 2) := by decide +kernel
theorem dX12_works_158 : decode cX12_works 158 = .ok (.iaload, 1) := by decide +kernel
theorem dX12_works_159 : decode cX12_works 159 = .ok (.iconst (-1), 1) := by decide +kernel
theorem dX12_works_160 : decode cX12_works 160 = .ok (.if_icmp .eq 15, 3) := by decide +kernel
theorem dX12_works_163 : decode cX12_works 163 = .ok (.iload 8, 2) := by decide +kernel
theorem dX12_works_165 : decode cX12_works 165 = .ok (.aload_n 0, 1) := by decide +kernel
theorem dX12_works_166 : decode cX12_works 166 = .ok (.getfield 20, 3) := by decide +kernel
theorem dX12_works_169 : decode cX12_works 169 = .ok (.iload 5, 2) := by decide +kernel
theorem dX12_works_171 : decode cX12_works 171 = .ok (.iaload, 1) := by decide +kernel
theorem dX12_works_172 : decode cX12_works 172 = .ok (.if_icmp .ge 7, 3) := by decide +kernel
theorem dX12_works_175 : decode cX12_works 175 = .ok (.iconst 1, 1) := by decide +kernel
theorem dX12_works_176 : decode cX12_works 176 = .ok (.goto 4, 3) := by decide +kernel
theorem dX12_works_179 : decode cX12_works 179 = .ok (.iconst 0, 1) := by decide +kernel
theorem dX12_works_180 : decode cX12_works 180 = .ok (.istore 9, 2) := by decide +kernel
theorem dX12_works_182 : decode cX12_works 182 = .ok (.aload_n 0, 1) := by decide +kernel
theorem dX12_works_183 : decode cX12_works 183 = .ok (.getfield 20, 3) := by decide +kernel
theorem dX12_works_186 : decode cX12_works 186 = .ok (.iload 5, 2) := by decide +kernel
theorem dX12_works_188 : decode cX12_works 188 = .ok (.iload 9, 2) := by decide +kernel
theorem dX12_works_190 : decode cX12_works 190 = .ok (.ifCond .eq 8, 3) := by decide +kernel
theorem dX12_works_193 : decode cX12_works 193 = .ok (.iload 8, 2) := by decide +kernel
theorem dX12_works_195 : decode cX12_works 195 = .ok (.goto 10, 3) := by decide +kernel
theorem dX12_works_198 : decode cX12_works 198 = .ok (.aload_n 0, 1) := by decide +kernel
theorem dX12_works_199 : decode cX12_works 199 = .ok (.getfield 20, 3) := by decide +kernel
theorem dX12_works_202 : decode cX12_works 202 = .ok (.iload 5, 2) := by decide +kernel
theorem dX12_works_204 : decode cX12_works 204 = .ok (.iaload, 1) := by decide +kernel
theorem dX12_works_205 : decode cX12_works 205 = .ok (.iastore, 1) := by decide +kernel
theorem dX12_works_206 : decode cX12_works 206 = .ok (.iload 4, 2) := by decide +kernel
theorem dX12_works_208 : decode cX12_works 208 = .ok (.ifCond .ne 8, 3) := by decide +kernel
theorem dX12_works_211 : decode cX12_works 211 = .ok (.iload 9, 2) := by decide +kernel
theorem dX12_works_213 : decode cX12_works 213 = .ok (.ifCond .eq 7, 3) := by decide +kernel
theorem dX12_works_216 : decode cX12_works 216 = .ok (.iconst 1, 1) := by decide +kernel
theorem dX12_works_217 : decode cX12_works 217 = .ok (.goto 4, 3) := by decide +kernel
theorem dX12_works_220 : decode cX12_works 220 = .ok (.iconst 0, 1) := by decide +kernel
theorem dX12_works_221 : decode cX12_works 221 = .ok (.istore 4, 2) := by decide +kernel
theorem dX12_works_223 : decode cX12_works 223 = .ok (.iinc 6 1, 3) := by decide +kernel
theorem dX12_works_226 : decode cX12_works 226 = .ok (.goto (-168), 3) := by decide +kernel
theorem dX12_works_229 : decode cX12_works 229 = .ok (.iinc 5 1, 3) := by decide +kernel
theorem dX12_works_232 : decode cX12_works 232 = .ok (.goto (-184), 3) := by decide +kernel
theorem dX12_works_235 : decode cX12_works 235 = .ok (.goto (-198), 3) := by decide +kernel
theorem dX12_works_238 : decode cX12_works 238 = .ok (.return_, 1) := by decide +kernel
theorem cm_X12_works : CM yX12_works cX12_works 10 none 3 12 := ⟨w_1676, w_65, w_1677, w_97, ⟨by decide +kernel, by decide +kernel, by decide +kernel⟩, ⟨_, _, rfl⟩, by decide⟩
noncomputable def f_X12_works_223 (n : Nat) (rec37 : Int → MM → RR) (rec48 : Int → Int → MM → RR) (rec58 : Int → Int → MM → RR) (v0 v1 v2 v3 v4 v5 v6 : Int) (h : MM) : RR :=
  lb (wr (v6 + 1)) fun x1 =>
  rec58 v4 x1 h
noncomputable def f_X12_works_221 (n : Nat) (rec37 : Int → MM → RR) (rec48 : Int → Int → MM → RR) (rec58 : Int → Int → MM → RR) (v0 v1 v2 v3 v5 v6 s0 : Int) (h : MM) : RR :=
  f_X12_works_223 n rec37 rec48 rec58 v0 v1 v2 v3 s0 v5 v6 h
noncomputable def f_X12_works_216 (n : Nat) (rec37 : Int → MM → RR) (rec48 : Int → Int → MM → RR) (rec58 : Int → Int → MM → RR) (v0 v1 v2 v3 v5 v6 : Int) (h : MM) : RR :=
  f_X12_works_221 n rec37 rec48 rec58 v0 v1 v2 v3 v5 v6 1 h
noncomputable def f_X12_works_205 (n : Nat) (rec37 : Int → MM → RR) (rec48 : Int → Int → MM → RR) (rec58 : Int → Int → MM → RR) (v0 v1 v2 v3 v4 v5 v6 v9 s0 s1 s2 : Int) (h : MM) : RR :=
  wt h s0 100 s1 s2 fun h1 =>
  if v4 = 0 then
    if v9 = 0 then
      f_X12_works_221 n rec37 rec48 rec58 v0 v1 v2 v3 v5 v6 0 h1
    else
    f_X12_works_216 n rec37 rec48 rec58 v0 v1 v2 v3 v5 v6 h1
  else
  f_X12_works_216 n rec37 rec48 rec58 v0 v1 v2 v3 v5 v6 h1
noncomputable def f_X12_works_180 (n : Nat) (rec37 : Int → MM → RR) (rec48 : Int → Int → MM → RR) (rec58 : Int → Int → MM → RR) (v0 v1 v2 v3 v4 v5 v6 v8 s0 : Int) (h : MM) : RR :=
  gf h v0 12 9 fun r1 =>
  if s0 = 0 then
    gf h v0 12 9 fun r3 =>
    rd h r3 100 v5 fun r4 =>
    f_X12_works_205 n rec37 rec48 rec58 v0 v1 v2 v3 v4 v5 v6 s0 r1 v5 r4 h
  else
  f_X12_works_205 n rec37 rec48 rec58 v0 v1 v2 v3 v4 v5 v6 s0 r1 v5 v8 h
noncomputable def f_X12_works_175 (n : Nat) (rec37 : Int → MM → RR) (rec48 : Int → Int → MM → RR) (rec58 : Int → Int → MM → RR) (v0 v1 v2 v3 v4 v5 v6 v8 : Int) (h : MM) : RR :=
  f_X12_works_180 n rec37 rec48 rec58 v0 v1 v2 v3 v4 v5 v6 v8 1 h
noncomputable def f_X12_works_98 (n : Nat) (rec37 : Int → MM → RR) (rec48 : Int → Int → MM → RR) (rec58 : Int → Int → MM → RR) (v0 v1 v2 v3 v4 v5 v6 s0 s1 : Int) (h : MM) : RR :=
  lb (wr (s0 + s1)) fun x1 =>
  bd (f_X12_isCell n x1 h) fun r2 h2 =>
  if r2 = 0 then
    f_X12_works_223 n rec37 rec48 rec58 v0 v1 v2 v3 v4 v5 v6 h2
  else
  gf h2 v0 12 9 fun r4 =>
  rd h2 r4 100 x1 fun r5 =>
  if r5 = (-1) then
    f_X12_works_223 n rec37 rec48 rec58 v0 v1 v2 v3 v4 v5 v6 h2
  else
  gk h2 v0 12 <|
  bd (f_X12_canStep n v0 v5 x1 v1 v2 v3 h2) fun r7 h7 =>
  if r7 = 0 then
    f_X12_works_223 n rec37 rec48 rec58 v0 v1 v2 v3 v4 v5 v6 h7
  else
  gk h7 v0 12 <|
  bd (f_X12_step n v0 v5 x1 h7) fun r9 h9 =>
  gf h9 v0 12 9 fun r10 =>
  rd h9 r10 100 x1 fun r11 =>
  lb (wr (r9 + r11)) fun x12 =>
  gf h9 v0 12 9 fun r13 =>
  rd h9 r13 100 v5 fun r14 =>
  if r14 = (-1) then
    f_X12_works_175 n rec37 rec48 rec58 v0 v1 v2 v3 v4 v5 v6 x12 h9
  else
  gf h9 v0 12 9 fun r16 =>
  rd h9 r16 100 v5 fun r17 =>
  if r17 ≤ x12 then
    f_X12_works_180 n rec37 rec48 rec58 v0 v1 v2 v3 v4 v5 v6 x12 0 h9
  else
  f_X12_works_175 n rec37 rec48 rec58 v0 v1 v2 v3 v4 v5 v6 x12 h9
noncomputable def f_X12_works_58b (n : Nat) (rec37 : Int → MM → RR) (rec48 : Int → Int → MM → RR) (rec58 : Int → Int → MM → RR) (v0 v1 v2 v3 v4 v5 v6 : Int) (h : MM) : RR :=
  if 4 ≤ v6 then
    lb (wr (v5 + 1)) fun x2 =>
    rec48 v4 x2 h
  else
  if v6 = 0 then
    f_X12_works_98 n rec37 rec48 rec58 v0 v1 v2 v3 v4 v5 v6 v5 1 h
  else
  if v6 = 1 then
    f_X12_works_98 n rec37 rec48 rec58 v0 v1 v2 v3 v4 v5 v6 v5 ((-1)) h
  else
  if v6 = 2 then
    f_X12_works_98 n rec37 rec48 rec58 v0 v1 v2 v3 v4 v5 v6 v5 10 h
  else
  f_X12_works_98 n rec37 rec48 rec58 v0 v1 v2 v3 v4 v5 v6 v5 ((-10)) h
noncomputable def f_X12_works_58 (n : Nat) (rec37 : Int → MM → RR) (rec48 : Int → Int → MM → RR) (v0 v1 v2 v3 v5 : Int) : Nat → Int → Int → MM → RR
  | 0, _, _, _ => none
  | k + 1, v4, v6, h => f_X12_works_58b n rec37 rec48 (f_X12_works_58 n rec37 rec48 v0 v1 v2 v3 v5 k) v0 v1 v2 v3 v4 v5 v6 h
noncomputable def f_X12_works_48b (n : Nat) (rec37 : Int → MM → RR) (rec48 : Int → Int → MM → RR) (v0 v1 v2 v3 v4 v5 : Int) (h : MM) : RR :=
  if 80 ≤ v5 then
    rec37 v4 h
  else
  f_X12_works_58 n rec37 rec48 v0 v1 v2 v3 v5 n v4 0 h
noncomputable def f_X12_works_48 (n : Nat) (rec37 : Int → MM → RR) (v0 v1 v2 v3 : Int) : Nat → Int → Int → MM → RR
  | 0, _, _, _ => none
  | k + 1, v4, v5, h => f_X12_works_48b n rec37 (f_X12_works_48 n rec37 v0 v1 v2 v3 k) v0 v1 v2 v3 v4 v5 h
noncomputable def f_X12_works_37b (n : Nat) (rec37 : Int → MM → RR) (v0 v1 v2 v3 v4 : Int) (h : MM) : RR :=
  if v4 = 0 then
    some (0, h)
  else
  f_X12_works_48 n rec37 v0 v1 v2 v3 n 0 0 h
noncomputable def f_X12_works_37 (n : Nat)  (v0 v1 v2 v3 : Int) : Nat → Int → MM → RR
  | 0, _, _ => none
  | k + 1, v4, h => f_X12_works_37b n  (f_X12_works_37 n  v0 v1 v2 v3 k) v0 v1 v2 v3 v4 h
noncomputable def f_X12_works_27 (n : Nat) (rec3 : Int → MM → RR) (v0 v1 v2 v3 v4 s0 s1 s2 : Int) (h : MM) : RR :=
  wt h s0 100 s1 s2 fun h1 =>
  lb (wr (v4 + 1)) fun x2 =>
  rec3 x2 h1
noncomputable def f_X12_works_3b (n : Nat) (rec3 : Int → MM → RR) (v0 v1 v2 v3 v4 : Int) (h : MM) : RR :=
  if 80 ≤ v4 then
    f_X12_works_37 n v0 v1 v2 v3 n 1 h
  else
  gf h v0 12 9 fun r2 =>
  if v4 = v2 then
    f_X12_works_27 n rec3 v0 v1 v2 v3 v4 r2 v4 0 h
  else
  f_X12_works_27 n rec3 v0 v1 v2 v3 v4 r2 v4 ((-1)) h
noncomputable def f_X12_works_3 (n : Nat)  (v0 v1 v2 v3 : Int) : Nat → Int → MM → RR
  | 0, _, _ => none
  | k + 1, v4, h => f_X12_works_3b n  (f_X12_works_3 n  v0 v1 v2 v3 k) v0 v1 v2 v3 v4 h
noncomputable def f_X12_works (n : Nat) (v0 v1 v2 v3 : Int) (h : MM) : RR :=
  f_X12_works_3 n v0 v1 v2 v3 n 0 h
set_option maxRecDepth 20000 in
theorem b_X12_works_223 {g : GT} {Z : Int × MM} {n : Nat} (C : Cx g cX12_works 10 yX12_works 3 75) (hr : Rt g none 3 Z) {v0 v1 v2 v3 v4 v5 v6 : Int}  {rec37 : Int → MM → RR} {rec48 : Int → Int → MM → RR} {rec58 : Int → Int → MM → RR} (L37 : ∀ (u4 : Int) (h : MM), in32 u4 → rec37 u4 h = some Z → G g 37 [(2, v0), (0, v1), (0, v2), (0, v3), (0, u4), (3, 0), (3, 0), (3, 0), (3, 0), (3, 0)] [] h) (L48 : ∀ (u4 u5 : Int) (h : MM), in32 u4 → in32 u5 → rec48 u4 u5 h = some Z → G g 48 [(2, v0), (0, v1), (0, v2), (0, v3), (0, u4), (0, u5), (3, 0), (3, 0), (3, 0), (3, 0)] [] h) (L58 : ∀ (u4 u6 : Int) (h : MM), in32 u4 → in32 u6 → rec58 u4 u6 h = some Z → G g 58 [(2, v0), (0, v1), (0, v2), (0, v3), (0, u4), (0, v5), (0, u6), (3, 0), (3, 0), (3, 0)] [] h) (cv1 : in32 v1) (cv2 : in32 v2) (cv3 : in32 v3) (cv4 : in32 v4) (cv5 : in32 v5) (cv6 : in32 v6) {h : MM} (hf : f_X12_works_223 n rec37 rec48 rec58 v0 v1 v2 v3 v4 v5 v6 h = some Z) : G g 223 [(2, v0), (0, v1), (0, v2), (0, v3), (0, v4), (0, v5), (0, v6), (3, 0), (3, 0), (3, 0)] [] h := by
  unfold f_X12_works_223 at hf
  obtain ⟨x1, e1, hf⟩ := lb_s hf
  have c1 : in32 x1 := by rw [e1]; exact (in32_t _)
  refine r_iincL C dX12_works_223 rfl e1 (Nat.le_of_ble_eq_true rfl) rfl ?_
  refine r_goto C dX12_works_226 (tgt := 58) (by decide) ?_
  exact G.mask [true, true, true, true, true, true, true, false, false, false] rfl rfl (L58 _ _ _ cv4 c1 hf)
set_option maxRecDepth 20000 in
theorem b_X12_works_221 {g : GT} {Z : Int × MM} {n : Nat} (C : Cx g cX12_works 10 yX12_works 3 75) (hr : Rt g none 3 Z) {v0 v1 v2 v3 v5 v6 s0 : Int}  {rec37 : Int → MM → RR} {rec48 : Int → Int → MM → RR} {rec58 : Int → Int → MM → RR} (L37 : ∀ (u4 : Int) (h : MM), in32 u4 → rec37 u4 h = some Z → G g 37 [(2, v0), (0, v1), (0, v2), (0, v3), (0, u4), (3, 0), (3, 0), (3, 0), (3, 0), (3, 0)] [] h) (L48 : ∀ (u4 u5 : Int) (h : MM), in32 u4 → in32 u5 → rec48 u4 u5 h = some Z → G g 48 [(2, v0), (0, v1), (0, v2), (0, v3), (0, u4), (0, u5), (3, 0), (3, 0), (3, 0), (3, 0)] [] h) (L58 : ∀ (u4 u6 : Int) (h : MM), in32 u4 → in32 u6 → rec58 u4 u6 h = some Z → G g 58 [(2, v0), (0, v1), (0, v2), (0, v3), (0, u4), (0, v5), (0, u6), (3, 0), (3, 0), (3, 0)] [] h) (cv1 : in32 v1) (cv2 : in32 v2) (cv3 : in32 v3) (cv5 : in32 v5) (cv6 : in32 v6) (cs0 : in32 s0) {h : MM} (hf : f_X12_works_221 n rec37 rec48 rec58 v0 v1 v2 v3 v5 v6 s0 h = some Z) : G g 221 [(2, v0), (0, v1), (0, v2), (0, v3), (3, 0), (0, v5), (0, v6), (3, 0), (3, 0), (3, 0)] [(0, s0)] h := by
  unfold f_X12_works_221 at hf
  refine r_istore C dX12_works_221 (Nat.le_of_ble_eq_true rfl) rfl ?_
  exact G.mask [true, true, true, true, true, true, true, false, false, false] rfl rfl (b_X12_works_223 C hr L37 L48 L58 cv1 cv2 cv3 cs0 cv5 cv6 hf)
set_option maxRecDepth 20000 in
theorem b_X12_works_216 {g : GT} {Z : Int × MM} {n : Nat} (C : Cx g cX12_works 10 yX12_works 3 75) (hr : Rt g none 3 Z) {v0 v1 v2 v3 v5 v6 : Int}  {rec37 : Int → MM → RR} {rec48 : Int → Int → MM → RR} {rec58 : Int → Int → MM → RR} (L37 : ∀ (u4 : Int) (h : MM), in32 u4 → rec37 u4 h = some Z → G g 37 [(2, v0), (0, v1), (0, v2), (0, v3), (0, u4), (3, 0), (3, 0), (3, 0), (3, 0), (3, 0)] [] h) (L48 : ∀ (u4 u5 : Int) (h : MM), in32 u4 → in32 u5 → rec48 u4 u5 h = some Z → G g 48 [(2, v0), (0, v1), (0, v2), (0, v3), (0, u4), (0, u5), (3, 0), (3, 0), (3, 0), (3, 0)] [] h) (L58 : ∀ (u4 u6 : Int) (h : MM), in32 u4 → in32 u6 → rec58 u4 u6 h = some Z → G g 58 [(2, v0), (0, v1), (0, v2), (0, v3), (0, u4), (0, v5), (0, u6), (3, 0), (3, 0), (3, 0)] [] h) (cv1 : in32 v1) (cv2 : in32 v2) (cv3 : in32 v3) (cv5 : in32 v5) (cv6 : in32 v6) {h : MM} (hf : f_X12_works_216 n rec37 rec48 rec58 v0 v1 v2 v3 v5 v6 h = some Z) : G g 216 [(2, v0), (0, v1), (0, v2), (0, v3), (3, 0), (0, v5), (0, v6), (3, 0), (3, 0), (3, 0)] [] h := by
  unfold f_X12_works_216 at hf
  refine r_iconst C dX12_works_216 ?_
  refine r_goto C dX12_works_217 (tgt := 221) (by decide) ?_
  exact G.mask [true, true, true, true, false, true, true, false, false, false] rfl rfl (b_X12_works_221 C hr L37 L48 L58 cv1 cv2 cv3 cv5 cv6 (in32_of rfl) hf)
set_option maxRecDepth 20000 in
theorem b_X12_works_205 {g : GT} {Z : Int × MM} {n : Nat} (C : Cx g cX12_works 10 yX12_works 3 75) (hr : Rt g none 3 Z) {v0 v1 v2 v3 v4 v5 v6 v9 s0 s1 s2 : Int}  {rec37 : Int → MM → RR} {rec48 : Int → Int → MM → RR} {rec58 : Int → Int → MM → RR} (L37 : ∀ (u4 : Int) (h : MM), in32 u4 → rec37 u4 h = some Z → G g 37 [(2, v0), (0, v1), (0, v2), (0, v3), (0, u4), (3, 0), (3, 0), (3, 0), (3, 0), (3, 0)] [] h) (L48 : ∀ (u4 u5 : Int) (h : MM), in32 u4 → in32 u5 → rec48 u4 u5 h = some Z → G g 48 [(2, v0), (0, v1), (0, v2), (0, v3), (0, u4), (0, u5), (3, 0), (3, 0), (3, 0), (3, 0)] [] h) (L58 : ∀ (u4 u6 : Int) (h : MM), in32 u4 → in32 u6 → rec58 u4 u6 h = some Z → G g 58 [(2, v0), (0, v1), (0, v2), (0, v3), (0, u4), (0, v5), (0, u6), (3, 0), (3, 0), (3, 0)] [] h) (cv1 : in32 v1) (cv2 : in32 v2) (cv3 : in32 v3) (cv4 : in32 v4) (cv5 : in32 v5) (cv6 : in32 v6) (cv9 : in32 v9) (cs1 : in32 s1) (cs2 : in32 s2) {h : MM} (hf : f_X12_works_205 n rec37 rec48 rec58 v0 v1 v2 v3 v4 v5 v6 v9 s0 s1 s2 h = some Z) : G g 205 [(2, v0), (0, v1), (0, v2), (0, v3), (0, v4), (0, v5), (0, v6), (3, 0), (3, 0), (0, v9)] [(0, s2), (0, s1), (2, s0)] h := by
  unfold f_X12_works_205 at hf
  obtain ⟨q1, hf⟩ := wt_s hf
  refine r_iast C dX12_works_205 q1 rfl cs2 ?_
  refine r_iload C dX12_works_206 rfl ?_
  refine r_if_ne C dX12_works_208 (tgt := 216) (by decide) cv4 (fun n2 => ?_) (fun n2 => ?_)
  · have hf := ite_n n2 hf
    exact G.mask [true, true, true, true, false, true, true, false, false, false] rfl rfl (b_X12_works_216 C hr L37 L48 L58 cv1 cv2 cv3 cv5 cv6 hf)
  · have hf := ite_p n2 hf
    refine r_iload C dX12_works_211 rfl ?_
    refine r_if_eq C dX12_works_213 (tgt := 220) (by decide) cv9 (fun n3 => ?_) (fun n3 => ?_)
    · have hf := ite_p n3 hf
      refine r_iconst C dX12_works_220 ?_
      exact G.mask [true, true, true, true, false, true, true, false, false, false] rfl rfl (b_X12_works_221 C hr L37 L48 L58 cv1 cv2 cv3 cv5 cv6 (in32_of rfl) hf)
    · have hf := ite_n n3 hf
      exact G.mask [true, true, true, true, false, true, true, false, false, false] rfl rfl (b_X12_works_216 C hr L37 L48 L58 cv1 cv2 cv3 cv5 cv6 hf)
set_option maxRecDepth 20000 in
theorem b_X12_works_180 {g : GT} {Z : Int × MM} {n : Nat} (C : Cx g cX12_works 10 yX12_works 3 75) (hr : Rt g none 3 Z) {v0 v1 v2 v3 v4 v5 v6 v8 s0 : Int}  {rec37 : Int → MM → RR} {rec48 : Int → Int → MM → RR} {rec58 : Int → Int → MM → RR} (L37 : ∀ (u4 : Int) (h : MM), in32 u4 → rec37 u4 h = some Z → G g 37 [(2, v0), (0, v1), (0, v2), (0, v3), (0, u4), (3, 0), (3, 0), (3, 0), (3, 0), (3, 0)] [] h) (L48 : ∀ (u4 u5 : Int) (h : MM), in32 u4 → in32 u5 → rec48 u4 u5 h = some Z → G g 48 [(2, v0), (0, v1), (0, v2), (0, v3), (0, u4), (0, u5), (3, 0), (3, 0), (3, 0), (3, 0)] [] h) (L58 : ∀ (u4 u6 : Int) (h : MM), in32 u4 → in32 u6 → rec58 u4 u6 h = some Z → G g 58 [(2, v0), (0, v1), (0, v2), (0, v3), (0, u4), (0, v5), (0, u6), (3, 0), (3, 0), (3, 0)] [] h) (cv1 : in32 v1) (cv2 : in32 v2) (cv3 : in32 v3) (cv4 : in32 v4) (cv5 : in32 v5) (cv6 : in32 v6) (cv8 : in32 v8) (cs0 : in32 s0) {h : MM} (hf : f_X12_works_180 n rec37 rec48 rec58 v0 v1 v2 v3 v4 v5 v6 v8 s0 h = some Z) : G g 180 [(2, v0), (0, v1), (0, v2), (0, v3), (0, v4), (0, v5), (0, v6), (3, 0), (0, v8), (3, 0)] [(0, s0)] h := by
  unfold f_X12_works_180 at hf
  refine r_istore C dX12_works_180 (Nat.le_of_ble_eq_true rfl) rfl ?_
  refine r_aload_n C dX12_works_182 rfl ?_
  obtain ⟨q1, hf⟩ := gf_s hf
  refine r_gf C ct12 (j := 9) (ji := 9) dX12_works_183 q1 rfl rfl (by decide) w_1434 rfl (fun c1 => ?_)
  refine r_iload C dX12_works_186 rfl ?_
  refine r_iload C dX12_works_188 rfl ?_
  refine r_if_eq C dX12_works_190 (tgt := 198) (by decide) cs0 (fun n2 => ?_) (fun n2 => ?_)
  · have hf := ite_p n2 hf
    refine r_aload_n C dX12_works_198 rfl ?_
    obtain ⟨q3, hf⟩ := gf_s hf
    refine r_gf C ct12 (j := 9) (ji := 9) dX12_works_199 q3 rfl rfl (by decide) w_1434 rfl (fun c3 => ?_)
    refine r_iload C dX12_works_202 rfl ?_
    obtain ⟨q4, hf⟩ := rd_s hf
    refine r_iald C dX12_works_204 q4 rfl (fun c4 => ?_)
    exact G.mask [true, true, true, true, true, true, true, false, false, true] rfl rfl (b_X12_works_205 C hr L37 L48 L58 cv1 cv2 cv3 cv4 cv5 cv6 cs0 cv5 c4 hf)
  · have hf := ite_n n2 hf
    refine r_iload C dX12_works_193 rfl ?_
    refine r_goto C dX12_works_195 (tgt := 205) (by decide) ?_
    exact G.mask [true, true, true, true, true, true, true, false, false, true] rfl rfl (b_X12_works_205 C hr L37 L48 L58 cv1 cv2 cv3 cv4 cv5 cv6 cs0 cv5 cv8 hf)
set_option maxRecDepth 20000 in
theorem b_X12_works_175 {g : GT} {Z : Int × MM} {n : Nat} (C : Cx g cX12_works 10 yX12_works 3 75) (hr : Rt g none 3 Z) {v0 v1 v2 v3 v4 v5 v6 v8 : Int}  {rec37 : Int → MM → RR} {rec48 : Int → Int → MM → RR} {rec58 : Int → Int → MM → RR} (L37 : ∀ (u4 : Int) (h : MM), in32 u4 → rec37 u4 h = some Z → G g 37 [(2, v0), (0, v1), (0, v2), (0, v3), (0, u4), (3, 0), (3, 0), (3, 0), (3, 0), (3, 0)] [] h) (L48 : ∀ (u4 u5 : Int) (h : MM), in32 u4 → in32 u5 → rec48 u4 u5 h = some Z → G g 48 [(2, v0), (0, v1), (0, v2), (0, v3), (0, u4), (0, u5), (3, 0), (3, 0), (3, 0), (3, 0)] [] h) (L58 : ∀ (u4 u6 : Int) (h : MM), in32 u4 → in32 u6 → rec58 u4 u6 h = some Z → G g 58 [(2, v0), (0, v1), (0, v2), (0, v3), (0, u4), (0, v5), (0, u6), (3, 0), (3, 0), (3, 0)] [] h) (cv1 : in32 v1) (cv2 : in32 v2) (cv3 : in32 v3) (cv4 : in32 v4) (cv5 : in32 v5) (cv6 : in32 v6) (cv8 : in32 v8) {h : MM} (hf : f_X12_works_175 n rec37 rec48 rec58 v0 v1 v2 v3 v4 v5 v6 v8 h = some Z) : G g 175 [(2, v0), (0, v1), (0, v2), (0, v3), (0, v4), (0, v5), (0, v6), (3, 0), (0, v8), (3, 0)] [] h := by
  unfold f_X12_works_175 at hf
  refine r_iconst C dX12_works_175 ?_
  refine r_goto C dX12_works_176 (tgt := 180) (by decide) ?_
  exact G.mask [true, true, true, true, true, true, true, false, true, false] rfl rfl (b_X12_works_180 C hr L37 L48 L58 cv1 cv2 cv3 cv4 cv5 cv6 cv8 (in32_of rfl) hf)
set_option maxRecDepth 20000 in
theorem b_X12_works_98 {g : GT} {Z : Int × MM} {n : Nat} (C : Cx g cX12_works 10 yX12_works 3 75) (hr : Rt g none 3 Z) {v0 v1 v2 v3 v4 v5 v6 s0 s1 : Int}  {rec37 : Int → MM → RR} {rec48 : Int → Int → MM → RR} {rec58 : Int → Int → MM → RR} (L37 : ∀ (u4 : Int) (h : MM), in32 u4 → rec37 u4 h = some Z → G g 37 [(2, v0), (0, v1), (0, v2), (0, v3), (0, u4), (3, 0), (3, 0), (3, 0), (3, 0), (3, 0)] [] h) (L48 : ∀ (u4 u5 : Int) (h : MM), in32 u4 → in32 u5 → rec48 u4 u5 h = some Z → G g 48 [(2, v0), (0, v1), (0, v2), (0, v3), (0, u4), (0, u5), (3, 0), (3, 0), (3, 0), (3, 0)] [] h) (L58 : ∀ (u4 u6 : Int) (h : MM), in32 u4 → in32 u6 → rec58 u4 u6 h = some Z → G g 58 [(2, v0), (0, v1), (0, v2), (0, v3), (0, u4), (0, v5), (0, u6), (3, 0), (3, 0), (3, 0)] [] h) (cv1 : in32 v1) (cv2 : in32 v2) (cv3 : in32 v3) (cv4 : in32 v4) (cv5 : in32 v5) (cv6 : in32 v6) (cs0 : in32 s0) (cs1 : in32 s1) {h : MM} (hf : f_X12_works_98 n rec37 rec48 rec58 v0 v1 v2 v3 v4 v5 v6 s0 s1 h = some Z) : G g 98 [(2, v0), (0, v1), (0, v2), (0, v3), (0, v4), (0, v5), (0, v6), (3, 0), (3, 0), (3, 0)] [(0, s1), (0, s0)] h := by
  unfold f_X12_works_98 at hf
  refine r_iadd C dX12_works_98 ?_
  obtain ⟨x1, e1, hf⟩ := lb_s hf
  have c1 : in32 x1 := by rw [e1]; exact (in32_t _)
  refine r_istoreL C dX12_works_99 e1 (Nat.le_of_ble_eq_true rfl) rfl ?_
  refine r_iload C dX12_works_101 rfl ?_
  obtain ⟨r2, h2, hq2, hf⟩ := bd_s hf
  refine r_cS1 C (am_X12_isCell (gl g) n) cm_X12_isCell w_1493 dX12_works_103 ⟨Nat.le_of_ble_eq_true rfl, Nat.le_of_ble_eq_true rfl⟩ c1 rfl (Nat.le_of_ble_eq_true rfl) hq2 (by decide) (fun c2 => ?_)
  have c2 : in32 _ := c2
  refine r_if_eq C dX12_works_106 (tgt := 223) (by decide) c2 (fun n3 => ?_) (fun n3 => ?_)
  · have hf := ite_p n3 hf
    exact G.mask [true, true, true, true, true, true, true, false, false, false] rfl rfl (b_X12_works_223 C hr L37 L48 L58 cv1 cv2 cv3 cv4 cv5 cv6 hf)
  · have hf := ite_n n3 hf
    refine r_aload_n C dX12_works_109 rfl ?_
    obtain ⟨q4, hf⟩ := gf_s hf
    refine r_gf C ct12 (j := 9) (ji := 9) dX12_works_110 q4 rfl rfl (by decide) w_1434 rfl (fun c4 => ?_)
    refine r_iload C dX12_works_113 rfl ?_
    obtain ⟨q5, hf⟩ := rd_s hf
    refine r_iald C dX12_works_115 q5 rfl (fun c5 => ?_)
    refine r_iconst C dX12_works_116 ?_
    refine r_icmp_eq C dX12_works_117 (tgt := 223) (by decide) c5 (in32_of rfl) (fun n6 => ?_) (fun n6 => ?_)
    · have hf := ite_p n6 hf
      exact G.mask [true, true, true, true, true, true, true, false, false, false] rfl rfl (b_X12_works_223 C hr L37 L48 L58 cv1 cv2 cv3 cv4 cv5 cv6 hf)
    · have hf := ite_n n6 hf
      refine r_aload_n C dX12_works_120 rfl ?_
      refine r_iload C dX12_works_121 rfl ?_
      refine r_iload C dX12_works_123 rfl ?_
      refine r_iload_n C dX12_works_125 rfl ?_
      refine r_iload_n C dX12_works_126 rfl ?_
      refine r_iload_n C dX12_works_127 rfl ?_
      obtain ⟨p7, hf⟩ := gk_s hf
      obtain ⟨r7, h7, hq7, hf⟩ := bd_s hf
      refine r_cV5 C (am_X12_canStep (gl g) n) cm_X12_canStep w_1678 dX12_works_128 ⟨Nat.le_of_ble_eq_true rfl, Nat.le_of_ble_eq_true rfl⟩ p7 rfl cv5 c1 cv1 cv2 cv3 rfl (Nat.le_of_ble_eq_true rfl) hq7 (by decide) (fun c7 => ?_)
      have c7 : in32 _ := c7
      refine r_if_eq C dX12_works_131 (tgt := 223) (by decide) c7 (fun n8 => ?_) (fun n8 => ?_)
      · have hf := ite_p n8 hf
        exact G.mask [true, true, true, true, true, true, true, false, false, false] rfl rfl (b_X12_works_223 C hr L37 L48 L58 cv1 cv2 cv3 cv4 cv5 cv6 hf)
      · have hf := ite_n n8 hf
        refine r_aload_n C dX12_works_134 rfl ?_
        refine r_iload C dX12_works_135 rfl ?_
        refine r_iload C dX12_works_137 rfl ?_
        obtain ⟨p9, hf⟩ := gk_s hf
        obtain ⟨r9, h9, hq9, hf⟩ := bd_s hf
        refine r_cV2 C (am_X12_step (gl g) n) cm_X12_step w_1643 dX12_works_139 ⟨Nat.le_of_ble_eq_true rfl, Nat.le_of_ble_eq_true rfl⟩ p9 rfl cv5 c1 rfl (Nat.le_of_ble_eq_true rfl) hq9 (by decide) (fun c9 => ?_)
        have c9 : in32 _ := c9
        refine r_aload_n C dX12_works_142 rfl ?_
        obtain ⟨q10, hf⟩ := gf_s hf
        refine r_gf C ct12 (j := 9) (ji := 9) dX12_works_143 q10 rfl rfl (by decide) w_1434 rfl (fun c10 => ?_)
        refine r_iload C dX12_works_146 rfl ?_
        obtain ⟨q11, hf⟩ := rd_s hf
        refine r_iald C dX12_works_148 q11 rfl (fun c11 => ?_)
        refine r_iadd C dX12_works_149 ?_
        obtain ⟨x12, e12, hf⟩ := lb_s hf
        have c12 : in32 x12 := by rw [e12]; exact (in32_t _)
        refine r_istoreL C dX12_works_150 e12 (Nat.le_of_ble_eq_true rfl) rfl ?_
        refine r_aload_n C dX12_works_152 rfl ?_
        obtain ⟨q13, hf⟩ := gf_s hf
        refine r_gf C ct12 (j := 9) (ji := 9) dX12_works_153 q13 rfl rfl (by decide) w_1434 rfl (fun c13 => ?_)
        refine r_iload C dX12_works_156 rfl ?_
        obtain ⟨q14, hf⟩ := rd_s hf
        refine r_iald C dX12_works_158 q14 rfl (fun c14 => ?_)
        refine r_iconst C dX12_works_159 ?_
        refine r_icmp_eq C dX12_works_160 (tgt := 175) (by decide) c14 (in32_of rfl) (fun n15 => ?_) (fun n15 => ?_)
        · have hf := ite_p n15 hf
          exact G.mask [true, true, true, true, true, true, true, false, true, false] rfl rfl (b_X12_works_175 C hr L37 L48 L58 cv1 cv2 cv3 cv4 cv5 cv6 c12 hf)
        · have hf := ite_n n15 hf
          refine r_iload C dX12_works_163 rfl ?_
          refine r_aload_n C dX12_works_165 rfl ?_
          obtain ⟨q16, hf⟩ := gf_s hf
          refine r_gf C ct12 (j := 9) (ji := 9) dX12_works_166 q16 rfl rfl (by decide) w_1434 rfl (fun c16 => ?_)
          refine r_iload C dX12_works_169 rfl ?_
          obtain ⟨q17, hf⟩ := rd_s hf
          refine r_iald C dX12_works_171 q17 rfl (fun c17 => ?_)
          refine r_icmp_ge C dX12_works_172 (tgt := 179) (by decide) c12 c17 (fun n18 => ?_) (fun n18 => ?_)
          · have hf := ite_p n18 hf
            refine r_iconst C dX12_works_179 ?_
            exact G.mask [true, true, true, true, true, true, true, false, true, false] rfl rfl (b_X12_works_180 C hr L37 L48 L58 cv1 cv2 cv3 cv4 cv5 cv6 c12 (in32_of rfl) hf)
          · have hf := ite_n n18 hf
            exact G.mask [true, true, true, true, true, true, true, false, true, false] rfl rfl (b_X12_works_175 C hr L37 L48 L58 cv1 cv2 cv3 cv4 cv5 cv6 c12 hf)
set_option maxRecDepth 20000 in
theorem b_X12_works_58b {g : GT} {Z : Int × MM} {n : Nat} (C : Cx g cX12_works 10 yX12_works 3 75) (hr : Rt g none 3 Z) {v0 v1 v2 v3 v4 v5 v6 : Int}  {rec37 : Int → MM → RR} {rec48 : Int → Int → MM → RR} {rec58 : Int → Int → MM → RR} (L37 : ∀ (u4 : Int) (h : MM), in32 u4 → rec37 u4 h = some Z → G g 37 [(2, v0), (0, v1), (0, v2), (0, v3), (0, u4), (3, 0), (3, 0), (3, 0), (3, 0), (3, 0)] [] h) (L48 : ∀ (u4 u5 : Int) (h : MM), in32 u4 → in32 u5 → rec48 u4 u5 h = some Z → G g 48 [(2, v0), (0, v1), (0, v2), (0, v3), (0, u4), (0, u5), (3, 0), (3, 0), (3, 0), (3, 0)] [] h) (L58 : ∀ (u4 u6 : Int) (h : MM), in32 u4 → in32 u6 → rec58 u4 u6 h = some Z → G g 58 [(2, v0), (0, v1), (0, v2), (0, v3), (0, u4), (0, v5), (0, u6), (3, 0), (3, 0), (3, 0)] [] h) (cv1 : in32 v1) (cv2 : in32 v2) (cv3 : in32 v3) (cv4 : in32 v4) (cv5 : in32 v5) (cv6 : in32 v6) {h : MM} (hf : f_X12_works_58b n rec37 rec48 rec58 v0 v1 v2 v3 v4 v5 v6 h = some Z) : G g 58 [(2, v0), (0, v1), (0, v2), (0, v3), (0, v4), (0, v5), (0, v6), (3, 0), (3, 0), (3, 0)] [] h := by
  unfold f_X12_works_58b at hf
  refine r_iload C dX12_works_58 rfl ?_
  refine r_iconst C dX12_works_60 ?_
  refine r_icmp_ge C dX12_works_61 (tgt := 229) (by decide) cv6 (in32_of rfl) (fun n1 => ?_) (fun n1 => ?_)
  · have hf := ite_p n1 hf
    obtain ⟨x2, e2, hf⟩ := lb_s hf
    have c2 : in32 x2 := by rw [e2]; exact (in32_t _)
    refine r_iincL C dX12_works_229 rfl e2 (Nat.le_of_ble_eq_true rfl) rfl ?_
    refine r_goto C dX12_works_232 (tgt := 48) (by decide) ?_
    exact G.mask [true, true, true, true, true, true, false, false, false, false] rfl rfl (L48 _ _ _ cv4 c2 hf)
  · have hf := ite_n n1 hf
    refine r_iload C dX12_works_64 rfl ?_
    refine r_iload C dX12_works_66 rfl ?_
    refine r_if_ne C dX12_works_68 (tgt := 75) (by decide) cv6 (fun n3 => ?_) (fun n3 => ?_)
    · have hf := ite_n n3 hf
      refine r_iload C dX12_works_75 rfl ?_
      refine r_iconst C dX12_works_77 ?_
      refine r_icmp_ne C dX12_works_78 (tgt := 85) (by decide) cv6 (in32_of rfl) (fun n4 => ?_) (fun n4 => ?_)
      · have hf := ite_n n4 hf
        refine r_iload C dX12_works_85 rfl ?_
        refine r_iconst C dX12_works_87 ?_
        refine r_icmp_ne C dX12_works_88 (tgt := 96) (by decide) cv6 (in32_of rfl) (fun n5 => ?_) (fun n5 => ?_)
        · have hf := ite_n n5 hf
          refine r_bipush C dX12_works_96 rfl ?_
          exact G.mask [true, true, true, true, true, true, true, false, false, false] rfl rfl (b_X12_works_98 C hr L37 L48 L58 cv1 cv2 cv3 cv4 cv5 cv6 cv5 (in32_of rfl) hf)
        · have hf := ite_p n5 hf
          refine r_bipush C dX12_works_91 rfl ?_
          refine r_goto C dX12_works_93 (tgt := 98) (by decide) ?_
          exact G.mask [true, true, true, true, true, true, true, false, false, false] rfl rfl (b_X12_works_98 C hr L37 L48 L58 cv1 cv2 cv3 cv4 cv5 cv6 cv5 (in32_of rfl) hf)
      · have hf := ite_p n4 hf
        refine r_iconst C dX12_works_81 ?_
        refine r_goto C dX12_works_82 (tgt := 98) (by decide) ?_
        exact G.mask [true, true, true, true, true, true, true, false, false, false] rfl rfl (b_X12_works_98 C hr L37 L48 L58 cv1 cv2 cv3 cv4 cv5 cv6 cv5 (in32_of rfl) hf)
    · have hf := ite_p n3 hf
      refine r_iconst C dX12_works_71 ?_
      refine r_goto C dX12_works_72 (tgt := 98) (by decide) ?_
      exact G.mask [true, true, true, true, true, true, true, false, false, false] rfl rfl (b_X12_works_98 C hr L37 L48 L58 cv1 cv2 cv3 cv4 cv5 cv6 cv5 (in32_of rfl) hf)
set_option maxRecDepth 20000 in
theorem l_X12_works_58 {g : GT} {Z : Int × MM} {n : Nat} (C : Cx g cX12_works 10 yX12_works 3 75) (hr : Rt g none 3 Z) {v0 v1 v2 v3 v5 : Int} {rec37 : Int → MM → RR} {rec48 : Int → Int → MM → RR} (L37 : ∀ (u4 : Int) (h : MM), in32 u4 → rec37 u4 h = some Z → G g 37 [(2, v0), (0, v1), (0, v2), (0, v3), (0, u4), (3, 0), (3, 0), (3, 0), (3, 0), (3, 0)] [] h) (L48 : ∀ (u4 u5 : Int) (h : MM), in32 u4 → in32 u5 → rec48 u4 u5 h = some Z → G g 48 [(2, v0), (0, v1), (0, v2), (0, v3), (0, u4), (0, u5), (3, 0), (3, 0), (3, 0), (3, 0)] [] h) (cv1 : in32 v1) (cv2 : in32 v2) (cv3 : in32 v3) (cv5 : in32 v5) : ∀ (k : Nat) (v4 v6 : Int) (h : MM), in32 v4 → in32 v6 → f_X12_works_58 n rec37 rec48 v0 v1 v2 v3 v5 k v4 v6 h = some Z → G g 58 [(2, v0), (0, v1), (0, v2), (0, v3), (0, v4), (0, v5), (0, v6), (3, 0), (3, 0), (3, 0)] [] h := by
  intro k
  induction k with
  | zero => intro v4 v6 h cv4 cv6 hf; exact absurd hf (by intro z; cases z)
  | succ k ih => intro v4 v6 h cv4 cv6 hf; exact b_X12_works_58b C hr (rec58 := f_X12_works_58 n rec37 rec48 v0 v1 v2 v3 v5 k) L37 L48 ih cv1 cv2 cv3 cv4 cv5 cv6 (show f_X12_works_58b n rec37 rec48 (f_X12_works_58 n rec37 rec48 v0 v1 v2 v3 v5 k) v0 v1 v2 v3 v4 v5 v6 h = some Z from hf)
set_option maxRecDepth 20000 in
theorem b_X12_works_48b {g : GT} {Z : Int × MM} {n : Nat} (C : Cx g cX12_works 10 yX12_works 3 75) (hr : Rt g none 3 Z) {v0 v1 v2 v3 v4 v5 : Int}  {rec37 : Int → MM → RR} {rec48 : Int → Int → MM → RR} (L37 : ∀ (u4 : Int) (h : MM), in32 u4 → rec37 u4 h = some Z → G g 37 [(2, v0), (0, v1), (0, v2), (0, v3), (0, u4), (3, 0), (3, 0), (3, 0), (3, 0), (3, 0)] [] h) (L48 : ∀ (u4 u5 : Int) (h : MM), in32 u4 → in32 u5 → rec48 u4 u5 h = some Z → G g 48 [(2, v0), (0, v1), (0, v2), (0, v3), (0, u4), (0, u5), (3, 0), (3, 0), (3, 0), (3, 0)] [] h) (cv1 : in32 v1) (cv2 : in32 v2) (cv3 : in32 v3) (cv4 : in32 v4) (cv5 : in32 v5) {h : MM} (hf : f_X12_works_48b n rec37 rec48 v0 v1 v2 v3 v4 v5 h = some Z) : G g 48 [(2, v0), (0, v1), (0, v2), (0, v3), (0, v4), (0, v5), (3, 0), (3, 0), (3, 0), (3, 0)] [] h := by
  unfold f_X12_works_48b at hf
  refine r_iload C dX12_works_48 rfl ?_
  refine r_bipush C dX12_works_50 rfl ?_
  refine r_icmp_ge C dX12_works_52 (tgt := 235) (by decide) cv5 (in32_of rfl) (fun n1 => ?_) (fun n1 => ?_)
  · have hf := ite_p n1 hf
    refine r_goto C dX12_works_235 (tgt := 37) (by decide) ?_
    exact G.mask [true, true, true, true, true, false, false, false, false, false] rfl rfl (L37 _ _ cv4 hf)
  · have hf := ite_n n1 hf
    refine r_iconst C dX12_works_55 ?_
    refine r_istore C dX12_works_56 (Nat.le_of_ble_eq_true rfl) rfl ?_
    exact G.mask [true, true, true, true, true, true, true, false, false, false] rfl rfl (l_X12_works_58 C hr L37 L48 cv1 cv2 cv3 cv5 _ _ _ _ cv4 (in32_of rfl) hf)
set_option maxRecDepth 20000 in
theorem l_X12_works_48 {g : GT} {Z : Int × MM} {n : Nat} (C : Cx g cX12_works 10 yX12_works 3 75) (hr : Rt g none 3 Z) {v0 v1 v2 v3 : Int} {rec37 : Int → MM → RR} (L37 : ∀ (u4 : Int) (h : MM), in32 u4 → rec37 u4 h = some Z → G g 37 [(2, v0), (0, v1), (0, v2), (0, v3), (0, u4), (3, 0), (3, 0), (3, 0), (3, 0), (3, 0)] [] h) (cv1 : in32 v1) (cv2 : in32 v2) (cv3 : in32 v3) : ∀ (k : Nat) (v4 v5 : Int) (h : MM), in32 v4 → in32 v5 → f_X12_works_48 n rec37 v0 v1 v2 v3 k v4 v5 h = some Z → G g 48 [(2, v0), (0, v1), (0, v2), (0, v3), (0, v4), (0, v5), (3, 0), (3, 0), (3, 0), (3, 0)] [] h := by
  intro k
  induction k with
  | zero => intro v4 v5 h cv4 cv5 hf; exact absurd hf (by intro z; cases z)
  | succ k ih => intro v4 v5 h cv4 cv5 hf; exact b_X12_works_48b C hr (rec48 := f_X12_works_48 n rec37 v0 v1 v2 v3 k) L37 ih cv1 cv2 cv3 cv4 cv5 (show f_X12_works_48b n rec37 (f_X12_works_48 n rec37 v0 v1 v2 v3 k) v0 v1 v2 v3 v4 v5 h = some Z from hf)
set_option maxRecDepth 20000 in
theorem b_X12_works_37b {g : GT} {Z : Int × MM} {n : Nat} (C : Cx g cX12_works 10 yX12_works 3 75) (hr : Rt g none 3 Z) {v0 v1 v2 v3 v4 : Int}  {rec37 : Int → MM → RR} (L37 : ∀ (u4 : Int) (h : MM), in32 u4 → rec37 u4 h = some Z → G g 37 [(2, v0), (0, v1), (0, v2), (0, v3), (0, u4), (3, 0), (3, 0), (3, 0), (3, 0), (3, 0)] [] h) (cv1 : in32 v1) (cv2 : in32 v2) (cv3 : in32 v3) (cv4 : in32 v4) {h : MM} (hf : f_X12_works_37b n rec37 v0 v1 v2 v3 v4 h = some Z) : G g 37 [(2, v0), (0, v1), (0, v2), (0, v3), (0, v4), (3, 0), (3, 0), (3, 0), (3, 0), (3, 0)] [] h := by
  unfold f_X12_works_37b at hf
  refine r_iload C dX12_works_37 rfl ?_
  refine r_if_eq C dX12_works_39 (tgt := 238) (by decide) cv4 (fun n1 => ?_) (fun n1 => ?_)
  · have hf := ite_p n1 hf
    cases hf
    exact r_vret C hr dX12_works_238
  · have hf := ite_n n1 hf
    refine r_iconst C dX12_works_42 ?_
    refine r_istore C dX12_works_43 (Nat.le_of_ble_eq_true rfl) rfl ?_
    refine r_iconst C dX12_works_45 ?_
    refine r_istore C dX12_works_46 (Nat.le_of_ble_eq_true rfl) rfl ?_
    exact G.mask [true, true, true, true, true, true, false, false, false, false] rfl rfl (l_X12_works_48 C hr L37 cv1 cv2 cv3 _ _ _ _ (in32_of rfl) (in32_of rfl) hf)
set_option maxRecDepth 20000 in
theorem l_X12_works_37 {g : GT} {Z : Int × MM} {n : Nat} (C : Cx g cX12_works 10 yX12_works 3 75) (hr : Rt g none 3 Z) {v0 v1 v2 v3 : Int}   (cv1 : in32 v1) (cv2 : in32 v2) (cv3 : in32 v3) : ∀ (k : Nat) (v4 : Int) (h : MM), in32 v4 → f_X12_works_37 n  v0 v1 v2 v3 k v4 h = some Z → G g 37 [(2, v0), (0, v1), (0, v2), (0, v3), (0, v4), (3, 0), (3, 0), (3, 0), (3, 0), (3, 0)] [] h := by
  intro k
  induction k with
  | zero => intro v4 h cv4 hf; exact absurd hf (by intro z; cases z)
  | succ k ih => intro v4 h cv4 hf; exact b_X12_works_37b C hr (rec37 := f_X12_works_37 n  v0 v1 v2 v3 k)  ih cv1 cv2 cv3 cv4 (show f_X12_works_37b n  (f_X12_works_37 n  v0 v1 v2 v3 k) v0 v1 v2 v3 v4 h = some Z from hf)
set_option maxRecDepth 20000 in
theorem b_X12_works_27 {g : GT} {Z : Int × MM} {n : Nat} (C : Cx g cX12_works 10 yX12_works 3 75) (hr : Rt g none 3 Z) {v0 v1 v2 v3 v4 s0 s1 s2 : Int}  {rec3 : Int → MM → RR} (L3 : ∀ (u4 : Int) (h : MM), in32 u4 → rec3 u4 h = some Z → G g 3 [(2, v0), (0, v1), (0, v2), (0, v3), (0, u4), (3, 0), (3, 0), (3, 0), (3, 0), (3, 0)] [] h) (cv1 : in32 v1) (cv2 : in32 v2) (cv3 : in32 v3) (cv4 : in32 v4) (cs1 : in32 s1) (cs2 : in32 s2) {h : MM} (hf : f_X12_works_27 n rec3 v0 v1 v2 v3 v4 s0 s1 s2 h = some Z) : G g 27 [(2, v0), (0, v1), (0, v2), (0, v3), (0, v4), (3, 0), (3, 0), (3, 0), (3, 0), (3, 0)] [(0, s2), (0, s1), (2, s0)] h := by
  unfold f_X12_works_27 at hf
  obtain ⟨q1, hf⟩ := wt_s hf
  refine r_iast C dX12_works_27 q1 rfl cs2 ?_
  obtain ⟨x2, e2, hf⟩ := lb_s hf
  have c2 : in32 x2 := by rw [e2]; exact (in32_t _)
  refine r_iincL C dX12_works_28 rfl e2 (Nat.le_of_ble_eq_true rfl) rfl ?_
  refine r_goto C dX12_works_31 (tgt := 3) (by decide) ?_
  exact G.mask [true, true, true, true, true, false, false, false, false, false] rfl rfl (L3 _ _ c2 hf)
set_option maxRecDepth 20000 in
theorem b_X12_works_3b {g : GT} {Z : Int × MM} {n : Nat} (C : Cx g cX12_works 10 yX12_works 3 75) (hr : Rt g none 3 Z) {v0 v1 v2 v3 v4 : Int}  {rec3 : Int → MM → RR} (L3 : ∀ (u4 : Int) (h : MM), in32 u4 → rec3 u4 h = some Z → G g 3 [(2, v0), (0, v1), (0, v2), (0, v3), (0, u4), (3, 0), (3, 0), (3, 0), (3, 0), (3, 0)] [] h) (cv1 : in32 v1) (cv2 : in32 v2) (cv3 : in32 v3) (cv4 : in32 v4) {h : MM} (hf : f_X12_works_3b n rec3 v0 v1 v2 v3 v4 h = some Z) : G g 3 [(2, v0), (0, v1), (0, v2), (0, v3), (0, v4), (3, 0), (3, 0), (3, 0), (3, 0), (3, 0)] [] h := by
  unfold f_X12_works_3b at hf
  refine r_iload C dX12_works_3 rfl ?_
  refine r_bipush C dX12_works_5 rfl ?_
  refine r_icmp_ge C dX12_works_7 (tgt := 34) (by decide) cv4 (in32_of rfl) (fun n1 => ?_) (fun n1 => ?_)
  · have hf := ite_p n1 hf
    refine r_iconst C dX12_works_34 ?_
    refine r_istore C dX12_works_35 (Nat.le_of_ble_eq_true rfl) rfl ?_
    exact G.mask [true, true, true, true, true, false, false, false, false, false] rfl rfl (l_X12_works_37 C hr  cv1 cv2 cv3 _ _ _ (in32_of rfl) hf)
  · have hf := ite_n n1 hf
    refine r_aload_n C dX12_works_10 rfl ?_
    obtain ⟨q2, hf⟩ := gf_s hf
    refine r_gf C ct12 (j := 9) (ji := 9) dX12_works_11 q2 rfl rfl (by decide) w_1434 rfl (fun c2 => ?_)
    refine r_iload C dX12_works_14 rfl ?_
    refine r_iload C dX12_works_16 rfl ?_
    refine r_iload_n C dX12_works_18 rfl ?_
    refine r_icmp_ne C dX12_works_19 (tgt := 26) (by decide) cv4 cv2 (fun n3 => ?_) (fun n3 => ?_)
    · have hf := ite_n n3 hf
      refine r_iconst C dX12_works_26 ?_
      exact G.mask [true, true, true, true, true, false, false, false, false, false] rfl rfl (b_X12_works_27 C hr L3 cv1 cv2 cv3 cv4 cv4 (in32_of rfl) hf)
    · have hf := ite_p n3 hf
      refine r_iconst C dX12_works_22 ?_
      refine r_goto C dX12_works_23 (tgt := 27) (by decide) ?_
      exact G.mask [true, true, true, true, true, false, false, false, false, false] rfl rfl (b_X12_works_27 C hr L3 cv1 cv2 cv3 cv4 cv4 (in32_of rfl) hf)
set_option maxRecDepth 20000 in
theorem l_X12_works_3 {g : GT} {Z : Int × MM} {n : Nat} (C : Cx g cX12_works 10 yX12_works 3 75) (hr : Rt g none 3 Z) {v0 v1 v2 v3 : Int}   (cv1 : in32 v1) (cv2 : in32 v2) (cv3 : in32 v3) : ∀ (k : Nat) (v4 : Int) (h : MM), in32 v4 → f_X12_works_3 n  v0 v1 v2 v3 k v4 h = some Z → G g 3 [(2, v0), (0, v1), (0, v2), (0, v3), (0, v4), (3, 0), (3, 0), (3, 0), (3, 0), (3, 0)] [] h := by
  intro k
  induction k with
  | zero => intro v4 h cv4 hf; exact absurd hf (by intro z; cases z)
  | succ k ih => intro v4 h cv4 hf; exact b_X12_works_3b C hr (rec3 := f_X12_works_3 n  v0 v1 v2 v3 k)  ih cv1 cv2 cv3 cv4 (show f_X12_works_3b n  (f_X12_works_3 n  v0 v1 v2 v3 k) v0 v1 v2 v3 v4 h = some Z from hf)
set_option maxRecDepth 20000 in
theorem e_X12_works {g : GT} {Z : Int × MM} {n : Nat} (C : Cx g cX12_works 10 yX12_works 3 75) (hr : Rt g none 3 Z) {v0 v1 v2 v3 : Int} (cv0 : cK 2 v0) (cv1 : cK 0 v1) (cv2 : cK 0 v2) (cv3 : cK 0 v3) {h : MM} (hf : f_X12_works n v0 v1 v2 v3 h = some Z) : G g 0 [(2, v0), (0, v1), (0, v2), (0, v3), (3, 0), (3, 0), (3, 0), (3, 0), (3, 0), (3, 0)] [] h := by
  have cv1 : in32 v1 := cv1
  have cv2 : in32 v2 := cv2
  have cv3 : in32 v3 := cv3
  unfold f_X12_works at hf
  refine r_iconst C dX12_works_0 ?_
  refine r_istore C dX12_works_1 (Nat.le_of_ble_eq_true rfl) rfl ?_
  exact G.mask [true, true, true, true, true, false, false, false, false, false] rfl rfl (l_X12_works_3 C hr  cv1 cv2 cv3 _ _ _ (in32_of rfl) hf)
set_option maxRecDepth 20000 in
theorem am_X12_works (l : Launch) (n : Nat) : AM l yX12_works cX12_works 10 none 3 75 [2, 0, 0, 0] 3 (un4 (f_X12_works n)) := by
  refine AM.intro (by decide) (fun xs hx => ?_) (fun g xs h Z hl C hr hx hf => ?_)
  · obtain ⟨a0, a1, a2, a3, rfl, c0, c1, c2, c3⟩ := canL_4 hx
    exact Nat.le_of_ble_eq_true rfl
  · obtain ⟨a0, a1, a2, a3, rfl, c0, c1, c2, c3⟩ := canL_4 hx
    have hf := (un4_e _ a0 a1 a2 a3 _).symm.trans hf
    exact e_X12_works (n := n) C hr c0 c1 c2 c3 hf
/-! LinesPromisedModel.slope(IIII)I -/
theorem dX12_slope_0 : decode cX12_slope 0 = .ok (.aload_n 0, 1) := by decide +kernel
theorem dX12_slope_1 : decode cX12_slope 1 = .ok (.iload_n 1, 1) := by decide +kernel
theorem dX12_slope_2 : decode cX12_slope 2 = .ok (.invokevirtual 155, 3) := by decide +kernel
theorem dX12_slope_5 : decode cX12_slope 5 = .ok (.ifCond .eq 27, 3) := by decide +kernel
theorem dX12_slope_8 : decode cX12_slope 8 = .ok (.aload_n 0, 1) := by decide +kernel
theorem dX12_slope_9 : decode cX12_slope 9 = .ok (.iload_n 2, 1) := by decide +kernel
theorem dX12_slope_10 : decode cX12_slope 10 = .ok (.invokevirtual 155, 3) := by decide +kernel
theorem dX12_slope_13 : decode cX12_slope 13 = .ok (.ifCond .eq 19, 3) := by decide +kernel
theorem dX12_slope_16 : decode cX12_slope 16 = .ok (.iload 4, 2) := by decide +kernel
theorem dX12_slope_18 : decode cX12_slope 18 = .ok (.ifCond .lt 14, 3) := by decide +kernel
theorem dX12_slope_21 : decode cX12_slope 21 = .ok (.iload 4, 2) := by decide +kernel
theorem dX12_slope_23 : decode cX12_slope 23 = .ok (.iconst 2, 1) := by decide +kernel
theorem dX12_slope_24 : decode cX12_slope 24 = .ok (.bipush 9, 2) := by decide +kernel
theorem dX12_slope_26 : decode cX12_slope 26 = .ok (.invokestatic 58, 3) := by decide +kernel
theorem dX12_slope_29 : decode cX12_slope 29 = .ok (.ifCond .eq 5, 3) := by decide +kernel
theorem dX12_slope_32 : decode cX12_slope 32 = .ok (.iconst (-1), 1) := by decide +kernel
theorem dX12_slope_33 : decode cX12_slope 33 = .ok (.ireturn, 1) := by decide +kernel
theorem dX12_slope_34 : decode cX12_slope 34 = .ok (.iload_n 1, 1) := by decide +kernel
theorem dX12_slope_35 : decode cX12_slope 35 = .ok (.iload_n 2, 1) := by decide +kernel
theorem dX12_slope_36 : decode cX12_slope 36 = .ok (.if_icmp .eq 10, 3) := by decide +kernel
theorem dX12_slope_39 : decode cX12_slope 39 = .ok (.iload_n 3, 1) := by decide +kernel
theorem dX12_slope_40 : decode cX12_slope 40 = .ok (.invokestatic 141, 3) := by decide +kernel
theorem dX12_slope_43 : decode cX12_slope 43 = .ok (.ifCond .ne 6, 3) := by decide +kernel
theorem dX12_slope_46 : decode cX12_slope 46 = .ok (.bipush (-2), 2) := by decide +kernel
theorem dX12_slope_48 : decode cX12_slope 48 = .ok (.ireturn, 1) := by decide +kernel
theorem dX12_slope_49 : decode cX12_slope 49 = .ok (.aload_n 0, 1) := by decide +kernel
theorem dX12_slope_50 : decode cX12_slope 50 = .ok (.getfield 8, 3) := by decide +kernel
theorem dX12_slope_53 : decode cX12_slope 53 = .ok (.sipush 180, 3) := by decide +kernel
theorem dX12_slope_56 : decode cX12_slope 56 = .ok (.iload_n 1, 1) := by decide +kernel
theorem dX12_slope_57 : decode cX12_slope 57 = .ok (.iadd, 1) := by decide +kernel
theorem dX12_slope_58 : decode cX12_slope 58 = .ok (.iaload, 1) := by decide +kernel
theorem dX12_slope_59 : decode cX12_slope 59 = .ok (.istore 5, 2) := by decide +kernel
theorem dX12_slope_61 : decode cX12_slope 61 = .ok (.aload_n 0, 1) := by decide +kernel
theorem dX12_slope_62 : decode cX12_slope 62 = .ok (.getfield 8, 3) := by decide +kernel
theorem dX12_slope_65 : decode cX12_slope 65 = .ok (.sipush 180, 3) := by decide +kernel
theorem dX12_slope_68 : decode cX12_slope 68 = .ok (.iload_n 2, 1) := by decide +kernel
theorem dX12_slope_69 : decode cX12_slope 69 = .ok (.iadd, 1) := by decide +kernel
theorem dX12_slope_70 : decode cX12_slope 70 = .ok (.iaload, 1) := by decide +kernel
theorem dX12_slope_71 : decode cX12_slope 71 = .ok (.istore 6, 2) := by decide +kernel
theorem dX12_slope_73 : decode cX12_slope 73 = .ok (.aload_n 0, 1) := by decide +kernel
theorem dX12_slope_74 : decode cX12_slope 74 = .ok (.iload 5, 2) := by decide +kernel
theorem dX12_slope_76 : decode cX12_slope 76 = .ok (.iload 6, 2) := by decide +kernel
theorem dX12_slope_78 : decode cX12_slope 78 = .ok (.iload_n 3, 1) := by decide +kernel
theorem dX12_slope_79 : decode cX12_slope 79 = .ok (.invokevirtual 203, 3) := by decide +kernel
theorem dX12_slope_82 : decode cX12_slope 82 = .ok (.aload_n 0, 1) := by decide +kernel
theorem dX12_slope_83 : decode cX12_slope 83 = .ok (.getfield 20, 3) := by decide +kernel
theorem dX12_slope_86 : decode cX12_slope 86 = .ok (.iload 5, 2) := by decide +kernel
theorem dX12_slope_88 : decode cX12_slope 88 = .ok (.iaload, 1) := by decide +kernel
theorem dX12_slope_89 : decode cX12_slope 89 = .ok (.iconst (-1), 1) := by decide +kernel
theorem dX12_slope_90 : decode cX12_slope 90 = .ok (.if_icmp .ne 6, 3) := by decide +kernel
theorem dX12_slope_93 : decode cX12_slope 93 = .ok (.bipush (-5), 2) := by decide +kernel
theorem dX12_slope_95 : decode cX12_slope 95 = .ok (.ireturn, 1) := by decide +kernel
theorem dX12_slope_96 : decode cX12_slope 96 = .ok (.iload 4, 2) := by decide +kernel
theorem dX12_slope_98 : decode cX12_slope 98 = .ok (.ifCond .ne 11, 3) := by decide +kernel
theorem dX12_slope_101 : decode cX12_slope 101 = .ok (.aload_n 0, 1) := by decide +kernel
theorem dX12_slope_102 : decode cX12_slope 102 = .ok (.getfield 20, 3) := by decide +kernel
theorem dX12_slope_105 : decode cX12_slope 105 = .ok (.iload 5, 2) := by decide +kernel
theorem dX12_slope_107 : decode cX12_slope 107 = .ok (.iaload, 1) := by decide +kernel
theorem dX12_slope_108 : decode cX12_slope 108 = .ok (.ireturn, 1) := by decide +kernel
theorem dX12_slope_109 : decode cX12_slope 109 = .ok (.iconst 1, 1) := by decide +kernel
theorem dX12_slope_110 : decode cX12_slope 110 = .ok (.istore 7, 2) := by decide +kernel
theorem dX12_slope_112 : decode cX12_slope 112 = .ok (.aload_n 0, 1) := by decide +kernel
theorem dX12_slope_113 : decode cX12_slope 113 = .ok (.getfield 23, 3) := by decide +kernel
theorem dX12_slope_116 : decode cX12_slope 116 = .ok (.iconst 0, 1) := by decide +kernel
theorem dX12_slope_117 : decode cX12_slope 117 = .ok (.iload 5, 2) := by decide +kernel
theorem dX12_slope_119 : decode cX12_slope 119 = .ok (.iastore, 1) := by decide +kernel
theorem dX12_slope_120 : decode cX12_slope 120 = .ok (.aload_n 0, 1) := by decide +kernel
theorem dX12_slope_121 : decode cX12_slope 121 = .ok (.getfield 23, 3) := by decide +kernel
theorem dX12_slope_124 : decode cX12_slope 124 = .ok (.iload 7, 2) := by decide +kernel
theorem dX12_slope_126 : decode cX12_slope 126 = .ok (.iconst 1, 1) := by decide +kernel
theorem dX12_slope_127 : decode cX12_slope 127 = .ok (.isub, 1) := by decide +kernel
theorem dX12_slope_128 : decode cX12_slope 128 = .ok (.iaload, 1) := by decide +kernel
theorem dX12_slope_129 : decode cX12_slope 129 = .ok (.iload 6, 2) := by decide +kernel
theorem dX12_slope_131 : decode cX12_slope 131 = .ok (.if_icmp .eq 101, 3) := by decide +kernel
theorem dX12_slope_134 : decode cX12_slope 134 = .ok (.aload_n 0, 1) := by decide +kernel
theorem dX12_slope_135 : decode cX12_slope 135 = .ok (.getfield 23, 3) := by decide +kernel
theorem dX12_slope_138 : decode cX12_slope 138 = .ok (.iload 7, 2) := by decide +kernel
theorem dX12_slope_140 : decode cX12_slope 140 = .ok (.iconst 1, 1) := by decide +kernel
theorem dX12_slope_141 : decode cX12_slope 141 = .ok (.isub, 1) := by decide +kernel
theorem dX12_slope_142 : decode cX12_slope 142 = .ok (.iaload, 1) := by decide +kernel
theorem dX12_slope_143 : decode cX12_slope 143 = .ok (.istore 8, 2) := by decide +kernel
theorem dX12_slope_145 : decode cX12_slope 145 = .ok (.iconst 0, 1) := by decide +kernel
theorem dX12_slope_146 : decode cX12_slope 146 = .ok (.istore 9, 2) := by decide +kernel
theorem dX12_slope_148 : decode cX12_slope 148 = .ok (.iload 8, 2) := by decide +kernel
theorem dX12_slope_150 : decode cX12_slope 150 = .ok (.iload 9, 2) := by decide +kernel
theorem dX12_slope_152 : decode cX12_slope 152 = .ok (.invokestatic 171, 3) := by decide +kernel
theorem dX12_slope_155 : decode cX12_slope 155 = .ok (.ifCond .eq 56, 3) := by decide +kernel
theorem dX12_slope_158 : decode cX12_slope 158 = .ok (.aload_n 0, 1) := by decide +kernel
theorem dX12_slope_159 : decode cX12_slope 159 = .ok (.getfield 20, 3) := by decide +kernel
theorem dX12_slope_162 : decode cX12_slope 162 = .ok (.iload 9, 2) := by decide +kernel
theorem dX12_slope_164 : decode cX12_slope 164 = .ok (.iaload, 1) := by decide +kernel
theorem dX12_slope_165 : decode cX12_slope 165 = .ok (.iconst (-1), 1) := by decide +kernel
theorem dX12_slope_166 : decode cX12_slope 166 = .ok (.if_icmp .eq 45, 3) := by decide +kernel
theorem dX12_slope_169 : decode cX12_slope 169 = .ok (.aload_n 0, 1) := by decide +kernel
theorem dX12_slope_170 : decode cX12_slope 170 = .ok (.iload 8, 2) := by decide +kernel
theorem dX12_slope_172 : decode cX12_slope 172 = .ok (.iload 9, 2) := by decide +kernel
theorem dX12_slope_174 : decode cX12_slope 174 = .ok (.iload 5, 2) := by decide +kernel
theorem dX12_slope_176 : decode cX12_slope 176 = .ok (.iload 6, 2) := by decide +kernel
theorem dX12_slope_178 : decode cX12_slope 178 = .ok (.iload_n 3, 1) := by decide +kernel
theorem dX12_slope_179 : decode cX12_slope 179 = .ok (.invokevirtual 199, 3) := by decide +kernel
theorem dX12_slope_182 : decode cX12_slope 182 = .ok (.ifCond .eq 29, 3) := by decide +kernel
theorem dX12_slope_185 : decode cX12_slope 185 = .ok (.aload_n 0, 1) := by decide +kernel
theorem dX12_slope_186 : decode cX12_slope 186 = .ok (.iload 8, 2) := by decide +kernel
theorem dX12_slope_188 : decode cX12_slope 188 = .ok (.iload 9, 2) := by decide +kernel
theorem dX12_slope_190 : decode cX12_slope 190 = .ok (.invokevirtual 187, 3) := by decide +kernel
theorem dX12_slope_193 : decode cX12_slope 193 = .ok (.aload_n 0, 1) := by decide +kernel
theorem dX12_slope_194 : decode cX12_slope 194 = .ok (.getfield 20, 3) := by decide +kernel
theorem dX12_slope_197 : decode cX12_slope 197 = .ok (.iload 9, 2) := by decide +kernel
theorem dX12_slope_199 : decode cX12_slope 199 = .ok (.iaload, 1) := by decide +kernel
theorem dX12_slope_200 : decode cX12_slope 200 = .ok (.iadd, 1) := by decide +kernel
theorem dX12_slope_201 : decode cX12_slope 201 = .ok (.aload_n 0, 1) := by decide +kernel
theorem dX12_slope_202 : decode cX12_slope 202 = .ok (.getfield 20, 3) := by decide +kernel
theorem dX12_slope_205 : decode cX12_slope 205 = .ok (.iload 8, 2) := by decide +kernel
theorem dX12_slope_207 : decode cX12_slope 207 = .ok (.iaload, 1) := by decide +kernel
theorem dX12_slope_208 : decode cX12_slope 208 = .ok (.if_icmp .eq 9, 3) := by decide +kernel
theorem dX12_slope_211 : decode cX12_slope 211 = .ok (.iinc 9 1, 3) := by decide +kernel
theorem dX12_slope_214 : decode cX12_slope 214 = .ok (.goto (-66), 3) := by decide +kernel
theorem dX12_slope_217 : decode cX12_slope 217 = .ok (.aload_n 0, 1) := by decide +kernel
theorem dX12_slope_218 : decode cX12_slope 218 = .ok (.getfield 23, 3) := by decide +kernel
theorem dX12_slope_221 : decode cX12_slope 221 = .ok (.iload 7, 2) := by decide +kernel
theorem dX12_slope_223 : decode cX12_slope 223 = .ok (.iload 9, 2) := by decide +kernel
theorem dX12_slope_225 : decode cX12_slope 225 = .ok (.iastore, 1) := by decide +kernel
theorem dX12_slope_226 : decode cX12_slope 226 = .ok (.iinc 7 1, 3) := by decide +kernel
theorem dX12_slope_229 : decode cX12_slope 229 = .ok (.goto (-109), 3) := by decide +kernel
theorem dX12_slope_232 : decode cX12_slope 232 = .ok (.iload 4, 2) := by decide +kernel
theorem dX12_slope_234 : decode cX12_slope 234 = .ok (.iconst 1, 1) := by decide +kernel
theorem dX12_slope_235 : decode cX12_slope 235 = .ok (.if_icmp .ne 8, 3) := by decide +kernel
theorem dX12_slope_238 : decode cX12_slope 238 = .ok (.iload 7, 2) := by decide +kernel
theorem dX12_slope_240 : decode cX12_slope 240 = .ok (.goto 27, 3) := by decide +kernel
theorem dX12_slope_243 : decode cX12_slope 243 = .ok (.iload 4, 2) := by decide +kernel
theorem dX12_slope_245 : decode cX12_slope 245 = .ok (.bipush 10, 2) := by decide +kernel
theorem dX12_slope_247 : decode cX12_slope 247 = .ok (.isub, 1) := by decide +kernel
theorem dX12_slope_248 : decode cX12_slope 248 = .ok (.iload 7, 2) := by decide +kernel
theorem dX12_slope_250 : decode cX12_slope 250 = .ok (.if_icmp .ge 16, 3) := by decide +kernel
theorem dX12_slope_253 : decode cX12_slope 253 = .ok (.aload_n 0, 1) := by decide +kernel
theorem dX12_slope_254 : decode cX12_slope 254 = .ok (.getfield 23, 3) := by decide +kernel
theorem dX12_slope_257 : decode cX12_slope 257 = .ok (.iload 4, 2) := by decide +kernel
theorem dX12_slope_259 : decode cX12_slope 259 = .ok (.bipush 10, 2) := by decide +kernel
theorem dX12_slope_261 : decode cX12_slope 261 = .ok (.isub, 1) := by decide +kernel
theorem dX12_slope_262 : decode cX12_slope 262 = .ok (.iaload, 1) := by decide +kernel
theorem dX12_slope_263 : decode cX12_slope 263 = .ok (.goto 4, 3) := by decide +kernel
theorem dX12_slope_266 : decode cX12_slope 266 = .ok (.iconst (-1), 1) := by decide +kernel
theorem dX12_slope_267 : decode cX12_slope 267 = .ok (.ireturn, 1) := by decide +kernel
theorem cm_X12_slope : CM yX12_slope cX12_slope 10 (some .int) 4 12 := ⟨w_1671, w_1672, w_1673, w_97, ⟨by decide +kernel, by decide +kernel, by decide +kernel⟩, ⟨_, _, rfl⟩, by decide⟩
noncomputable def f_X12_slope_32 (n : Nat)  (h : MM) : RR :=
  some ((-1), h)
noncomputable def f_X12_slope_46 (n : Nat)  (h : MM) : RR :=
  some ((-2), h)
noncomputable def f_X12_slope_267 (n : Nat)  (s0 : Int) (h : MM) : RR :=
  some (s0, h)
noncomputable def f_X12_slope_211 (n : Nat) (rec120 : Int → MM → RR) (rec148 : Int → MM → RR) (v0 v3 v4 v5 v6 v7 v8 v9 : Int) (h : MM) : RR :=
  lb (wr (v9 + 1)) fun x1 =>
  rec148 x1 h
noncomputable def f_X12_slope_148b (n : Nat) (rec120 : Int → MM → RR) (rec148 : Int → MM → RR) (v0 v3 v4 v5 v6 v7 v8 v9 : Int) (h : MM) : RR :=
  bd (f_X12_isBeside n v8 v9 h) fun r1 h1 =>
  if r1 = 0 then
    f_X12_slope_211 n rec120 rec148 v0 v3 v4 v5 v6 v7 v8 v9 h1
  else
  gf h1 v0 12 9 fun r3 =>
  rd h1 r3 100 v9 fun r4 =>
  if r4 = (-1) then
    f_X12_slope_211 n rec120 rec148 v0 v3 v4 v5 v6 v7 v8 v9 h1
  else
  gk h1 v0 12 <|
  bd (f_X12_canStep n v0 v8 v9 v5 v6 v3 h1) fun r6 h6 =>
  if r6 = 0 then
    f_X12_slope_211 n rec120 rec148 v0 v3 v4 v5 v6 v7 v8 v9 h6
  else
  gk h6 v0 12 <|
  bd (f_X12_step n v0 v8 v9 h6) fun r8 h8 =>
  gf h8 v0 12 9 fun r9 =>
  rd h8 r9 100 v9 fun r10 =>
  gf h8 v0 12 9 fun r11 =>
  rd h8 r11 100 v8 fun r12 =>
  if wr (r8 + r10) = r12 then
    gf h8 v0 12 10 fun r14 =>
    wt h8 r14 100 v7 v9 fun h15 =>
    lb (wr (v7 + 1)) fun x16 =>
    rec120 x16 h15
  else
  f_X12_slope_211 n rec120 rec148 v0 v3 v4 v5 v6 v7 v8 v9 h8
noncomputable def f_X12_slope_148 (n : Nat) (rec120 : Int → MM → RR) (v0 v3 v4 v5 v6 v7 v8 : Int) : Nat → Int → MM → RR
  | 0, _, _ => none
  | k + 1, v9, h => f_X12_slope_148b n rec120 (f_X12_slope_148 n rec120 v0 v3 v4 v5 v6 v7 v8 k) v0 v3 v4 v5 v6 v7 v8 v9 h
noncomputable def f_X12_slope_120b (n : Nat) (rec120 : Int → MM → RR) (v0 v3 v4 v5 v6 v7 : Int) (h : MM) : RR :=
  gf h v0 12 10 fun r1 =>
  rd h r1 100 (wr (v7 - 1)) fun r2 =>
  if r2 = v6 then
    if v4 = 1 then
      f_X12_slope_267 n v7 h
    else
    if v7 ≤ wr (v4 - 10) then
      f_X12_slope_267 n ((-1)) h
    else
    gf h v0 12 10 fun r6 =>
    rd h r6 100 (wr (v4 - 10)) fun r7 =>
    f_X12_slope_267 n r7 h
  else
  gf h v0 12 10 fun r8 =>
  rd h r8 100 (wr (v7 - 1)) fun r9 =>
  f_X12_slope_148 n rec120 v0 v3 v4 v5 v6 v7 r9 n 0 h
noncomputable def f_X12_slope_120 (n : Nat)  (v0 v3 v4 v5 v6 : Int) : Nat → Int → MM → RR
  | 0, _, _ => none
  | k + 1, v7, h => f_X12_slope_120b n  (f_X12_slope_120 n  v0 v3 v4 v5 v6 k) v0 v3 v4 v5 v6 v7 h
noncomputable def f_X12_slope (n : Nat) (v0 v1 v2 v3 v4 : Int) (h : MM) : RR :=
  gk h v0 12 <|
  bd (f_X12_isTown n v0 v1 h) fun r1 h1 =>
  if r1 = 0 then
    f_X12_slope_32 n h1
  else
  gk h1 v0 12 <|
  bd (f_X12_isTown n v0 v2 h1) fun r3 h3 =>
  if r3 = 0 then
    f_X12_slope_32 n h3
  else
  if v4 < 0 then
    f_X12_slope_32 n h3
  else
  bd (f_X12_in n v4 2 9 h3) fun r6 h6 =>
  if r6 = 0 then
    if v1 = v2 then
      f_X12_slope_46 n h6
    else
    bd (f_X12_isDay n v3 h6) fun r9 h9 =>
    if r9 = 0 then
      f_X12_slope_46 n h9
    else
    gf h9 v0 12 1 fun r11 =>
    rd h9 r11 100 (wr (180 + v1)) fun r12 =>
    gf h9 v0 12 1 fun r13 =>
    rd h9 r13 100 (wr (180 + v2)) fun r14 =>
    gk h9 v0 12 <|
    bd (f_X12_works n v0 r12 r14 v3 h9) fun r15 h15 =>
    gf h15 v0 12 9 fun r16 =>
    rd h15 r16 100 r12 fun r17 =>
    if r17 = (-1) then
      some ((-5), h15)
    else
    if v4 = 0 then
      gf h15 v0 12 9 fun r22 =>
      rd h15 r22 100 r12 fun r23 =>
      some (r23, h15)
    else
    gf h15 v0 12 10 fun r20 =>
    wt h15 r20 100 0 r12 fun h21 =>
    f_X12_slope_120 n v0 v3 v4 r12 r14 n 1 h21
  else
  f_X12_slope_32 n h6
set_option maxRecDepth 20000 in
theorem b_X12_slope_32 {g : GT} {Z : Int × MM} {n : Nat} (C : Cx g cX12_slope 10 yX12_slope 4 104) (hr : Rt g (some .int) 0 Z)     {h : MM} (hf : f_X12_slope_32 n   h = some Z) : G g 32 [(3, 0), (3, 0), (3, 0), (3, 0), (3, 0), (3, 0), (3, 0), (3, 0), (3, 0), (3, 0)] [] h := by
  unfold f_X12_slope_32 at hf
  refine r_iconst C dX12_slope_32 ?_
  cases hf
  exact r_jret C hr dX12_slope_33 (in32_of rfl)
set_option maxRecDepth 20000 in
theorem b_X12_slope_46 {g : GT} {Z : Int × MM} {n : Nat} (C : Cx g cX12_slope 10 yX12_slope 4 104) (hr : Rt g (some .int) 0 Z)     {h : MM} (hf : f_X12_slope_46 n   h = some Z) : G g 46 [(3, 0), (3, 0), (3, 0), (3, 0), (3, 0), (3, 0), (3, 0), (3, 0), (3, 0), (3, 0)] [] h := by
  unfold f_X12_slope_46 at hf
  refine r_bipush C dX12_slope_46 rfl ?_
  cases hf
  exact r_jret C hr dX12_slope_48 (in32_of rfl)
set_option maxRecDepth 20000 in
theorem b_X12_slope_267 {g : GT} {Z : Int × MM} {n : Nat} (C : Cx g cX12_slope 10 yX12_slope 4 104) (hr : Rt g (some .int) 0 Z) {s0 : Int}    (cs0 : in32 s0) {h : MM} (hf : f_X12_slope_267 n  s0 h = some Z) : G g 267 [(3, 0), (3, 0), (3, 0), (3, 0), (3, 0), (3, 0), (3, 0), (3, 0), (3, 0), (3, 0)] [(0, s0)] h := by
  unfold f_X12_slope_267 at hf
  cases hf
  exact r_jret C hr dX12_slope_267 cs0
set_option maxRecDepth 20000 in
theorem b_X12_slope_211 {g : GT} {Z : Int × MM} {n : Nat} (C : Cx g cX12_slope 10 yX12_slope 4 104) (hr : Rt g (some .int) 0 Z) {v0 v3 v4 v5 v6 v7 v8 v9 : Int}  {rec120 : Int → MM → RR} {rec148 : Int → MM → RR} (L120 : ∀ (u7 : Int) (h : MM), in32 u7 → rec120 u7 h = some Z → G g 120 [(2, v0), (3, 0), (3, 0), (0, v3), (0, v4), (0, v5), (0, v6), (0, u7), (3, 0), (3, 0)] [] h) (L148 : ∀ (u9 : Int) (h : MM), in32 u9 → rec148 u9 h = some Z → G g 148 [(2, v0), (3, 0), (3, 0), (0, v3), (0, v4), (0, v5), (0, v6), (0, v7), (0, v8), (0, u9)] [] h) (cv3 : in32 v3) (cv4 : in32 v4) (cv5 : in32 v5) (cv6 : in32 v6) (cv7 : in32 v7) (cv8 : in32 v8) (cv9 : in32 v9) {h : MM} (hf : f_X12_slope_211 n rec120 rec148 v0 v3 v4 v5 v6 v7 v8 v9 h = some Z) : G g 211 [(2, v0), (3, 0), (3, 0), (0, v3), (0, v4), (0, v5), (0, v6), (0, v7), (0, v8), (0, v9)] [] h := by
  unfold f_X12_slope_211 at hf
  obtain ⟨x1, e1, hf⟩ := lb_s hf
  have c1 : in32 x1 := by rw [e1]; exact (in32_t _)
  refine r_iincL C dX12_slope_211 rfl e1 (Nat.le_of_ble_eq_true rfl) rfl ?_
  refine r_goto C dX12_slope_214 (tgt := 148) (by decide) ?_
  exact G.mask [true, false, false, true, true, true, true, true, true, true] rfl rfl (L148 _ _ c1 hf)
set_option maxRecDepth 20000 in
theorem b_X12_slope_148b {g : GT} {Z : Int × MM} {n : Nat} (C : Cx g cX12_slope 10 yX12_slope 4 104) (hr : Rt g (some .int) 0 Z) {v0 v3 v4 v5 v6 v7 v8 v9 : Int}  {rec120 : Int → MM → RR} {rec148 : Int → MM → RR} (L120 : ∀ (u7 : Int) (h : MM), in32 u7 → rec120 u7 h = some Z → G g 120 [(2, v0), (3, 0), (3, 0), (0, v3), (0, v4), (0, v5), (0, v6), (0, u7), (3, 0), (3, 0)] [] h) (L148 : ∀ (u9 : Int) (h : MM), in32 u9 → rec148 u9 h = some Z → G g 148 [(2, v0), (3, 0), (3, 0), (0, v3), (0, v4), (0, v5), (0, v6), (0, v7), (0, v8), (0, u9)] [] h) (cv3 : in32 v3) (cv4 : in32 v4) (cv5 : in32 v5) (cv6 : in32 v6) (cv7 : in32 v7) (cv8 : in32 v8) (cv9 : in32 v9) {h : MM} (hf : f_X12_slope_148b n rec120 rec148 v0 v3 v4 v5 v6 v7 v8 v9 h = some Z) : G g 148 [(2, v0), (3, 0), (3, 0), (0, v3), (0, v4), (0, v5), (0, v6), (0, v7), (0, v8), (0, v9)] [] h := by
  unfold f_X12_slope_148b at hf
  refine r_iload C dX12_slope_148 rfl ?_
  refine r_iload C dX12_slope_150 rfl ?_
  obtain ⟨r1, h1, hq1, hf⟩ := bd_s hf
  refine r_cS2 C (am_X12_isBeside (gl g) n) cm_X12_isBeside w_1618 dX12_slope_152 ⟨Nat.le_of_ble_eq_true rfl, Nat.le_of_ble_eq_true rfl⟩ cv8 cv9 rfl (Nat.le_of_ble_eq_true rfl) hq1 (by decide) (fun c1 => ?_)
  have c1 : in32 _ := c1
  refine r_if_eq C dX12_slope_155 (tgt := 211) (by decide) c1 (fun n2 => ?_) (fun n2 => ?_)
  · have hf := ite_p n2 hf
    exact G.mask [true, false, false, true, true, true, true, true, true, true] rfl rfl (b_X12_slope_211 C hr L120 L148 cv3 cv4 cv5 cv6 cv7 cv8 cv9 hf)
  · have hf := ite_n n2 hf
    refine r_aload_n C dX12_slope_158 rfl ?_
    obtain ⟨q3, hf⟩ := gf_s hf
    refine r_gf C ct12 (j := 9) (ji := 9) dX12_slope_159 q3 rfl rfl (by decide) w_1434 rfl (fun c3 => ?_)
    refine r_iload C dX12_slope_162 rfl ?_
    obtain ⟨q4, hf⟩ := rd_s hf
    refine r_iald C dX12_slope_164 q4 rfl (fun c4 => ?_)
    refine r_iconst C dX12_slope_165 ?_
    refine r_icmp_eq C dX12_slope_166 (tgt := 211) (by decide) c4 (in32_of rfl) (fun n5 => ?_) (fun n5 => ?_)
    · have hf := ite_p n5 hf
      exact G.mask [true, false, false, true, true, true, true, true, true, true] rfl rfl (b_X12_slope_211 C hr L120 L148 cv3 cv4 cv5 cv6 cv7 cv8 cv9 hf)
    · have hf := ite_n n5 hf
      refine r_aload_n C dX12_slope_169 rfl ?_
      refine r_iload C dX12_slope_170 rfl ?_
      refine r_iload C dX12_slope_172 rfl ?_
      refine r_iload C dX12_slope_174 rfl ?_
      refine r_iload C dX12_slope_176 rfl ?_
      refine r_iload_n C dX12_slope_178 rfl ?_
      obtain ⟨p6, hf⟩ := gk_s hf
      obtain ⟨r6, h6, hq6, hf⟩ := bd_s hf
      refine r_cV5 C (am_X12_canStep (gl g) n) cm_X12_canStep w_1678 dX12_slope_179 ⟨Nat.le_of_ble_eq_true rfl, Nat.le_of_ble_eq_true rfl⟩ p6 rfl cv8 cv9 cv5 cv6 cv3 rfl (Nat.le_of_ble_eq_true rfl) hq6 (by decide) (fun c6 => ?_)
      have c6 : in32 _ := c6
      refine r_if_eq C dX12_slope_182 (tgt := 211) (by decide) c6 (fun n7 => ?_) (fun n7 => ?_)
      · have hf := ite_p n7 hf
        exact G.mask [true, false, false, true, true, true, true, true, true, true] rfl rfl (b_X12_slope_211 C hr L120 L148 cv3 cv4 cv5 cv6 cv7 cv8 cv9 hf)
      · have hf := ite_n n7 hf
        refine r_aload_n C dX12_slope_185 rfl ?_
        refine r_iload C dX12_slope_186 rfl ?_
        refine r_iload C dX12_slope_188 rfl ?_
        obtain ⟨p8, hf⟩ := gk_s hf
        obtain ⟨r8, h8, hq8, hf⟩ := bd_s hf
        refine r_cV2 C (am_X12_step (gl g) n) cm_X12_step w_1643 dX12_slope_190 ⟨Nat.le_of_ble_eq_true rfl, Nat.le_of_ble_eq_true rfl⟩ p8 rfl cv8 cv9 rfl (Nat.le_of_ble_eq_true rfl) hq8 (by decide) (fun c8 => ?_)
        have c8 : in32 _ := c8
        refine r_aload_n C dX12_slope_193 rfl ?_
        obtain ⟨q9, hf⟩ := gf_s hf
        refine r_gf C ct12 (j := 9) (ji := 9) dX12_slope_194 q9 rfl rfl (by decide) w_1434 rfl (fun c9 => ?_)
        refine r_iload C dX12_slope_197 rfl ?_
        obtain ⟨q10, hf⟩ := rd_s hf
        refine r_iald C dX12_slope_199 q10 rfl (fun c10 => ?_)
        refine r_iadd C dX12_slope_200 ?_
        refine r_aload_n C dX12_slope_201 rfl ?_
        obtain ⟨q11, hf⟩ := gf_s hf
        refine r_gf C ct12 (j := 9) (ji := 9) dX12_slope_202 q11 rfl rfl (by decide) w_1434 rfl (fun c11 => ?_)
        refine r_iload C dX12_slope_205 rfl ?_
        obtain ⟨q12, hf⟩ := rd_s hf
        refine r_iald C dX12_slope_207 q12 rfl (fun c12 => ?_)
        refine r_icmp_eq C dX12_slope_208 (tgt := 217) (by decide) (in32_t _) c12 (fun n13 => ?_) (fun n13 => ?_)
        · have hf := ite_p n13 hf
          refine r_aload_n C dX12_slope_217 rfl ?_
          obtain ⟨q14, hf⟩ := gf_s hf
          refine r_gf C ct12 (j := 10) (ji := 10) dX12_slope_218 q14 rfl rfl (by decide) w_1435 rfl (fun c14 => ?_)
          refine r_iload C dX12_slope_221 rfl ?_
          refine r_iload C dX12_slope_223 rfl ?_
          obtain ⟨q15, hf⟩ := wt_s hf
          refine r_iast C dX12_slope_225 q15 rfl cv9 ?_
          obtain ⟨x16, e16, hf⟩ := lb_s hf
          have c16 : in32 x16 := by rw [e16]; exact (in32_t _)
          refine r_iincL C dX12_slope_226 rfl e16 (Nat.le_of_ble_eq_true rfl) rfl ?_
          refine r_goto C dX12_slope_229 (tgt := 120) (by decide) ?_
          exact G.mask [true, false, false, true, true, true, true, true, false, false] rfl rfl (L120 _ _ c16 hf)
        · have hf := ite_n n13 hf
          exact G.mask [true, false, false, true, true, true, true, true, true, true] rfl rfl (b_X12_slope_211 C hr L120 L148 cv3 cv4 cv5 cv6 cv7 cv8 cv9 hf)
set_option maxRecDepth 20000 in
theorem l_X12_slope_148 {g : GT} {Z : Int × MM} {n : Nat} (C : Cx g cX12_slope 10 yX12_slope 4 104) (hr : Rt g (some .int) 0 Z) {v0 v3 v4 v5 v6 v7 v8 : Int} {rec120 : Int → MM → RR} (L120 : ∀ (u7 : Int) (h : MM), in32 u7 → rec120 u7 h = some Z → G g 120 [(2, v0), (3, 0), (3, 0), (0, v3), (0, v4), (0, v5), (0, v6), (0, u7), (3, 0), (3, 0)] [] h) (cv3 : in32 v3) (cv4 : in32 v4) (cv5 : in32 v5) (cv6 : in32 v6) (cv7 : in32 v7) (cv8 : in32 v8) : ∀ (k : Nat) (v9 : Int) (h : MM), in32 v9 → f_X12_slope_148 n rec120 v0 v3 v4 v5 v6 v7 v8 k v9 h = some Z → G g 148 [(2, v0), (3, 0), (3, 0), (0, v3), (0, v4), (0, v5), (0, v6), (0, v7), (0, v8), (0, v9)] [] h := by
  intro k
  induction k with
  | zero => intro v9 h cv9 hf; exact absurd hf (by intro z; cases z)
  | succ k ih => intro v9 h cv9 hf; exact b_X12_slope_148b C hr (rec148 := f_X12_slope_148 n rec120 v0 v3 v4 v5 v6 v7 v8 k) L120 ih cv3 cv4 cv5 cv6 cv7 cv8 cv9 (show f_X12_slope_148b n rec120 (f_X12_slope_148 n rec120 v0 v3 v4 v5 v6 v7 v8 k) v0 v3 v4 v5 v6 v7 v8 v9 h = some Z from hf)
set_option maxRecDepth 20000 in
theorem b_X12_slope_120b {g : GT} {Z : Int × MM} {n : Nat} (C : Cx g cX12_slope 10 yX12_slope 4 104) (hr : Rt g (some .int) 0 Z) {v0 v3 v4 v5 v6 v7 : Int}  {rec120 : Int → MM → RR} (L120 : ∀ (u7 : Int) (h : MM), in32 u7 → rec120 u7 h = some Z → G g 120 [(2, v0), (3, 0), (3, 0), (0, v3), (0, v4), (0, v5), (0, v6), (0, u7), (3, 0), (3, 0)] [] h) (cv3 : in32 v3) (cv4 : in32 v4) (cv5 : in32 v5) (cv6 : in32 v6) (cv7 : in32 v7) {h : MM} (hf : f_X12_slope_120b n rec120 v0 v3 v4 v5 v6 v7 h = some Z) : G g 120 [(2, v0), (3, 0), (3, 0), (0, v3), (0, v4), (0, v5), (0, v6), (0, v7), (3, 0), (3, 0)] [] h := by
  unfold f_X12_slope_120b at hf
  refine r_aload_n C dX12_slope_120 rfl ?_
  obtain ⟨q1, hf⟩ := gf_s hf
  refine r_gf C ct12 (j := 10) (ji := 10) dX12_slope_121 q1 rfl rfl (by decide) w_1435 rfl (fun c1 => ?_)
  refine r_iload C dX12_slope_124 rfl ?_
  refine r_iconst C dX12_slope_126 ?_
  refine r_isub C dX12_slope_127 ?_
  obtain ⟨q2, hf⟩ := rd_s hf
  refine r_iald C dX12_slope_128 q2 rfl (fun c2 => ?_)
  refine r_iload C dX12_slope_129 rfl ?_
  refine r_icmp_eq C dX12_slope_131 (tgt := 232) (by decide) c2 cv6 (fun n3 => ?_) (fun n3 => ?_)
  · have hf := ite_p n3 hf
    refine r_iload C dX12_slope_232 rfl ?_
    refine r_iconst C dX12_slope_234 ?_
    refine r_icmp_ne C dX12_slope_235 (tgt := 243) (by decide) cv4 (in32_of rfl) (fun n4 => ?_) (fun n4 => ?_)
    · have hf := ite_n n4 hf
      refine r_iload C dX12_slope_243 rfl ?_
      refine r_bipush C dX12_slope_245 rfl ?_
      refine r_isub C dX12_slope_247 ?_
      refine r_iload C dX12_slope_248 rfl ?_
      refine r_icmp_ge C dX12_slope_250 (tgt := 266) (by decide) (in32_t _) cv7 (fun n5 => ?_) (fun n5 => ?_)
      · have hf := ite_p n5 hf
        refine r_iconst C dX12_slope_266 ?_
        exact G.mask [false, false, false, false, false, false, false, false, false, false] rfl rfl (b_X12_slope_267 C hr  (in32_of rfl) hf)
      · have hf := ite_n n5 hf
        refine r_aload_n C dX12_slope_253 rfl ?_
        obtain ⟨q6, hf⟩ := gf_s hf
        refine r_gf C ct12 (j := 10) (ji := 10) dX12_slope_254 q6 rfl rfl (by decide) w_1435 rfl (fun c6 => ?_)
        refine r_iload C dX12_slope_257 rfl ?_
        refine r_bipush C dX12_slope_259 rfl ?_
        refine r_isub C dX12_slope_261 ?_
        obtain ⟨q7, hf⟩ := rd_s hf
        refine r_iald C dX12_slope_262 q7 rfl (fun c7 => ?_)
        refine r_goto C dX12_slope_263 (tgt := 267) (by decide) ?_
        exact G.mask [false, false, false, false, false, false, false, false, false, false] rfl rfl (b_X12_slope_267 C hr  c7 hf)
    · have hf := ite_p n4 hf
      refine r_iload C dX12_slope_238 rfl ?_
      refine r_goto C dX12_slope_240 (tgt := 267) (by decide) ?_
      exact G.mask [false, false, false, false, false, false, false, false, false, false] rfl rfl (b_X12_slope_267 C hr  cv7 hf)
  · have hf := ite_n n3 hf
    refine r_aload_n C dX12_slope_134 rfl ?_
    obtain ⟨q8, hf⟩ := gf_s hf
    refine r_gf C ct12 (j := 10) (ji := 10) dX12_slope_135 q8 rfl rfl (by decide) w_1435 rfl (fun c8 => ?_)
    refine r_iload C dX12_slope_138 rfl ?_
    refine r_iconst C dX12_slope_140 ?_
    refine r_isub C dX12_slope_141 ?_
    obtain ⟨q9, hf⟩ := rd_s hf
    refine r_iald C dX12_slope_142 q9 rfl (fun c9 => ?_)
    refine r_istore C dX12_slope_143 (Nat.le_of_ble_eq_true rfl) rfl ?_
    refine r_iconst C dX12_slope_145 ?_
    refine r_istore C dX12_slope_146 (Nat.le_of_ble_eq_true rfl) rfl ?_
    exact G.mask [true, false, false, true, true, true, true, true, true, true] rfl rfl (l_X12_slope_148 C hr L120 cv3 cv4 cv5 cv6 cv7 c9 _ _ _ (in32_of rfl) hf)
set_option maxRecDepth 20000 in
theorem l_X12_slope_120 {g : GT} {Z : Int × MM} {n : Nat} (C : Cx g cX12_slope 10 yX12_slope 4 104) (hr : Rt g (some .int) 0 Z) {v0 v3 v4 v5 v6 : Int}   (cv3 : in32 v3) (cv4 : in32 v4) (cv5 : in32 v5) (cv6 : in32 v6) : ∀ (k : Nat) (v7 : Int) (h : MM), in32 v7 → f_X12_slope_120 n  v0 v3 v4 v5 v6 k v7 h = some Z → G g 120 [(2, v0), (3, 0), (3, 0), (0, v3), (0, v4), (0, v5), (0, v6), (0, v7), (3, 0), (3, 0)] [] h := by
  intro k
  induction k with
  | zero => intro v7 h cv7 hf; exact absurd hf (by intro z; cases z)
  | succ k ih => intro v7 h cv7 hf; exact b_X12_slope_120b C hr (rec120 := f_X12_slope_120 n  v0 v3 v4 v5 v6 k)  ih cv3 cv4 cv5 cv6 cv7 (show f_X12_slope_120b n  (f_X12_slope_120 n  v0 v3 v4 v5 v6 k) v0 v3 v4 v5 v6 v7 h = some Z from hf)
set_option maxRecDepth 20000 in
theorem e_X12_slope {g : GT} {Z : Int × MM} {n : Nat} (C : Cx g cX12_slope 10 yX12_slope 4 104) (hr : Rt g (some .int) 0 Z) {v0 v1 v2 v3 v4 : Int} (cv0 : cK 2 v0) (cv1 : cK 0 v1) (cv2 : cK 0 v2) (cv3 : cK 0 v3) (cv4 : cK 0 v4) {h : MM} (hf : f_X12_slope n v0 v1 v2 v3 v4 h = some Z) : G g 0 [(2, v0), (0, v1), (0, v2), (0, v3), (0, v4), (3, 0), (3, 0), (3, 0), (3, 0), (3, 0)] [] h := by
  have cv1 : in32 v1 := cv1
  have cv2 : in32 v2 := cv2
  have cv3 : in32 v3 := cv3
  have cv4 : in32 v4 := cv4
  unfold f_X12_slope at hf
  refine r_aload_n C dX12_slope_0 rfl ?_
  refine r_iload_n C dX12_slope_1 rfl ?_
  obtain ⟨p1, hf⟩ := gk_s hf
  obtain ⟨r1, h1, hq1, hf⟩ := bd_s hf
  refine r_cV1 C (am_X12_isTown (gl g) n) cm_X12_isTown w_1595 dX12_slope_2 ⟨Nat.le_of_ble_eq_true rfl, Nat.le_of_ble_eq_true rfl⟩ p1 rfl cv1 rfl (Nat.le_of_ble_eq_true rfl) hq1 (by decide) (fun c1 => ?_)
  have c1 : in32 _ := c1
  refine r_if_eq C dX12_slope_5 (tgt := 32) (by decide) c1 (fun n2 => ?_) (fun n2 => ?_)
  · have hf := ite_p n2 hf
    exact G.mask [false, false, false, false, false, false, false, false, false, false] rfl rfl (b_X12_slope_32 C hr   hf)
  · have hf := ite_n n2 hf
    refine r_aload_n C dX12_slope_8 rfl ?_
    refine r_iload_n C dX12_slope_9 rfl ?_
    obtain ⟨p3, hf⟩ := gk_s hf
    obtain ⟨r3, h3, hq3, hf⟩ := bd_s hf
    refine r_cV1 C (am_X12_isTown (gl g) n) cm_X12_isTown w_1595 dX12_slope_10 ⟨Nat.le_of_ble_eq_true rfl, Nat.le_of_ble_eq_true rfl⟩ p3 rfl cv2 rfl (Nat.le_of_ble_eq_true rfl) hq3 (by decide) (fun c3 => ?_)
    have c3 : in32 _ := c3
    refine r_if_eq C dX12_slope_13 (tgt := 32) (by decide) c3 (fun n4 => ?_) (fun n4 => ?_)
    · have hf := ite_p n4 hf
      exact G.mask [false, false, false, false, false, false, false, false, false, false] rfl rfl (b_X12_slope_32 C hr   hf)
    · have hf := ite_n n4 hf
      refine r_iload C dX12_slope_16 rfl ?_
      refine r_if_lt C dX12_slope_18 (tgt := 32) (by decide) cv4 (fun n5 => ?_) (fun n5 => ?_)
      · have hf := ite_p n5 hf
        exact G.mask [false, false, false, false, false, false, false, false, false, false] rfl rfl (b_X12_slope_32 C hr   hf)
      · have hf := ite_n n5 hf
        refine r_iload C dX12_slope_21 rfl ?_
        refine r_iconst C dX12_slope_23 ?_
        refine r_bipush C dX12_slope_24 rfl ?_
        obtain ⟨r6, h6, hq6, hf⟩ := bd_s hf
        refine r_cS3 C (am_X12_in (gl g) n) cm_X12_in w_1496 dX12_slope_26 ⟨Nat.le_of_ble_eq_true rfl, Nat.le_of_ble_eq_true rfl⟩ cv4 (in32_of rfl) (in32_of rfl) rfl (Nat.le_of_ble_eq_true rfl) hq6 (by decide) (fun c6 => ?_)
        have c6 : in32 _ := c6
        refine r_if_eq C dX12_slope_29 (tgt := 34) (by decide) c6 (fun n7 => ?_) (fun n7 => ?_)
        · have hf := ite_p n7 hf
          refine r_iload_n C dX12_slope_34 rfl ?_
          refine r_iload_n C dX12_slope_35 rfl ?_
          refine r_icmp_eq C dX12_slope_36 (tgt := 46) (by decide) cv1 cv2 (fun n8 => ?_) (fun n8 => ?_)
          · have hf := ite_p n8 hf
            exact G.mask [false, false, false, false, false, false, false, false, false, false] rfl rfl (b_X12_slope_46 C hr   hf)
          · have hf := ite_n n8 hf
            refine r_iload_n C dX12_slope_39 rfl ?_
            obtain ⟨r9, h9, hq9, hf⟩ := bd_s hf
            refine r_cS1 C (am_X12_isDay (gl g) n) cm_X12_isDay w_1524 dX12_slope_40 ⟨Nat.le_of_ble_eq_true rfl, Nat.le_of_ble_eq_true rfl⟩ cv3 rfl (Nat.le_of_ble_eq_true rfl) hq9 (by decide) (fun c9 => ?_)
            have c9 : in32 _ := c9
            refine r_if_ne C dX12_slope_43 (tgt := 49) (by decide) c9 (fun n10 => ?_) (fun n10 => ?_)
            · have hf := ite_n n10 hf
              refine r_aload_n C dX12_slope_49 rfl ?_
              obtain ⟨q11, hf⟩ := gf_s hf
              refine r_gf C ct12 (j := 1) (ji := 1) dX12_slope_50 q11 rfl rfl (by decide) w_1426 rfl (fun c11 => ?_)
              refine r_sipush C dX12_slope_53 rfl ?_
              refine r_iload_n C dX12_slope_56 rfl ?_
              refine r_iadd C dX12_slope_57 ?_
              obtain ⟨q12, hf⟩ := rd_s hf
              refine r_iald C dX12_slope_58 q12 rfl (fun c12 => ?_)
              refine r_istore C dX12_slope_59 (Nat.le_of_ble_eq_true rfl) rfl ?_
              refine r_aload_n C dX12_slope_61 rfl ?_
              obtain ⟨q13, hf⟩ := gf_s hf
              refine r_gf C ct12 (j := 1) (ji := 1) dX12_slope_62 q13 rfl rfl (by decide) w_1426 rfl (fun c13 => ?_)
              refine r_sipush C dX12_slope_65 rfl ?_
              refine r_iload_n C dX12_slope_68 rfl ?_
              refine r_iadd C dX12_slope_69 ?_
              obtain ⟨q14, hf⟩ := rd_s hf
              refine r_iald C dX12_slope_70 q14 rfl (fun c14 => ?_)
              refine r_istore C dX12_slope_71 (Nat.le_of_ble_eq_true rfl) rfl ?_
              refine r_aload_n C dX12_slope_73 rfl ?_
              refine r_iload C dX12_slope_74 rfl ?_
              refine r_iload C dX12_slope_76 rfl ?_
              refine r_iload_n C dX12_slope_78 rfl ?_
              obtain ⟨p15, hf⟩ := gk_s hf
              obtain ⟨r15, h15, hq15, hf⟩ := bd_s hf
              refine r_cV3v C (am_X12_works (gl g) n) cm_X12_works w_1674 dX12_slope_79 ⟨Nat.le_of_ble_eq_true rfl, Nat.le_of_ble_eq_true rfl⟩ p15 rfl c12 c14 cv3 rfl (Nat.le_of_ble_eq_true rfl) hq15 ?_
              refine r_aload_n C dX12_slope_82 rfl ?_
              obtain ⟨q16, hf⟩ := gf_s hf
              refine r_gf C ct12 (j := 9) (ji := 9) dX12_slope_83 q16 rfl rfl (by decide) w_1434 rfl (fun c16 => ?_)
              refine r_iload C dX12_slope_86 rfl ?_
              obtain ⟨q17, hf⟩ := rd_s hf
              refine r_iald C dX12_slope_88 q17 rfl (fun c17 => ?_)
              refine r_iconst C dX12_slope_89 ?_
              refine r_icmp_ne C dX12_slope_90 (tgt := 96) (by decide) c17 (in32_of rfl) (fun n18 => ?_) (fun n18 => ?_)
              · have hf := ite_n n18 hf
                refine r_iload C dX12_slope_96 rfl ?_
                refine r_if_ne C dX12_slope_98 (tgt := 109) (by decide) cv4 (fun n19 => ?_) (fun n19 => ?_)
                · have hf := ite_n n19 hf
                  refine r_iconst C dX12_slope_109 ?_
                  refine r_istore C dX12_slope_110 (Nat.le_of_ble_eq_true rfl) rfl ?_
                  refine r_aload_n C dX12_slope_112 rfl ?_
                  obtain ⟨q20, hf⟩ := gf_s hf
                  refine r_gf C ct12 (j := 10) (ji := 10) dX12_slope_113 q20 rfl rfl (by decide) w_1435 rfl (fun c20 => ?_)
                  refine r_iconst C dX12_slope_116 ?_
                  refine r_iload C dX12_slope_117 rfl ?_
                  obtain ⟨q21, hf⟩ := wt_s hf
                  refine r_iast C dX12_slope_119 q21 rfl c12 ?_
                  exact G.mask [true, false, false, true, true, true, true, true, false, false] rfl rfl (l_X12_slope_120 C hr  cv3 cv4 c12 c14 _ _ _ (in32_of rfl) hf)
                · have hf := ite_p n19 hf
                  refine r_aload_n C dX12_slope_101 rfl ?_
                  obtain ⟨q22, hf⟩ := gf_s hf
                  refine r_gf C ct12 (j := 9) (ji := 9) dX12_slope_102 q22 rfl rfl (by decide) w_1434 rfl (fun c22 => ?_)
                  refine r_iload C dX12_slope_105 rfl ?_
                  obtain ⟨q23, hf⟩ := rd_s hf
                  refine r_iald C dX12_slope_107 q23 rfl (fun c23 => ?_)
                  cases hf
                  exact r_jret C hr dX12_slope_108 c23
              · have hf := ite_p n18 hf
                refine r_bipush C dX12_slope_93 rfl ?_
                cases hf
                exact r_jret C hr dX12_slope_95 (in32_of rfl)
            · have hf := ite_p n10 hf
              exact G.mask [false, false, false, false, false, false, false, false, false, false] rfl rfl (b_X12_slope_46 C hr   hf)
        · have hf := ite_n n7 hf
          exact G.mask [false, false, false, false, false, false, false, false, false, false] rfl rfl (b_X12_slope_32 C hr   hf)
set_option maxRecDepth 20000 in
theorem am_X12_slope (l : Launch) (n : Nat) : AM l yX12_slope cX12_slope 10 (some .int) 4 104 [2, 0, 0, 0, 0] 0 (un5 (f_X12_slope n)) := by
  refine AM.intro (by decide) (fun xs hx => ?_) (fun g xs h Z hl C hr hx hf => ?_)
  · obtain ⟨a0, a1, a2, a3, a4, rfl, c0, c1, c2, c3, c4⟩ := canL_5 hx
    exact Nat.le_of_ble_eq_true rfl
  · obtain ⟨a0, a1, a2, a3, a4, rfl, c0, c1, c2, c3, c4⟩ := canL_5 hx
    have hf := (un5_e _ a0 a1 a2 a3 a4 _).symm.trans hf
    exact e_X12_slope (n := n) C hr c0 c1 c2 c3 c4 hf
/-! LinesPromisedModel.claim(II)I -/
theorem dX12_claim_0 : decode cX12_claim 0 = .ok (.iload_n 1, 1) := by decide +kernel
theorem dX12_claim_1 : decode cX12_claim 1 = .ok (.invokestatic 66, 3) := by decide +kernel
theorem dX12_claim_4 : decode cX12_claim 4 = .ok (.ifCond .ne 5, 3) := by decide +kernel
theorem dX12_claim_7 : decode cX12_claim 7 = .ok (.iconst (-1), 1) := by decide +kernel
theorem dX12_claim_8 : decode cX12_claim 8 = .ok (.ireturn, 1) := by decide +kernel
theorem dX12_claim_9 : decode cX12_claim 9 = .ok (.iload_n 2, 1) := by decide +kernel
theorem dX12_claim_10 : decode cX12_claim 10 = .ok (.iconst 1, 1) := by decide +kernel
theorem dX12_claim_11 : decode cX12_claim 11 = .ok (.sipush 9999, 3) := by decide +kernel
theorem dX12_claim_14 : decode cX12_claim 14 = .ok (.invokestatic 58, 3) := by decide +kernel
theorem dX12_claim_17 : decode cX12_claim 17 = .ok (.ifCond .ne 6, 3) := by decide +kernel
theorem dX12_claim_20 : decode cX12_claim 20 = .ok (.bipush (-2), 2) := by decide +kernel
theorem dX12_claim_22 : decode cX12_claim 22 = .ok (.ireturn, 1) := by decide +kernel
theorem dX12_claim_23 : decode cX12_claim 23 = .ok (.aload_n 0, 1) := by decide +kernel
theorem dX12_claim_24 : decode cX12_claim 24 = .ok (.getfield 8, 3) := by decide +kernel
theorem dX12_claim_27 : decode cX12_claim 27 = .ok (.iconst 2, 1) := by decide +kernel
theorem dX12_claim_28 : decode cX12_claim 28 = .ok (.iaload, 1) := by decide +kernel
theorem dX12_claim_29 : decode cX12_claim 29 = .ok (.bipush 60, 2) := by decide +kernel
theorem dX12_claim_31 : decode cX12_claim 31 = .ok (.if_icmp .ne 8, 3) := by decide +kernel
theorem dX12_claim_34 : decode cX12_claim 34 = .ok (.bipush (-4), 2) := by decide +kernel
theorem dX12_claim_36 : decode cX12_claim 36 = .ok (.goto 14, 3) := by decide +kernel
theorem dX12_claim_39 : decode cX12_claim 39 = .ok (.aload_n 0, 1) := by decide +kernel
theorem dX12_claim_40 : decode cX12_claim 40 = .ok (.bipush 6, 2) := by decide +kernel
theorem dX12_claim_42 : decode cX12_claim 42 = .ok (.iconst (-1), 1) := by decide +kernel
theorem dX12_claim_43 : decode cX12_claim 43 = .ok (.iload_n 1, 1) := by decide +kernel
theorem dX12_claim_44 : decode cX12_claim 44 = .ok (.iconst (-1), 1) := by decide +kernel
theorem dX12_claim_45 : decode cX12_claim 45 = .ok (.iconst (-1), 1) := by decide +kernel
theorem dX12_claim_46 : decode cX12_claim 46 = .ok (.iload_n 2, 1) := by decide +kernel
theorem dX12_claim_47 : decode cX12_claim 47 = .ok (.invokevirtual 158, 3) := by decide +kernel
theorem dX12_claim_50 : decode cX12_claim 50 = .ok (.ireturn, 1) := by decide +kernel
theorem cm_X12_claim : CM yX12_claim cX12_claim 3 (some .int) 2 12 := ⟨w_1683, w_1684, w_1685, w_97, ⟨by decide +kernel, by decide +kernel, by decide +kernel⟩, ⟨_, _, rfl⟩, by decide⟩
noncomputable def f_X12_claim_50 (n : Nat)  (s0 : Int) (h : MM) : RR :=
  some (s0, h)
noncomputable def f_X12_claim (n : Nat) (v0 v1 v2 : Int) (h : MM) : RR :=
  bd (f_X12_isCell n v1 h) fun r1 h1 =>
  if r1 = 0 then
    some ((-1), h1)
  else
  bd (f_X12_in n v2 1 9999 h1) fun r3 h3 =>
  if r3 = 0 then
    some ((-2), h3)
  else
  gf h3 v0 12 1 fun r5 =>
  rd h3 r5 100 2 fun r6 =>
  if r6 = 60 then
    f_X12_claim_50 n ((-4)) h3
  else
  gk h3 v0 12 <|
  bd (f_X12_paper n v0 6 ((-1)) v1 ((-1)) ((-1)) v2 h3) fun r8 h8 =>
  f_X12_claim_50 n r8 h8
set_option maxRecDepth 20000 in
theorem b_X12_claim_50 {g : GT} {Z : Int × MM} {n : Nat} (C : Cx g cX12_claim 3 yX12_claim 2 42) (hr : Rt g (some .int) 0 Z) {s0 : Int}    (cs0 : in32 s0) {h : MM} (hf : f_X12_claim_50 n  s0 h = some Z) : G g 50 [(3, 0), (3, 0), (3, 0)] [(0, s0)] h := by
  unfold f_X12_claim_50 at hf
  cases hf
  exact r_jret C hr dX12_claim_50 cs0
set_option maxRecDepth 20000 in
theorem e_X12_claim {g : GT} {Z : Int × MM} {n : Nat} (C : Cx g cX12_claim 3 yX12_claim 2 42) (hr : Rt g (some .int) 0 Z) {v0 v1 v2 : Int} (cv0 : cK 2 v0) (cv1 : cK 0 v1) (cv2 : cK 0 v2) {h : MM} (hf : f_X12_claim n v0 v1 v2 h = some Z) : G g 0 [(2, v0), (0, v1), (0, v2)] [] h := by
  have cv1 : in32 v1 := cv1
  have cv2 : in32 v2 := cv2
  unfold f_X12_claim at hf
  refine r_iload_n C dX12_claim_0 rfl ?_
  obtain ⟨r1, h1, hq1, hf⟩ := bd_s hf
  refine r_cS1 C (am_X12_isCell (gl g) n) cm_X12_isCell w_1493 dX12_claim_1 ⟨Nat.le_of_ble_eq_true rfl, Nat.le_of_ble_eq_true rfl⟩ cv1 rfl (Nat.le_of_ble_eq_true rfl) hq1 (by decide) (fun c1 => ?_)
  have c1 : in32 _ := c1
  refine r_if_ne C dX12_claim_4 (tgt := 9) (by decide) c1 (fun n2 => ?_) (fun n2 => ?_)
  · have hf := ite_n n2 hf
    refine r_iload_n C dX12_claim_9 rfl ?_
    refine r_iconst C dX12_claim_10 ?_
    refine r_sipush C dX12_claim_11 rfl ?_
    obtain ⟨r3, h3, hq3, hf⟩ := bd_s hf
    refine r_cS3 C (am_X12_in (gl g) n) cm_X12_in w_1496 dX12_claim_14 ⟨Nat.le_of_ble_eq_true rfl, Nat.le_of_ble_eq_true rfl⟩ cv2 (in32_of rfl) (in32_of rfl) rfl (Nat.le_of_ble_eq_true rfl) hq3 (by decide) (fun c3 => ?_)
    have c3 : in32 _ := c3
    refine r_if_ne C dX12_claim_17 (tgt := 23) (by decide) c3 (fun n4 => ?_) (fun n4 => ?_)
    · have hf := ite_n n4 hf
      refine r_aload_n C dX12_claim_23 rfl ?_
      obtain ⟨q5, hf⟩ := gf_s hf
      refine r_gf C ct12 (j := 1) (ji := 1) dX12_claim_24 q5 rfl rfl (by decide) w_1426 rfl (fun c5 => ?_)
      refine r_iconst C dX12_claim_27 ?_
      obtain ⟨q6, hf⟩ := rd_s hf
      refine r_iald C dX12_claim_28 q6 rfl (fun c6 => ?_)
      refine r_bipush C dX12_claim_29 rfl ?_
      refine r_icmp_ne C dX12_claim_31 (tgt := 39) (by decide) c6 (in32_of rfl) (fun n7 => ?_) (fun n7 => ?_)
      · have hf := ite_n n7 hf
        refine r_aload_n C dX12_claim_39 rfl ?_
        refine r_bipush C dX12_claim_40 rfl ?_
        refine r_iconst C dX12_claim_42 ?_
        refine r_iload_n C dX12_claim_43 rfl ?_
        refine r_iconst C dX12_claim_44 ?_
        refine r_iconst C dX12_claim_45 ?_
        refine r_iload_n C dX12_claim_46 rfl ?_
        obtain ⟨p8, hf⟩ := gk_s hf
        obtain ⟨r8, h8, hq8, hf⟩ := bd_s hf
        refine r_cV6 C (am_X12_paper (gl g) n) cm_X12_paper w_1599 dX12_claim_47 ⟨Nat.le_of_ble_eq_true rfl, Nat.le_of_ble_eq_true rfl⟩ p8 rfl (in32_of rfl) (in32_of rfl) cv1 (in32_of rfl) (in32_of rfl) cv2 rfl (Nat.le_of_ble_eq_true rfl) hq8 (by decide) (fun c8 => ?_)
        have c8 : in32 _ := c8
        exact G.mask [false, false, false] rfl rfl (b_X12_claim_50 C hr  c8 hf)
      · have hf := ite_p n7 hf
        refine r_bipush C dX12_claim_34 rfl ?_
        refine r_goto C dX12_claim_36 (tgt := 50) (by decide) ?_
        exact G.mask [false, false, false] rfl rfl (b_X12_claim_50 C hr  (in32_of rfl) hf)
    · have hf := ite_p n4 hf
      refine r_bipush C dX12_claim_20 rfl ?_
      cases hf
      exact r_jret C hr dX12_claim_22 (in32_of rfl)
  · have hf := ite_p n2 hf
    refine r_iconst C dX12_claim_7 ?_
    cases hf
    exact r_jret C hr dX12_claim_8 (in32_of rfl)
set_option maxRecDepth 20000 in
theorem am_X12_claim (l : Launch) (n : Nat) : AM l yX12_claim cX12_claim 3 (some .int) 2 42 [2, 0, 0] 0 (un3 (f_X12_claim n)) := by
  refine AM.intro (by decide) (fun xs hx => ?_) (fun g xs h Z hl C hr hx hf => ?_)
  · obtain ⟨a0, a1, a2, rfl, c0, c1, c2⟩ := canL_3 hx
    exact Nat.le_of_ble_eq_true rfl
  · obtain ⟨a0, a1, a2, rfl, c0, c1, c2⟩ := canL_3 hx
    have hf := (un3_e _ a0 a1 a2 _).symm.trans hf
    exact e_X12_claim (n := n) C hr c0 c1 c2 hf
/-! LinesPromisedModel.bill(I)I -/
theorem dX12_bill_0 : decode cX12_bill 0 = .ok (.aload_n 0, 1) := by decide +kernel
theorem dX12_bill_1 : decode cX12_bill 1 = .ok (.iload_n 1, 1) := by decide +kernel
theorem dX12_bill_2 : decode cX12_bill 2 = .ok (.iconst 2, 1) := by decide +kernel
theorem dX12_bill_3 : decode cX12_bill 3 = .ok (.invokevirtual 165, 3) := by decide +kernel
theorem dX12_bill_6 : decode cX12_bill 6 = .ok (.ifCond .ne 5, 3) := by decide +kernel
theorem dX12_bill_9 : decode cX12_bill 9 = .ok (.iconst (-1), 1) := by decide +kernel
theorem dX12_bill_10 : decode cX12_bill 10 = .ok (.ireturn, 1) := by decide +kernel
theorem dX12_bill_11 : decode cX12_bill 11 = .ok (.aload_n 0, 1) := by decide +kernel
theorem dX12_bill_12 : decode cX12_bill 12 = .ok (.getfield 8, 3) := by decide +kernel
theorem dX12_bill_15 : decode cX12_bill 15 = .ok (.sipush 910, 3) := by decide +kernel
theorem dX12_bill_18 : decode cX12_bill 18 = .ok (.iload_n 1, 1) := by decide +kernel
theorem dX12_bill_19 : decode cX12_bill 19 = .ok (.iadd, 1) := by decide +kernel
theorem dX12_bill_20 : decode cX12_bill 20 = .ok (.iaload, 1) := by decide +kernel
theorem dX12_bill_21 : decode cX12_bill 21 = .ok (.bipush (-5), 2) := by decide +kernel
theorem dX12_bill_23 : decode cX12_bill 23 = .ok (.if_icmp .ne 59, 3) := by decide +kernel
theorem dX12_bill_26 : decode cX12_bill 26 = .ok (.aload_n 0, 1) := by decide +kernel
theorem dX12_bill_27 : decode cX12_bill 27 = .ok (.iload_n 1, 1) := by decide +kernel
theorem dX12_bill_28 : decode cX12_bill 28 = .ok (.aload_n 0, 1) := by decide +kernel
theorem dX12_bill_29 : decode cX12_bill 29 = .ok (.getfield 8, 3) := by decide +kernel
theorem dX12_bill_32 : decode cX12_bill 32 = .ok (.iconst 0, 1) := by decide +kernel
theorem dX12_bill_33 : decode cX12_bill 33 = .ok (.iaload, 1) := by decide +kernel
theorem dX12_bill_34 : decode cX12_bill 34 = .ok (.invokevirtual 193, 3) := by decide +kernel
theorem dX12_bill_37 : decode cX12_bill 37 = .ok (.bipush (-5), 2) := by decide +kernel
theorem dX12_bill_39 : decode cX12_bill 39 = .ok (.if_icmp .ne 43, 3) := by decide +kernel
theorem dX12_bill_42 : decode cX12_bill 42 = .ok (.aload_n 0, 1) := by decide +kernel
theorem dX12_bill_43 : decode cX12_bill 43 = .ok (.iload_n 1, 1) := by decide +kernel
theorem dX12_bill_44 : decode cX12_bill 44 = .ok (.aload_n 0, 1) := by decide +kernel
theorem dX12_bill_45 : decode cX12_bill 45 = .ok (.getfield 8, 3) := by decide +kernel
theorem dX12_bill_48 : decode cX12_bill 48 = .ok (.iconst 0, 1) := by decide +kernel
theorem dX12_bill_49 : decode cX12_bill 49 = .ok (.iaload, 1) := by decide +kernel
theorem dX12_bill_50 : decode cX12_bill 50 = .ok (.invokevirtual 196, 3) := by decide +kernel
theorem dX12_bill_53 : decode cX12_bill 53 = .ok (.bipush (-5), 2) := by decide +kernel
theorem dX12_bill_55 : decode cX12_bill 55 = .ok (.if_icmp .ne 27, 3) := by decide +kernel
theorem dX12_bill_58 : decode cX12_bill 58 = .ok (.aload_n 0, 1) := by decide +kernel
theorem dX12_bill_59 : decode cX12_bill 59 = .ok (.getfield 8, 3) := by decide +kernel
theorem dX12_bill_62 : decode cX12_bill 62 = .ok (.iconst 0, 1) := by decide +kernel
theorem dX12_bill_63 : decode cX12_bill 63 = .ok (.iaload, 1) := by decide +kernel
theorem dX12_bill_64 : decode cX12_bill 64 = .ok (.aload_n 0, 1) := by decide +kernel
theorem dX12_bill_65 : decode cX12_bill 65 = .ok (.iconst 2, 1) := by decide +kernel
theorem dX12_bill_66 : decode cX12_bill 66 = .ok (.aload_n 0, 1) := by decide +kernel
theorem dX12_bill_67 : decode cX12_bill 67 = .ok (.getfield 8, 3) := by decide +kernel
theorem dX12_bill_70 : decode cX12_bill 70 = .ok (.iconst 0, 1) := by decide +kernel
theorem dX12_bill_71 : decode cX12_bill 71 = .ok (.iaload, 1) := by decide +kernel
theorem dX12_bill_72 : decode cX12_bill 72 = .ok (.invokevirtual 152, 3) := by decide +kernel
theorem dX12_bill_75 : decode cX12_bill 75 = .ok (.if_icmp .gt 7, 3) := by decide +kernel
theorem dX12_bill_78 : decode cX12_bill 78 = .ok (.iconst 1, 1) := by decide +kernel
theorem dX12_bill_79 : decode cX12_bill 79 = .ok (.goto 4, 3) := by decide +kernel
theorem dX12_bill_82 : decode cX12_bill 82 = .ok (.iconst 0, 1) := by decide +kernel
theorem dX12_bill_83 : decode cX12_bill 83 = .ok (.istore_n 2, 1) := by decide +kernel
theorem dX12_bill_84 : decode cX12_bill 84 = .ok (.iconst 0, 1) := by decide +kernel
theorem dX12_bill_85 : decode cX12_bill 85 = .ok (.istore_n 3, 1) := by decide +kernel
theorem dX12_bill_86 : decode cX12_bill 86 = .ok (.iload_n 3, 1) := by decide +kernel
theorem dX12_bill_87 : decode cX12_bill 87 = .ok (.aload_n 0, 1) := by decide +kernel
theorem dX12_bill_88 : decode cX12_bill 88 = .ok (.getfield 8, 3) := by decide +kernel
theorem dX12_bill_91 : decode cX12_bill 91 = .ok (.iconst 2, 1) := by decide +kernel
theorem dX12_bill_92 : decode cX12_bill 92 = .ok (.iaload, 1) := by decide +kernel
theorem dX12_bill_93 : decode cX12_bill 93 = .ok (.if_icmp .ge 47, 3) := by decide +kernel
theorem dX12_bill_96 : decode cX12_bill 96 = .ok (.iload_n 2, 1) := by decide +kernel
theorem dX12_bill_97 : decode cX12_bill 97 = .ok (.ifCond .eq 35, 3) := by decide +kernel
theorem dX12_bill_100 : decode cX12_bill 100 = .ok (.aload_n 0, 1) := by decide +kernel
theorem dX12_bill_101 : decode cX12_bill 101 = .ok (.getfield 8, 3) := by decide +kernel
theorem dX12_bill_104 : decode cX12_bill 104 = .ok (.sipush 370, 3) := by decide +kernel
theorem dX12_bill_107 : decode cX12_bill 107 = .ok (.iload_n 3, 1) := by decide +kernel
theorem dX12_bill_108 : decode cX12_bill 108 = .ok (.iadd, 1) := by decide +kernel
theorem dX12_bill_109 : decode cX12_bill 109 = .ok (.iaload, 1) := by decide +kernel
theorem dX12_bill_110 : decode cX12_bill 110 = .ok (.iconst 3, 1) := by decide +kernel
theorem dX12_bill_111 : decode cX12_bill 111 = .ok (.if_icmp .ne 17, 3) := by decide +kernel
theorem dX12_bill_114 : decode cX12_bill 114 = .ok (.aload_n 0, 1) := by decide +kernel
theorem dX12_bill_115 : decode cX12_bill 115 = .ok (.getfield 8, 3) := by decide +kernel
theorem dX12_bill_118 : decode cX12_bill 118 = .ok (.sipush 430, 3) := by decide +kernel
theorem dX12_bill_121 : decode cX12_bill 121 = .ok (.iload_n 3, 1) := by decide +kernel
theorem dX12_bill_122 : decode cX12_bill 122 = .ok (.iadd, 1) := by decide +kernel
theorem dX12_bill_123 : decode cX12_bill 123 = .ok (.iaload, 1) := by decide +kernel
theorem dX12_bill_124 : decode cX12_bill 124 = .ok (.iload_n 1, 1) := by decide +kernel
theorem dX12_bill_125 : decode cX12_bill 125 = .ok (.if_icmp .eq 7, 3) := by decide +kernel
theorem dX12_bill_128 : decode cX12_bill 128 = .ok (.iconst 1, 1) := by decide +kernel
theorem dX12_bill_129 : decode cX12_bill 129 = .ok (.goto 4, 3) := by decide +kernel
theorem dX12_bill_132 : decode cX12_bill 132 = .ok (.iconst 0, 1) := by decide +kernel
theorem dX12_bill_133 : decode cX12_bill 133 = .ok (.istore_n 2, 1) := by decide +kernel
theorem dX12_bill_134 : decode cX12_bill 134 = .ok (.iinc 3 1, 3) := by decide +kernel
theorem dX12_bill_137 : decode cX12_bill 137 = .ok (.goto (-51), 3) := by decide +kernel
theorem dX12_bill_140 : decode cX12_bill 140 = .ok (.iload_n 2, 1) := by decide +kernel
theorem dX12_bill_141 : decode cX12_bill 141 = .ok (.ifCond .ne 6, 3) := by decide +kernel
theorem dX12_bill_144 : decode cX12_bill 144 = .ok (.bipush (-3), 2) := by decide +kernel
theorem dX12_bill_146 : decode cX12_bill 146 = .ok (.ireturn, 1) := by decide +kernel
theorem dX12_bill_147 : decode cX12_bill 147 = .ok (.aload_n 0, 1) := by decide +kernel
theorem dX12_bill_148 : decode cX12_bill 148 = .ok (.getfield 8, 3) := by decide +kernel
theorem dX12_bill_151 : decode cX12_bill 151 = .ok (.iconst 2, 1) := by decide +kernel
theorem dX12_bill_152 : decode cX12_bill 152 = .ok (.iaload, 1) := by decide +kernel
theorem dX12_bill_153 : decode cX12_bill 153 = .ok (.bipush 60, 2) := by decide +kernel
theorem dX12_bill_155 : decode cX12_bill 155 = .ok (.if_icmp .ne 8, 3) := by decide +kernel
theorem dX12_bill_158 : decode cX12_bill 158 = .ok (.bipush (-4), 2) := by decide +kernel
theorem dX12_bill_160 : decode cX12_bill 160 = .ok (.goto 40, 3) := by decide +kernel
theorem dX12_bill_163 : decode cX12_bill 163 = .ok (.aload_n 0, 1) := by decide +kernel
theorem dX12_bill_164 : decode cX12_bill 164 = .ok (.iconst 3, 1) := by decide +kernel
theorem dX12_bill_165 : decode cX12_bill 165 = .ok (.iload_n 1, 1) := by decide +kernel
theorem dX12_bill_166 : decode cX12_bill 166 = .ok (.aload_n 0, 1) := by decide +kernel
theorem dX12_bill_167 : decode cX12_bill 167 = .ok (.getfield 8, 3) := by decide +kernel
theorem dX12_bill_170 : decode cX12_bill 170 = .ok (.sipush 550, 3) := by decide +kernel
theorem dX12_bill_173 : decode cX12_bill 173 = .ok (.iload_n 1, 1) := by decide +kernel
theorem dX12_bill_174 : decode cX12_bill 174 = .ok (.iadd, 1) := by decide +kernel
theorem dX12_bill_175 : decode cX12_bill 175 = .ok (.iaload, 1) := by decide +kernel
theorem dX12_bill_176 : decode cX12_bill 176 = .ok (.aload_n 0, 1) := by decide +kernel
theorem dX12_bill_177 : decode cX12_bill 177 = .ok (.getfield 8, 3) := by decide +kernel
theorem dX12_bill_180 : decode cX12_bill 180 = .ok (.sipush 610, 3) := by decide +kernel
theorem dX12_bill_183 : decode cX12_bill 183 = .ok (.iload_n 1, 1) := by decide +kernel
theorem dX12_bill_184 : decode cX12_bill 184 = .ok (.iadd, 1) := by decide +kernel
theorem dX12_bill_185 : decode cX12_bill 185 = .ok (.iaload, 1) := by decide +kernel
theorem dX12_bill_186 : decode cX12_bill 186 = .ok (.aload_n 0, 1) := by decide +kernel
theorem dX12_bill_187 : decode cX12_bill 187 = .ok (.getfield 8, 3) := by decide +kernel
theorem dX12_bill_190 : decode cX12_bill 190 = .ok (.sipush 670, 3) := by decide +kernel
theorem dX12_bill_193 : decode cX12_bill 193 = .ok (.iload_n 1, 1) := by decide +kernel
theorem dX12_bill_194 : decode cX12_bill 194 = .ok (.iadd, 1) := by decide +kernel
theorem dX12_bill_195 : decode cX12_bill 195 = .ok (.iaload, 1) := by decide +kernel
theorem dX12_bill_196 : decode cX12_bill 196 = .ok (.iconst (-1), 1) := by decide +kernel
theorem dX12_bill_197 : decode cX12_bill 197 = .ok (.invokevirtual 158, 3) := by decide +kernel
theorem dX12_bill_200 : decode cX12_bill 200 = .ok (.ireturn, 1) := by decide +kernel
theorem cm_X12_bill : CM yX12_bill cX12_bill 4 (some .int) 1 12 := ⟨w_1687, w_1688, w_1689, w_97, ⟨by decide +kernel, by decide +kernel, by decide +kernel⟩, ⟨_, _, rfl⟩, by decide⟩
noncomputable def f_X12_bill_200 (n : Nat)  (s0 : Int) (h : MM) : RR :=
  some (s0, h)
noncomputable def f_X12_bill_133 (n : Nat) (rec86 : Int → Int → MM → RR) (v0 v1 v3 s0 : Int) (h : MM) : RR :=
  lb (wr (v3 + 1)) fun x1 =>
  rec86 s0 x1 h
noncomputable def f_X12_bill_132 (n : Nat) (rec86 : Int → Int → MM → RR) (v0 v1 v3 : Int) (h : MM) : RR :=
  f_X12_bill_133 n rec86 v0 v1 v3 0 h
noncomputable def f_X12_bill_128 (n : Nat) (rec86 : Int → Int → MM → RR) (v0 v1 v3 : Int) (h : MM) : RR :=
  f_X12_bill_133 n rec86 v0 v1 v3 1 h
noncomputable def f_X12_bill_86b (n : Nat) (rec86 : Int → Int → MM → RR) (v0 v1 v2 v3 : Int) (h : MM) : RR :=
  gf h v0 12 1 fun r1 =>
  rd h r1 100 2 fun r2 =>
  if r2 ≤ v3 then
    if v2 = 0 then
      some ((-3), h)
    else
    gf h v0 12 1 fun r5 =>
    rd h r5 100 2 fun r6 =>
    if r6 = 60 then
      f_X12_bill_200 n ((-4)) h
    else
    gf h v0 12 1 fun r8 =>
    rd h r8 100 (wr (550 + v1)) fun r9 =>
    gf h v0 12 1 fun r10 =>
    rd h r10 100 (wr (610 + v1)) fun r11 =>
    gf h v0 12 1 fun r12 =>
    rd h r12 100 (wr (670 + v1)) fun r13 =>
    gk h v0 12 <|
    bd (f_X12_paper n v0 3 v1 r9 r11 r13 ((-1)) h) fun r14 h14 =>
    f_X12_bill_200 n r14 h14
  else
  if v2 = 0 then
    f_X12_bill_132 n rec86 v0 v1 v3 h
  else
  gf h v0 12 1 fun r16 =>
  rd h r16 100 (wr (370 + v3)) fun r17 =>
  if r17 = 3 then
    gf h v0 12 1 fun r19 =>
    rd h r19 100 (wr (430 + v3)) fun r20 =>
    if r20 = v1 then
      f_X12_bill_132 n rec86 v0 v1 v3 h
    else
    f_X12_bill_128 n rec86 v0 v1 v3 h
  else
  f_X12_bill_128 n rec86 v0 v1 v3 h
noncomputable def f_X12_bill_86 (n : Nat)  (v0 v1 : Int) : Nat → Int → Int → MM → RR
  | 0, _, _, _ => none
  | k + 1, v2, v3, h => f_X12_bill_86b n  (f_X12_bill_86 n  v0 v1 k) v0 v1 v2 v3 h
noncomputable def f_X12_bill_83 (n : Nat)  (v0 v1 s0 : Int) (h : MM) : RR :=
  f_X12_bill_86 n v0 v1 n s0 0 h
noncomputable def f_X12_bill_82 (n : Nat)  (v0 v1 : Int) (h : MM) : RR :=
  f_X12_bill_83 n v0 v1 0 h
noncomputable def f_X12_bill (n : Nat) (v0 v1 : Int) (h : MM) : RR :=
  gk h v0 12 <|
  bd (f_X12_isOf n v0 v1 2 h) fun r1 h1 =>
  if r1 = 0 then
    some ((-1), h1)
  else
  gf h1 v0 12 1 fun r3 =>
  rd h1 r3 100 (wr (910 + v1)) fun r4 =>
  if r4 = (-5) then
    gf h1 v0 12 1 fun r6 =>
    rd h1 r6 100 0 fun r7 =>
    gk h1 v0 12 <|
    bd (f_X12_notClose n v0 v1 r7 h1) fun r8 h8 =>
    if r8 = (-5) then
      gf h8 v0 12 1 fun r10 =>
      rd h8 r10 100 0 fun r11 =>
      gk h8 v0 12 <|
      bd (f_X12_steep n v0 v1 r11 h8) fun r12 h12 =>
      if r12 = (-5) then
        gf h12 v0 12 1 fun r14 =>
        rd h12 r14 100 0 fun r15 =>
        gf h12 v0 12 1 fun r16 =>
        rd h12 r16 100 0 fun r17 =>
        gk h12 v0 12 <|
        bd (f_X12_rule n v0 2 r17 h12) fun r18 h18 =>
        if r18 < r15 then
          f_X12_bill_82 n v0 v1 h18
        else
        f_X12_bill_83 n v0 v1 1 h18
      else
      f_X12_bill_82 n v0 v1 h12
    else
    f_X12_bill_82 n v0 v1 h8
  else
  f_X12_bill_82 n v0 v1 h1
set_option maxRecDepth 20000 in
theorem b_X12_bill_200 {g : GT} {Z : Int × MM} {n : Nat} (C : Cx g cX12_bill 4 yX12_bill 3 73) (hr : Rt g (some .int) 0 Z) {s0 : Int}    (cs0 : in32 s0) {h : MM} (hf : f_X12_bill_200 n  s0 h = some Z) : G g 200 [(3, 0), (3, 0), (3, 0), (3, 0)] [(0, s0)] h := by
  unfold f_X12_bill_200 at hf
  cases hf
  exact r_jret C hr dX12_bill_200 cs0
set_option maxRecDepth 20000 in
theorem b_X12_bill_133 {g : GT} {Z : Int × MM} {n : Nat} (C : Cx g cX12_bill 4 yX12_bill 3 73) (hr : Rt g (some .int) 0 Z) {v0 v1 v3 s0 : Int}  {rec86 : Int → Int → MM → RR} (L86 : ∀ (u2 u3 : Int) (h : MM), in32 u2 → in32 u3 → rec86 u2 u3 h = some Z → G g 86 [(2, v0), (0, v1), (0, u2), (0, u3)] [] h) (cv1 : in32 v1) (cv3 : in32 v3) (cs0 : in32 s0) {h : MM} (hf : f_X12_bill_133 n rec86 v0 v1 v3 s0 h = some Z) : G g 133 [(2, v0), (0, v1), (3, 0), (0, v3)] [(0, s0)] h := by
  unfold f_X12_bill_133 at hf
  refine r_istore_n C dX12_bill_133 (Nat.le_of_ble_eq_true rfl) rfl ?_
  obtain ⟨x1, e1, hf⟩ := lb_s hf
  have c1 : in32 x1 := by rw [e1]; exact (in32_t _)
  refine r_iincL C dX12_bill_134 rfl e1 (Nat.le_of_ble_eq_true rfl) rfl ?_
  refine r_goto C dX12_bill_137 (tgt := 86) (by decide) ?_
  exact G.mask [true, true, true, true] rfl rfl (L86 _ _ _ cs0 c1 hf)
set_option maxRecDepth 20000 in
theorem b_X12_bill_132 {g : GT} {Z : Int × MM} {n : Nat} (C : Cx g cX12_bill 4 yX12_bill 3 73) (hr : Rt g (some .int) 0 Z) {v0 v1 v3 : Int}  {rec86 : Int → Int → MM → RR} (L86 : ∀ (u2 u3 : Int) (h : MM), in32 u2 → in32 u3 → rec86 u2 u3 h = some Z → G g 86 [(2, v0), (0, v1), (0, u2), (0, u3)] [] h) (cv1 : in32 v1) (cv3 : in32 v3) {h : MM} (hf : f_X12_bill_132 n rec86 v0 v1 v3 h = some Z) : G g 132 [(2, v0), (0, v1), (3, 0), (0, v3)] [] h := by
  unfold f_X12_bill_132 at hf
  refine r_iconst C dX12_bill_132 ?_
  exact G.mask [true, true, false, true] rfl rfl (b_X12_bill_133 C hr L86 cv1 cv3 (in32_of rfl) hf)
set_option maxRecDepth 20000 in
theorem b_X12_bill_128 {g : GT} {Z : Int × MM} {n : Nat} (C : Cx g cX12_bill 4 yX12_bill 3 73) (hr : Rt g (some .int) 0 Z) {v0 v1 v3 : Int}  {rec86 : Int → Int → MM → RR} (L86 : ∀ (u2 u3 : Int) (h : MM), in32 u2 → in32 u3 → rec86 u2 u3 h = some Z → G g 86 [(2, v0), (0, v1), (0, u2), (0, u3)] [] h) (cv1 : in32 v1) (cv3 : in32 v3) {h : MM} (hf : f_X12_bill_128 n rec86 v0 v1 v3 h = some Z) : G g 128 [(2, v0), (0, v1), (3, 0), (0, v3)] [] h := by
  unfold f_X12_bill_128 at hf
  refine r_iconst C dX12_bill_128 ?_
  refine r_goto C dX12_bill_129 (tgt := 133) (by decide) ?_
  exact G.mask [true, true, false, true] rfl rfl (b_X12_bill_133 C hr L86 cv1 cv3 (in32_of rfl) hf)
set_option maxRecDepth 20000 in
theorem b_X12_bill_86b {g : GT} {Z : Int × MM} {n : Nat} (C : Cx g cX12_bill 4 yX12_bill 3 73) (hr : Rt g (some .int) 0 Z) {v0 v1 v2 v3 : Int}  {rec86 : Int → Int → MM → RR} (L86 : ∀ (u2 u3 : Int) (h : MM), in32 u2 → in32 u3 → rec86 u2 u3 h = some Z → G g 86 [(2, v0), (0, v1), (0, u2), (0, u3)] [] h) (cv1 : in32 v1) (cv2 : in32 v2) (cv3 : in32 v3) {h : MM} (hf : f_X12_bill_86b n rec86 v0 v1 v2 v3 h = some Z) : G g 86 [(2, v0), (0, v1), (0, v2), (0, v3)] [] h := by
  unfold f_X12_bill_86b at hf
  refine r_iload_n C dX12_bill_86 rfl ?_
  refine r_aload_n C dX12_bill_87 rfl ?_
  obtain ⟨q1, hf⟩ := gf_s hf
  refine r_gf C ct12 (j := 1) (ji := 1) dX12_bill_88 q1 rfl rfl (by decide) w_1426 rfl (fun c1 => ?_)
  refine r_iconst C dX12_bill_91 ?_
  obtain ⟨q2, hf⟩ := rd_s hf
  refine r_iald C dX12_bill_92 q2 rfl (fun c2 => ?_)
  refine r_icmp_ge C dX12_bill_93 (tgt := 140) (by decide) cv3 c2 (fun n3 => ?_) (fun n3 => ?_)
  · have hf := ite_p n3 hf
    refine r_iload_n C dX12_bill_140 rfl ?_
    refine r_if_ne C dX12_bill_141 (tgt := 147) (by decide) cv2 (fun n4 => ?_) (fun n4 => ?_)
    · have hf := ite_n n4 hf
      refine r_aload_n C dX12_bill_147 rfl ?_
      obtain ⟨q5, hf⟩ := gf_s hf
      refine r_gf C ct12 (j := 1) (ji := 1) dX12_bill_148 q5 rfl rfl (by decide) w_1426 rfl (fun c5 => ?_)
      refine r_iconst C dX12_bill_151 ?_
      obtain ⟨q6, hf⟩ := rd_s hf
      refine r_iald C dX12_bill_152 q6 rfl (fun c6 => ?_)
      refine r_bipush C dX12_bill_153 rfl ?_
      refine r_icmp_ne C dX12_bill_155 (tgt := 163) (by decide) c6 (in32_of rfl) (fun n7 => ?_) (fun n7 => ?_)
      · have hf := ite_n n7 hf
        refine r_aload_n C dX12_bill_163 rfl ?_
        refine r_iconst C dX12_bill_164 ?_
        refine r_iload_n C dX12_bill_165 rfl ?_
        refine r_aload_n C dX12_bill_166 rfl ?_
        obtain ⟨q8, hf⟩ := gf_s hf
        refine r_gf C ct12 (j := 1) (ji := 1) dX12_bill_167 q8 rfl rfl (by decide) w_1426 rfl (fun c8 => ?_)
        refine r_sipush C dX12_bill_170 rfl ?_
        refine r_iload_n C dX12_bill_173 rfl ?_
        refine r_iadd C dX12_bill_174 ?_
        obtain ⟨q9, hf⟩ := rd_s hf
        refine r_iald C dX12_bill_175 q9 rfl (fun c9 => ?_)
        refine r_aload_n C dX12_bill_176 rfl ?_
        obtain ⟨q10, hf⟩ := gf_s hf
        refine r_gf C ct12 (j := 1) (ji := 1) dX12_bill_177 q10 rfl rfl (by decide) w_1426 rfl (fun c10 => ?_)
        refine r_sipush C dX12_bill_180 rfl ?_
        refine r_iload_n C dX12_bill_183 rfl ?_
        refine r_iadd C dX12_bill_184 ?_
        obtain ⟨q11, hf⟩ := rd_s hf
        refine r_iald C dX12_bill_185 q11 rfl (fun c11 => ?_)
        refine r_aload_n C dX12_bill_186 rfl ?_
        obtain ⟨q12, hf⟩ := gf_s hf
        refine r_gf C ct12 (j := 1) (ji := 1) dX12_bill_187 q12 rfl rfl (by decide) w_1426 rfl (fun c12 => ?_)
        refine r_sipush C dX12_bill_190 rfl ?_
        refine r_iload_n C dX12_bill_193 rfl ?_
        refine r_iadd C dX12_bill_194 ?_
        obtain ⟨q13, hf⟩ := rd_s hf
        refine r_iald C dX12_bill_195 q13 rfl (fun c13 => ?_)
        refine r_iconst C dX12_bill_196 ?_
        obtain ⟨p14, hf⟩ := gk_s hf
        obtain ⟨r14, h14, hq14, hf⟩ := bd_s hf
        refine r_cV6 C (am_X12_paper (gl g) n) cm_X12_paper w_1599 dX12_bill_197 ⟨Nat.le_of_ble_eq_true rfl, Nat.le_of_ble_eq_true rfl⟩ p14 rfl (in32_of rfl) cv1 c9 c11 c13 (in32_of rfl) rfl (Nat.le_of_ble_eq_true rfl) hq14 (by decide) (fun c14 => ?_)
        have c14 : in32 _ := c14
        exact G.mask [false, false, false, false] rfl rfl (b_X12_bill_200 C hr  c14 hf)
      · have hf := ite_p n7 hf
        refine r_bipush C dX12_bill_158 rfl ?_
        refine r_goto C dX12_bill_160 (tgt := 200) (by decide) ?_
        exact G.mask [false, false, false, false] rfl rfl (b_X12_bill_200 C hr  (in32_of rfl) hf)
    · have hf := ite_p n4 hf
      refine r_bipush C dX12_bill_144 rfl ?_
      cases hf
      exact r_jret C hr dX12_bill_146 (in32_of rfl)
  · have hf := ite_n n3 hf
    refine r_iload_n C dX12_bill_96 rfl ?_
    refine r_if_eq C dX12_bill_97 (tgt := 132) (by decide) cv2 (fun n15 => ?_) (fun n15 => ?_)
    · have hf := ite_p n15 hf
      exact G.mask [true, true, false, true] rfl rfl (b_X12_bill_132 C hr L86 cv1 cv3 hf)
    · have hf := ite_n n15 hf
      refine r_aload_n C dX12_bill_100 rfl ?_
      obtain ⟨q16, hf⟩ := gf_s hf
      refine r_gf C ct12 (j := 1) (ji := 1) dX12_bill_101 q16 rfl rfl (by decide) w_1426 rfl (fun c16 => ?_)
      refine r_sipush C dX12_bill_104 rfl ?_
      refine r_iload_n C dX12_bill_107 rfl ?_
      refine r_iadd C dX12_bill_108 ?_
      obtain ⟨q17, hf⟩ := rd_s hf
      refine r_iald C dX12_bill_109 q17 rfl (fun c17 => ?_)
      refine r_iconst C dX12_bill_110 ?_
      refine r_icmp_ne C dX12_bill_111 (tgt := 128) (by decide) c17 (in32_of rfl) (fun n18 => ?_) (fun n18 => ?_)
      · have hf := ite_n n18 hf
        exact G.mask [true, true, false, true] rfl rfl (b_X12_bill_128 C hr L86 cv1 cv3 hf)
      · have hf := ite_p n18 hf
        refine r_aload_n C dX12_bill_114 rfl ?_
        obtain ⟨q19, hf⟩ := gf_s hf
        refine r_gf C ct12 (j := 1) (ji := 1) dX12_bill_115 q19 rfl rfl (by decide) w_1426 rfl (fun c19 => ?_)
        refine r_sipush C dX12_bill_118 rfl ?_
        refine r_iload_n C dX12_bill_121 rfl ?_
        refine r_iadd C dX12_bill_122 ?_
        obtain ⟨q20, hf⟩ := rd_s hf
        refine r_iald C dX12_bill_123 q20 rfl (fun c20 => ?_)
        refine r_iload_n C dX12_bill_124 rfl ?_
        refine r_icmp_eq C dX12_bill_125 (tgt := 132) (by decide) c20 cv1 (fun n21 => ?_) (fun n21 => ?_)
        · have hf := ite_p n21 hf
          exact G.mask [true, true, false, true] rfl rfl (b_X12_bill_132 C hr L86 cv1 cv3 hf)
        · have hf := ite_n n21 hf
          exact G.mask [true, true, false, true] rfl rfl (b_X12_bill_128 C hr L86 cv1 cv3 hf)
set_option maxRecDepth 20000 in
theorem l_X12_bill_86 {g : GT} {Z : Int × MM} {n : Nat} (C : Cx g cX12_bill 4 yX12_bill 3 73) (hr : Rt g (some .int) 0 Z) {v0 v1 : Int}   (cv1 : in32 v1) : ∀ (k : Nat) (v2 v3 : Int) (h : MM), in32 v2 → in32 v3 → f_X12_bill_86 n  v0 v1 k v2 v3 h = some Z → G g 86 [(2, v0), (0, v1), (0, v2), (0, v3)] [] h := by
  intro k
  induction k with
  | zero => intro v2 v3 h cv2 cv3 hf; exact absurd hf (by intro z; cases z)
  | succ k ih => intro v2 v3 h cv2 cv3 hf; exact b_X12_bill_86b C hr (rec86 := f_X12_bill_86 n  v0 v1 k)  ih cv1 cv2 cv3 (show f_X12_bill_86b n  (f_X12_bill_86 n  v0 v1 k) v0 v1 v2 v3 h = some Z from hf)
set_option maxRecDepth 20000 in
theorem b_X12_bill_83 {g : GT} {Z : Int × MM} {n : Nat} (C : Cx g cX12_bill 4 yX12_bill 3 73) (hr : Rt g (some .int) 0 Z) {v0 v1 s0 : Int}    (cv1 : in32 v1) (cs0 : in32 s0) {h : MM} (hf : f_X12_bill_83 n  v0 v1 s0 h = some Z) : G g 83 [(2, v0), (0, v1), (3, 0), (3, 0)] [(0, s0)] h := by
  unfold f_X12_bill_83 at hf
  refine r_istore_n C dX12_bill_83 (Nat.le_of_ble_eq_true rfl) rfl ?_
  refine r_iconst C dX12_bill_84 ?_
  refine r_istore_n C dX12_bill_85 (Nat.le_of_ble_eq_true rfl) rfl ?_
  exact G.mask [true, true, true, true] rfl rfl (l_X12_bill_86 C hr  cv1 _ _ _ _ cs0 (in32_of rfl) hf)
set_option maxRecDepth 20000 in
theorem b_X12_bill_82 {g : GT} {Z : Int × MM} {n : Nat} (C : Cx g cX12_bill 4 yX12_bill 3 73) (hr : Rt g (some .int) 0 Z) {v0 v1 : Int}    (cv1 : in32 v1) {h : MM} (hf : f_X12_bill_82 n  v0 v1 h = some Z) : G g 82 [(2, v0), (0, v1), (3, 0), (3, 0)] [] h := by
  unfold f_X12_bill_82 at hf
  refine r_iconst C dX12_bill_82 ?_
  exact G.mask [true, true, false, false] rfl rfl (b_X12_bill_83 C hr  cv1 (in32_of rfl) hf)
set_option maxRecDepth 20000 in
theorem e_X12_bill {g : GT} {Z : Int × MM} {n : Nat} (C : Cx g cX12_bill 4 yX12_bill 3 73) (hr : Rt g (some .int) 0 Z) {v0 v1 : Int} (cv0 : cK 2 v0) (cv1 : cK 0 v1) {h : MM} (hf : f_X12_bill n v0 v1 h = some Z) : G g 0 [(2, v0), (0, v1), (3, 0), (3, 0)] [] h := by
  have cv1 : in32 v1 := cv1
  unfold f_X12_bill at hf
  refine r_aload_n C dX12_bill_0 rfl ?_
  refine r_iload_n C dX12_bill_1 rfl ?_
  refine r_iconst C dX12_bill_2 ?_
  obtain ⟨p1, hf⟩ := gk_s hf
  obtain ⟨r1, h1, hq1, hf⟩ := bd_s hf
  refine r_cV2 C (am_X12_isOf (gl g) n) cm_X12_isOf w_1607 dX12_bill_3 ⟨Nat.le_of_ble_eq_true rfl, Nat.le_of_ble_eq_true rfl⟩ p1 rfl cv1 (in32_of rfl) rfl (Nat.le_of_ble_eq_true rfl) hq1 (by decide) (fun c1 => ?_)
  have c1 : in32 _ := c1
  refine r_if_ne C dX12_bill_6 (tgt := 11) (by decide) c1 (fun n2 => ?_) (fun n2 => ?_)
  · have hf := ite_n n2 hf
    refine r_aload_n C dX12_bill_11 rfl ?_
    obtain ⟨q3, hf⟩ := gf_s hf
    refine r_gf C ct12 (j := 1) (ji := 1) dX12_bill_12 q3 rfl rfl (by decide) w_1426 rfl (fun c3 => ?_)
    refine r_sipush C dX12_bill_15 rfl ?_
    refine r_iload_n C dX12_bill_18 rfl ?_
    refine r_iadd C dX12_bill_19 ?_
    obtain ⟨q4, hf⟩ := rd_s hf
    refine r_iald C dX12_bill_20 q4 rfl (fun c4 => ?_)
    refine r_bipush C dX12_bill_21 rfl ?_
    refine r_icmp_ne C dX12_bill_23 (tgt := 82) (by decide) c4 (in32_of rfl) (fun n5 => ?_) (fun n5 => ?_)
    · have hf := ite_n n5 hf
      exact G.mask [true, true, false, false] rfl rfl (b_X12_bill_82 C hr  cv1 hf)
    · have hf := ite_p n5 hf
      refine r_aload_n C dX12_bill_26 rfl ?_
      refine r_iload_n C dX12_bill_27 rfl ?_
      refine r_aload_n C dX12_bill_28 rfl ?_
      obtain ⟨q6, hf⟩ := gf_s hf
      refine r_gf C ct12 (j := 1) (ji := 1) dX12_bill_29 q6 rfl rfl (by decide) w_1426 rfl (fun c6 => ?_)
      refine r_iconst C dX12_bill_32 ?_
      obtain ⟨q7, hf⟩ := rd_s hf
      refine r_iald C dX12_bill_33 q7 rfl (fun c7 => ?_)
      obtain ⟨p8, hf⟩ := gk_s hf
      obtain ⟨r8, h8, hq8, hf⟩ := bd_s hf
      refine r_cV2 C (am_X12_notClose (gl g) n) cm_X12_notClose w_1658 dX12_bill_34 ⟨Nat.le_of_ble_eq_true rfl, Nat.le_of_ble_eq_true rfl⟩ p8 rfl cv1 c7 rfl (Nat.le_of_ble_eq_true rfl) hq8 (by decide) (fun c8 => ?_)
      have c8 : in32 _ := c8
      refine r_bipush C dX12_bill_37 rfl ?_
      refine r_icmp_ne C dX12_bill_39 (tgt := 82) (by decide) c8 (in32_of rfl) (fun n9 => ?_) (fun n9 => ?_)
      · have hf := ite_n n9 hf
        exact G.mask [true, true, false, false] rfl rfl (b_X12_bill_82 C hr  cv1 hf)
      · have hf := ite_p n9 hf
        refine r_aload_n C dX12_bill_42 rfl ?_
        refine r_iload_n C dX12_bill_43 rfl ?_
        refine r_aload_n C dX12_bill_44 rfl ?_
        obtain ⟨q10, hf⟩ := gf_s hf
        refine r_gf C ct12 (j := 1) (ji := 1) dX12_bill_45 q10 rfl rfl (by decide) w_1426 rfl (fun c10 => ?_)
        refine r_iconst C dX12_bill_48 ?_
        obtain ⟨q11, hf⟩ := rd_s hf
        refine r_iald C dX12_bill_49 q11 rfl (fun c11 => ?_)
        obtain ⟨p12, hf⟩ := gk_s hf
        obtain ⟨r12, h12, hq12, hf⟩ := bd_s hf
        refine r_cV2 C (am_X12_steep (gl g) n) cm_X12_steep w_1662 dX12_bill_50 ⟨Nat.le_of_ble_eq_true rfl, Nat.le_of_ble_eq_true rfl⟩ p12 rfl cv1 c11 rfl (Nat.le_of_ble_eq_true rfl) hq12 (by decide) (fun c12 => ?_)
        have c12 : in32 _ := c12
        refine r_bipush C dX12_bill_53 rfl ?_
        refine r_icmp_ne C dX12_bill_55 (tgt := 82) (by decide) c12 (in32_of rfl) (fun n13 => ?_) (fun n13 => ?_)
        · have hf := ite_n n13 hf
          exact G.mask [true, true, false, false] rfl rfl (b_X12_bill_82 C hr  cv1 hf)
        · have hf := ite_p n13 hf
          refine r_aload_n C dX12_bill_58 rfl ?_
          obtain ⟨q14, hf⟩ := gf_s hf
          refine r_gf C ct12 (j := 1) (ji := 1) dX12_bill_59 q14 rfl rfl (by decide) w_1426 rfl (fun c14 => ?_)
          refine r_iconst C dX12_bill_62 ?_
          obtain ⟨q15, hf⟩ := rd_s hf
          refine r_iald C dX12_bill_63 q15 rfl (fun c15 => ?_)
          refine r_aload_n C dX12_bill_64 rfl ?_
          refine r_iconst C dX12_bill_65 ?_
          refine r_aload_n C dX12_bill_66 rfl ?_
          obtain ⟨q16, hf⟩ := gf_s hf
          refine r_gf C ct12 (j := 1) (ji := 1) dX12_bill_67 q16 rfl rfl (by decide) w_1426 rfl (fun c16 => ?_)
          refine r_iconst C dX12_bill_70 ?_
          obtain ⟨q17, hf⟩ := rd_s hf
          refine r_iald C dX12_bill_71 q17 rfl (fun c17 => ?_)
          obtain ⟨p18, hf⟩ := gk_s hf
          obtain ⟨r18, h18, hq18, hf⟩ := bd_s hf
          refine r_cV2 C (am_X12_rule (gl g) n) cm_X12_rule w_1579 dX12_bill_72 ⟨Nat.le_of_ble_eq_true rfl, Nat.le_of_ble_eq_true rfl⟩ p18 rfl (in32_of rfl) c17 rfl (Nat.le_of_ble_eq_true rfl) hq18 (by decide) (fun c18 => ?_)
          have c18 : in32 _ := c18
          refine r_icmp_gt C dX12_bill_75 (tgt := 82) (by decide) c15 c18 (fun n19 => ?_) (fun n19 => ?_)
          · have hf := ite_p n19 hf
            exact G.mask [true, true, false, false] rfl rfl (b_X12_bill_82 C hr  cv1 hf)
          · have hf := ite_n n19 hf
            refine r_iconst C dX12_bill_78 ?_
            refine r_goto C dX12_bill_79 (tgt := 83) (by decide) ?_
            exact G.mask [true, true, false, false] rfl rfl (b_X12_bill_83 C hr  cv1 (in32_of rfl) hf)
  · have hf := ite_p n2 hf
    refine r_iconst C dX12_bill_9 ?_
    cases hf
    exact r_jret C hr dX12_bill_10 (in32_of rfl)
set_option maxRecDepth 20000 in
theorem am_X12_bill (l : Launch) (n : Nat) : AM l yX12_bill cX12_bill 4 (some .int) 3 73 [2, 0] 0 (un2 (f_X12_bill n)) := by
  refine AM.intro (by decide) (fun xs hx => ?_) (fun g xs h Z hl C hr hx hf => ?_)
  · obtain ⟨a0, a1, rfl, c0, c1⟩ := canL_2 hx
    exact Nat.le_of_ble_eq_true rfl
  · obtain ⟨a0, a1, rfl, c0, c1⟩ := canL_2 hx
    have hf := (un2_e _ a0 a1 _).symm.trans hf
    exact e_X12_bill (n := n) C hr c0 c1 hf
/-! LinesPromisedModel.inWay(II)I -/
theorem dX12_inWay_0 : decode cX12_inWay 0 = .ok (.aload_n 0, 1) := by decide +kernel
theorem dX12_inWay_1 : decode cX12_inWay 1 = .ok (.getfield 8, 3) := by decide +kernel
theorem dX12_inWay_4 : decode cX12_inWay 4 = .ok (.sipush 430, 3) := by decide +kernel
theorem dX12_inWay_7 : decode cX12_inWay 7 = .ok (.iload_n 1, 1) := by decide +kernel
theorem dX12_inWay_8 : decode cX12_inWay 8 = .ok (.iadd, 1) := by decide +kernel
theorem dX12_inWay_9 : decode cX12_inWay 9 = .ok (.iaload, 1) := by decide +kernel
theorem dX12_inWay_10 : decode cX12_inWay 10 = .ok (.istore_n 3, 1) := by decide +kernel
theorem dX12_inWay_11 : decode cX12_inWay 11 = .ok (.iconst 0, 1) := by decide +kernel
theorem dX12_inWay_12 : decode cX12_inWay 12 = .ok (.istore 4, 2) := by decide +kernel
theorem dX12_inWay_14 : decode cX12_inWay 14 = .ok (.iconst 0, 1) := by decide +kernel
theorem dX12_inWay_15 : decode cX12_inWay 15 = .ok (.istore 5, 2) := by decide +kernel
theorem dX12_inWay_17 : decode cX12_inWay 17 = .ok (.iload 5, 2) := by decide +kernel
theorem dX12_inWay_19 : decode cX12_inWay 19 = .ok (.aload_n 0, 1) := by decide +kernel
theorem dX12_inWay_20 : decode cX12_inWay 20 = .ok (.getfield 8, 3) := by decide +kernel
theorem dX12_inWay_23 : decode cX12_inWay 23 = .ok (.sipush 850, 3) := by decide +kernel
theorem dX12_inWay_26 : decode cX12_inWay 26 = .ok (.iload_n 3, 1) := by decide +kernel
theorem dX12_inWay_27 : decode cX12_inWay 27 = .ok (.iadd, 1) := by decide +kernel
theorem dX12_inWay_28 : decode cX12_inWay 28 = .ok (.iaload, 1) := by decide +kernel
theorem dX12_inWay_29 : decode cX12_inWay 29 = .ok (.if_icmp .ge 47, 3) := by decide +kernel
theorem dX12_inWay_32 : decode cX12_inWay 32 = .ok (.iload 4, 2) := by decide +kernel
theorem dX12_inWay_34 : decode cX12_inWay 34 = .ok (.aload_n 0, 1) := by decide +kernel
theorem dX12_inWay_35 : decode cX12_inWay 35 = .ok (.getfield 8, 3) := by decide +kernel
theorem dX12_inWay_38 : decode cX12_inWay 38 = .ok (.bipush 100, 2) := by decide +kernel
theorem dX12_inWay_40 : decode cX12_inWay 40 = .ok (.aload_n 0, 1) := by decide +kernel
theorem dX12_inWay_41 : decode cX12_inWay 41 = .ok (.getfield 8, 3) := by decide +kernel
theorem dX12_inWay_44 : decode cX12_inWay 44 = .ok (.sipush 4700, 3) := by decide +kernel
theorem dX12_inWay_47 : decode cX12_inWay 47 = .ok (.bipush 41, 2) := by decide +kernel
theorem dX12_inWay_49 : decode cX12_inWay 49 = .ok (.iload_n 3, 1) := by decide +kernel
theorem dX12_inWay_50 : decode cX12_inWay 50 = .ok (.imul, 1) := by decide +kernel
theorem dX12_inWay_51 : decode cX12_inWay 51 = .ok (.iadd, 1) := by decide +kernel
theorem dX12_inWay_52 : decode cX12_inWay 52 = .ok (.iload 5, 2) := by decide +kernel
theorem dX12_inWay_54 : decode cX12_inWay 54 = .ok (.iadd, 1) := by decide +kernel
theorem dX12_inWay_55 : decode cX12_inWay 55 = .ok (.iaload, 1) := by decide +kernel
theorem dX12_inWay_56 : decode cX12_inWay 56 = .ok (.iadd, 1) := by decide +kernel
theorem dX12_inWay_57 : decode cX12_inWay 57 = .ok (.iaload, 1) := by decide +kernel
theorem dX12_inWay_58 : decode cX12_inWay 58 = .ok (.iload_n 2, 1) := by decide +kernel
theorem dX12_inWay_59 : decode cX12_inWay 59 = .ok (.if_icmp .ne 7, 3) := by decide +kernel
theorem dX12_inWay_62 : decode cX12_inWay 62 = .ok (.iconst 1, 1) := by decide +kernel
theorem dX12_inWay_63 : decode cX12_inWay 63 = .ok (.goto 4, 3) := by decide +kernel
theorem dX12_inWay_66 : decode cX12_inWay 66 = .ok (.iconst 0, 1) := by decide +kernel
theorem dX12_inWay_67 : decode cX12_inWay 67 = .ok (.iadd, 1) := by decide +kernel
theorem dX12_inWay_68 : decode cX12_inWay 68 = .ok (.istore 4, 2) := by decide +kernel
theorem dX12_inWay_70 : decode cX12_inWay 70 = .ok (.iinc 5 1, 3) := by decide +kernel
theorem dX12_inWay_73 : decode cX12_inWay 73 = .ok (.goto (-56), 3) := by decide +kernel
theorem dX12_inWay_76 : decode cX12_inWay 76 = .ok (.iload 4, 2) := by decide +kernel
theorem dX12_inWay_78 : decode cX12_inWay 78 = .ok (.ireturn, 1) := by decide +kernel
theorem cm_X12_inWay : CM yX12_inWay cX12_inWay 6 (some .int) 2 12 := ⟨w_1700, w_68, w_1701, w_97, ⟨by decide +kernel, by decide +kernel, by decide +kernel⟩, ⟨_, _, rfl⟩, by decide⟩
noncomputable def f_X12_inWay_67 (n : Nat) (rec17 : Int → Int → MM → RR) (v0 v2 v3 v5 s0 s1 : Int) (h : MM) : RR :=
  lb (wr (s0 + s1)) fun x1 =>
  lb (wr (v5 + 1)) fun x2 =>
  rec17 x1 x2 h
noncomputable def f_X12_inWay_17b (n : Nat) (rec17 : Int → Int → MM → RR) (v0 v2 v3 v4 v5 : Int) (h : MM) : RR :=
  gf h v0 12 1 fun r1 =>
  rd h r1 100 (wr (850 + v3)) fun r2 =>
  if r2 ≤ v5 then
    some (v4, h)
  else
  gf h v0 12 1 fun r4 =>
  gf h v0 12 1 fun r5 =>
  rd h r5 100 (wr ((wr (4700 + (wr (41 * v3)))) + v5)) fun r6 =>
  rd h r4 100 (wr (100 + r6)) fun r7 =>
  if r7 = v2 then
    f_X12_inWay_67 n rec17 v0 v2 v3 v5 v4 1 h
  else
  f_X12_inWay_67 n rec17 v0 v2 v3 v5 v4 0 h
noncomputable def f_X12_inWay_17 (n : Nat)  (v0 v2 v3 : Int) : Nat → Int → Int → MM → RR
  | 0, _, _, _ => none
  | k + 1, v4, v5, h => f_X12_inWay_17b n  (f_X12_inWay_17 n  v0 v2 v3 k) v0 v2 v3 v4 v5 h
noncomputable def f_X12_inWay (n : Nat) (v0 v1 v2 : Int) (h : MM) : RR :=
  gf h v0 12 1 fun r1 =>
  rd h r1 100 (wr (430 + v1)) fun r2 =>
  f_X12_inWay_17 n v0 v2 r2 n 0 0 h
set_option maxRecDepth 20000 in
theorem b_X12_inWay_67 {g : GT} {Z : Int × MM} {n : Nat} (C : Cx g cX12_inWay 6 yX12_inWay 0 0) (hr : Rt g (some .int) 0 Z) {v0 v2 v3 v5 s0 s1 : Int}  {rec17 : Int → Int → MM → RR} (L17 : ∀ (u4 u5 : Int) (h : MM), in32 u4 → in32 u5 → rec17 u4 u5 h = some Z → G g 17 [(2, v0), (3, 0), (0, v2), (0, v3), (0, u4), (0, u5)] [] h) (cv2 : in32 v2) (cv3 : in32 v3) (cv5 : in32 v5) (cs0 : in32 s0) (cs1 : in32 s1) {h : MM} (hf : f_X12_inWay_67 n rec17 v0 v2 v3 v5 s0 s1 h = some Z) : G g 67 [(2, v0), (3, 0), (0, v2), (0, v3), (3, 0), (0, v5)] [(0, s1), (0, s0)] h := by
  unfold f_X12_inWay_67 at hf
  refine r_iadd C dX12_inWay_67 ?_
  obtain ⟨x1, e1, hf⟩ := lb_s hf
  have c1 : in32 x1 := by rw [e1]; exact (in32_t _)
  refine r_istoreL C dX12_inWay_68 e1 (Nat.le_of_ble_eq_true rfl) rfl ?_
  obtain ⟨x2, e2, hf⟩ := lb_s hf
  have c2 : in32 x2 := by rw [e2]; exact (in32_t _)
  refine r_iincL C dX12_inWay_70 rfl e2 (Nat.le_of_ble_eq_true rfl) rfl ?_
  refine r_goto C dX12_inWay_73 (tgt := 17) (by decide) ?_
  exact G.mask [true, false, true, true, true, true] rfl rfl (L17 _ _ _ c1 c2 hf)
set_option maxRecDepth 20000 in
theorem b_X12_inWay_17b {g : GT} {Z : Int × MM} {n : Nat} (C : Cx g cX12_inWay 6 yX12_inWay 0 0) (hr : Rt g (some .int) 0 Z) {v0 v2 v3 v4 v5 : Int}  {rec17 : Int → Int → MM → RR} (L17 : ∀ (u4 u5 : Int) (h : MM), in32 u4 → in32 u5 → rec17 u4 u5 h = some Z → G g 17 [(2, v0), (3, 0), (0, v2), (0, v3), (0, u4), (0, u5)] [] h) (cv2 : in32 v2) (cv3 : in32 v3) (cv4 : in32 v4) (cv5 : in32 v5) {h : MM} (hf : f_X12_inWay_17b n rec17 v0 v2 v3 v4 v5 h = some Z) : G g 17 [(2, v0), (3, 0), (0, v2), (0, v3), (0, v4), (0, v5)] [] h := by
  unfold f_X12_inWay_17b at hf
  refine r_iload C dX12_inWay_17 rfl ?_
  refine r_aload_n C dX12_inWay_19 rfl ?_
  obtain ⟨q1, hf⟩ := gf_s hf
  refine r_gf C ct12 (j := 1) (ji := 1) dX12_inWay_20 q1 rfl rfl (by decide) w_1426 rfl (fun c1 => ?_)
  refine r_sipush C dX12_inWay_23 rfl ?_
  refine r_iload_n C dX12_inWay_26 rfl ?_
  refine r_iadd C dX12_inWay_27 ?_
  obtain ⟨q2, hf⟩ := rd_s hf
  refine r_iald C dX12_inWay_28 q2 rfl (fun c2 => ?_)
  refine r_icmp_ge C dX12_inWay_29 (tgt := 76) (by decide) cv5 c2 (fun n3 => ?_) (fun n3 => ?_)
  · have hf := ite_p n3 hf
    refine r_iload C dX12_inWay_76 rfl ?_
    cases hf
    exact r_jret C hr dX12_inWay_78 cv4
  · have hf := ite_n n3 hf
    refine r_iload C dX12_inWay_32 rfl ?_
    refine r_aload_n C dX12_inWay_34 rfl ?_
    obtain ⟨q4, hf⟩ := gf_s hf
    refine r_gf C ct12 (j := 1) (ji := 1) dX12_inWay_35 q4 rfl rfl (by decide) w_1426 rfl (fun c4 => ?_)
    refine r_bipush C dX12_inWay_38 rfl ?_
    refine r_aload_n C dX12_inWay_40 rfl ?_
    obtain ⟨q5, hf⟩ := gf_s hf
    refine r_gf C ct12 (j := 1) (ji := 1) dX12_inWay_41 q5 rfl rfl (by decide) w_1426 rfl (fun c5 => ?_)
    refine r_sipush C dX12_inWay_44 rfl ?_
    refine r_bipush C dX12_inWay_47 rfl ?_
    refine r_iload_n C dX12_inWay_49 rfl ?_
    refine r_imul C dX12_inWay_50 ?_
    refine r_iadd C dX12_inWay_51 ?_
    refine r_iload C dX12_inWay_52 rfl ?_
    refine r_iadd C dX12_inWay_54 ?_
    obtain ⟨q6, hf⟩ := rd_s hf
    refine r_iald C dX12_inWay_55 q6 rfl (fun c6 => ?_)
    refine r_iadd C dX12_inWay_56 ?_
    obtain ⟨q7, hf⟩ := rd_s hf
    refine r_iald C dX12_inWay_57 q7 rfl (fun c7 => ?_)
    refine r_iload_n C dX12_inWay_58 rfl ?_
    refine r_icmp_ne C dX12_inWay_59 (tgt := 66) (by decide) c7 cv2 (fun n8 => ?_) (fun n8 => ?_)
    · have hf := ite_n n8 hf
      refine r_iconst C dX12_inWay_66 ?_
      exact G.mask [true, false, true, true, false, true] rfl rfl (b_X12_inWay_67 C hr L17 cv2 cv3 cv5 cv4 (in32_of rfl) hf)
    · have hf := ite_p n8 hf
      refine r_iconst C dX12_inWay_62 ?_
      refine r_goto C dX12_inWay_63 (tgt := 67) (by decide) ?_
      exact G.mask [true, false, true, true, false, true] rfl rfl (b_X12_inWay_67 C hr L17 cv2 cv3 cv5 cv4 (in32_of rfl) hf)
set_option maxRecDepth 20000 in
theorem l_X12_inWay_17 {g : GT} {Z : Int × MM} {n : Nat} (C : Cx g cX12_inWay 6 yX12_inWay 0 0) (hr : Rt g (some .int) 0 Z) {v0 v2 v3 : Int}   (cv2 : in32 v2) (cv3 : in32 v3) : ∀ (k : Nat) (v4 v5 : Int) (h : MM), in32 v4 → in32 v5 → f_X12_inWay_17 n  v0 v2 v3 k v4 v5 h = some Z → G g 17 [(2, v0), (3, 0), (0, v2), (0, v3), (0, v4), (0, v5)] [] h := by
  intro k
  induction k with
  | zero => intro v4 v5 h cv4 cv5 hf; exact absurd hf (by intro z; cases z)
  | succ k ih => intro v4 v5 h cv4 cv5 hf; exact b_X12_inWay_17b C hr (rec17 := f_X12_inWay_17 n  v0 v2 v3 k)  ih cv2 cv3 cv4 cv5 (show f_X12_inWay_17b n  (f_X12_inWay_17 n  v0 v2 v3 k) v0 v2 v3 v4 v5 h = some Z from hf)
set_option maxRecDepth 20000 in
theorem e_X12_inWay {g : GT} {Z : Int × MM} {n : Nat} (C : Cx g cX12_inWay 6 yX12_inWay 0 0) (hr : Rt g (some .int) 0 Z) {v0 v1 v2 : Int} (cv0 : cK 2 v0) (cv1 : cK 0 v1) (cv2 : cK 0 v2) {h : MM} (hf : f_X12_inWay n v0 v1 v2 h = some Z) : G g 0 [(2, v0), (0, v1), (0, v2), (3, 0), (3, 0), (3, 0)] [] h := by
  have cv1 : in32 v1 := cv1
  have cv2 : in32 v2 := cv2
  unfold f_X12_inWay at hf
  refine r_aload_n C dX12_inWay_0 rfl ?_
  obtain ⟨q1, hf⟩ := gf_s hf
  refine r_gf C ct12 (j := 1) (ji := 1) dX12_inWay_1 q1 rfl rfl (by decide) w_1426 rfl (fun c1 => ?_)
  refine r_sipush C dX12_inWay_4 rfl ?_
  refine r_iload_n C dX12_inWay_7 rfl ?_
  refine r_iadd C dX12_inWay_8 ?_
  obtain ⟨q2, hf⟩ := rd_s hf
  refine r_iald C dX12_inWay_9 q2 rfl (fun c2 => ?_)
  refine r_istore_n C dX12_inWay_10 (Nat.le_of_ble_eq_true rfl) rfl ?_
  refine r_iconst C dX12_inWay_11 ?_
  refine r_istore C dX12_inWay_12 (Nat.le_of_ble_eq_true rfl) rfl ?_
  refine r_iconst C dX12_inWay_14 ?_
  refine r_istore C dX12_inWay_15 (Nat.le_of_ble_eq_true rfl) rfl ?_
  exact G.mask [true, false, true, true, true, true] rfl rfl (l_X12_inWay_17 C hr  cv2 c2 _ _ _ _ (in32_of rfl) (in32_of rfl) hf)
set_option maxRecDepth 20000 in
theorem am_X12_inWay (l : Launch) (n : Nat) : AM l yX12_inWay cX12_inWay 6 (some .int) 0 0 [2, 0, 0] 0 (un3 (f_X12_inWay n)) := by
  refine AM.intro (by decide) (fun xs hx => ?_) (fun g xs h Z hl C hr hx hf => ?_)
  · obtain ⟨a0, a1, a2, rfl, c0, c1, c2⟩ := canL_3 hx
    exact Nat.le_of_ble_eq_true rfl
  · obtain ⟨a0, a1, a2, rfl, c0, c1, c2⟩ := canL_3 hx
    have hf := (un3_e _ a0 a1 a2 _).symm.trans hf
    exact e_X12_inWay (n := n) C hr c0 c1 c2 hf
/-! LinesPromisedModel.claims(I)I -/
theorem dX12_claims_0 : decode cX12_claims 0 = .ok (.aload_n 0, 1) := by decide +kernel
theorem dX12_claims_1 : decode cX12_claims 1 = .ok (.getfield 8, 3) := by decide +kernel
theorem dX12_claims_4 : decode cX12_claims 4 = .ok (.sipush 430, 3) := by decide +kernel
theorem dX12_claims_7 : decode cX12_claims 7 = .ok (.iload_n 1, 1) := by decide +kernel
theorem dX12_claims_8 : decode cX12_claims 8 = .ok (.iadd, 1) := by decide +kernel
theorem dX12_claims_9 : decode cX12_claims 9 = .ok (.iaload, 1) := by decide +kernel
theorem dX12_claims_10 : decode cX12_claims 10 = .ok (.istore_n 2, 1) := by decide +kernel
theorem dX12_claims_11 : decode cX12_claims 11 = .ok (.iconst 0, 1) := by decide +kernel
theorem dX12_claims_12 : decode cX12_claims 12 = .ok (.istore_n 3, 1) := by decide +kernel
theorem dX12_claims_13 : decode cX12_claims 13 = .ok (.iconst 0, 1) := by decide +kernel
theorem dX12_claims_14 : decode cX12_claims 14 = .ok (.istore 4, 2) := by decide +kernel
theorem dX12_claims_16 : decode cX12_claims 16 = .ok (.iload 4, 2) := by decide +kernel
theorem dX12_claims_18 : decode cX12_claims 18 = .ok (.aload_n 0, 1) := by decide +kernel
theorem dX12_claims_19 : decode cX12_claims 19 = .ok (.getfield 8, 3) := by decide +kernel
theorem dX12_claims_22 : decode cX12_claims 22 = .ok (.iconst 2, 1) := by decide +kernel
theorem dX12_claims_23 : decode cX12_claims 23 = .ok (.iaload, 1) := by decide +kernel
theorem dX12_claims_24 : decode cX12_claims 24 = .ok (.if_icmp .ge 62, 3) := by decide +kernel
theorem dX12_claims_27 : decode cX12_claims 27 = .ok (.iload_n 3, 1) := by decide +kernel
theorem dX12_claims_28 : decode cX12_claims 28 = .ok (.aload_n 0, 1) := by decide +kernel
theorem dX12_claims_29 : decode cX12_claims 29 = .ok (.getfield 8, 3) := by decide +kernel
theorem dX12_claims_32 : decode cX12_claims 32 = .ok (.sipush 370, 3) := by decide +kernel
theorem dX12_claims_35 : decode cX12_claims 35 = .ok (.iload 4, 2) := by decide +kernel
theorem dX12_claims_37 : decode cX12_claims 37 = .ok (.iadd, 1) := by decide +kernel
theorem dX12_claims_38 : decode cX12_claims 38 = .ok (.iaload, 1) := by decide +kernel
theorem dX12_claims_39 : decode cX12_claims 39 = .ok (.bipush 6, 2) := by decide +kernel
theorem dX12_claims_41 : decode cX12_claims 41 = .ok (.if_icmp .ne 36, 3) := by decide +kernel
theorem dX12_claims_44 : decode cX12_claims 44 = .ok (.aload_n 0, 1) := by decide +kernel
theorem dX12_claims_45 : decode cX12_claims 45 = .ok (.iload_n 2, 1) := by decide +kernel
theorem dX12_claims_46 : decode cX12_claims 46 = .ok (.aload_n 0, 1) := by decide +kernel
theorem dX12_claims_47 : decode cX12_claims 47 = .ok (.getfield 8, 3) := by decide +kernel
theorem dX12_claims_50 : decode cX12_claims 50 = .ok (.sipush 550, 3) := by decide +kernel
theorem dX12_claims_53 : decode cX12_claims 53 = .ok (.iload 4, 2) := by decide +kernel
theorem dX12_claims_55 : decode cX12_claims 55 = .ok (.iadd, 1) := by decide +kernel
theorem dX12_claims_56 : decode cX12_claims 56 = .ok (.iaload, 1) := by decide +kernel
theorem dX12_claims_57 : decode cX12_claims 57 = .ok (.invokevirtual 174, 3) := by decide +kernel
theorem dX12_claims_60 : decode cX12_claims 60 = .ok (.ifCond .eq 17, 3) := by decide +kernel
theorem dX12_claims_63 : decode cX12_claims 63 = .ok (.aload_n 0, 1) := by decide +kernel
theorem dX12_claims_64 : decode cX12_claims 64 = .ok (.getfield 8, 3) := by decide +kernel
theorem dX12_claims_67 : decode cX12_claims 67 = .ok (.sipush 730, 3) := by decide +kernel
theorem dX12_claims_70 : decode cX12_claims 70 = .ok (.iload 4, 2) := by decide +kernel
theorem dX12_claims_72 : decode cX12_claims 72 = .ok (.iadd, 1) := by decide +kernel
theorem dX12_claims_73 : decode cX12_claims 73 = .ok (.iaload, 1) := by decide +kernel
theorem dX12_claims_74 : decode cX12_claims 74 = .ok (.goto 4, 3) := by decide +kernel
theorem dX12_claims_77 : decode cX12_claims 77 = .ok (.iconst 0, 1) := by decide +kernel
theorem dX12_claims_78 : decode cX12_claims 78 = .ok (.iadd, 1) := by decide +kernel
theorem dX12_claims_79 : decode cX12_claims 79 = .ok (.istore_n 3, 1) := by decide +kernel
theorem dX12_claims_80 : decode cX12_claims 80 = .ok (.iinc 4 1, 3) := by decide +kernel
theorem dX12_claims_83 : decode cX12_claims 83 = .ok (.goto (-67), 3) := by decide +kernel
theorem dX12_claims_86 : decode cX12_claims 86 = .ok (.iload_n 3, 1) := by decide +kernel
theorem dX12_claims_87 : decode cX12_claims 87 = .ok (.ireturn, 1) := by decide +kernel
theorem cm_X12_claims : CM yX12_claims cX12_claims 5 (some .int) 1 12 := ⟨w_1704, w_69, w_1705, w_97, ⟨by decide +kernel, by decide +kernel, by decide +kernel⟩, ⟨_, _, rfl⟩, by decide⟩
noncomputable def f_X12_claims_78 (n : Nat) (rec16 : Int → Int → MM → RR) (v0 v2 v4 s0 s1 : Int) (h : MM) : RR :=
  lb (wr (s0 + s1)) fun x1 =>
  lb (wr (v4 + 1)) fun x2 =>
  rec16 x1 x2 h
noncomputable def f_X12_claims_77 (n : Nat) (rec16 : Int → Int → MM → RR) (v0 v2 v4 s0 : Int) (h : MM) : RR :=
  f_X12_claims_78 n rec16 v0 v2 v4 s0 0 h
noncomputable def f_X12_claims_16b (n : Nat) (rec16 : Int → Int → MM → RR) (v0 v2 v3 v4 : Int) (h : MM) : RR :=
  gf h v0 12 1 fun r1 =>
  rd h r1 100 2 fun r2 =>
  if r2 ≤ v4 then
    some (v3, h)
  else
  gf h v0 12 1 fun r4 =>
  rd h r4 100 (wr (370 + v4)) fun r5 =>
  if r5 = 6 then
    gf h v0 12 1 fun r7 =>
    rd h r7 100 (wr (550 + v4)) fun r8 =>
    gk h v0 12 <|
    bd (f_X12_isInWay n v0 v2 r8 h) fun r9 h9 =>
    if r9 = 0 then
      f_X12_claims_77 n rec16 v0 v2 v4 v3 h9
    else
    gf h9 v0 12 1 fun r11 =>
    rd h9 r11 100 (wr (730 + v4)) fun r12 =>
    f_X12_claims_78 n rec16 v0 v2 v4 v3 r12 h9
  else
  f_X12_claims_77 n rec16 v0 v2 v4 v3 h
noncomputable def f_X12_claims_16 (n : Nat)  (v0 v2 : Int) : Nat → Int → Int → MM → RR
  | 0, _, _, _ => none
  | k + 1, v3, v4, h => f_X12_claims_16b n  (f_X12_claims_16 n  v0 v2 k) v0 v2 v3 v4 h
noncomputable def f_X12_claims (n : Nat) (v0 v1 : Int) (h : MM) : RR :=
  gf h v0 12 1 fun r1 =>
  rd h r1 100 (wr (430 + v1)) fun r2 =>
  f_X12_claims_16 n v0 r2 n 0 0 h
set_option maxRecDepth 20000 in
theorem b_X12_claims_78 {g : GT} {Z : Int × MM} {n : Nat} (C : Cx g cX12_claims 5 yX12_claims 2 45) (hr : Rt g (some .int) 0 Z) {v0 v2 v4 s0 s1 : Int}  {rec16 : Int → Int → MM → RR} (L16 : ∀ (u3 u4 : Int) (h : MM), in32 u3 → in32 u4 → rec16 u3 u4 h = some Z → G g 16 [(2, v0), (3, 0), (0, v2), (0, u3), (0, u4)] [] h) (cv2 : in32 v2) (cv4 : in32 v4) (cs0 : in32 s0) (cs1 : in32 s1) {h : MM} (hf : f_X12_claims_78 n rec16 v0 v2 v4 s0 s1 h = some Z) : G g 78 [(2, v0), (3, 0), (0, v2), (3, 0), (0, v4)] [(0, s1), (0, s0)] h := by
  unfold f_X12_claims_78 at hf
  refine r_iadd C dX12_claims_78 ?_
  obtain ⟨x1, e1, hf⟩ := lb_s hf
  have c1 : in32 x1 := by rw [e1]; exact (in32_t _)
  refine r_istore_nL C dX12_claims_79 e1 (Nat.le_of_ble_eq_true rfl) rfl ?_
  obtain ⟨x2, e2, hf⟩ := lb_s hf
  have c2 : in32 x2 := by rw [e2]; exact (in32_t _)
  refine r_iincL C dX12_claims_80 rfl e2 (Nat.le_of_ble_eq_true rfl) rfl ?_
  refine r_goto C dX12_claims_83 (tgt := 16) (by decide) ?_
  exact G.mask [true, false, true, true, true] rfl rfl (L16 _ _ _ c1 c2 hf)
set_option maxRecDepth 20000 in
theorem b_X12_claims_77 {g : GT} {Z : Int × MM} {n : Nat} (C : Cx g cX12_claims 5 yX12_claims 2 45) (hr : Rt g (some .int) 0 Z) {v0 v2 v4 s0 : Int}  {rec16 : Int → Int → MM → RR} (L16 : ∀ (u3 u4 : Int) (h : MM), in32 u3 → in32 u4 → rec16 u3 u4 h = some Z → G g 16 [(2, v0), (3, 0), (0, v2), (0, u3), (0, u4)] [] h) (cv2 : in32 v2) (cv4 : in32 v4) (cs0 : in32 s0) {h : MM} (hf : f_X12_claims_77 n rec16 v0 v2 v4 s0 h = some Z) : G g 77 [(2, v0), (3, 0), (0, v2), (3, 0), (0, v4)] [(0, s0)] h := by
  unfold f_X12_claims_77 at hf
  refine r_iconst C dX12_claims_77 ?_
  exact G.mask [true, false, true, false, true] rfl rfl (b_X12_claims_78 C hr L16 cv2 cv4 cs0 (in32_of rfl) hf)
set_option maxRecDepth 20000 in
theorem b_X12_claims_16b {g : GT} {Z : Int × MM} {n : Nat} (C : Cx g cX12_claims 5 yX12_claims 2 45) (hr : Rt g (some .int) 0 Z) {v0 v2 v3 v4 : Int}  {rec16 : Int → Int → MM → RR} (L16 : ∀ (u3 u4 : Int) (h : MM), in32 u3 → in32 u4 → rec16 u3 u4 h = some Z → G g 16 [(2, v0), (3, 0), (0, v2), (0, u3), (0, u4)] [] h) (cv2 : in32 v2) (cv3 : in32 v3) (cv4 : in32 v4) {h : MM} (hf : f_X12_claims_16b n rec16 v0 v2 v3 v4 h = some Z) : G g 16 [(2, v0), (3, 0), (0, v2), (0, v3), (0, v4)] [] h := by
  unfold f_X12_claims_16b at hf
  refine r_iload C dX12_claims_16 rfl ?_
  refine r_aload_n C dX12_claims_18 rfl ?_
  obtain ⟨q1, hf⟩ := gf_s hf
  refine r_gf C ct12 (j := 1) (ji := 1) dX12_claims_19 q1 rfl rfl (by decide) w_1426 rfl (fun c1 => ?_)
  refine r_iconst C dX12_claims_22 ?_
  obtain ⟨q2, hf⟩ := rd_s hf
  refine r_iald C dX12_claims_23 q2 rfl (fun c2 => ?_)
  refine r_icmp_ge C dX12_claims_24 (tgt := 86) (by decide) cv4 c2 (fun n3 => ?_) (fun n3 => ?_)
  · have hf := ite_p n3 hf
    refine r_iload_n C dX12_claims_86 rfl ?_
    cases hf
    exact r_jret C hr dX12_claims_87 cv3
  · have hf := ite_n n3 hf
    refine r_iload_n C dX12_claims_27 rfl ?_
    refine r_aload_n C dX12_claims_28 rfl ?_
    obtain ⟨q4, hf⟩ := gf_s hf
    refine r_gf C ct12 (j := 1) (ji := 1) dX12_claims_29 q4 rfl rfl (by decide) w_1426 rfl (fun c4 => ?_)
    refine r_sipush C dX12_claims_32 rfl ?_
    refine r_iload C dX12_claims_35 rfl ?_
    refine r_iadd C dX12_claims_37 ?_
    obtain ⟨q5, hf⟩ := rd_s hf
    refine r_iald C dX12_claims_38 q5 rfl (fun c5 => ?_)
    refine r_bipush C dX12_claims_39 rfl ?_
    refine r_icmp_ne C dX12_claims_41 (tgt := 77) (by decide) c5 (in32_of rfl) (fun n6 => ?_) (fun n6 => ?_)
    · have hf := ite_n n6 hf
      exact G.mask [true, false, true, false, true] rfl rfl (b_X12_claims_77 C hr L16 cv2 cv4 cv3 hf)
    · have hf := ite_p n6 hf
      refine r_aload_n C dX12_claims_44 rfl ?_
      refine r_iload_n C dX12_claims_45 rfl ?_
      refine r_aload_n C dX12_claims_46 rfl ?_
      obtain ⟨q7, hf⟩ := gf_s hf
      refine r_gf C ct12 (j := 1) (ji := 1) dX12_claims_47 q7 rfl rfl (by decide) w_1426 rfl (fun c7 => ?_)
      refine r_sipush C dX12_claims_50 rfl ?_
      refine r_iload C dX12_claims_53 rfl ?_
      refine r_iadd C dX12_claims_55 ?_
      obtain ⟨q8, hf⟩ := rd_s hf
      refine r_iald C dX12_claims_56 q8 rfl (fun c8 => ?_)
      obtain ⟨p9, hf⟩ := gk_s hf
      obtain ⟨r9, h9, hq9, hf⟩ := bd_s hf
      refine r_cV2 C (am_X12_isInWay (gl g) n) cm_X12_isInWay w_1621 dX12_claims_57 ⟨Nat.le_of_ble_eq_true rfl, Nat.le_of_ble_eq_true rfl⟩ p9 rfl cv2 c8 rfl (Nat.le_of_ble_eq_true rfl) hq9 (by decide) (fun c9 => ?_)
      have c9 : in32 _ := c9
      refine r_if_eq C dX12_claims_60 (tgt := 77) (by decide) c9 (fun n10 => ?_) (fun n10 => ?_)
      · have hf := ite_p n10 hf
        exact G.mask [true, false, true, false, true] rfl rfl (b_X12_claims_77 C hr L16 cv2 cv4 cv3 hf)
      · have hf := ite_n n10 hf
        refine r_aload_n C dX12_claims_63 rfl ?_
        obtain ⟨q11, hf⟩ := gf_s hf
        refine r_gf C ct12 (j := 1) (ji := 1) dX12_claims_64 q11 rfl rfl (by decide) w_1426 rfl (fun c11 => ?_)
        refine r_sipush C dX12_claims_67 rfl ?_
        refine r_iload C dX12_claims_70 rfl ?_
        refine r_iadd C dX12_claims_72 ?_
        obtain ⟨q12, hf⟩ := rd_s hf
        refine r_iald C dX12_claims_73 q12 rfl (fun c12 => ?_)
        refine r_goto C dX12_claims_74 (tgt := 78) (by decide) ?_
        exact G.mask [true, false, true, false, true] rfl rfl (b_X12_claims_78 C hr L16 cv2 cv4 cv3 c12 hf)
set_option maxRecDepth 20000 in
theorem l_X12_claims_16 {g : GT} {Z : Int × MM} {n : Nat} (C : Cx g cX12_claims 5 yX12_claims 2 45) (hr : Rt g (some .int) 0 Z) {v0 v2 : Int}   (cv2 : in32 v2) : ∀ (k : Nat) (v3 v4 : Int) (h : MM), in32 v3 → in32 v4 → f_X12_claims_16 n  v0 v2 k v3 v4 h = some Z → G g 16 [(2, v0), (3, 0), (0, v2), (0, v3), (0, v4)] [] h := by
  intro k
  induction k with
  | zero => intro v3 v4 h cv3 cv4 hf; exact absurd hf (by intro z; cases z)
  | succ k ih => intro v3 v4 h cv3 cv4 hf; exact b_X12_claims_16b C hr (rec16 := f_X12_claims_16 n  v0 v2 k)  ih cv2 cv3 cv4 (show f_X12_claims_16b n  (f_X12_claims_16 n  v0 v2 k) v0 v2 v3 v4 h = some Z from hf)
set_option maxRecDepth 20000 in
theorem e_X12_claims {g : GT} {Z : Int × MM} {n : Nat} (C : Cx g cX12_claims 5 yX12_claims 2 45) (hr : Rt g (some .int) 0 Z) {v0 v1 : Int} (cv0 : cK 2 v0) (cv1 : cK 0 v1) {h : MM} (hf : f_X12_claims n v0 v1 h = some Z) : G g 0 [(2, v0), (0, v1), (3, 0), (3, 0), (3, 0)] [] h := by
  have cv1 : in32 v1 := cv1
  unfold f_X12_claims at hf
  refine r_aload_n C dX12_claims_0 rfl ?_
  obtain ⟨q1, hf⟩ := gf_s hf
  refine r_gf C ct12 (j := 1) (ji := 1) dX12_claims_1 q1 rfl rfl (by decide) w_1426 rfl (fun c1 => ?_)
  refine r_sipush C dX12_claims_4 rfl ?_
  refine r_iload_n C dX12_claims_7 rfl ?_
  refine r_iadd C dX12_claims_8 ?_
  obtain ⟨q2, hf⟩ := rd_s hf
  refine r_iald C dX12_claims_9 q2 rfl (fun c2 => ?_)
  refine r_istore_n C dX12_claims_10 (Nat.le_of_ble_eq_true rfl) rfl ?_
  refine r_iconst C dX12_claims_11 ?_
  refine r_istore_n C dX12_claims_12 (Nat.le_of_ble_eq_true rfl) rfl ?_
  refine r_iconst C dX12_claims_13 ?_
  refine r_istore C dX12_claims_14 (Nat.le_of_ble_eq_true rfl) rfl ?_
  exact G.mask [true, false, true, true, true] rfl rfl (l_X12_claims_16 C hr  c2 _ _ _ _ (in32_of rfl) (in32_of rfl) hf)
set_option maxRecDepth 20000 in
theorem am_X12_claims (l : Launch) (n : Nat) : AM l yX12_claims cX12_claims 5 (some .int) 2 45 [2, 0] 0 (un2 (f_X12_claims n)) := by
  refine AM.intro (by decide) (fun xs hx => ?_) (fun g xs h Z hl C hr hx hf => ?_)
  · obtain ⟨a0, a1, rfl, c0, c1⟩ := canL_2 hx
    exact Nat.le_of_ble_eq_true rfl
  · obtain ⟨a0, a1, rfl, c0, c1⟩ := canL_2 hx
    have hf := (un2_e _ a0 a1 _).symm.trans hf
    exact e_X12_claims (n := n) C hr c0 c1 hf
