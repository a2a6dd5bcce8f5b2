theorem w_1852 : (Cond.code ⟨"LinesPromisedModel", "meet", "()I"⟩ prog_14_method_92_code 5 (some .int)) ∈ wG := wG_in 1852 (by decide +kernel) (by decide +kernel)
theorem w_1850 : (Cond.instanceMethod ⟨"LinesPromisedModel", "meet", "()I"⟩) ∈ wG := wG_in 1850 (by decide +kernel) (by decide +kernel)
theorem w_1851 : (Cond.selects "LinesPromisedModel" ⟨"LinesPromisedModel", "meet", "()I"⟩ ⟨"LinesPromisedModel", "meet", "()I"⟩) ∈ wG := wG_in 1851 (by decide +kernel) (by decide +kernel)
theorem w_1863 : (Cond.code ⟨"LinesPromisedModel", "many", "(I)I"⟩ prog_14_method_94_code 3 (some .int)) ∈ wG := wG_in 1863 (by decide +kernel) (by decide +kernel)
theorem w_1862 : (Cond.static ⟨"LinesPromisedModel", "many", "(I)I"⟩) ∈ wG := wG_in 1862 (by decide +kernel) (by decide +kernel)
theorem w_1861 : (Cond.methodLink "LinesPromisedModel" 269 ⟨"LinesPromisedModel", "many", "(I)I"⟩) ∈ wG := wG_in 1861 (by decide +kernel) (by decide +kernel)
theorem w_1860 : (Cond.code ⟨"LinesPromisedModel", "areJoined", "(III)Z"⟩ prog_14_method_93_code 8 (some .boolean)) ∈ wG := wG_in 1860 (by decide +kernel) (by decide +kernel)
theorem w_1859 : (Cond.instanceMethod ⟨"LinesPromisedModel", "areJoined", "(III)Z"⟩) ∈ wG := wG_in 1859 (by decide +kernel) (by decide +kernel)
theorem w_85 : (Cond.selects "LinesPromisedModel" ⟨"LinesPromisedModel", "areJoined", "(III)Z"⟩ ⟨"LinesPromisedModel", "areJoined", "(III)Z"⟩) ∈ wG := wG_in 85 (by decide +kernel) (by decide +kernel)
theorem w_1857 : (Cond.methodLink "LinesPromisedModel" 272 ⟨"LinesPromisedModel", "areJoined", "(III)Z"⟩) ∈ wG := wG_in 1857 (by decide +kernel) (by decide +kernel)
theorem w_1856 : (Cond.code ⟨"LinesPromisedModel", "gauge", "(I)I"⟩ prog_14_method_95_code 8 (some .int)) ∈ wG := wG_in 1856 (by decide +kernel) (by decide +kernel)
theorem w_1854 : (Cond.instanceMethod ⟨"LinesPromisedModel", "gauge", "(I)I"⟩) ∈ wG := wG_in 1854 (by decide +kernel) (by decide +kernel)
theorem w_1855 : (Cond.selects "LinesPromisedModel" ⟨"LinesPromisedModel", "gauge", "(I)I"⟩ ⟨"LinesPromisedModel", "gauge", "(I)I"⟩) ∈ wG := wG_in 1855 (by decide +kernel) (by decide +kernel)
theorem w_1868 : (Cond.constant "LinesPromisedModel" 275 (i32 999999)) ∈ wG := wG_in 1868 (by decide +kernel) (by decide +kernel)
theorem w_1867 : (Cond.code ⟨"LinesPromisedModel", "plan", "(IIII)I"⟩ prog_14_method_96_code 15 (some .int)) ∈ wG := wG_in 1867 (by decide +kernel) (by decide +kernel)
theorem w_1865 : (Cond.instanceMethod ⟨"LinesPromisedModel", "plan", "(IIII)I"⟩) ∈ wG := wG_in 1865 (by decide +kernel) (by decide +kernel)
theorem w_1866 : (Cond.selects "LinesPromisedModel" ⟨"LinesPromisedModel", "plan", "(IIII)I"⟩ ⟨"LinesPromisedModel", "plan", "(IIII)I"⟩) ∈ wG := wG_in 1866 (by decide +kernel) (by decide +kernel)
theorem w_1873 : (Cond.methodLink "LinesPromisedModel" 276 ⟨"LinesPromisedModel", "slope", "(IIII)I"⟩) ∈ wG := wG_in 1873 (by decide +kernel) (by decide +kernel)
theorem w_1872 : (Cond.code ⟨"LinesPromisedModel", "tried", "(I)I"⟩ prog_14_method_97_code 6 (some .int)) ∈ wG := wG_in 1872 (by decide +kernel) (by decide +kernel)
theorem w_1870 : (Cond.instanceMethod ⟨"LinesPromisedModel", "tried", "(I)I"⟩) ∈ wG := wG_in 1870 (by decide +kernel) (by decide +kernel)
theorem w_1871 : (Cond.selects "LinesPromisedModel" ⟨"LinesPromisedModel", "tried", "(I)I"⟩ ⟨"LinesPromisedModel", "tried", "(I)I"⟩) ∈ wG := wG_in 1871 (by decide +kernel) (by decide +kernel)
theorem w_1877 : (Cond.code ⟨"LinesPromisedModel", "known", "(II)I"⟩ prog_14_method_98_code 4 (some .int)) ∈ wG := wG_in 1877 (by decide +kernel) (by decide +kernel)
theorem w_1875 : (Cond.instanceMethod ⟨"LinesPromisedModel", "known", "(II)I"⟩) ∈ wG := wG_in 1875 (by decide +kernel) (by decide +kernel)
theorem w_1876 : (Cond.selects "LinesPromisedModel" ⟨"LinesPromisedModel", "known", "(II)I"⟩ ⟨"LinesPromisedModel", "known", "(II)I"⟩) ∈ wG := wG_in 1876 (by decide +kernel) (by decide +kernel)
theorem w_1428 : (Cond.fieldLink "LinesPromisedModel" 280 "LinesPromisedModel" "hasImage" "Z") ∈ wG := wG_in 1428 (by decide +kernel) (by decide +kernel)
theorem w_1881 : (Cond.code ⟨"LinesPromisedModel", "image", "()I"⟩ prog_14_method_99_code 2 (some .int)) ∈ wG := wG_in 1881 (by decide +kernel) (by decide +kernel)
theorem w_1879 : (Cond.instanceMethod ⟨"LinesPromisedModel", "image", "()I"⟩) ∈ wG := wG_in 1879 (by decide +kernel) (by decide +kernel)
theorem w_1880 : (Cond.selects "LinesPromisedModel" ⟨"LinesPromisedModel", "image", "()I"⟩ ⟨"LinesPromisedModel", "image", "()I"⟩) ∈ wG := wG_in 1880 (by decide +kernel) (by decide +kernel)
theorem w_1885 : (Cond.code ⟨"LinesPromisedModel", "undo", "()I"⟩ prog_14_method_100_code 2 (some .int)) ∈ wG := wG_in 1885 (by decide +kernel) (by decide +kernel)
theorem w_1883 : (Cond.instanceMethod ⟨"LinesPromisedModel", "undo", "()I"⟩) ∈ wG := wG_in 1883 (by decide +kernel) (by decide +kernel)
theorem w_1884 : (Cond.selects "LinesPromisedModel" ⟨"LinesPromisedModel", "undo", "()I"⟩ ⟨"LinesPromisedModel", "undo", "()I"⟩) ∈ wG := wG_in 1884 (by decide +kernel) (by decide +kernel)
theorem w_1889 : (Cond.code ⟨"LinesPromisedModel", "count", "(I)I"⟩ prog_14_method_101_code 4 (some .int)) ∈ wG := wG_in 1889 (by decide +kernel) (by decide +kernel)
theorem w_1887 : (Cond.instanceMethod ⟨"LinesPromisedModel", "count", "(I)I"⟩) ∈ wG := wG_in 1887 (by decide +kernel) (by decide +kernel)
theorem w_1888 : (Cond.selects "LinesPromisedModel" ⟨"LinesPromisedModel", "count", "(I)I"⟩ ⟨"LinesPromisedModel", "count", "(I)I"⟩) ∈ wG := wG_in 1888 (by decide +kernel) (by decide +kernel)
theorem w_1893 : (Cond.code ⟨"LinesPromisedModel", "sheet", "(III)I"⟩ prog_14_method_102_code 5 (some .int)) ∈ wG := wG_in 1893 (by decide +kernel) (by decide +kernel)
theorem w_1891 : (Cond.instanceMethod ⟨"LinesPromisedModel", "sheet", "(III)I"⟩) ∈ wG := wG_in 1891 (by decide +kernel) (by decide +kernel)
theorem w_1892 : (Cond.selects "LinesPromisedModel" ⟨"LinesPromisedModel", "sheet", "(III)I"⟩ ⟨"LinesPromisedModel", "sheet", "(III)I"⟩) ∈ wG := wG_in 1892 (by decide +kernel) (by decide +kernel)
/-! LinesPromisedModel.meet()I -/
theorem dX12_meet_0 : decode cX12_meet 0 = .ok (.iconst 0, 1) := by decide +kernel
theorem dX12_meet_1 : decode cX12_meet 1 = .ok (.istore_n 1, 1) := by decide +kernel
theorem dX12_meet_2 : decode cX12_meet 2 = .ok (.iconst 0, 1) := by decide +kernel
theorem dX12_meet_3 : decode cX12_meet 3 = .ok (.istore_n 2, 1) := by decide +kernel
theorem dX12_meet_4 : decode cX12_meet 4 = .ok (.iconst 0, 1) := by decide +kernel
theorem dX12_meet_5 : decode cX12_meet 5 = .ok (.istore_n 3, 1) := by decide +kernel
theorem dX12_meet_6 : decode cX12_meet 6 = .ok (.iload_n 3, 1) := by decide +kernel
theorem dX12_meet_7 : decode cX12_meet 7 = .ok (.aload_n 0, 1) := by decide +kernel
theorem dX12_meet_8 : decode cX12_meet 8 = .ok (.getfield 8, 3) := by decide +kernel
theorem dX12_meet_11 : decode cX12_meet 11 = .ok (.iconst 2, 1) := by decide +kernel
theorem dX12_meet_12 : decode cX12_meet 12 = .ok (.iaload, 1) := by decide +kernel
theorem dX12_meet_13 : decode cX12_meet 13 = .ok (.if_icmp .ge 102, 3) := by decide +kernel
theorem dX12_meet_16 : decode cX12_meet 16 = .ok (.aload_n 0, 1) := by decide +kernel
theorem dX12_meet_17 : decode cX12_meet 17 = .ok (.iload_n 3, 1) := by decide +kernel
theorem dX12_meet_18 : decode cX12_meet 18 = .ok (.invokevirtual 219, 3) := by decide +kernel
theorem dX12_meet_21 : decode cX12_meet 21 = .ok (.ifCond .eq 88, 3) := by decide +kernel
theorem dX12_meet_24 : decode cX12_meet 24 = .ok (.aload_n 0, 1) := by decide +kernel
theorem dX12_meet_25 : decode cX12_meet 25 = .ok (.getfield 8, 3) := by decide +kernel
theorem dX12_meet_28 : decode cX12_meet 28 = .ok (.sipush 970, 3) := by decide +kernel
theorem dX12_meet_31 : decode cX12_meet 31 = .ok (.iload_n 3, 1) := by decide +kernel
theorem dX12_meet_32 : decode cX12_meet 32 = .ok (.iadd, 1) := by decide +kernel
theorem dX12_meet_33 : decode cX12_meet 33 = .ok (.iaload, 1) := by decide +kernel
theorem dX12_meet_34 : decode cX12_meet 34 = .ok (.ifCond .ne 75, 3) := by decide +kernel
theorem dX12_meet_37 : decode cX12_meet 37 = .ok (.iconst 1, 1) := by decide +kernel
theorem dX12_meet_38 : decode cX12_meet 38 = .ok (.aload_n 0, 1) := by decide +kernel
theorem dX12_meet_39 : decode cX12_meet 39 = .ok (.getfield 8, 3) := by decide +kernel
theorem dX12_meet_42 : decode cX12_meet 42 = .ok (.sipush 550, 3) := by decide +kernel
theorem dX12_meet_45 : decode cX12_meet 45 = .ok (.iload_n 3, 1) := by decide +kernel
theorem dX12_meet_46 : decode cX12_meet 46 = .ok (.iadd, 1) := by decide +kernel
theorem dX12_meet_47 : decode cX12_meet 47 = .ok (.iaload, 1) := by decide +kernel
theorem dX12_meet_48 : decode cX12_meet 48 = .ok (.ishl, 1) := by decide +kernel
theorem dX12_meet_49 : decode cX12_meet 49 = .ok (.iconst 1, 1) := by decide +kernel
theorem dX12_meet_50 : decode cX12_meet 50 = .ok (.aload_n 0, 1) := by decide +kernel
theorem dX12_meet_51 : decode cX12_meet 51 = .ok (.getfield 8, 3) := by decide +kernel
theorem dX12_meet_54 : decode cX12_meet 54 = .ok (.sipush 610, 3) := by decide +kernel
theorem dX12_meet_57 : decode cX12_meet 57 = .ok (.iload_n 3, 1) := by decide +kernel
theorem dX12_meet_58 : decode cX12_meet 58 = .ok (.iadd, 1) := by decide +kernel
theorem dX12_meet_59 : decode cX12_meet 59 = .ok (.iaload, 1) := by decide +kernel
theorem dX12_meet_60 : decode cX12_meet 60 = .ok (.ishl, 1) := by decide +kernel
theorem dX12_meet_61 : decode cX12_meet 61 = .ok (.ior, 1) := by decide +kernel
theorem dX12_meet_62 : decode cX12_meet 62 = .ok (.istore 4, 2) := by decide +kernel
theorem dX12_meet_64 : decode cX12_meet 64 = .ok (.iload_n 1, 1) := by decide +kernel
theorem dX12_meet_65 : decode cX12_meet 65 = .ok (.aload_n 0, 1) := by decide +kernel
theorem dX12_meet_66 : decode cX12_meet 66 = .ok (.getfield 8, 3) := by decide +kernel
theorem dX12_meet_69 : decode cX12_meet 69 = .ok (.sipush 670, 3) := by decide +kernel
theorem dX12_meet_72 : decode cX12_meet 72 = .ok (.iload_n 3, 1) := by decide +kernel
theorem dX12_meet_73 : decode cX12_meet 73 = .ok (.iadd, 1) := by decide +kernel
theorem dX12_meet_74 : decode cX12_meet 74 = .ok (.iaload, 1) := by decide +kernel
theorem dX12_meet_75 : decode cX12_meet 75 = .ok (.ifCond .ne 8, 3) := by decide +kernel
theorem dX12_meet_78 : decode cX12_meet 78 = .ok (.iload 4, 2) := by decide +kernel
theorem dX12_meet_80 : decode cX12_meet 80 = .ok (.goto 4, 3) := by decide +kernel
theorem dX12_meet_83 : decode cX12_meet 83 = .ok (.iconst 0, 1) := by decide +kernel
theorem dX12_meet_84 : decode cX12_meet 84 = .ok (.ior, 1) := by decide +kernel
theorem dX12_meet_85 : decode cX12_meet 85 = .ok (.istore_n 1, 1) := by decide +kernel
theorem dX12_meet_86 : decode cX12_meet 86 = .ok (.iload_n 2, 1) := by decide +kernel
theorem dX12_meet_87 : decode cX12_meet 87 = .ok (.aload_n 0, 1) := by decide +kernel
theorem dX12_meet_88 : decode cX12_meet 88 = .ok (.getfield 8, 3) := by decide +kernel
theorem dX12_meet_91 : decode cX12_meet 91 = .ok (.sipush 670, 3) := by decide +kernel
theorem dX12_meet_94 : decode cX12_meet 94 = .ok (.iload_n 3, 1) := by decide +kernel
theorem dX12_meet_95 : decode cX12_meet 95 = .ok (.iadd, 1) := by decide +kernel
theorem dX12_meet_96 : decode cX12_meet 96 = .ok (.iaload, 1) := by decide +kernel
theorem dX12_meet_97 : decode cX12_meet 97 = .ok (.iconst 1, 1) := by decide +kernel
theorem dX12_meet_98 : decode cX12_meet 98 = .ok (.if_icmp .ne 8, 3) := by decide +kernel
theorem dX12_meet_101 : decode cX12_meet 101 = .ok (.iload 4, 2) := by decide +kernel
theorem dX12_meet_103 : decode cX12_meet 103 = .ok (.goto 4, 3) := by decide +kernel
theorem dX12_meet_106 : decode cX12_meet 106 = .ok (.iconst 0, 1) := by decide +kernel
theorem dX12_meet_107 : decode cX12_meet 107 = .ok (.ior, 1) := by decide +kernel
theorem dX12_meet_108 : decode cX12_meet 108 = .ok (.istore_n 2, 1) := by decide +kernel
theorem dX12_meet_109 : decode cX12_meet 109 = .ok (.iinc 3 1, 3) := by decide +kernel
theorem dX12_meet_112 : decode cX12_meet 112 = .ok (.goto (-106), 3) := by decide +kernel
theorem dX12_meet_115 : decode cX12_meet 115 = .ok (.iload_n 1, 1) := by decide +kernel
theorem dX12_meet_116 : decode cX12_meet 116 = .ok (.iload_n 2, 1) := by decide +kernel
theorem dX12_meet_117 : decode cX12_meet 117 = .ok (.iand, 1) := by decide +kernel
theorem dX12_meet_118 : decode cX12_meet 118 = .ok (.ireturn, 1) := by decide +kernel
theorem cm_X12_meet : CM yX12_meet cX12_meet 5 (some .int) 0 12 := ⟨w_1850, w_1851, w_1852, w_97, ⟨by decide +kernel, by decide +kernel, by decide +kernel⟩, ⟨_, _, rfl⟩, by decide⟩
noncomputable def f_X12_meet_109 (n : Nat) (rec6 : Int → Int → Int → MM → RR) (v0 v1 v2 v3 : Int) (h : MM) : RR :=
  lb (wr (v3 + 1)) fun x1 =>
  rec6 v1 v2 x1 h
noncomputable def f_X12_meet_107 (n : Nat) (rec6 : Int → Int → Int → MM → RR) (v0 v1 v3 s0 s1 : Int) (h : MM) : RR :=
  lb (bor s0 s1) fun x1 =>
  f_X12_meet_109 n rec6 v0 v1 x1 v3 h
noncomputable def f_X12_meet_84 (n : Nat) (rec6 : Int → Int → Int → MM → RR) (v0 v2 v3 v4 s0 s1 : Int) (h : MM) : RR :=
  lb (bor s0 s1) fun x1 =>
  gf h v0 12 1 fun r2 =>
  rd h r2 100 (wr (670 + v3)) fun r3 =>
  if r3 = 1 then
    f_X12_meet_107 n rec6 v0 x1 v3 v2 v4 h
  else
  f_X12_meet_107 n rec6 v0 x1 v3 v2 0 h
noncomputable def f_X12_meet_6b (n : Nat) (rec6 : Int → Int → Int → MM → RR) (v0 v1 v2 v3 : Int) (h : MM) : RR :=
  gf h v0 12 1 fun r1 =>
  rd h r1 100 2 fun r2 =>
  if r2 ≤ v3 then
    some (ban v1 v2, h)
  else
  gk h v0 12 <|
  bd (f_X12_isGranted n v0 v3 h) fun r4 h4 =>
  if r4 = 0 then
    f_X12_meet_109 n rec6 v0 v1 v2 v3 h4
  else
  gf h4 v0 12 1 fun r6 =>
  rd h4 r6 100 (wr (970 + v3)) fun r7 =>
  if r7 = 0 then
    gf h4 v0 12 1 fun r9 =>
    rd h4 r9 100 (wr (550 + v3)) fun r10 =>
    gf h4 v0 12 1 fun r11 =>
    rd h4 r11 100 (wr (610 + v3)) fun r12 =>
    lb (bor (shl 1 r10) (shl 1 r12)) fun x13 =>
    gf h4 v0 12 1 fun r14 =>
    rd h4 r14 100 (wr (670 + v3)) fun r15 =>
    if r15 = 0 then
      f_X12_meet_84 n rec6 v0 v2 v3 x13 v1 x13 h4
    else
    f_X12_meet_84 n rec6 v0 v2 v3 x13 v1 0 h4
  else
  f_X12_meet_109 n rec6 v0 v1 v2 v3 h4
noncomputable def f_X12_meet_6 (n : Nat)  (v0 : Int) : Nat → Int → Int → Int → MM → RR
  | 0, _, _, _, _ => none
  | k + 1, v1, v2, v3, h => f_X12_meet_6b n  (f_X12_meet_6 n  v0 k) v0 v1 v2 v3 h
noncomputable def f_X12_meet (n : Nat) (v0 : Int) (h : MM) : RR :=
  f_X12_meet_6 n v0 n 0 0 0 h
set_option maxRecDepth 20000 in
theorem b_X12_meet_109 {g : GT} {Z : Int × MM} {n : Nat} (C : Cx g cX12_meet 5 yX12_meet 1 21) (hr : Rt g (some .int) 0 Z) {v0 v1 v2 v3 : Int}  {rec6 : Int → Int → Int → MM → RR} (L6 : ∀ (u1 u2 u3 : Int) (h : MM), in32 u1 → in32 u2 → in32 u3 → rec6 u1 u2 u3 h = some Z → G g 6 [(2, v0), (0, u1), (0, u2), (0, u3), (3, 0)] [] h) (cv1 : in32 v1) (cv2 : in32 v2) (cv3 : in32 v3) {h : MM} (hf : f_X12_meet_109 n rec6 v0 v1 v2 v3 h = some Z) : G g 109 [(2, v0), (0, v1), (0, v2), (0, v3), (3, 0)] [] h := by
  unfold f_X12_meet_109 at hf
  obtain ⟨x1, e1, hf⟩ := lb_s hf
  have c1 : in32 x1 := by rw [e1]; exact (in32_t _)
  refine r_iincL C dX12_meet_109 rfl e1 (Nat.le_of_ble_eq_true rfl) rfl ?_
  refine r_goto C dX12_meet_112 (tgt := 6) (by decide) ?_
  exact G.mask [true, true, true, true, false] rfl rfl (L6 _ _ _ _ cv1 cv2 c1 hf)
set_option maxRecDepth 20000 in
theorem b_X12_meet_107 {g : GT} {Z : Int × MM} {n : Nat} (C : Cx g cX12_meet 5 yX12_meet 1 21) (hr : Rt g (some .int) 0 Z) {v0 v1 v3 s0 s1 : Int}  {rec6 : Int → Int → Int → MM → RR} (L6 : ∀ (u1 u2 u3 : Int) (h : MM), in32 u1 → in32 u2 → in32 u3 → rec6 u1 u2 u3 h = some Z → G g 6 [(2, v0), (0, u1), (0, u2), (0, u3), (3, 0)] [] h) (cv1 : in32 v1) (cv3 : in32 v3) (cs0 : in32 s0) (cs1 : in32 s1) {h : MM} (hf : f_X12_meet_107 n rec6 v0 v1 v3 s0 s1 h = some Z) : G g 107 [(2, v0), (0, v1), (3, 0), (0, v3), (3, 0)] [(0, s1), (0, s0)] h := by
  unfold f_X12_meet_107 at hf
  refine r_ior C dX12_meet_107 ?_
  obtain ⟨x1, e1, hf⟩ := lb_s hf
  have c1 : in32 x1 := by rw [e1]; exact (in32_t _)
  refine r_istore_nL C dX12_meet_108 e1 (Nat.le_of_ble_eq_true rfl) rfl ?_
  exact G.mask [true, true, true, true, false] rfl rfl (b_X12_meet_109 C hr L6 cv1 c1 cv3 hf)
set_option maxRecDepth 20000 in
theorem b_X12_meet_84 {g : GT} {Z : Int × MM} {n : Nat} (C : Cx g cX12_meet 5 yX12_meet 1 21) (hr : Rt g (some .int) 0 Z) {v0 v2 v3 v4 s0 s1 : Int}  {rec6 : Int → Int → Int → MM → RR} (L6 : ∀ (u1 u2 u3 : Int) (h : MM), in32 u1 → in32 u2 → in32 u3 → rec6 u1 u2 u3 h = some Z → G g 6 [(2, v0), (0, u1), (0, u2), (0, u3), (3, 0)] [] h) (cv2 : in32 v2) (cv3 : in32 v3) (cv4 : in32 v4) (cs0 : in32 s0) (cs1 : in32 s1) {h : MM} (hf : f_X12_meet_84 n rec6 v0 v2 v3 v4 s0 s1 h = some Z) : G g 84 [(2, v0), (3, 0), (0, v2), (0, v3), (0, v4)] [(0, s1), (0, s0)] h := by
  unfold f_X12_meet_84 at hf
  refine r_ior C dX12_meet_84 ?_
  obtain ⟨x1, e1, hf⟩ := lb_s hf
  have c1 : in32 x1 := by rw [e1]; exact (in32_t _)
  refine r_istore_nL C dX12_meet_85 e1 (Nat.le_of_ble_eq_true rfl) rfl ?_
  refine r_iload_n C dX12_meet_86 rfl ?_
  refine r_aload_n C dX12_meet_87 rfl ?_
  obtain ⟨q2, hf⟩ := gf_s hf
  refine r_gf C ct12 (j := 1) (ji := 1) dX12_meet_88 q2 rfl rfl (by decide) w_1426 rfl (fun c2 => ?_)
  refine r_sipush C dX12_meet_91 rfl ?_
  refine r_iload_n C dX12_meet_94 rfl ?_
  refine r_iadd C dX12_meet_95 ?_
  obtain ⟨q3, hf⟩ := rd_s hf
  refine r_iald C dX12_meet_96 q3 rfl (fun c3 => ?_)
  refine r_iconst C dX12_meet_97 ?_
  refine r_icmp_ne C dX12_meet_98 (tgt := 106) (by decide) c3 (in32_of rfl) (fun n4 => ?_) (fun n4 => ?_)
  · have hf := ite_n n4 hf
    refine r_iconst C dX12_meet_106 ?_
    exact G.mask [true, true, false, true, false] rfl rfl (b_X12_meet_107 C hr L6 c1 cv3 cv2 (in32_of rfl) hf)
  · have hf := ite_p n4 hf
    refine r_iload C dX12_meet_101 rfl ?_
    refine r_goto C dX12_meet_103 (tgt := 107) (by decide) ?_
    exact G.mask [true, true, false, true, false] rfl rfl (b_X12_meet_107 C hr L6 c1 cv3 cv2 cv4 hf)
set_option maxRecDepth 20000 in
theorem b_X12_meet_6b {g : GT} {Z : Int × MM} {n : Nat} (C : Cx g cX12_meet 5 yX12_meet 1 21) (hr : Rt g (some .int) 0 Z) {v0 v1 v2 v3 : Int}  {rec6 : Int → Int → Int → MM → RR} (L6 : ∀ (u1 u2 u3 : Int) (h : MM), in32 u1 → in32 u2 → in32 u3 → rec6 u1 u2 u3 h = some Z → G g 6 [(2, v0), (0, u1), (0, u2), (0, u3), (3, 0)] [] h) (cv1 : in32 v1) (cv2 : in32 v2) (cv3 : in32 v3) {h : MM} (hf : f_X12_meet_6b n rec6 v0 v1 v2 v3 h = some Z) : G g 6 [(2, v0), (0, v1), (0, v2), (0, v3), (3, 0)] [] h := by
  unfold f_X12_meet_6b at hf
  refine r_iload_n C dX12_meet_6 rfl ?_
  refine r_aload_n C dX12_meet_7 rfl ?_
  obtain ⟨q1, hf⟩ := gf_s hf
  refine r_gf C ct12 (j := 1) (ji := 1) dX12_meet_8 q1 rfl rfl (by decide) w_1426 rfl (fun c1 => ?_)
  refine r_iconst C dX12_meet_11 ?_
  obtain ⟨q2, hf⟩ := rd_s hf
  refine r_iald C dX12_meet_12 q2 rfl (fun c2 => ?_)
  refine r_icmp_ge C dX12_meet_13 (tgt := 115) (by decide) cv3 c2 (fun n3 => ?_) (fun n3 => ?_)
  · have hf := ite_p n3 hf
    refine r_iload_n C dX12_meet_115 rfl ?_
    refine r_iload_n C dX12_meet_116 rfl ?_
    refine r_iand C dX12_meet_117 ?_
    cases hf
    exact r_jret C hr dX12_meet_118 (in32_t _)
  · have hf := ite_n n3 hf
    refine r_aload_n C dX12_meet_16 rfl ?_
    refine r_iload_n C dX12_meet_17 rfl ?_
    obtain ⟨p4, hf⟩ := gk_s hf
    obtain ⟨r4, h4, hq4, hf⟩ := bd_s hf
    refine r_cV1 C (am_X12_isGranted (gl g) n) cm_X12_isGranted w_1718 dX12_meet_18 ⟨Nat.le_of_ble_eq_true rfl, Nat.le_of_ble_eq_true rfl⟩ p4 rfl cv3 rfl (Nat.le_of_ble_eq_true rfl) hq4 (by decide) (fun c4 => ?_)
    have c4 : in32 _ := c4
    refine r_if_eq C dX12_meet_21 (tgt := 109) (by decide) c4 (fun n5 => ?_) (fun n5 => ?_)
    · have hf := ite_p n5 hf
      exact G.mask [true, true, true, true, false] rfl rfl (b_X12_meet_109 C hr L6 cv1 cv2 cv3 hf)
    · have hf := ite_n n5 hf
      refine r_aload_n C dX12_meet_24 rfl ?_
      obtain ⟨q6, hf⟩ := gf_s hf
      refine r_gf C ct12 (j := 1) (ji := 1) dX12_meet_25 q6 rfl rfl (by decide) w_1426 rfl (fun c6 => ?_)
      refine r_sipush C dX12_meet_28 rfl ?_
      refine r_iload_n C dX12_meet_31 rfl ?_
      refine r_iadd C dX12_meet_32 ?_
      obtain ⟨q7, hf⟩ := rd_s hf
      refine r_iald C dX12_meet_33 q7 rfl (fun c7 => ?_)
      refine r_if_ne C dX12_meet_34 (tgt := 109) (by decide) c7 (fun n8 => ?_) (fun n8 => ?_)
      · have hf := ite_n n8 hf
        exact G.mask [true, true, true, true, false] rfl rfl (b_X12_meet_109 C hr L6 cv1 cv2 cv3 hf)
      · have hf := ite_p n8 hf
        refine r_iconst C dX12_meet_37 ?_
        refine r_aload_n C dX12_meet_38 rfl ?_
        obtain ⟨q9, hf⟩ := gf_s hf
        refine r_gf C ct12 (j := 1) (ji := 1) dX12_meet_39 q9 rfl rfl (by decide) w_1426 rfl (fun c9 => ?_)
        refine r_sipush C dX12_meet_42 rfl ?_
        refine r_iload_n C dX12_meet_45 rfl ?_
        refine r_iadd C dX12_meet_46 ?_
        obtain ⟨q10, hf⟩ := rd_s hf
        refine r_iald C dX12_meet_47 q10 rfl (fun c10 => ?_)
        refine r_ishl C dX12_meet_48 ?_
        refine r_iconst C dX12_meet_49 ?_
        refine r_aload_n C dX12_meet_50 rfl ?_
        obtain ⟨q11, hf⟩ := gf_s hf
        refine r_gf C ct12 (j := 1) (ji := 1) dX12_meet_51 q11 rfl rfl (by decide) w_1426 rfl (fun c11 => ?_)
        refine r_sipush C dX12_meet_54 rfl ?_
        refine r_iload_n C dX12_meet_57 rfl ?_
        refine r_iadd C dX12_meet_58 ?_
        obtain ⟨q12, hf⟩ := rd_s hf
        refine r_iald C dX12_meet_59 q12 rfl (fun c12 => ?_)
        refine r_ishl C dX12_meet_60 ?_
        refine r_ior C dX12_meet_61 ?_
        obtain ⟨x13, e13, hf⟩ := lb_s hf
        have c13 : in32 x13 := by rw [e13]; exact (in32_t _)
        refine r_istoreL C dX12_meet_62 e13 (Nat.le_of_ble_eq_true rfl) rfl ?_
        refine r_iload_n C dX12_meet_64 rfl ?_
        refine r_aload_n C dX12_meet_65 rfl ?_
        obtain ⟨q14, hf⟩ := gf_s hf
        refine r_gf C ct12 (j := 1) (ji := 1) dX12_meet_66 q14 rfl rfl (by decide) w_1426 rfl (fun c14 => ?_)
        refine r_sipush C dX12_meet_69 rfl ?_
        refine r_iload_n C dX12_meet_72 rfl ?_
        refine r_iadd C dX12_meet_73 ?_
        obtain ⟨q15, hf⟩ := rd_s hf
        refine r_iald C dX12_meet_74 q15 rfl (fun c15 => ?_)
        refine r_if_ne C dX12_meet_75 (tgt := 83) (by decide) c15 (fun n16 => ?_) (fun n16 => ?_)
        · have hf := ite_n n16 hf
          refine r_iconst C dX12_meet_83 ?_
          exact G.mask [true, false, true, true, true] rfl rfl (b_X12_meet_84 C hr L6 cv2 cv3 c13 cv1 (in32_of rfl) hf)
        · have hf := ite_p n16 hf
          refine r_iload C dX12_meet_78 rfl ?_
          refine r_goto C dX12_meet_80 (tgt := 84) (by decide) ?_
          exact G.mask [true, false, true, true, true] rfl rfl (b_X12_meet_84 C hr L6 cv2 cv3 c13 cv1 c13 hf)
set_option maxRecDepth 20000 in
theorem l_X12_meet_6 {g : GT} {Z : Int × MM} {n : Nat} (C : Cx g cX12_meet 5 yX12_meet 1 21) (hr : Rt g (some .int) 0 Z) {v0 : Int}    : ∀ (k : Nat) (v1 v2 v3 : Int) (h : MM), in32 v1 → in32 v2 → in32 v3 → f_X12_meet_6 n  v0 k v1 v2 v3 h = some Z → G g 6 [(2, v0), (0, v1), (0, v2), (0, v3), (3, 0)] [] h := by
  intro k
  induction k with
  | zero => intro v1 v2 v3 h cv1 cv2 cv3 hf; exact absurd hf (by intro z; cases z)
  | succ k ih => intro v1 v2 v3 h cv1 cv2 cv3 hf; exact b_X12_meet_6b C hr (rec6 := f_X12_meet_6 n  v0 k)  ih cv1 cv2 cv3 (show f_X12_meet_6b n  (f_X12_meet_6 n  v0 k) v0 v1 v2 v3 h = some Z from hf)
set_option maxRecDepth 20000 in
theorem e_X12_meet {g : GT} {Z : Int × MM} {n : Nat} (C : Cx g cX12_meet 5 yX12_meet 1 21) (hr : Rt g (some .int) 0 Z) {v0 : Int} (cv0 : cK 2 v0) {h : MM} (hf : f_X12_meet n v0 h = some Z) : G g 0 [(2, v0), (3, 0), (3, 0), (3, 0), (3, 0)] [] h := by
  unfold f_X12_meet at hf
  refine r_iconst C dX12_meet_0 ?_
  refine r_istore_n C dX12_meet_1 (Nat.le_of_ble_eq_true rfl) rfl ?_
  refine r_iconst C dX12_meet_2 ?_
  refine r_istore_n C dX12_meet_3 (Nat.le_of_ble_eq_true rfl) rfl ?_
  refine r_iconst C dX12_meet_4 ?_
  refine r_istore_n C dX12_meet_5 (Nat.le_of_ble_eq_true rfl) rfl ?_
  exact G.mask [true, true, true, true, false] rfl rfl (l_X12_meet_6 C hr   _ _ _ _ _ (in32_of rfl) (in32_of rfl) (in32_of rfl) hf)
set_option maxRecDepth 20000 in
theorem am_X12_meet (l : Launch) (n : Nat) : AM l yX12_meet cX12_meet 5 (some .int) 1 21 [2] 0 (un1 (f_X12_meet n)) := by
  refine AM.intro (by decide) (fun xs hx => ?_) (fun g xs h Z hl C hr hx hf => ?_)
  · obtain ⟨a0, rfl, c0⟩ := canL_1 hx
    exact Nat.le_of_ble_eq_true rfl
  · obtain ⟨a0, rfl, c0⟩ := canL_1 hx
    have hf := (un1_e _ a0 _).symm.trans hf
    exact e_X12_meet (n := n) C hr c0 hf
/-! LinesPromisedModel.many(I)I -/
theorem dX12_many_0 : decode cX12_many 0 = .ok (.iconst 0, 1) := by decide +kernel
theorem dX12_many_1 : decode cX12_many 1 = .ok (.istore_n 1, 1) := by decide +kernel
theorem dX12_many_2 : decode cX12_many 2 = .ok (.iconst 0, 1) := by decide +kernel
theorem dX12_many_3 : decode cX12_many 3 = .ok (.istore_n 2, 1) := by decide +kernel
theorem dX12_many_4 : decode cX12_many 4 = .ok (.iload_n 2, 1) := by decide +kernel
theorem dX12_many_5 : decode cX12_many 5 = .ok (.bipush 30, 2) := by decide +kernel
theorem dX12_many_7 : decode cX12_many 7 = .ok (.if_icmp .ge 17, 3) := by decide +kernel
theorem dX12_many_10 : decode cX12_many 10 = .ok (.iload_n 1, 1) := by decide +kernel
theorem dX12_many_11 : decode cX12_many 11 = .ok (.iload_n 0, 1) := by decide +kernel
theorem dX12_many_12 : decode cX12_many 12 = .ok (.iload_n 2, 1) := by decide +kernel
theorem dX12_many_13 : decode cX12_many 13 = .ok (.ishr, 1) := by decide +kernel
theorem dX12_many_14 : decode cX12_many 14 = .ok (.iconst 1, 1) := by decide +kernel
theorem dX12_many_15 : decode cX12_many 15 = .ok (.iand, 1) := by decide +kernel
theorem dX12_many_16 : decode cX12_many 16 = .ok (.iadd, 1) := by decide +kernel
theorem dX12_many_17 : decode cX12_many 17 = .ok (.istore_n 1, 1) := by decide +kernel
theorem dX12_many_18 : decode cX12_many 18 = .ok (.iinc 2 1, 3) := by decide +kernel
theorem dX12_many_21 : decode cX12_many 21 = .ok (.goto (-17), 3) := by decide +kernel
theorem dX12_many_24 : decode cX12_many 24 = .ok (.iload_n 1, 1) := by decide +kernel
theorem dX12_many_25 : decode cX12_many 25 = .ok (.ireturn, 1) := by decide +kernel
theorem cm_X12_many : CMs yX12_many cX12_many 3 (some .int) 1 := ⟨w_1862, w_1863, w_97, ⟨by decide +kernel, by decide +kernel, by decide +kernel⟩⟩
noncomputable def f_X12_many_4b (n : Nat) (rec4 : Int → Int → MM → RR) (v0 v1 v2 : Int) (h : MM) : RR :=
  if 30 ≤ v2 then
    some (v1, h)
  else
  lb (wr (v1 + (ban (shr v0 v2) 1))) fun x2 =>
  lb (wr (v2 + 1)) fun x3 =>
  rec4 x2 x3 h
noncomputable def f_X12_many_4 (n : Nat)  (v0 : Int) : Nat → Int → Int → MM → RR
  | 0, _, _, _ => none
  | k + 1, v1, v2, h => f_X12_many_4b n  (f_X12_many_4 n  v0 k) v0 v1 v2 h
noncomputable def f_X12_many (n : Nat) (v0 : Int) (h : MM) : RR :=
  f_X12_many_4 n v0 n 0 0 h
set_option maxRecDepth 20000 in
theorem b_X12_many_4b {g : GT} {Z : Int × MM} {n : Nat} (C : Cx g cX12_many 3 yX12_many 0 0) (hr : Rt g (some .int) 0 Z) {v0 v1 v2 : Int}  {rec4 : Int → Int → MM → RR} (L4 : ∀ (u1 u2 : Int) (h : MM), in32 u1 → in32 u2 → rec4 u1 u2 h = some Z → G g 4 [(0, v0), (0, u1), (0, u2)] [] h) (cv0 : in32 v0) (cv1 : in32 v1) (cv2 : in32 v2) {h : MM} (hf : f_X12_many_4b n rec4 v0 v1 v2 h = some Z) : G g 4 [(0, v0), (0, v1), (0, v2)] [] h := by
  unfold f_X12_many_4b at hf
  refine r_iload_n C dX12_many_4 rfl ?_
  refine r_bipush C dX12_many_5 rfl ?_
  refine r_icmp_ge C dX12_many_7 (tgt := 24) (by decide) cv2 (in32_of rfl) (fun n1 => ?_) (fun n1 => ?_)
  · have hf := ite_p n1 hf
    refine r_iload_n C dX12_many_24 rfl ?_
    cases hf
    exact r_jret C hr dX12_many_25 cv1
  · have hf := ite_n n1 hf
    refine r_iload_n C dX12_many_10 rfl ?_
    refine r_iload_n C dX12_many_11 rfl ?_
    refine r_iload_n C dX12_many_12 rfl ?_
    refine r_ishr C dX12_many_13 ?_
    refine r_iconst C dX12_many_14 ?_
    refine r_iand C dX12_many_15 ?_
    refine r_iadd C dX12_many_16 ?_
    obtain ⟨x2, e2, hf⟩ := lb_s hf
    have c2 : in32 x2 := by rw [e2]; exact (in32_t _)
    refine r_istore_nL C dX12_many_17 e2 (Nat.le_of_ble_eq_true rfl) rfl ?_
    obtain ⟨x3, e3, hf⟩ := lb_s hf
    have c3 : in32 x3 := by rw [e3]; exact (in32_t _)
    refine r_iincL C dX12_many_18 rfl e3 (Nat.le_of_ble_eq_true rfl) rfl ?_
    refine r_goto C dX12_many_21 (tgt := 4) (by decide) ?_
    exact G.mask [true, true, true] rfl rfl (L4 _ _ _ c2 c3 hf)
set_option maxRecDepth 20000 in
theorem l_X12_many_4 {g : GT} {Z : Int × MM} {n : Nat} (C : Cx g cX12_many 3 yX12_many 0 0) (hr : Rt g (some .int) 0 Z) {v0 : Int}   (cv0 : in32 v0) : ∀ (k : Nat) (v1 v2 : Int) (h : MM), in32 v1 → in32 v2 → f_X12_many_4 n  v0 k v1 v2 h = some Z → G g 4 [(0, v0), (0, v1), (0, v2)] [] h := by
  intro k
  induction k with
  | zero => intro v1 v2 h cv1 cv2 hf; exact absurd hf (by intro z; cases z)
  | succ k ih => intro v1 v2 h cv1 cv2 hf; exact b_X12_many_4b C hr (rec4 := f_X12_many_4 n  v0 k)  ih cv0 cv1 cv2 (show f_X12_many_4b n  (f_X12_many_4 n  v0 k) v0 v1 v2 h = some Z from hf)
set_option maxRecDepth 20000 in
theorem e_X12_many {g : GT} {Z : Int × MM} {n : Nat} (C : Cx g cX12_many 3 yX12_many 0 0) (hr : Rt g (some .int) 0 Z) {v0 : Int} (cv0 : cK 0 v0) {h : MM} (hf : f_X12_many n v0 h = some Z) : G g 0 [(0, v0), (3, 0), (3, 0)] [] h := by
  have cv0 : in32 v0 := cv0
  unfold f_X12_many at hf
  refine r_iconst C dX12_many_0 ?_
  refine r_istore_n C dX12_many_1 (Nat.le_of_ble_eq_true rfl) rfl ?_
  refine r_iconst C dX12_many_2 ?_
  refine r_istore_n C dX12_many_3 (Nat.le_of_ble_eq_true rfl) rfl ?_
  exact G.mask [true, true, true] rfl rfl (l_X12_many_4 C hr  cv0 _ _ _ _ (in32_of rfl) (in32_of rfl) hf)
set_option maxRecDepth 20000 in
theorem am_X12_many (l : Launch) (n : Nat) : AM l yX12_many cX12_many 3 (some .int) 0 0 [0] 0 (un1 (f_X12_many n)) := by
  refine AM.intro (by decide) (fun xs hx => ?_) (fun g xs h Z hl C hr hx hf => ?_)
  · obtain ⟨a0, rfl, c0⟩ := canL_1 hx
    exact Nat.le_of_ble_eq_true rfl
  · obtain ⟨a0, rfl, c0⟩ := canL_1 hx
    have hf := (un1_e _ a0 _).symm.trans hf
    exact e_X12_many (n := n) C hr c0 hf
/-! LinesPromisedModel.areJoined(III)Z -/
theorem dX12_areJoined_0 : decode cX12_areJoined 0 = .ok (.iload_n 1, 1) := by decide +kernel
theorem dX12_areJoined_1 : decode cX12_areJoined 1 = .ok (.invokestatic 269, 3) := by decide +kernel
theorem dX12_areJoined_4 : decode cX12_areJoined 4 = .ok (.iconst 2, 1) := by decide +kernel
theorem dX12_areJoined_5 : decode cX12_areJoined 5 = .ok (.if_icmp .ge 5, 3) := by decide +kernel
theorem dX12_areJoined_8 : decode cX12_areJoined 8 = .ok (.iconst 1, 1) := by decide +kernel
theorem dX12_areJoined_9 : decode cX12_areJoined 9 = .ok (.ireturn, 1) := by decide +kernel
theorem dX12_areJoined_10 : decode cX12_areJoined 10 = .ok (.iload_n 1, 1) := by decide +kernel
theorem dX12_areJoined_11 : decode cX12_areJoined 11 = .ok (.iload_n 1, 1) := by decide +kernel
theorem dX12_areJoined_12 : decode cX12_areJoined 12 = .ok (.ineg, 1) := by decide +kernel
theorem dX12_areJoined_13 : decode cX12_areJoined 13 = .ok (.iand, 1) := by decide +kernel
theorem dX12_areJoined_14 : decode cX12_areJoined 14 = .ok (.istore 4, 2) := by decide +kernel
theorem dX12_areJoined_16 : decode cX12_areJoined 16 = .ok (.iconst 0, 1) := by decide +kernel
theorem dX12_areJoined_17 : decode cX12_areJoined 17 = .ok (.istore 5, 2) := by decide +kernel
theorem dX12_areJoined_19 : decode cX12_areJoined 19 = .ok (.iload 5, 2) := by decide +kernel
theorem dX12_areJoined_21 : decode cX12_areJoined 21 = .ok (.bipush 6, 2) := by decide +kernel
theorem dX12_areJoined_23 : decode cX12_areJoined 23 = .ok (.if_icmp .ge 92, 3) := by decide +kernel
theorem dX12_areJoined_26 : decode cX12_areJoined 26 = .ok (.iconst 0, 1) := by decide +kernel
theorem dX12_areJoined_27 : decode cX12_areJoined 27 = .ok (.istore 6, 2) := by decide +kernel
theorem dX12_areJoined_29 : decode cX12_areJoined 29 = .ok (.iload 6, 2) := by decide +kernel
theorem dX12_areJoined_31 : decode cX12_areJoined 31 = .ok (.iload_n 3, 1) := by decide +kernel
theorem dX12_areJoined_32 : decode cX12_areJoined 32 = .ok (.if_icmp .ge 77, 3) := by decide +kernel
theorem dX12_areJoined_35 : decode cX12_areJoined 35 = .ok (.iconst 1, 1) := by decide +kernel
theorem dX12_areJoined_36 : decode cX12_areJoined 36 = .ok (.aload_n 0, 1) := by decide +kernel
theorem dX12_areJoined_37 : decode cX12_areJoined 37 = .ok (.getfield 8, 3) := by decide +kernel
theorem dX12_areJoined_40 : decode cX12_areJoined 40 = .ok (.sipush 550, 3) := by decide +kernel
theorem dX12_areJoined_43 : decode cX12_areJoined 43 = .ok (.aload_n 0, 1) := by decide +kernel
theorem dX12_areJoined_44 : decode cX12_areJoined 44 = .ok (.getfield 48, 3) := by decide +kernel
theorem dX12_areJoined_47 : decode cX12_areJoined 47 = .ok (.iload 6, 2) := by decide +kernel
theorem dX12_areJoined_49 : decode cX12_areJoined 49 = .ok (.iaload, 1) := by decide +kernel
theorem dX12_areJoined_50 : decode cX12_areJoined 50 = .ok (.iadd, 1) := by decide +kernel
theorem dX12_areJoined_51 : decode cX12_areJoined 51 = .ok (.iaload, 1) := by decide +kernel
theorem dX12_areJoined_52 : decode cX12_areJoined 52 = .ok (.ishl, 1) := by decide +kernel
theorem dX12_areJoined_53 : decode cX12_areJoined 53 = .ok (.iconst 1, 1) := by decide +kernel
theorem dX12_areJoined_54 : decode cX12_areJoined 54 = .ok (.aload_n 0, 1) := by decide +kernel
theorem dX12_areJoined_55 : decode cX12_areJoined 55 = .ok (.getfield 8, 3) := by decide +kernel
theorem dX12_areJoined_58 : decode cX12_areJoined 58 = .ok (.sipush 610, 3) := by decide +kernel
theorem dX12_areJoined_61 : decode cX12_areJoined 61 = .ok (.aload_n 0, 1) := by decide +kernel
theorem dX12_areJoined_62 : decode cX12_areJoined 62 = .ok (.getfield 48, 3) := by decide +kernel
theorem dX12_areJoined_65 : decode cX12_areJoined 65 = .ok (.iload 6, 2) := by decide +kernel
theorem dX12_areJoined_67 : decode cX12_areJoined 67 = .ok (.iaload, 1) := by decide +kernel
theorem dX12_areJoined_68 : decode cX12_areJoined 68 = .ok (.iadd, 1) := by decide +kernel
theorem dX12_areJoined_69 : decode cX12_areJoined 69 = .ok (.iaload, 1) := by decide +kernel
theorem dX12_areJoined_70 : decode cX12_areJoined 70 = .ok (.ishl, 1) := by decide +kernel
theorem dX12_areJoined_71 : decode cX12_areJoined 71 = .ok (.ior, 1) := by decide +kernel
theorem dX12_areJoined_72 : decode cX12_areJoined 72 = .ok (.istore 7, 2) := by decide +kernel
theorem dX12_areJoined_74 : decode cX12_areJoined 74 = .ok (.iload 4, 2) := by decide +kernel
theorem dX12_areJoined_76 : decode cX12_areJoined 76 = .ok (.iload_n 2, 1) := by decide +kernel
theorem dX12_areJoined_77 : decode cX12_areJoined 77 = .ok (.iload 6, 2) := by decide +kernel
theorem dX12_areJoined_79 : decode cX12_areJoined 79 = .ok (.ishr, 1) := by decide +kernel
theorem dX12_areJoined_80 : decode cX12_areJoined 80 = .ok (.iconst 1, 1) := by decide +kernel
theorem dX12_areJoined_81 : decode cX12_areJoined 81 = .ok (.iand, 1) := by decide +kernel
theorem dX12_areJoined_82 : decode cX12_areJoined 82 = .ok (.iconst 1, 1) := by decide +kernel
theorem dX12_areJoined_83 : decode cX12_areJoined 83 = .ok (.if_icmp .ne 16, 3) := by decide +kernel
theorem dX12_areJoined_86 : decode cX12_areJoined 86 = .ok (.iload 4, 2) := by decide +kernel
theorem dX12_areJoined_88 : decode cX12_areJoined 88 = .ok (.iload 7, 2) := by decide +kernel
theorem dX12_areJoined_90 : decode cX12_areJoined 90 = .ok (.iand, 1) := by decide +kernel
theorem dX12_areJoined_91 : decode cX12_areJoined 91 = .ok (.ifCond .eq 8, 3) := by decide +kernel
theorem dX12_areJoined_94 : decode cX12_areJoined 94 = .ok (.iload 7, 2) := by decide +kernel
theorem dX12_areJoined_96 : decode cX12_areJoined 96 = .ok (.goto 4, 3) := by decide +kernel
theorem dX12_areJoined_99 : decode cX12_areJoined 99 = .ok (.iconst 0, 1) := by decide +kernel
theorem dX12_areJoined_100 : decode cX12_areJoined 100 = .ok (.ior, 1) := by decide +kernel
theorem dX12_areJoined_101 : decode cX12_areJoined 101 = .ok (.istore 4, 2) := by decide +kernel
theorem dX12_areJoined_103 : decode cX12_areJoined 103 = .ok (.iinc 6 1, 3) := by decide +kernel
theorem dX12_areJoined_106 : decode cX12_areJoined 106 = .ok (.goto (-77), 3) := by decide +kernel
theorem dX12_areJoined_109 : decode cX12_areJoined 109 = .ok (.iinc 5 1, 3) := by decide +kernel
theorem dX12_areJoined_112 : decode cX12_areJoined 112 = .ok (.goto (-93), 3) := by decide +kernel
theorem dX12_areJoined_115 : decode cX12_areJoined 115 = .ok (.iload_n 1, 1) := by decide +kernel
theorem dX12_areJoined_116 : decode cX12_areJoined 116 = .ok (.iload 4, 2) := by decide +kernel
theorem dX12_areJoined_118 : decode cX12_areJoined 118 = .ok (.iconst (-1), 1) := by decide +kernel
theorem dX12_areJoined_119 : decode cX12_areJoined 119 = .ok (.ixor, 1) := by decide +kernel
theorem dX12_areJoined_120 : decode cX12_areJoined 120 = .ok (.iand, 1) := by decide +kernel
theorem dX12_areJoined_121 : decode cX12_areJoined 121 = .ok (.ifCond .ne 7, 3) := by decide +kernel
theorem dX12_areJoined_124 : decode cX12_areJoined 124 = .ok (.iconst 1, 1) := by decide +kernel
theorem dX12_areJoined_125 : decode cX12_areJoined 125 = .ok (.goto 4, 3) := by decide +kernel
theorem dX12_areJoined_128 : decode cX12_areJoined 128 = .ok (.iconst 0, 1) := by decide +kernel
theorem dX12_areJoined_129 : decode cX12_areJoined 129 = .ok (.ireturn, 1) := by decide +kernel
theorem cm_X12_areJoined : CM yX12_areJoined cX12_areJoined 8 (some .boolean) 3 12 := ⟨w_1859, w_85, w_1860, w_97, ⟨by decide +kernel, by decide +kernel, by decide +kernel⟩, ⟨_, _, rfl⟩, by decide⟩
noncomputable def f_X12_areJoined_129 (n : Nat)  (s0 : Int) (h : MM) : RR :=
  ck (isb s0) <|
  some (s0, h)
noncomputable def f_X12_areJoined_100 (n : Nat) (rec19 : Int → Int → MM → RR) (rec29 : Int → Int → MM → RR) (v0 v1 v2 v3 v5 v6 s0 s1 : Int) (h : MM) : RR :=
  lb (bor s0 s1) fun x1 =>
  lb (wr (v6 + 1)) fun x2 =>
  rec29 x1 x2 h
noncomputable def f_X12_areJoined_99 (n : Nat) (rec19 : Int → Int → MM → RR) (rec29 : Int → Int → MM → RR) (v0 v1 v2 v3 v5 v6 s0 : Int) (h : MM) : RR :=
  f_X12_areJoined_100 n rec19 rec29 v0 v1 v2 v3 v5 v6 s0 0 h
noncomputable def f_X12_areJoined_29b (n : Nat) (rec19 : Int → Int → MM → RR) (rec29 : Int → Int → MM → RR) (v0 v1 v2 v3 v4 v5 v6 : Int) (h : MM) : RR :=
  if v3 ≤ v6 then
    lb (wr (v5 + 1)) fun x2 =>
    rec19 v4 x2 h
  else
  gf h v0 12 1 fun r3 =>
  gf h v0 12 19 fun r4 =>
  rd h r4 100 v6 fun r5 =>
  rd h r3 100 (wr (550 + r5)) fun r6 =>
  gf h v0 12 1 fun r7 =>
  gf h v0 12 19 fun r8 =>
  rd h r8 100 v6 fun r9 =>
  rd h r7 100 (wr (610 + r9)) fun r10 =>
  lb (bor (shl 1 r6) (shl 1 r10)) fun x11 =>
  if ban (shr v2 v6) 1 = 1 then
    if ban v4 x11 = 0 then
      f_X12_areJoined_99 n rec19 rec29 v0 v1 v2 v3 v5 v6 v4 h
    else
    f_X12_areJoined_100 n rec19 rec29 v0 v1 v2 v3 v5 v6 v4 x11 h
  else
  f_X12_areJoined_99 n rec19 rec29 v0 v1 v2 v3 v5 v6 v4 h
noncomputable def f_X12_areJoined_29 (n : Nat) (rec19 : Int → Int → MM → RR) (v0 v1 v2 v3 v5 : Int) : Nat → Int → Int → MM → RR
  | 0, _, _, _ => none
  | k + 1, v4, v6, h => f_X12_areJoined_29b n rec19 (f_X12_areJoined_29 n rec19 v0 v1 v2 v3 v5 k) v0 v1 v2 v3 v4 v5 v6 h
noncomputable def f_X12_areJoined_19b (n : Nat) (rec19 : Int → Int → MM → RR) (v0 v1 v2 v3 v4 v5 : Int) (h : MM) : RR :=
  if 6 ≤ v5 then
    if ban v1 (bxo v4 ((-1))) = 0 then
      f_X12_areJoined_129 n 1 h
    else
    f_X12_areJoined_129 n 0 h
  else
  f_X12_areJoined_29 n rec19 v0 v1 v2 v3 v5 n v4 0 h
noncomputable def f_X12_areJoined_19 (n : Nat)  (v0 v1 v2 v3 : Int) : Nat → Int → Int → MM → RR
  | 0, _, _, _ => none
  | k + 1, v4, v5, h => f_X12_areJoined_19b n  (f_X12_areJoined_19 n  v0 v1 v2 v3 k) v0 v1 v2 v3 v4 v5 h
noncomputable def f_X12_areJoined (n : Nat) (v0 v1 v2 v3 : Int) (h : MM) : RR :=
  bd (f_X12_many n v1 h) fun r1 h1 =>
  if 2 ≤ r1 then
    lb (ban v1 (wr (-v1))) fun x3 =>
    f_X12_areJoined_19 n v0 v1 v2 v3 n x3 0 h1
  else
  ck (isb 1) <|
  some (1, h1)
set_option maxRecDepth 20000 in
theorem b_X12_areJoined_129 {g : GT} {Z : Int × MM} {n : Nat} (C : Cx g cX12_areJoined 8 yX12_areJoined 1 22) (hr : Rt g (some .boolean) 0 Z) {s0 : Int}    (cs0 : in32 s0) {h : MM} (hf : f_X12_areJoined_129 n  s0 h = some Z) : G g 129 [(3, 0), (3, 0), (3, 0), (3, 0), (3, 0), (3, 0), (3, 0), (3, 0)] [(0, s0)] h := by
  unfold f_X12_areJoined_129 at hf
  obtain ⟨b1, hf⟩ := ck_s hf
  cases hf
  exact r_zret C hr dX12_areJoined_129 b1
set_option maxRecDepth 20000 in
theorem b_X12_areJoined_100 {g : GT} {Z : Int × MM} {n : Nat} (C : Cx g cX12_areJoined 8 yX12_areJoined 1 22) (hr : Rt g (some .boolean) 0 Z) {v0 v1 v2 v3 v5 v6 s0 s1 : Int}  {rec19 : Int → Int → MM → RR} {rec29 : Int → Int → MM → RR} (L19 : ∀ (u4 u5 : Int) (h : MM), in32 u4 → in32 u5 → rec19 u4 u5 h = some Z → G g 19 [(2, v0), (0, v1), (0, v2), (0, v3), (0, u4), (0, u5), (3, 0), (3, 0)] [] h) (L29 : ∀ (u4 u6 : Int) (h : MM), in32 u4 → in32 u6 → rec29 u4 u6 h = some Z → G g 29 [(2, v0), (0, v1), (0, v2), (0, v3), (0, u4), (0, v5), (0, u6), (3, 0)] [] h) (cv1 : in32 v1) (cv2 : in32 v2) (cv3 : in32 v3) (cv5 : in32 v5) (cv6 : in32 v6) (cs0 : in32 s0) (cs1 : in32 s1) {h : MM} (hf : f_X12_areJoined_100 n rec19 rec29 v0 v1 v2 v3 v5 v6 s0 s1 h = some Z) : G g 100 [(2, v0), (0, v1), (0, v2), (0, v3), (3, 0), (0, v5), (0, v6), (3, 0)] [(0, s1), (0, s0)] h := by
  unfold f_X12_areJoined_100 at hf
  refine r_ior C dX12_areJoined_100 ?_
  obtain ⟨x1, e1, hf⟩ := lb_s hf
  have c1 : in32 x1 := by rw [e1]; exact (in32_t _)
  refine r_istoreL C dX12_areJoined_101 e1 (Nat.le_of_ble_eq_true rfl) rfl ?_
  obtain ⟨x2, e2, hf⟩ := lb_s hf
  have c2 : in32 x2 := by rw [e2]; exact (in32_t _)
  refine r_iincL C dX12_areJoined_103 rfl e2 (Nat.le_of_ble_eq_true rfl) rfl ?_
  refine r_goto C dX12_areJoined_106 (tgt := 29) (by decide) ?_
  exact G.mask [true, true, true, true, true, true, true, false] rfl rfl (L29 _ _ _ c1 c2 hf)
set_option maxRecDepth 20000 in
theorem b_X12_areJoined_99 {g : GT} {Z : Int × MM} {n : Nat} (C : Cx g cX12_areJoined 8 yX12_areJoined 1 22) (hr : Rt g (some .boolean) 0 Z) {v0 v1 v2 v3 v5 v6 s0 : Int}  {rec19 : Int → Int → MM → RR} {rec29 : Int → Int → MM → RR} (L19 : ∀ (u4 u5 : Int) (h : MM), in32 u4 → in32 u5 → rec19 u4 u5 h = some Z → G g 19 [(2, v0), (0, v1), (0, v2), (0, v3), (0, u4), (0, u5), (3, 0), (3, 0)] [] h) (L29 : ∀ (u4 u6 : Int) (h : MM), in32 u4 → in32 u6 → rec29 u4 u6 h = some Z → G g 29 [(2, v0), (0, v1), (0, v2), (0, v3), (0, u4), (0, v5), (0, u6), (3, 0)] [] h) (cv1 : in32 v1) (cv2 : in32 v2) (cv3 : in32 v3) (cv5 : in32 v5) (cv6 : in32 v6) (cs0 : in32 s0) {h : MM} (hf : f_X12_areJoined_99 n rec19 rec29 v0 v1 v2 v3 v5 v6 s0 h = some Z) : G g 99 [(2, v0), (0, v1), (0, v2), (0, v3), (3, 0), (0, v5), (0, v6), (3, 0)] [(0, s0)] h := by
  unfold f_X12_areJoined_99 at hf
  refine r_iconst C dX12_areJoined_99 ?_
  exact G.mask [true, true, true, true, false, true, true, false] rfl rfl (b_X12_areJoined_100 C hr L19 L29 cv1 cv2 cv3 cv5 cv6 cs0 (in32_of rfl) hf)
set_option maxRecDepth 20000 in
theorem b_X12_areJoined_29b {g : GT} {Z : Int × MM} {n : Nat} (C : Cx g cX12_areJoined 8 yX12_areJoined 1 22) (hr : Rt g (some .boolean) 0 Z) {v0 v1 v2 v3 v4 v5 v6 : Int}  {rec19 : Int → Int → MM → RR} {rec29 : Int → Int → MM → RR} (L19 : ∀ (u4 u5 : Int) (h : MM), in32 u4 → in32 u5 → rec19 u4 u5 h = some Z → G g 19 [(2, v0), (0, v1), (0, v2), (0, v3), (0, u4), (0, u5), (3, 0), (3, 0)] [] h) (L29 : ∀ (u4 u6 : Int) (h : MM), in32 u4 → in32 u6 → rec29 u4 u6 h = some Z → G g 29 [(2, v0), (0, v1), (0, v2), (0, v3), (0, u4), (0, v5), (0, u6), (3, 0)] [] h) (cv1 : in32 v1) (cv2 : in32 v2) (cv3 : in32 v3) (cv4 : in32 v4) (cv5 : in32 v5) (cv6 : in32 v6) {h : MM} (hf : f_X12_areJoined_29b n rec19 rec29 v0 v1 v2 v3 v4 v5 v6 h = some Z) : G g 29 [(2, v0), (0, v1), (0, v2), (0, v3), (0, v4), (0, v5), (0, v6), (3, 0)] [] h := by
  unfold f_X12_areJoined_29b at hf
  refine r_iload C dX12_areJoined_29 rfl ?_
  refine r_iload_n C dX12_areJoined_31 rfl ?_
  refine r_icmp_ge C dX12_areJoined_32 (tgt := 109) (by decide) cv6 cv3 (fun n1 => ?_) (fun n1 => ?_)
  · have hf := ite_p n1 hf
    obtain ⟨x2, e2, hf⟩ := lb_s hf
    have c2 : in32 x2 := by rw [e2]; exact (in32_t _)
    refine r_iincL C dX12_areJoined_109 rfl e2 (Nat.le_of_ble_eq_true rfl) rfl ?_
    refine r_goto C dX12_areJoined_112 (tgt := 19) (by decide) ?_
    exact G.mask [true, true, true, true, true, true, false, false] rfl rfl (L19 _ _ _ cv4 c2 hf)
  · have hf := ite_n n1 hf
    refine r_iconst C dX12_areJoined_35 ?_
    refine r_aload_n C dX12_areJoined_36 rfl ?_
    obtain ⟨q3, hf⟩ := gf_s hf
    refine r_gf C ct12 (j := 1) (ji := 1) dX12_areJoined_37 q3 rfl rfl (by decide) w_1426 rfl (fun c3 => ?_)
    refine r_sipush C dX12_areJoined_40 rfl ?_
    refine r_aload_n C dX12_areJoined_43 rfl ?_
    obtain ⟨q4, hf⟩ := gf_s hf
    refine r_gf C ct12 (j := 19) (ji := 19) dX12_areJoined_44 q4 rfl rfl (by decide) w_1444 rfl (fun c4 => ?_)
    refine r_iload C dX12_areJoined_47 rfl ?_
    obtain ⟨q5, hf⟩ := rd_s hf
    refine r_iald C dX12_areJoined_49 q5 rfl (fun c5 => ?_)
    refine r_iadd C dX12_areJoined_50 ?_
    obtain ⟨q6, hf⟩ := rd_s hf
    refine r_iald C dX12_areJoined_51 q6 rfl (fun c6 => ?_)
    refine r_ishl C dX12_areJoined_52 ?_
    refine r_iconst C dX12_areJoined_53 ?_
    refine r_aload_n C dX12_areJoined_54 rfl ?_
    obtain ⟨q7, hf⟩ := gf_s hf
    refine r_gf C ct12 (j := 1) (ji := 1) dX12_areJoined_55 q7 rfl rfl (by decide) w_1426 rfl (fun c7 => ?_)
    refine r_sipush C dX12_areJoined_58 rfl ?_
    refine r_aload_n C dX12_areJoined_61 rfl ?_
    obtain ⟨q8, hf⟩ := gf_s hf
    refine r_gf C ct12 (j := 19) (ji := 19) dX12_areJoined_62 q8 rfl rfl (by decide) w_1444 rfl (fun c8 => ?_)
    refine r_iload C dX12_areJoined_65 rfl ?_
    obtain ⟨q9, hf⟩ := rd_s hf
    refine r_iald C dX12_areJoined_67 q9 rfl (fun c9 => ?_)
    refine r_iadd C dX12_areJoined_68 ?_
    obtain ⟨q10, hf⟩ := rd_s hf
    refine r_iald C dX12_areJoined_69 q10 rfl (fun c10 => ?_)
    refine r_ishl C dX12_areJoined_70 ?_
    refine r_ior C dX12_areJoined_71 ?_
    obtain ⟨x11, e11, hf⟩ := lb_s hf
    have c11 : in32 x11 := by rw [e11]; exact (in32_t _)
    refine r_istoreL C dX12_areJoined_72 e11 (Nat.le_of_ble_eq_true rfl) rfl ?_
    refine r_iload C dX12_areJoined_74 rfl ?_
    refine r_iload_n C dX12_areJoined_76 rfl ?_
    refine r_iload C dX12_areJoined_77 rfl ?_
    refine r_ishr C dX12_areJoined_79 ?_
    refine r_iconst C dX12_areJoined_80 ?_
    refine r_iand C dX12_areJoined_81 ?_
    refine r_iconst C dX12_areJoined_82 ?_
    refine r_icmp_ne C dX12_areJoined_83 (tgt := 99) (by decide) (in32_t _) (in32_of rfl) (fun n12 => ?_) (fun n12 => ?_)
    · have hf := ite_n n12 hf
      exact G.mask [true, true, true, true, false, true, true, false] rfl rfl (b_X12_areJoined_99 C hr L19 L29 cv1 cv2 cv3 cv5 cv6 cv4 hf)
    · have hf := ite_p n12 hf
      refine r_iload C dX12_areJoined_86 rfl ?_
      refine r_iload C dX12_areJoined_88 rfl ?_
      refine r_iand C dX12_areJoined_90 ?_
      refine r_if_eq C dX12_areJoined_91 (tgt := 99) (by decide) (in32_t _) (fun n13 => ?_) (fun n13 => ?_)
      · have hf := ite_p n13 hf
        exact G.mask [true, true, true, true, false, true, true, false] rfl rfl (b_X12_areJoined_99 C hr L19 L29 cv1 cv2 cv3 cv5 cv6 cv4 hf)
      · have hf := ite_n n13 hf
        refine r_iload C dX12_areJoined_94 rfl ?_
        refine r_goto C dX12_areJoined_96 (tgt := 100) (by decide) ?_
        exact G.mask [true, true, true, true, false, true, true, false] rfl rfl (b_X12_areJoined_100 C hr L19 L29 cv1 cv2 cv3 cv5 cv6 cv4 c11 hf)
set_option maxRecDepth 20000 in
theorem l_X12_areJoined_29 {g : GT} {Z : Int × MM} {n : Nat} (C : Cx g cX12_areJoined 8 yX12_areJoined 1 22) (hr : Rt g (some .boolean) 0 Z) {v0 v1 v2 v3 v5 : Int} {rec19 : Int → Int → MM → RR} (L19 : ∀ (u4 u5 : Int) (h : MM), in32 u4 → in32 u5 → rec19 u4 u5 h = some Z → G g 19 [(2, v0), (0, v1), (0, v2), (0, v3), (0, u4), (0, u5), (3, 0), (3, 0)] [] h) (cv1 : in32 v1) (cv2 : in32 v2) (cv3 : in32 v3) (cv5 : in32 v5) : ∀ (k : Nat) (v4 v6 : Int) (h : MM), in32 v4 → in32 v6 → f_X12_areJoined_29 n rec19 v0 v1 v2 v3 v5 k v4 v6 h = some Z → G g 29 [(2, v0), (0, v1), (0, v2), (0, v3), (0, v4), (0, v5), (0, v6), (3, 0)] [] h := by
  intro k
  induction k with
  | zero => intro v4 v6 h cv4 cv6 hf; exact absurd hf (by intro z; cases z)
  | succ k ih => intro v4 v6 h cv4 cv6 hf; exact b_X12_areJoined_29b C hr (rec29 := f_X12_areJoined_29 n rec19 v0 v1 v2 v3 v5 k) L19 ih cv1 cv2 cv3 cv4 cv5 cv6 (show f_X12_areJoined_29b n rec19 (f_X12_areJoined_29 n rec19 v0 v1 v2 v3 v5 k) v0 v1 v2 v3 v4 v5 v6 h = some Z from hf)
set_option maxRecDepth 20000 in
theorem b_X12_areJoined_19b {g : GT} {Z : Int × MM} {n : Nat} (C : Cx g cX12_areJoined 8 yX12_areJoined 1 22) (hr : Rt g (some .boolean) 0 Z) {v0 v1 v2 v3 v4 v5 : Int}  {rec19 : Int → Int → MM → RR} (L19 : ∀ (u4 u5 : Int) (h : MM), in32 u4 → in32 u5 → rec19 u4 u5 h = some Z → G g 19 [(2, v0), (0, v1), (0, v2), (0, v3), (0, u4), (0, u5), (3, 0), (3, 0)] [] h) (cv1 : in32 v1) (cv2 : in32 v2) (cv3 : in32 v3) (cv4 : in32 v4) (cv5 : in32 v5) {h : MM} (hf : f_X12_areJoined_19b n rec19 v0 v1 v2 v3 v4 v5 h = some Z) : G g 19 [(2, v0), (0, v1), (0, v2), (0, v3), (0, v4), (0, v5), (3, 0), (3, 0)] [] h := by
  unfold f_X12_areJoined_19b at hf
  refine r_iload C dX12_areJoined_19 rfl ?_
  refine r_bipush C dX12_areJoined_21 rfl ?_
  refine r_icmp_ge C dX12_areJoined_23 (tgt := 115) (by decide) cv5 (in32_of rfl) (fun n1 => ?_) (fun n1 => ?_)
  · have hf := ite_p n1 hf
    refine r_iload_n C dX12_areJoined_115 rfl ?_
    refine r_iload C dX12_areJoined_116 rfl ?_
    refine r_iconst C dX12_areJoined_118 ?_
    refine r_ixor C dX12_areJoined_119 ?_
    refine r_iand C dX12_areJoined_120 ?_
    refine r_if_ne C dX12_areJoined_121 (tgt := 128) (by decide) (in32_t _) (fun n2 => ?_) (fun n2 => ?_)
    · have hf := ite_n n2 hf
      refine r_iconst C dX12_areJoined_128 ?_
      exact G.mask [false, false, false, false, false, false, false, false] rfl rfl (b_X12_areJoined_129 C hr  (in32_of rfl) hf)
    · have hf := ite_p n2 hf
      refine r_iconst C dX12_areJoined_124 ?_
      refine r_goto C dX12_areJoined_125 (tgt := 129) (by decide) ?_
      exact G.mask [false, false, false, false, false, false, false, false] rfl rfl (b_X12_areJoined_129 C hr  (in32_of rfl) hf)
  · have hf := ite_n n1 hf
    refine r_iconst C dX12_areJoined_26 ?_
    refine r_istore C dX12_areJoined_27 (Nat.le_of_ble_eq_true rfl) rfl ?_
    exact G.mask [true, true, true, true, true, true, true, false] rfl rfl (l_X12_areJoined_29 C hr L19 cv1 cv2 cv3 cv5 _ _ _ _ cv4 (in32_of rfl) hf)
set_option maxRecDepth 20000 in
theorem l_X12_areJoined_19 {g : GT} {Z : Int × MM} {n : Nat} (C : Cx g cX12_areJoined 8 yX12_areJoined 1 22) (hr : Rt g (some .boolean) 0 Z) {v0 v1 v2 v3 : Int}   (cv1 : in32 v1) (cv2 : in32 v2) (cv3 : in32 v3) : ∀ (k : Nat) (v4 v5 : Int) (h : MM), in32 v4 → in32 v5 → f_X12_areJoined_19 n  v0 v1 v2 v3 k v4 v5 h = some Z → G g 19 [(2, v0), (0, v1), (0, v2), (0, v3), (0, v4), (0, v5), (3, 0), (3, 0)] [] h := by
  intro k
  induction k with
  | zero => intro v4 v5 h cv4 cv5 hf; exact absurd hf (by intro z; cases z)
  | succ k ih => intro v4 v5 h cv4 cv5 hf; exact b_X12_areJoined_19b C hr (rec19 := f_X12_areJoined_19 n  v0 v1 v2 v3 k)  ih cv1 cv2 cv3 cv4 cv5 (show f_X12_areJoined_19b n  (f_X12_areJoined_19 n  v0 v1 v2 v3 k) v0 v1 v2 v3 v4 v5 h = some Z from hf)
set_option maxRecDepth 20000 in
theorem e_X12_areJoined {g : GT} {Z : Int × MM} {n : Nat} (C : Cx g cX12_areJoined 8 yX12_areJoined 1 22) (hr : Rt g (some .boolean) 0 Z) {v0 v1 v2 v3 : Int} (cv0 : cK 2 v0) (cv1 : cK 0 v1) (cv2 : cK 0 v2) (cv3 : cK 0 v3) {h : MM} (hf : f_X12_areJoined n v0 v1 v2 v3 h = some Z) : G g 0 [(2, v0), (0, v1), (0, v2), (0, v3), (3, 0), (3, 0), (3, 0), (3, 0)] [] h := by
  have cv1 : in32 v1 := cv1
  have cv2 : in32 v2 := cv2
  have cv3 : in32 v3 := cv3
  unfold f_X12_areJoined at hf
  refine r_iload_n C dX12_areJoined_0 rfl ?_
  obtain ⟨r1, h1, hq1, hf⟩ := bd_s hf
  refine r_cS1 C (am_X12_many (gl g) n) cm_X12_many w_1861 dX12_areJoined_1 ⟨Nat.le_of_ble_eq_true rfl, Nat.le_of_ble_eq_true rfl⟩ cv1 rfl (Nat.le_of_ble_eq_true rfl) hq1 (by decide) (fun c1 => ?_)
  have c1 : in32 _ := c1
  refine r_iconst C dX12_areJoined_4 ?_
  refine r_icmp_ge C dX12_areJoined_5 (tgt := 10) (by decide) c1 (in32_of rfl) (fun n2 => ?_) (fun n2 => ?_)
  · have hf := ite_p n2 hf
    refine r_iload_n C dX12_areJoined_10 rfl ?_
    refine r_iload_n C dX12_areJoined_11 rfl ?_
    refine r_ineg C dX12_areJoined_12 ?_
    refine r_iand C dX12_areJoined_13 ?_
    obtain ⟨x3, e3, hf⟩ := lb_s hf
    have c3 : in32 x3 := by rw [e3]; exact (in32_t _)
    refine r_istoreL C dX12_areJoined_14 e3 (Nat.le_of_ble_eq_true rfl) rfl ?_
    refine r_iconst C dX12_areJoined_16 ?_
    refine r_istore C dX12_areJoined_17 (Nat.le_of_ble_eq_true rfl) rfl ?_
    exact G.mask [true, true, true, true, true, true, false, false] rfl rfl (l_X12_areJoined_19 C hr  cv1 cv2 cv3 _ _ _ _ c3 (in32_of rfl) hf)
  · have hf := ite_n n2 hf
    refine r_iconst C dX12_areJoined_8 ?_
    obtain ⟨b4, hf⟩ := ck_s hf
    cases hf
    exact r_zret C hr dX12_areJoined_9 b4
set_option maxRecDepth 20000 in
theorem am_X12_areJoined (l : Launch) (n : Nat) : AM l yX12_areJoined cX12_areJoined 8 (some .boolean) 1 22 [2, 0, 0, 0] 0 (un4 (f_X12_areJoined n)) := by
  refine AM.intro (by decide) (fun xs hx => ?_) (fun g xs h Z hl C hr hx hf => ?_)
  · obtain ⟨a0, a1, a2, a3, rfl, c0, c1, c2, c3⟩ := canL_4 hx
    exact Nat.le_of_ble_eq_true rfl
  · obtain ⟨a0, a1, a2, a3, rfl, c0, c1, c2, c3⟩ := canL_4 hx
    have hf := (un4_e _ a0 a1 a2 a3 _).symm.trans hf
    exact e_X12_areJoined (n := n) C hr c0 c1 c2 c3 hf
/-! LinesPromisedModel.gauge(I)I -/
theorem dX12_gauge_0 : decode cX12_gauge 0 = .ok (.iload_n 1, 1) := by decide +kernel
theorem dX12_gauge_1 : decode cX12_gauge 1 = .ok (.iconst 0, 1) := by decide +kernel
theorem dX12_gauge_2 : decode cX12_gauge 2 = .ok (.iconst 1, 1) := by decide +kernel
theorem dX12_gauge_3 : decode cX12_gauge 3 = .ok (.aload_n 0, 1) := by decide +kernel
theorem dX12_gauge_4 : decode cX12_gauge 4 = .ok (.getfield 8, 3) := by decide +kernel
theorem dX12_gauge_7 : decode cX12_gauge 7 = .ok (.iconst 1, 1) := by decide +kernel
theorem dX12_gauge_8 : decode cX12_gauge 8 = .ok (.iaload, 1) := by decide +kernel
theorem dX12_gauge_9 : decode cX12_gauge 9 = .ok (.ishl, 1) := by decide +kernel
theorem dX12_gauge_10 : decode cX12_gauge 10 = .ok (.iconst 1, 1) := by decide +kernel
theorem dX12_gauge_11 : decode cX12_gauge 11 = .ok (.isub, 1) := by decide +kernel
theorem dX12_gauge_12 : decode cX12_gauge 12 = .ok (.invokestatic 58, 3) := by decide +kernel
theorem dX12_gauge_15 : decode cX12_gauge 15 = .ok (.ifCond .ne 6, 3) := by decide +kernel
theorem dX12_gauge_18 : decode cX12_gauge 18 = .ok (.bipush (-2), 2) := by decide +kernel
theorem dX12_gauge_20 : decode cX12_gauge 20 = .ok (.ireturn, 1) := by decide +kernel
theorem dX12_gauge_21 : decode cX12_gauge 21 = .ok (.iconst 0, 1) := by decide +kernel
theorem dX12_gauge_22 : decode cX12_gauge 22 = .ok (.istore_n 2, 1) := by decide +kernel
theorem dX12_gauge_23 : decode cX12_gauge 23 = .ok (.iconst 0, 1) := by decide +kernel
theorem dX12_gauge_24 : decode cX12_gauge 24 = .ok (.istore_n 3, 1) := by decide +kernel
theorem dX12_gauge_25 : decode cX12_gauge 25 = .ok (.iconst 0, 1) := by decide +kernel
theorem dX12_gauge_26 : decode cX12_gauge 26 = .ok (.istore 4, 2) := by decide +kernel
theorem dX12_gauge_28 : decode cX12_gauge 28 = .ok (.iload 4, 2) := by decide +kernel
theorem dX12_gauge_30 : decode cX12_gauge 30 = .ok (.aload_n 0, 1) := by decide +kernel
theorem dX12_gauge_31 : decode cX12_gauge 31 = .ok (.getfield 8, 3) := by decide +kernel
theorem dX12_gauge_34 : decode cX12_gauge 34 = .ok (.iconst 2, 1) := by decide +kernel
theorem dX12_gauge_35 : decode cX12_gauge 35 = .ok (.iaload, 1) := by decide +kernel
theorem dX12_gauge_36 : decode cX12_gauge 36 = .ok (.if_icmp .ge 55, 3) := by decide +kernel
theorem dX12_gauge_39 : decode cX12_gauge 39 = .ok (.aload_n 0, 1) := by decide +kernel
theorem dX12_gauge_40 : decode cX12_gauge 40 = .ok (.iload 4, 2) := by decide +kernel
theorem dX12_gauge_42 : decode cX12_gauge 42 = .ok (.invokevirtual 219, 3) := by decide +kernel
theorem dX12_gauge_45 : decode cX12_gauge 45 = .ok (.ifCond .eq 40, 3) := by decide +kernel
theorem dX12_gauge_48 : decode cX12_gauge 48 = .ok (.aload_n 0, 1) := by decide +kernel
theorem dX12_gauge_49 : decode cX12_gauge 49 = .ok (.getfield 48, 3) := by decide +kernel
theorem dX12_gauge_52 : decode cX12_gauge 52 = .ok (.iload_n 2, 1) := by decide +kernel
theorem dX12_gauge_53 : decode cX12_gauge 53 = .ok (.iload 4, 2) := by decide +kernel
theorem dX12_gauge_55 : decode cX12_gauge 55 = .ok (.iastore, 1) := by decide +kernel
theorem dX12_gauge_56 : decode cX12_gauge 56 = .ok (.iload_n 3, 1) := by decide +kernel
theorem dX12_gauge_57 : decode cX12_gauge 57 = .ok (.iload_n 2, 1) := by decide +kernel
theorem dX12_gauge_58 : decode cX12_gauge 58 = .ok (.bipush 10, 2) := by decide +kernel
theorem dX12_gauge_60 : decode cX12_gauge 60 = .ok (.if_icmp .ge 19, 3) := by decide +kernel
theorem dX12_gauge_63 : decode cX12_gauge 63 = .ok (.aload_n 0, 1) := by decide +kernel
theorem dX12_gauge_64 : decode cX12_gauge 64 = .ok (.getfield 8, 3) := by decide +kernel
theorem dX12_gauge_67 : decode cX12_gauge 67 = .ok (.sipush 670, 3) := by decide +kernel
theorem dX12_gauge_70 : decode cX12_gauge 70 = .ok (.iload 4, 2) := by decide +kernel
theorem dX12_gauge_72 : decode cX12_gauge 72 = .ok (.iadd, 1) := by decide +kernel
theorem dX12_gauge_73 : decode cX12_gauge 73 = .ok (.iaload, 1) := by decide +kernel
theorem dX12_gauge_74 : decode cX12_gauge 74 = .ok (.iload_n 2, 1) := by decide +kernel
theorem dX12_gauge_75 : decode cX12_gauge 75 = .ok (.ishl, 1) := by decide +kernel
theorem dX12_gauge_76 : decode cX12_gauge 76 = .ok (.goto 4, 3) := by decide +kernel
theorem dX12_gauge_79 : decode cX12_gauge 79 = .ok (.iconst 0, 1) := by decide +kernel
theorem dX12_gauge_80 : decode cX12_gauge 80 = .ok (.ior, 1) := by decide +kernel
theorem dX12_gauge_81 : decode cX12_gauge 81 = .ok (.istore_n 3, 1) := by decide +kernel
theorem dX12_gauge_82 : decode cX12_gauge 82 = .ok (.iinc 2 1, 3) := by decide +kernel
theorem dX12_gauge_85 : decode cX12_gauge 85 = .ok (.iinc 4 1, 3) := by decide +kernel
theorem dX12_gauge_88 : decode cX12_gauge 88 = .ok (.goto (-60), 3) := by decide +kernel
theorem dX12_gauge_91 : decode cX12_gauge 91 = .ok (.iload_n 2, 1) := by decide +kernel
theorem dX12_gauge_92 : decode cX12_gauge 92 = .ok (.bipush 10, 2) := by decide +kernel
theorem dX12_gauge_94 : decode cX12_gauge 94 = .ok (.if_icmp .le 6, 3) := by decide +kernel
theorem dX12_gauge_97 : decode cX12_gauge 97 = .ok (.bipush (-9), 2) := by decide +kernel
theorem dX12_gauge_99 : decode cX12_gauge 99 = .ok (.ireturn, 1) := by decide +kernel
theorem dX12_gauge_100 : decode cX12_gauge 100 = .ok (.bipush (-5), 2) := by decide +kernel
theorem dX12_gauge_102 : decode cX12_gauge 102 = .ok (.istore 4, 2) := by decide +kernel
theorem dX12_gauge_104 : decode cX12_gauge 104 = .ok (.iconst 0, 1) := by decide +kernel
theorem dX12_gauge_105 : decode cX12_gauge 105 = .ok (.istore 5, 2) := by decide +kernel
theorem dX12_gauge_107 : decode cX12_gauge 107 = .ok (.iload 5, 2) := by decide +kernel
theorem dX12_gauge_109 : decode cX12_gauge 109 = .ok (.iconst 1, 1) := by decide +kernel
theorem dX12_gauge_110 : decode cX12_gauge 110 = .ok (.iload_n 2, 1) := by decide +kernel
theorem dX12_gauge_111 : decode cX12_gauge 111 = .ok (.ishl, 1) := by decide +kernel
theorem dX12_gauge_112 : decode cX12_gauge 112 = .ok (.if_icmp .ge 80, 3) := by decide +kernel
theorem dX12_gauge_115 : decode cX12_gauge 115 = .ok (.iload_n 3, 1) := by decide +kernel
theorem dX12_gauge_116 : decode cX12_gauge 116 = .ok (.iload 5, 2) := by decide +kernel
theorem dX12_gauge_118 : decode cX12_gauge 118 = .ok (.ixor, 1) := by decide +kernel
theorem dX12_gauge_119 : decode cX12_gauge 119 = .ok (.istore 6, 2) := by decide +kernel
theorem dX12_gauge_121 : decode cX12_gauge 121 = .ok (.aload_n 0, 1) := by decide +kernel
theorem dX12_gauge_122 : decode cX12_gauge 122 = .ok (.iload_n 1, 1) := by decide +kernel
theorem dX12_gauge_123 : decode cX12_gauge 123 = .ok (.iload 6, 2) := by decide +kernel
theorem dX12_gauge_125 : decode cX12_gauge 125 = .ok (.iload_n 2, 1) := by decide +kernel
theorem dX12_gauge_126 : decode cX12_gauge 126 = .ok (.invokevirtual 272, 3) := by decide +kernel
theorem dX12_gauge_129 : decode cX12_gauge 129 = .ok (.ifCond .ne 16, 3) := by decide +kernel
theorem dX12_gauge_132 : decode cX12_gauge 132 = .ok (.aload_n 0, 1) := by decide +kernel
theorem dX12_gauge_133 : decode cX12_gauge 133 = .ok (.iload_n 1, 1) := by decide +kernel
theorem dX12_gauge_134 : decode cX12_gauge 134 = .ok (.iload 6, 2) := by decide +kernel
theorem dX12_gauge_136 : decode cX12_gauge 136 = .ok (.iconst (-1), 1) := by decide +kernel
theorem dX12_gauge_137 : decode cX12_gauge 137 = .ok (.ixor, 1) := by decide +kernel
theorem dX12_gauge_138 : decode cX12_gauge 138 = .ok (.iload_n 2, 1) := by decide +kernel
theorem dX12_gauge_139 : decode cX12_gauge 139 = .ok (.invokevirtual 272, 3) := by decide +kernel
theorem dX12_gauge_142 : decode cX12_gauge 142 = .ok (.ifCond .eq 7, 3) := by decide +kernel
theorem dX12_gauge_145 : decode cX12_gauge 145 = .ok (.iconst 1, 1) := by decide +kernel
theorem dX12_gauge_146 : decode cX12_gauge 146 = .ok (.goto 4, 3) := by decide +kernel
theorem dX12_gauge_149 : decode cX12_gauge 149 = .ok (.iconst 0, 1) := by decide +kernel
theorem dX12_gauge_150 : decode cX12_gauge 150 = .ok (.istore 7, 2) := by decide +kernel
theorem dX12_gauge_152 : decode cX12_gauge 152 = .ok (.iload 7, 2) := by decide +kernel
theorem dX12_gauge_154 : decode cX12_gauge 154 = .ok (.ifCond .eq 28, 3) := by decide +kernel
theorem dX12_gauge_157 : decode cX12_gauge 157 = .ok (.iload 4, 2) := by decide +kernel
theorem dX12_gauge_159 : decode cX12_gauge 159 = .ok (.bipush (-5), 2) := by decide +kernel
theorem dX12_gauge_161 : decode cX12_gauge 161 = .ok (.if_icmp .eq 16, 3) := by decide +kernel
theorem dX12_gauge_164 : decode cX12_gauge 164 = .ok (.iload 5, 2) := by decide +kernel
theorem dX12_gauge_166 : decode cX12_gauge 166 = .ok (.invokestatic 269, 3) := by decide +kernel
theorem dX12_gauge_169 : decode cX12_gauge 169 = .ok (.iload 4, 2) := by decide +kernel
theorem dX12_gauge_171 : decode cX12_gauge 171 = .ok (.invokestatic 269, 3) := by decide +kernel
theorem dX12_gauge_174 : decode cX12_gauge 174 = .ok (.if_icmp .ge 8, 3) := by decide +kernel
theorem dX12_gauge_177 : decode cX12_gauge 177 = .ok (.iload 5, 2) := by decide +kernel
theorem dX12_gauge_179 : decode cX12_gauge 179 = .ok (.goto 5, 3) := by decide +kernel
theorem dX12_gauge_182 : decode cX12_gauge 182 = .ok (.iload 4, 2) := by decide +kernel
theorem dX12_gauge_184 : decode cX12_gauge 184 = .ok (.istore 4, 2) := by decide +kernel
theorem dX12_gauge_186 : decode cX12_gauge 186 = .ok (.iinc 5 1, 3) := by decide +kernel
theorem dX12_gauge_189 : decode cX12_gauge 189 = .ok (.goto (-82), 3) := by decide +kernel
theorem dX12_gauge_192 : decode cX12_gauge 192 = .ok (.iload 4, 2) := by decide +kernel
theorem dX12_gauge_194 : decode cX12_gauge 194 = .ok (.ireturn, 1) := by decide +kernel
theorem cm_X12_gauge : CM yX12_gauge cX12_gauge 8 (some .int) 1 12 := ⟨w_1854, w_1855, w_1856, w_97, ⟨by decide +kernel, by decide +kernel, by decide +kernel⟩, ⟨_, _, rfl⟩, by decide⟩
noncomputable def f_X12_gauge_184 (n : Nat) (rec107 : Int → Int → MM → RR) (v0 v1 v2 v3 v5 s0 : Int) (h : MM) : RR :=
  lb (wr (v5 + 1)) fun x1 =>
  rec107 s0 x1 h
noncomputable def f_X12_gauge_182 (n : Nat) (rec107 : Int → Int → MM → RR) (v0 v1 v2 v3 v4 v5 : Int) (h : MM) : RR :=
  f_X12_gauge_184 n rec107 v0 v1 v2 v3 v5 v4 h
noncomputable def f_X12_gauge_177 (n : Nat) (rec107 : Int → Int → MM → RR) (v0 v1 v2 v3 v5 : Int) (h : MM) : RR :=
  f_X12_gauge_184 n rec107 v0 v1 v2 v3 v5 v5 h
noncomputable def f_X12_gauge_150 (n : Nat) (rec107 : Int → Int → MM → RR) (v0 v1 v2 v3 v4 v5 s0 : Int) (h : MM) : RR :=
  if s0 = 0 then
    f_X12_gauge_182 n rec107 v0 v1 v2 v3 v4 v5 h
  else
  if v4 = (-5) then
    f_X12_gauge_177 n rec107 v0 v1 v2 v3 v5 h
  else
  bd (f_X12_many n v5 h) fun r3 h3 =>
  bd (f_X12_many n v4 h3) fun r4 h4 =>
  if r4 ≤ r3 then
    f_X12_gauge_182 n rec107 v0 v1 v2 v3 v4 v5 h4
  else
  f_X12_gauge_177 n rec107 v0 v1 v2 v3 v5 h4
noncomputable def f_X12_gauge_145 (n : Nat) (rec107 : Int → Int → MM → RR) (v0 v1 v2 v3 v4 v5 : Int) (h : MM) : RR :=
  f_X12_gauge_150 n rec107 v0 v1 v2 v3 v4 v5 1 h
noncomputable def f_X12_gauge_107b (n : Nat) (rec107 : Int → Int → MM → RR) (v0 v1 v2 v3 v4 v5 : Int) (h : MM) : RR :=
  if shl 1 v2 ≤ v5 then
    some (v4, h)
  else
  lb (bxo v3 v5) fun x2 =>
  gk h v0 12 <|
  bd (f_X12_areJoined n v0 v1 x2 v2 h) fun r3 h3 =>
  if r3 = 0 then
    gk h3 v0 12 <|
    bd (f_X12_areJoined n v0 v1 (bxo x2 ((-1))) v2 h3) fun r5 h5 =>
    if r5 = 0 then
      f_X12_gauge_150 n rec107 v0 v1 v2 v3 v4 v5 0 h5
    else
    f_X12_gauge_145 n rec107 v0 v1 v2 v3 v4 v5 h5
  else
  f_X12_gauge_145 n rec107 v0 v1 v2 v3 v4 v5 h3
noncomputable def f_X12_gauge_107 (n : Nat)  (v0 v1 v2 v3 : Int) : Nat → Int → Int → MM → RR
  | 0, _, _, _ => none
  | k + 1, v4, v5, h => f_X12_gauge_107b n  (f_X12_gauge_107 n  v0 v1 v2 v3 k) v0 v1 v2 v3 v4 v5 h
noncomputable def f_X12_gauge_85 (n : Nat) (rec28 : Int → Int → Int → MM → RR) (v0 v1 v2 v3 v4 : Int) (h : MM) : RR :=
  lb (wr (v4 + 1)) fun x1 =>
  rec28 v2 v3 x1 h
noncomputable def f_X12_gauge_80 (n : Nat) (rec28 : Int → Int → Int → MM → RR) (v0 v1 v2 v4 s0 s1 : Int) (h : MM) : RR :=
  lb (bor s0 s1) fun x1 =>
  lb (wr (v2 + 1)) fun x2 =>
  f_X12_gauge_85 n rec28 v0 v1 x2 x1 v4 h
noncomputable def f_X12_gauge_28b (n : Nat) (rec28 : Int → Int → Int → MM → RR) (v0 v1 v2 v3 v4 : Int) (h : MM) : RR :=
  gf h v0 12 1 fun r1 =>
  rd h r1 100 2 fun r2 =>
  if r2 ≤ v4 then
    if v2 ≤ 10 then
      f_X12_gauge_107 n v0 v1 v2 v3 n ((-5)) 0 h
    else
    some ((-9), h)
  else
  gk h v0 12 <|
  bd (f_X12_isGranted n v0 v4 h) fun r5 h5 =>
  if r5 = 0 then
    f_X12_gauge_85 n rec28 v0 v1 v2 v3 v4 h5
  else
  gf h5 v0 12 19 fun r7 =>
  wt h5 r7 100 v2 v4 fun h8 =>
  if 10 ≤ v2 then
    f_X12_gauge_80 n rec28 v0 v1 v2 v4 v3 0 h8
  else
  gf h8 v0 12 1 fun r10 =>
  rd h8 r10 100 (wr (670 + v4)) fun r11 =>
  f_X12_gauge_80 n rec28 v0 v1 v2 v4 v3 (shl r11 v2) h8
noncomputable def f_X12_gauge_28 (n : Nat)  (v0 v1 : Int) : Nat → Int → Int → Int → MM → RR
  | 0, _, _, _, _ => none
  | k + 1, v2, v3, v4, h => f_X12_gauge_28b n  (f_X12_gauge_28 n  v0 v1 k) v0 v1 v2 v3 v4 h
noncomputable def f_X12_gauge (n : Nat) (v0 v1 : Int) (h : MM) : RR :=
  gf h v0 12 1 fun r1 =>
  rd h r1 100 1 fun r2 =>
  bd (f_X12_in n v1 0 (wr ((shl 1 r2) - 1)) h) fun r3 h3 =>
  if r3 = 0 then
    some ((-2), h3)
  else
  f_X12_gauge_28 n v0 v1 n 0 0 0 h3
set_option maxRecDepth 20000 in
theorem b_X12_gauge_184 {g : GT} {Z : Int × MM} {n : Nat} (C : Cx g cX12_gauge 8 yX12_gauge 2 49) (hr : Rt g (some .int) 0 Z) {v0 v1 v2 v3 v5 s0 : Int}  {rec107 : Int → Int → MM → RR} (L107 : ∀ (u4 u5 : Int) (h : MM), in32 u4 → in32 u5 → rec107 u4 u5 h = some Z → G g 107 [(2, v0), (0, v1), (0, v2), (0, v3), (0, u4), (0, u5), (3, 0), (3, 0)] [] h) (cv1 : in32 v1) (cv2 : in32 v2) (cv3 : in32 v3) (cv5 : in32 v5) (cs0 : in32 s0) {h : MM} (hf : f_X12_gauge_184 n rec107 v0 v1 v2 v3 v5 s0 h = some Z) : G g 184 [(2, v0), (0, v1), (0, v2), (0, v3), (3, 0), (0, v5), (3, 0), (3, 0)] [(0, s0)] h := by
  unfold f_X12_gauge_184 at hf
  refine r_istore C dX12_gauge_184 (Nat.le_of_ble_eq_true rfl) rfl ?_
  obtain ⟨x1, e1, hf⟩ := lb_s hf
  have c1 : in32 x1 := by rw [e1]; exact (in32_t _)
  refine r_iincL C dX12_gauge_186 rfl e1 (Nat.le_of_ble_eq_true rfl) rfl ?_
  refine r_goto C dX12_gauge_189 (tgt := 107) (by decide) ?_
  exact G.mask [true, true, true, true, true, true, false, false] rfl rfl (L107 _ _ _ cs0 c1 hf)
set_option maxRecDepth 20000 in
theorem b_X12_gauge_182 {g : GT} {Z : Int × MM} {n : Nat} (C : Cx g cX12_gauge 8 yX12_gauge 2 49) (hr : Rt g (some .int) 0 Z) {v0 v1 v2 v3 v4 v5 : Int}  {rec107 : Int → Int → MM → RR} (L107 : ∀ (u4 u5 : Int) (h : MM), in32 u4 → in32 u5 → rec107 u4 u5 h = some Z → G g 107 [(2, v0), (0, v1), (0, v2), (0, v3), (0, u4), (0, u5), (3, 0), (3, 0)] [] h) (cv1 : in32 v1) (cv2 : in32 v2) (cv3 : in32 v3) (cv4 : in32 v4) (cv5 : in32 v5) {h : MM} (hf : f_X12_gauge_182 n rec107 v0 v1 v2 v3 v4 v5 h = some Z) : G g 182 [(2, v0), (0, v1), (0, v2), (0, v3), (0, v4), (0, v5), (3, 0), (3, 0)] [] h := by
  unfold f_X12_gauge_182 at hf
  refine r_iload C dX12_gauge_182 rfl ?_
  exact G.mask [true, true, true, true, false, true, false, false] rfl rfl (b_X12_gauge_184 C hr L107 cv1 cv2 cv3 cv5 cv4 hf)
set_option maxRecDepth 20000 in
theorem b_X12_gauge_177 {g : GT} {Z : Int × MM} {n : Nat} (C : Cx g cX12_gauge 8 yX12_gauge 2 49) (hr : Rt g (some .int) 0 Z) {v0 v1 v2 v3 v5 : Int}  {rec107 : Int → Int → MM → RR} (L107 : ∀ (u4 u5 : Int) (h : MM), in32 u4 → in32 u5 → rec107 u4 u5 h = some Z → G g 107 [(2, v0), (0, v1), (0, v2), (0, v3), (0, u4), (0, u5), (3, 0), (3, 0)] [] h) (cv1 : in32 v1) (cv2 : in32 v2) (cv3 : in32 v3) (cv5 : in32 v5) {h : MM} (hf : f_X12_gauge_177 n rec107 v0 v1 v2 v3 v5 h = some Z) : G g 177 [(2, v0), (0, v1), (0, v2), (0, v3), (3, 0), (0, v5), (3, 0), (3, 0)] [] h := by
  unfold f_X12_gauge_177 at hf
  refine r_iload C dX12_gauge_177 rfl ?_
  refine r_goto C dX12_gauge_179 (tgt := 184) (by decide) ?_
  exact G.mask [true, true, true, true, false, true, false, false] rfl rfl (b_X12_gauge_184 C hr L107 cv1 cv2 cv3 cv5 cv5 hf)
set_option maxRecDepth 20000 in
theorem b_X12_gauge_150 {g : GT} {Z : Int × MM} {n : Nat} (C : Cx g cX12_gauge 8 yX12_gauge 2 49) (hr : Rt g (some .int) 0 Z) {v0 v1 v2 v3 v4 v5 s0 : Int}  {rec107 : Int → Int → MM → RR} (L107 : ∀ (u4 u5 : Int) (h : MM), in32 u4 → in32 u5 → rec107 u4 u5 h = some Z → G g 107 [(2, v0), (0, v1), (0, v2), (0, v3), (0, u4), (0, u5), (3, 0), (3, 0)] [] h) (cv1 : in32 v1) (cv2 : in32 v2) (cv3 : in32 v3) (cv4 : in32 v4) (cv5 : in32 v5) (cs0 : in32 s0) {h : MM} (hf : f_X12_gauge_150 n rec107 v0 v1 v2 v3 v4 v5 s0 h = some Z) : G g 150 [(2, v0), (0, v1), (0, v2), (0, v3), (0, v4), (0, v5), (3, 0), (3, 0)] [(0, s0)] h := by
  unfold f_X12_gauge_150 at hf
  refine r_istore C dX12_gauge_150 (Nat.le_of_ble_eq_true rfl) rfl ?_
  refine r_iload C dX12_gauge_152 rfl ?_
  refine r_if_eq C dX12_gauge_154 (tgt := 182) (by decide) cs0 (fun n1 => ?_) (fun n1 => ?_)
  · have hf := ite_p n1 hf
    exact G.mask [true, true, true, true, true, true, false, false] rfl rfl (b_X12_gauge_182 C hr L107 cv1 cv2 cv3 cv4 cv5 hf)
  · have hf := ite_n n1 hf
    refine r_iload C dX12_gauge_157 rfl ?_
    refine r_bipush C dX12_gauge_159 rfl ?_
    refine r_icmp_eq C dX12_gauge_161 (tgt := 177) (by decide) cv4 (in32_of rfl) (fun n2 => ?_) (fun n2 => ?_)
    · have hf := ite_p n2 hf
      exact G.mask [true, true, true, true, false, true, false, false] rfl rfl (b_X12_gauge_177 C hr L107 cv1 cv2 cv3 cv5 hf)
    · have hf := ite_n n2 hf
      refine r_iload C dX12_gauge_164 rfl ?_
      obtain ⟨r3, h3, hq3, hf⟩ := bd_s hf
      refine r_cS1 C (am_X12_many (gl g) n) cm_X12_many w_1861 dX12_gauge_166 ⟨Nat.le_of_ble_eq_true rfl, Nat.le_of_ble_eq_true rfl⟩ cv5 rfl (Nat.le_of_ble_eq_true rfl) hq3 (by decide) (fun c3 => ?_)
      have c3 : in32 _ := c3
      refine r_iload C dX12_gauge_169 rfl ?_
      obtain ⟨r4, h4, hq4, hf⟩ := bd_s hf
      refine r_cS1 C (am_X12_many (gl g) n) cm_X12_many w_1861 dX12_gauge_171 ⟨Nat.le_of_ble_eq_true rfl, Nat.le_of_ble_eq_true rfl⟩ cv4 rfl (Nat.le_of_ble_eq_true rfl) hq4 (by decide) (fun c4 => ?_)
      have c4 : in32 _ := c4
      refine r_icmp_ge C dX12_gauge_174 (tgt := 182) (by decide) c3 c4 (fun n5 => ?_) (fun n5 => ?_)
      · have hf := ite_p n5 hf
        exact G.mask [true, true, true, true, true, true, false, false] rfl rfl (b_X12_gauge_182 C hr L107 cv1 cv2 cv3 cv4 cv5 hf)
      · have hf := ite_n n5 hf
        exact G.mask [true, true, true, true, false, true, false, false] rfl rfl (b_X12_gauge_177 C hr L107 cv1 cv2 cv3 cv5 hf)
set_option maxRecDepth 20000 in
theorem b_X12_gauge_145 {g : GT} {Z : Int × MM} {n : Nat} (C : Cx g cX12_gauge 8 yX12_gauge 2 49) (hr : Rt g (some .int) 0 Z) {v0 v1 v2 v3 v4 v5 : Int}  {rec107 : Int → Int → MM → RR} (L107 : ∀ (u4 u5 : Int) (h : MM), in32 u4 → in32 u5 → rec107 u4 u5 h = some Z → G g 107 [(2, v0), (0, v1), (0, v2), (0, v3), (0, u4), (0, u5), (3, 0), (3, 0)] [] h) (cv1 : in32 v1) (cv2 : in32 v2) (cv3 : in32 v3) (cv4 : in32 v4) (cv5 : in32 v5) {h : MM} (hf : f_X12_gauge_145 n rec107 v0 v1 v2 v3 v4 v5 h = some Z) : G g 145 [(2, v0), (0, v1), (0, v2), (0, v3), (0, v4), (0, v5), (3, 0), (3, 0)] [] h := by
  unfold f_X12_gauge_145 at hf
  refine r_iconst C dX12_gauge_145 ?_
  refine r_goto C dX12_gauge_146 (tgt := 150) (by decide) ?_
  exact G.mask [true, true, true, true, true, true, false, false] rfl rfl (b_X12_gauge_150 C hr L107 cv1 cv2 cv3 cv4 cv5 (in32_of rfl) hf)
set_option maxRecDepth 20000 in
theorem b_X12_gauge_107b {g : GT} {Z : Int × MM} {n : Nat} (C : Cx g cX12_gauge 8 yX12_gauge 2 49) (hr : Rt g (some .int) 0 Z) {v0 v1 v2 v3 v4 v5 : Int}  {rec107 : Int → Int → MM → RR} (L107 : ∀ (u4 u5 : Int) (h : MM), in32 u4 → in32 u5 → rec107 u4 u5 h = some Z → G g 107 [(2, v0), (0, v1), (0, v2), (0, v3), (0, u4), (0, u5), (3, 0), (3, 0)] [] h) (cv1 : in32 v1) (cv2 : in32 v2) (cv3 : in32 v3) (cv4 : in32 v4) (cv5 : in32 v5) {h : MM} (hf : f_X12_gauge_107b n rec107 v0 v1 v2 v3 v4 v5 h = some Z) : G g 107 [(2, v0), (0, v1), (0, v2), (0, v3), (0, v4), (0, v5), (3, 0), (3, 0)] [] h := by
  unfold f_X12_gauge_107b at hf
  refine r_iload C dX12_gauge_107 rfl ?_
  refine r_iconst C dX12_gauge_109 ?_
  refine r_iload_n C dX12_gauge_110 rfl ?_
  refine r_ishl C dX12_gauge_111 ?_
  refine r_icmp_ge C dX12_gauge_112 (tgt := 192) (by decide) cv5 (in32_t _) (fun n1 => ?_) (fun n1 => ?_)
  · have hf := ite_p n1 hf
    refine r_iload C dX12_gauge_192 rfl ?_
    cases hf
    exact r_jret C hr dX12_gauge_194 cv4
  · have hf := ite_n n1 hf
    refine r_iload_n C dX12_gauge_115 rfl ?_
    refine r_iload C dX12_gauge_116 rfl ?_
    refine r_ixor C dX12_gauge_118 ?_
    obtain ⟨x2, e2, hf⟩ := lb_s hf
    have c2 : in32 x2 := by rw [e2]; exact (in32_t _)
    refine r_istoreL C dX12_gauge_119 e2 (Nat.le_of_ble_eq_true rfl) rfl ?_
    refine r_aload_n C dX12_gauge_121 rfl ?_
    refine r_iload_n C dX12_gauge_122 rfl ?_
    refine r_iload C dX12_gauge_123 rfl ?_
    refine r_iload_n C dX12_gauge_125 rfl ?_
    obtain ⟨p3, hf⟩ := gk_s hf
    obtain ⟨r3, h3, hq3, hf⟩ := bd_s hf
    refine r_cV3 C (am_X12_areJoined (gl g) n) cm_X12_areJoined w_1857 dX12_gauge_126 ⟨Nat.le_of_ble_eq_true rfl, Nat.le_of_ble_eq_true rfl⟩ p3 rfl cv1 c2 cv2 rfl (Nat.le_of_ble_eq_true rfl) hq3 (by decide) (fun c3 => ?_)
    have c3 : in32 _ := c3
    refine r_if_ne C dX12_gauge_129 (tgt := 145) (by decide) c3 (fun n4 => ?_) (fun n4 => ?_)
    · have hf := ite_n n4 hf
      exact G.mask [true, true, true, true, true, true, false, false] rfl rfl (b_X12_gauge_145 C hr L107 cv1 cv2 cv3 cv4 cv5 hf)
    · have hf := ite_p n4 hf
      refine r_aload_n C dX12_gauge_132 rfl ?_
      refine r_iload_n C dX12_gauge_133 rfl ?_
      refine r_iload C dX12_gauge_134 rfl ?_
      refine r_iconst C dX12_gauge_136 ?_
      refine r_ixor C dX12_gauge_137 ?_
      refine r_iload_n C dX12_gauge_138 rfl ?_
      obtain ⟨p5, hf⟩ := gk_s hf
      obtain ⟨r5, h5, hq5, hf⟩ := bd_s hf
      refine r_cV3 C (am_X12_areJoined (gl g) n) cm_X12_areJoined w_1857 dX12_gauge_139 ⟨Nat.le_of_ble_eq_true rfl, Nat.le_of_ble_eq_true rfl⟩ p5 rfl cv1 (in32_t _) cv2 rfl (Nat.le_of_ble_eq_true rfl) hq5 (by decide) (fun c5 => ?_)
      have c5 : in32 _ := c5
      refine r_if_eq C dX12_gauge_142 (tgt := 149) (by decide) c5 (fun n6 => ?_) (fun n6 => ?_)
      · have hf := ite_p n6 hf
        refine r_iconst C dX12_gauge_149 ?_
        exact G.mask [true, true, true, true, true, true, false, false] rfl rfl (b_X12_gauge_150 C hr L107 cv1 cv2 cv3 cv4 cv5 (in32_of rfl) hf)
      · have hf := ite_n n6 hf
        exact G.mask [true, true, true, true, true, true, false, false] rfl rfl (b_X12_gauge_145 C hr L107 cv1 cv2 cv3 cv4 cv5 hf)
set_option maxRecDepth 20000 in
theorem l_X12_gauge_107 {g : GT} {Z : Int × MM} {n : Nat} (C : Cx g cX12_gauge 8 yX12_gauge 2 49) (hr : Rt g (some .int) 0 Z) {v0 v1 v2 v3 : Int}   (cv1 : in32 v1) (cv2 : in32 v2) (cv3 : in32 v3) : ∀ (k : Nat) (v4 v5 : Int) (h : MM), in32 v4 → in32 v5 → f_X12_gauge_107 n  v0 v1 v2 v3 k v4 v5 h = some Z → G g 107 [(2, v0), (0, v1), (0, v2), (0, v3), (0, v4), (0, v5), (3, 0), (3, 0)] [] h := by
  intro k
  induction k with
  | zero => intro v4 v5 h cv4 cv5 hf; exact absurd hf (by intro z; cases z)
  | succ k ih => intro v4 v5 h cv4 cv5 hf; exact b_X12_gauge_107b C hr (rec107 := f_X12_gauge_107 n  v0 v1 v2 v3 k)  ih cv1 cv2 cv3 cv4 cv5 (show f_X12_gauge_107b n  (f_X12_gauge_107 n  v0 v1 v2 v3 k) v0 v1 v2 v3 v4 v5 h = some Z from hf)
set_option maxRecDepth 20000 in
theorem b_X12_gauge_85 {g : GT} {Z : Int × MM} {n : Nat} (C : Cx g cX12_gauge 8 yX12_gauge 2 49) (hr : Rt g (some .int) 0 Z) {v0 v1 v2 v3 v4 : Int}  {rec28 : Int → Int → Int → MM → RR} (L28 : ∀ (u2 u3 u4 : Int) (h : MM), in32 u2 → in32 u3 → in32 u4 → rec28 u2 u3 u4 h = some Z → G g 28 [(2, v0), (0, v1), (0, u2), (0, u3), (0, u4), (3, 0), (3, 0), (3, 0)] [] h) (cv1 : in32 v1) (cv2 : in32 v2) (cv3 : in32 v3) (cv4 : in32 v4) {h : MM} (hf : f_X12_gauge_85 n rec28 v0 v1 v2 v3 v4 h = some Z) : G g 85 [(2, v0), (0, v1), (0, v2), (0, v3), (0, v4), (3, 0), (3, 0), (3, 0)] [] h := by
  unfold f_X12_gauge_85 at hf
  obtain ⟨x1, e1, hf⟩ := lb_s hf
  have c1 : in32 x1 := by rw [e1]; exact (in32_t _)
  refine r_iincL C dX12_gauge_85 rfl e1 (Nat.le_of_ble_eq_true rfl) rfl ?_
  refine r_goto C dX12_gauge_88 (tgt := 28) (by decide) ?_
  exact G.mask [true, true, true, true, true, false, false, false] rfl rfl (L28 _ _ _ _ cv2 cv3 c1 hf)
set_option maxRecDepth 20000 in
theorem b_X12_gauge_80 {g : GT} {Z : Int × MM} {n : Nat} (C : Cx g cX12_gauge 8 yX12_gauge 2 49) (hr : Rt g (some .int) 0 Z) {v0 v1 v2 v4 s0 s1 : Int}  {rec28 : Int → Int → Int → MM → RR} (L28 : ∀ (u2 u3 u4 : Int) (h : MM), in32 u2 → in32 u3 → in32 u4 → rec28 u2 u3 u4 h = some Z → G g 28 [(2, v0), (0, v1), (0, u2), (0, u3), (0, u4), (3, 0), (3, 0), (3, 0)] [] h) (cv1 : in32 v1) (cv2 : in32 v2) (cv4 : in32 v4) (cs0 : in32 s0) (cs1 : in32 s1) {h : MM} (hf : f_X12_gauge_80 n rec28 v0 v1 v2 v4 s0 s1 h = some Z) : G g 80 [(2, v0), (0, v1), (0, v2), (3, 0), (0, v4), (3, 0), (3, 0), (3, 0)] [(0, s1), (0, s0)] h := by
  unfold f_X12_gauge_80 at hf
  refine r_ior C dX12_gauge_80 ?_
  obtain ⟨x1, e1, hf⟩ := lb_s hf
  have c1 : in32 x1 := by rw [e1]; exact (in32_t _)
  refine r_istore_nL C dX12_gauge_81 e1 (Nat.le_of_ble_eq_true rfl) rfl ?_
  obtain ⟨x2, e2, hf⟩ := lb_s hf
  have c2 : in32 x2 := by rw [e2]; exact (in32_t _)
  refine r_iincL C dX12_gauge_82 rfl e2 (Nat.le_of_ble_eq_true rfl) rfl ?_
  exact G.mask [true, true, true, true, true, false, false, false] rfl rfl (b_X12_gauge_85 C hr L28 cv1 c2 c1 cv4 hf)
set_option maxRecDepth 20000 in
theorem b_X12_gauge_28b {g : GT} {Z : Int × MM} {n : Nat} (C : Cx g cX12_gauge 8 yX12_gauge 2 49) (hr : Rt g (some .int) 0 Z) {v0 v1 v2 v3 v4 : Int}  {rec28 : Int → Int → Int → MM → RR} (L28 : ∀ (u2 u3 u4 : Int) (h : MM), in32 u2 → in32 u3 → in32 u4 → rec28 u2 u3 u4 h = some Z → G g 28 [(2, v0), (0, v1), (0, u2), (0, u3), (0, u4), (3, 0), (3, 0), (3, 0)] [] h) (cv1 : in32 v1) (cv2 : in32 v2) (cv3 : in32 v3) (cv4 : in32 v4) {h : MM} (hf : f_X12_gauge_28b n rec28 v0 v1 v2 v3 v4 h = some Z) : G g 28 [(2, v0), (0, v1), (0, v2), (0, v3), (0, v4), (3, 0), (3, 0), (3, 0)] [] h := by
  unfold f_X12_gauge_28b at hf
  refine r_iload C dX12_gauge_28 rfl ?_
  refine r_aload_n C dX12_gauge_30 rfl ?_
  obtain ⟨q1, hf⟩ := gf_s hf
  refine r_gf C ct12 (j := 1) (ji := 1) dX12_gauge_31 q1 rfl rfl (by decide) w_1426 rfl (fun c1 => ?_)
  refine r_iconst C dX12_gauge_34 ?_
  obtain ⟨q2, hf⟩ := rd_s hf
  refine r_iald C dX12_gauge_35 q2 rfl (fun c2 => ?_)
  refine r_icmp_ge C dX12_gauge_36 (tgt := 91) (by decide) cv4 c2 (fun n3 => ?_) (fun n3 => ?_)
  · have hf := ite_p n3 hf
    refine r_iload_n C dX12_gauge_91 rfl ?_
    refine r_bipush C dX12_gauge_92 rfl ?_
    refine r_icmp_le C dX12_gauge_94 (tgt := 100) (by decide) cv2 (in32_of rfl) (fun n4 => ?_) (fun n4 => ?_)
    · have hf := ite_p n4 hf
      refine r_bipush C dX12_gauge_100 rfl ?_
      refine r_istore C dX12_gauge_102 (Nat.le_of_ble_eq_true rfl) rfl ?_
      refine r_iconst C dX12_gauge_104 ?_
      refine r_istore C dX12_gauge_105 (Nat.le_of_ble_eq_true rfl) rfl ?_
      exact G.mask [true, true, true, true, true, true, false, false] rfl rfl (l_X12_gauge_107 C hr  cv1 cv2 cv3 _ _ _ _ (in32_of rfl) (in32_of rfl) hf)
    · have hf := ite_n n4 hf
      refine r_bipush C dX12_gauge_97 rfl ?_
      cases hf
      exact r_jret C hr dX12_gauge_99 (in32_of rfl)
  · have hf := ite_n n3 hf
    refine r_aload_n C dX12_gauge_39 rfl ?_
    refine r_iload C dX12_gauge_40 rfl ?_
    obtain ⟨p5, hf⟩ := gk_s hf
    obtain ⟨r5, h5, hq5, hf⟩ := bd_s hf
    refine r_cV1 C (am_X12_isGranted (gl g) n) cm_X12_isGranted w_1718 dX12_gauge_42 ⟨Nat.le_of_ble_eq_true rfl, Nat.le_of_ble_eq_true rfl⟩ p5 rfl cv4 rfl (Nat.le_of_ble_eq_true rfl) hq5 (by decide) (fun c5 => ?_)
    have c5 : in32 _ := c5
    refine r_if_eq C dX12_gauge_45 (tgt := 85) (by decide) c5 (fun n6 => ?_) (fun n6 => ?_)
    · have hf := ite_p n6 hf
      exact G.mask [true, true, true, true, true, false, false, false] rfl rfl (b_X12_gauge_85 C hr L28 cv1 cv2 cv3 cv4 hf)
    · have hf := ite_n n6 hf
      refine r_aload_n C dX12_gauge_48 rfl ?_
      obtain ⟨q7, hf⟩ := gf_s hf
      refine r_gf C ct12 (j := 19) (ji := 19) dX12_gauge_49 q7 rfl rfl (by decide) w_1444 rfl (fun c7 => ?_)
      refine r_iload_n C dX12_gauge_52 rfl ?_
      refine r_iload C dX12_gauge_53 rfl ?_
      obtain ⟨q8, hf⟩ := wt_s hf
      refine r_iast C dX12_gauge_55 q8 rfl cv4 ?_
      refine r_iload_n C dX12_gauge_56 rfl ?_
      refine r_iload_n C dX12_gauge_57 rfl ?_
      refine r_bipush C dX12_gauge_58 rfl ?_
      refine r_icmp_ge C dX12_gauge_60 (tgt := 79) (by decide) cv2 (in32_of rfl) (fun n9 => ?_) (fun n9 => ?_)
      · have hf := ite_p n9 hf
        refine r_iconst C dX12_gauge_79 ?_
        exact G.mask [true, true, true, false, true, false, false, false] rfl rfl (b_X12_gauge_80 C hr L28 cv1 cv2 cv4 cv3 (in32_of rfl) hf)
      · have hf := ite_n n9 hf
        refine r_aload_n C dX12_gauge_63 rfl ?_
        obtain ⟨q10, hf⟩ := gf_s hf
        refine r_gf C ct12 (j := 1) (ji := 1) dX12_gauge_64 q10 rfl rfl (by decide) w_1426 rfl (fun c10 => ?_)
        refine r_sipush C dX12_gauge_67 rfl ?_
        refine r_iload C dX12_gauge_70 rfl ?_
        refine r_iadd C dX12_gauge_72 ?_
        obtain ⟨q11, hf⟩ := rd_s hf
        refine r_iald C dX12_gauge_73 q11 rfl (fun c11 => ?_)
        refine r_iload_n C dX12_gauge_74 rfl ?_
        refine r_ishl C dX12_gauge_75 ?_
        refine r_goto C dX12_gauge_76 (tgt := 80) (by decide) ?_
        exact G.mask [true, true, true, false, true, false, false, false] rfl rfl (b_X12_gauge_80 C hr L28 cv1 cv2 cv4 cv3 (in32_t _) hf)
set_option maxRecDepth 20000 in
theorem l_X12_gauge_28 {g : GT} {Z : Int × MM} {n : Nat} (C : Cx g cX12_gauge 8 yX12_gauge 2 49) (hr : Rt g (some .int) 0 Z) {v0 v1 : Int}   (cv1 : in32 v1) : ∀ (k : Nat) (v2 v3 v4 : Int) (h : MM), in32 v2 → in32 v3 → in32 v4 → f_X12_gauge_28 n  v0 v1 k v2 v3 v4 h = some Z → G g 28 [(2, v0), (0, v1), (0, v2), (0, v3), (0, v4), (3, 0), (3, 0), (3, 0)] [] h := by
  intro k
  induction k with
  | zero => intro v2 v3 v4 h cv2 cv3 cv4 hf; exact absurd hf (by intro z; cases z)
  | succ k ih => intro v2 v3 v4 h cv2 cv3 cv4 hf; exact b_X12_gauge_28b C hr (rec28 := f_X12_gauge_28 n  v0 v1 k)  ih cv1 cv2 cv3 cv4 (show f_X12_gauge_28b n  (f_X12_gauge_28 n  v0 v1 k) v0 v1 v2 v3 v4 h = some Z from hf)
set_option maxRecDepth 20000 in
theorem e_X12_gauge {g : GT} {Z : Int × MM} {n : Nat} (C : Cx g cX12_gauge 8 yX12_gauge 2 49) (hr : Rt g (some .int) 0 Z) {v0 v1 : Int} (cv0 : cK 2 v0) (cv1 : cK 0 v1) {h : MM} (hf : f_X12_gauge n v0 v1 h = some Z) : G g 0 [(2, v0), (0, v1), (3, 0), (3, 0), (3, 0), (3, 0), (3, 0), (3, 0)] [] h := by
  have cv1 : in32 v1 := cv1
  unfold f_X12_gauge at hf
  refine r_iload_n C dX12_gauge_0 rfl ?_
  refine r_iconst C dX12_gauge_1 ?_
  refine r_iconst C dX12_gauge_2 ?_
  refine r_aload_n C dX12_gauge_3 rfl ?_
  obtain ⟨q1, hf⟩ := gf_s hf
  refine r_gf C ct12 (j := 1) (ji := 1) dX12_gauge_4 q1 rfl rfl (by decide) w_1426 rfl (fun c1 => ?_)
  refine r_iconst C dX12_gauge_7 ?_
  obtain ⟨q2, hf⟩ := rd_s hf
  refine r_iald C dX12_gauge_8 q2 rfl (fun c2 => ?_)
  refine r_ishl C dX12_gauge_9 ?_
  refine r_iconst C dX12_gauge_10 ?_
  refine r_isub C dX12_gauge_11 ?_
  obtain ⟨r3, h3, hq3, hf⟩ := bd_s hf
  refine r_cS3 C (am_X12_in (gl g) n) cm_X12_in w_1496 dX12_gauge_12 ⟨Nat.le_of_ble_eq_true rfl, Nat.le_of_ble_eq_true rfl⟩ cv1 (in32_of rfl) (in32_t _) rfl (Nat.le_of_ble_eq_true rfl) hq3 (by decide) (fun c3 => ?_)
  have c3 : in32 _ := c3
  refine r_if_ne C dX12_gauge_15 (tgt := 21) (by decide) c3 (fun n4 => ?_) (fun n4 => ?_)
  · have hf := ite_n n4 hf
    refine r_iconst C dX12_gauge_21 ?_
    refine r_istore_n C dX12_gauge_22 (Nat.le_of_ble_eq_true rfl) rfl ?_
    refine r_iconst C dX12_gauge_23 ?_
    refine r_istore_n C dX12_gauge_24 (Nat.le_of_ble_eq_true rfl) rfl ?_
    refine r_iconst C dX12_gauge_25 ?_
    refine r_istore C dX12_gauge_26 (Nat.le_of_ble_eq_true rfl) rfl ?_
    exact G.mask [true, true, true, true, true, false, false, false] rfl rfl (l_X12_gauge_28 C hr  cv1 _ _ _ _ _ (in32_of rfl) (in32_of rfl) (in32_of rfl) hf)
  · have hf := ite_p n4 hf
    refine r_bipush C dX12_gauge_18 rfl ?_
    cases hf
    exact r_jret C hr dX12_gauge_20 (in32_of rfl)
set_option maxRecDepth 20000 in
theorem am_X12_gauge (l : Launch) (n : Nat) : AM l yX12_gauge cX12_gauge 8 (some .int) 2 49 [2, 0] 0 (un2 (f_X12_gauge n)) := by
  refine AM.intro (by decide) (fun xs hx => ?_) (fun g xs h Z hl C hr hx hf => ?_)
  · obtain ⟨a0, a1, rfl, c0, c1⟩ := canL_2 hx
    exact Nat.le_of_ble_eq_true rfl
  · obtain ⟨a0, a1, rfl, c0, c1⟩ := canL_2 hx
    have hf := (un2_e _ a0 a1 _).symm.trans hf
    exact e_X12_gauge (n := n) C hr c0 c1 hf
/-! LinesPromisedModel.plan(IIII)I -/
theorem dX12_plan_0 : decode cX12_plan 0 = .ok (.iload 4, 2) := by decide +kernel
theorem dX12_plan_2 : decode cX12_plan 2 = .ok (.iconst 0, 1) := by decide +kernel
theorem dX12_plan_3 : decode cX12_plan 3 = .ok (.iconst 1, 1) := by decide +kernel
theorem dX12_plan_4 : decode cX12_plan 4 = .ok (.invokestatic 58, 3) := by decide +kernel
theorem dX12_plan_7 : decode cX12_plan 7 = .ok (.ifCond .ne 5, 3) := by decide +kernel
theorem dX12_plan_10 : decode cX12_plan 10 = .ok (.iconst (-1), 1) := by decide +kernel
theorem dX12_plan_11 : decode cX12_plan 11 = .ok (.ireturn, 1) := by decide +kernel
theorem dX12_plan_12 : decode cX12_plan 12 = .ok (.iload_n 1, 1) := by decide +kernel
theorem dX12_plan_13 : decode cX12_plan 13 = .ok (.iconst 0, 1) := by decide +kernel
theorem dX12_plan_14 : decode cX12_plan 14 = .ok (.iconst 1, 1) := by decide +kernel
theorem dX12_plan_15 : decode cX12_plan 15 = .ok (.aload_n 0, 1) := by decide +kernel
theorem dX12_plan_16 : decode cX12_plan 16 = .ok (.getfield 8, 3) := by decide +kernel
theorem dX12_plan_19 : decode cX12_plan 19 = .ok (.iconst 1, 1) := by decide +kernel
theorem dX12_plan_20 : decode cX12_plan 20 = .ok (.iaload, 1) := by decide +kernel
theorem dX12_plan_21 : decode cX12_plan 21 = .ok (.ishl, 1) := by decide +kernel
theorem dX12_plan_22 : decode cX12_plan 22 = .ok (.iconst 1, 1) := by decide +kernel
theorem dX12_plan_23 : decode cX12_plan 23 = .ok (.isub, 1) := by decide +kernel
theorem dX12_plan_24 : decode cX12_plan 24 = .ok (.invokestatic 58, 3) := by decide +kernel
theorem dX12_plan_27 : decode cX12_plan 27 = .ok (.ifCond .eq 24, 3) := by decide +kernel
theorem dX12_plan_30 : decode cX12_plan 30 = .ok (.iload_n 2, 1) := by decide +kernel
theorem dX12_plan_31 : decode cX12_plan 31 = .ok (.iconst 0, 1) := by decide +kernel
theorem dX12_plan_32 : decode cX12_plan 32 = .ok (.ldc 72, 2) := by decide +kernel
theorem dX12_plan_34 : decode cX12_plan 34 = .ok (.invokestatic 58, 3) := by decide +kernel
theorem dX12_plan_37 : decode cX12_plan 37 = .ok (.ifCond .eq 14, 3) := by decide +kernel
theorem dX12_plan_40 : decode cX12_plan 40 = .ok (.iload_n 3, 1) := by decide +kernel
theorem dX12_plan_41 : decode cX12_plan 41 = .ok (.iconst 0, 1) := by decide +kernel
theorem dX12_plan_42 : decode cX12_plan 42 = .ok (.ldc_w 275, 3) := by decide +kernel
theorem dX12_plan_45 : decode cX12_plan 45 = .ok (.invokestatic 58, 3) := by decide +kernel
theorem dX12_plan_48 : decode cX12_plan 48 = .ok (.ifCond .ne 6, 3) := by decide +kernel
theorem dX12_plan_51 : decode cX12_plan 51 = .ok (.bipush (-2), 2) := by decide +kernel
theorem dX12_plan_53 : decode cX12_plan 53 = .ok (.ireturn, 1) := by decide +kernel
theorem dX12_plan_54 : decode cX12_plan 54 = .ok (.iconst 0, 1) := by decide +kernel
theorem dX12_plan_55 : decode cX12_plan 55 = .ok (.istore 5, 2) := by decide +kernel
theorem dX12_plan_57 : decode cX12_plan 57 = .ok (.iconst 0, 1) := by decide +kernel
theorem dX12_plan_58 : decode cX12_plan 58 = .ok (.istore 6, 2) := by decide +kernel
theorem dX12_plan_60 : decode cX12_plan 60 = .ok (.iload 6, 2) := by decide +kernel
theorem dX12_plan_62 : decode cX12_plan 62 = .ok (.aload_n 0, 1) := by decide +kernel
theorem dX12_plan_63 : decode cX12_plan 63 = .ok (.getfield 8, 3) := by decide +kernel
theorem dX12_plan_66 : decode cX12_plan 66 = .ok (.iconst 2, 1) := by decide +kernel
theorem dX12_plan_67 : decode cX12_plan 67 = .ok (.iaload, 1) := by decide +kernel
theorem dX12_plan_68 : decode cX12_plan 68 = .ok (.if_icmp .ge 72, 3) := by decide +kernel
theorem dX12_plan_71 : decode cX12_plan 71 = .ok (.iload 5, 2) := by decide +kernel
theorem dX12_plan_73 : decode cX12_plan 73 = .ok (.bipush 8, 2) := by decide +kernel
theorem dX12_plan_75 : decode cX12_plan 75 = .ok (.if_icmp .ge 59, 3) := by decide +kernel
theorem dX12_plan_78 : decode cX12_plan 78 = .ok (.aload_n 0, 1) := by decide +kernel
theorem dX12_plan_79 : decode cX12_plan 79 = .ok (.getfield 8, 3) := by decide +kernel
theorem dX12_plan_82 : decode cX12_plan 82 = .ok (.sipush 370, 3) := by decide +kernel
theorem dX12_plan_85 : decode cX12_plan 85 = .ok (.iload 6, 2) := by decide +kernel
theorem dX12_plan_87 : decode cX12_plan 87 = .ok (.iadd, 1) := by decide +kernel
theorem dX12_plan_88 : decode cX12_plan 88 = .ok (.iaload, 1) := by decide +kernel
theorem dX12_plan_89 : decode cX12_plan 89 = .ok (.iconst 3, 1) := by decide +kernel
theorem dX12_plan_90 : decode cX12_plan 90 = .ok (.if_icmp .ne 44, 3) := by decide +kernel
theorem dX12_plan_93 : decode cX12_plan 93 = .ok (.aload_n 0, 1) := by decide +kernel
theorem dX12_plan_94 : decode cX12_plan 94 = .ok (.getfield 8, 3) := by decide +kernel
theorem dX12_plan_97 : decode cX12_plan 97 = .ok (.sipush 790, 3) := by decide +kernel
theorem dX12_plan_100 : decode cX12_plan 100 = .ok (.iload 6, 2) := by decide +kernel
theorem dX12_plan_102 : decode cX12_plan 102 = .ok (.iadd, 1) := by decide +kernel
theorem dX12_plan_103 : decode cX12_plan 103 = .ok (.iaload, 1) := by decide +kernel
theorem dX12_plan_104 : decode cX12_plan 104 = .ok (.ifCond .ne 30, 3) := by decide +kernel
theorem dX12_plan_107 : decode cX12_plan 107 = .ok (.aload_n 0, 1) := by decide +kernel
theorem dX12_plan_108 : decode cX12_plan 108 = .ok (.iload 6, 2) := by decide +kernel
theorem dX12_plan_110 : decode cX12_plan 110 = .ok (.aload_n 0, 1) := by decide +kernel
theorem dX12_plan_111 : decode cX12_plan 111 = .ok (.getfield 8, 3) := by decide +kernel
theorem dX12_plan_114 : decode cX12_plan 114 = .ok (.iconst 0, 1) := by decide +kernel
theorem dX12_plan_115 : decode cX12_plan 115 = .ok (.iaload, 1) := by decide +kernel
theorem dX12_plan_116 : decode cX12_plan 116 = .ok (.invokevirtual 213, 3) := by decide +kernel
theorem dX12_plan_119 : decode cX12_plan 119 = .ok (.ifCond .eq 15, 3) := by decide +kernel
theorem dX12_plan_122 : decode cX12_plan 122 = .ok (.aload_n 0, 1) := by decide +kernel
theorem dX12_plan_123 : decode cX12_plan 123 = .ok (.getfield 48, 3) := by decide +kernel
theorem dX12_plan_126 : decode cX12_plan 126 = .ok (.iload 5, 2) := by decide +kernel
theorem dX12_plan_128 : decode cX12_plan 128 = .ok (.iload 6, 2) := by decide +kernel
theorem dX12_plan_130 : decode cX12_plan 130 = .ok (.iastore, 1) := by decide +kernel
theorem dX12_plan_131 : decode cX12_plan 131 = .ok (.iinc 5 1, 3) := by decide +kernel
theorem dX12_plan_134 : decode cX12_plan 134 = .ok (.iinc 6 1, 3) := by decide +kernel
theorem dX12_plan_137 : decode cX12_plan 137 = .ok (.goto (-77), 3) := by decide +kernel
theorem dX12_plan_140 : decode cX12_plan 140 = .ok (.bipush (-5), 2) := by decide +kernel
theorem dX12_plan_142 : decode cX12_plan 142 = .ok (.istore 6, 2) := by decide +kernel
theorem dX12_plan_144 : decode cX12_plan 144 = .ok (.iconst 0, 1) := by decide +kernel
theorem dX12_plan_145 : decode cX12_plan 145 = .ok (.istore 7, 2) := by decide +kernel
theorem dX12_plan_147 : decode cX12_plan 147 = .ok (.iconst 0, 1) := by decide +kernel
theorem dX12_plan_148 : decode cX12_plan 148 = .ok (.istore 8, 2) := by decide +kernel
theorem dX12_plan_150 : decode cX12_plan 150 = .ok (.iload 8, 2) := by decide +kernel
theorem dX12_plan_152 : decode cX12_plan 152 = .ok (.iconst 1, 1) := by decide +kernel
theorem dX12_plan_153 : decode cX12_plan 153 = .ok (.iload 5, 2) := by decide +kernel
theorem dX12_plan_155 : decode cX12_plan 155 = .ok (.ishl, 1) := by decide +kernel
theorem dX12_plan_156 : decode cX12_plan 156 = .ok (.if_icmp .ge 234, 3) := by decide +kernel
theorem dX12_plan_159 : decode cX12_plan 159 = .ok (.iconst 0, 1) := by decide +kernel
theorem dX12_plan_160 : decode cX12_plan 160 = .ok (.istore 9, 2) := by decide +kernel
theorem dX12_plan_162 : decode cX12_plan 162 = .ok (.iconst 0, 1) := by decide +kernel
theorem dX12_plan_163 : decode cX12_plan 163 = .ok (.istore 10, 2) := by decide +kernel
theorem dX12_plan_165 : decode cX12_plan 165 = .ok (.aload_n 0, 1) := by decide +kernel
theorem dX12_plan_166 : decode cX12_plan 166 = .ok (.iload_n 1, 1) := by decide +kernel
theorem dX12_plan_167 : decode cX12_plan 167 = .ok (.iload 8, 2) := by decide +kernel
theorem dX12_plan_169 : decode cX12_plan 169 = .ok (.iload 5, 2) := by decide +kernel
theorem dX12_plan_171 : decode cX12_plan 171 = .ok (.invokevirtual 272, 3) := by decide +kernel
theorem dX12_plan_174 : decode cX12_plan 174 = .ok (.istore 11, 2) := by decide +kernel
theorem dX12_plan_176 : decode cX12_plan 176 = .ok (.iconst 0, 1) := by decide +kernel
theorem dX12_plan_177 : decode cX12_plan 177 = .ok (.istore 12, 2) := by decide +kernel
theorem dX12_plan_179 : decode cX12_plan 179 = .ok (.iload 12, 2) := by decide +kernel
theorem dX12_plan_181 : decode cX12_plan 181 = .ok (.iload 5, 2) := by decide +kernel
theorem dX12_plan_183 : decode cX12_plan 183 = .ok (.if_icmp .ge 130, 3) := by decide +kernel
theorem dX12_plan_186 : decode cX12_plan 186 = .ok (.iload 8, 2) := by decide +kernel
theorem dX12_plan_188 : decode cX12_plan 188 = .ok (.iload 12, 2) := by decide +kernel
theorem dX12_plan_190 : decode cX12_plan 190 = .ok (.ishr, 1) := by decide +kernel
theorem dX12_plan_191 : decode cX12_plan 191 = .ok (.iconst 1, 1) := by decide +kernel
theorem dX12_plan_192 : decode cX12_plan 192 = .ok (.iand, 1) := by decide +kernel
theorem dX12_plan_193 : decode cX12_plan 193 = .ok (.iconst 1, 1) := by decide +kernel
theorem dX12_plan_194 : decode cX12_plan 194 = .ok (.if_icmp .ne 113, 3) := by decide +kernel
theorem dX12_plan_197 : decode cX12_plan 197 = .ok (.aload_n 0, 1) := by decide +kernel
theorem dX12_plan_198 : decode cX12_plan 198 = .ok (.aload_n 0, 1) := by decide +kernel
theorem dX12_plan_199 : decode cX12_plan 199 = .ok (.getfield 8, 3) := by decide +kernel
theorem dX12_plan_202 : decode cX12_plan 202 = .ok (.sipush 430, 3) := by decide +kernel
theorem dX12_plan_205 : decode cX12_plan 205 = .ok (.aload_n 0, 1) := by decide +kernel
theorem dX12_plan_206 : decode cX12_plan 206 = .ok (.getfield 48, 3) := by decide +kernel
theorem dX12_plan_209 : decode cX12_plan 209 = .ok (.iload 12, 2) := by decide +kernel
theorem dX12_plan_211 : decode cX12_plan 211 = .ok (.iaload, 1) := by decide +kernel
theorem dX12_plan_212 : decode cX12_plan 212 = .ok (.iadd, 1) := by decide +kernel
theorem dX12_plan_213 : decode cX12_plan 213 = .ok (.iaload, 1) := by decide +kernel
theorem dX12_plan_214 : decode cX12_plan 214 = .ok (.invokevirtual 190, 3) := by decide +kernel
theorem dX12_plan_217 : decode cX12_plan 217 = .ok (.istore 13, 2) := by decide +kernel
theorem dX12_plan_219 : decode cX12_plan 219 = .ok (.iload 9, 2) := by decide +kernel
theorem dX12_plan_221 : decode cX12_plan 221 = .ok (.iload 13, 2) := by decide +kernel
theorem dX12_plan_223 : decode cX12_plan 223 = .ok (.iadd, 1) := by decide +kernel
theorem dX12_plan_224 : decode cX12_plan 224 = .ok (.istore 9, 2) := by decide +kernel
theorem dX12_plan_226 : decode cX12_plan 226 = .ok (.iload 10, 2) := by decide +kernel
theorem dX12_plan_228 : decode cX12_plan 228 = .ok (.iconst 2, 1) := by decide +kernel
theorem dX12_plan_229 : decode cX12_plan 229 = .ok (.iload 13, 2) := by decide +kernel
theorem dX12_plan_231 : decode cX12_plan 231 = .ok (.imul, 1) := by decide +kernel
theorem dX12_plan_232 : decode cX12_plan 232 = .ok (.aload_n 0, 1) := by decide +kernel
theorem dX12_plan_233 : decode cX12_plan 233 = .ok (.aload_n 0, 1) := by decide +kernel
theorem dX12_plan_234 : decode cX12_plan 234 = .ok (.getfield 48, 3) := by decide +kernel
theorem dX12_plan_237 : decode cX12_plan 237 = .ok (.iload 12, 2) := by decide +kernel
theorem dX12_plan_239 : decode cX12_plan 239 = .ok (.iaload, 1) := by decide +kernel
theorem dX12_plan_240 : decode cX12_plan 240 = .ok (.invokevirtual 210, 3) := by decide +kernel
theorem dX12_plan_243 : decode cX12_plan 243 = .ok (.iadd, 1) := by decide +kernel
theorem dX12_plan_244 : decode cX12_plan 244 = .ok (.iadd, 1) := by decide +kernel
theorem dX12_plan_245 : decode cX12_plan 245 = .ok (.istore 10, 2) := by decide +kernel
theorem dX12_plan_247 : decode cX12_plan 247 = .ok (.iconst 0, 1) := by decide +kernel
theorem dX12_plan_248 : decode cX12_plan 248 = .ok (.istore 14, 2) := by decide +kernel
theorem dX12_plan_250 : decode cX12_plan 250 = .ok (.iload 14, 2) := by decide +kernel
theorem dX12_plan_252 : decode cX12_plan 252 = .ok (.iload 12, 2) := by decide +kernel
theorem dX12_plan_254 : decode cX12_plan 254 = .ok (.if_icmp .ge 53, 3) := by decide +kernel
theorem dX12_plan_257 : decode cX12_plan 257 = .ok (.iload 11, 2) := by decide +kernel
theorem dX12_plan_259 : decode cX12_plan 259 = .ok (.ifCond .eq 39, 3) := by decide +kernel
theorem dX12_plan_262 : decode cX12_plan 262 = .ok (.iload 8, 2) := by decide +kernel
theorem dX12_plan_264 : decode cX12_plan 264 = .ok (.iload 14, 2) := by decide +kernel
theorem dX12_plan_266 : decode cX12_plan 266 = .ok (.ishr, 1) := by decide +kernel
theorem dX12_plan_267 : decode cX12_plan 267 = .ok (.iconst 1, 1) := by decide +kernel
theorem dX12_plan_268 : decode cX12_plan 268 = .ok (.iand, 1) := by decide +kernel
theorem dX12_plan_269 : decode cX12_plan 269 = .ok (.iconst 1, 1) := by decide +kernel
theorem dX12_plan_270 : decode cX12_plan 270 = .ok (.if_icmp .ne 24, 3) := by decide +kernel
theorem dX12_plan_273 : decode cX12_plan 273 = .ok (.aload_n 0, 1) := by decide +kernel
theorem dX12_plan_274 : decode cX12_plan 274 = .ok (.aload_n 0, 1) := by decide +kernel
theorem dX12_plan_275 : decode cX12_plan 275 = .ok (.getfield 48, 3) := by decide +kernel
theorem dX12_plan_278 : decode cX12_plan 278 = .ok (.iload 14, 2) := by decide +kernel
theorem dX12_plan_280 : decode cX12_plan 280 = .ok (.iaload, 1) := by decide +kernel
theorem dX12_plan_281 : decode cX12_plan 281 = .ok (.aload_n 0, 1) := by decide +kernel
theorem dX12_plan_282 : decode cX12_plan 282 = .ok (.getfield 48, 3) := by decide +kernel
theorem dX12_plan_285 : decode cX12_plan 285 = .ok (.iload 12, 2) := by decide +kernel
theorem dX12_plan_287 : decode cX12_plan 287 = .ok (.iaload, 1) := by decide +kernel
theorem dX12_plan_288 : decode cX12_plan 288 = .ok (.invokevirtual 216, 3) := by decide +kernel
theorem dX12_plan_291 : decode cX12_plan 291 = .ok (.ifCond .ne 7, 3) := by decide +kernel
theorem dX12_plan_294 : decode cX12_plan 294 = .ok (.iconst 1, 1) := by decide +kernel
theorem dX12_plan_295 : decode cX12_plan 295 = .ok (.goto 4, 3) := by decide +kernel
theorem dX12_plan_298 : decode cX12_plan 298 = .ok (.iconst 0, 1) := by decide +kernel
theorem dX12_plan_299 : decode cX12_plan 299 = .ok (.istore 11, 2) := by decide +kernel
theorem dX12_plan_301 : decode cX12_plan 301 = .ok (.iinc 14 1, 3) := by decide +kernel
theorem dX12_plan_304 : decode cX12_plan 304 = .ok (.goto (-54), 3) := by decide +kernel
theorem dX12_plan_307 : decode cX12_plan 307 = .ok (.iinc 12 1, 3) := by decide +kernel
theorem dX12_plan_310 : decode cX12_plan 310 = .ok (.goto (-131), 3) := by decide +kernel
theorem dX12_plan_313 : decode cX12_plan 313 = .ok (.iload 6, 2) := by decide +kernel
theorem dX12_plan_315 : decode cX12_plan 315 = .ok (.bipush (-5), 2) := by decide +kernel
theorem dX12_plan_317 : decode cX12_plan 317 = .ok (.if_icmp .eq 30, 3) := by decide +kernel
theorem dX12_plan_320 : decode cX12_plan 320 = .ok (.iload 10, 2) := by decide +kernel
theorem dX12_plan_322 : decode cX12_plan 322 = .ok (.iload 7, 2) := by decide +kernel
theorem dX12_plan_324 : decode cX12_plan 324 = .ok (.if_icmp .lt 23, 3) := by decide +kernel
theorem dX12_plan_327 : decode cX12_plan 327 = .ok (.iload 10, 2) := by decide +kernel
theorem dX12_plan_329 : decode cX12_plan 329 = .ok (.iload 7, 2) := by decide +kernel
theorem dX12_plan_331 : decode cX12_plan 331 = .ok (.if_icmp .ne 20, 3) := by decide +kernel
theorem dX12_plan_334 : decode cX12_plan 334 = .ok (.iload 8, 2) := by decide +kernel
theorem dX12_plan_336 : decode cX12_plan 336 = .ok (.invokestatic 269, 3) := by decide +kernel
theorem dX12_plan_339 : decode cX12_plan 339 = .ok (.iload 6, 2) := by decide +kernel
theorem dX12_plan_341 : decode cX12_plan 341 = .ok (.invokestatic 269, 3) := by decide +kernel
theorem dX12_plan_344 : decode cX12_plan 344 = .ok (.if_icmp .ge 7, 3) := by decide +kernel
theorem dX12_plan_347 : decode cX12_plan 347 = .ok (.iconst 1, 1) := by decide +kernel
theorem dX12_plan_348 : decode cX12_plan 348 = .ok (.goto 4, 3) := by decide +kernel
theorem dX12_plan_351 : decode cX12_plan 351 = .ok (.iconst 0, 1) := by decide +kernel
theorem dX12_plan_352 : decode cX12_plan 352 = .ok (.istore 12, 2) := by decide +kernel
theorem dX12_plan_354 : decode cX12_plan 354 = .ok (.iload 11, 2) := by decide +kernel
theorem dX12_plan_356 : decode cX12_plan 356 = .ok (.ifCond .eq 28, 3) := by decide +kernel
theorem dX12_plan_359 : decode cX12_plan 359 = .ok (.iload 9, 2) := by decide +kernel
theorem dX12_plan_361 : decode cX12_plan 361 = .ok (.iload_n 2, 1) := by decide +kernel
theorem dX12_plan_362 : decode cX12_plan 362 = .ok (.if_icmp .gt 22, 3) := by decide +kernel
theorem dX12_plan_365 : decode cX12_plan 365 = .ok (.iload 10, 2) := by decide +kernel
theorem dX12_plan_367 : decode cX12_plan 367 = .ok (.iload_n 3, 1) := by decide +kernel
theorem dX12_plan_368 : decode cX12_plan 368 = .ok (.if_icmp .gt 16, 3) := by decide +kernel
theorem dX12_plan_371 : decode cX12_plan 371 = .ok (.iload 12, 2) := by decide +kernel
theorem dX12_plan_373 : decode cX12_plan 373 = .ok (.ifCond .eq 11, 3) := by decide +kernel
theorem dX12_plan_376 : decode cX12_plan 376 = .ok (.iload 8, 2) := by decide +kernel
theorem dX12_plan_378 : decode cX12_plan 378 = .ok (.istore 6, 2) := by decide +kernel
theorem dX12_plan_380 : decode cX12_plan 380 = .ok (.iload 10, 2) := by decide +kernel
theorem dX12_plan_382 : decode cX12_plan 382 = .ok (.istore 7, 2) := by decide +kernel
theorem dX12_plan_384 : decode cX12_plan 384 = .ok (.iinc 8 1, 3) := by decide +kernel
theorem dX12_plan_387 : decode cX12_plan 387 = .ok (.goto (-237), 3) := by decide +kernel
theorem dX12_plan_390 : decode cX12_plan 390 = .ok (.iload 6, 2) := by decide +kernel
theorem dX12_plan_392 : decode cX12_plan 392 = .ok (.bipush (-5), 2) := by decide +kernel
theorem dX12_plan_394 : decode cX12_plan 394 = .ok (.if_icmp .ne 8, 3) := by decide +kernel
theorem dX12_plan_397 : decode cX12_plan 397 = .ok (.bipush (-5), 2) := by decide +kernel
theorem dX12_plan_399 : decode cX12_plan 399 = .ok (.goto 15, 3) := by decide +kernel
theorem dX12_plan_402 : decode cX12_plan 402 = .ok (.iload 4, 2) := by decide +kernel
theorem dX12_plan_404 : decode cX12_plan 404 = .ok (.ifCond .ne 8, 3) := by decide +kernel
theorem dX12_plan_407 : decode cX12_plan 407 = .ok (.iload 6, 2) := by decide +kernel
theorem dX12_plan_409 : decode cX12_plan 409 = .ok (.goto 5, 3) := by decide +kernel
theorem dX12_plan_412 : decode cX12_plan 412 = .ok (.iload 7, 2) := by decide +kernel
theorem dX12_plan_414 : decode cX12_plan 414 = .ok (.ireturn, 1) := by decide +kernel
theorem cm_X12_plan : CM yX12_plan cX12_plan 15 (some .int) 4 12 := ⟨w_1865, w_1866, w_1867, w_97, ⟨by decide +kernel, by decide +kernel, by decide +kernel⟩, ⟨_, _, rfl⟩, by decide⟩
noncomputable def f_X12_plan_51 (n : Nat)  (h : MM) : RR :=
  some ((-2), h)
noncomputable def f_X12_plan_414 (n : Nat)  (s0 : Int) (h : MM) : RR :=
  some (s0, h)
noncomputable def f_X12_plan_384 (n : Nat) (rec150 : Int → Int → Int → MM → RR) (v0 v1 v2 v3 v4 v5 v6 v7 v8 : Int) (h : MM) : RR :=
  lb (wr (v8 + 1)) fun x1 =>
  rec150 v6 v7 x1 h
noncomputable def f_X12_plan_352 (n : Nat) (rec150 : Int → Int → Int → MM → RR) (v0 v1 v2 v3 v4 v5 v6 v7 v8 v9 v10 v11 s0 : Int) (h : MM) : RR :=
  if v11 = 0 then
    f_X12_plan_384 n rec150 v0 v1 v2 v3 v4 v5 v6 v7 v8 h
  else
  if v2 < v9 then
    f_X12_plan_384 n rec150 v0 v1 v2 v3 v4 v5 v6 v7 v8 h
  else
  if v3 < v10 then
    f_X12_plan_384 n rec150 v0 v1 v2 v3 v4 v5 v6 v7 v8 h
  else
  if s0 = 0 then
    f_X12_plan_384 n rec150 v0 v1 v2 v3 v4 v5 v6 v7 v8 h
  else
  f_X12_plan_384 n rec150 v0 v1 v2 v3 v4 v5 v8 v10 v8 h
noncomputable def f_X12_plan_347 (n : Nat) (rec150 : Int → Int → Int → MM → RR) (v0 v1 v2 v3 v4 v5 v6 v7 v8 v9 v10 v11 : Int) (h : MM) : RR :=
  f_X12_plan_352 n rec150 v0 v1 v2 v3 v4 v5 v6 v7 v8 v9 v10 v11 1 h
noncomputable def f_X12_plan_351 (n : Nat) (rec150 : Int → Int → Int → MM → RR) (v0 v1 v2 v3 v4 v5 v6 v7 v8 v9 v10 v11 : Int) (h : MM) : RR :=
  f_X12_plan_352 n rec150 v0 v1 v2 v3 v4 v5 v6 v7 v8 v9 v10 v11 0 h
noncomputable def f_X12_plan_307 (n : Nat) (rec150 : Int → Int → Int → MM → RR) (rec179 : Int → Int → Int → Int → MM → RR) (v0 v1 v2 v3 v4 v5 v6 v7 v8 v9 v10 v11 v12 : Int) (h : MM) : RR :=
  lb (wr (v12 + 1)) fun x1 =>
  rec179 v9 v10 v11 x1 h
noncomputable def f_X12_plan_299 (n : Nat) (rec150 : Int → Int → Int → MM → RR) (rec179 : Int → Int → Int → Int → MM → RR) (rec250 : Int → Int → MM → RR) (v0 v1 v2 v3 v4 v5 v6 v7 v8 v9 v10 v12 v14 s0 : Int) (h : MM) : RR :=
  lb (wr (v14 + 1)) fun x1 =>
  rec250 s0 x1 h
noncomputable def f_X12_plan_298 (n : Nat) (rec150 : Int → Int → Int → MM → RR) (rec179 : Int → Int → Int → Int → MM → RR) (rec250 : Int → Int → MM → RR) (v0 v1 v2 v3 v4 v5 v6 v7 v8 v9 v10 v12 v14 : Int) (h : MM) : RR :=
  f_X12_plan_299 n rec150 rec179 rec250 v0 v1 v2 v3 v4 v5 v6 v7 v8 v9 v10 v12 v14 0 h
noncomputable def f_X12_plan_294 (n : Nat) (rec150 : Int → Int → Int → MM → RR) (rec179 : Int → Int → Int → Int → MM → RR) (rec250 : Int → Int → MM → RR) (v0 v1 v2 v3 v4 v5 v6 v7 v8 v9 v10 v12 v14 : Int) (h : MM) : RR :=
  f_X12_plan_299 n rec150 rec179 rec250 v0 v1 v2 v3 v4 v5 v6 v7 v8 v9 v10 v12 v14 1 h
noncomputable def f_X12_plan_250b (n : Nat) (rec150 : Int → Int → Int → MM → RR) (rec179 : Int → Int → Int → Int → MM → RR) (rec250 : Int → Int → MM → RR) (v0 v1 v2 v3 v4 v5 v6 v7 v8 v9 v10 v11 v12 v14 : Int) (h : MM) : RR :=
  if v12 ≤ v14 then
    f_X12_plan_307 n rec150 rec179 v0 v1 v2 v3 v4 v5 v6 v7 v8 v9 v10 v11 v12 h
  else
  if v11 = 0 then
    f_X12_plan_298 n rec150 rec179 rec250 v0 v1 v2 v3 v4 v5 v6 v7 v8 v9 v10 v12 v14 h
  else
  if ban (shr v8 v14) 1 = 1 then
    gf h v0 12 19 fun r4 =>
    rd h r4 100 v14 fun r5 =>
    gf h v0 12 19 fun r6 =>
    rd h r6 100 v12 fun r7 =>
    gk h v0 12 <|
    bd (f_X12_isBarred n v0 r5 r7 h) fun r8 h8 =>
    if r8 = 0 then
      f_X12_plan_294 n rec150 rec179 rec250 v0 v1 v2 v3 v4 v5 v6 v7 v8 v9 v10 v12 v14 h8
    else
    f_X12_plan_298 n rec150 rec179 rec250 v0 v1 v2 v3 v4 v5 v6 v7 v8 v9 v10 v12 v14 h8
  else
  f_X12_plan_294 n rec150 rec179 rec250 v0 v1 v2 v3 v4 v5 v6 v7 v8 v9 v10 v12 v14 h
noncomputable def f_X12_plan_250 (n : Nat) (rec150 : Int → Int → Int → MM → RR) (rec179 : Int → Int → Int → Int → MM → RR) (v0 v1 v2 v3 v4 v5 v6 v7 v8 v9 v10 v12 : Int) : Nat → Int → Int → MM → RR
  | 0, _, _, _ => none
  | k + 1, v11, v14, h => f_X12_plan_250b n rec150 rec179 (f_X12_plan_250 n rec150 rec179 v0 v1 v2 v3 v4 v5 v6 v7 v8 v9 v10 v12 k) v0 v1 v2 v3 v4 v5 v6 v7 v8 v9 v10 v11 v12 v14 h
noncomputable def f_X12_plan_179b (n : Nat) (rec150 : Int → Int → Int → MM → RR) (rec179 : Int → Int → Int → Int → MM → RR) (v0 v1 v2 v3 v4 v5 v6 v7 v8 v9 v10 v11 v12 : Int) (h : MM) : RR :=
  if v5 ≤ v12 then
    if v6 = (-5) then
      f_X12_plan_347 n rec150 v0 v1 v2 v3 v4 v5 v6 v7 v8 v9 v10 v11 h
    else
    if v10 < v7 then
      f_X12_plan_347 n rec150 v0 v1 v2 v3 v4 v5 v6 v7 v8 v9 v10 v11 h
    else
    if v10 = v7 then
      bd (f_X12_many n v8 h) fun r5 h5 =>
      bd (f_X12_many n v6 h5) fun r6 h6 =>
      if r6 ≤ r5 then
        f_X12_plan_351 n rec150 v0 v1 v2 v3 v4 v5 v6 v7 v8 v9 v10 v11 h6
      else
      f_X12_plan_347 n rec150 v0 v1 v2 v3 v4 v5 v6 v7 v8 v9 v10 v11 h6
    else
    f_X12_plan_351 n rec150 v0 v1 v2 v3 v4 v5 v6 v7 v8 v9 v10 v11 h
  else
  if ban (shr v8 v12) 1 = 1 then
    gf h v0 12 1 fun r9 =>
    gf h v0 12 19 fun r10 =>
    rd h r10 100 v12 fun r11 =>
    rd h r9 100 (wr (430 + r11)) fun r12 =>
    gk h v0 12 <|
    bd (f_X12_yardsOf n v0 r12 h) fun r13 h13 =>
    lb (wr (v9 + r13)) fun x14 =>
    gf h13 v0 12 19 fun r15 =>
    rd h13 r15 100 v12 fun r16 =>
    gk h13 v0 12 <|
    bd (f_X12_claims n v0 r16 h13) fun r17 h17 =>
    lb (wr (v10 + (wr ((wr (2 * r13)) + r17)))) fun x18 =>
    f_X12_plan_250 n rec150 rec179 v0 v1 v2 v3 v4 v5 v6 v7 v8 x14 x18 v12 n v11 0 h17
  else
  f_X12_plan_307 n rec150 rec179 v0 v1 v2 v3 v4 v5 v6 v7 v8 v9 v10 v11 v12 h
noncomputable def f_X12_plan_179 (n : Nat) (rec150 : Int → Int → Int → MM → RR) (v0 v1 v2 v3 v4 v5 v6 v7 v8 : Int) : Nat → Int → Int → Int → Int → MM → RR
  | 0, _, _, _, _, _ => none
  | k + 1, v9, v10, v11, v12, h => f_X12_plan_179b n rec150 (f_X12_plan_179 n rec150 v0 v1 v2 v3 v4 v5 v6 v7 v8 k) v0 v1 v2 v3 v4 v5 v6 v7 v8 v9 v10 v11 v12 h
noncomputable def f_X12_plan_150b (n : Nat) (rec150 : Int → Int → Int → MM → RR) (v0 v1 v2 v3 v4 v5 v6 v7 v8 : Int) (h : MM) : RR :=
  if shl 1 v5 ≤ v8 then
    if v6 = (-5) then
      f_X12_plan_414 n ((-5)) h
    else
    if v4 = 0 then
      f_X12_plan_414 n v6 h
    else
    f_X12_plan_414 n v7 h
  else
  gk h v0 12 <|
  bd (f_X12_areJoined n v0 v1 v8 v5 h) fun r4 h4 =>
  f_X12_plan_179 n rec150 v0 v1 v2 v3 v4 v5 v6 v7 v8 n 0 0 r4 0 h4
noncomputable def f_X12_plan_150 (n : Nat)  (v0 v1 v2 v3 v4 v5 : Int) : Nat → Int → Int → Int → MM → RR
  | 0, _, _, _, _ => none
  | k + 1, v6, v7, v8, h => f_X12_plan_150b n  (f_X12_plan_150 n  v0 v1 v2 v3 v4 v5 k) v0 v1 v2 v3 v4 v5 v6 v7 v8 h
noncomputable def f_X12_plan_134 (n : Nat) (rec60 : Int → Int → MM → RR) (v0 v1 v2 v3 v4 v5 v6 : Int) (h : MM) : RR :=
  lb (wr (v6 + 1)) fun x1 =>
  rec60 v5 x1 h
noncomputable def f_X12_plan_60b (n : Nat) (rec60 : Int → Int → MM → RR) (v0 v1 v2 v3 v4 v5 v6 : Int) (h : MM) : RR :=
  gf h v0 12 1 fun r1 =>
  rd h r1 100 2 fun r2 =>
  if r2 ≤ v6 then
    f_X12_plan_150 n v0 v1 v2 v3 v4 v5 n ((-5)) 0 0 h
  else
  if 8 ≤ v5 then
    f_X12_plan_134 n rec60 v0 v1 v2 v3 v4 v5 v6 h
  else
  gf h v0 12 1 fun r5 =>
  rd h r5 100 (wr (370 + v6)) fun r6 =>
  if r6 = 3 then
    gf h v0 12 1 fun r8 =>
    rd h r8 100 (wr (790 + v6)) fun r9 =>
    if r9 = 0 then
      gf h v0 12 1 fun r11 =>
      rd h r11 100 0 fun r12 =>
      gk h v0 12 <|
      bd (f_X12_canBeLet n v0 v6 r12 h) fun r13 h13 =>
      if r13 = 0 then
        f_X12_plan_134 n rec60 v0 v1 v2 v3 v4 v5 v6 h13
      else
      gf h13 v0 12 19 fun r15 =>
      wt h13 r15 100 v5 v6 fun h16 =>
      lb (wr (v5 + 1)) fun x17 =>
      f_X12_plan_134 n rec60 v0 v1 v2 v3 v4 x17 v6 h16
    else
    f_X12_plan_134 n rec60 v0 v1 v2 v3 v4 v5 v6 h
  else
  f_X12_plan_134 n rec60 v0 v1 v2 v3 v4 v5 v6 h
noncomputable def f_X12_plan_60 (n : Nat)  (v0 v1 v2 v3 v4 : Int) : Nat → Int → Int → MM → RR
  | 0, _, _, _ => none
  | k + 1, v5, v6, h => f_X12_plan_60b n  (f_X12_plan_60 n  v0 v1 v2 v3 v4 k) v0 v1 v2 v3 v4 v5 v6 h
noncomputable def f_X12_plan (n : Nat) (v0 v1 v2 v3 v4 : Int) (h : MM) : RR :=
  bd (f_X12_in n v4 0 1 h) fun r1 h1 =>
  if r1 = 0 then
    some ((-1), h1)
  else
  gf h1 v0 12 1 fun r3 =>
  rd h1 r3 100 1 fun r4 =>
  bd (f_X12_in n v1 0 (wr ((shl 1 r4) - 1)) h1) fun r5 h5 =>
  if r5 = 0 then
    f_X12_plan_51 n h5
  else
  bd (f_X12_in n v2 0 99999 h5) fun r7 h7 =>
  if r7 = 0 then
    f_X12_plan_51 n h7
  else
  bd (f_X12_in n v3 0 999999 h7) fun r9 h9 =>
  if r9 = 0 then
    f_X12_plan_51 n h9
  else
  f_X12_plan_60 n v0 v1 v2 v3 v4 n 0 0 h9
set_option maxRecDepth 20000 in
theorem b_X12_plan_51 {g : GT} {Z : Int × MM} {n : Nat} (C : Cx g cX12_plan 15 yX12_plan 54 1189) (hr : Rt g (some .int) 0 Z)     {h : MM} (hf : f_X12_plan_51 n   h = some Z) : G g 51 [(3, 0), (3, 0), (3, 0), (3, 0), (3, 0), (3, 0), (3, 0), (3, 0), (3, 0), (3, 0), (3, 0), (3, 0), (3, 0), (3, 0), (3, 0)] [] h := by
  unfold f_X12_plan_51 at hf
  refine r_bipush C dX12_plan_51 rfl ?_
  cases hf
  exact r_jret C hr dX12_plan_53 (in32_of rfl)
set_option maxRecDepth 20000 in
theorem b_X12_plan_414 {g : GT} {Z : Int × MM} {n : Nat} (C : Cx g cX12_plan 15 yX12_plan 54 1189) (hr : Rt g (some .int) 0 Z) {s0 : Int}    (cs0 : in32 s0) {h : MM} (hf : f_X12_plan_414 n  s0 h = some Z) : G g 414 [(3, 0), (3, 0), (3, 0), (3, 0), (3, 0), (3, 0), (3, 0), (3, 0), (3, 0), (3, 0), (3, 0), (3, 0), (3, 0), (3, 0), (3, 0)] [(0, s0)] h := by
  unfold f_X12_plan_414 at hf
  cases hf
  exact r_jret C hr dX12_plan_414 cs0
set_option maxRecDepth 20000 in
theorem b_X12_plan_384 {g : GT} {Z : Int × MM} {n : Nat} (C : Cx g cX12_plan 15 yX12_plan 54 1189) (hr : Rt g (some .int) 0 Z) {v0 v1 v2 v3 v4 v5 v6 v7 v8 : Int}  {rec150 : Int → Int → Int → MM → RR} (L150 : ∀ (u6 u7 u8 : Int) (h : MM), in32 u6 → in32 u7 → in32 u8 → rec150 u6 u7 u8 h = some Z → G g 150 [(2, v0), (0, v1), (0, v2), (0, v3), (0, v4), (0, v5), (0, u6), (0, u7), (0, u8), (3, 0), (3, 0), (3, 0), (3, 0), (3, 0), (3, 0)] [] h) (cv1 : in32 v1) (cv2 : in32 v2) (cv3 : in32 v3) (cv4 : in32 v4) (cv5 : in32 v5) (cv6 : in32 v6) (cv7 : in32 v7) (cv8 : in32 v8) {h : MM} (hf : f_X12_plan_384 n rec150 v0 v1 v2 v3 v4 v5 v6 v7 v8 h = some Z) : G g 384 [(2, v0), (0, v1), (0, v2), (0, v3), (0, v4), (0, v5), (0, v6), (0, v7), (0, v8), (3, 0), (3, 0), (3, 0), (3, 0), (3, 0), (3, 0)] [] h := by
  unfold f_X12_plan_384 at hf
  obtain ⟨x1, e1, hf⟩ := lb_s hf
  have c1 : in32 x1 := by rw [e1]; exact (in32_t _)
  refine r_iincL C dX12_plan_384 rfl e1 (Nat.le_of_ble_eq_true rfl) rfl ?_
  refine r_goto C dX12_plan_387 (tgt := 150) (by decide) ?_
  exact G.mask [true, true, true, true, true, true, true, true, true, false, false, false, false, false, false] rfl rfl (L150 _ _ _ _ cv6 cv7 c1 hf)
set_option maxRecDepth 20000 in
theorem b_X12_plan_352 {g : GT} {Z : Int × MM} {n : Nat} (C : Cx g cX12_plan 15 yX12_plan 54 1189) (hr : Rt g (some .int) 0 Z) {v0 v1 v2 v3 v4 v5 v6 v7 v8 v9 v10 v11 s0 : Int}  {rec150 : Int → Int → Int → MM → RR} (L150 : ∀ (u6 u7 u8 : Int) (h : MM), in32 u6 → in32 u7 → in32 u8 → rec150 u6 u7 u8 h = some Z → G g 150 [(2, v0), (0, v1), (0, v2), (0, v3), (0, v4), (0, v5), (0, u6), (0, u7), (0, u8), (3, 0), (3, 0), (3, 0), (3, 0), (3, 0), (3, 0)] [] h) (cv1 : in32 v1) (cv2 : in32 v2) (cv3 : in32 v3) (cv4 : in32 v4) (cv5 : in32 v5) (cv6 : in32 v6) (cv7 : in32 v7) (cv8 : in32 v8) (cv9 : in32 v9) (cv10 : in32 v10) (cv11 : in32 v11) (cs0 : in32 s0) {h : MM} (hf : f_X12_plan_352 n rec150 v0 v1 v2 v3 v4 v5 v6 v7 v8 v9 v10 v11 s0 h = some Z) : G g 352 [(2, v0), (0, v1), (0, v2), (0, v3), (0, v4), (0, v5), (0, v6), (0, v7), (0, v8), (0, v9), (0, v10), (0, v11), (3, 0), (3, 0), (3, 0)] [(0, s0)] h := by
  unfold f_X12_plan_352 at hf
  refine r_istore C dX12_plan_352 (Nat.le_of_ble_eq_true rfl) rfl ?_
  refine r_iload C dX12_plan_354 rfl ?_
  refine r_if_eq C dX12_plan_356 (tgt := 384) (by decide) cv11 (fun n1 => ?_) (fun n1 => ?_)
  · have hf := ite_p n1 hf
    exact G.mask [true, true, true, true, true, true, true, true, true, false, false, false, false, false, false] rfl rfl (b_X12_plan_384 C hr L150 cv1 cv2 cv3 cv4 cv5 cv6 cv7 cv8 hf)
  · have hf := ite_n n1 hf
    refine r_iload C dX12_plan_359 rfl ?_
    refine r_iload_n C dX12_plan_361 rfl ?_
    refine r_icmp_gt C dX12_plan_362 (tgt := 384) (by decide) cv9 cv2 (fun n2 => ?_) (fun n2 => ?_)
    · have hf := ite_p n2 hf
      exact G.mask [true, true, true, true, true, true, true, true, true, false, false, false, false, false, false] rfl rfl (b_X12_plan_384 C hr L150 cv1 cv2 cv3 cv4 cv5 cv6 cv7 cv8 hf)
    · have hf := ite_n n2 hf
      refine r_iload C dX12_plan_365 rfl ?_
      refine r_iload_n C dX12_plan_367 rfl ?_
      refine r_icmp_gt C dX12_plan_368 (tgt := 384) (by decide) cv10 cv3 (fun n3 => ?_) (fun n3 => ?_)
      · have hf := ite_p n3 hf
        exact G.mask [true, true, true, true, true, true, true, true, true, false, false, false, false, false, false] rfl rfl (b_X12_plan_384 C hr L150 cv1 cv2 cv3 cv4 cv5 cv6 cv7 cv8 hf)
      · have hf := ite_n n3 hf
        refine r_iload C dX12_plan_371 rfl ?_
        refine r_if_eq C dX12_plan_373 (tgt := 384) (by decide) cs0 (fun n4 => ?_) (fun n4 => ?_)
        · have hf := ite_p n4 hf
          exact G.mask [true, true, true, true, true, true, true, true, true, false, false, false, false, false, false] rfl rfl (b_X12_plan_384 C hr L150 cv1 cv2 cv3 cv4 cv5 cv6 cv7 cv8 hf)
        · have hf := ite_n n4 hf
          refine r_iload C dX12_plan_376 rfl ?_
          refine r_istore C dX12_plan_378 (Nat.le_of_ble_eq_true rfl) rfl ?_
          refine r_iload C dX12_plan_380 rfl ?_
          refine r_istore C dX12_plan_382 (Nat.le_of_ble_eq_true rfl) rfl ?_
          exact G.mask [true, true, true, true, true, true, true, true, true, false, false, false, false, false, false] rfl rfl (b_X12_plan_384 C hr L150 cv1 cv2 cv3 cv4 cv5 cv8 cv10 cv8 hf)
set_option maxRecDepth 20000 in
theorem b_X12_plan_347 {g : GT} {Z : Int × MM} {n : Nat} (C : Cx g cX12_plan 15 yX12_plan 54 1189) (hr : Rt g (some .int) 0 Z) {v0 v1 v2 v3 v4 v5 v6 v7 v8 v9 v10 v11 : Int}  {rec150 : Int → Int → Int → MM → RR} (L150 : ∀ (u6 u7 u8 : Int) (h : MM), in32 u6 → in32 u7 → in32 u8 → rec150 u6 u7 u8 h = some Z → G g 150 [(2, v0), (0, v1), (0, v2), (0, v3), (0, v4), (0, v5), (0, u6), (0, u7), (0, u8), (3, 0), (3, 0), (3, 0), (3, 0), (3, 0), (3, 0)] [] h) (cv1 : in32 v1) (cv2 : in32 v2) (cv3 : in32 v3) (cv4 : in32 v4) (cv5 : in32 v5) (cv6 : in32 v6) (cv7 : in32 v7) (cv8 : in32 v8) (cv9 : in32 v9) (cv10 : in32 v10) (cv11 : in32 v11) {h : MM} (hf : f_X12_plan_347 n rec150 v0 v1 v2 v3 v4 v5 v6 v7 v8 v9 v10 v11 h = some Z) : G g 347 [(2, v0), (0, v1), (0, v2), (0, v3), (0, v4), (0, v5), (0, v6), (0, v7), (0, v8), (0, v9), (0, v10), (0, v11), (3, 0), (3, 0), (3, 0)] [] h := by
  unfold f_X12_plan_347 at hf
  refine r_iconst C dX12_plan_347 ?_
  refine r_goto C dX12_plan_348 (tgt := 352) (by decide) ?_
  exact G.mask [true, true, true, true, true, true, true, true, true, true, true, true, false, false, false] rfl rfl (b_X12_plan_352 C hr L150 cv1 cv2 cv3 cv4 cv5 cv6 cv7 cv8 cv9 cv10 cv11 (in32_of rfl) hf)
set_option maxRecDepth 20000 in
theorem b_X12_plan_351 {g : GT} {Z : Int × MM} {n : Nat} (C : Cx g cX12_plan 15 yX12_plan 54 1189) (hr : Rt g (some .int) 0 Z) {v0 v1 v2 v3 v4 v5 v6 v7 v8 v9 v10 v11 : Int}  {rec150 : Int → Int → Int → MM → RR} (L150 : ∀ (u6 u7 u8 : Int) (h : MM), in32 u6 → in32 u7 → in32 u8 → rec150 u6 u7 u8 h = some Z → G g 150 [(2, v0), (0, v1), (0, v2), (0, v3), (0, v4), (0, v5), (0, u6), (0, u7), (0, u8), (3, 0), (3, 0), (3, 0), (3, 0), (3, 0), (3, 0)] [] h) (cv1 : in32 v1) (cv2 : in32 v2) (cv3 : in32 v3) (cv4 : in32 v4) (cv5 : in32 v5) (cv6 : in32 v6) (cv7 : in32 v7) (cv8 : in32 v8) (cv9 : in32 v9) (cv10 : in32 v10) (cv11 : in32 v11) {h : MM} (hf : f_X12_plan_351 n rec150 v0 v1 v2 v3 v4 v5 v6 v7 v8 v9 v10 v11 h = some Z) : G g 351 [(2, v0), (0, v1), (0, v2), (0, v3), (0, v4), (0, v5), (0, v6), (0, v7), (0, v8), (0, v9), (0, v10), (0, v11), (3, 0), (3, 0), (3, 0)] [] h := by
  unfold f_X12_plan_351 at hf
  refine r_iconst C dX12_plan_351 ?_
  exact G.mask [true, true, true, true, true, true, true, true, true, true, true, true, false, false, false] rfl rfl (b_X12_plan_352 C hr L150 cv1 cv2 cv3 cv4 cv5 cv6 cv7 cv8 cv9 cv10 cv11 (in32_of rfl) hf)
set_option maxRecDepth 20000 in
theorem b_X12_plan_307 {g : GT} {Z : Int × MM} {n : Nat} (C : Cx g cX12_plan 15 yX12_plan 54 1189) (hr : Rt g (some .int) 0 Z) {v0 v1 v2 v3 v4 v5 v6 v7 v8 v9 v10 v11 v12 : Int}  {rec150 : Int → Int → Int → MM → RR} {rec179 : Int → Int → Int → Int → MM → RR} (L150 : ∀ (u6 u7 u8 : Int) (h : MM), in32 u6 → in32 u7 → in32 u8 → rec150 u6 u7 u8 h = some Z → G g 150 [(2, v0), (0, v1), (0, v2), (0, v3), (0, v4), (0, v5), (0, u6), (0, u7), (0, u8), (3, 0), (3, 0), (3, 0), (3, 0), (3, 0), (3, 0)] [] h) (L179 : ∀ (u9 u10 u11 u12 : Int) (h : MM), in32 u9 → in32 u10 → in32 u11 → in32 u12 → rec179 u9 u10 u11 u12 h = some Z → G g 179 [(2, v0), (0, v1), (0, v2), (0, v3), (0, v4), (0, v5), (0, v6), (0, v7), (0, v8), (0, u9), (0, u10), (0, u11), (0, u12), (3, 0), (3, 0)] [] h) (cv1 : in32 v1) (cv2 : in32 v2) (cv3 : in32 v3) (cv4 : in32 v4) (cv5 : in32 v5) (cv6 : in32 v6) (cv7 : in32 v7) (cv8 : in32 v8) (cv9 : in32 v9) (cv10 : in32 v10) (cv11 : in32 v11) (cv12 : in32 v12) {h : MM} (hf : f_X12_plan_307 n rec150 rec179 v0 v1 v2 v3 v4 v5 v6 v7 v8 v9 v10 v11 v12 h = some Z) : G g 307 [(2, v0), (0, v1), (0, v2), (0, v3), (0, v4), (0, v5), (0, v6), (0, v7), (0, v8), (0, v9), (0, v10), (0, v11), (0, v12), (3, 0), (3, 0)] [] h := by
  unfold f_X12_plan_307 at hf
  obtain ⟨x1, e1, hf⟩ := lb_s hf
  have c1 : in32 x1 := by rw [e1]; exact (in32_t _)
  refine r_iincL C dX12_plan_307 rfl e1 (Nat.le_of_ble_eq_true rfl) rfl ?_
  refine r_goto C dX12_plan_310 (tgt := 179) (by decide) ?_
  exact G.mask [true, true, true, true, true, true, true, true, true, true, true, true, true, false, false] rfl rfl (L179 _ _ _ _ _ cv9 cv10 cv11 c1 hf)
set_option maxRecDepth 20000 in
theorem b_X12_plan_299 {g : GT} {Z : Int × MM} {n : Nat} (C : Cx g cX12_plan 15 yX12_plan 54 1189) (hr : Rt g (some .int) 0 Z) {v0 v1 v2 v3 v4 v5 v6 v7 v8 v9 v10 v12 v14 s0 : Int}  {rec150 : Int → Int → Int → MM → RR} {rec179 : Int → Int → Int → Int → MM → RR} {rec250 : Int → Int → MM → RR} (L150 : ∀ (u6 u7 u8 : Int) (h : MM), in32 u6 → in32 u7 → in32 u8 → rec150 u6 u7 u8 h = some Z → G g 150 [(2, v0), (0, v1), (0, v2), (0, v3), (0, v4), (0, v5), (0, u6), (0, u7), (0, u8), (3, 0), (3, 0), (3, 0), (3, 0), (3, 0), (3, 0)] [] h) (L179 : ∀ (u9 u10 u11 u12 : Int) (h : MM), in32 u9 → in32 u10 → in32 u11 → in32 u12 → rec179 u9 u10 u11 u12 h = some Z → G g 179 [(2, v0), (0, v1), (0, v2), (0, v3), (0, v4), (0, v5), (0, v6), (0, v7), (0, v8), (0, u9), (0, u10), (0, u11), (0, u12), (3, 0), (3, 0)] [] h) (L250 : ∀ (u11 u14 : Int) (h : MM), in32 u11 → in32 u14 → rec250 u11 u14 h = some Z → G g 250 [(2, v0), (0, v1), (0, v2), (0, v3), (0, v4), (0, v5), (0, v6), (0, v7), (0, v8), (0, v9), (0, v10), (0, u11), (0, v12), (3, 0), (0, u14)] [] h) (cv1 : in32 v1) (cv2 : in32 v2) (cv3 : in32 v3) (cv4 : in32 v4) (cv5 : in32 v5) (cv6 : in32 v6) (cv7 : in32 v7) (cv8 : in32 v8) (cv9 : in32 v9) (cv10 : in32 v10) (cv12 : in32 v12) (cv14 : in32 v14) (cs0 : in32 s0) {h : MM} (hf : f_X12_plan_299 n rec150 rec179 rec250 v0 v1 v2 v3 v4 v5 v6 v7 v8 v9 v10 v12 v14 s0 h = some Z) : G g 299 [(2, v0), (0, v1), (0, v2), (0, v3), (0, v4), (0, v5), (0, v6), (0, v7), (0, v8), (0, v9), (0, v10), (3, 0), (0, v12), (3, 0), (0, v14)] [(0, s0)] h := by
  unfold f_X12_plan_299 at hf
  refine r_istore C dX12_plan_299 (Nat.le_of_ble_eq_true rfl) rfl ?_
  obtain ⟨x1, e1, hf⟩ := lb_s hf
  have c1 : in32 x1 := by rw [e1]; exact (in32_t _)
  refine r_iincL C dX12_plan_301 rfl e1 (Nat.le_of_ble_eq_true rfl) rfl ?_
  refine r_goto C dX12_plan_304 (tgt := 250) (by decide) ?_
  exact G.mask [true, true, true, true, true, true, true, true, true, true, true, true, true, false, true] rfl rfl (L250 _ _ _ cs0 c1 hf)
set_option maxRecDepth 20000 in
theorem b_X12_plan_298 {g : GT} {Z : Int × MM} {n : Nat} (C : Cx g cX12_plan 15 yX12_plan 54 1189) (hr : Rt g (some .int) 0 Z) {v0 v1 v2 v3 v4 v5 v6 v7 v8 v9 v10 v12 v14 : Int}  {rec150 : Int → Int → Int → MM → RR} {rec179 : Int → Int → Int → Int → MM → RR} {rec250 : Int → Int → MM → RR} (L150 : ∀ (u6 u7 u8 : Int) (h : MM), in32 u6 → in32 u7 → in32 u8 → rec150 u6 u7 u8 h = some Z → G g 150 [(2, v0), (0, v1), (0, v2), (0, v3), (0, v4), (0, v5), (0, u6), (0, u7), (0, u8), (3, 0), (3, 0), (3, 0), (3, 0), (3, 0), (3, 0)] [] h) (L179 : ∀ (u9 u10 u11 u12 : Int) (h : MM), in32 u9 → in32 u10 → in32 u11 → in32 u12 → rec179 u9 u10 u11 u12 h = some Z → G g 179 [(2, v0), (0, v1), (0, v2), (0, v3), (0, v4), (0, v5), (0, v6), (0, v7), (0, v8), (0, u9), (0, u10), (0, u11), (0, u12), (3, 0), (3, 0)] [] h) (L250 : ∀ (u11 u14 : Int) (h : MM), in32 u11 → in32 u14 → rec250 u11 u14 h = some Z → G g 250 [(2, v0), (0, v1), (0, v2), (0, v3), (0, v4), (0, v5), (0, v6), (0, v7), (0, v8), (0, v9), (0, v10), (0, u11), (0, v12), (3, 0), (0, u14)] [] h) (cv1 : in32 v1) (cv2 : in32 v2) (cv3 : in32 v3) (cv4 : in32 v4) (cv5 : in32 v5) (cv6 : in32 v6) (cv7 : in32 v7) (cv8 : in32 v8) (cv9 : in32 v9) (cv10 : in32 v10) (cv12 : in32 v12) (cv14 : in32 v14) {h : MM} (hf : f_X12_plan_298 n rec150 rec179 rec250 v0 v1 v2 v3 v4 v5 v6 v7 v8 v9 v10 v12 v14 h = some Z) : G g 298 [(2, v0), (0, v1), (0, v2), (0, v3), (0, v4), (0, v5), (0, v6), (0, v7), (0, v8), (0, v9), (0, v10), (3, 0), (0, v12), (3, 0), (0, v14)] [] h := by
  unfold f_X12_plan_298 at hf
  refine r_iconst C dX12_plan_298 ?_
  exact G.mask [true, true, true, true, true, true, true, true, true, true, true, false, true, false, true] rfl rfl (b_X12_plan_299 C hr L150 L179 L250 cv1 cv2 cv3 cv4 cv5 cv6 cv7 cv8 cv9 cv10 cv12 cv14 (in32_of rfl) hf)
set_option maxRecDepth 20000 in
theorem b_X12_plan_294 {g : GT} {Z : Int × MM} {n : Nat} (C : Cx g cX12_plan 15 yX12_plan 54 1189) (hr : Rt g (some .int) 0 Z) {v0 v1 v2 v3 v4 v5 v6 v7 v8 v9 v10 v12 v14 : Int}  {rec150 : Int → Int → Int → MM → RR} {rec179 : Int → Int → Int → Int → MM → RR} {rec250 : Int → Int → MM → RR} (L150 : ∀ (u6 u7 u8 : Int) (h : MM), in32 u6 → in32 u7 → in32 u8 → rec150 u6 u7 u8 h = some Z → G g 150 [(2, v0), (0, v1), (0, v2), (0, v3), (0, v4), (0, v5), (0, u6), (0, u7), (0, u8), (3, 0), (3, 0), (3, 0), (3, 0), (3, 0), (3, 0)] [] h) (L179 : ∀ (u9 u10 u11 u12 : Int) (h : MM), in32 u9 → in32 u10 → in32 u11 → in32 u12 → rec179 u9 u10 u11 u12 h = some Z → G g 179 [(2, v0), (0, v1), (0, v2), (0, v3), (0, v4), (0, v5), (0, v6), (0, v7), (0, v8), (0, u9), (0, u10), (0, u11), (0, u12), (3, 0), (3, 0)] [] h) (L250 : ∀ (u11 u14 : Int) (h : MM), in32 u11 → in32 u14 → rec250 u11 u14 h = some Z → G g 250 [(2, v0), (0, v1), (0, v2), (0, v3), (0, v4), (0, v5), (0, v6), (0, v7), (0, v8), (0, v9), (0, v10), (0, u11), (0, v12), (3, 0), (0, u14)] [] h) (cv1 : in32 v1) (cv2 : in32 v2) (cv3 : in32 v3) (cv4 : in32 v4) (cv5 : in32 v5) (cv6 : in32 v6) (cv7 : in32 v7) (cv8 : in32 v8) (cv9 : in32 v9) (cv10 : in32 v10) (cv12 : in32 v12) (cv14 : in32 v14) {h : MM} (hf : f_X12_plan_294 n rec150 rec179 rec250 v0 v1 v2 v3 v4 v5 v6 v7 v8 v9 v10 v12 v14 h = some Z) : G g 294 [(2, v0), (0, v1), (0, v2), (0, v3), (0, v4), (0, v5), (0, v6), (0, v7), (0, v8), (0, v9), (0, v10), (3, 0), (0, v12), (3, 0), (0, v14)] [] h := by
  unfold f_X12_plan_294 at hf
  refine r_iconst C dX12_plan_294 ?_
  refine r_goto C dX12_plan_295 (tgt := 299) (by decide) ?_
  exact G.mask [true, true, true, true, true, true, true, true, true, true, true, false, true, false, true] rfl rfl (b_X12_plan_299 C hr L150 L179 L250 cv1 cv2 cv3 cv4 cv5 cv6 cv7 cv8 cv9 cv10 cv12 cv14 (in32_of rfl) hf)
set_option maxRecDepth 20000 in
theorem b_X12_plan_250b {g : GT} {Z : Int × MM} {n : Nat} (C : Cx g cX12_plan 15 yX12_plan 54 1189) (hr : Rt g (some .int) 0 Z) {v0 v1 v2 v3 v4 v5 v6 v7 v8 v9 v10 v11 v12 v14 : Int}  {rec150 : Int → Int → Int → MM → RR} {rec179 : Int → Int → Int → Int → MM → RR} {rec250 : Int → Int → MM → RR} (L150 : ∀ (u6 u7 u8 : Int) (h : MM), in32 u6 → in32 u7 → in32 u8 → rec150 u6 u7 u8 h = some Z → G g 150 [(2, v0), (0, v1), (0, v2), (0, v3), (0, v4), (0, v5), (0, u6), (0, u7), (0, u8), (3, 0), (3, 0), (3, 0), (3, 0), (3, 0), (3, 0)] [] h) (L179 : ∀ (u9 u10 u11 u12 : Int) (h : MM), in32 u9 → in32 u10 → in32 u11 → in32 u12 → rec179 u9 u10 u11 u12 h = some Z → G g 179 [(2, v0), (0, v1), (0, v2), (0, v3), (0, v4), (0, v5), (0, v6), (0, v7), (0, v8), (0, u9), (0, u10), (0, u11), (0, u12), (3, 0), (3, 0)] [] h) (L250 : ∀ (u11 u14 : Int) (h : MM), in32 u11 → in32 u14 → rec250 u11 u14 h = some Z → G g 250 [(2, v0), (0, v1), (0, v2), (0, v3), (0, v4), (0, v5), (0, v6), (0, v7), (0, v8), (0, v9), (0, v10), (0, u11), (0, v12), (3, 0), (0, u14)] [] h) (cv1 : in32 v1) (cv2 : in32 v2) (cv3 : in32 v3) (cv4 : in32 v4) (cv5 : in32 v5) (cv6 : in32 v6) (cv7 : in32 v7) (cv8 : in32 v8) (cv9 : in32 v9) (cv10 : in32 v10) (cv11 : in32 v11) (cv12 : in32 v12) (cv14 : in32 v14) {h : MM} (hf : f_X12_plan_250b n rec150 rec179 rec250 v0 v1 v2 v3 v4 v5 v6 v7 v8 v9 v10 v11 v12 v14 h = some Z) : G g 250 [(2, v0), (0, v1), (0, v2), (0, v3), (0, v4), (0, v5), (0, v6), (0, v7), (0, v8), (0, v9), (0, v10), (0, v11), (0, v12), (3, 0), (0, v14)] [] h := by
  unfold f_X12_plan_250b at hf
  refine r_iload C dX12_plan_250 rfl ?_
  refine r_iload C dX12_plan_252 rfl ?_
  refine r_icmp_ge C dX12_plan_254 (tgt := 307) (by decide) cv14 cv12 (fun n1 => ?_) (fun n1 => ?_)
  · have hf := ite_p n1 hf
    exact G.mask [true, true, true, true, true, true, true, true, true, true, true, true, true, false, false] rfl rfl (b_X12_plan_307 C hr L150 L179 cv1 cv2 cv3 cv4 cv5 cv6 cv7 cv8 cv9 cv10 cv11 cv12 hf)
  · have hf := ite_n n1 hf
    refine r_iload C dX12_plan_257 rfl ?_
    refine r_if_eq C dX12_plan_259 (tgt := 298) (by decide) cv11 (fun n2 => ?_) (fun n2 => ?_)
    · have hf := ite_p n2 hf
      exact G.mask [true, true, true, true, true, true, true, true, true, true, true, false, true, false, true] rfl rfl (b_X12_plan_298 C hr L150 L179 L250 cv1 cv2 cv3 cv4 cv5 cv6 cv7 cv8 cv9 cv10 cv12 cv14 hf)
    · have hf := ite_n n2 hf
      refine r_iload C dX12_plan_262 rfl ?_
      refine r_iload C dX12_plan_264 rfl ?_
      refine r_ishr C dX12_plan_266 ?_
      refine r_iconst C dX12_plan_267 ?_
      refine r_iand C dX12_plan_268 ?_
      refine r_iconst C dX12_plan_269 ?_
      refine r_icmp_ne C dX12_plan_270 (tgt := 294) (by decide) (in32_t _) (in32_of rfl) (fun n3 => ?_) (fun n3 => ?_)
      · have hf := ite_n n3 hf
        exact G.mask [true, true, true, true, true, true, true, true, true, true, true, false, true, false, true] rfl rfl (b_X12_plan_294 C hr L150 L179 L250 cv1 cv2 cv3 cv4 cv5 cv6 cv7 cv8 cv9 cv10 cv12 cv14 hf)
      · have hf := ite_p n3 hf
        refine r_aload_n C dX12_plan_273 rfl ?_
        refine r_aload_n C dX12_plan_274 rfl ?_
        obtain ⟨q4, hf⟩ := gf_s hf
        refine r_gf C ct12 (j := 19) (ji := 19) dX12_plan_275 q4 rfl rfl (by decide) w_1444 rfl (fun c4 => ?_)
        refine r_iload C dX12_plan_278 rfl ?_
        obtain ⟨q5, hf⟩ := rd_s hf
        refine r_iald C dX12_plan_280 q5 rfl (fun c5 => ?_)
        refine r_aload_n C dX12_plan_281 rfl ?_
        obtain ⟨q6, hf⟩ := gf_s hf
        refine r_gf C ct12 (j := 19) (ji := 19) dX12_plan_282 q6 rfl rfl (by decide) w_1444 rfl (fun c6 => ?_)
        refine r_iload C dX12_plan_285 rfl ?_
        obtain ⟨q7, hf⟩ := rd_s hf
        refine r_iald C dX12_plan_287 q7 rfl (fun c7 => ?_)
        obtain ⟨p8, hf⟩ := gk_s hf
        obtain ⟨r8, h8, hq8, hf⟩ := bd_s hf
        refine r_cV2 C (am_X12_isBarred (gl g) n) cm_X12_isBarred w_1710 dX12_plan_288 ⟨Nat.le_of_ble_eq_true rfl, Nat.le_of_ble_eq_true rfl⟩ p8 rfl c5 c7 rfl (Nat.le_of_ble_eq_true rfl) hq8 (by decide) (fun c8 => ?_)
        have c8 : in32 _ := c8
        refine r_if_ne C dX12_plan_291 (tgt := 298) (by decide) c8 (fun n9 => ?_) (fun n9 => ?_)
        · have hf := ite_n n9 hf
          exact G.mask [true, true, true, true, true, true, true, true, true, true, true, false, true, false, true] rfl rfl (b_X12_plan_298 C hr L150 L179 L250 cv1 cv2 cv3 cv4 cv5 cv6 cv7 cv8 cv9 cv10 cv12 cv14 hf)
        · have hf := ite_p n9 hf
          exact G.mask [true, true, true, true, true, true, true, true, true, true, true, false, true, false, true] rfl rfl (b_X12_plan_294 C hr L150 L179 L250 cv1 cv2 cv3 cv4 cv5 cv6 cv7 cv8 cv9 cv10 cv12 cv14 hf)
set_option maxRecDepth 20000 in
theorem l_X12_plan_250 {g : GT} {Z : Int × MM} {n : Nat} (C : Cx g cX12_plan 15 yX12_plan 54 1189) (hr : Rt g (some .int) 0 Z) {v0 v1 v2 v3 v4 v5 v6 v7 v8 v9 v10 v12 : Int} {rec150 : Int → Int → Int → MM → RR} {rec179 : Int → Int → Int → Int → MM → RR} (L150 : ∀ (u6 u7 u8 : Int) (h : MM), in32 u6 → in32 u7 → in32 u8 → rec150 u6 u7 u8 h = some Z → G g 150 [(2, v0), (0, v1), (0, v2), (0, v3), (0, v4), (0, v5), (0, u6), (0, u7), (0, u8), (3, 0), (3, 0), (3, 0), (3, 0), (3, 0), (3, 0)] [] h) (L179 : ∀ (u9 u10 u11 u12 : Int) (h : MM), in32 u9 → in32 u10 → in32 u11 → in32 u12 → rec179 u9 u10 u11 u12 h = some Z → G g 179 [(2, v0), (0, v1), (0, v2), (0, v3), (0, v4), (0, v5), (0, v6), (0, v7), (0, v8), (0, u9), (0, u10), (0, u11), (0, u12), (3, 0), (3, 0)] [] h) (cv1 : in32 v1) (cv2 : in32 v2) (cv3 : in32 v3) (cv4 : in32 v4) (cv5 : in32 v5) (cv6 : in32 v6) (cv7 : in32 v7) (cv8 : in32 v8) (cv9 : in32 v9) (cv10 : in32 v10) (cv12 : in32 v12) : ∀ (k : Nat) (v11 v14 : Int) (h : MM), in32 v11 → in32 v14 → f_X12_plan_250 n rec150 rec179 v0 v1 v2 v3 v4 v5 v6 v7 v8 v9 v10 v12 k v11 v14 h = some Z → G g 250 [(2, v0), (0, v1), (0, v2), (0, v3), (0, v4), (0, v5), (0, v6), (0, v7), (0, v8), (0, v9), (0, v10), (0, v11), (0, v12), (3, 0), (0, v14)] [] h := by
  intro k
  induction k with
  | zero => intro v11 v14 h cv11 cv14 hf; exact absurd hf (by intro z; cases z)
  | succ k ih => intro v11 v14 h cv11 cv14 hf; exact b_X12_plan_250b C hr (rec250 := f_X12_plan_250 n rec150 rec179 v0 v1 v2 v3 v4 v5 v6 v7 v8 v9 v10 v12 k) L150 L179 ih cv1 cv2 cv3 cv4 cv5 cv6 cv7 cv8 cv9 cv10 cv11 cv12 cv14 (show f_X12_plan_250b n rec150 rec179 (f_X12_plan_250 n rec150 rec179 v0 v1 v2 v3 v4 v5 v6 v7 v8 v9 v10 v12 k) v0 v1 v2 v3 v4 v5 v6 v7 v8 v9 v10 v11 v12 v14 h = some Z from hf)
set_option maxRecDepth 20000 in
theorem b_X12_plan_179b {g : GT} {Z : Int × MM} {n : Nat} (C : Cx g cX12_plan 15 yX12_plan 54 1189) (hr : Rt g (some .int) 0 Z) {v0 v1 v2 v3 v4 v5 v6 v7 v8 v9 v10 v11 v12 : Int}  {rec150 : Int → Int → Int → MM → RR} {rec179 : Int → Int → Int → Int → MM → RR} (L150 : ∀ (u6 u7 u8 : Int) (h : MM), in32 u6 → in32 u7 → in32 u8 → rec150 u6 u7 u8 h = some Z → G g 150 [(2, v0), (0, v1), (0, v2), (0, v3), (0, v4), (0, v5), (0, u6), (0, u7), (0, u8), (3, 0), (3, 0), (3, 0), (3, 0), (3, 0), (3, 0)] [] h) (L179 : ∀ (u9 u10 u11 u12 : Int) (h : MM), in32 u9 → in32 u10 → in32 u11 → in32 u12 → rec179 u9 u10 u11 u12 h = some Z → G g 179 [(2, v0), (0, v1), (0, v2), (0, v3), (0, v4), (0, v5), (0, v6), (0, v7), (0, v8), (0, u9), (0, u10), (0, u11), (0, u12), (3, 0), (3, 0)] [] h) (cv1 : in32 v1) (cv2 : in32 v2) (cv3 : in32 v3) (cv4 : in32 v4) (cv5 : in32 v5) (cv6 : in32 v6) (cv7 : in32 v7) (cv8 : in32 v8) (cv9 : in32 v9) (cv10 : in32 v10) (cv11 : in32 v11) (cv12 : in32 v12) {h : MM} (hf : f_X12_plan_179b n rec150 rec179 v0 v1 v2 v3 v4 v5 v6 v7 v8 v9 v10 v11 v12 h = some Z) : G g 179 [(2, v0), (0, v1), (0, v2), (0, v3), (0, v4), (0, v5), (0, v6), (0, v7), (0, v8), (0, v9), (0, v10), (0, v11), (0, v12), (3, 0), (3, 0)] [] h := by
  unfold f_X12_plan_179b at hf
  refine r_iload C dX12_plan_179 rfl ?_
  refine r_iload C dX12_plan_181 rfl ?_
  refine r_icmp_ge C dX12_plan_183 (tgt := 313) (by decide) cv12 cv5 (fun n1 => ?_) (fun n1 => ?_)
  · have hf := ite_p n1 hf
    refine r_iload C dX12_plan_313 rfl ?_
    refine r_bipush C dX12_plan_315 rfl ?_
    refine r_icmp_eq C dX12_plan_317 (tgt := 347) (by decide) cv6 (in32_of rfl) (fun n2 => ?_) (fun n2 => ?_)
    · have hf := ite_p n2 hf
      exact G.mask [true, true, true, true, true, true, true, true, true, true, true, true, false, false, false] rfl rfl (b_X12_plan_347 C hr L150 cv1 cv2 cv3 cv4 cv5 cv6 cv7 cv8 cv9 cv10 cv11 hf)
    · have hf := ite_n n2 hf
      refine r_iload C dX12_plan_320 rfl ?_
      refine r_iload C dX12_plan_322 rfl ?_
      refine r_icmp_lt C dX12_plan_324 (tgt := 347) (by decide) cv10 cv7 (fun n3 => ?_) (fun n3 => ?_)
      · have hf := ite_p n3 hf
        exact G.mask [true, true, true, true, true, true, true, true, true, true, true, true, false, false, false] rfl rfl (b_X12_plan_347 C hr L150 cv1 cv2 cv3 cv4 cv5 cv6 cv7 cv8 cv9 cv10 cv11 hf)
      · have hf := ite_n n3 hf
        refine r_iload C dX12_plan_327 rfl ?_
        refine r_iload C dX12_plan_329 rfl ?_
        refine r_icmp_ne C dX12_plan_331 (tgt := 351) (by decide) cv10 cv7 (fun n4 => ?_) (fun n4 => ?_)
        · have hf := ite_n n4 hf
          exact G.mask [true, true, true, true, true, true, true, true, true, true, true, true, false, false, false] rfl rfl (b_X12_plan_351 C hr L150 cv1 cv2 cv3 cv4 cv5 cv6 cv7 cv8 cv9 cv10 cv11 hf)
        · have hf := ite_p n4 hf
          refine r_iload C dX12_plan_334 rfl ?_
          obtain ⟨r5, h5, hq5, hf⟩ := bd_s hf
          refine r_cS1 C (am_X12_many (gl g) n) cm_X12_many w_1861 dX12_plan_336 ⟨Nat.le_of_ble_eq_true rfl, Nat.le_of_ble_eq_true rfl⟩ cv8 rfl (Nat.le_of_ble_eq_true rfl) hq5 (by decide) (fun c5 => ?_)
          have c5 : in32 _ := c5
          refine r_iload C dX12_plan_339 rfl ?_
          obtain ⟨r6, h6, hq6, hf⟩ := bd_s hf
          refine r_cS1 C (am_X12_many (gl g) n) cm_X12_many w_1861 dX12_plan_341 ⟨Nat.le_of_ble_eq_true rfl, Nat.le_of_ble_eq_true rfl⟩ cv6 rfl (Nat.le_of_ble_eq_true rfl) hq6 (by decide) (fun c6 => ?_)
          have c6 : in32 _ := c6
          refine r_icmp_ge C dX12_plan_344 (tgt := 351) (by decide) c5 c6 (fun n7 => ?_) (fun n7 => ?_)
          · have hf := ite_p n7 hf
            exact G.mask [true, true, true, true, true, true, true, true, true, true, true, true, false, false, false] rfl rfl (b_X12_plan_351 C hr L150 cv1 cv2 cv3 cv4 cv5 cv6 cv7 cv8 cv9 cv10 cv11 hf)
          · have hf := ite_n n7 hf
            exact G.mask [true, true, true, true, true, true, true, true, true, true, true, true, false, false, false] rfl rfl (b_X12_plan_347 C hr L150 cv1 cv2 cv3 cv4 cv5 cv6 cv7 cv8 cv9 cv10 cv11 hf)
  · have hf := ite_n n1 hf
    refine r_iload C dX12_plan_186 rfl ?_
    refine r_iload C dX12_plan_188 rfl ?_
    refine r_ishr C dX12_plan_190 ?_
    refine r_iconst C dX12_plan_191 ?_
    refine r_iand C dX12_plan_192 ?_
    refine r_iconst C dX12_plan_193 ?_
    refine r_icmp_ne C dX12_plan_194 (tgt := 307) (by decide) (in32_t _) (in32_of rfl) (fun n8 => ?_) (fun n8 => ?_)
    · have hf := ite_n n8 hf
      exact G.mask [true, true, true, true, true, true, true, true, true, true, true, true, true, false, false] rfl rfl (b_X12_plan_307 C hr L150 L179 cv1 cv2 cv3 cv4 cv5 cv6 cv7 cv8 cv9 cv10 cv11 cv12 hf)
    · have hf := ite_p n8 hf
      refine r_aload_n C dX12_plan_197 rfl ?_
      refine r_aload_n C dX12_plan_198 rfl ?_
      obtain ⟨q9, hf⟩ := gf_s hf
      refine r_gf C ct12 (j := 1) (ji := 1) dX12_plan_199 q9 rfl rfl (by decide) w_1426 rfl (fun c9 => ?_)
      refine r_sipush C dX12_plan_202 rfl ?_
      refine r_aload_n C dX12_plan_205 rfl ?_
      obtain ⟨q10, hf⟩ := gf_s hf
      refine r_gf C ct12 (j := 19) (ji := 19) dX12_plan_206 q10 rfl rfl (by decide) w_1444 rfl (fun c10 => ?_)
      refine r_iload C dX12_plan_209 rfl ?_
      obtain ⟨q11, hf⟩ := rd_s hf
      refine r_iald C dX12_plan_211 q11 rfl (fun c11 => ?_)
      refine r_iadd C dX12_plan_212 ?_
      obtain ⟨q12, hf⟩ := rd_s hf
      refine r_iald C dX12_plan_213 q12 rfl (fun c12 => ?_)
      obtain ⟨p13, hf⟩ := gk_s hf
      obtain ⟨r13, h13, hq13, hf⟩ := bd_s hf
      refine r_cV1 C (am_X12_yardsOf (gl g) n) cm_X12_yardsOf w_1639 dX12_plan_214 ⟨Nat.le_of_ble_eq_true rfl, Nat.le_of_ble_eq_true rfl⟩ p13 rfl c12 rfl (Nat.le_of_ble_eq_true rfl) hq13 (by decide) (fun c13 => ?_)
      have c13 : in32 _ := c13
      refine r_istore C dX12_plan_217 (Nat.le_of_ble_eq_true rfl) rfl ?_
      refine r_iload C dX12_plan_219 rfl ?_
      refine r_iload C dX12_plan_221 rfl ?_
      refine r_iadd C dX12_plan_223 ?_
      obtain ⟨x14, e14, hf⟩ := lb_s hf
      have c14 : in32 x14 := by rw [e14]; exact (in32_t _)
      refine r_istoreL C dX12_plan_224 e14 (Nat.le_of_ble_eq_true rfl) rfl ?_
      refine r_iload C dX12_plan_226 rfl ?_
      refine r_iconst C dX12_plan_228 ?_
      refine r_iload C dX12_plan_229 rfl ?_
      refine r_imul C dX12_plan_231 ?_
      refine r_aload_n C dX12_plan_232 rfl ?_
      refine r_aload_n C dX12_plan_233 rfl ?_
      obtain ⟨q15, hf⟩ := gf_s hf
      refine r_gf C ct12 (j := 19) (ji := 19) dX12_plan_234 q15 rfl rfl (by decide) w_1444 rfl (fun c15 => ?_)
      refine r_iload C dX12_plan_237 rfl ?_
      obtain ⟨q16, hf⟩ := rd_s hf
      refine r_iald C dX12_plan_239 q16 rfl (fun c16 => ?_)
      obtain ⟨p17, hf⟩ := gk_s hf
      obtain ⟨r17, h17, hq17, hf⟩ := bd_s hf
      refine r_cV1 C (am_X12_claims (gl g) n) cm_X12_claims w_1702 dX12_plan_240 ⟨Nat.le_of_ble_eq_true rfl, Nat.le_of_ble_eq_true rfl⟩ p17 rfl c16 rfl (Nat.le_of_ble_eq_true rfl) hq17 (by decide) (fun c17 => ?_)
      have c17 : in32 _ := c17
      refine r_iadd C dX12_plan_243 ?_
      refine r_iadd C dX12_plan_244 ?_
      obtain ⟨x18, e18, hf⟩ := lb_s hf
      have c18 : in32 x18 := by rw [e18]; exact (in32_t _)
      refine r_istoreL C dX12_plan_245 e18 (Nat.le_of_ble_eq_true rfl) rfl ?_
      refine r_iconst C dX12_plan_247 ?_
      refine r_istore C dX12_plan_248 (Nat.le_of_ble_eq_true rfl) rfl ?_
      exact G.mask [true, true, true, true, true, true, true, true, true, true, true, true, true, false, true] rfl rfl (l_X12_plan_250 C hr L150 L179 cv1 cv2 cv3 cv4 cv5 cv6 cv7 cv8 c14 c18 cv12 _ _ _ _ cv11 (in32_of rfl) hf)
set_option maxRecDepth 20000 in
theorem l_X12_plan_179 {g : GT} {Z : Int × MM} {n : Nat} (C : Cx g cX12_plan 15 yX12_plan 54 1189) (hr : Rt g (some .int) 0 Z) {v0 v1 v2 v3 v4 v5 v6 v7 v8 : Int} {rec150 : Int → Int → Int → MM → RR} (L150 : ∀ (u6 u7 u8 : Int) (h : MM), in32 u6 → in32 u7 → in32 u8 → rec150 u6 u7 u8 h = some Z → G g 150 [(2, v0), (0, v1), (0, v2), (0, v3), (0, v4), (0, v5), (0, u6), (0, u7), (0, u8), (3, 0), (3, 0), (3, 0), (3, 0), (3, 0), (3, 0)] [] h) (cv1 : in32 v1) (cv2 : in32 v2) (cv3 : in32 v3) (cv4 : in32 v4) (cv5 : in32 v5) (cv6 : in32 v6) (cv7 : in32 v7) (cv8 : in32 v8) : ∀ (k : Nat) (v9 v10 v11 v12 : Int) (h : MM), in32 v9 → in32 v10 → in32 v11 → in32 v12 → f_X12_plan_179 n rec150 v0 v1 v2 v3 v4 v5 v6 v7 v8 k v9 v10 v11 v12 h = some Z → G g 179 [(2, v0), (0, v1), (0, v2), (0, v3), (0, v4), (0, v5), (0, v6), (0, v7), (0, v8), (0, v9), (0, v10), (0, v11), (0, v12), (3, 0), (3, 0)] [] h := by
  intro k
  induction k with
  | zero => intro v9 v10 v11 v12 h cv9 cv10 cv11 cv12 hf; exact absurd hf (by intro z; cases z)
  | succ k ih => intro v9 v10 v11 v12 h cv9 cv10 cv11 cv12 hf; exact b_X12_plan_179b C hr (rec179 := f_X12_plan_179 n rec150 v0 v1 v2 v3 v4 v5 v6 v7 v8 k) L150 ih cv1 cv2 cv3 cv4 cv5 cv6 cv7 cv8 cv9 cv10 cv11 cv12 (show f_X12_plan_179b n rec150 (f_X12_plan_179 n rec150 v0 v1 v2 v3 v4 v5 v6 v7 v8 k) v0 v1 v2 v3 v4 v5 v6 v7 v8 v9 v10 v11 v12 h = some Z from hf)
set_option maxRecDepth 20000 in
theorem b_X12_plan_150b {g : GT} {Z : Int × MM} {n : Nat} (C : Cx g cX12_plan 15 yX12_plan 54 1189) (hr : Rt g (some .int) 0 Z) {v0 v1 v2 v3 v4 v5 v6 v7 v8 : Int}  {rec150 : Int → Int → Int → MM → RR} (L150 : ∀ (u6 u7 u8 : Int) (h : MM), in32 u6 → in32 u7 → in32 u8 → rec150 u6 u7 u8 h = some Z → G g 150 [(2, v0), (0, v1), (0, v2), (0, v3), (0, v4), (0, v5), (0, u6), (0, u7), (0, u8), (3, 0), (3, 0), (3, 0), (3, 0), (3, 0), (3, 0)] [] h) (cv1 : in32 v1) (cv2 : in32 v2) (cv3 : in32 v3) (cv4 : in32 v4) (cv5 : in32 v5) (cv6 : in32 v6) (cv7 : in32 v7) (cv8 : in32 v8) {h : MM} (hf : f_X12_plan_150b n rec150 v0 v1 v2 v3 v4 v5 v6 v7 v8 h = some Z) : G g 150 [(2, v0), (0, v1), (0, v2), (0, v3), (0, v4), (0, v5), (0, v6), (0, v7), (0, v8), (3, 0), (3, 0), (3, 0), (3, 0), (3, 0), (3, 0)] [] h := by
  unfold f_X12_plan_150b at hf
  refine r_iload C dX12_plan_150 rfl ?_
  refine r_iconst C dX12_plan_152 ?_
  refine r_iload C dX12_plan_153 rfl ?_
  refine r_ishl C dX12_plan_155 ?_
  refine r_icmp_ge C dX12_plan_156 (tgt := 390) (by decide) cv8 (in32_t _) (fun n1 => ?_) (fun n1 => ?_)
  · have hf := ite_p n1 hf
    refine r_iload C dX12_plan_390 rfl ?_
    refine r_bipush C dX12_plan_392 rfl ?_
    refine r_icmp_ne C dX12_plan_394 (tgt := 402) (by decide) cv6 (in32_of rfl) (fun n2 => ?_) (fun n2 => ?_)
    · have hf := ite_n n2 hf
      refine r_iload C dX12_plan_402 rfl ?_
      refine r_if_ne C dX12_plan_404 (tgt := 412) (by decide) cv4 (fun n3 => ?_) (fun n3 => ?_)
      · have hf := ite_n n3 hf
        refine r_iload C dX12_plan_412 rfl ?_
        exact G.mask [false, false, false, false, false, false, false, false, false, false, false, false, false, false, false] rfl rfl (b_X12_plan_414 C hr  cv7 hf)
      · have hf := ite_p n3 hf
        refine r_iload C dX12_plan_407 rfl ?_
        refine r_goto C dX12_plan_409 (tgt := 414) (by decide) ?_
        exact G.mask [false, false, false, false, false, false, false, false, false, false, false, false, false, false, false] rfl rfl (b_X12_plan_414 C hr  cv6 hf)
    · have hf := ite_p n2 hf
      refine r_bipush C dX12_plan_397 rfl ?_
      refine r_goto C dX12_plan_399 (tgt := 414) (by decide) ?_
      exact G.mask [false, false, false, false, false, false, false, false, false, false, false, false, false, false, false] rfl rfl (b_X12_plan_414 C hr  (in32_of rfl) hf)
  · have hf := ite_n n1 hf
    refine r_iconst C dX12_plan_159 ?_
    refine r_istore C dX12_plan_160 (Nat.le_of_ble_eq_true rfl) rfl ?_
    refine r_iconst C dX12_plan_162 ?_
    refine r_istore C dX12_plan_163 (Nat.le_of_ble_eq_true rfl) rfl ?_
    refine r_aload_n C dX12_plan_165 rfl ?_
    refine r_iload_n C dX12_plan_166 rfl ?_
    refine r_iload C dX12_plan_167 rfl ?_
    refine r_iload C dX12_plan_169 rfl ?_
    obtain ⟨p4, hf⟩ := gk_s hf
    obtain ⟨r4, h4, hq4, hf⟩ := bd_s hf
    refine r_cV3 C (am_X12_areJoined (gl g) n) cm_X12_areJoined w_1857 dX12_plan_171 ⟨Nat.le_of_ble_eq_true rfl, Nat.le_of_ble_eq_true rfl⟩ p4 rfl cv1 cv8 cv5 rfl (Nat.le_of_ble_eq_true rfl) hq4 (by decide) (fun c4 => ?_)
    have c4 : in32 _ := c4
    refine r_istore C dX12_plan_174 (Nat.le_of_ble_eq_true rfl) rfl ?_
    refine r_iconst C dX12_plan_176 ?_
    refine r_istore C dX12_plan_177 (Nat.le_of_ble_eq_true rfl) rfl ?_
    exact G.mask [true, true, true, true, true, true, true, true, true, true, true, true, true, false, false] rfl rfl (l_X12_plan_179 C hr L150 cv1 cv2 cv3 cv4 cv5 cv6 cv7 cv8 _ _ _ _ _ _ (in32_of rfl) (in32_of rfl) c4 (in32_of rfl) hf)
set_option maxRecDepth 20000 in
theorem l_X12_plan_150 {g : GT} {Z : Int × MM} {n : Nat} (C : Cx g cX12_plan 15 yX12_plan 54 1189) (hr : Rt g (some .int) 0 Z) {v0 v1 v2 v3 v4 v5 : Int}   (cv1 : in32 v1) (cv2 : in32 v2) (cv3 : in32 v3) (cv4 : in32 v4) (cv5 : in32 v5) : ∀ (k : Nat) (v6 v7 v8 : Int) (h : MM), in32 v6 → in32 v7 → in32 v8 → f_X12_plan_150 n  v0 v1 v2 v3 v4 v5 k v6 v7 v8 h = some Z → G g 150 [(2, v0), (0, v1), (0, v2), (0, v3), (0, v4), (0, v5), (0, v6), (0, v7), (0, v8), (3, 0), (3, 0), (3, 0), (3, 0), (3, 0), (3, 0)] [] h := by
  intro k
  induction k with
  | zero => intro v6 v7 v8 h cv6 cv7 cv8 hf; exact absurd hf (by intro z; cases z)
  | succ k ih => intro v6 v7 v8 h cv6 cv7 cv8 hf; exact b_X12_plan_150b C hr (rec150 := f_X12_plan_150 n  v0 v1 v2 v3 v4 v5 k)  ih cv1 cv2 cv3 cv4 cv5 cv6 cv7 cv8 (show f_X12_plan_150b n  (f_X12_plan_150 n  v0 v1 v2 v3 v4 v5 k) v0 v1 v2 v3 v4 v5 v6 v7 v8 h = some Z from hf)
set_option maxRecDepth 20000 in
theorem b_X12_plan_134 {g : GT} {Z : Int × MM} {n : Nat} (C : Cx g cX12_plan 15 yX12_plan 54 1189) (hr : Rt g (some .int) 0 Z) {v0 v1 v2 v3 v4 v5 v6 : Int}  {rec60 : Int → Int → MM → RR} (L60 : ∀ (u5 u6 : Int) (h : MM), in32 u5 → in32 u6 → rec60 u5 u6 h = some Z → G g 60 [(2, v0), (0, v1), (0, v2), (0, v3), (0, v4), (0, u5), (0, u6), (3, 0), (3, 0), (3, 0), (3, 0), (3, 0), (3, 0), (3, 0), (3, 0)] [] h) (cv1 : in32 v1) (cv2 : in32 v2) (cv3 : in32 v3) (cv4 : in32 v4) (cv5 : in32 v5) (cv6 : in32 v6) {h : MM} (hf : f_X12_plan_134 n rec60 v0 v1 v2 v3 v4 v5 v6 h = some Z) : G g 134 [(2, v0), (0, v1), (0, v2), (0, v3), (0, v4), (0, v5), (0, v6), (3, 0), (3, 0), (3, 0), (3, 0), (3, 0), (3, 0), (3, 0), (3, 0)] [] h := by
  unfold f_X12_plan_134 at hf
  obtain ⟨x1, e1, hf⟩ := lb_s hf
  have c1 : in32 x1 := by rw [e1]; exact (in32_t _)
  refine r_iincL C dX12_plan_134 rfl e1 (Nat.le_of_ble_eq_true rfl) rfl ?_
  refine r_goto C dX12_plan_137 (tgt := 60) (by decide) ?_
  exact G.mask [true, true, true, true, true, true, true, false, false, false, false, false, false, false, false] rfl rfl (L60 _ _ _ cv5 c1 hf)
set_option maxRecDepth 20000 in
theorem b_X12_plan_60b {g : GT} {Z : Int × MM} {n : Nat} (C : Cx g cX12_plan 15 yX12_plan 54 1189) (hr : Rt g (some .int) 0 Z) {v0 v1 v2 v3 v4 v5 v6 : Int}  {rec60 : Int → Int → MM → RR} (L60 : ∀ (u5 u6 : Int) (h : MM), in32 u5 → in32 u6 → rec60 u5 u6 h = some Z → G g 60 [(2, v0), (0, v1), (0, v2), (0, v3), (0, v4), (0, u5), (0, u6), (3, 0), (3, 0), (3, 0), (3, 0), (3, 0), (3, 0), (3, 0), (3, 0)] [] h) (cv1 : in32 v1) (cv2 : in32 v2) (cv3 : in32 v3) (cv4 : in32 v4) (cv5 : in32 v5) (cv6 : in32 v6) {h : MM} (hf : f_X12_plan_60b n rec60 v0 v1 v2 v3 v4 v5 v6 h = some Z) : G g 60 [(2, v0), (0, v1), (0, v2), (0, v3), (0, v4), (0, v5), (0, v6), (3, 0), (3, 0), (3, 0), (3, 0), (3, 0), (3, 0), (3, 0), (3, 0)] [] h := by
  unfold f_X12_plan_60b at hf
  refine r_iload C dX12_plan_60 rfl ?_
  refine r_aload_n C dX12_plan_62 rfl ?_
  obtain ⟨q1, hf⟩ := gf_s hf
  refine r_gf C ct12 (j := 1) (ji := 1) dX12_plan_63 q1 rfl rfl (by decide) w_1426 rfl (fun c1 => ?_)
  refine r_iconst C dX12_plan_66 ?_
  obtain ⟨q2, hf⟩ := rd_s hf
  refine r_iald C dX12_plan_67 q2 rfl (fun c2 => ?_)
  refine r_icmp_ge C dX12_plan_68 (tgt := 140) (by decide) cv6 c2 (fun n3 => ?_) (fun n3 => ?_)
  · have hf := ite_p n3 hf
    refine r_bipush C dX12_plan_140 rfl ?_
    refine r_istore C dX12_plan_142 (Nat.le_of_ble_eq_true rfl) rfl ?_
    refine r_iconst C dX12_plan_144 ?_
    refine r_istore C dX12_plan_145 (Nat.le_of_ble_eq_true rfl) rfl ?_
    refine r_iconst C dX12_plan_147 ?_
    refine r_istore C dX12_plan_148 (Nat.le_of_ble_eq_true rfl) rfl ?_
    exact G.mask [true, true, true, true, true, true, true, true, true, false, false, false, false, false, false] rfl rfl (l_X12_plan_150 C hr  cv1 cv2 cv3 cv4 cv5 _ _ _ _ _ (in32_of rfl) (in32_of rfl) (in32_of rfl) hf)
  · have hf := ite_n n3 hf
    refine r_iload C dX12_plan_71 rfl ?_
    refine r_bipush C dX12_plan_73 rfl ?_
    refine r_icmp_ge C dX12_plan_75 (tgt := 134) (by decide) cv5 (in32_of rfl) (fun n4 => ?_) (fun n4 => ?_)
    · have hf := ite_p n4 hf
      exact G.mask [true, true, true, true, true, true, true, false, false, false, false, false, false, false, false] rfl rfl (b_X12_plan_134 C hr L60 cv1 cv2 cv3 cv4 cv5 cv6 hf)
    · have hf := ite_n n4 hf
      refine r_aload_n C dX12_plan_78 rfl ?_
      obtain ⟨q5, hf⟩ := gf_s hf
      refine r_gf C ct12 (j := 1) (ji := 1) dX12_plan_79 q5 rfl rfl (by decide) w_1426 rfl (fun c5 => ?_)
      refine r_sipush C dX12_plan_82 rfl ?_
      refine r_iload C dX12_plan_85 rfl ?_
      refine r_iadd C dX12_plan_87 ?_
      obtain ⟨q6, hf⟩ := rd_s hf
      refine r_iald C dX12_plan_88 q6 rfl (fun c6 => ?_)
      refine r_iconst C dX12_plan_89 ?_
      refine r_icmp_ne C dX12_plan_90 (tgt := 134) (by decide) c6 (in32_of rfl) (fun n7 => ?_) (fun n7 => ?_)
      · have hf := ite_n n7 hf
        exact G.mask [true, true, true, true, true, true, true, false, false, false, false, false, false, false, false] rfl rfl (b_X12_plan_134 C hr L60 cv1 cv2 cv3 cv4 cv5 cv6 hf)
      · have hf := ite_p n7 hf
        refine r_aload_n C dX12_plan_93 rfl ?_
        obtain ⟨q8, hf⟩ := gf_s hf
        refine r_gf C ct12 (j := 1) (ji := 1) dX12_plan_94 q8 rfl rfl (by decide) w_1426 rfl (fun c8 => ?_)
        refine r_sipush C dX12_plan_97 rfl ?_
        refine r_iload C dX12_plan_100 rfl ?_
        refine r_iadd C dX12_plan_102 ?_
        obtain ⟨q9, hf⟩ := rd_s hf
        refine r_iald C dX12_plan_103 q9 rfl (fun c9 => ?_)
        refine r_if_ne C dX12_plan_104 (tgt := 134) (by decide) c9 (fun n10 => ?_) (fun n10 => ?_)
        · have hf := ite_n n10 hf
          exact G.mask [true, true, true, true, true, true, true, false, false, false, false, false, false, false, false] rfl rfl (b_X12_plan_134 C hr L60 cv1 cv2 cv3 cv4 cv5 cv6 hf)
        · have hf := ite_p n10 hf
          refine r_aload_n C dX12_plan_107 rfl ?_
          refine r_iload C dX12_plan_108 rfl ?_
          refine r_aload_n C dX12_plan_110 rfl ?_
          obtain ⟨q11, hf⟩ := gf_s hf
          refine r_gf C ct12 (j := 1) (ji := 1) dX12_plan_111 q11 rfl rfl (by decide) w_1426 rfl (fun c11 => ?_)
          refine r_iconst C dX12_plan_114 ?_
          obtain ⟨q12, hf⟩ := rd_s hf
          refine r_iald C dX12_plan_115 q12 rfl (fun c12 => ?_)
          obtain ⟨p13, hf⟩ := gk_s hf
          obtain ⟨r13, h13, hq13, hf⟩ := bd_s hf
          refine r_cV2 C (am_X12_canBeLet (gl g) n) cm_X12_canBeLet w_1694 dX12_plan_116 ⟨Nat.le_of_ble_eq_true rfl, Nat.le_of_ble_eq_true rfl⟩ p13 rfl cv6 c12 rfl (Nat.le_of_ble_eq_true rfl) hq13 (by decide) (fun c13 => ?_)
          have c13 : in32 _ := c13
          refine r_if_eq C dX12_plan_119 (tgt := 134) (by decide) c13 (fun n14 => ?_) (fun n14 => ?_)
          · have hf := ite_p n14 hf
            exact G.mask [true, true, true, true, true, true, true, false, false, false, false, false, false, false, false] rfl rfl (b_X12_plan_134 C hr L60 cv1 cv2 cv3 cv4 cv5 cv6 hf)
          · have hf := ite_n n14 hf
            refine r_aload_n C dX12_plan_122 rfl ?_
            obtain ⟨q15, hf⟩ := gf_s hf
            refine r_gf C ct12 (j := 19) (ji := 19) dX12_plan_123 q15 rfl rfl (by decide) w_1444 rfl (fun c15 => ?_)
            refine r_iload C dX12_plan_126 rfl ?_
            refine r_iload C dX12_plan_128 rfl ?_
            obtain ⟨q16, hf⟩ := wt_s hf
            refine r_iast C dX12_plan_130 q16 rfl cv6 ?_
            obtain ⟨x17, e17, hf⟩ := lb_s hf
            have c17 : in32 x17 := by rw [e17]; exact (in32_t _)
            refine r_iincL C dX12_plan_131 rfl e17 (Nat.le_of_ble_eq_true rfl) rfl ?_
            exact G.mask [true, true, true, true, true, true, true, false, false, false, false, false, false, false, false] rfl rfl (b_X12_plan_134 C hr L60 cv1 cv2 cv3 cv4 c17 cv6 hf)
set_option maxRecDepth 20000 in
theorem l_X12_plan_60 {g : GT} {Z : Int × MM} {n : Nat} (C : Cx g cX12_plan 15 yX12_plan 54 1189) (hr : Rt g (some .int) 0 Z) {v0 v1 v2 v3 v4 : Int}   (cv1 : in32 v1) (cv2 : in32 v2) (cv3 : in32 v3) (cv4 : in32 v4) : ∀ (k : Nat) (v5 v6 : Int) (h : MM), in32 v5 → in32 v6 → f_X12_plan_60 n  v0 v1 v2 v3 v4 k v5 v6 h = some Z → G g 60 [(2, v0), (0, v1), (0, v2), (0, v3), (0, v4), (0, v5), (0, v6), (3, 0), (3, 0), (3, 0), (3, 0), (3, 0), (3, 0), (3, 0), (3, 0)] [] h := by
  intro k
  induction k with
  | zero => intro v5 v6 h cv5 cv6 hf; exact absurd hf (by intro z; cases z)
  | succ k ih => intro v5 v6 h cv5 cv6 hf; exact b_X12_plan_60b C hr (rec60 := f_X12_plan_60 n  v0 v1 v2 v3 v4 k)  ih cv1 cv2 cv3 cv4 cv5 cv6 (show f_X12_plan_60b n  (f_X12_plan_60 n  v0 v1 v2 v3 v4 k) v0 v1 v2 v3 v4 v5 v6 h = some Z from hf)
set_option maxRecDepth 20000 in
theorem e_X12_plan {g : GT} {Z : Int × MM} {n : Nat} (C : Cx g cX12_plan 15 yX12_plan 54 1189) (hr : Rt g (some .int) 0 Z) {v0 v1 v2 v3 v4 : Int} (cv0 : cK 2 v0) (cv1 : cK 0 v1) (cv2 : cK 0 v2) (cv3 : cK 0 v3) (cv4 : cK 0 v4) {h : MM} (hf : f_X12_plan n v0 v1 v2 v3 v4 h = some Z) : G g 0 [(2, v0), (0, v1), (0, v2), (0, v3), (0, v4), (3, 0), (3, 0), (3, 0), (3, 0), (3, 0), (3, 0), (3, 0), (3, 0), (3, 0), (3, 0)] [] h := by
  have cv1 : in32 v1 := cv1
  have cv2 : in32 v2 := cv2
  have cv3 : in32 v3 := cv3
  have cv4 : in32 v4 := cv4
  unfold f_X12_plan at hf
  refine r_iload C dX12_plan_0 rfl ?_
  refine r_iconst C dX12_plan_2 ?_
  refine r_iconst C dX12_plan_3 ?_
  obtain ⟨r1, h1, hq1, hf⟩ := bd_s hf
  refine r_cS3 C (am_X12_in (gl g) n) cm_X12_in w_1496 dX12_plan_4 ⟨Nat.le_of_ble_eq_true rfl, Nat.le_of_ble_eq_true rfl⟩ cv4 (in32_of rfl) (in32_of rfl) rfl (Nat.le_of_ble_eq_true rfl) hq1 (by decide) (fun c1 => ?_)
  have c1 : in32 _ := c1
  refine r_if_ne C dX12_plan_7 (tgt := 12) (by decide) c1 (fun n2 => ?_) (fun n2 => ?_)
  · have hf := ite_n n2 hf
    refine r_iload_n C dX12_plan_12 rfl ?_
    refine r_iconst C dX12_plan_13 ?_
    refine r_iconst C dX12_plan_14 ?_
    refine r_aload_n C dX12_plan_15 rfl ?_
    obtain ⟨q3, hf⟩ := gf_s hf
    refine r_gf C ct12 (j := 1) (ji := 1) dX12_plan_16 q3 rfl rfl (by decide) w_1426 rfl (fun c3 => ?_)
    refine r_iconst C dX12_plan_19 ?_
    obtain ⟨q4, hf⟩ := rd_s hf
    refine r_iald C dX12_plan_20 q4 rfl (fun c4 => ?_)
    refine r_ishl C dX12_plan_21 ?_
    refine r_iconst C dX12_plan_22 ?_
    refine r_isub C dX12_plan_23 ?_
    obtain ⟨r5, h5, hq5, hf⟩ := bd_s hf
    refine r_cS3 C (am_X12_in (gl g) n) cm_X12_in w_1496 dX12_plan_24 ⟨Nat.le_of_ble_eq_true rfl, Nat.le_of_ble_eq_true rfl⟩ cv1 (in32_of rfl) (in32_t _) rfl (Nat.le_of_ble_eq_true rfl) hq5 (by decide) (fun c5 => ?_)
    have c5 : in32 _ := c5
    refine r_if_eq C dX12_plan_27 (tgt := 51) (by decide) c5 (fun n6 => ?_) (fun n6 => ?_)
    · have hf := ite_p n6 hf
      exact G.mask [false, false, false, false, false, false, false, false, false, false, false, false, false, false, false] rfl rfl (b_X12_plan_51 C hr   hf)
    · have hf := ite_n n6 hf
      refine r_iload_n C dX12_plan_30 rfl ?_
      refine r_iconst C dX12_plan_31 ?_
      refine r_ldc C (v := 99999) dX12_plan_32 w_1510 ?_
      obtain ⟨r7, h7, hq7, hf⟩ := bd_s hf
      refine r_cS3 C (am_X12_in (gl g) n) cm_X12_in w_1496 dX12_plan_34 ⟨Nat.le_of_ble_eq_true rfl, Nat.le_of_ble_eq_true rfl⟩ cv2 (in32_of rfl) (in32_of rfl) rfl (Nat.le_of_ble_eq_true rfl) hq7 (by decide) (fun c7 => ?_)
      have c7 : in32 _ := c7
      refine r_if_eq C dX12_plan_37 (tgt := 51) (by decide) c7 (fun n8 => ?_) (fun n8 => ?_)
      · have hf := ite_p n8 hf
        exact G.mask [false, false, false, false, false, false, false, false, false, false, false, false, false, false, false] rfl rfl (b_X12_plan_51 C hr   hf)
      · have hf := ite_n n8 hf
        refine r_iload_n C dX12_plan_40 rfl ?_
        refine r_iconst C dX12_plan_41 ?_
        refine r_ldcw C (v := 999999) dX12_plan_42 w_1868 ?_
        obtain ⟨r9, h9, hq9, hf⟩ := bd_s hf
        refine r_cS3 C (am_X12_in (gl g) n) cm_X12_in w_1496 dX12_plan_45 ⟨Nat.le_of_ble_eq_true rfl, Nat.le_of_ble_eq_true rfl⟩ cv3 (in32_of rfl) (in32_of rfl) rfl (Nat.le_of_ble_eq_true rfl) hq9 (by decide) (fun c9 => ?_)
        have c9 : in32 _ := c9
        refine r_if_ne C dX12_plan_48 (tgt := 54) (by decide) c9 (fun n10 => ?_) (fun n10 => ?_)
        · have hf := ite_n n10 hf
          refine r_iconst C dX12_plan_54 ?_
          refine r_istore C dX12_plan_55 (Nat.le_of_ble_eq_true rfl) rfl ?_
          refine r_iconst C dX12_plan_57 ?_
          refine r_istore C dX12_plan_58 (Nat.le_of_ble_eq_true rfl) rfl ?_
          exact G.mask [true, true, true, true, true, true, true, false, false, false, false, false, false, false, false] rfl rfl (l_X12_plan_60 C hr  cv1 cv2 cv3 cv4 _ _ _ _ (in32_of rfl) (in32_of rfl) hf)
        · have hf := ite_p n10 hf
          exact G.mask [false, false, false, false, false, false, false, false, false, false, false, false, false, false, false] rfl rfl (b_X12_plan_51 C hr   hf)
  · have hf := ite_p n2 hf
    refine r_iconst C dX12_plan_10 ?_
    cases hf
    exact r_jret C hr dX12_plan_11 (in32_of rfl)
set_option maxRecDepth 20000 in
theorem am_X12_plan (l : Launch) (n : Nat) : AM l yX12_plan cX12_plan 15 (some .int) 54 1189 [2, 0, 0, 0, 0] 0 (un5 (f_X12_plan n)) := by
  refine AM.intro (by decide) (fun xs hx => ?_) (fun g xs h Z hl C hr hx hf => ?_)
  · obtain ⟨a0, a1, a2, a3, a4, rfl, c0, c1, c2, c3, c4⟩ := canL_5 hx
    exact Nat.le_of_ble_eq_true rfl
  · obtain ⟨a0, a1, a2, a3, a4, rfl, c0, c1, c2, c3, c4⟩ := canL_5 hx
    have hf := (un5_e _ a0 a1 a2 a3 a4 _).symm.trans hf
    exact e_X12_plan (n := n) C hr c0 c1 c2 c3 c4 hf
/-! LinesPromisedModel.tried(I)I -/
theorem dX12_tried_0 : decode cX12_tried 0 = .ok (.iload_n 1, 1) := by decide +kernel
theorem dX12_tried_1 : decode cX12_tried 1 = .ok (.iconst 0, 1) := by decide +kernel
theorem dX12_tried_2 : decode cX12_tried 2 = .ok (.iconst 2, 1) := by decide +kernel
theorem dX12_tried_3 : decode cX12_tried 3 = .ok (.invokestatic 58, 3) := by decide +kernel
theorem dX12_tried_6 : decode cX12_tried 6 = .ok (.ifCond .ne 5, 3) := by decide +kernel
theorem dX12_tried_9 : decode cX12_tried 9 = .ok (.iconst (-1), 1) := by decide +kernel
theorem dX12_tried_10 : decode cX12_tried 10 = .ok (.ireturn, 1) := by decide +kernel
theorem dX12_tried_11 : decode cX12_tried 11 = .ok (.aload_n 0, 1) := by decide +kernel
theorem dX12_tried_12 : decode cX12_tried 12 = .ok (.getfield 8, 3) := by decide +kernel
theorem dX12_tried_15 : decode cX12_tried 15 = .ok (.iconst 3, 1) := by decide +kernel
theorem dX12_tried_16 : decode cX12_tried 16 = .ok (.iaload, 1) := by decide +kernel
theorem dX12_tried_17 : decode cX12_tried 17 = .ok (.istore_n 2, 1) := by decide +kernel
theorem dX12_tried_18 : decode cX12_tried 18 = .ok (.aload_n 0, 1) := by decide +kernel
theorem dX12_tried_19 : decode cX12_tried 19 = .ok (.iload_n 2, 1) := by decide +kernel
theorem dX12_tried_20 : decode cX12_tried 20 = .ok (.aload_n 0, 1) := by decide +kernel
theorem dX12_tried_21 : decode cX12_tried 21 = .ok (.getfield 8, 3) := by decide +kernel
theorem dX12_tried_24 : decode cX12_tried 24 = .ok (.iconst 0, 1) := by decide +kernel
theorem dX12_tried_25 : decode cX12_tried 25 = .ok (.iaload, 1) := by decide +kernel
theorem dX12_tried_26 : decode cX12_tried 26 = .ok (.invokevirtual 144, 3) := by decide +kernel
theorem dX12_tried_29 : decode cX12_tried 29 = .ok (.ifCond .ne 11, 3) := by decide +kernel
theorem dX12_tried_32 : decode cX12_tried 32 = .ok (.bipush (-10), 2) := by decide +kernel
theorem dX12_tried_34 : decode cX12_tried 34 = .ok (.aload_n 0, 1) := by decide +kernel
theorem dX12_tried_35 : decode cX12_tried 35 = .ok (.getfield 75, 3) := by decide +kernel
theorem dX12_tried_38 : decode cX12_tried 38 = .ok (.isub, 1) := by decide +kernel
theorem dX12_tried_39 : decode cX12_tried 39 = .ok (.ireturn, 1) := by decide +kernel
theorem dX12_tried_40 : decode cX12_tried 40 = .ok (.aload_n 0, 1) := by decide +kernel
theorem dX12_tried_41 : decode cX12_tried 41 = .ok (.getfield 8, 3) := by decide +kernel
theorem dX12_tried_44 : decode cX12_tried 44 = .ok (.iconst 3, 1) := by decide +kernel
theorem dX12_tried_45 : decode cX12_tried 45 = .ok (.dup2, 1) := by decide +kernel
theorem dX12_tried_46 : decode cX12_tried 46 = .ok (.iaload, 1) := by decide +kernel
theorem dX12_tried_47 : decode cX12_tried 47 = .ok (.iconst 1, 1) := by decide +kernel
theorem dX12_tried_48 : decode cX12_tried 48 = .ok (.iadd, 1) := by decide +kernel
theorem dX12_tried_49 : decode cX12_tried 49 = .ok (.iastore, 1) := by decide +kernel
theorem dX12_tried_50 : decode cX12_tried 50 = .ok (.iconst 0, 1) := by decide +kernel
theorem dX12_tried_51 : decode cX12_tried 51 = .ok (.istore_n 3, 1) := by decide +kernel
theorem dX12_tried_52 : decode cX12_tried 52 = .ok (.iconst 0, 1) := by decide +kernel
theorem dX12_tried_53 : decode cX12_tried 53 = .ok (.istore 4, 2) := by decide +kernel
theorem dX12_tried_55 : decode cX12_tried 55 = .ok (.iload 4, 2) := by decide +kernel
theorem dX12_tried_57 : decode cX12_tried 57 = .ok (.aload_n 0, 1) := by decide +kernel
theorem dX12_tried_58 : decode cX12_tried 58 = .ok (.getfield 8, 3) := by decide +kernel
theorem dX12_tried_61 : decode cX12_tried 61 = .ok (.iconst 2, 1) := by decide +kernel
theorem dX12_tried_62 : decode cX12_tried 62 = .ok (.iaload, 1) := by decide +kernel
theorem dX12_tried_63 : decode cX12_tried 63 = .ok (.if_icmp .ge 125, 3) := by decide +kernel
theorem dX12_tried_66 : decode cX12_tried 66 = .ok (.iload_n 1, 1) := by decide +kernel
theorem dX12_tried_67 : decode cX12_tried 67 = .ok (.iconst 2, 1) := by decide +kernel
theorem dX12_tried_68 : decode cX12_tried 68 = .ok (.if_icmp .ge 120, 3) := by decide +kernel
theorem dX12_tried_71 : decode cX12_tried 71 = .ok (.iload_n 1, 1) := by decide +kernel
theorem dX12_tried_72 : decode cX12_tried 72 = .ok (.ifCond .ne 60, 3) := by decide +kernel
theorem dX12_tried_75 : decode cX12_tried 75 = .ok (.aload_n 0, 1) := by decide +kernel
theorem dX12_tried_76 : decode cX12_tried 76 = .ok (.getfield 8, 3) := by decide +kernel
theorem dX12_tried_79 : decode cX12_tried 79 = .ok (.sipush 370, 3) := by decide +kernel
theorem dX12_tried_82 : decode cX12_tried 82 = .ok (.iload 4, 2) := by decide +kernel
theorem dX12_tried_84 : decode cX12_tried 84 = .ok (.iadd, 1) := by decide +kernel
theorem dX12_tried_85 : decode cX12_tried 85 = .ok (.iaload, 1) := by decide +kernel
theorem dX12_tried_86 : decode cX12_tried 86 = .ok (.iconst 2, 1) := by decide +kernel
theorem dX12_tried_87 : decode cX12_tried 87 = .ok (.if_icmp .ne 41, 3) := by decide +kernel
theorem dX12_tried_90 : decode cX12_tried 90 = .ok (.aload_n 0, 1) := by decide +kernel
theorem dX12_tried_91 : decode cX12_tried 91 = .ok (.iload 4, 2) := by decide +kernel
theorem dX12_tried_93 : decode cX12_tried 93 = .ok (.aload_n 0, 1) := by decide +kernel
theorem dX12_tried_94 : decode cX12_tried 94 = .ok (.getfield 8, 3) := by decide +kernel
theorem dX12_tried_97 : decode cX12_tried 97 = .ok (.iconst 0, 1) := by decide +kernel
theorem dX12_tried_98 : decode cX12_tried 98 = .ok (.iaload, 1) := by decide +kernel
theorem dX12_tried_99 : decode cX12_tried 99 = .ok (.invokevirtual 193, 3) := by decide +kernel
theorem dX12_tried_102 : decode cX12_tried 102 = .ok (.bipush (-5), 2) := by decide +kernel
theorem dX12_tried_104 : decode cX12_tried 104 = .ok (.if_icmp .ne 24, 3) := by decide +kernel
theorem dX12_tried_107 : decode cX12_tried 107 = .ok (.aload_n 0, 1) := by decide +kernel
theorem dX12_tried_108 : decode cX12_tried 108 = .ok (.iload 4, 2) := by decide +kernel
theorem dX12_tried_110 : decode cX12_tried 110 = .ok (.aload_n 0, 1) := by decide +kernel
theorem dX12_tried_111 : decode cX12_tried 111 = .ok (.getfield 8, 3) := by decide +kernel
theorem dX12_tried_114 : decode cX12_tried 114 = .ok (.iconst 0, 1) := by decide +kernel
theorem dX12_tried_115 : decode cX12_tried 115 = .ok (.iaload, 1) := by decide +kernel
theorem dX12_tried_116 : decode cX12_tried 116 = .ok (.invokevirtual 196, 3) := by decide +kernel
theorem dX12_tried_119 : decode cX12_tried 119 = .ok (.bipush (-5), 2) := by decide +kernel
theorem dX12_tried_121 : decode cX12_tried 121 = .ok (.if_icmp .ne 7, 3) := by decide +kernel
theorem dX12_tried_124 : decode cX12_tried 124 = .ok (.iconst 1, 1) := by decide +kernel
theorem dX12_tried_125 : decode cX12_tried 125 = .ok (.goto 42, 3) := by decide +kernel
theorem dX12_tried_128 : decode cX12_tried 128 = .ok (.iconst 0, 1) := by decide +kernel
theorem dX12_tried_129 : decode cX12_tried 129 = .ok (.goto 38, 3) := by decide +kernel
theorem dX12_tried_132 : decode cX12_tried 132 = .ok (.aload_n 0, 1) := by decide +kernel
theorem dX12_tried_133 : decode cX12_tried 133 = .ok (.getfield 8, 3) := by decide +kernel
theorem dX12_tried_136 : decode cX12_tried 136 = .ok (.sipush 370, 3) := by decide +kernel
theorem dX12_tried_139 : decode cX12_tried 139 = .ok (.iload 4, 2) := by decide +kernel
theorem dX12_tried_141 : decode cX12_tried 141 = .ok (.iadd, 1) := by decide +kernel
theorem dX12_tried_142 : decode cX12_tried 142 = .ok (.iaload, 1) := by decide +kernel
theorem dX12_tried_143 : decode cX12_tried 143 = .ok (.iconst 3, 1) := by decide +kernel
theorem dX12_tried_144 : decode cX12_tried 144 = .ok (.if_icmp .ne 22, 3) := by decide +kernel
theorem dX12_tried_147 : decode cX12_tried 147 = .ok (.aload_n 0, 1) := by decide +kernel
theorem dX12_tried_148 : decode cX12_tried 148 = .ok (.iload 4, 2) := by decide +kernel
theorem dX12_tried_150 : decode cX12_tried 150 = .ok (.aload_n 0, 1) := by decide +kernel
theorem dX12_tried_151 : decode cX12_tried 151 = .ok (.getfield 8, 3) := by decide +kernel
theorem dX12_tried_154 : decode cX12_tried 154 = .ok (.iconst 0, 1) := by decide +kernel
theorem dX12_tried_155 : decode cX12_tried 155 = .ok (.iaload, 1) := by decide +kernel
theorem dX12_tried_156 : decode cX12_tried 156 = .ok (.invokevirtual 213, 3) := by decide +kernel
theorem dX12_tried_159 : decode cX12_tried 159 = .ok (.ifCond .eq 7, 3) := by decide +kernel
theorem dX12_tried_162 : decode cX12_tried 162 = .ok (.iconst 1, 1) := by decide +kernel
theorem dX12_tried_163 : decode cX12_tried 163 = .ok (.goto 4, 3) := by decide +kernel
theorem dX12_tried_166 : decode cX12_tried 166 = .ok (.iconst 0, 1) := by decide +kernel
theorem dX12_tried_167 : decode cX12_tried 167 = .ok (.istore 5, 2) := by decide +kernel
theorem dX12_tried_169 : decode cX12_tried 169 = .ok (.iload_n 3, 1) := by decide +kernel
theorem dX12_tried_170 : decode cX12_tried 170 = .ok (.iload 5, 2) := by decide +kernel
theorem dX12_tried_172 : decode cX12_tried 172 = .ok (.ifCond .eq 7, 3) := by decide +kernel
theorem dX12_tried_175 : decode cX12_tried 175 = .ok (.iconst 1, 1) := by decide +kernel
theorem dX12_tried_176 : decode cX12_tried 176 = .ok (.goto 4, 3) := by decide +kernel
theorem dX12_tried_179 : decode cX12_tried 179 = .ok (.iconst 0, 1) := by decide +kernel
theorem dX12_tried_180 : decode cX12_tried 180 = .ok (.iadd, 1) := by decide +kernel
theorem dX12_tried_181 : decode cX12_tried 181 = .ok (.istore_n 3, 1) := by decide +kernel
theorem dX12_tried_182 : decode cX12_tried 182 = .ok (.iinc 4 1, 3) := by decide +kernel
theorem dX12_tried_185 : decode cX12_tried 185 = .ok (.goto (-130), 3) := by decide +kernel
theorem dX12_tried_188 : decode cX12_tried 188 = .ok (.iload_n 1, 1) := by decide +kernel
theorem dX12_tried_189 : decode cX12_tried 189 = .ok (.iconst 2, 1) := by decide +kernel
theorem dX12_tried_190 : decode cX12_tried 190 = .ok (.if_icmp .ne 32, 3) := by decide +kernel
theorem dX12_tried_193 : decode cX12_tried 193 = .ok (.aload_n 0, 1) := by decide +kernel
theorem dX12_tried_194 : decode cX12_tried 194 = .ok (.getfield 8, 3) := by decide +kernel
theorem dX12_tried_197 : decode cX12_tried 197 = .ok (.iconst 1, 1) := by decide +kernel
theorem dX12_tried_198 : decode cX12_tried 198 = .ok (.iaload, 1) := by decide +kernel
theorem dX12_tried_199 : decode cX12_tried 199 = .ok (.iconst 2, 1) := by decide +kernel
theorem dX12_tried_200 : decode cX12_tried 200 = .ok (.if_icmp .ge 8, 3) := by decide +kernel
theorem dX12_tried_203 : decode cX12_tried 203 = .ok (.bipush (-5), 2) := by decide +kernel
theorem dX12_tried_205 : decode cX12_tried 205 = .ok (.goto 16, 3) := by decide +kernel
theorem dX12_tried_208 : decode cX12_tried 208 = .ok (.aload_n 0, 1) := by decide +kernel
theorem dX12_tried_209 : decode cX12_tried 209 = .ok (.iconst 0, 1) := by decide +kernel
theorem dX12_tried_210 : decode cX12_tried 210 = .ok (.iconst 1, 1) := by decide +kernel
theorem dX12_tried_211 : decode cX12_tried 211 = .ok (.aload_n 0, 1) := by decide +kernel
theorem dX12_tried_212 : decode cX12_tried 212 = .ok (.getfield 8, 3) := by decide +kernel
theorem dX12_tried_215 : decode cX12_tried 215 = .ok (.iconst 0, 1) := by decide +kernel
theorem dX12_tried_216 : decode cX12_tried 216 = .ok (.iaload, 1) := by decide +kernel
theorem dX12_tried_217 : decode cX12_tried 217 = .ok (.iconst 0, 1) := by decide +kernel
theorem dX12_tried_218 : decode cX12_tried 218 = .ok (.invokevirtual 276, 3) := by decide +kernel
theorem dX12_tried_221 : decode cX12_tried 221 = .ok (.istore_n 3, 1) := by decide +kernel
theorem dX12_tried_222 : decode cX12_tried 222 = .ok (.aload_n 0, 1) := by decide +kernel
theorem dX12_tried_223 : decode cX12_tried 223 = .ok (.getfield 8, 3) := by decide +kernel
theorem dX12_tried_226 : decode cX12_tried 226 = .ok (.iconst 3, 1) := by decide +kernel
theorem dX12_tried_227 : decode cX12_tried 227 = .ok (.dup2, 1) := by decide +kernel
theorem dX12_tried_228 : decode cX12_tried 228 = .ok (.iaload, 1) := by decide +kernel
theorem dX12_tried_229 : decode cX12_tried 229 = .ok (.iconst 1, 1) := by decide +kernel
theorem dX12_tried_230 : decode cX12_tried 230 = .ok (.isub, 1) := by decide +kernel
theorem dX12_tried_231 : decode cX12_tried 231 = .ok (.iastore, 1) := by decide +kernel
theorem dX12_tried_232 : decode cX12_tried 232 = .ok (.iload_n 3, 1) := by decide +kernel
theorem dX12_tried_233 : decode cX12_tried 233 = .ok (.ireturn, 1) := by decide +kernel
theorem cm_X12_tried : CM yX12_tried cX12_tried 6 (some .int) 1 12 := ⟨w_1870, w_1871, w_1872, w_97, ⟨by decide +kernel, by decide +kernel, by decide +kernel⟩, ⟨_, _, rfl⟩, by decide⟩
noncomputable def f_X12_tried_222 (n : Nat)  (v0 v3 : Int) (h : MM) : RR :=
  gf h v0 12 1 fun r1 =>
  rd h r1 100 3 fun r2 =>
  wt h r1 100 3 (wr (r2 - 1)) fun h3 =>
  some (v3, h3)
noncomputable def f_X12_tried_221 (n : Nat)  (v0 s0 : Int) (h : MM) : RR :=
  f_X12_tried_222 n v0 s0 h
noncomputable def f_X12_tried_188 (n : Nat)  (v0 v1 v3 : Int) (h : MM) : RR :=
  if v1 = 2 then
    gf h v0 12 1 fun r2 =>
    rd h r2 100 1 fun r3 =>
    if 2 ≤ r3 then
      gf h v0 12 1 fun r5 =>
      rd h r5 100 0 fun r6 =>
      gk h v0 12 <|
      bd (f_X12_slope n v0 0 1 r6 0 h) fun r7 h7 =>
      f_X12_tried_221 n v0 r7 h7
    else
    f_X12_tried_221 n v0 ((-5)) h
  else
  f_X12_tried_222 n v0 v3 h
noncomputable def f_X12_tried_180 (n : Nat) (rec55 : Int → Int → MM → RR) (v0 v1 v4 s0 s1 : Int) (h : MM) : RR :=
  lb (wr (s0 + s1)) fun x1 =>
  lb (wr (v4 + 1)) fun x2 =>
  rec55 x1 x2 h
noncomputable def f_X12_tried_167 (n : Nat) (rec55 : Int → Int → MM → RR) (v0 v1 v3 v4 s0 : Int) (h : MM) : RR :=
  if s0 = 0 then
    f_X12_tried_180 n rec55 v0 v1 v4 v3 0 h
  else
  f_X12_tried_180 n rec55 v0 v1 v4 v3 1 h
noncomputable def f_X12_tried_166 (n : Nat) (rec55 : Int → Int → MM → RR) (v0 v1 v3 v4 : Int) (h : MM) : RR :=
  f_X12_tried_167 n rec55 v0 v1 v3 v4 0 h
noncomputable def f_X12_tried_128 (n : Nat) (rec55 : Int → Int → MM → RR) (v0 v1 v3 v4 : Int) (h : MM) : RR :=
  f_X12_tried_167 n rec55 v0 v1 v3 v4 0 h
noncomputable def f_X12_tried_55b (n : Nat) (rec55 : Int → Int → MM → RR) (v0 v1 v3 v4 : Int) (h : MM) : RR :=
  gf h v0 12 1 fun r1 =>
  rd h r1 100 2 fun r2 =>
  if r2 ≤ v4 then
    f_X12_tried_188 n v0 v1 v3 h
  else
  if 2 ≤ v1 then
    f_X12_tried_188 n v0 v1 v3 h
  else
  if v1 = 0 then
    gf h v0 12 1 fun r13 =>
    rd h r13 100 (wr (370 + v4)) fun r14 =>
    if r14 = 2 then
      gf h v0 12 1 fun r16 =>
      rd h r16 100 0 fun r17 =>
      gk h v0 12 <|
      bd (f_X12_notClose n v0 v4 r17 h) fun r18 h18 =>
      if r18 = (-5) then
        gf h18 v0 12 1 fun r20 =>
        rd h18 r20 100 0 fun r21 =>
        gk h18 v0 12 <|
        bd (f_X12_steep n v0 v4 r21 h18) fun r22 h22 =>
        if r22 = (-5) then
          f_X12_tried_167 n rec55 v0 v1 v3 v4 1 h22
        else
        f_X12_tried_128 n rec55 v0 v1 v3 v4 h22
      else
      f_X12_tried_128 n rec55 v0 v1 v3 v4 h18
    else
    f_X12_tried_128 n rec55 v0 v1 v3 v4 h
  else
  gf h v0 12 1 fun r6 =>
  rd h r6 100 (wr (370 + v4)) fun r7 =>
  if r7 = 3 then
    gf h v0 12 1 fun r9 =>
    rd h r9 100 0 fun r10 =>
    gk h v0 12 <|
    bd (f_X12_canBeLet n v0 v4 r10 h) fun r11 h11 =>
    if r11 = 0 then
      f_X12_tried_166 n rec55 v0 v1 v3 v4 h11
    else
    f_X12_tried_167 n rec55 v0 v1 v3 v4 1 h11
  else
  f_X12_tried_166 n rec55 v0 v1 v3 v4 h
noncomputable def f_X12_tried_55 (n : Nat)  (v0 v1 : Int) : Nat → Int → Int → MM → RR
  | 0, _, _, _ => none
  | k + 1, v3, v4, h => f_X12_tried_55b n  (f_X12_tried_55 n  v0 v1 k) v0 v1 v3 v4 h
noncomputable def f_X12_tried (n : Nat) (v0 v1 : Int) (h : MM) : RR :=
  bd (f_X12_in n v1 0 2 h) fun r1 h1 =>
  if r1 = 0 then
    some ((-1), h1)
  else
  gf h1 v0 12 1 fun r3 =>
  rd h1 r3 100 3 fun r4 =>
  gf h1 v0 12 1 fun r5 =>
  rd h1 r5 100 0 fun r6 =>
  gk h1 v0 12 <|
  bd (f_X12_readsOrder n v0 r4 r6 h1) fun r7 h7 =>
  if r7 = 0 then
    gf h7 v0 12 5 fun r12 =>
    some (wr (((-10)) - r12), h7)
  else
  gf h7 v0 12 1 fun r9 =>
  rd h7 r9 100 3 fun r10 =>
  wt h7 r9 100 3 (wr (r10 + 1)) fun h11 =>
  f_X12_tried_55 n v0 v1 n 0 0 h11
set_option maxRecDepth 20000 in
theorem b_X12_tried_222 {g : GT} {Z : Int × MM} {n : Nat} (C : Cx g cX12_tried 6 yX12_tried 55 1213) (hr : Rt g (some .int) 0 Z) {v0 v3 : Int}    (cv3 : in32 v3) {h : MM} (hf : f_X12_tried_222 n  v0 v3 h = some Z) : G g 222 [(2, v0), (3, 0), (3, 0), (0, v3), (3, 0), (3, 0)] [] h := by
  unfold f_X12_tried_222 at hf
  refine r_aload_n C dX12_tried_222 rfl ?_
  obtain ⟨q1, hf⟩ := gf_s hf
  refine r_gf C ct12 (j := 1) (ji := 1) dX12_tried_223 q1 rfl rfl (by decide) w_1426 rfl (fun c1 => ?_)
  refine r_iconst C dX12_tried_226 ?_
  refine r_dup2 C dX12_tried_227 (by decide) (by decide) ?_
  obtain ⟨q2, hf⟩ := rd_s hf
  refine r_iald C dX12_tried_228 q2 rfl (fun c2 => ?_)
  refine r_iconst C dX12_tried_229 ?_
  refine r_isub C dX12_tried_230 ?_
  obtain ⟨q3, hf⟩ := wt_s hf
  refine r_iast C dX12_tried_231 q3 rfl (in32_t _) ?_
  refine r_iload_n C dX12_tried_232 rfl ?_
  cases hf
  exact r_jret C hr dX12_tried_233 cv3
set_option maxRecDepth 20000 in
theorem b_X12_tried_221 {g : GT} {Z : Int × MM} {n : Nat} (C : Cx g cX12_tried 6 yX12_tried 55 1213) (hr : Rt g (some .int) 0 Z) {v0 s0 : Int}    (cs0 : in32 s0) {h : MM} (hf : f_X12_tried_221 n  v0 s0 h = some Z) : G g 221 [(2, v0), (3, 0), (3, 0), (3, 0), (3, 0), (3, 0)] [(0, s0)] h := by
  unfold f_X12_tried_221 at hf
  refine r_istore_n C dX12_tried_221 (Nat.le_of_ble_eq_true rfl) rfl ?_
  exact G.mask [true, false, false, true, false, false] rfl rfl (b_X12_tried_222 C hr  cs0 hf)
set_option maxRecDepth 20000 in
theorem b_X12_tried_188 {g : GT} {Z : Int × MM} {n : Nat} (C : Cx g cX12_tried 6 yX12_tried 55 1213) (hr : Rt g (some .int) 0 Z) {v0 v1 v3 : Int}    (cv1 : in32 v1) (cv3 : in32 v3) {h : MM} (hf : f_X12_tried_188 n  v0 v1 v3 h = some Z) : G g 188 [(2, v0), (0, v1), (3, 0), (0, v3), (3, 0), (3, 0)] [] h := by
  unfold f_X12_tried_188 at hf
  refine r_iload_n C dX12_tried_188 rfl ?_
  refine r_iconst C dX12_tried_189 ?_
  refine r_icmp_ne C dX12_tried_190 (tgt := 222) (by decide) cv1 (in32_of rfl) (fun n1 => ?_) (fun n1 => ?_)
  · have hf := ite_n n1 hf
    exact G.mask [true, false, false, true, false, false] rfl rfl (b_X12_tried_222 C hr  cv3 hf)
  · have hf := ite_p n1 hf
    refine r_aload_n C dX12_tried_193 rfl ?_
    obtain ⟨q2, hf⟩ := gf_s hf
    refine r_gf C ct12 (j := 1) (ji := 1) dX12_tried_194 q2 rfl rfl (by decide) w_1426 rfl (fun c2 => ?_)
    refine r_iconst C dX12_tried_197 ?_
    obtain ⟨q3, hf⟩ := rd_s hf
    refine r_iald C dX12_tried_198 q3 rfl (fun c3 => ?_)
    refine r_iconst C dX12_tried_199 ?_
    refine r_icmp_ge C dX12_tried_200 (tgt := 208) (by decide) c3 (in32_of rfl) (fun n4 => ?_) (fun n4 => ?_)
    · have hf := ite_p n4 hf
      refine r_aload_n C dX12_tried_208 rfl ?_
      refine r_iconst C dX12_tried_209 ?_
      refine r_iconst C dX12_tried_210 ?_
      refine r_aload_n C dX12_tried_211 rfl ?_
      obtain ⟨q5, hf⟩ := gf_s hf
      refine r_gf C ct12 (j := 1) (ji := 1) dX12_tried_212 q5 rfl rfl (by decide) w_1426 rfl (fun c5 => ?_)
      refine r_iconst C dX12_tried_215 ?_
      obtain ⟨q6, hf⟩ := rd_s hf
      refine r_iald C dX12_tried_216 q6 rfl (fun c6 => ?_)
      refine r_iconst C dX12_tried_217 ?_
      obtain ⟨p7, hf⟩ := gk_s hf
      obtain ⟨r7, h7, hq7, hf⟩ := bd_s hf
      refine r_cV4 C (am_X12_slope (gl g) n) cm_X12_slope w_1873 dX12_tried_218 ⟨Nat.le_of_ble_eq_true rfl, Nat.le_of_ble_eq_true rfl⟩ p7 rfl (in32_of rfl) (in32_of rfl) c6 (in32_of rfl) rfl (Nat.le_of_ble_eq_true rfl) hq7 (by decide) (fun c7 => ?_)
      have c7 : in32 _ := c7
      exact G.mask [true, false, false, false, false, false] rfl rfl (b_X12_tried_221 C hr  c7 hf)
    · have hf := ite_n n4 hf
      refine r_bipush C dX12_tried_203 rfl ?_
      refine r_goto C dX12_tried_205 (tgt := 221) (by decide) ?_
      exact G.mask [true, false, false, false, false, false] rfl rfl (b_X12_tried_221 C hr  (in32_of rfl) hf)
set_option maxRecDepth 20000 in
theorem b_X12_tried_180 {g : GT} {Z : Int × MM} {n : Nat} (C : Cx g cX12_tried 6 yX12_tried 55 1213) (hr : Rt g (some .int) 0 Z) {v0 v1 v4 s0 s1 : Int}  {rec55 : Int → Int → MM → RR} (L55 : ∀ (u3 u4 : Int) (h : MM), in32 u3 → in32 u4 → rec55 u3 u4 h = some Z → G g 55 [(2, v0), (0, v1), (3, 0), (0, u3), (0, u4), (3, 0)] [] h) (cv1 : in32 v1) (cv4 : in32 v4) (cs0 : in32 s0) (cs1 : in32 s1) {h : MM} (hf : f_X12_tried_180 n rec55 v0 v1 v4 s0 s1 h = some Z) : G g 180 [(2, v0), (0, v1), (3, 0), (3, 0), (0, v4), (3, 0)] [(0, s1), (0, s0)] h := by
  unfold f_X12_tried_180 at hf
  refine r_iadd C dX12_tried_180 ?_
  obtain ⟨x1, e1, hf⟩ := lb_s hf
  have c1 : in32 x1 := by rw [e1]; exact (in32_t _)
  refine r_istore_nL C dX12_tried_181 e1 (Nat.le_of_ble_eq_true rfl) rfl ?_
  obtain ⟨x2, e2, hf⟩ := lb_s hf
  have c2 : in32 x2 := by rw [e2]; exact (in32_t _)
  refine r_iincL C dX12_tried_182 rfl e2 (Nat.le_of_ble_eq_true rfl) rfl ?_
  refine r_goto C dX12_tried_185 (tgt := 55) (by decide) ?_
  exact G.mask [true, true, false, true, true, false] rfl rfl (L55 _ _ _ c1 c2 hf)
set_option maxRecDepth 20000 in
theorem b_X12_tried_167 {g : GT} {Z : Int × MM} {n : Nat} (C : Cx g cX12_tried 6 yX12_tried 55 1213) (hr : Rt g (some .int) 0 Z) {v0 v1 v3 v4 s0 : Int}  {rec55 : Int → Int → MM → RR} (L55 : ∀ (u3 u4 : Int) (h : MM), in32 u3 → in32 u4 → rec55 u3 u4 h = some Z → G g 55 [(2, v0), (0, v1), (3, 0), (0, u3), (0, u4), (3, 0)] [] h) (cv1 : in32 v1) (cv3 : in32 v3) (cv4 : in32 v4) (cs0 : in32 s0) {h : MM} (hf : f_X12_tried_167 n rec55 v0 v1 v3 v4 s0 h = some Z) : G g 167 [(2, v0), (0, v1), (3, 0), (0, v3), (0, v4), (3, 0)] [(0, s0)] h := by
  unfold f_X12_tried_167 at hf
  refine r_istore C dX12_tried_167 (Nat.le_of_ble_eq_true rfl) rfl ?_
  refine r_iload_n C dX12_tried_169 rfl ?_
  refine r_iload C dX12_tried_170 rfl ?_
  refine r_if_eq C dX12_tried_172 (tgt := 179) (by decide) cs0 (fun n1 => ?_) (fun n1 => ?_)
  · have hf := ite_p n1 hf
    refine r_iconst C dX12_tried_179 ?_
    exact G.mask [true, true, false, false, true, false] rfl rfl (b_X12_tried_180 C hr L55 cv1 cv4 cv3 (in32_of rfl) hf)
  · have hf := ite_n n1 hf
    refine r_iconst C dX12_tried_175 ?_
    refine r_goto C dX12_tried_176 (tgt := 180) (by decide) ?_
    exact G.mask [true, true, false, false, true, false] rfl rfl (b_X12_tried_180 C hr L55 cv1 cv4 cv3 (in32_of rfl) hf)
set_option maxRecDepth 20000 in
theorem b_X12_tried_166 {g : GT} {Z : Int × MM} {n : Nat} (C : Cx g cX12_tried 6 yX12_tried 55 1213) (hr : Rt g (some .int) 0 Z) {v0 v1 v3 v4 : Int}  {rec55 : Int → Int → MM → RR} (L55 : ∀ (u3 u4 : Int) (h : MM), in32 u3 → in32 u4 → rec55 u3 u4 h = some Z → G g 55 [(2, v0), (0, v1), (3, 0), (0, u3), (0, u4), (3, 0)] [] h) (cv1 : in32 v1) (cv3 : in32 v3) (cv4 : in32 v4) {h : MM} (hf : f_X12_tried_166 n rec55 v0 v1 v3 v4 h = some Z) : G g 166 [(2, v0), (0, v1), (3, 0), (0, v3), (0, v4), (3, 0)] [] h := by
  unfold f_X12_tried_166 at hf
  refine r_iconst C dX12_tried_166 ?_
  exact G.mask [true, true, false, true, true, false] rfl rfl (b_X12_tried_167 C hr L55 cv1 cv3 cv4 (in32_of rfl) hf)
set_option maxRecDepth 20000 in
theorem b_X12_tried_128 {g : GT} {Z : Int × MM} {n : Nat} (C : Cx g cX12_tried 6 yX12_tried 55 1213) (hr : Rt g (some .int) 0 Z) {v0 v1 v3 v4 : Int}  {rec55 : Int → Int → MM → RR} (L55 : ∀ (u3 u4 : Int) (h : MM), in32 u3 → in32 u4 → rec55 u3 u4 h = some Z → G g 55 [(2, v0), (0, v1), (3, 0), (0, u3), (0, u4), (3, 0)] [] h) (cv1 : in32 v1) (cv3 : in32 v3) (cv4 : in32 v4) {h : MM} (hf : f_X12_tried_128 n rec55 v0 v1 v3 v4 h = some Z) : G g 128 [(2, v0), (0, v1), (3, 0), (0, v3), (0, v4), (3, 0)] [] h := by
  unfold f_X12_tried_128 at hf
  refine r_iconst C dX12_tried_128 ?_
  refine r_goto C dX12_tried_129 (tgt := 167) (by decide) ?_
  exact G.mask [true, true, false, true, true, false] rfl rfl (b_X12_tried_167 C hr L55 cv1 cv3 cv4 (in32_of rfl) hf)
set_option maxRecDepth 20000 in
theorem b_X12_tried_55b {g : GT} {Z : Int × MM} {n : Nat} (C : Cx g cX12_tried 6 yX12_tried 55 1213) (hr : Rt g (some .int) 0 Z) {v0 v1 v3 v4 : Int}  {rec55 : Int → Int → MM → RR} (L55 : ∀ (u3 u4 : Int) (h : MM), in32 u3 → in32 u4 → rec55 u3 u4 h = some Z → G g 55 [(2, v0), (0, v1), (3, 0), (0, u3), (0, u4), (3, 0)] [] h) (cv1 : in32 v1) (cv3 : in32 v3) (cv4 : in32 v4) {h : MM} (hf : f_X12_tried_55b n rec55 v0 v1 v3 v4 h = some Z) : G g 55 [(2, v0), (0, v1), (3, 0), (0, v3), (0, v4), (3, 0)] [] h := by
  unfold f_X12_tried_55b at hf
  refine r_iload C dX12_tried_55 rfl ?_
  refine r_aload_n C dX12_tried_57 rfl ?_
  obtain ⟨q1, hf⟩ := gf_s hf
  refine r_gf C ct12 (j := 1) (ji := 1) dX12_tried_58 q1 rfl rfl (by decide) w_1426 rfl (fun c1 => ?_)
  refine r_iconst C dX12_tried_61 ?_
  obtain ⟨q2, hf⟩ := rd_s hf
  refine r_iald C dX12_tried_62 q2 rfl (fun c2 => ?_)
  refine r_icmp_ge C dX12_tried_63 (tgt := 188) (by decide) cv4 c2 (fun n3 => ?_) (fun n3 => ?_)
  · have hf := ite_p n3 hf
    exact G.mask [true, true, false, true, false, false] rfl rfl (b_X12_tried_188 C hr  cv1 cv3 hf)
  · have hf := ite_n n3 hf
    refine r_iload_n C dX12_tried_66 rfl ?_
    refine r_iconst C dX12_tried_67 ?_
    refine r_icmp_ge C dX12_tried_68 (tgt := 188) (by decide) cv1 (in32_of rfl) (fun n4 => ?_) (fun n4 => ?_)
    · have hf := ite_p n4 hf
      exact G.mask [true, true, false, true, false, false] rfl rfl (b_X12_tried_188 C hr  cv1 cv3 hf)
    · have hf := ite_n n4 hf
      refine r_iload_n C dX12_tried_71 rfl ?_
      refine r_if_ne C dX12_tried_72 (tgt := 132) (by decide) cv1 (fun n5 => ?_) (fun n5 => ?_)
      · have hf := ite_n n5 hf
        refine r_aload_n C dX12_tried_132 rfl ?_
        obtain ⟨q6, hf⟩ := gf_s hf
        refine r_gf C ct12 (j := 1) (ji := 1) dX12_tried_133 q6 rfl rfl (by decide) w_1426 rfl (fun c6 => ?_)
        refine r_sipush C dX12_tried_136 rfl ?_
        refine r_iload C dX12_tried_139 rfl ?_
        refine r_iadd C dX12_tried_141 ?_
        obtain ⟨q7, hf⟩ := rd_s hf
        refine r_iald C dX12_tried_142 q7 rfl (fun c7 => ?_)
        refine r_iconst C dX12_tried_143 ?_
        refine r_icmp_ne C dX12_tried_144 (tgt := 166) (by decide) c7 (in32_of rfl) (fun n8 => ?_) (fun n8 => ?_)
        · have hf := ite_n n8 hf
          exact G.mask [true, true, false, true, true, false] rfl rfl (b_X12_tried_166 C hr L55 cv1 cv3 cv4 hf)
        · have hf := ite_p n8 hf
          refine r_aload_n C dX12_tried_147 rfl ?_
          refine r_iload C dX12_tried_148 rfl ?_
          refine r_aload_n C dX12_tried_150 rfl ?_
          obtain ⟨q9, hf⟩ := gf_s hf
          refine r_gf C ct12 (j := 1) (ji := 1) dX12_tried_151 q9 rfl rfl (by decide) w_1426 rfl (fun c9 => ?_)
          refine r_iconst C dX12_tried_154 ?_
          obtain ⟨q10, hf⟩ := rd_s hf
          refine r_iald C dX12_tried_155 q10 rfl (fun c10 => ?_)
          obtain ⟨p11, hf⟩ := gk_s hf
          obtain ⟨r11, h11, hq11, hf⟩ := bd_s hf
          refine r_cV2 C (am_X12_canBeLet (gl g) n) cm_X12_canBeLet w_1694 dX12_tried_156 ⟨Nat.le_of_ble_eq_true rfl, Nat.le_of_ble_eq_true rfl⟩ p11 rfl cv4 c10 rfl (Nat.le_of_ble_eq_true rfl) hq11 (by decide) (fun c11 => ?_)
          have c11 : in32 _ := c11
          refine r_if_eq C dX12_tried_159 (tgt := 166) (by decide) c11 (fun n12 => ?_) (fun n12 => ?_)
          · have hf := ite_p n12 hf
            exact G.mask [true, true, false, true, true, false] rfl rfl (b_X12_tried_166 C hr L55 cv1 cv3 cv4 hf)
          · have hf := ite_n n12 hf
            refine r_iconst C dX12_tried_162 ?_
            refine r_goto C dX12_tried_163 (tgt := 167) (by decide) ?_
            exact G.mask [true, true, false, true, true, false] rfl rfl (b_X12_tried_167 C hr L55 cv1 cv3 cv4 (in32_of rfl) hf)
      · have hf := ite_p n5 hf
        refine r_aload_n C dX12_tried_75 rfl ?_
        obtain ⟨q13, hf⟩ := gf_s hf
        refine r_gf C ct12 (j := 1) (ji := 1) dX12_tried_76 q13 rfl rfl (by decide) w_1426 rfl (fun c13 => ?_)
        refine r_sipush C dX12_tried_79 rfl ?_
        refine r_iload C dX12_tried_82 rfl ?_
        refine r_iadd C dX12_tried_84 ?_
        obtain ⟨q14, hf⟩ := rd_s hf
        refine r_iald C dX12_tried_85 q14 rfl (fun c14 => ?_)
        refine r_iconst C dX12_tried_86 ?_
        refine r_icmp_ne C dX12_tried_87 (tgt := 128) (by decide) c14 (in32_of rfl) (fun n15 => ?_) (fun n15 => ?_)
        · have hf := ite_n n15 hf
          exact G.mask [true, true, false, true, true, false] rfl rfl (b_X12_tried_128 C hr L55 cv1 cv3 cv4 hf)
        · have hf := ite_p n15 hf
          refine r_aload_n C dX12_tried_90 rfl ?_
          refine r_iload C dX12_tried_91 rfl ?_
          refine r_aload_n C dX12_tried_93 rfl ?_
          obtain ⟨q16, hf⟩ := gf_s hf
          refine r_gf C ct12 (j := 1) (ji := 1) dX12_tried_94 q16 rfl rfl (by decide) w_1426 rfl (fun c16 => ?_)
          refine r_iconst C dX12_tried_97 ?_
          obtain ⟨q17, hf⟩ := rd_s hf
          refine r_iald C dX12_tried_98 q17 rfl (fun c17 => ?_)
          obtain ⟨p18, hf⟩ := gk_s hf
          obtain ⟨r18, h18, hq18, hf⟩ := bd_s hf
          refine r_cV2 C (am_X12_notClose (gl g) n) cm_X12_notClose w_1658 dX12_tried_99 ⟨Nat.le_of_ble_eq_true rfl, Nat.le_of_ble_eq_true rfl⟩ p18 rfl cv4 c17 rfl (Nat.le_of_ble_eq_true rfl) hq18 (by decide) (fun c18 => ?_)
          have c18 : in32 _ := c18
          refine r_bipush C dX12_tried_102 rfl ?_
          refine r_icmp_ne C dX12_tried_104 (tgt := 128) (by decide) c18 (in32_of rfl) (fun n19 => ?_) (fun n19 => ?_)
          · have hf := ite_n n19 hf
            exact G.mask [true, true, false, true, true, false] rfl rfl (b_X12_tried_128 C hr L55 cv1 cv3 cv4 hf)
          · have hf := ite_p n19 hf
            refine r_aload_n C dX12_tried_107 rfl ?_
            refine r_iload C dX12_tried_108 rfl ?_
            refine r_aload_n C dX12_tried_110 rfl ?_
            obtain ⟨q20, hf⟩ := gf_s hf
            refine r_gf C ct12 (j := 1) (ji := 1) dX12_tried_111 q20 rfl rfl (by decide) w_1426 rfl (fun c20 => ?_)
            refine r_iconst C dX12_tried_114 ?_
            obtain ⟨q21, hf⟩ := rd_s hf
            refine r_iald C dX12_tried_115 q21 rfl (fun c21 => ?_)
            obtain ⟨p22, hf⟩ := gk_s hf
            obtain ⟨r22, h22, hq22, hf⟩ := bd_s hf
            refine r_cV2 C (am_X12_steep (gl g) n) cm_X12_steep w_1662 dX12_tried_116 ⟨Nat.le_of_ble_eq_true rfl, Nat.le_of_ble_eq_true rfl⟩ p22 rfl cv4 c21 rfl (Nat.le_of_ble_eq_true rfl) hq22 (by decide) (fun c22 => ?_)
            have c22 : in32 _ := c22
            refine r_bipush C dX12_tried_119 rfl ?_
            refine r_icmp_ne C dX12_tried_121 (tgt := 128) (by decide) c22 (in32_of rfl) (fun n23 => ?_) (fun n23 => ?_)
            · have hf := ite_n n23 hf
              exact G.mask [true, true, false, true, true, false] rfl rfl (b_X12_tried_128 C hr L55 cv1 cv3 cv4 hf)
            · have hf := ite_p n23 hf
              refine r_iconst C dX12_tried_124 ?_
              refine r_goto C dX12_tried_125 (tgt := 167) (by decide) ?_
              exact G.mask [true, true, false, true, true, false] rfl rfl (b_X12_tried_167 C hr L55 cv1 cv3 cv4 (in32_of rfl) hf)
set_option maxRecDepth 20000 in
theorem l_X12_tried_55 {g : GT} {Z : Int × MM} {n : Nat} (C : Cx g cX12_tried 6 yX12_tried 55 1213) (hr : Rt g (some .int) 0 Z) {v0 v1 : Int}   (cv1 : in32 v1) : ∀ (k : Nat) (v3 v4 : Int) (h : MM), in32 v3 → in32 v4 → f_X12_tried_55 n  v0 v1 k v3 v4 h = some Z → G g 55 [(2, v0), (0, v1), (3, 0), (0, v3), (0, v4), (3, 0)] [] h := by
  intro k
  induction k with
  | zero => intro v3 v4 h cv3 cv4 hf; exact absurd hf (by intro z; cases z)
  | succ k ih => intro v3 v4 h cv3 cv4 hf; exact b_X12_tried_55b C hr (rec55 := f_X12_tried_55 n  v0 v1 k)  ih cv1 cv3 cv4 (show f_X12_tried_55b n  (f_X12_tried_55 n  v0 v1 k) v0 v1 v3 v4 h = some Z from hf)
set_option maxRecDepth 20000 in
theorem e_X12_tried {g : GT} {Z : Int × MM} {n : Nat} (C : Cx g cX12_tried 6 yX12_tried 55 1213) (hr : Rt g (some .int) 0 Z) {v0 v1 : Int} (cv0 : cK 2 v0) (cv1 : cK 0 v1) {h : MM} (hf : f_X12_tried n v0 v1 h = some Z) : G g 0 [(2, v0), (0, v1), (3, 0), (3, 0), (3, 0), (3, 0)] [] h := by
  have cv1 : in32 v1 := cv1
  unfold f_X12_tried at hf
  refine r_iload_n C dX12_tried_0 rfl ?_
  refine r_iconst C dX12_tried_1 ?_
  refine r_iconst C dX12_tried_2 ?_
  obtain ⟨r1, h1, hq1, hf⟩ := bd_s hf
  refine r_cS3 C (am_X12_in (gl g) n) cm_X12_in w_1496 dX12_tried_3 ⟨Nat.le_of_ble_eq_true rfl, Nat.le_of_ble_eq_true rfl⟩ cv1 (in32_of rfl) (in32_of rfl) rfl (Nat.le_of_ble_eq_true rfl) hq1 (by decide) (fun c1 => ?_)
  have c1 : in32 _ := c1
  refine r_if_ne C dX12_tried_6 (tgt := 11) (by decide) c1 (fun n2 => ?_) (fun n2 => ?_)
  · have hf := ite_n n2 hf
    refine r_aload_n C dX12_tried_11 rfl ?_
    obtain ⟨q3, hf⟩ := gf_s hf
    refine r_gf C ct12 (j := 1) (ji := 1) dX12_tried_12 q3 rfl rfl (by decide) w_1426 rfl (fun c3 => ?_)
    refine r_iconst C dX12_tried_15 ?_
    obtain ⟨q4, hf⟩ := rd_s hf
    refine r_iald C dX12_tried_16 q4 rfl (fun c4 => ?_)
    refine r_istore_n C dX12_tried_17 (Nat.le_of_ble_eq_true rfl) rfl ?_
    refine r_aload_n C dX12_tried_18 rfl ?_
    refine r_iload_n C dX12_tried_19 rfl ?_
    refine r_aload_n C dX12_tried_20 rfl ?_
    obtain ⟨q5, hf⟩ := gf_s hf
    refine r_gf C ct12 (j := 1) (ji := 1) dX12_tried_21 q5 rfl rfl (by decide) w_1426 rfl (fun c5 => ?_)
    refine r_iconst C dX12_tried_24 ?_
    obtain ⟨q6, hf⟩ := rd_s hf
    refine r_iald C dX12_tried_25 q6 rfl (fun c6 => ?_)
    obtain ⟨p7, hf⟩ := gk_s hf
    obtain ⟨r7, h7, hq7, hf⟩ := bd_s hf
    refine r_cV2 C (am_X12_readsOrder (gl g) n) cm_X12_readsOrder w_1527 dX12_tried_26 ⟨Nat.le_of_ble_eq_true rfl, Nat.le_of_ble_eq_true rfl⟩ p7 rfl c4 c6 rfl (Nat.le_of_ble_eq_true rfl) hq7 (by decide) (fun c7 => ?_)
    have c7 : in32 _ := c7
    refine r_if_ne C dX12_tried_29 (tgt := 40) (by decide) c7 (fun n8 => ?_) (fun n8 => ?_)
    · have hf := ite_n n8 hf
      refine r_aload_n C dX12_tried_40 rfl ?_
      obtain ⟨q9, hf⟩ := gf_s hf
      refine r_gf C ct12 (j := 1) (ji := 1) dX12_tried_41 q9 rfl rfl (by decide) w_1426 rfl (fun c9 => ?_)
      refine r_iconst C dX12_tried_44 ?_
      refine r_dup2 C dX12_tried_45 (by decide) (by decide) ?_
      obtain ⟨q10, hf⟩ := rd_s hf
      refine r_iald C dX12_tried_46 q10 rfl (fun c10 => ?_)
      refine r_iconst C dX12_tried_47 ?_
      refine r_iadd C dX12_tried_48 ?_
      obtain ⟨q11, hf⟩ := wt_s hf
      refine r_iast C dX12_tried_49 q11 rfl (in32_t _) ?_
      refine r_iconst C dX12_tried_50 ?_
      refine r_istore_n C dX12_tried_51 (Nat.le_of_ble_eq_true rfl) rfl ?_
      refine r_iconst C dX12_tried_52 ?_
      refine r_istore C dX12_tried_53 (Nat.le_of_ble_eq_true rfl) rfl ?_
      exact G.mask [true, true, false, true, true, false] rfl rfl (l_X12_tried_55 C hr  cv1 _ _ _ _ (in32_of rfl) (in32_of rfl) hf)
    · have hf := ite_p n8 hf
      refine r_bipush C dX12_tried_32 rfl ?_
      refine r_aload_n C dX12_tried_34 rfl ?_
      obtain ⟨q12, hf⟩ := gf_s hf
      refine r_gf C ct12 (j := 5) (ji := 5) dX12_tried_35 q12 rfl rfl (by decide) w_1430 rfl (fun c12 => ?_)
      have c12 : in32 _ := c12
      refine r_isub C dX12_tried_38 ?_
      cases hf
      exact r_jret C hr dX12_tried_39 (in32_t _)
  · have hf := ite_p n2 hf
    refine r_iconst C dX12_tried_9 ?_
    cases hf
    exact r_jret C hr dX12_tried_10 (in32_of rfl)
set_option maxRecDepth 20000 in
theorem am_X12_tried (l : Launch) (n : Nat) : AM l yX12_tried cX12_tried 6 (some .int) 55 1213 [2, 0] 0 (un2 (f_X12_tried n)) := by
  refine AM.intro (by decide) (fun xs hx => ?_) (fun g xs h Z hl C hr hx hf => ?_)
  · obtain ⟨a0, a1, rfl, c0, c1⟩ := canL_2 hx
    exact Nat.le_of_ble_eq_true rfl
  · obtain ⟨a0, a1, rfl, c0, c1⟩ := canL_2 hx
    have hf := (un2_e _ a0 a1 _).symm.trans hf
    exact e_X12_tried (n := n) C hr c0 c1 hf
/-! LinesPromisedModel.known(II)I -/
theorem dX12_known_0 : decode cX12_known 0 = .ok (.aload_n 0, 1) := by decide +kernel
theorem dX12_known_1 : decode cX12_known 1 = .ok (.iload_n 1, 1) := by decide +kernel
theorem dX12_known_2 : decode cX12_known 2 = .ok (.invokevirtual 62, 3) := by decide +kernel
theorem dX12_known_5 : decode cX12_known 5 = .ok (.ifCond .eq 19, 3) := by decide +kernel
theorem dX12_known_8 : decode cX12_known 8 = .ok (.iload_n 2, 1) := by decide +kernel
theorem dX12_known_9 : decode cX12_known 9 = .ok (.iconst 0, 1) := by decide +kernel
theorem dX12_known_10 : decode cX12_known 10 = .ok (.aload_n 0, 1) := by decide +kernel
theorem dX12_known_11 : decode cX12_known 11 = .ok (.getfield 8, 3) := by decide +kernel
theorem dX12_known_14 : decode cX12_known 14 = .ok (.iconst 0, 1) := by decide +kernel
theorem dX12_known_15 : decode cX12_known 15 = .ok (.iaload, 1) := by decide +kernel
theorem dX12_known_16 : decode cX12_known 16 = .ok (.iconst 1, 1) := by decide +kernel
theorem dX12_known_17 : decode cX12_known 17 = .ok (.isub, 1) := by decide +kernel
theorem dX12_known_18 : decode cX12_known 18 = .ok (.invokestatic 58, 3) := by decide +kernel
theorem dX12_known_21 : decode cX12_known 21 = .ok (.ifCond .ne 5, 3) := by decide +kernel
theorem dX12_known_24 : decode cX12_known 24 = .ok (.iconst (-1), 1) := by decide +kernel
theorem dX12_known_25 : decode cX12_known 25 = .ok (.ireturn, 1) := by decide +kernel
theorem dX12_known_26 : decode cX12_known 26 = .ok (.aload_n 0, 1) := by decide +kernel
theorem dX12_known_27 : decode cX12_known 27 = .ok (.getfield 8, 3) := by decide +kernel
theorem dX12_known_30 : decode cX12_known 30 = .ok (.sipush 370, 3) := by decide +kernel
theorem dX12_known_33 : decode cX12_known 33 = .ok (.iload_n 1, 1) := by decide +kernel
theorem dX12_known_34 : decode cX12_known 34 = .ok (.iadd, 1) := by decide +kernel
theorem dX12_known_35 : decode cX12_known 35 = .ok (.iaload, 1) := by decide +kernel
theorem dX12_known_36 : decode cX12_known 36 = .ok (.istore_n 3, 1) := by decide +kernel
theorem dX12_known_37 : decode cX12_known 37 = .ok (.iload_n 3, 1) := by decide +kernel
theorem dX12_known_38 : decode cX12_known 38 = .ok (.iconst 1, 1) := by decide +kernel
theorem dX12_known_39 : decode cX12_known 39 = .ok (.if_icmp .ne 26, 3) := by decide +kernel
theorem dX12_known_42 : decode cX12_known 42 = .ok (.aload_n 0, 1) := by decide +kernel
theorem dX12_known_43 : decode cX12_known 43 = .ok (.getfield 8, 3) := by decide +kernel
theorem dX12_known_46 : decode cX12_known 46 = .ok (.sipush 11840, 3) := by decide +kernel
theorem dX12_known_49 : decode cX12_known 49 = .ok (.sipush 1000, 3) := by decide +kernel
theorem dX12_known_52 : decode cX12_known 52 = .ok (.aload_n 0, 1) := by decide +kernel
theorem dX12_known_53 : decode cX12_known 53 = .ok (.iload_n 1, 1) := by decide +kernel
theorem dX12_known_54 : decode cX12_known 54 = .ok (.invokevirtual 238, 3) := by decide +kernel
theorem dX12_known_57 : decode cX12_known 57 = .ok (.imul, 1) := by decide +kernel
theorem dX12_known_58 : decode cX12_known 58 = .ok (.iadd, 1) := by decide +kernel
theorem dX12_known_59 : decode cX12_known 59 = .ok (.iload_n 2, 1) := by decide +kernel
theorem dX12_known_60 : decode cX12_known 60 = .ok (.iadd, 1) := by decide +kernel
theorem dX12_known_61 : decode cX12_known 61 = .ok (.iaload, 1) := by decide +kernel
theorem dX12_known_62 : decode cX12_known 62 = .ok (.goto 28, 3) := by decide +kernel
theorem dX12_known_65 : decode cX12_known 65 = .ok (.iload_n 3, 1) := by decide +kernel
theorem dX12_known_66 : decode cX12_known 66 = .ok (.iconst 3, 1) := by decide +kernel
theorem dX12_known_67 : decode cX12_known 67 = .ok (.if_icmp .ne 22, 3) := by decide +kernel
theorem dX12_known_70 : decode cX12_known 70 = .ok (.aload_n 0, 1) := by decide +kernel
theorem dX12_known_71 : decode cX12_known 71 = .ok (.getfield 8, 3) := by decide +kernel
theorem dX12_known_74 : decode cX12_known 74 = .ok (.sipush 23840, 3) := by decide +kernel
theorem dX12_known_77 : decode cX12_known 77 = .ok (.sipush 1000, 3) := by decide +kernel
theorem dX12_known_80 : decode cX12_known 80 = .ok (.iload_n 1, 1) := by decide +kernel
theorem dX12_known_81 : decode cX12_known 81 = .ok (.imul, 1) := by decide +kernel
theorem dX12_known_82 : decode cX12_known 82 = .ok (.iadd, 1) := by decide +kernel
theorem dX12_known_83 : decode cX12_known 83 = .ok (.iload_n 2, 1) := by decide +kernel
theorem dX12_known_84 : decode cX12_known 84 = .ok (.iadd, 1) := by decide +kernel
theorem dX12_known_85 : decode cX12_known 85 = .ok (.iaload, 1) := by decide +kernel
theorem dX12_known_86 : decode cX12_known 86 = .ok (.goto 4, 3) := by decide +kernel
theorem dX12_known_89 : decode cX12_known 89 = .ok (.iconst (-1), 1) := by decide +kernel
theorem dX12_known_90 : decode cX12_known 90 = .ok (.ireturn, 1) := by decide +kernel
theorem cm_X12_known : CM yX12_known cX12_known 4 (some .int) 2 12 := ⟨w_1875, w_1876, w_1877, w_97, ⟨by decide +kernel, by decide +kernel, by decide +kernel⟩, ⟨_, _, rfl⟩, by decide⟩
noncomputable def f_X12_known_24 (n : Nat)  (h : MM) : RR :=
  some ((-1), h)
noncomputable def f_X12_known_90 (n : Nat)  (s0 : Int) (h : MM) : RR :=
  some (s0, h)
noncomputable def f_X12_known (n : Nat) (v0 v1 v2 : Int) (h : MM) : RR :=
  gk h v0 12 <|
  bd (f_X12_isPaper n v0 v1 h) fun r1 h1 =>
  if r1 = 0 then
    f_X12_known_24 n h1
  else
  gf h1 v0 12 1 fun r3 =>
  rd h1 r3 100 0 fun r4 =>
  bd (f_X12_in n v2 0 (wr (r4 - 1)) h1) fun r5 h5 =>
  if r5 = 0 then
    f_X12_known_24 n h5
  else
  gf h5 v0 12 1 fun r7 =>
  rd h5 r7 100 (wr (370 + v1)) fun r8 =>
  if r8 = 1 then
    gf h5 v0 12 1 fun r13 =>
    gk h5 v0 12 <|
    bd (f_X12_indexOf n v0 v1 h5) fun r14 h14 =>
    rd h14 r13 100 (wr ((wr (11840 + (wr (1000 * r14)))) + v2)) fun r15 =>
    f_X12_known_90 n r15 h14
  else
  if r8 = 3 then
    gf h5 v0 12 1 fun r11 =>
    rd h5 r11 100 (wr ((wr (23840 + (wr (1000 * v1)))) + v2)) fun r12 =>
    f_X12_known_90 n r12 h5
  else
  f_X12_known_90 n ((-1)) h5
set_option maxRecDepth 20000 in
theorem b_X12_known_24 {g : GT} {Z : Int × MM} {n : Nat} (C : Cx g cX12_known 4 yX12_known 2 43) (hr : Rt g (some .int) 0 Z)     {h : MM} (hf : f_X12_known_24 n   h = some Z) : G g 24 [(3, 0), (3, 0), (3, 0), (3, 0)] [] h := by
  unfold f_X12_known_24 at hf
  refine r_iconst C dX12_known_24 ?_
  cases hf
  exact r_jret C hr dX12_known_25 (in32_of rfl)
set_option maxRecDepth 20000 in
theorem b_X12_known_90 {g : GT} {Z : Int × MM} {n : Nat} (C : Cx g cX12_known 4 yX12_known 2 43) (hr : Rt g (some .int) 0 Z) {s0 : Int}    (cs0 : in32 s0) {h : MM} (hf : f_X12_known_90 n  s0 h = some Z) : G g 90 [(3, 0), (3, 0), (3, 0), (3, 0)] [(0, s0)] h := by
  unfold f_X12_known_90 at hf
  cases hf
  exact r_jret C hr dX12_known_90 cs0
set_option maxRecDepth 20000 in
theorem e_X12_known {g : GT} {Z : Int × MM} {n : Nat} (C : Cx g cX12_known 4 yX12_known 2 43) (hr : Rt g (some .int) 0 Z) {v0 v1 v2 : Int} (cv0 : cK 2 v0) (cv1 : cK 0 v1) (cv2 : cK 0 v2) {h : MM} (hf : f_X12_known n v0 v1 v2 h = some Z) : G g 0 [(2, v0), (0, v1), (0, v2), (3, 0)] [] h := by
  have cv1 : in32 v1 := cv1
  have cv2 : in32 v2 := cv2
  unfold f_X12_known at hf
  refine r_aload_n C dX12_known_0 rfl ?_
  refine r_iload_n C dX12_known_1 rfl ?_
  obtain ⟨p1, hf⟩ := gk_s hf
  obtain ⟨r1, h1, hq1, hf⟩ := bd_s hf
  refine r_cV1 C (am_X12_isPaper (gl g) n) cm_X12_isPaper w_1611 dX12_known_2 ⟨Nat.le_of_ble_eq_true rfl, Nat.le_of_ble_eq_true rfl⟩ p1 rfl cv1 rfl (Nat.le_of_ble_eq_true rfl) hq1 (by decide) (fun c1 => ?_)
  have c1 : in32 _ := c1
  refine r_if_eq C dX12_known_5 (tgt := 24) (by decide) c1 (fun n2 => ?_) (fun n2 => ?_)
  · have hf := ite_p n2 hf
    exact G.mask [false, false, false, false] rfl rfl (b_X12_known_24 C hr   hf)
  · have hf := ite_n n2 hf
    refine r_iload_n C dX12_known_8 rfl ?_
    refine r_iconst C dX12_known_9 ?_
    refine r_aload_n C dX12_known_10 rfl ?_
    obtain ⟨q3, hf⟩ := gf_s hf
    refine r_gf C ct12 (j := 1) (ji := 1) dX12_known_11 q3 rfl rfl (by decide) w_1426 rfl (fun c3 => ?_)
    refine r_iconst C dX12_known_14 ?_
    obtain ⟨q4, hf⟩ := rd_s hf
    refine r_iald C dX12_known_15 q4 rfl (fun c4 => ?_)
    refine r_iconst C dX12_known_16 ?_
    refine r_isub C dX12_known_17 ?_
    obtain ⟨r5, h5, hq5, hf⟩ := bd_s hf
    refine r_cS3 C (am_X12_in (gl g) n) cm_X12_in w_1496 dX12_known_18 ⟨Nat.le_of_ble_eq_true rfl, Nat.le_of_ble_eq_true rfl⟩ cv2 (in32_of rfl) (in32_t _) rfl (Nat.le_of_ble_eq_true rfl) hq5 (by decide) (fun c5 => ?_)
    have c5 : in32 _ := c5
    refine r_if_ne C dX12_known_21 (tgt := 26) (by decide) c5 (fun n6 => ?_) (fun n6 => ?_)
    · have hf := ite_n n6 hf
      refine r_aload_n C dX12_known_26 rfl ?_
      obtain ⟨q7, hf⟩ := gf_s hf
      refine r_gf C ct12 (j := 1) (ji := 1) dX12_known_27 q7 rfl rfl (by decide) w_1426 rfl (fun c7 => ?_)
      refine r_sipush C dX12_known_30 rfl ?_
      refine r_iload_n C dX12_known_33 rfl ?_
      refine r_iadd C dX12_known_34 ?_
      obtain ⟨q8, hf⟩ := rd_s hf
      refine r_iald C dX12_known_35 q8 rfl (fun c8 => ?_)
      refine r_istore_n C dX12_known_36 (Nat.le_of_ble_eq_true rfl) rfl ?_
      refine r_iload_n C dX12_known_37 rfl ?_
      refine r_iconst C dX12_known_38 ?_
      refine r_icmp_ne C dX12_known_39 (tgt := 65) (by decide) c8 (in32_of rfl) (fun n9 => ?_) (fun n9 => ?_)
      · have hf := ite_n n9 hf
        refine r_iload_n C dX12_known_65 rfl ?_
        refine r_iconst C dX12_known_66 ?_
        refine r_icmp_ne C dX12_known_67 (tgt := 89) (by decide) c8 (in32_of rfl) (fun n10 => ?_) (fun n10 => ?_)
        · have hf := ite_n n10 hf
          refine r_iconst C dX12_known_89 ?_
          exact G.mask [false, false, false, false] rfl rfl (b_X12_known_90 C hr  (in32_of rfl) hf)
        · have hf := ite_p n10 hf
          refine r_aload_n C dX12_known_70 rfl ?_
          obtain ⟨q11, hf⟩ := gf_s hf
          refine r_gf C ct12 (j := 1) (ji := 1) dX12_known_71 q11 rfl rfl (by decide) w_1426 rfl (fun c11 => ?_)
          refine r_sipush C dX12_known_74 rfl ?_
          refine r_sipush C dX12_known_77 rfl ?_
          refine r_iload_n C dX12_known_80 rfl ?_
          refine r_imul C dX12_known_81 ?_
          refine r_iadd C dX12_known_82 ?_
          refine r_iload_n C dX12_known_83 rfl ?_
          refine r_iadd C dX12_known_84 ?_
          obtain ⟨q12, hf⟩ := rd_s hf
          refine r_iald C dX12_known_85 q12 rfl (fun c12 => ?_)
          refine r_goto C dX12_known_86 (tgt := 90) (by decide) ?_
          exact G.mask [false, false, false, false] rfl rfl (b_X12_known_90 C hr  c12 hf)
      · have hf := ite_p n9 hf
        refine r_aload_n C dX12_known_42 rfl ?_
        obtain ⟨q13, hf⟩ := gf_s hf
        refine r_gf C ct12 (j := 1) (ji := 1) dX12_known_43 q13 rfl rfl (by decide) w_1426 rfl (fun c13 => ?_)
        refine r_sipush C dX12_known_46 rfl ?_
        refine r_sipush C dX12_known_49 rfl ?_
        refine r_aload_n C dX12_known_52 rfl ?_
        refine r_iload_n C dX12_known_53 rfl ?_
        obtain ⟨p14, hf⟩ := gk_s hf
        obtain ⟨r14, h14, hq14, hf⟩ := bd_s hf
        refine r_cV1 C (am_X12_indexOf (gl g) n) cm_X12_indexOf w_1777 dX12_known_54 ⟨Nat.le_of_ble_eq_true rfl, Nat.le_of_ble_eq_true rfl⟩ p14 rfl cv1 rfl (Nat.le_of_ble_eq_true rfl) hq14 (by decide) (fun c14 => ?_)
        have c14 : in32 _ := c14
        refine r_imul C dX12_known_57 ?_
        refine r_iadd C dX12_known_58 ?_
        refine r_iload_n C dX12_known_59 rfl ?_
        refine r_iadd C dX12_known_60 ?_
        obtain ⟨q15, hf⟩ := rd_s hf
        refine r_iald C dX12_known_61 q15 rfl (fun c15 => ?_)
        refine r_goto C dX12_known_62 (tgt := 90) (by decide) ?_
        exact G.mask [false, false, false, false] rfl rfl (b_X12_known_90 C hr  c15 hf)
    · have hf := ite_p n6 hf
      exact G.mask [false, false, false, false] rfl rfl (b_X12_known_24 C hr   hf)
set_option maxRecDepth 20000 in
theorem am_X12_known (l : Launch) (n : Nat) : AM l yX12_known cX12_known 4 (some .int) 2 43 [2, 0, 0] 0 (un3 (f_X12_known n)) := by
  refine AM.intro (by decide) (fun xs hx => ?_) (fun g xs h Z hl C hr hx hf => ?_)
  · obtain ⟨a0, a1, a2, rfl, c0, c1, c2⟩ := canL_3 hx
    exact Nat.le_of_ble_eq_true rfl
  · obtain ⟨a0, a1, a2, rfl, c0, c1, c2⟩ := canL_3 hx
    have hf := (un3_e _ a0 a1 a2 _).symm.trans hf
    exact e_X12_known (n := n) C hr c0 c1 c2 hf
/-! LinesPromisedModel.image()I -/
theorem dX12_image_0 : decode cX12_image 0 = .ok (.iconst 0, 1) := by decide +kernel
theorem dX12_image_1 : decode cX12_image 1 = .ok (.istore_n 1, 1) := by decide +kernel
theorem dX12_image_2 : decode cX12_image 2 = .ok (.iload_n 1, 1) := by decide +kernel
theorem dX12_image_3 : decode cX12_image 3 = .ok (.ldc 7, 2) := by decide +kernel
theorem dX12_image_5 : decode cX12_image 5 = .ok (.if_icmp .ge 21, 3) := by decide +kernel
theorem dX12_image_8 : decode cX12_image 8 = .ok (.aload_n 0, 1) := by decide +kernel
theorem dX12_image_9 : decode cX12_image 9 = .ok (.getfield 14, 3) := by decide +kernel
theorem dX12_image_12 : decode cX12_image 12 = .ok (.iload_n 1, 1) := by decide +kernel
theorem dX12_image_13 : decode cX12_image 13 = .ok (.aload_n 0, 1) := by decide +kernel
theorem dX12_image_14 : decode cX12_image 14 = .ok (.getfield 8, 3) := by decide +kernel
theorem dX12_image_17 : decode cX12_image 17 = .ok (.iload_n 1, 1) := by decide +kernel
theorem dX12_image_18 : decode cX12_image 18 = .ok (.iaload, 1) := by decide +kernel
theorem dX12_image_19 : decode cX12_image 19 = .ok (.iastore, 1) := by decide +kernel
theorem dX12_image_20 : decode cX12_image 20 = .ok (.iinc 1 1, 3) := by decide +kernel
theorem dX12_image_23 : decode cX12_image 23 = .ok (.goto (-21), 3) := by decide +kernel
theorem dX12_image_26 : decode cX12_image 26 = .ok (.aload_n 0, 1) := by decide +kernel
theorem dX12_image_27 : decode cX12_image 27 = .ok (.iconst 1, 1) := by decide +kernel
theorem dX12_image_28 : decode cX12_image 28 = .ok (.putfield 280, 3) := by decide +kernel
theorem dX12_image_31 : decode cX12_image 31 = .ok (.aload_n 0, 1) := by decide +kernel
theorem dX12_image_32 : decode cX12_image 32 = .ok (.getfield 8, 3) := by decide +kernel
theorem dX12_image_35 : decode cX12_image 35 = .ok (.iconst 0, 1) := by decide +kernel
theorem dX12_image_36 : decode cX12_image 36 = .ok (.iaload, 1) := by decide +kernel
theorem dX12_image_37 : decode cX12_image 37 = .ok (.ireturn, 1) := by decide +kernel
theorem cm_X12_image : CM yX12_image cX12_image 2 (some .int) 0 12 := ⟨w_1879, w_1880, w_1881, w_97, ⟨by decide +kernel, by decide +kernel, by decide +kernel⟩, ⟨_, _, rfl⟩, by decide⟩
noncomputable def f_X12_image_2b (n : Nat) (rec2 : Int → MM → RR) (v0 v1 : Int) (h : MM) : RR :=
  if 83840 ≤ v1 then
    ck (isb 1) <|
    pf h v0 12 3 1 fun h2 =>
    gf h2 v0 12 1 fun r4 =>
    rd h2 r4 100 0 fun r5 =>
    some (r5, h2)
  else
  gf h v0 12 2 fun r6 =>
  gf h v0 12 1 fun r7 =>
  rd h r7 100 v1 fun r8 =>
  wt h r6 100 v1 r8 fun h9 =>
  lb (wr (v1 + 1)) fun x10 =>
  rec2 x10 h9
noncomputable def f_X12_image_2 (n : Nat)  (v0 : Int) : Nat → Int → MM → RR
  | 0, _, _ => none
  | k + 1, v1, h => f_X12_image_2b n  (f_X12_image_2 n  v0 k) v0 v1 h
noncomputable def f_X12_image (n : Nat) (v0 : Int) (h : MM) : RR :=
  f_X12_image_2 n v0 n 0 h
set_option maxRecDepth 20000 in
theorem b_X12_image_2b {g : GT} {Z : Int × MM} {n : Nat} (C : Cx g cX12_image 2 yX12_image 0 0) (hr : Rt g (some .int) 0 Z) {v0 v1 : Int}  {rec2 : Int → MM → RR} (L2 : ∀ (u1 : Int) (h : MM), in32 u1 → rec2 u1 h = some Z → G g 2 [(2, v0), (0, u1)] [] h) (cv1 : in32 v1) {h : MM} (hf : f_X12_image_2b n rec2 v0 v1 h = some Z) : G g 2 [(2, v0), (0, v1)] [] h := by
  unfold f_X12_image_2b at hf
  refine r_iload_n C dX12_image_2 rfl ?_
  refine r_ldc C (v := 83840) dX12_image_3 w_1425 ?_
  refine r_icmp_ge C dX12_image_5 (tgt := 26) (by decide) cv1 (in32_of rfl) (fun n1 => ?_) (fun n1 => ?_)
  · have hf := ite_p n1 hf
    refine r_aload_n C dX12_image_26 rfl ?_
    refine r_iconst C dX12_image_27 ?_
    obtain ⟨b3, hf⟩ := ck_s hf
    obtain ⟨q2, hf⟩ := pf_s hf
    refine r_pf C ct12 (j := 3) (ji := 3) dX12_image_28 q2 rfl rfl (by decide) w_1428 rfl (Or.inl rfl) (nar_bool (isb_s b3)) (in32_of rfl) ?_
    refine r_aload_n C dX12_image_31 rfl ?_
    obtain ⟨q4, hf⟩ := gf_s hf
    refine r_gf C ct12 (j := 1) (ji := 1) dX12_image_32 q4 rfl rfl (by decide) w_1426 rfl (fun c4 => ?_)
    refine r_iconst C dX12_image_35 ?_
    obtain ⟨q5, hf⟩ := rd_s hf
    refine r_iald C dX12_image_36 q5 rfl (fun c5 => ?_)
    cases hf
    exact r_jret C hr dX12_image_37 c5
  · have hf := ite_n n1 hf
    refine r_aload_n C dX12_image_8 rfl ?_
    obtain ⟨q6, hf⟩ := gf_s hf
    refine r_gf C ct12 (j := 2) (ji := 2) dX12_image_9 q6 rfl rfl (by decide) w_1427 rfl (fun c6 => ?_)
    refine r_iload_n C dX12_image_12 rfl ?_
    refine r_aload_n C dX12_image_13 rfl ?_
    obtain ⟨q7, hf⟩ := gf_s hf
    refine r_gf C ct12 (j := 1) (ji := 1) dX12_image_14 q7 rfl rfl (by decide) w_1426 rfl (fun c7 => ?_)
    refine r_iload_n C dX12_image_17 rfl ?_
    obtain ⟨q8, hf⟩ := rd_s hf
    refine r_iald C dX12_image_18 q8 rfl (fun c8 => ?_)
    obtain ⟨q9, hf⟩ := wt_s hf
    refine r_iast C dX12_image_19 q9 rfl c8 ?_
    obtain ⟨x10, e10, hf⟩ := lb_s hf
    have c10 : in32 x10 := by rw [e10]; exact (in32_t _)
    refine r_iincL C dX12_image_20 rfl e10 (Nat.le_of_ble_eq_true rfl) rfl ?_
    refine r_goto C dX12_image_23 (tgt := 2) (by decide) ?_
    exact G.mask [true, true] rfl rfl (L2 _ _ c10 hf)
set_option maxRecDepth 20000 in
theorem l_X12_image_2 {g : GT} {Z : Int × MM} {n : Nat} (C : Cx g cX12_image 2 yX12_image 0 0) (hr : Rt g (some .int) 0 Z) {v0 : Int}    : ∀ (k : Nat) (v1 : Int) (h : MM), in32 v1 → f_X12_image_2 n  v0 k v1 h = some Z → G g 2 [(2, v0), (0, v1)] [] h := by
  intro k
  induction k with
  | zero => intro v1 h cv1 hf; exact absurd hf (by intro z; cases z)
  | succ k ih => intro v1 h cv1 hf; exact b_X12_image_2b C hr (rec2 := f_X12_image_2 n  v0 k)  ih cv1 (show f_X12_image_2b n  (f_X12_image_2 n  v0 k) v0 v1 h = some Z from hf)
set_option maxRecDepth 20000 in
theorem e_X12_image {g : GT} {Z : Int × MM} {n : Nat} (C : Cx g cX12_image 2 yX12_image 0 0) (hr : Rt g (some .int) 0 Z) {v0 : Int} (cv0 : cK 2 v0) {h : MM} (hf : f_X12_image n v0 h = some Z) : G g 0 [(2, v0), (3, 0)] [] h := by
  unfold f_X12_image at hf
  refine r_iconst C dX12_image_0 ?_
  refine r_istore_n C dX12_image_1 (Nat.le_of_ble_eq_true rfl) rfl ?_
  exact G.mask [true, true] rfl rfl (l_X12_image_2 C hr   _ _ _ (in32_of rfl) hf)
set_option maxRecDepth 20000 in
theorem am_X12_image (l : Launch) (n : Nat) : AM l yX12_image cX12_image 2 (some .int) 0 0 [2] 0 (un1 (f_X12_image n)) := by
  refine AM.intro (by decide) (fun xs hx => ?_) (fun g xs h Z hl C hr hx hf => ?_)
  · obtain ⟨a0, rfl, c0⟩ := canL_1 hx
    exact Nat.le_of_ble_eq_true rfl
  · obtain ⟨a0, rfl, c0⟩ := canL_1 hx
    have hf := (un1_e _ a0 _).symm.trans hf
    exact e_X12_image (n := n) C hr c0 hf
/-! LinesPromisedModel.undo()I -/
theorem dX12_undo_0 : decode cX12_undo 0 = .ok (.aload_n 0, 1) := by decide +kernel
theorem dX12_undo_1 : decode cX12_undo 1 = .ok (.getfield 280, 3) := by decide +kernel
theorem dX12_undo_4 : decode cX12_undo 4 = .ok (.ifCond .ne 6, 3) := by decide +kernel
theorem dX12_undo_7 : decode cX12_undo 7 = .ok (.bipush (-3), 2) := by decide +kernel
theorem dX12_undo_9 : decode cX12_undo 9 = .ok (.ireturn, 1) := by decide +kernel
theorem dX12_undo_10 : decode cX12_undo 10 = .ok (.iconst 0, 1) := by decide +kernel
theorem dX12_undo_11 : decode cX12_undo 11 = .ok (.istore_n 1, 1) := by decide +kernel
theorem dX12_undo_12 : decode cX12_undo 12 = .ok (.iload_n 1, 1) := by decide +kernel
theorem dX12_undo_13 : decode cX12_undo 13 = .ok (.ldc 7, 2) := by decide +kernel
theorem dX12_undo_15 : decode cX12_undo 15 = .ok (.if_icmp .ge 21, 3) := by decide +kernel
theorem dX12_undo_18 : decode cX12_undo 18 = .ok (.aload_n 0, 1) := by decide +kernel
theorem dX12_undo_19 : decode cX12_undo 19 = .ok (.getfield 8, 3) := by decide +kernel
theorem dX12_undo_22 : decode cX12_undo 22 = .ok (.iload_n 1, 1) := by decide +kernel
theorem dX12_undo_23 : decode cX12_undo 23 = .ok (.aload_n 0, 1) := by decide +kernel
theorem dX12_undo_24 : decode cX12_undo 24 = .ok (.getfield 14, 3) := by decide +kernel
theorem dX12_undo_27 : decode cX12_undo 27 = .ok (.iload_n 1, 1) := by decide +kernel
theorem dX12_undo_28 : decode cX12_undo 28 = .ok (.iaload, 1) := by decide +kernel
theorem dX12_undo_29 : decode cX12_undo 29 = .ok (.iastore, 1) := by decide +kernel
theorem dX12_undo_30 : decode cX12_undo 30 = .ok (.iinc 1 1, 3) := by decide +kernel
theorem dX12_undo_33 : decode cX12_undo 33 = .ok (.goto (-21), 3) := by decide +kernel
theorem dX12_undo_36 : decode cX12_undo 36 = .ok (.aload_n 0, 1) := by decide +kernel
theorem dX12_undo_37 : decode cX12_undo 37 = .ok (.getfield 8, 3) := by decide +kernel
theorem dX12_undo_40 : decode cX12_undo 40 = .ok (.iconst 0, 1) := by decide +kernel
theorem dX12_undo_41 : decode cX12_undo 41 = .ok (.iaload, 1) := by decide +kernel
theorem dX12_undo_42 : decode cX12_undo 42 = .ok (.ireturn, 1) := by decide +kernel
theorem cm_X12_undo : CM yX12_undo cX12_undo 2 (some .int) 0 12 := ⟨w_1883, w_1884, w_1885, w_97, ⟨by decide +kernel, by decide +kernel, by decide +kernel⟩, ⟨_, _, rfl⟩, by decide⟩
noncomputable def f_X12_undo_12b (n : Nat) (rec12 : Int → MM → RR) (v0 v1 : Int) (h : MM) : RR :=
  if 83840 ≤ v1 then
    gf h v0 12 1 fun r2 =>
    rd h r2 100 0 fun r3 =>
    some (r3, h)
  else
  gf h v0 12 1 fun r4 =>
  gf h v0 12 2 fun r5 =>
  rd h r5 100 v1 fun r6 =>
  wt h r4 100 v1 r6 fun h7 =>
  lb (wr (v1 + 1)) fun x8 =>
  rec12 x8 h7
noncomputable def f_X12_undo_12 (n : Nat)  (v0 : Int) : Nat → Int → MM → RR
  | 0, _, _ => none
  | k + 1, v1, h => f_X12_undo_12b n  (f_X12_undo_12 n  v0 k) v0 v1 h
noncomputable def f_X12_undo (n : Nat) (v0 : Int) (h : MM) : RR :=
  gf h v0 12 3 fun r1 =>
  if r1 = 0 then
    some ((-3), h)
  else
  f_X12_undo_12 n v0 n 0 h
set_option maxRecDepth 20000 in
theorem b_X12_undo_12b {g : GT} {Z : Int × MM} {n : Nat} (C : Cx g cX12_undo 2 yX12_undo 0 0) (hr : Rt g (some .int) 0 Z) {v0 v1 : Int}  {rec12 : Int → MM → RR} (L12 : ∀ (u1 : Int) (h : MM), in32 u1 → rec12 u1 h = some Z → G g 12 [(2, v0), (0, u1)] [] h) (cv1 : in32 v1) {h : MM} (hf : f_X12_undo_12b n rec12 v0 v1 h = some Z) : G g 12 [(2, v0), (0, v1)] [] h := by
  unfold f_X12_undo_12b at hf
  refine r_iload_n C dX12_undo_12 rfl ?_
  refine r_ldc C (v := 83840) dX12_undo_13 w_1425 ?_
  refine r_icmp_ge C dX12_undo_15 (tgt := 36) (by decide) cv1 (in32_of rfl) (fun n1 => ?_) (fun n1 => ?_)
  · have hf := ite_p n1 hf
    refine r_aload_n C dX12_undo_36 rfl ?_
    obtain ⟨q2, hf⟩ := gf_s hf
    refine r_gf C ct12 (j := 1) (ji := 1) dX12_undo_37 q2 rfl rfl (by decide) w_1426 rfl (fun c2 => ?_)
    refine r_iconst C dX12_undo_40 ?_
    obtain ⟨q3, hf⟩ := rd_s hf
    refine r_iald C dX12_undo_41 q3 rfl (fun c3 => ?_)
    cases hf
    exact r_jret C hr dX12_undo_42 c3
  · have hf := ite_n n1 hf
    refine r_aload_n C dX12_undo_18 rfl ?_
    obtain ⟨q4, hf⟩ := gf_s hf
    refine r_gf C ct12 (j := 1) (ji := 1) dX12_undo_19 q4 rfl rfl (by decide) w_1426 rfl (fun c4 => ?_)
    refine r_iload_n C dX12_undo_22 rfl ?_
    refine r_aload_n C dX12_undo_23 rfl ?_
    obtain ⟨q5, hf⟩ := gf_s hf
    refine r_gf C ct12 (j := 2) (ji := 2) dX12_undo_24 q5 rfl rfl (by decide) w_1427 rfl (fun c5 => ?_)
    refine r_iload_n C dX12_undo_27 rfl ?_
    obtain ⟨q6, hf⟩ := rd_s hf
    refine r_iald C dX12_undo_28 q6 rfl (fun c6 => ?_)
    obtain ⟨q7, hf⟩ := wt_s hf
    refine r_iast C dX12_undo_29 q7 rfl c6 ?_
    obtain ⟨x8, e8, hf⟩ := lb_s hf
    have c8 : in32 x8 := by rw [e8]; exact (in32_t _)
    refine r_iincL C dX12_undo_30 rfl e8 (Nat.le_of_ble_eq_true rfl) rfl ?_
    refine r_goto C dX12_undo_33 (tgt := 12) (by decide) ?_
    exact G.mask [true, true] rfl rfl (L12 _ _ c8 hf)
set_option maxRecDepth 20000 in
theorem l_X12_undo_12 {g : GT} {Z : Int × MM} {n : Nat} (C : Cx g cX12_undo 2 yX12_undo 0 0) (hr : Rt g (some .int) 0 Z) {v0 : Int}    : ∀ (k : Nat) (v1 : Int) (h : MM), in32 v1 → f_X12_undo_12 n  v0 k v1 h = some Z → G g 12 [(2, v0), (0, v1)] [] h := by
  intro k
  induction k with
  | zero => intro v1 h cv1 hf; exact absurd hf (by intro z; cases z)
  | succ k ih => intro v1 h cv1 hf; exact b_X12_undo_12b C hr (rec12 := f_X12_undo_12 n  v0 k)  ih cv1 (show f_X12_undo_12b n  (f_X12_undo_12 n  v0 k) v0 v1 h = some Z from hf)
set_option maxRecDepth 20000 in
theorem e_X12_undo {g : GT} {Z : Int × MM} {n : Nat} (C : Cx g cX12_undo 2 yX12_undo 0 0) (hr : Rt g (some .int) 0 Z) {v0 : Int} (cv0 : cK 2 v0) {h : MM} (hf : f_X12_undo n v0 h = some Z) : G g 0 [(2, v0), (3, 0)] [] h := by
  unfold f_X12_undo at hf
  refine r_aload_n C dX12_undo_0 rfl ?_
  obtain ⟨q1, hf⟩ := gf_s hf
  refine r_gf C ct12 (j := 3) (ji := 3) dX12_undo_1 q1 rfl rfl (by decide) w_1428 rfl (fun c1 => ?_)
  have c1 : in32 _ := c1
  refine r_if_ne C dX12_undo_4 (tgt := 10) (by decide) c1 (fun n2 => ?_) (fun n2 => ?_)
  · have hf := ite_n n2 hf
    refine r_iconst C dX12_undo_10 ?_
    refine r_istore_n C dX12_undo_11 (Nat.le_of_ble_eq_true rfl) rfl ?_
    exact G.mask [true, true] rfl rfl (l_X12_undo_12 C hr   _ _ _ (in32_of rfl) hf)
  · have hf := ite_p n2 hf
    refine r_bipush C dX12_undo_7 rfl ?_
    cases hf
    exact r_jret C hr dX12_undo_9 (in32_of rfl)
set_option maxRecDepth 20000 in
theorem am_X12_undo (l : Launch) (n : Nat) : AM l yX12_undo cX12_undo 2 (some .int) 0 0 [2] 0 (un1 (f_X12_undo n)) := by
  refine AM.intro (by decide) (fun xs hx => ?_) (fun g xs h Z hl C hr hx hf => ?_)
  · obtain ⟨a0, rfl, c0⟩ := canL_1 hx
    exact Nat.le_of_ble_eq_true rfl
  · obtain ⟨a0, rfl, c0⟩ := canL_1 hx
    have hf := (un1_e _ a0 _).symm.trans hf
    exact e_X12_undo (n := n) C hr c0 hf
/-! LinesPromisedModel.count(I)I -/
theorem dX12_count_0 : decode cX12_count 0 = .ok (.iconst 0, 1) := by decide +kernel
theorem dX12_count_1 : decode cX12_count 1 = .ok (.istore_n 2, 1) := by decide +kernel
theorem dX12_count_2 : decode cX12_count 2 = .ok (.iload_n 1, 1) := by decide +kernel
theorem dX12_count_3 : decode cX12_count 3 = .ok (.tableswitch 177 0 10 #[57, 64, 71, 78, 85, 92, 99, 104, 153, 161, 169], 57) := by decide +kernel
theorem dX12_count_60 : decode cX12_count 60 = .ok (.aload_n 0, 1) := by decide +kernel
theorem dX12_count_61 : decode cX12_count 61 = .ok (.getfield 8, 3) := by decide +kernel
theorem dX12_count_64 : decode cX12_count 64 = .ok (.iconst 1, 1) := by decide +kernel
theorem dX12_count_65 : decode cX12_count 65 = .ok (.iaload, 1) := by decide +kernel
theorem dX12_count_66 : decode cX12_count 66 = .ok (.ireturn, 1) := by decide +kernel
theorem dX12_count_67 : decode cX12_count 67 = .ok (.aload_n 0, 1) := by decide +kernel
theorem dX12_count_68 : decode cX12_count 68 = .ok (.getfield 8, 3) := by decide +kernel
theorem dX12_count_71 : decode cX12_count 71 = .ok (.iconst 2, 1) := by decide +kernel
theorem dX12_count_72 : decode cX12_count 72 = .ok (.iaload, 1) := by decide +kernel
theorem dX12_count_73 : decode cX12_count 73 = .ok (.ireturn, 1) := by decide +kernel
theorem dX12_count_74 : decode cX12_count 74 = .ok (.aload_n 0, 1) := by decide +kernel
theorem dX12_count_75 : decode cX12_count 75 = .ok (.getfield 8, 3) := by decide +kernel
theorem dX12_count_78 : decode cX12_count 78 = .ok (.iconst 3, 1) := by decide +kernel
theorem dX12_count_79 : decode cX12_count 79 = .ok (.iaload, 1) := by decide +kernel
theorem dX12_count_80 : decode cX12_count 80 = .ok (.ireturn, 1) := by decide +kernel
theorem dX12_count_81 : decode cX12_count 81 = .ok (.aload_n 0, 1) := by decide +kernel
theorem dX12_count_82 : decode cX12_count 82 = .ok (.getfield 8, 3) := by decide +kernel
theorem dX12_count_85 : decode cX12_count 85 = .ok (.iconst 0, 1) := by decide +kernel
theorem dX12_count_86 : decode cX12_count 86 = .ok (.iaload, 1) := by decide +kernel
theorem dX12_count_87 : decode cX12_count 87 = .ok (.ireturn, 1) := by decide +kernel
theorem dX12_count_88 : decode cX12_count 88 = .ok (.aload_n 0, 1) := by decide +kernel
theorem dX12_count_89 : decode cX12_count 89 = .ok (.getfield 8, 3) := by decide +kernel
theorem dX12_count_92 : decode cX12_count 92 = .ok (.iconst 4, 1) := by decide +kernel
theorem dX12_count_93 : decode cX12_count 93 = .ok (.iaload, 1) := by decide +kernel
theorem dX12_count_94 : decode cX12_count 94 = .ok (.ireturn, 1) := by decide +kernel
theorem dX12_count_95 : decode cX12_count 95 = .ok (.aload_n 0, 1) := by decide +kernel
theorem dX12_count_96 : decode cX12_count 96 = .ok (.getfield 8, 3) := by decide +kernel
theorem dX12_count_99 : decode cX12_count 99 = .ok (.iconst 5, 1) := by decide +kernel
theorem dX12_count_100 : decode cX12_count 100 = .ok (.iaload, 1) := by decide +kernel
theorem dX12_count_101 : decode cX12_count 101 = .ok (.ireturn, 1) := by decide +kernel
theorem dX12_count_102 : decode cX12_count 102 = .ok (.aload_n 0, 1) := by decide +kernel
theorem dX12_count_103 : decode cX12_count 103 = .ok (.invokevirtual 222, 3) := by decide +kernel
theorem dX12_count_106 : decode cX12_count 106 = .ok (.ireturn, 1) := by decide +kernel
theorem dX12_count_107 : decode cX12_count 107 = .ok (.iconst 0, 1) := by decide +kernel
theorem dX12_count_108 : decode cX12_count 108 = .ok (.istore_n 3, 1) := by decide +kernel
theorem dX12_count_109 : decode cX12_count 109 = .ok (.iload_n 3, 1) := by decide +kernel
theorem dX12_count_110 : decode cX12_count 110 = .ok (.aload_n 0, 1) := by decide +kernel
theorem dX12_count_111 : decode cX12_count 111 = .ok (.getfield 8, 3) := by decide +kernel
theorem dX12_count_114 : decode cX12_count 114 = .ok (.iconst 2, 1) := by decide +kernel
theorem dX12_count_115 : decode cX12_count 115 = .ok (.iaload, 1) := by decide +kernel
theorem dX12_count_116 : decode cX12_count 116 = .ok (.if_icmp .ge 38, 3) := by decide +kernel
theorem dX12_count_119 : decode cX12_count 119 = .ok (.iload_n 2, 1) := by decide +kernel
theorem dX12_count_120 : decode cX12_count 120 = .ok (.aload_n 0, 1) := by decide +kernel
theorem dX12_count_121 : decode cX12_count 121 = .ok (.iload_n 3, 1) := by decide +kernel
theorem dX12_count_122 : decode cX12_count 122 = .ok (.invokevirtual 219, 3) := by decide +kernel
theorem dX12_count_125 : decode cX12_count 125 = .ok (.ifCond .eq 20, 3) := by decide +kernel
theorem dX12_count_128 : decode cX12_count 128 = .ok (.aload_n 0, 1) := by decide +kernel
theorem dX12_count_129 : decode cX12_count 129 = .ok (.getfield 8, 3) := by decide +kernel
theorem dX12_count_132 : decode cX12_count 132 = .ok (.sipush 970, 3) := by decide +kernel
theorem dX12_count_135 : decode cX12_count 135 = .ok (.iload_n 3, 1) := by decide +kernel
theorem dX12_count_136 : decode cX12_count 136 = .ok (.iadd, 1) := by decide +kernel
theorem dX12_count_137 : decode cX12_count 137 = .ok (.iaload, 1) := by decide +kernel
theorem dX12_count_138 : decode cX12_count 138 = .ok (.ifCond .ne 7, 3) := by decide +kernel
theorem dX12_count_141 : decode cX12_count 141 = .ok (.iconst 1, 1) := by decide +kernel
theorem dX12_count_142 : decode cX12_count 142 = .ok (.goto 4, 3) := by decide +kernel
theorem dX12_count_145 : decode cX12_count 145 = .ok (.iconst 0, 1) := by decide +kernel
theorem dX12_count_146 : decode cX12_count 146 = .ok (.iadd, 1) := by decide +kernel
theorem dX12_count_147 : decode cX12_count 147 = .ok (.istore_n 2, 1) := by decide +kernel
theorem dX12_count_148 : decode cX12_count 148 = .ok (.iinc 3 1, 3) := by decide +kernel
theorem dX12_count_151 : decode cX12_count 151 = .ok (.goto (-42), 3) := by decide +kernel
theorem dX12_count_154 : decode cX12_count 154 = .ok (.iload_n 2, 1) := by decide +kernel
theorem dX12_count_155 : decode cX12_count 155 = .ok (.ireturn, 1) := by decide +kernel
theorem dX12_count_156 : decode cX12_count 156 = .ok (.aload_n 0, 1) := by decide +kernel
theorem dX12_count_157 : decode cX12_count 157 = .ok (.getfield 8, 3) := by decide +kernel
theorem dX12_count_160 : decode cX12_count 160 = .ok (.bipush 7, 2) := by decide +kernel
theorem dX12_count_162 : decode cX12_count 162 = .ok (.iaload, 1) := by decide +kernel
theorem dX12_count_163 : decode cX12_count 163 = .ok (.ireturn, 1) := by decide +kernel
theorem dX12_count_164 : decode cX12_count 164 = .ok (.aload_n 0, 1) := by decide +kernel
theorem dX12_count_165 : decode cX12_count 165 = .ok (.getfield 8, 3) := by decide +kernel
theorem dX12_count_168 : decode cX12_count 168 = .ok (.bipush 8, 2) := by decide +kernel
theorem dX12_count_170 : decode cX12_count 170 = .ok (.iaload, 1) := by decide +kernel
theorem dX12_count_171 : decode cX12_count 171 = .ok (.ireturn, 1) := by decide +kernel
theorem dX12_count_172 : decode cX12_count 172 = .ok (.aload_n 0, 1) := by decide +kernel
theorem dX12_count_173 : decode cX12_count 173 = .ok (.getfield 8, 3) := by decide +kernel
theorem dX12_count_176 : decode cX12_count 176 = .ok (.bipush 6, 2) := by decide +kernel
theorem dX12_count_178 : decode cX12_count 178 = .ok (.iaload, 1) := by decide +kernel
theorem dX12_count_179 : decode cX12_count 179 = .ok (.ireturn, 1) := by decide +kernel
theorem dX12_count_180 : decode cX12_count 180 = .ok (.iconst (-1), 1) := by decide +kernel
theorem dX12_count_181 : decode cX12_count 181 = .ok (.ireturn, 1) := by decide +kernel
theorem cm_X12_count : CM yX12_count cX12_count 4 (some .int) 1 12 := ⟨w_1887, w_1888, w_1889, w_97, ⟨by decide +kernel, by decide +kernel, by decide +kernel⟩, ⟨_, _, rfl⟩, by decide⟩
noncomputable def f_X12_count_146 (n : Nat) (rec109 : Int → Int → MM → RR) (v0 v3 s0 s1 : Int) (h : MM) : RR :=
  lb (wr (s0 + s1)) fun x1 =>
  lb (wr (v3 + 1)) fun x2 =>
  rec109 x1 x2 h
noncomputable def f_X12_count_145 (n : Nat) (rec109 : Int → Int → MM → RR) (v0 v3 s0 : Int) (h : MM) : RR :=
  f_X12_count_146 n rec109 v0 v3 s0 0 h
noncomputable def f_X12_count_109b (n : Nat) (rec109 : Int → Int → MM → RR) (v0 v2 v3 : Int) (h : MM) : RR :=
  gf h v0 12 1 fun r1 =>
  rd h r1 100 2 fun r2 =>
  if r2 ≤ v3 then
    some (v2, h)
  else
  gk h v0 12 <|
  bd (f_X12_isGranted n v0 v3 h) fun r4 h4 =>
  if r4 = 0 then
    f_X12_count_145 n rec109 v0 v3 v2 h4
  else
  gf h4 v0 12 1 fun r6 =>
  rd h4 r6 100 (wr (970 + v3)) fun r7 =>
  if r7 = 0 then
    f_X12_count_146 n rec109 v0 v3 v2 1 h4
  else
  f_X12_count_145 n rec109 v0 v3 v2 h4
noncomputable def f_X12_count_109 (n : Nat)  (v0 : Int) : Nat → Int → Int → MM → RR
  | 0, _, _, _ => none
  | k + 1, v2, v3, h => f_X12_count_109b n  (f_X12_count_109 n  v0 k) v0 v2 v3 h
noncomputable def f_X12_count (n : Nat) (v0 v1 : Int) (h : MM) : RR :=
  if v1 = 0 then
    gf h v0 12 1 fun r2 =>
    rd h r2 100 1 fun r3 =>
    some (r3, h)
  else
  if v1 = 1 then
    gf h v0 12 1 fun r5 =>
    rd h r5 100 2 fun r6 =>
    some (r6, h)
  else
  if v1 = 2 then
    gf h v0 12 1 fun r8 =>
    rd h r8 100 3 fun r9 =>
    some (r9, h)
  else
  if v1 = 3 then
    gf h v0 12 1 fun r11 =>
    rd h r11 100 0 fun r12 =>
    some (r12, h)
  else
  if v1 = 4 then
    gf h v0 12 1 fun r14 =>
    rd h r14 100 4 fun r15 =>
    some (r15, h)
  else
  if v1 = 5 then
    gf h v0 12 1 fun r17 =>
    rd h r17 100 5 fun r18 =>
    some (r18, h)
  else
  if v1 = 6 then
    gk h v0 12 <|
    bd (f_X12_granted n v0 h) fun r20 h20 =>
    some (r20, h20)
  else
  if v1 = 7 then
    f_X12_count_109 n v0 n 0 0 h
  else
  if v1 = 8 then
    gf h v0 12 1 fun r23 =>
    rd h r23 100 7 fun r24 =>
    some (r24, h)
  else
  if v1 = 9 then
    gf h v0 12 1 fun r26 =>
    rd h r26 100 8 fun r27 =>
    some (r27, h)
  else
  if v1 = 10 then
    gf h v0 12 1 fun r29 =>
    rd h r29 100 6 fun r30 =>
    some (r30, h)
  else
  some ((-1), h)
set_option maxRecDepth 20000 in
theorem b_X12_count_146 {g : GT} {Z : Int × MM} {n : Nat} (C : Cx g cX12_count 4 yX12_count 2 43) (hr : Rt g (some .int) 0 Z) {v0 v3 s0 s1 : Int}  {rec109 : Int → Int → MM → RR} (L109 : ∀ (u2 u3 : Int) (h : MM), in32 u2 → in32 u3 → rec109 u2 u3 h = some Z → G g 109 [(2, v0), (3, 0), (0, u2), (0, u3)] [] h) (cv3 : in32 v3) (cs0 : in32 s0) (cs1 : in32 s1) {h : MM} (hf : f_X12_count_146 n rec109 v0 v3 s0 s1 h = some Z) : G g 146 [(2, v0), (3, 0), (3, 0), (0, v3)] [(0, s1), (0, s0)] h := by
  unfold f_X12_count_146 at hf
  refine r_iadd C dX12_count_146 ?_
  obtain ⟨x1, e1, hf⟩ := lb_s hf
  have c1 : in32 x1 := by rw [e1]; exact (in32_t _)
  refine r_istore_nL C dX12_count_147 e1 (Nat.le_of_ble_eq_true rfl) rfl ?_
  obtain ⟨x2, e2, hf⟩ := lb_s hf
  have c2 : in32 x2 := by rw [e2]; exact (in32_t _)
  refine r_iincL C dX12_count_148 rfl e2 (Nat.le_of_ble_eq_true rfl) rfl ?_
  refine r_goto C dX12_count_151 (tgt := 109) (by decide) ?_
  exact G.mask [true, false, true, true] rfl rfl (L109 _ _ _ c1 c2 hf)
set_option maxRecDepth 20000 in
theorem b_X12_count_145 {g : GT} {Z : Int × MM} {n : Nat} (C : Cx g cX12_count 4 yX12_count 2 43) (hr : Rt g (some .int) 0 Z) {v0 v3 s0 : Int}  {rec109 : Int → Int → MM → RR} (L109 : ∀ (u2 u3 : Int) (h : MM), in32 u2 → in32 u3 → rec109 u2 u3 h = some Z → G g 109 [(2, v0), (3, 0), (0, u2), (0, u3)] [] h) (cv3 : in32 v3) (cs0 : in32 s0) {h : MM} (hf : f_X12_count_145 n rec109 v0 v3 s0 h = some Z) : G g 145 [(2, v0), (3, 0), (3, 0), (0, v3)] [(0, s0)] h := by
  unfold f_X12_count_145 at hf
  refine r_iconst C dX12_count_145 ?_
  exact G.mask [true, false, false, true] rfl rfl (b_X12_count_146 C hr L109 cv3 cs0 (in32_of rfl) hf)
set_option maxRecDepth 20000 in
theorem b_X12_count_109b {g : GT} {Z : Int × MM} {n : Nat} (C : Cx g cX12_count 4 yX12_count 2 43) (hr : Rt g (some .int) 0 Z) {v0 v2 v3 : Int}  {rec109 : Int → Int → MM → RR} (L109 : ∀ (u2 u3 : Int) (h : MM), in32 u2 → in32 u3 → rec109 u2 u3 h = some Z → G g 109 [(2, v0), (3, 0), (0, u2), (0, u3)] [] h) (cv2 : in32 v2) (cv3 : in32 v3) {h : MM} (hf : f_X12_count_109b n rec109 v0 v2 v3 h = some Z) : G g 109 [(2, v0), (3, 0), (0, v2), (0, v3)] [] h := by
  unfold f_X12_count_109b at hf
  refine r_iload_n C dX12_count_109 rfl ?_
  refine r_aload_n C dX12_count_110 rfl ?_
  obtain ⟨q1, hf⟩ := gf_s hf
  refine r_gf C ct12 (j := 1) (ji := 1) dX12_count_111 q1 rfl rfl (by decide) w_1426 rfl (fun c1 => ?_)
  refine r_iconst C dX12_count_114 ?_
  obtain ⟨q2, hf⟩ := rd_s hf
  refine r_iald C dX12_count_115 q2 rfl (fun c2 => ?_)
  refine r_icmp_ge C dX12_count_116 (tgt := 154) (by decide) cv3 c2 (fun n3 => ?_) (fun n3 => ?_)
  · have hf := ite_p n3 hf
    refine r_iload_n C dX12_count_154 rfl ?_
    cases hf
    exact r_jret C hr dX12_count_155 cv2
  · have hf := ite_n n3 hf
    refine r_iload_n C dX12_count_119 rfl ?_
    refine r_aload_n C dX12_count_120 rfl ?_
    refine r_iload_n C dX12_count_121 rfl ?_
    obtain ⟨p4, hf⟩ := gk_s hf
    obtain ⟨r4, h4, hq4, hf⟩ := bd_s hf
    refine r_cV1 C (am_X12_isGranted (gl g) n) cm_X12_isGranted w_1718 dX12_count_122 ⟨Nat.le_of_ble_eq_true rfl, Nat.le_of_ble_eq_true rfl⟩ p4 rfl cv3 rfl (Nat.le_of_ble_eq_true rfl) hq4 (by decide) (fun c4 => ?_)
    have c4 : in32 _ := c4
    refine r_if_eq C dX12_count_125 (tgt := 145) (by decide) c4 (fun n5 => ?_) (fun n5 => ?_)
    · have hf := ite_p n5 hf
      exact G.mask [true, false, false, true] rfl rfl (b_X12_count_145 C hr L109 cv3 cv2 hf)
    · have hf := ite_n n5 hf
      refine r_aload_n C dX12_count_128 rfl ?_
      obtain ⟨q6, hf⟩ := gf_s hf
      refine r_gf C ct12 (j := 1) (ji := 1) dX12_count_129 q6 rfl rfl (by decide) w_1426 rfl (fun c6 => ?_)
      refine r_sipush C dX12_count_132 rfl ?_
      refine r_iload_n C dX12_count_135 rfl ?_
      refine r_iadd C dX12_count_136 ?_
      obtain ⟨q7, hf⟩ := rd_s hf
      refine r_iald C dX12_count_137 q7 rfl (fun c7 => ?_)
      refine r_if_ne C dX12_count_138 (tgt := 145) (by decide) c7 (fun n8 => ?_) (fun n8 => ?_)
      · have hf := ite_n n8 hf
        exact G.mask [true, false, false, true] rfl rfl (b_X12_count_145 C hr L109 cv3 cv2 hf)
      · have hf := ite_p n8 hf
        refine r_iconst C dX12_count_141 ?_
        refine r_goto C dX12_count_142 (tgt := 146) (by decide) ?_
        exact G.mask [true, false, false, true] rfl rfl (b_X12_count_146 C hr L109 cv3 cv2 (in32_of rfl) hf)
set_option maxRecDepth 20000 in
theorem l_X12_count_109 {g : GT} {Z : Int × MM} {n : Nat} (C : Cx g cX12_count 4 yX12_count 2 43) (hr : Rt g (some .int) 0 Z) {v0 : Int}    : ∀ (k : Nat) (v2 v3 : Int) (h : MM), in32 v2 → in32 v3 → f_X12_count_109 n  v0 k v2 v3 h = some Z → G g 109 [(2, v0), (3, 0), (0, v2), (0, v3)] [] h := by
  intro k
  induction k with
  | zero => intro v2 v3 h cv2 cv3 hf; exact absurd hf (by intro z; cases z)
  | succ k ih => intro v2 v3 h cv2 cv3 hf; exact b_X12_count_109b C hr (rec109 := f_X12_count_109 n  v0 k)  ih cv2 cv3 (show f_X12_count_109b n  (f_X12_count_109 n  v0 k) v0 v2 v3 h = some Z from hf)
set_option maxRecDepth 20000 in
theorem e_X12_count {g : GT} {Z : Int × MM} {n : Nat} (C : Cx g cX12_count 4 yX12_count 2 43) (hr : Rt g (some .int) 0 Z) {v0 v1 : Int} (cv0 : cK 2 v0) (cv1 : cK 0 v1) {h : MM} (hf : f_X12_count n v0 v1 h = some Z) : G g 0 [(2, v0), (0, v1), (3, 0), (3, 0)] [] h := by
  have cv1 : in32 v1 := cv1
  unfold f_X12_count at hf
  refine r_iconst C dX12_count_0 ?_
  refine r_istore_n C dX12_count_1 (Nat.le_of_ble_eq_true rfl) rfl ?_
  refine r_iload_n C dX12_count_2 rfl ?_
  rcases ite_s hf with ⟨n1, hf⟩ | ⟨n1, hf⟩
  · refine r_tsw C dX12_count_3 (tgt := 60) cv1 n1 rfl rfl (by decide) ?_
    refine r_aload_n C dX12_count_60 rfl ?_
    obtain ⟨q2, hf⟩ := gf_s hf
    refine r_gf C ct12 (j := 1) (ji := 1) dX12_count_61 q2 rfl rfl (by decide) w_1426 rfl (fun c2 => ?_)
    refine r_iconst C dX12_count_64 ?_
    obtain ⟨q3, hf⟩ := rd_s hf
    refine r_iald C dX12_count_65 q3 rfl (fun c3 => ?_)
    cases hf
    exact r_jret C hr dX12_count_66 c3
  rcases ite_s hf with ⟨n4, hf⟩ | ⟨n4, hf⟩
  · refine r_tsw C dX12_count_3 (tgt := 67) cv1 n4 rfl rfl (by decide) ?_
    refine r_aload_n C dX12_count_67 rfl ?_
    obtain ⟨q5, hf⟩ := gf_s hf
    refine r_gf C ct12 (j := 1) (ji := 1) dX12_count_68 q5 rfl rfl (by decide) w_1426 rfl (fun c5 => ?_)
    refine r_iconst C dX12_count_71 ?_
    obtain ⟨q6, hf⟩ := rd_s hf
    refine r_iald C dX12_count_72 q6 rfl (fun c6 => ?_)
    cases hf
    exact r_jret C hr dX12_count_73 c6
  rcases ite_s hf with ⟨n7, hf⟩ | ⟨n7, hf⟩
  · refine r_tsw C dX12_count_3 (tgt := 74) cv1 n7 rfl rfl (by decide) ?_
    refine r_aload_n C dX12_count_74 rfl ?_
    obtain ⟨q8, hf⟩ := gf_s hf
    refine r_gf C ct12 (j := 1) (ji := 1) dX12_count_75 q8 rfl rfl (by decide) w_1426 rfl (fun c8 => ?_)
    refine r_iconst C dX12_count_78 ?_
    obtain ⟨q9, hf⟩ := rd_s hf
    refine r_iald C dX12_count_79 q9 rfl (fun c9 => ?_)
    cases hf
    exact r_jret C hr dX12_count_80 c9
  rcases ite_s hf with ⟨n10, hf⟩ | ⟨n10, hf⟩
  · refine r_tsw C dX12_count_3 (tgt := 81) cv1 n10 rfl rfl (by decide) ?_
    refine r_aload_n C dX12_count_81 rfl ?_
    obtain ⟨q11, hf⟩ := gf_s hf
    refine r_gf C ct12 (j := 1) (ji := 1) dX12_count_82 q11 rfl rfl (by decide) w_1426 rfl (fun c11 => ?_)
    refine r_iconst C dX12_count_85 ?_
    obtain ⟨q12, hf⟩ := rd_s hf
    refine r_iald C dX12_count_86 q12 rfl (fun c12 => ?_)
    cases hf
    exact r_jret C hr dX12_count_87 c12
  rcases ite_s hf with ⟨n13, hf⟩ | ⟨n13, hf⟩
  · refine r_tsw C dX12_count_3 (tgt := 88) cv1 n13 rfl rfl (by decide) ?_
    refine r_aload_n C dX12_count_88 rfl ?_
    obtain ⟨q14, hf⟩ := gf_s hf
    refine r_gf C ct12 (j := 1) (ji := 1) dX12_count_89 q14 rfl rfl (by decide) w_1426 rfl (fun c14 => ?_)
    refine r_iconst C dX12_count_92 ?_
    obtain ⟨q15, hf⟩ := rd_s hf
    refine r_iald C dX12_count_93 q15 rfl (fun c15 => ?_)
    cases hf
    exact r_jret C hr dX12_count_94 c15
  rcases ite_s hf with ⟨n16, hf⟩ | ⟨n16, hf⟩
  · refine r_tsw C dX12_count_3 (tgt := 95) cv1 n16 rfl rfl (by decide) ?_
    refine r_aload_n C dX12_count_95 rfl ?_
    obtain ⟨q17, hf⟩ := gf_s hf
    refine r_gf C ct12 (j := 1) (ji := 1) dX12_count_96 q17 rfl rfl (by decide) w_1426 rfl (fun c17 => ?_)
    refine r_iconst C dX12_count_99 ?_
    obtain ⟨q18, hf⟩ := rd_s hf
    refine r_iald C dX12_count_100 q18 rfl (fun c18 => ?_)
    cases hf
    exact r_jret C hr dX12_count_101 c18
  rcases ite_s hf with ⟨n19, hf⟩ | ⟨n19, hf⟩
  · refine r_tsw C dX12_count_3 (tgt := 102) cv1 n19 rfl rfl (by decide) ?_
    refine r_aload_n C dX12_count_102 rfl ?_
    obtain ⟨p20, hf⟩ := gk_s hf
    obtain ⟨r20, h20, hq20, hf⟩ := bd_s hf
    refine r_cV0 C (am_X12_granted (gl g) n) cm_X12_granted w_1722 dX12_count_103 ⟨Nat.le_of_ble_eq_true rfl, Nat.le_of_ble_eq_true rfl⟩ p20 rfl  rfl (Nat.le_of_ble_eq_true rfl) hq20 (by decide) (fun c20 => ?_)
    have c20 : in32 _ := c20
    cases hf
    exact r_jret C hr dX12_count_106 c20
  rcases ite_s hf with ⟨n21, hf⟩ | ⟨n21, hf⟩
  · refine r_tsw C dX12_count_3 (tgt := 107) cv1 n21 rfl rfl (by decide) ?_
    refine r_iconst C dX12_count_107 ?_
    refine r_istore_n C dX12_count_108 (Nat.le_of_ble_eq_true rfl) rfl ?_
    exact G.mask [true, false, true, true] rfl rfl (l_X12_count_109 C hr   _ _ _ _ (in32_of rfl) (in32_of rfl) hf)
  rcases ite_s hf with ⟨n22, hf⟩ | ⟨n22, hf⟩
  · refine r_tsw C dX12_count_3 (tgt := 156) cv1 n22 rfl rfl (by decide) ?_
    refine r_aload_n C dX12_count_156 rfl ?_
    obtain ⟨q23, hf⟩ := gf_s hf
    refine r_gf C ct12 (j := 1) (ji := 1) dX12_count_157 q23 rfl rfl (by decide) w_1426 rfl (fun c23 => ?_)
    refine r_bipush C dX12_count_160 rfl ?_
    obtain ⟨q24, hf⟩ := rd_s hf
    refine r_iald C dX12_count_162 q24 rfl (fun c24 => ?_)
    cases hf
    exact r_jret C hr dX12_count_163 c24
  rcases ite_s hf with ⟨n25, hf⟩ | ⟨n25, hf⟩
  · refine r_tsw C dX12_count_3 (tgt := 164) cv1 n25 rfl rfl (by decide) ?_
    refine r_aload_n C dX12_count_164 rfl ?_
    obtain ⟨q26, hf⟩ := gf_s hf
    refine r_gf C ct12 (j := 1) (ji := 1) dX12_count_165 q26 rfl rfl (by decide) w_1426 rfl (fun c26 => ?_)
    refine r_bipush C dX12_count_168 rfl ?_
    obtain ⟨q27, hf⟩ := rd_s hf
    refine r_iald C dX12_count_170 q27 rfl (fun c27 => ?_)
    cases hf
    exact r_jret C hr dX12_count_171 c27
  rcases ite_s hf with ⟨n28, hf⟩ | ⟨n28, hf⟩
  · refine r_tsw C dX12_count_3 (tgt := 172) cv1 n28 rfl rfl (by decide) ?_
    refine r_aload_n C dX12_count_172 rfl ?_
    obtain ⟨q29, hf⟩ := gf_s hf
    refine r_gf C ct12 (j := 1) (ji := 1) dX12_count_173 q29 rfl rfl (by decide) w_1426 rfl (fun c29 => ?_)
    refine r_bipush C dX12_count_176 rfl ?_
    obtain ⟨q30, hf⟩ := rd_s hf
    refine r_iald C dX12_count_178 q30 rfl (fun c30 => ?_)
    cases hf
    exact r_jret C hr dX12_count_179 c30
  refine r_tswd C dX12_count_3 (tgt := 180) cv1 (by omega) (by decide) ?_
  refine r_iconst C dX12_count_180 ?_
  cases hf
  exact r_jret C hr dX12_count_181 (in32_of rfl)
set_option maxRecDepth 20000 in
theorem am_X12_count (l : Launch) (n : Nat) : AM l yX12_count cX12_count 4 (some .int) 2 43 [2, 0] 0 (un2 (f_X12_count n)) := by
  refine AM.intro (by decide) (fun xs hx => ?_) (fun g xs h Z hl C hr hx hf => ?_)
  · obtain ⟨a0, a1, rfl, c0, c1⟩ := canL_2 hx
    exact Nat.le_of_ble_eq_true rfl
  · obtain ⟨a0, a1, rfl, c0, c1⟩ := canL_2 hx
    have hf := (un2_e _ a0 a1 _).symm.trans hf
    exact e_X12_count (n := n) C hr c0 c1 hf
/-! LinesPromisedModel.sheet(III)I -/
theorem dX12_sheet_0 : decode cX12_sheet 0 = .ok (.iload_n 1, 1) := by decide +kernel
theorem dX12_sheet_1 : decode cX12_sheet 1 = .ok (.invokestatic 168, 3) := by decide +kernel
theorem dX12_sheet_4 : decode cX12_sheet 4 = .ok (.ifCond .ne 5, 3) := by decide +kernel
theorem dX12_sheet_7 : decode cX12_sheet 7 = .ok (.iconst (-1), 1) := by decide +kernel
theorem dX12_sheet_8 : decode cX12_sheet 8 = .ok (.ireturn, 1) := by decide +kernel
theorem dX12_sheet_9 : decode cX12_sheet 9 = .ok (.iload_n 2, 1) := by decide +kernel
theorem dX12_sheet_10 : decode cX12_sheet 10 = .ok (.iconst (-1), 1) := by decide +kernel
theorem dX12_sheet_11 : decode cX12_sheet 11 = .ok (.iconst 2, 1) := by decide +kernel
theorem dX12_sheet_12 : decode cX12_sheet 12 = .ok (.invokestatic 58, 3) := by decide +kernel
theorem dX12_sheet_15 : decode cX12_sheet 15 = .ok (.ifCond .eq 14, 3) := by decide +kernel
theorem dX12_sheet_18 : decode cX12_sheet 18 = .ok (.iload_n 2, 1) := by decide +kernel
theorem dX12_sheet_19 : decode cX12_sheet 19 = .ok (.iconst (-1), 1) := by decide +kernel
theorem dX12_sheet_20 : decode cX12_sheet 20 = .ok (.if_icmp .eq 12, 3) := by decide +kernel
theorem dX12_sheet_23 : decode cX12_sheet 23 = .ok (.iload_n 3, 1) := by decide +kernel
theorem dX12_sheet_24 : decode cX12_sheet 24 = .ok (.bipush 40, 2) := by decide +kernel
theorem dX12_sheet_26 : decode cX12_sheet 26 = .ok (.if_icmp .le 6, 3) := by decide +kernel
theorem dX12_sheet_29 : decode cX12_sheet 29 = .ok (.bipush (-2), 2) := by decide +kernel
theorem dX12_sheet_31 : decode cX12_sheet 31 = .ok (.ireturn, 1) := by decide +kernel
theorem dX12_sheet_32 : decode cX12_sheet 32 = .ok (.iload_n 2, 1) := by decide +kernel
theorem dX12_sheet_33 : decode cX12_sheet 33 = .ok (.iconst (-1), 1) := by decide +kernel
theorem dX12_sheet_34 : decode cX12_sheet 34 = .ok (.if_icmp .eq 10, 3) := by decide +kernel
theorem dX12_sheet_37 : decode cX12_sheet 37 = .ok (.iload_n 3, 1) := by decide +kernel
theorem dX12_sheet_38 : decode cX12_sheet 38 = .ok (.ifCond .ge 6, 3) := by decide +kernel
theorem dX12_sheet_41 : decode cX12_sheet 41 = .ok (.bipush (-14), 2) := by decide +kernel
theorem dX12_sheet_43 : decode cX12_sheet 43 = .ok (.ireturn, 1) := by decide +kernel
theorem dX12_sheet_44 : decode cX12_sheet 44 = .ok (.aload_n 0, 1) := by decide +kernel
theorem dX12_sheet_45 : decode cX12_sheet 45 = .ok (.getfield 8, 3) := by decide +kernel
theorem dX12_sheet_48 : decode cX12_sheet 48 = .ok (.sipush 200, 3) := by decide +kernel
theorem dX12_sheet_51 : decode cX12_sheet 51 = .ok (.iload_n 1, 1) := by decide +kernel
theorem dX12_sheet_52 : decode cX12_sheet 52 = .ok (.iadd, 1) := by decide +kernel
theorem dX12_sheet_53 : decode cX12_sheet 53 = .ok (.iload_n 2, 1) := by decide +kernel
theorem dX12_sheet_54 : decode cX12_sheet 54 = .ok (.iastore, 1) := by decide +kernel
theorem dX12_sheet_55 : decode cX12_sheet 55 = .ok (.aload_n 0, 1) := by decide +kernel
theorem dX12_sheet_56 : decode cX12_sheet 56 = .ok (.getfield 8, 3) := by decide +kernel
theorem dX12_sheet_59 : decode cX12_sheet 59 = .ok (.sipush 204, 3) := by decide +kernel
theorem dX12_sheet_62 : decode cX12_sheet 62 = .ok (.iload_n 1, 1) := by decide +kernel
theorem dX12_sheet_63 : decode cX12_sheet 63 = .ok (.iadd, 1) := by decide +kernel
theorem dX12_sheet_64 : decode cX12_sheet 64 = .ok (.iload_n 2, 1) := by decide +kernel
theorem dX12_sheet_65 : decode cX12_sheet 65 = .ok (.iconst (-1), 1) := by decide +kernel
theorem dX12_sheet_66 : decode cX12_sheet 66 = .ok (.if_icmp .ne 7, 3) := by decide +kernel
theorem dX12_sheet_69 : decode cX12_sheet 69 = .ok (.iconst 0, 1) := by decide +kernel
theorem dX12_sheet_70 : decode cX12_sheet 70 = .ok (.goto 4, 3) := by decide +kernel
theorem dX12_sheet_73 : decode cX12_sheet 73 = .ok (.iload_n 3, 1) := by decide +kernel
theorem dX12_sheet_74 : decode cX12_sheet 74 = .ok (.iastore, 1) := by decide +kernel
theorem dX12_sheet_75 : decode cX12_sheet 75 = .ok (.iconst 0, 1) := by decide +kernel
theorem dX12_sheet_76 : decode cX12_sheet 76 = .ok (.istore 4, 2) := by decide +kernel
theorem dX12_sheet_78 : decode cX12_sheet 78 = .ok (.iload 4, 2) := by decide +kernel
theorem dX12_sheet_80 : decode cX12_sheet 80 = .ok (.bipush 40, 2) := by decide +kernel
theorem dX12_sheet_82 : decode cX12_sheet 82 = .ok (.if_icmp .ge 26, 3) := by decide +kernel
theorem dX12_sheet_85 : decode cX12_sheet 85 = .ok (.aload_n 0, 1) := by decide +kernel
theorem dX12_sheet_86 : decode cX12_sheet 86 = .ok (.getfield 8, 3) := by decide +kernel
theorem dX12_sheet_89 : decode cX12_sheet 89 = .ok (.sipush 208, 3) := by decide +kernel
theorem dX12_sheet_92 : decode cX12_sheet 92 = .ok (.bipush 40, 2) := by decide +kernel
theorem dX12_sheet_94 : decode cX12_sheet 94 = .ok (.iload_n 1, 1) := by decide +kernel
theorem dX12_sheet_95 : decode cX12_sheet 95 = .ok (.imul, 1) := by decide +kernel
theorem dX12_sheet_96 : decode cX12_sheet 96 = .ok (.iadd, 1) := by decide +kernel
theorem dX12_sheet_97 : decode cX12_sheet 97 = .ok (.iload 4, 2) := by decide +kernel
theorem dX12_sheet_99 : decode cX12_sheet 99 = .ok (.iadd, 1) := by decide +kernel
theorem dX12_sheet_100 : decode cX12_sheet 100 = .ok (.iconst 0, 1) := by decide +kernel
theorem dX12_sheet_101 : decode cX12_sheet 101 = .ok (.iastore, 1) := by decide +kernel
theorem dX12_sheet_102 : decode cX12_sheet 102 = .ok (.iinc 4 1, 3) := by decide +kernel
theorem dX12_sheet_105 : decode cX12_sheet 105 = .ok (.goto (-27), 3) := by decide +kernel
theorem dX12_sheet_108 : decode cX12_sheet 108 = .ok (.iconst 1, 1) := by decide +kernel
theorem dX12_sheet_109 : decode cX12_sheet 109 = .ok (.ireturn, 1) := by decide +kernel
theorem cm_X12_sheet : CM yX12_sheet cX12_sheet 5 (some .int) 3 12 := ⟨w_1891, w_1892, w_1893, w_97, ⟨by decide +kernel, by decide +kernel, by decide +kernel⟩, ⟨_, _, rfl⟩, by decide⟩
noncomputable def f_X12_sheet_29 (n : Nat)  (h : MM) : RR :=
  some ((-2), h)
noncomputable def f_X12_sheet_78b (n : Nat) (rec78 : Int → MM → RR) (v0 v1 v4 : Int) (h : MM) : RR :=
  if 40 ≤ v4 then
    some (1, h)
  else
  gf h v0 12 1 fun r2 =>
  wt h r2 100 (wr ((wr (208 + (wr (40 * v1)))) + v4)) 0 fun h3 =>
  lb (wr (v4 + 1)) fun x4 =>
  rec78 x4 h3
noncomputable def f_X12_sheet_78 (n : Nat)  (v0 v1 : Int) : Nat → Int → MM → RR
  | 0, _, _ => none
  | k + 1, v4, h => f_X12_sheet_78b n  (f_X12_sheet_78 n  v0 v1 k) v0 v1 v4 h
noncomputable def f_X12_sheet_74 (n : Nat)  (v0 v1 s0 s1 s2 : Int) (h : MM) : RR :=
  wt h s0 100 s1 s2 fun h1 =>
  f_X12_sheet_78 n v0 v1 n 0 h1
noncomputable def f_X12_sheet_44 (n : Nat)  (v0 v1 v2 v3 : Int) (h : MM) : RR :=
  gf h v0 12 1 fun r1 =>
  wt h r1 100 (wr (200 + v1)) v2 fun h2 =>
  gf h2 v0 12 1 fun r3 =>
  if v2 = (-1) then
    f_X12_sheet_74 n v0 v1 r3 (wr (204 + v1)) 0 h2
  else
  f_X12_sheet_74 n v0 v1 r3 (wr (204 + v1)) v3 h2
noncomputable def f_X12_sheet_32 (n : Nat)  (v0 v1 v2 v3 : Int) (h : MM) : RR :=
  if v2 = (-1) then
    f_X12_sheet_44 n v0 v1 v2 v3 h
  else
  if 0 ≤ v3 then
    f_X12_sheet_44 n v0 v1 v2 v3 h
  else
  some ((-14), h)
noncomputable def f_X12_sheet (n : Nat) (v0 v1 v2 v3 : Int) (h : MM) : RR :=
  bd (f_X12_isSheet n v1 h) fun r1 h1 =>
  if r1 = 0 then
    some ((-1), h1)
  else
  bd (f_X12_in n v2 ((-1)) 2 h1) fun r3 h3 =>
  if r3 = 0 then
    f_X12_sheet_29 n h3
  else
  if v2 = (-1) then
    f_X12_sheet_32 n v0 v1 v2 v3 h3
  else
  if v3 ≤ 40 then
    f_X12_sheet_32 n v0 v1 v2 v3 h3
  else
  f_X12_sheet_29 n h3
set_option maxRecDepth 20000 in
theorem b_X12_sheet_29 {g : GT} {Z : Int × MM} {n : Nat} (C : Cx g cX12_sheet 5 yX12_sheet 2 42) (hr : Rt g (some .int) 0 Z)     {h : MM} (hf : f_X12_sheet_29 n   h = some Z) : G g 29 [(3, 0), (3, 0), (3, 0), (3, 0), (3, 0)] [] h := by
  unfold f_X12_sheet_29 at hf
  refine r_bipush C dX12_sheet_29 rfl ?_
  cases hf
  exact r_jret C hr dX12_sheet_31 (in32_of rfl)
set_option maxRecDepth 20000 in
theorem b_X12_sheet_78b {g : GT} {Z : Int × MM} {n : Nat} (C : Cx g cX12_sheet 5 yX12_sheet 2 42) (hr : Rt g (some .int) 0 Z) {v0 v1 v4 : Int}  {rec78 : Int → MM → RR} (L78 : ∀ (u4 : Int) (h : MM), in32 u4 → rec78 u4 h = some Z → G g 78 [(2, v0), (0, v1), (3, 0), (3, 0), (0, u4)] [] h) (cv1 : in32 v1) (cv4 : in32 v4) {h : MM} (hf : f_X12_sheet_78b n rec78 v0 v1 v4 h = some Z) : G g 78 [(2, v0), (0, v1), (3, 0), (3, 0), (0, v4)] [] h := by
  unfold f_X12_sheet_78b at hf
  refine r_iload C dX12_sheet_78 rfl ?_
  refine r_bipush C dX12_sheet_80 rfl ?_
  refine r_icmp_ge C dX12_sheet_82 (tgt := 108) (by decide) cv4 (in32_of rfl) (fun n1 => ?_) (fun n1 => ?_)
  · have hf := ite_p n1 hf
    refine r_iconst C dX12_sheet_108 ?_
    cases hf
    exact r_jret C hr dX12_sheet_109 (in32_of rfl)
  · have hf := ite_n n1 hf
    refine r_aload_n C dX12_sheet_85 rfl ?_
    obtain ⟨q2, hf⟩ := gf_s hf
    refine r_gf C ct12 (j := 1) (ji := 1) dX12_sheet_86 q2 rfl rfl (by decide) w_1426 rfl (fun c2 => ?_)
    refine r_sipush C dX12_sheet_89 rfl ?_
    refine r_bipush C dX12_sheet_92 rfl ?_
    refine r_iload_n C dX12_sheet_94 rfl ?_
    refine r_imul C dX12_sheet_95 ?_
    refine r_iadd C dX12_sheet_96 ?_
    refine r_iload C dX12_sheet_97 rfl ?_
    refine r_iadd C dX12_sheet_99 ?_
    refine r_iconst C dX12_sheet_100 ?_
    obtain ⟨q3, hf⟩ := wt_s hf
    refine r_iast C dX12_sheet_101 q3 rfl (in32_of rfl) ?_
    obtain ⟨x4, e4, hf⟩ := lb_s hf
    have c4 : in32 x4 := by rw [e4]; exact (in32_t _)
    refine r_iincL C dX12_sheet_102 rfl e4 (Nat.le_of_ble_eq_true rfl) rfl ?_
    refine r_goto C dX12_sheet_105 (tgt := 78) (by decide) ?_
    exact G.mask [true, true, false, false, true] rfl rfl (L78 _ _ c4 hf)
set_option maxRecDepth 20000 in
theorem l_X12_sheet_78 {g : GT} {Z : Int × MM} {n : Nat} (C : Cx g cX12_sheet 5 yX12_sheet 2 42) (hr : Rt g (some .int) 0 Z) {v0 v1 : Int}   (cv1 : in32 v1) : ∀ (k : Nat) (v4 : Int) (h : MM), in32 v4 → f_X12_sheet_78 n  v0 v1 k v4 h = some Z → G g 78 [(2, v0), (0, v1), (3, 0), (3, 0), (0, v4)] [] h := by
  intro k
  induction k with
  | zero => intro v4 h cv4 hf; exact absurd hf (by intro z; cases z)
  | succ k ih => intro v4 h cv4 hf; exact b_X12_sheet_78b C hr (rec78 := f_X12_sheet_78 n  v0 v1 k)  ih cv1 cv4 (show f_X12_sheet_78b n  (f_X12_sheet_78 n  v0 v1 k) v0 v1 v4 h = some Z from hf)
set_option maxRecDepth 20000 in
theorem b_X12_sheet_74 {g : GT} {Z : Int × MM} {n : Nat} (C : Cx g cX12_sheet 5 yX12_sheet 2 42) (hr : Rt g (some .int) 0 Z) {v0 v1 s0 s1 s2 : Int}    (cv1 : in32 v1) (cs1 : in32 s1) (cs2 : in32 s2) {h : MM} (hf : f_X12_sheet_74 n  v0 v1 s0 s1 s2 h = some Z) : G g 74 [(2, v0), (0, v1), (3, 0), (3, 0), (3, 0)] [(0, s2), (0, s1), (2, s0)] h := by
  unfold f_X12_sheet_74 at hf
  obtain ⟨q1, hf⟩ := wt_s hf
  refine r_iast C dX12_sheet_74 q1 rfl cs2 ?_
  refine r_iconst C dX12_sheet_75 ?_
  refine r_istore C dX12_sheet_76 (Nat.le_of_ble_eq_true rfl) rfl ?_
  exact G.mask [true, true, false, false, true] rfl rfl (l_X12_sheet_78 C hr  cv1 _ _ _ (in32_of rfl) hf)
set_option maxRecDepth 20000 in
theorem b_X12_sheet_44 {g : GT} {Z : Int × MM} {n : Nat} (C : Cx g cX12_sheet 5 yX12_sheet 2 42) (hr : Rt g (some .int) 0 Z) {v0 v1 v2 v3 : Int}    (cv1 : in32 v1) (cv2 : in32 v2) (cv3 : in32 v3) {h : MM} (hf : f_X12_sheet_44 n  v0 v1 v2 v3 h = some Z) : G g 44 [(2, v0), (0, v1), (0, v2), (0, v3), (3, 0)] [] h := by
  unfold f_X12_sheet_44 at hf
  refine r_aload_n C dX12_sheet_44 rfl ?_
  obtain ⟨q1, hf⟩ := gf_s hf
  refine r_gf C ct12 (j := 1) (ji := 1) dX12_sheet_45 q1 rfl rfl (by decide) w_1426 rfl (fun c1 => ?_)
  refine r_sipush C dX12_sheet_48 rfl ?_
  refine r_iload_n C dX12_sheet_51 rfl ?_
  refine r_iadd C dX12_sheet_52 ?_
  refine r_iload_n C dX12_sheet_53 rfl ?_
  obtain ⟨q2, hf⟩ := wt_s hf
  refine r_iast C dX12_sheet_54 q2 rfl cv2 ?_
  refine r_aload_n C dX12_sheet_55 rfl ?_
  obtain ⟨q3, hf⟩ := gf_s hf
  refine r_gf C ct12 (j := 1) (ji := 1) dX12_sheet_56 q3 rfl rfl (by decide) w_1426 rfl (fun c3 => ?_)
  refine r_sipush C dX12_sheet_59 rfl ?_
  refine r_iload_n C dX12_sheet_62 rfl ?_
  refine r_iadd C dX12_sheet_63 ?_
  refine r_iload_n C dX12_sheet_64 rfl ?_
  refine r_iconst C dX12_sheet_65 ?_
  refine r_icmp_ne C dX12_sheet_66 (tgt := 73) (by decide) cv2 (in32_of rfl) (fun n4 => ?_) (fun n4 => ?_)
  · have hf := ite_n n4 hf
    refine r_iload_n C dX12_sheet_73 rfl ?_
    exact G.mask [true, true, false, false, false] rfl rfl (b_X12_sheet_74 C hr  cv1 (in32_t _) cv3 hf)
  · have hf := ite_p n4 hf
    refine r_iconst C dX12_sheet_69 ?_
    refine r_goto C dX12_sheet_70 (tgt := 74) (by decide) ?_
    exact G.mask [true, true, false, false, false] rfl rfl (b_X12_sheet_74 C hr  cv1 (in32_t _) (in32_of rfl) hf)
set_option maxRecDepth 20000 in
theorem b_X12_sheet_32 {g : GT} {Z : Int × MM} {n : Nat} (C : Cx g cX12_sheet 5 yX12_sheet 2 42) (hr : Rt g (some .int) 0 Z) {v0 v1 v2 v3 : Int}    (cv1 : in32 v1) (cv2 : in32 v2) (cv3 : in32 v3) {h : MM} (hf : f_X12_sheet_32 n  v0 v1 v2 v3 h = some Z) : G g 32 [(2, v0), (0, v1), (0, v2), (0, v3), (3, 0)] [] h := by
  unfold f_X12_sheet_32 at hf
  refine r_iload_n C dX12_sheet_32 rfl ?_
  refine r_iconst C dX12_sheet_33 ?_
  refine r_icmp_eq C dX12_sheet_34 (tgt := 44) (by decide) cv2 (in32_of rfl) (fun n1 => ?_) (fun n1 => ?_)
  · have hf := ite_p n1 hf
    exact G.mask [true, true, true, true, false] rfl rfl (b_X12_sheet_44 C hr  cv1 cv2 cv3 hf)
  · have hf := ite_n n1 hf
    refine r_iload_n C dX12_sheet_37 rfl ?_
    refine r_if_ge C dX12_sheet_38 (tgt := 44) (by decide) cv3 (fun n2 => ?_) (fun n2 => ?_)
    · have hf := ite_p n2 hf
      exact G.mask [true, true, true, true, false] rfl rfl (b_X12_sheet_44 C hr  cv1 cv2 cv3 hf)
    · have hf := ite_n n2 hf
      refine r_bipush C dX12_sheet_41 rfl ?_
      cases hf
      exact r_jret C hr dX12_sheet_43 (in32_of rfl)
set_option maxRecDepth 20000 in
theorem e_X12_sheet {g : GT} {Z : Int × MM} {n : Nat} (C : Cx g cX12_sheet 5 yX12_sheet 2 42) (hr : Rt g (some .int) 0 Z) {v0 v1 v2 v3 : Int} (cv0 : cK 2 v0) (cv1 : cK 0 v1) (cv2 : cK 0 v2) (cv3 : cK 0 v3) {h : MM} (hf : f_X12_sheet n v0 v1 v2 v3 h = some Z) : G g 0 [(2, v0), (0, v1), (0, v2), (0, v3), (3, 0)] [] h := by
  have cv1 : in32 v1 := cv1
  have cv2 : in32 v2 := cv2
  have cv3 : in32 v3 := cv3
  unfold f_X12_sheet at hf
  refine r_iload_n C dX12_sheet_0 rfl ?_
  obtain ⟨r1, h1, hq1, hf⟩ := bd_s hf
  refine r_cS1 C (am_X12_isSheet (gl g) n) cm_X12_isSheet w_1615 dX12_sheet_1 ⟨Nat.le_of_ble_eq_true rfl, Nat.le_of_ble_eq_true rfl⟩ cv1 rfl (Nat.le_of_ble_eq_true rfl) hq1 (by decide) (fun c1 => ?_)
  have c1 : in32 _ := c1
  refine r_if_ne C dX12_sheet_4 (tgt := 9) (by decide) c1 (fun n2 => ?_) (fun n2 => ?_)
  · have hf := ite_n n2 hf
    refine r_iload_n C dX12_sheet_9 rfl ?_
    refine r_iconst C dX12_sheet_10 ?_
    refine r_iconst C dX12_sheet_11 ?_
    obtain ⟨r3, h3, hq3, hf⟩ := bd_s hf
    refine r_cS3 C (am_X12_in (gl g) n) cm_X12_in w_1496 dX12_sheet_12 ⟨Nat.le_of_ble_eq_true rfl, Nat.le_of_ble_eq_true rfl⟩ cv2 (in32_of rfl) (in32_of rfl) rfl (Nat.le_of_ble_eq_true rfl) hq3 (by decide) (fun c3 => ?_)
    have c3 : in32 _ := c3
    refine r_if_eq C dX12_sheet_15 (tgt := 29) (by decide) c3 (fun n4 => ?_) (fun n4 => ?_)
    · have hf := ite_p n4 hf
      exact G.mask [false, false, false, false, false] rfl rfl (b_X12_sheet_29 C hr   hf)
    · have hf := ite_n n4 hf
      refine r_iload_n C dX12_sheet_18 rfl ?_
      refine r_iconst C dX12_sheet_19 ?_
      refine r_icmp_eq C dX12_sheet_20 (tgt := 32) (by decide) cv2 (in32_of rfl) (fun n5 => ?_) (fun n5 => ?_)
      · have hf := ite_p n5 hf
        exact G.mask [true, true, true, true, false] rfl rfl (b_X12_sheet_32 C hr  cv1 cv2 cv3 hf)
      · have hf := ite_n n5 hf
        refine r_iload_n C dX12_sheet_23 rfl ?_
        refine r_bipush C dX12_sheet_24 rfl ?_
        refine r_icmp_le C dX12_sheet_26 (tgt := 32) (by decide) cv3 (in32_of rfl) (fun n6 => ?_) (fun n6 => ?_)
        · have hf := ite_p n6 hf
          exact G.mask [true, true, true, true, false] rfl rfl (b_X12_sheet_32 C hr  cv1 cv2 cv3 hf)
        · have hf := ite_n n6 hf
          exact G.mask [false, false, false, false, false] rfl rfl (b_X12_sheet_29 C hr   hf)
  · have hf := ite_p n2 hf
    refine r_iconst C dX12_sheet_7 ?_
    cases hf
    exact r_jret C hr dX12_sheet_8 (in32_of rfl)
set_option maxRecDepth 20000 in
theorem am_X12_sheet (l : Launch) (n : Nat) : AM l yX12_sheet cX12_sheet 5 (some .int) 2 42 [2, 0, 0, 0] 0 (un4 (f_X12_sheet n)) := by
  refine AM.intro (by decide) (fun xs hx => ?_) (fun g xs h Z hl C hr hx hf => ?_)
  · obtain ⟨a0, a1, a2, a3, rfl, c0, c1, c2, c3⟩ := canL_4 hx
    exact Nat.le_of_ble_eq_true rfl
  · obtain ⟨a0, a1, a2, a3, rfl, c0, c1, c2, c3⟩ := canL_4 hx
    have hf := (un4_e _ a0 a1 a2 a3 _).symm.trans hf
    exact e_X12_sheet (n := n) C hr c0 c1 c2 c3 hf
