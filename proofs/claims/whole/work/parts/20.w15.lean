theorem w_1897 : (Cond.code ⟨"LinesPromisedModel", "item", "(III)I"⟩ prog_14_method_103_code 5 (some .int)) ∈ wG := wG_in 1897 (by decide +kernel) (by decide +kernel)
theorem w_1895 : (Cond.instanceMethod ⟨"LinesPromisedModel", "item", "(III)I"⟩) ∈ wG := wG_in 1895 (by decide +kernel) (by decide +kernel)
theorem w_1896 : (Cond.selects "LinesPromisedModel" ⟨"LinesPromisedModel", "item", "(III)I"⟩ ⟨"LinesPromisedModel", "item", "(III)I"⟩) ∈ wG := wG_in 1896 (by decide +kernel) (by decide +kernel)
theorem w_1901 : (Cond.code ⟨"LinesPromisedModel", "copy", "(IIIII)I"⟩ prog_14_method_104_code 7 (some .int)) ∈ wG := wG_in 1901 (by decide +kernel) (by decide +kernel)
theorem w_1899 : (Cond.instanceMethod ⟨"LinesPromisedModel", "copy", "(IIIII)I"⟩) ∈ wG := wG_in 1899 (by decide +kernel) (by decide +kernel)
theorem w_1900 : (Cond.selects "LinesPromisedModel" ⟨"LinesPromisedModel", "copy", "(IIIII)I"⟩ ⟨"LinesPromisedModel", "copy", "(IIIII)I"⟩) ∈ wG := wG_in 1900 (by decide +kernel) (by decide +kernel)
/-! LinesPromisedModel.item(III)I -/
theorem dX12_item_0 : decode cX12_item 0 = .ok (.iload_n 1, 1) := by decide +kernel
theorem dX12_item_1 : decode cX12_item 1 = .ok (.invokestatic 168, 3) := by decide +kernel
theorem dX12_item_4 : decode cX12_item 4 = .ok (.ifCond .ne 5, 3) := by decide +kernel
theorem dX12_item_7 : decode cX12_item 7 = .ok (.iconst (-1), 1) := by decide +kernel
theorem dX12_item_8 : decode cX12_item 8 = .ok (.ireturn, 1) := by decide +kernel
theorem dX12_item_9 : decode cX12_item 9 = .ok (.aload_n 0, 1) := by decide +kernel
theorem dX12_item_10 : decode cX12_item 10 = .ok (.getfield 8, 3) := by decide +kernel
theorem dX12_item_13 : decode cX12_item 13 = .ok (.sipush 200, 3) := by decide +kernel
theorem dX12_item_16 : decode cX12_item 16 = .ok (.iload_n 1, 1) := by decide +kernel
theorem dX12_item_17 : decode cX12_item 17 = .ok (.iadd, 1) := by decide +kernel
theorem dX12_item_18 : decode cX12_item 18 = .ok (.iaload, 1) := by decide +kernel
theorem dX12_item_19 : decode cX12_item 19 = .ok (.istore 4, 2) := by decide +kernel
theorem dX12_item_21 : decode cX12_item 21 = .ok (.iload 4, 2) := by decide +kernel
theorem dX12_item_23 : decode cX12_item 23 = .ok (.iconst (-1), 1) := by decide +kernel
theorem dX12_item_24 : decode cX12_item 24 = .ok (.if_icmp .ne 6, 3) := by decide +kernel
theorem dX12_item_27 : decode cX12_item 27 = .ok (.bipush (-11), 2) := by decide +kernel
theorem dX12_item_29 : decode cX12_item 29 = .ok (.ireturn, 1) := by decide +kernel
theorem dX12_item_30 : decode cX12_item 30 = .ok (.iload_n 2, 1) := by decide +kernel
theorem dX12_item_31 : decode cX12_item 31 = .ok (.iconst 0, 1) := by decide +kernel
theorem dX12_item_32 : decode cX12_item 32 = .ok (.aload_n 0, 1) := by decide +kernel
theorem dX12_item_33 : decode cX12_item 33 = .ok (.getfield 8, 3) := by decide +kernel
theorem dX12_item_36 : decode cX12_item 36 = .ok (.sipush 204, 3) := by decide +kernel
theorem dX12_item_39 : decode cX12_item 39 = .ok (.iload_n 1, 1) := by decide +kernel
theorem dX12_item_40 : decode cX12_item 40 = .ok (.iadd, 1) := by decide +kernel
theorem dX12_item_41 : decode cX12_item 41 = .ok (.iaload, 1) := by decide +kernel
theorem dX12_item_42 : decode cX12_item 42 = .ok (.iconst 1, 1) := by decide +kernel
theorem dX12_item_43 : decode cX12_item 43 = .ok (.isub, 1) := by decide +kernel
theorem dX12_item_44 : decode cX12_item 44 = .ok (.invokestatic 58, 3) := by decide +kernel
theorem dX12_item_47 : decode cX12_item 47 = .ok (.ifCond .ne 6, 3) := by decide +kernel
theorem dX12_item_50 : decode cX12_item 50 = .ok (.bipush (-12), 2) := by decide +kernel
theorem dX12_item_52 : decode cX12_item 52 = .ok (.ireturn, 1) := by decide +kernel
theorem dX12_item_53 : decode cX12_item 53 = .ok (.aload_n 0, 1) := by decide +kernel
theorem dX12_item_54 : decode cX12_item 54 = .ok (.getfield 8, 3) := by decide +kernel
theorem dX12_item_57 : decode cX12_item 57 = .ok (.sipush 208, 3) := by decide +kernel
theorem dX12_item_60 : decode cX12_item 60 = .ok (.bipush 40, 2) := by decide +kernel
theorem dX12_item_62 : decode cX12_item 62 = .ok (.iload_n 1, 1) := by decide +kernel
theorem dX12_item_63 : decode cX12_item 63 = .ok (.imul, 1) := by decide +kernel
theorem dX12_item_64 : decode cX12_item 64 = .ok (.iadd, 1) := by decide +kernel
theorem dX12_item_65 : decode cX12_item 65 = .ok (.iload_n 2, 1) := by decide +kernel
theorem dX12_item_66 : decode cX12_item 66 = .ok (.iadd, 1) := by decide +kernel
theorem dX12_item_67 : decode cX12_item 67 = .ok (.iload 4, 2) := by decide +kernel
theorem dX12_item_69 : decode cX12_item 69 = .ok (.ifCond .ne 8, 3) := by decide +kernel
theorem dX12_item_72 : decode cX12_item 72 = .ok (.iload_n 3, 1) := by decide +kernel
theorem dX12_item_73 : decode cX12_item 73 = .ok (.i2b, 1) := by decide +kernel
theorem dX12_item_74 : decode cX12_item 74 = .ok (.goto 15, 3) := by decide +kernel
theorem dX12_item_77 : decode cX12_item 77 = .ok (.iload 4, 2) := by decide +kernel
theorem dX12_item_79 : decode cX12_item 79 = .ok (.iconst 1, 1) := by decide +kernel
theorem dX12_item_80 : decode cX12_item 80 = .ok (.if_icmp .ne 8, 3) := by decide +kernel
theorem dX12_item_83 : decode cX12_item 83 = .ok (.iload_n 3, 1) := by decide +kernel
theorem dX12_item_84 : decode cX12_item 84 = .ok (.i2s, 1) := by decide +kernel
theorem dX12_item_85 : decode cX12_item 85 = .ok (.goto 4, 3) := by decide +kernel
theorem dX12_item_88 : decode cX12_item 88 = .ok (.iload_n 3, 1) := by decide +kernel
theorem dX12_item_89 : decode cX12_item 89 = .ok (.iastore, 1) := by decide +kernel
theorem dX12_item_90 : decode cX12_item 90 = .ok (.iconst 1, 1) := by decide +kernel
theorem dX12_item_91 : decode cX12_item 91 = .ok (.ireturn, 1) := by decide +kernel
theorem cm_X12_item : CM yX12_item cX12_item 5 (some .int) 3 12 := ⟨w_1895, w_1896, w_1897, w_97, ⟨by decide +kernel, by decide +kernel, by decide +kernel⟩, ⟨_, _, rfl⟩, by decide⟩
noncomputable def f_X12_item_89 (n : Nat)  (s0 s1 s2 : Int) (h : MM) : RR :=
  wt h s0 100 s1 s2 fun h1 =>
  some (1, h1)
noncomputable def f_X12_item (n : Nat) (v0 v1 v2 v3 : Int) (h : MM) : RR :=
  bd (f_X12_isSheet n v1 h) fun r1 h1 =>
  if r1 = 0 then
    some ((-1), h1)
  else
  gf h1 v0 12 1 fun r3 =>
  rd h1 r3 100 (wr (200 + v1)) fun r4 =>
  if r4 = (-1) then
    some ((-11), h1)
  else
  gf h1 v0 12 1 fun r6 =>
  rd h1 r6 100 (wr (204 + v1)) fun r7 =>
  bd (f_X12_in n v2 0 (wr (r7 - 1)) h1) fun r8 h8 =>
  if r8 = 0 then
    some ((-12), h8)
  else
  gf h8 v0 12 1 fun r10 =>
  if r4 = 0 then
    f_X12_item_89 n r10 (wr ((wr (208 + (wr (40 * v1)))) + v2)) (b8 v3) h8
  else
  if r4 = 1 then
    f_X12_item_89 n r10 (wr ((wr (208 + (wr (40 * v1)))) + v2)) (b16 v3) h8
  else
  f_X12_item_89 n r10 (wr ((wr (208 + (wr (40 * v1)))) + v2)) v3 h8
set_option maxRecDepth 20000 in
theorem b_X12_item_89 {g : GT} {Z : Int × MM} {n : Nat} (C : Cx g cX12_item 5 yX12_item 2 42) (hr : Rt g (some .int) 0 Z) {s0 s1 s2 : Int}    (cs1 : in32 s1) (cs2 : in32 s2) {h : MM} (hf : f_X12_item_89 n  s0 s1 s2 h = some Z) : G g 89 [(3, 0), (3, 0), (3, 0), (3, 0), (3, 0)] [(0, s2), (0, s1), (2, s0)] h := by
  unfold f_X12_item_89 at hf
  obtain ⟨q1, hf⟩ := wt_s hf
  refine r_iast C dX12_item_89 q1 rfl cs2 ?_
  refine r_iconst C dX12_item_90 ?_
  cases hf
  exact r_jret C hr dX12_item_91 (in32_of rfl)
set_option maxRecDepth 20000 in
theorem e_X12_item {g : GT} {Z : Int × MM} {n : Nat} (C : Cx g cX12_item 5 yX12_item 2 42) (hr : Rt g (some .int) 0 Z) {v0 v1 v2 v3 : Int} (cv0 : cK 2 v0) (cv1 : cK 0 v1) (cv2 : cK 0 v2) (cv3 : cK 0 v3) {h : MM} (hf : f_X12_item n v0 v1 v2 v3 h = some Z) : G g 0 [(2, v0), (0, v1), (0, v2), (0, v3), (3, 0)] [] h := by
  have cv1 : in32 v1 := cv1
  have cv2 : in32 v2 := cv2
  have cv3 : in32 v3 := cv3
  unfold f_X12_item at hf
  refine r_iload_n C dX12_item_0 rfl ?_
  obtain ⟨r1, h1, hq1, hf⟩ := bd_s hf
  refine r_cS1 C (am_X12_isSheet (gl g) n) cm_X12_isSheet w_1615 dX12_item_1 ⟨Nat.le_of_ble_eq_true rfl, Nat.le_of_ble_eq_true rfl⟩ cv1 rfl (Nat.le_of_ble_eq_true rfl) hq1 (by decide) (fun c1 => ?_)
  have c1 : in32 _ := c1
  refine r_if_ne C dX12_item_4 (tgt := 9) (by decide) c1 (fun n2 => ?_) (fun n2 => ?_)
  · have hf := ite_n n2 hf
    refine r_aload_n C dX12_item_9 rfl ?_
    obtain ⟨q3, hf⟩ := gf_s hf
    refine r_gf C ct12 (j := 1) (ji := 1) dX12_item_10 q3 rfl rfl (by decide) w_1426 rfl (fun c3 => ?_)
    refine r_sipush C dX12_item_13 rfl ?_
    refine r_iload_n C dX12_item_16 rfl ?_
    refine r_iadd C dX12_item_17 ?_
    obtain ⟨q4, hf⟩ := rd_s hf
    refine r_iald C dX12_item_18 q4 rfl (fun c4 => ?_)
    refine r_istore C dX12_item_19 (Nat.le_of_ble_eq_true rfl) rfl ?_
    refine r_iload C dX12_item_21 rfl ?_
    refine r_iconst C dX12_item_23 ?_
    refine r_icmp_ne C dX12_item_24 (tgt := 30) (by decide) c4 (in32_of rfl) (fun n5 => ?_) (fun n5 => ?_)
    · have hf := ite_n n5 hf
      refine r_iload_n C dX12_item_30 rfl ?_
      refine r_iconst C dX12_item_31 ?_
      refine r_aload_n C dX12_item_32 rfl ?_
      obtain ⟨q6, hf⟩ := gf_s hf
      refine r_gf C ct12 (j := 1) (ji := 1) dX12_item_33 q6 rfl rfl (by decide) w_1426 rfl (fun c6 => ?_)
      refine r_sipush C dX12_item_36 rfl ?_
      refine r_iload_n C dX12_item_39 rfl ?_
      refine r_iadd C dX12_item_40 ?_
      obtain ⟨q7, hf⟩ := rd_s hf
      refine r_iald C dX12_item_41 q7 rfl (fun c7 => ?_)
      refine r_iconst C dX12_item_42 ?_
      refine r_isub C dX12_item_43 ?_
      obtain ⟨r8, h8, hq8, hf⟩ := bd_s hf
      refine r_cS3 C (am_X12_in (gl g) n) cm_X12_in w_1496 dX12_item_44 ⟨Nat.le_of_ble_eq_true rfl, Nat.le_of_ble_eq_true rfl⟩ cv2 (in32_of rfl) (in32_t _) rfl (Nat.le_of_ble_eq_true rfl) hq8 (by decide) (fun c8 => ?_)
      have c8 : in32 _ := c8
      refine r_if_ne C dX12_item_47 (tgt := 53) (by decide) c8 (fun n9 => ?_) (fun n9 => ?_)
      · have hf := ite_n n9 hf
        refine r_aload_n C dX12_item_53 rfl ?_
        obtain ⟨q10, hf⟩ := gf_s hf
        refine r_gf C ct12 (j := 1) (ji := 1) dX12_item_54 q10 rfl rfl (by decide) w_1426 rfl (fun c10 => ?_)
        refine r_sipush C dX12_item_57 rfl ?_
        refine r_bipush C dX12_item_60 rfl ?_
        refine r_iload_n C dX12_item_62 rfl ?_
        refine r_imul C dX12_item_63 ?_
        refine r_iadd C dX12_item_64 ?_
        refine r_iload_n C dX12_item_65 rfl ?_
        refine r_iadd C dX12_item_66 ?_
        refine r_iload C dX12_item_67 rfl ?_
        refine r_if_ne C dX12_item_69 (tgt := 77) (by decide) c4 (fun n11 => ?_) (fun n11 => ?_)
        · have hf := ite_n n11 hf
          refine r_iload C dX12_item_77 rfl ?_
          refine r_iconst C dX12_item_79 ?_
          refine r_icmp_ne C dX12_item_80 (tgt := 88) (by decide) c4 (in32_of rfl) (fun n12 => ?_) (fun n12 => ?_)
          · have hf := ite_n n12 hf
            refine r_iload_n C dX12_item_88 rfl ?_
            exact G.mask [false, false, false, false, false] rfl rfl (b_X12_item_89 C hr  (in32_t _) cv3 hf)
          · have hf := ite_p n12 hf
            refine r_iload_n C dX12_item_83 rfl ?_
            refine r_i2s C dX12_item_84 ?_
            refine r_goto C dX12_item_85 (tgt := 89) (by decide) ?_
            exact G.mask [false, false, false, false, false] rfl rfl (b_X12_item_89 C hr  (in32_t _) (in32_t _) hf)
        · have hf := ite_p n11 hf
          refine r_iload_n C dX12_item_72 rfl ?_
          refine r_i2b C dX12_item_73 ?_
          refine r_goto C dX12_item_74 (tgt := 89) (by decide) ?_
          exact G.mask [false, false, false, false, false] rfl rfl (b_X12_item_89 C hr  (in32_t _) (in32_t _) hf)
      · have hf := ite_p n9 hf
        refine r_bipush C dX12_item_50 rfl ?_
        cases hf
        exact r_jret C hr dX12_item_52 (in32_of rfl)
    · have hf := ite_p n5 hf
      refine r_bipush C dX12_item_27 rfl ?_
      cases hf
      exact r_jret C hr dX12_item_29 (in32_of rfl)
  · have hf := ite_p n2 hf
    refine r_iconst C dX12_item_7 ?_
    cases hf
    exact r_jret C hr dX12_item_8 (in32_of rfl)
set_option maxRecDepth 20000 in
theorem am_X12_item (l : Launch) (n : Nat) : AM l yX12_item cX12_item 5 (some .int) 2 42 [2, 0, 0, 0] 0 (un4 (f_X12_item n)) := by
  refine AM.intro (by decide) (fun xs hx => ?_) (fun g xs h Z hl C hr hx hf => ?_)
  · obtain ⟨a0, a1, a2, a3, rfl, c0, c1, c2, c3⟩ := canL_4 hx
    exact Nat.le_of_ble_eq_true rfl
  · obtain ⟨a0, a1, a2, a3, rfl, c0, c1, c2, c3⟩ := canL_4 hx
    have hf := (un4_e _ a0 a1 a2 a3 _).symm.trans hf
    exact e_X12_item (n := n) C hr c0 c1 c2 c3 hf
/-! LinesPromisedModel.copy(IIIII)I -/
theorem dX12_copy_0 : decode cX12_copy 0 = .ok (.iload_n 1, 1) := by decide +kernel
theorem dX12_copy_1 : decode cX12_copy 1 = .ok (.invokestatic 168, 3) := by decide +kernel
theorem dX12_copy_4 : decode cX12_copy 4 = .ok (.ifCond .eq 10, 3) := by decide +kernel
theorem dX12_copy_7 : decode cX12_copy 7 = .ok (.iload_n 3, 1) := by decide +kernel
theorem dX12_copy_8 : decode cX12_copy 8 = .ok (.invokestatic 168, 3) := by decide +kernel
theorem dX12_copy_11 : decode cX12_copy 11 = .ok (.ifCond .ne 5, 3) := by decide +kernel
theorem dX12_copy_14 : decode cX12_copy 14 = .ok (.iconst (-1), 1) := by decide +kernel
theorem dX12_copy_15 : decode cX12_copy 15 = .ok (.ireturn, 1) := by decide +kernel
theorem dX12_copy_16 : decode cX12_copy 16 = .ok (.aload_n 0, 1) := by decide +kernel
theorem dX12_copy_17 : decode cX12_copy 17 = .ok (.getfield 8, 3) := by decide +kernel
theorem dX12_copy_20 : decode cX12_copy 20 = .ok (.sipush 200, 3) := by decide +kernel
theorem dX12_copy_23 : decode cX12_copy 23 = .ok (.iload_n 1, 1) := by decide +kernel
theorem dX12_copy_24 : decode cX12_copy 24 = .ok (.iadd, 1) := by decide +kernel
theorem dX12_copy_25 : decode cX12_copy 25 = .ok (.iaload, 1) := by decide +kernel
theorem dX12_copy_26 : decode cX12_copy 26 = .ok (.iconst (-1), 1) := by decide +kernel
theorem dX12_copy_27 : decode cX12_copy 27 = .ok (.if_icmp .eq 17, 3) := by decide +kernel
theorem dX12_copy_30 : decode cX12_copy 30 = .ok (.aload_n 0, 1) := by decide +kernel
theorem dX12_copy_31 : decode cX12_copy 31 = .ok (.getfield 8, 3) := by decide +kernel
theorem dX12_copy_34 : decode cX12_copy 34 = .ok (.sipush 200, 3) := by decide +kernel
theorem dX12_copy_37 : decode cX12_copy 37 = .ok (.iload_n 3, 1) := by decide +kernel
theorem dX12_copy_38 : decode cX12_copy 38 = .ok (.iadd, 1) := by decide +kernel
theorem dX12_copy_39 : decode cX12_copy 39 = .ok (.iaload, 1) := by decide +kernel
theorem dX12_copy_40 : decode cX12_copy 40 = .ok (.iconst (-1), 1) := by decide +kernel
theorem dX12_copy_41 : decode cX12_copy 41 = .ok (.if_icmp .ne 6, 3) := by decide +kernel
theorem dX12_copy_44 : decode cX12_copy 44 = .ok (.bipush (-11), 2) := by decide +kernel
theorem dX12_copy_46 : decode cX12_copy 46 = .ok (.ireturn, 1) := by decide +kernel
theorem dX12_copy_47 : decode cX12_copy 47 = .ok (.aload_n 0, 1) := by decide +kernel
theorem dX12_copy_48 : decode cX12_copy 48 = .ok (.getfield 8, 3) := by decide +kernel
theorem dX12_copy_51 : decode cX12_copy 51 = .ok (.sipush 200, 3) := by decide +kernel
theorem dX12_copy_54 : decode cX12_copy 54 = .ok (.iload_n 1, 1) := by decide +kernel
theorem dX12_copy_55 : decode cX12_copy 55 = .ok (.iadd, 1) := by decide +kernel
theorem dX12_copy_56 : decode cX12_copy 56 = .ok (.iaload, 1) := by decide +kernel
theorem dX12_copy_57 : decode cX12_copy 57 = .ok (.aload_n 0, 1) := by decide +kernel
theorem dX12_copy_58 : decode cX12_copy 58 = .ok (.getfield 8, 3) := by decide +kernel
theorem dX12_copy_61 : decode cX12_copy 61 = .ok (.sipush 200, 3) := by decide +kernel
theorem dX12_copy_64 : decode cX12_copy 64 = .ok (.iload_n 3, 1) := by decide +kernel
theorem dX12_copy_65 : decode cX12_copy 65 = .ok (.iadd, 1) := by decide +kernel
theorem dX12_copy_66 : decode cX12_copy 66 = .ok (.iaload, 1) := by decide +kernel
theorem dX12_copy_67 : decode cX12_copy 67 = .ok (.if_icmp .eq 6, 3) := by decide +kernel
theorem dX12_copy_70 : decode cX12_copy 70 = .ok (.bipush (-13), 2) := by decide +kernel
theorem dX12_copy_72 : decode cX12_copy 72 = .ok (.ireturn, 1) := by decide +kernel
theorem dX12_copy_73 : decode cX12_copy 73 = .ok (.iload 5, 2) := by decide +kernel
theorem dX12_copy_75 : decode cX12_copy 75 = .ok (.ifCond .lt 47, 3) := by decide +kernel
theorem dX12_copy_78 : decode cX12_copy 78 = .ok (.iload_n 2, 1) := by decide +kernel
theorem dX12_copy_79 : decode cX12_copy 79 = .ok (.ifCond .lt 43, 3) := by decide +kernel
theorem dX12_copy_82 : decode cX12_copy 82 = .ok (.iload 4, 2) := by decide +kernel
theorem dX12_copy_84 : decode cX12_copy 84 = .ok (.ifCond .lt 38, 3) := by decide +kernel
theorem dX12_copy_87 : decode cX12_copy 87 = .ok (.iload 5, 2) := by decide +kernel
theorem dX12_copy_89 : decode cX12_copy 89 = .ok (.aload_n 0, 1) := by decide +kernel
theorem dX12_copy_90 : decode cX12_copy 90 = .ok (.getfield 8, 3) := by decide +kernel
theorem dX12_copy_93 : decode cX12_copy 93 = .ok (.sipush 204, 3) := by decide +kernel
theorem dX12_copy_96 : decode cX12_copy 96 = .ok (.iload_n 1, 1) := by decide +kernel
theorem dX12_copy_97 : decode cX12_copy 97 = .ok (.iadd, 1) := by decide +kernel
theorem dX12_copy_98 : decode cX12_copy 98 = .ok (.iaload, 1) := by decide +kernel
theorem dX12_copy_99 : decode cX12_copy 99 = .ok (.iload_n 2, 1) := by decide +kernel
theorem dX12_copy_100 : decode cX12_copy 100 = .ok (.isub, 1) := by decide +kernel
theorem dX12_copy_101 : decode cX12_copy 101 = .ok (.if_icmp .gt 21, 3) := by decide +kernel
theorem dX12_copy_104 : decode cX12_copy 104 = .ok (.iload 5, 2) := by decide +kernel
theorem dX12_copy_106 : decode cX12_copy 106 = .ok (.aload_n 0, 1) := by decide +kernel
theorem dX12_copy_107 : decode cX12_copy 107 = .ok (.getfield 8, 3) := by decide +kernel
theorem dX12_copy_110 : decode cX12_copy 110 = .ok (.sipush 204, 3) := by decide +kernel
theorem dX12_copy_113 : decode cX12_copy 113 = .ok (.iload_n 3, 1) := by decide +kernel
theorem dX12_copy_114 : decode cX12_copy 114 = .ok (.iadd, 1) := by decide +kernel
theorem dX12_copy_115 : decode cX12_copy 115 = .ok (.iaload, 1) := by decide +kernel
theorem dX12_copy_116 : decode cX12_copy 116 = .ok (.iload 4, 2) := by decide +kernel
theorem dX12_copy_118 : decode cX12_copy 118 = .ok (.isub, 1) := by decide +kernel
theorem dX12_copy_119 : decode cX12_copy 119 = .ok (.if_icmp .le 6, 3) := by decide +kernel
theorem dX12_copy_122 : decode cX12_copy 122 = .ok (.bipush (-12), 2) := by decide +kernel
theorem dX12_copy_124 : decode cX12_copy 124 = .ok (.ireturn, 1) := by decide +kernel
theorem dX12_copy_125 : decode cX12_copy 125 = .ok (.iconst 0, 1) := by decide +kernel
theorem dX12_copy_126 : decode cX12_copy 126 = .ok (.istore 6, 2) := by decide +kernel
theorem dX12_copy_128 : decode cX12_copy 128 = .ok (.iload 6, 2) := by decide +kernel
theorem dX12_copy_130 : decode cX12_copy 130 = .ok (.iload 5, 2) := by decide +kernel
theorem dX12_copy_132 : decode cX12_copy 132 = .ok (.if_icmp .ge 34, 3) := by decide +kernel
theorem dX12_copy_135 : decode cX12_copy 135 = .ok (.aload_n 0, 1) := by decide +kernel
theorem dX12_copy_136 : decode cX12_copy 136 = .ok (.getfield 51, 3) := by decide +kernel
theorem dX12_copy_139 : decode cX12_copy 139 = .ok (.iload 6, 2) := by decide +kernel
theorem dX12_copy_141 : decode cX12_copy 141 = .ok (.aload_n 0, 1) := by decide +kernel
theorem dX12_copy_142 : decode cX12_copy 142 = .ok (.getfield 8, 3) := by decide +kernel
theorem dX12_copy_145 : decode cX12_copy 145 = .ok (.sipush 208, 3) := by decide +kernel
theorem dX12_copy_148 : decode cX12_copy 148 = .ok (.bipush 40, 2) := by decide +kernel
theorem dX12_copy_150 : decode cX12_copy 150 = .ok (.iload_n 1, 1) := by decide +kernel
theorem dX12_copy_151 : decode cX12_copy 151 = .ok (.imul, 1) := by decide +kernel
theorem dX12_copy_152 : decode cX12_copy 152 = .ok (.iadd, 1) := by decide +kernel
theorem dX12_copy_153 : decode cX12_copy 153 = .ok (.iload_n 2, 1) := by decide +kernel
theorem dX12_copy_154 : decode cX12_copy 154 = .ok (.iadd, 1) := by decide +kernel
theorem dX12_copy_155 : decode cX12_copy 155 = .ok (.iload 6, 2) := by decide +kernel
theorem dX12_copy_157 : decode cX12_copy 157 = .ok (.iadd, 1) := by decide +kernel
theorem dX12_copy_158 : decode cX12_copy 158 = .ok (.iaload, 1) := by decide +kernel
theorem dX12_copy_159 : decode cX12_copy 159 = .ok (.iastore, 1) := by decide +kernel
theorem dX12_copy_160 : decode cX12_copy 160 = .ok (.iinc 6 1, 3) := by decide +kernel
theorem dX12_copy_163 : decode cX12_copy 163 = .ok (.goto (-35), 3) := by decide +kernel
theorem dX12_copy_166 : decode cX12_copy 166 = .ok (.iconst 0, 1) := by decide +kernel
theorem dX12_copy_167 : decode cX12_copy 167 = .ok (.istore 6, 2) := by decide +kernel
theorem dX12_copy_169 : decode cX12_copy 169 = .ok (.iload 6, 2) := by decide +kernel
theorem dX12_copy_171 : decode cX12_copy 171 = .ok (.iload 5, 2) := by decide +kernel
theorem dX12_copy_173 : decode cX12_copy 173 = .ok (.if_icmp .ge 35, 3) := by decide +kernel
theorem dX12_copy_176 : decode cX12_copy 176 = .ok (.aload_n 0, 1) := by decide +kernel
theorem dX12_copy_177 : decode cX12_copy 177 = .ok (.getfield 8, 3) := by decide +kernel
theorem dX12_copy_180 : decode cX12_copy 180 = .ok (.sipush 208, 3) := by decide +kernel
theorem dX12_copy_183 : decode cX12_copy 183 = .ok (.bipush 40, 2) := by decide +kernel
theorem dX12_copy_185 : decode cX12_copy 185 = .ok (.iload_n 3, 1) := by decide +kernel
theorem dX12_copy_186 : decode cX12_copy 186 = .ok (.imul, 1) := by decide +kernel
theorem dX12_copy_187 : decode cX12_copy 187 = .ok (.iadd, 1) := by decide +kernel
theorem dX12_copy_188 : decode cX12_copy 188 = .ok (.iload 4, 2) := by decide +kernel
theorem dX12_copy_190 : decode cX12_copy 190 = .ok (.iadd, 1) := by decide +kernel
theorem dX12_copy_191 : decode cX12_copy 191 = .ok (.iload 6, 2) := by decide +kernel
theorem dX12_copy_193 : decode cX12_copy 193 = .ok (.iadd, 1) := by decide +kernel
theorem dX12_copy_194 : decode cX12_copy 194 = .ok (.aload_n 0, 1) := by decide +kernel
theorem dX12_copy_195 : decode cX12_copy 195 = .ok (.getfield 51, 3) := by decide +kernel
theorem dX12_copy_198 : decode cX12_copy 198 = .ok (.iload 6, 2) := by decide +kernel
theorem dX12_copy_200 : decode cX12_copy 200 = .ok (.iaload, 1) := by decide +kernel
theorem dX12_copy_201 : decode cX12_copy 201 = .ok (.iastore, 1) := by decide +kernel
theorem dX12_copy_202 : decode cX12_copy 202 = .ok (.iinc 6 1, 3) := by decide +kernel
theorem dX12_copy_205 : decode cX12_copy 205 = .ok (.goto (-36), 3) := by decide +kernel
theorem dX12_copy_208 : decode cX12_copy 208 = .ok (.iload 5, 2) := by decide +kernel
theorem dX12_copy_210 : decode cX12_copy 210 = .ok (.ireturn, 1) := by decide +kernel
theorem cm_X12_copy : CM yX12_copy cX12_copy 7 (some .int) 5 12 := ⟨w_1899, w_1900, w_1901, w_97, ⟨by decide +kernel, by decide +kernel, by decide +kernel⟩, ⟨_, _, rfl⟩, by decide⟩
noncomputable def f_X12_copy_14 (n : Nat)  (h : MM) : RR :=
  some ((-1), h)
noncomputable def f_X12_copy_44 (n : Nat)  (h : MM) : RR :=
  some ((-11), h)
noncomputable def f_X12_copy_122 (n : Nat)  (h : MM) : RR :=
  some ((-12), h)
noncomputable def f_X12_copy_169b (n : Nat) (rec169 : Int → MM → RR) (v0 v3 v4 v5 v6 : Int) (h : MM) : RR :=
  if v5 ≤ v6 then
    some (v5, h)
  else
  gf h v0 12 1 fun r2 =>
  gf h v0 12 20 fun r3 =>
  rd h r3 100 v6 fun r4 =>
  wt h r2 100 (wr ((wr ((wr (208 + (wr (40 * v3)))) + v4)) + v6)) r4 fun h5 =>
  lb (wr (v6 + 1)) fun x6 =>
  rec169 x6 h5
noncomputable def f_X12_copy_169 (n : Nat)  (v0 v3 v4 v5 : Int) : Nat → Int → MM → RR
  | 0, _, _ => none
  | k + 1, v6, h => f_X12_copy_169b n  (f_X12_copy_169 n  v0 v3 v4 v5 k) v0 v3 v4 v5 v6 h
noncomputable def f_X12_copy_128b (n : Nat) (rec128 : Int → MM → RR) (v0 v1 v2 v3 v4 v5 v6 : Int) (h : MM) : RR :=
  if v5 ≤ v6 then
    f_X12_copy_169 n v0 v3 v4 v5 n 0 h
  else
  gf h v0 12 20 fun r2 =>
  gf h v0 12 1 fun r3 =>
  rd h r3 100 (wr ((wr ((wr (208 + (wr (40 * v1)))) + v2)) + v6)) fun r4 =>
  wt h r2 100 v6 r4 fun h5 =>
  lb (wr (v6 + 1)) fun x6 =>
  rec128 x6 h5
noncomputable def f_X12_copy_128 (n : Nat)  (v0 v1 v2 v3 v4 v5 : Int) : Nat → Int → MM → RR
  | 0, _, _ => none
  | k + 1, v6, h => f_X12_copy_128b n  (f_X12_copy_128 n  v0 v1 v2 v3 v4 v5 k) v0 v1 v2 v3 v4 v5 v6 h
noncomputable def f_X12_copy (n : Nat) (v0 v1 v2 v3 v4 v5 : Int) (h : MM) : RR :=
  bd (f_X12_isSheet n v1 h) fun r1 h1 =>
  if r1 = 0 then
    f_X12_copy_14 n h1
  else
  bd (f_X12_isSheet n v3 h1) fun r3 h3 =>
  if r3 = 0 then
    f_X12_copy_14 n h3
  else
  gf h3 v0 12 1 fun r5 =>
  rd h3 r5 100 (wr (200 + v1)) fun r6 =>
  if r6 = (-1) then
    f_X12_copy_44 n h3
  else
  gf h3 v0 12 1 fun r8 =>
  rd h3 r8 100 (wr (200 + v3)) fun r9 =>
  if r9 = (-1) then
    f_X12_copy_44 n h3
  else
  gf h3 v0 12 1 fun r11 =>
  rd h3 r11 100 (wr (200 + v1)) fun r12 =>
  gf h3 v0 12 1 fun r13 =>
  rd h3 r13 100 (wr (200 + v3)) fun r14 =>
  if r12 = r14 then
    if v5 < 0 then
      f_X12_copy_122 n h3
    else
    if v2 < 0 then
      f_X12_copy_122 n h3
    else
    if v4 < 0 then
      f_X12_copy_122 n h3
    else
    gf h3 v0 12 1 fun r19 =>
    rd h3 r19 100 (wr (204 + v1)) fun r20 =>
    if wr (r20 - v2) < v5 then
      f_X12_copy_122 n h3
    else
    gf h3 v0 12 1 fun r22 =>
    rd h3 r22 100 (wr (204 + v3)) fun r23 =>
    if v5 ≤ wr (r23 - v4) then
      f_X12_copy_128 n v0 v1 v2 v3 v4 v5 n 0 h3
    else
    f_X12_copy_122 n h3
  else
  some ((-13), h3)
set_option maxRecDepth 20000 in
theorem b_X12_copy_14 {g : GT} {Z : Int × MM} {n : Nat} (C : Cx g cX12_copy 7 yX12_copy 2 42) (hr : Rt g (some .int) 0 Z)     {h : MM} (hf : f_X12_copy_14 n   h = some Z) : G g 14 [(3, 0), (3, 0), (3, 0), (3, 0), (3, 0), (3, 0), (3, 0)] [] h := by
  unfold f_X12_copy_14 at hf
  refine r_iconst C dX12_copy_14 ?_
  cases hf
  exact r_jret C hr dX12_copy_15 (in32_of rfl)
set_option maxRecDepth 20000 in
theorem b_X12_copy_44 {g : GT} {Z : Int × MM} {n : Nat} (C : Cx g cX12_copy 7 yX12_copy 2 42) (hr : Rt g (some .int) 0 Z)     {h : MM} (hf : f_X12_copy_44 n   h = some Z) : G g 44 [(3, 0), (3, 0), (3, 0), (3, 0), (3, 0), (3, 0), (3, 0)] [] h := by
  unfold f_X12_copy_44 at hf
  refine r_bipush C dX12_copy_44 rfl ?_
  cases hf
  exact r_jret C hr dX12_copy_46 (in32_of rfl)
set_option maxRecDepth 20000 in
theorem b_X12_copy_122 {g : GT} {Z : Int × MM} {n : Nat} (C : Cx g cX12_copy 7 yX12_copy 2 42) (hr : Rt g (some .int) 0 Z)     {h : MM} (hf : f_X12_copy_122 n   h = some Z) : G g 122 [(3, 0), (3, 0), (3, 0), (3, 0), (3, 0), (3, 0), (3, 0)] [] h := by
  unfold f_X12_copy_122 at hf
  refine r_bipush C dX12_copy_122 rfl ?_
  cases hf
  exact r_jret C hr dX12_copy_124 (in32_of rfl)
set_option maxRecDepth 20000 in
theorem b_X12_copy_169b {g : GT} {Z : Int × MM} {n : Nat} (C : Cx g cX12_copy 7 yX12_copy 2 42) (hr : Rt g (some .int) 0 Z) {v0 v3 v4 v5 v6 : Int}  {rec169 : Int → MM → RR} (L169 : ∀ (u6 : Int) (h : MM), in32 u6 → rec169 u6 h = some Z → G g 169 [(2, v0), (3, 0), (3, 0), (0, v3), (0, v4), (0, v5), (0, u6)] [] h) (cv3 : in32 v3) (cv4 : in32 v4) (cv5 : in32 v5) (cv6 : in32 v6) {h : MM} (hf : f_X12_copy_169b n rec169 v0 v3 v4 v5 v6 h = some Z) : G g 169 [(2, v0), (3, 0), (3, 0), (0, v3), (0, v4), (0, v5), (0, v6)] [] h := by
  unfold f_X12_copy_169b at hf
  refine r_iload C dX12_copy_169 rfl ?_
  refine r_iload C dX12_copy_171 rfl ?_
  refine r_icmp_ge C dX12_copy_173 (tgt := 208) (by decide) cv6 cv5 (fun n1 => ?_) (fun n1 => ?_)
  · have hf := ite_p n1 hf
    refine r_iload C dX12_copy_208 rfl ?_
    cases hf
    exact r_jret C hr dX12_copy_210 cv5
  · have hf := ite_n n1 hf
    refine r_aload_n C dX12_copy_176 rfl ?_
    obtain ⟨q2, hf⟩ := gf_s hf
    refine r_gf C ct12 (j := 1) (ji := 1) dX12_copy_177 q2 rfl rfl (by decide) w_1426 rfl (fun c2 => ?_)
    refine r_sipush C dX12_copy_180 rfl ?_
    refine r_bipush C dX12_copy_183 rfl ?_
    refine r_iload_n C dX12_copy_185 rfl ?_
    refine r_imul C dX12_copy_186 ?_
    refine r_iadd C dX12_copy_187 ?_
    refine r_iload C dX12_copy_188 rfl ?_
    refine r_iadd C dX12_copy_190 ?_
    refine r_iload C dX12_copy_191 rfl ?_
    refine r_iadd C dX12_copy_193 ?_
    refine r_aload_n C dX12_copy_194 rfl ?_
    obtain ⟨q3, hf⟩ := gf_s hf
    refine r_gf C ct12 (j := 20) (ji := 20) dX12_copy_195 q3 rfl rfl (by decide) w_1445 rfl (fun c3 => ?_)
    refine r_iload C dX12_copy_198 rfl ?_
    obtain ⟨q4, hf⟩ := rd_s hf
    refine r_iald C dX12_copy_200 q4 rfl (fun c4 => ?_)
    obtain ⟨q5, hf⟩ := wt_s hf
    refine r_iast C dX12_copy_201 q5 rfl c4 ?_
    obtain ⟨x6, e6, hf⟩ := lb_s hf
    have c6 : in32 x6 := by rw [e6]; exact (in32_t _)
    refine r_iincL C dX12_copy_202 rfl e6 (Nat.le_of_ble_eq_true rfl) rfl ?_
    refine r_goto C dX12_copy_205 (tgt := 169) (by decide) ?_
    exact G.mask [true, false, false, true, true, true, true] rfl rfl (L169 _ _ c6 hf)
set_option maxRecDepth 20000 in
theorem l_X12_copy_169 {g : GT} {Z : Int × MM} {n : Nat} (C : Cx g cX12_copy 7 yX12_copy 2 42) (hr : Rt g (some .int) 0 Z) {v0 v3 v4 v5 : Int}   (cv3 : in32 v3) (cv4 : in32 v4) (cv5 : in32 v5) : ∀ (k : Nat) (v6 : Int) (h : MM), in32 v6 → f_X12_copy_169 n  v0 v3 v4 v5 k v6 h = some Z → G g 169 [(2, v0), (3, 0), (3, 0), (0, v3), (0, v4), (0, v5), (0, v6)] [] h := by
  intro k
  induction k with
  | zero => intro v6 h cv6 hf; exact absurd hf (by intro z; cases z)
  | succ k ih => intro v6 h cv6 hf; exact b_X12_copy_169b C hr (rec169 := f_X12_copy_169 n  v0 v3 v4 v5 k)  ih cv3 cv4 cv5 cv6 (show f_X12_copy_169b n  (f_X12_copy_169 n  v0 v3 v4 v5 k) v0 v3 v4 v5 v6 h = some Z from hf)
set_option maxRecDepth 20000 in
theorem b_X12_copy_128b {g : GT} {Z : Int × MM} {n : Nat} (C : Cx g cX12_copy 7 yX12_copy 2 42) (hr : Rt g (some .int) 0 Z) {v0 v1 v2 v3 v4 v5 v6 : Int}  {rec128 : Int → MM → RR} (L128 : ∀ (u6 : Int) (h : MM), in32 u6 → rec128 u6 h = some Z → G g 128 [(2, v0), (0, v1), (0, v2), (0, v3), (0, v4), (0, v5), (0, u6)] [] h) (cv1 : in32 v1) (cv2 : in32 v2) (cv3 : in32 v3) (cv4 : in32 v4) (cv5 : in32 v5) (cv6 : in32 v6) {h : MM} (hf : f_X12_copy_128b n rec128 v0 v1 v2 v3 v4 v5 v6 h = some Z) : G g 128 [(2, v0), (0, v1), (0, v2), (0, v3), (0, v4), (0, v5), (0, v6)] [] h := by
  unfold f_X12_copy_128b at hf
  refine r_iload C dX12_copy_128 rfl ?_
  refine r_iload C dX12_copy_130 rfl ?_
  refine r_icmp_ge C dX12_copy_132 (tgt := 166) (by decide) cv6 cv5 (fun n1 => ?_) (fun n1 => ?_)
  · have hf := ite_p n1 hf
    refine r_iconst C dX12_copy_166 ?_
    refine r_istore C dX12_copy_167 (Nat.le_of_ble_eq_true rfl) rfl ?_
    exact G.mask [true, false, false, true, true, true, true] rfl rfl (l_X12_copy_169 C hr  cv3 cv4 cv5 _ _ _ (in32_of rfl) hf)
  · have hf := ite_n n1 hf
    refine r_aload_n C dX12_copy_135 rfl ?_
    obtain ⟨q2, hf⟩ := gf_s hf
    refine r_gf C ct12 (j := 20) (ji := 20) dX12_copy_136 q2 rfl rfl (by decide) w_1445 rfl (fun c2 => ?_)
    refine r_iload C dX12_copy_139 rfl ?_
    refine r_aload_n C dX12_copy_141 rfl ?_
    obtain ⟨q3, hf⟩ := gf_s hf
    refine r_gf C ct12 (j := 1) (ji := 1) dX12_copy_142 q3 rfl rfl (by decide) w_1426 rfl (fun c3 => ?_)
    refine r_sipush C dX12_copy_145 rfl ?_
    refine r_bipush C dX12_copy_148 rfl ?_
    refine r_iload_n C dX12_copy_150 rfl ?_
    refine r_imul C dX12_copy_151 ?_
    refine r_iadd C dX12_copy_152 ?_
    refine r_iload_n C dX12_copy_153 rfl ?_
    refine r_iadd C dX12_copy_154 ?_
    refine r_iload C dX12_copy_155 rfl ?_
    refine r_iadd C dX12_copy_157 ?_
    obtain ⟨q4, hf⟩ := rd_s hf
    refine r_iald C dX12_copy_158 q4 rfl (fun c4 => ?_)
    obtain ⟨q5, hf⟩ := wt_s hf
    refine r_iast C dX12_copy_159 q5 rfl c4 ?_
    obtain ⟨x6, e6, hf⟩ := lb_s hf
    have c6 : in32 x6 := by rw [e6]; exact (in32_t _)
    refine r_iincL C dX12_copy_160 rfl e6 (Nat.le_of_ble_eq_true rfl) rfl ?_
    refine r_goto C dX12_copy_163 (tgt := 128) (by decide) ?_
    exact G.mask [true, true, true, true, true, true, true] rfl rfl (L128 _ _ c6 hf)
set_option maxRecDepth 20000 in
theorem l_X12_copy_128 {g : GT} {Z : Int × MM} {n : Nat} (C : Cx g cX12_copy 7 yX12_copy 2 42) (hr : Rt g (some .int) 0 Z) {v0 v1 v2 v3 v4 v5 : Int}   (cv1 : in32 v1) (cv2 : in32 v2) (cv3 : in32 v3) (cv4 : in32 v4) (cv5 : in32 v5) : ∀ (k : Nat) (v6 : Int) (h : MM), in32 v6 → f_X12_copy_128 n  v0 v1 v2 v3 v4 v5 k v6 h = some Z → G g 128 [(2, v0), (0, v1), (0, v2), (0, v3), (0, v4), (0, v5), (0, v6)] [] h := by
  intro k
  induction k with
  | zero => intro v6 h cv6 hf; exact absurd hf (by intro z; cases z)
  | succ k ih => intro v6 h cv6 hf; exact b_X12_copy_128b C hr (rec128 := f_X12_copy_128 n  v0 v1 v2 v3 v4 v5 k)  ih cv1 cv2 cv3 cv4 cv5 cv6 (show f_X12_copy_128b n  (f_X12_copy_128 n  v0 v1 v2 v3 v4 v5 k) v0 v1 v2 v3 v4 v5 v6 h = some Z from hf)
set_option maxRecDepth 20000 in
theorem e_X12_copy {g : GT} {Z : Int × MM} {n : Nat} (C : Cx g cX12_copy 7 yX12_copy 2 42) (hr : Rt g (some .int) 0 Z) {v0 v1 v2 v3 v4 v5 : Int} (cv0 : cK 2 v0) (cv1 : cK 0 v1) (cv2 : cK 0 v2) (cv3 : cK 0 v3) (cv4 : cK 0 v4) (cv5 : cK 0 v5) {h : MM} (hf : f_X12_copy n v0 v1 v2 v3 v4 v5 h = some Z) : G g 0 [(2, v0), (0, v1), (0, v2), (0, v3), (0, v4), (0, v5), (3, 0)] [] h := by
  have cv1 : in32 v1 := cv1
  have cv2 : in32 v2 := cv2
  have cv3 : in32 v3 := cv3
  have cv4 : in32 v4 := cv4
  have cv5 : in32 v5 := cv5
  unfold f_X12_copy at hf
  refine r_iload_n C dX12_copy_0 rfl ?_
  obtain ⟨r1, h1, hq1, hf⟩ := bd_s hf
  refine r_cS1 C (am_X12_isSheet (gl g) n) cm_X12_isSheet w_1615 dX12_copy_1 ⟨Nat.le_of_ble_eq_true rfl, Nat.le_of_ble_eq_true rfl⟩ cv1 rfl (Nat.le_of_ble_eq_true rfl) hq1 (by decide) (fun c1 => ?_)
  have c1 : in32 _ := c1
  refine r_if_eq C dX12_copy_4 (tgt := 14) (by decide) c1 (fun n2 => ?_) (fun n2 => ?_)
  · have hf := ite_p n2 hf
    exact G.mask [false, false, false, false, false, false, false] rfl rfl (b_X12_copy_14 C hr   hf)
  · have hf := ite_n n2 hf
    refine r_iload_n C dX12_copy_7 rfl ?_
    obtain ⟨r3, h3, hq3, hf⟩ := bd_s hf
    refine r_cS1 C (am_X12_isSheet (gl g) n) cm_X12_isSheet w_1615 dX12_copy_8 ⟨Nat.le_of_ble_eq_true rfl, Nat.le_of_ble_eq_true rfl⟩ cv3 rfl (Nat.le_of_ble_eq_true rfl) hq3 (by decide) (fun c3 => ?_)
    have c3 : in32 _ := c3
    refine r_if_ne C dX12_copy_11 (tgt := 16) (by decide) c3 (fun n4 => ?_) (fun n4 => ?_)
    · have hf := ite_n n4 hf
      refine r_aload_n C dX12_copy_16 rfl ?_
      obtain ⟨q5, hf⟩ := gf_s hf
      refine r_gf C ct12 (j := 1) (ji := 1) dX12_copy_17 q5 rfl rfl (by decide) w_1426 rfl (fun c5 => ?_)
      refine r_sipush C dX12_copy_20 rfl ?_
      refine r_iload_n C dX12_copy_23 rfl ?_
      refine r_iadd C dX12_copy_24 ?_
      obtain ⟨q6, hf⟩ := rd_s hf
      refine r_iald C dX12_copy_25 q6 rfl (fun c6 => ?_)
      refine r_iconst C dX12_copy_26 ?_
      refine r_icmp_eq C dX12_copy_27 (tgt := 44) (by decide) c6 (in32_of rfl) (fun n7 => ?_) (fun n7 => ?_)
      · have hf := ite_p n7 hf
        exact G.mask [false, false, false, false, false, false, false] rfl rfl (b_X12_copy_44 C hr   hf)
      · have hf := ite_n n7 hf
        refine r_aload_n C dX12_copy_30 rfl ?_
        obtain ⟨q8, hf⟩ := gf_s hf
        refine r_gf C ct12 (j := 1) (ji := 1) dX12_copy_31 q8 rfl rfl (by decide) w_1426 rfl (fun c8 => ?_)
        refine r_sipush C dX12_copy_34 rfl ?_
        refine r_iload_n C dX12_copy_37 rfl ?_
        refine r_iadd C dX12_copy_38 ?_
        obtain ⟨q9, hf⟩ := rd_s hf
        refine r_iald C dX12_copy_39 q9 rfl (fun c9 => ?_)
        refine r_iconst C dX12_copy_40 ?_
        refine r_icmp_ne C dX12_copy_41 (tgt := 47) (by decide) c9 (in32_of rfl) (fun n10 => ?_) (fun n10 => ?_)
        · have hf := ite_n n10 hf
          refine r_aload_n C dX12_copy_47 rfl ?_
          obtain ⟨q11, hf⟩ := gf_s hf
          refine r_gf C ct12 (j := 1) (ji := 1) dX12_copy_48 q11 rfl rfl (by decide) w_1426 rfl (fun c11 => ?_)
          refine r_sipush C dX12_copy_51 rfl ?_
          refine r_iload_n C dX12_copy_54 rfl ?_
          refine r_iadd C dX12_copy_55 ?_
          obtain ⟨q12, hf⟩ := rd_s hf
          refine r_iald C dX12_copy_56 q12 rfl (fun c12 => ?_)
          refine r_aload_n C dX12_copy_57 rfl ?_
          obtain ⟨q13, hf⟩ := gf_s hf
          refine r_gf C ct12 (j := 1) (ji := 1) dX12_copy_58 q13 rfl rfl (by decide) w_1426 rfl (fun c13 => ?_)
          refine r_sipush C dX12_copy_61 rfl ?_
          refine r_iload_n C dX12_copy_64 rfl ?_
          refine r_iadd C dX12_copy_65 ?_
          obtain ⟨q14, hf⟩ := rd_s hf
          refine r_iald C dX12_copy_66 q14 rfl (fun c14 => ?_)
          refine r_icmp_eq C dX12_copy_67 (tgt := 73) (by decide) c12 c14 (fun n15 => ?_) (fun n15 => ?_)
          · have hf := ite_p n15 hf
            refine r_iload C dX12_copy_73 rfl ?_
            refine r_if_lt C dX12_copy_75 (tgt := 122) (by decide) cv5 (fun n16 => ?_) (fun n16 => ?_)
            · have hf := ite_p n16 hf
              exact G.mask [false, false, false, false, false, false, false] rfl rfl (b_X12_copy_122 C hr   hf)
            · have hf := ite_n n16 hf
              refine r_iload_n C dX12_copy_78 rfl ?_
              refine r_if_lt C dX12_copy_79 (tgt := 122) (by decide) cv2 (fun n17 => ?_) (fun n17 => ?_)
              · have hf := ite_p n17 hf
                exact G.mask [false, false, false, false, false, false, false] rfl rfl (b_X12_copy_122 C hr   hf)
              · have hf := ite_n n17 hf
                refine r_iload C dX12_copy_82 rfl ?_
                refine r_if_lt C dX12_copy_84 (tgt := 122) (by decide) cv4 (fun n18 => ?_) (fun n18 => ?_)
                · have hf := ite_p n18 hf
                  exact G.mask [false, false, false, false, false, false, false] rfl rfl (b_X12_copy_122 C hr   hf)
                · have hf := ite_n n18 hf
                  refine r_iload C dX12_copy_87 rfl ?_
                  refine r_aload_n C dX12_copy_89 rfl ?_
                  obtain ⟨q19, hf⟩ := gf_s hf
                  refine r_gf C ct12 (j := 1) (ji := 1) dX12_copy_90 q19 rfl rfl (by decide) w_1426 rfl (fun c19 => ?_)
                  refine r_sipush C dX12_copy_93 rfl ?_
                  refine r_iload_n C dX12_copy_96 rfl ?_
                  refine r_iadd C dX12_copy_97 ?_
                  obtain ⟨q20, hf⟩ := rd_s hf
                  refine r_iald C dX12_copy_98 q20 rfl (fun c20 => ?_)
                  refine r_iload_n C dX12_copy_99 rfl ?_
                  refine r_isub C dX12_copy_100 ?_
                  refine r_icmp_gt C dX12_copy_101 (tgt := 122) (by decide) cv5 (in32_t _) (fun n21 => ?_) (fun n21 => ?_)
                  · have hf := ite_p n21 hf
                    exact G.mask [false, false, false, false, false, false, false] rfl rfl (b_X12_copy_122 C hr   hf)
                  · have hf := ite_n n21 hf
                    refine r_iload C dX12_copy_104 rfl ?_
                    refine r_aload_n C dX12_copy_106 rfl ?_
                    obtain ⟨q22, hf⟩ := gf_s hf
                    refine r_gf C ct12 (j := 1) (ji := 1) dX12_copy_107 q22 rfl rfl (by decide) w_1426 rfl (fun c22 => ?_)
                    refine r_sipush C dX12_copy_110 rfl ?_
                    refine r_iload_n C dX12_copy_113 rfl ?_
                    refine r_iadd C dX12_copy_114 ?_
                    obtain ⟨q23, hf⟩ := rd_s hf
                    refine r_iald C dX12_copy_115 q23 rfl (fun c23 => ?_)
                    refine r_iload C dX12_copy_116 rfl ?_
                    refine r_isub C dX12_copy_118 ?_
                    refine r_icmp_le C dX12_copy_119 (tgt := 125) (by decide) cv5 (in32_t _) (fun n24 => ?_) (fun n24 => ?_)
                    · have hf := ite_p n24 hf
                      refine r_iconst C dX12_copy_125 ?_
                      refine r_istore C dX12_copy_126 (Nat.le_of_ble_eq_true rfl) rfl ?_
                      exact G.mask [true, true, true, true, true, true, true] rfl rfl (l_X12_copy_128 C hr  cv1 cv2 cv3 cv4 cv5 _ _ _ (in32_of rfl) hf)
                    · have hf := ite_n n24 hf
                      exact G.mask [false, false, false, false, false, false, false] rfl rfl (b_X12_copy_122 C hr   hf)
          · have hf := ite_n n15 hf
            refine r_bipush C dX12_copy_70 rfl ?_
            cases hf
            exact r_jret C hr dX12_copy_72 (in32_of rfl)
        · have hf := ite_p n10 hf
          exact G.mask [false, false, false, false, false, false, false] rfl rfl (b_X12_copy_44 C hr   hf)
    · have hf := ite_p n4 hf
      exact G.mask [false, false, false, false, false, false, false] rfl rfl (b_X12_copy_14 C hr   hf)
set_option maxRecDepth 20000 in
theorem am_X12_copy (l : Launch) (n : Nat) : AM l yX12_copy cX12_copy 7 (some .int) 2 42 [2, 0, 0, 0, 0, 0] 0 (un6 (f_X12_copy n)) := by
  refine AM.intro (by decide) (fun xs hx => ?_) (fun g xs h Z hl C hr hx hf => ?_)
  · obtain ⟨a0, a1, a2, a3, a4, a5, rfl, c0, c1, c2, c3, c4, c5⟩ := canL_6 hx
    exact Nat.le_of_ble_eq_true rfl
  · obtain ⟨a0, a1, a2, a3, a4, a5, rfl, c0, c1, c2, c3, c4, c5⟩ := canL_6 hx
    have hf := (un6_e _ a0 a1 a2 a3 a4 a5 _).symm.trans hf
    exact e_X12_copy (n := n) C hr c0 c1 c2 c3 c4 c5 hf
