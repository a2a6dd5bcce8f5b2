theorem w_1765 : (Cond.methodLink "LinesPromisedModel" 241 ⟨"LinesPromisedModel", "isScheme", "(I)Z"⟩) ∈ wG := wG_in 1765 (by decide +kernel) (by decide +kernel)
theorem w_1769 : (Cond.methodLink "LinesPromisedModel" 244 ⟨"LinesPromisedModel", "isFallen", "(I)Z"⟩) ∈ wG := wG_in 1769 (by decide +kernel) (by decide +kernel)
theorem w_1773 : (Cond.methodLink "LinesPromisedModel" 247 ⟨"LinesPromisedModel", "sharesAt", "(II)I"⟩) ∈ wG := wG_in 1773 (by decide +kernel) (by decide +kernel)
theorem w_1764 : (Cond.code ⟨"LinesPromisedModel", "scrip", "(III)I"⟩ prog_14_method_74_code 4 (some .int)) ∈ wG := wG_in 1764 (by decide +kernel) (by decide +kernel)
theorem w_1762 : (Cond.instanceMethod ⟨"LinesPromisedModel", "scrip", "(III)I"⟩) ∈ wG := wG_in 1762 (by decide +kernel) (by decide +kernel)
theorem w_1763 : (Cond.selects "LinesPromisedModel" ⟨"LinesPromisedModel", "scrip", "(III)I"⟩ ⟨"LinesPromisedModel", "scrip", "(III)I"⟩) ∈ wG := wG_in 1763 (by decide +kernel) (by decide +kernel)
theorem w_1784 : (Cond.code ⟨"LinesPromisedModel", "held", "(II)I"⟩ prog_14_method_75_code 3 (some .int)) ∈ wG := wG_in 1784 (by decide +kernel) (by decide +kernel)
theorem w_1782 : (Cond.instanceMethod ⟨"LinesPromisedModel", "held", "(II)I"⟩) ∈ wG := wG_in 1782 (by decide +kernel) (by decide +kernel)
theorem w_1783 : (Cond.selects "LinesPromisedModel" ⟨"LinesPromisedModel", "held", "(II)I"⟩ ⟨"LinesPromisedModel", "held", "(II)I"⟩) ∈ wG := wG_in 1783 (by decide +kernel) (by decide +kernel)
theorem w_1788 : (Cond.code ⟨"LinesPromisedModel", "purse", "(II)I"⟩ prog_14_method_76_code 3 (some .int)) ∈ wG := wG_in 1788 (by decide +kernel) (by decide +kernel)
theorem w_1786 : (Cond.instanceMethod ⟨"LinesPromisedModel", "purse", "(II)I"⟩) ∈ wG := wG_in 1786 (by decide +kernel) (by decide +kernel)
theorem w_1787 : (Cond.selects "LinesPromisedModel" ⟨"LinesPromisedModel", "purse", "(II)I"⟩ ⟨"LinesPromisedModel", "purse", "(II)I"⟩) ∈ wG := wG_in 1787 (by decide +kernel) (by decide +kernel)
theorem w_1792 : (Cond.code ⟨"LinesPromisedModel", "ask", "(IIIIZ)I"⟩ prog_14_method_77_code 7 (some .int)) ∈ wG := wG_in 1792 (by decide +kernel) (by decide +kernel)
theorem w_1790 : (Cond.instanceMethod ⟨"LinesPromisedModel", "ask", "(IIIIZ)I"⟩) ∈ wG := wG_in 1790 (by decide +kernel) (by decide +kernel)
theorem w_1791 : (Cond.selects "LinesPromisedModel" ⟨"LinesPromisedModel", "ask", "(IIIIZ)I"⟩ ⟨"LinesPromisedModel", "ask", "(IIIIZ)I"⟩) ∈ wG := wG_in 1791 (by decide +kernel) (by decide +kernel)
theorem w_1800 : (Cond.code ⟨"LinesPromisedModel", "bestOf", "(II)I"⟩ prog_14_method_78_code 7 (some .int)) ∈ wG := wG_in 1800 (by decide +kernel) (by decide +kernel)
theorem w_1799 : (Cond.instanceMethod ⟨"LinesPromisedModel", "bestOf", "(II)I"⟩) ∈ wG := wG_in 1799 (by decide +kernel) (by decide +kernel)
theorem w_79 : (Cond.selects "LinesPromisedModel" ⟨"LinesPromisedModel", "bestOf", "(II)I"⟩ ⟨"LinesPromisedModel", "bestOf", "(II)I"⟩) ∈ wG := wG_in 79 (by decide +kernel) (by decide +kernel)
theorem w_1797 : (Cond.methodLink "LinesPromisedModel" 250 ⟨"LinesPromisedModel", "bestOf", "(II)I"⟩) ∈ wG := wG_in 1797 (by decide +kernel) (by decide +kernel)
theorem w_1796 : (Cond.code ⟨"LinesPromisedModel", "price", "(I)I"⟩ prog_14_method_79_code 9 (some .int)) ∈ wG := wG_in 1796 (by decide +kernel) (by decide +kernel)
theorem w_1794 : (Cond.instanceMethod ⟨"LinesPromisedModel", "price", "(I)I"⟩) ∈ wG := wG_in 1794 (by decide +kernel) (by decide +kernel)
theorem w_1795 : (Cond.selects "LinesPromisedModel" ⟨"LinesPromisedModel", "price", "(I)I"⟩ ⟨"LinesPromisedModel", "price", "(I)I"⟩) ∈ wG := wG_in 1795 (by decide +kernel) (by decide +kernel)
theorem w_1804 : (Cond.code ⟨"LinesPromisedModel", "read", "(I)I"⟩ prog_14_method_80_code 2 (some .int)) ∈ wG := wG_in 1804 (by decide +kernel) (by decide +kernel)
theorem w_1802 : (Cond.instanceMethod ⟨"LinesPromisedModel", "read", "(I)I"⟩) ∈ wG := wG_in 1802 (by decide +kernel) (by decide +kernel)
theorem w_1803 : (Cond.selects "LinesPromisedModel" ⟨"LinesPromisedModel", "read", "(I)I"⟩ ⟨"LinesPromisedModel", "read", "(I)I"⟩) ∈ wG := wG_in 1803 (by decide +kernel) (by decide +kernel)
theorem w_1808 : (Cond.code ⟨"LinesPromisedModel", "call", "(II)I"⟩ prog_14_method_81_code 5 (some .int)) ∈ wG := wG_in 1808 (by decide +kernel) (by decide +kernel)
theorem w_1806 : (Cond.instanceMethod ⟨"LinesPromisedModel", "call", "(II)I"⟩) ∈ wG := wG_in 1806 (by decide +kernel) (by decide +kernel)
theorem w_1807 : (Cond.selects "LinesPromisedModel" ⟨"LinesPromisedModel", "call", "(II)I"⟩ ⟨"LinesPromisedModel", "call", "(II)I"⟩) ∈ wG := wG_in 1807 (by decide +kernel) (by decide +kernel)
theorem w_1812 : (Cond.code ⟨"LinesPromisedModel", "lend", "(III)I"⟩ prog_14_method_82_code 4 (some .int)) ∈ wG := wG_in 1812 (by decide +kernel) (by decide +kernel)
theorem w_1810 : (Cond.instanceMethod ⟨"LinesPromisedModel", "lend", "(III)I"⟩) ∈ wG := wG_in 1810 (by decide +kernel) (by decide +kernel)
theorem w_1811 : (Cond.selects "LinesPromisedModel" ⟨"LinesPromisedModel", "lend", "(III)I"⟩ ⟨"LinesPromisedModel", "lend", "(III)I"⟩) ∈ wG := wG_in 1811 (by decide +kernel) (by decide +kernel)
theorem w_1824 : (Cond.code ⟨"LinesPromisedModel", "canPay", "(I)J"⟩ prog_14_method_84_code 5 (some .long)) ∈ wG := wG_in 1824 (by decide +kernel) (by decide +kernel)
theorem w_1823 : (Cond.instanceMethod ⟨"LinesPromisedModel", "canPay", "(I)J"⟩) ∈ wG := wG_in 1823 (by decide +kernel) (by decide +kernel)
theorem w_81 : (Cond.selects "LinesPromisedModel" ⟨"LinesPromisedModel", "canPay", "(I)J"⟩ ⟨"LinesPromisedModel", "canPay", "(I)J"⟩) ∈ wG := wG_in 81 (by decide +kernel) (by decide +kernel)
/-! LinesPromisedModel.scrip(III)I -/
theorem dX12_scrip_0 : decode cX12_scrip 0 = .ok (.aload_n 0, 1) := by decide +kernel
theorem dX12_scrip_1 : decode cX12_scrip 1 = .ok (.iload_n 1, 1) := by decide +kernel
theorem dX12_scrip_2 : decode cX12_scrip 2 = .ok (.invokevirtual 241, 3) := by decide +kernel
theorem dX12_scrip_5 : decode cX12_scrip 5 = .ok (.ifCond .eq 10, 3) := by decide +kernel
theorem dX12_scrip_8 : decode cX12_scrip 8 = .ok (.iload_n 2, 1) := by decide +kernel
theorem dX12_scrip_9 : decode cX12_scrip 9 = .ok (.invokestatic 69, 3) := by decide +kernel
theorem dX12_scrip_12 : decode cX12_scrip 12 = .ok (.ifCond .ne 5, 3) := by decide +kernel
theorem dX12_scrip_15 : decode cX12_scrip 15 = .ok (.iconst (-1), 1) := by decide +kernel
theorem dX12_scrip_16 : decode cX12_scrip 16 = .ok (.ireturn, 1) := by decide +kernel
theorem dX12_scrip_17 : decode cX12_scrip 17 = .ok (.iload_n 3, 1) := by decide +kernel
theorem dX12_scrip_18 : decode cX12_scrip 18 = .ok (.iconst 1, 1) := by decide +kernel
theorem dX12_scrip_19 : decode cX12_scrip 19 = .ok (.bipush 99, 2) := by decide +kernel
theorem dX12_scrip_21 : decode cX12_scrip 21 = .ok (.invokestatic 58, 3) := by decide +kernel
theorem dX12_scrip_24 : decode cX12_scrip 24 = .ok (.ifCond .ne 6, 3) := by decide +kernel
theorem dX12_scrip_27 : decode cX12_scrip 27 = .ok (.bipush (-2), 2) := by decide +kernel
theorem dX12_scrip_29 : decode cX12_scrip 29 = .ok (.ireturn, 1) := by decide +kernel
theorem dX12_scrip_30 : decode cX12_scrip 30 = .ok (.aload_n 0, 1) := by decide +kernel
theorem dX12_scrip_31 : decode cX12_scrip 31 = .ok (.iload_n 1, 1) := by decide +kernel
theorem dX12_scrip_32 : decode cX12_scrip 32 = .ok (.invokevirtual 244, 3) := by decide +kernel
theorem dX12_scrip_35 : decode cX12_scrip 35 = .ok (.ifCond .ne 19, 3) := by decide +kernel
theorem dX12_scrip_38 : decode cX12_scrip 38 = .ok (.aload_n 0, 1) := by decide +kernel
theorem dX12_scrip_39 : decode cX12_scrip 39 = .ok (.getfield 8, 3) := by decide +kernel
theorem dX12_scrip_42 : decode cX12_scrip 42 = .ok (.aload_n 0, 1) := by decide +kernel
theorem dX12_scrip_43 : decode cX12_scrip 43 = .ok (.iload_n 1, 1) := by decide +kernel
theorem dX12_scrip_44 : decode cX12_scrip 44 = .ok (.bipush 8, 2) := by decide +kernel
theorem dX12_scrip_46 : decode cX12_scrip 46 = .ok (.invokevirtual 247, 3) := by decide +kernel
theorem dX12_scrip_49 : decode cX12_scrip 49 = .ok (.iaload, 1) := by decide +kernel
theorem dX12_scrip_50 : decode cX12_scrip 50 = .ok (.iload_n 3, 1) := by decide +kernel
theorem dX12_scrip_51 : decode cX12_scrip 51 = .ok (.if_icmp .ge 6, 3) := by decide +kernel
theorem dX12_scrip_54 : decode cX12_scrip 54 = .ok (.bipush (-3), 2) := by decide +kernel
theorem dX12_scrip_56 : decode cX12_scrip 56 = .ok (.ireturn, 1) := by decide +kernel
theorem dX12_scrip_57 : decode cX12_scrip 57 = .ok (.aload_n 0, 1) := by decide +kernel
theorem dX12_scrip_58 : decode cX12_scrip 58 = .ok (.getfield 8, 3) := by decide +kernel
theorem dX12_scrip_61 : decode cX12_scrip 61 = .ok (.aload_n 0, 1) := by decide +kernel
theorem dX12_scrip_62 : decode cX12_scrip 62 = .ok (.iload_n 1, 1) := by decide +kernel
theorem dX12_scrip_63 : decode cX12_scrip 63 = .ok (.bipush 8, 2) := by decide +kernel
theorem dX12_scrip_65 : decode cX12_scrip 65 = .ok (.invokevirtual 247, 3) := by decide +kernel
theorem dX12_scrip_68 : decode cX12_scrip 68 = .ok (.dup2, 1) := by decide +kernel
theorem dX12_scrip_69 : decode cX12_scrip 69 = .ok (.iaload, 1) := by decide +kernel
theorem dX12_scrip_70 : decode cX12_scrip 70 = .ok (.iload_n 3, 1) := by decide +kernel
theorem dX12_scrip_71 : decode cX12_scrip 71 = .ok (.isub, 1) := by decide +kernel
theorem dX12_scrip_72 : decode cX12_scrip 72 = .ok (.iastore, 1) := by decide +kernel
theorem dX12_scrip_73 : decode cX12_scrip 73 = .ok (.aload_n 0, 1) := by decide +kernel
theorem dX12_scrip_74 : decode cX12_scrip 74 = .ok (.getfield 8, 3) := by decide +kernel
theorem dX12_scrip_77 : decode cX12_scrip 77 = .ok (.aload_n 0, 1) := by decide +kernel
theorem dX12_scrip_78 : decode cX12_scrip 78 = .ok (.iload_n 1, 1) := by decide +kernel
theorem dX12_scrip_79 : decode cX12_scrip 79 = .ok (.iload_n 2, 1) := by decide +kernel
theorem dX12_scrip_80 : decode cX12_scrip 80 = .ok (.invokevirtual 247, 3) := by decide +kernel
theorem dX12_scrip_83 : decode cX12_scrip 83 = .ok (.dup2, 1) := by decide +kernel
theorem dX12_scrip_84 : decode cX12_scrip 84 = .ok (.iaload, 1) := by decide +kernel
theorem dX12_scrip_85 : decode cX12_scrip 85 = .ok (.iload_n 3, 1) := by decide +kernel
theorem dX12_scrip_86 : decode cX12_scrip 86 = .ok (.iadd, 1) := by decide +kernel
theorem dX12_scrip_87 : decode cX12_scrip 87 = .ok (.iastore, 1) := by decide +kernel
theorem dX12_scrip_88 : decode cX12_scrip 88 = .ok (.aload_n 0, 1) := by decide +kernel
theorem dX12_scrip_89 : decode cX12_scrip 89 = .ok (.getfield 8, 3) := by decide +kernel
theorem dX12_scrip_92 : decode cX12_scrip 92 = .ok (.aload_n 0, 1) := by decide +kernel
theorem dX12_scrip_93 : decode cX12_scrip 93 = .ok (.iload_n 1, 1) := by decide +kernel
theorem dX12_scrip_94 : decode cX12_scrip 94 = .ok (.iload_n 2, 1) := by decide +kernel
theorem dX12_scrip_95 : decode cX12_scrip 95 = .ok (.invokevirtual 247, 3) := by decide +kernel
theorem dX12_scrip_98 : decode cX12_scrip 98 = .ok (.iaload, 1) := by decide +kernel
theorem dX12_scrip_99 : decode cX12_scrip 99 = .ok (.ireturn, 1) := by decide +kernel
theorem cm_X12_scrip : CM yX12_scrip cX12_scrip 4 (some .int) 3 12 := ⟨w_1762, w_1763, w_1764, w_97, ⟨by decide +kernel, by decide +kernel, by decide +kernel⟩, ⟨_, _, rfl⟩, by decide⟩
noncomputable def f_X12_scrip_15 (n : Nat)  (h : MM) : RR :=
  some ((-1), h)
noncomputable def f_X12_scrip_54 (n : Nat)  (h : MM) : RR :=
  some ((-3), h)
noncomputable def f_X12_scrip (n : Nat) (v0 v1 v2 v3 : Int) (h : MM) : RR :=
  gk h v0 12 <|
  bd (f_X12_isScheme n v0 v1 h) fun r1 h1 =>
  if r1 = 0 then
    f_X12_scrip_15 n h1
  else
  bd (f_X12_isHolder n v2 h1) fun r3 h3 =>
  if r3 = 0 then
    f_X12_scrip_15 n h3
  else
  bd (f_X12_in n v3 1 99 h3) fun r5 h5 =>
  if r5 = 0 then
    some ((-2), h5)
  else
  gk h5 v0 12 <|
  bd (f_X12_isFallen n v0 v1 h5) fun r7 h7 =>
  if r7 = 0 then
    gf h7 v0 12 1 fun r9 =>
    gk h7 v0 12 <|
    bd (f_X12_sharesAt n v0 v1 8 h7) fun r10 h10 =>
    rd h10 r9 100 r10 fun r11 =>
    if v3 ≤ r11 then
      gf h10 v0 12 1 fun r13 =>
      gk h10 v0 12 <|
      bd (f_X12_sharesAt n v0 v1 8 h10) fun r14 h14 =>
      rd h14 r13 100 r14 fun r15 =>
      wt h14 r13 100 r14 (wr (r15 - v3)) fun h16 =>
      gf h16 v0 12 1 fun r17 =>
      gk h16 v0 12 <|
      bd (f_X12_sharesAt n v0 v1 v2 h16) fun r18 h18 =>
      rd h18 r17 100 r18 fun r19 =>
      wt h18 r17 100 r18 (wr (r19 + v3)) fun h20 =>
      gf h20 v0 12 1 fun r21 =>
      gk h20 v0 12 <|
      bd (f_X12_sharesAt n v0 v1 v2 h20) fun r22 h22 =>
      rd h22 r21 100 r22 fun r23 =>
      some (r23, h22)
    else
    f_X12_scrip_54 n h10
  else
  f_X12_scrip_54 n h7
set_option maxRecDepth 20000 in
theorem b_X12_scrip_15 {g : GT} {Z : Int × MM} {n : Nat} (C : Cx g cX12_scrip 4 yX12_scrip 4 86) (hr : Rt g (some .int) 0 Z)     {h : MM} (hf : f_X12_scrip_15 n   h = some Z) : G g 15 [(3, 0), (3, 0), (3, 0), (3, 0)] [] h := by
  unfold f_X12_scrip_15 at hf
  refine r_iconst C dX12_scrip_15 ?_
  cases hf
  exact r_jret C hr dX12_scrip_16 (in32_of rfl)
set_option maxRecDepth 20000 in
theorem b_X12_scrip_54 {g : GT} {Z : Int × MM} {n : Nat} (C : Cx g cX12_scrip 4 yX12_scrip 4 86) (hr : Rt g (some .int) 0 Z)     {h : MM} (hf : f_X12_scrip_54 n   h = some Z) : G g 54 [(3, 0), (3, 0), (3, 0), (3, 0)] [] h := by
  unfold f_X12_scrip_54 at hf
  refine r_bipush C dX12_scrip_54 rfl ?_
  cases hf
  exact r_jret C hr dX12_scrip_56 (in32_of rfl)
set_option maxRecDepth 20000 in
theorem e_X12_scrip {g : GT} {Z : Int × MM} {n : Nat} (C : Cx g cX12_scrip 4 yX12_scrip 4 86) (hr : Rt g (some .int) 0 Z) {v0 v1 v2 v3 : Int} (cv0 : cK 2 v0) (cv1 : cK 0 v1) (cv2 : cK 0 v2) (cv3 : cK 0 v3) {h : MM} (hf : f_X12_scrip n v0 v1 v2 v3 h = some Z) : G g 0 [(2, v0), (0, v1), (0, v2), (0, v3)] [] h := by
  have cv1 : in32 v1 := cv1
  have cv2 : in32 v2 := cv2
  have cv3 : in32 v3 := cv3
  unfold f_X12_scrip at hf
  refine r_aload_n C dX12_scrip_0 rfl ?_
  refine r_iload_n C dX12_scrip_1 rfl ?_
  obtain ⟨p1, hf⟩ := gk_s hf
  obtain ⟨r1, h1, hq1, hf⟩ := bd_s hf
  refine r_cV1 C (am_X12_isScheme (gl g) n) cm_X12_isScheme w_1765 dX12_scrip_2 ⟨Nat.le_of_ble_eq_true rfl, Nat.le_of_ble_eq_true rfl⟩ p1 rfl cv1 rfl (Nat.le_of_ble_eq_true rfl) hq1 (by decide) (fun c1 => ?_)
  have c1 : in32 _ := c1
  refine r_if_eq C dX12_scrip_5 (tgt := 15) (by decide) c1 (fun n2 => ?_) (fun n2 => ?_)
  · have hf := ite_p n2 hf
    exact G.mask [false, false, false, false] rfl rfl (b_X12_scrip_15 C hr   hf)
  · have hf := ite_n n2 hf
    refine r_iload_n C dX12_scrip_8 rfl ?_
    obtain ⟨r3, h3, hq3, hf⟩ := bd_s hf
    refine r_cS1 C (am_X12_isHolder (gl g) n) cm_X12_isHolder w_1507 dX12_scrip_9 ⟨Nat.le_of_ble_eq_true rfl, Nat.le_of_ble_eq_true rfl⟩ cv2 rfl (Nat.le_of_ble_eq_true rfl) hq3 (by decide) (fun c3 => ?_)
    have c3 : in32 _ := c3
    refine r_if_ne C dX12_scrip_12 (tgt := 17) (by decide) c3 (fun n4 => ?_) (fun n4 => ?_)
    · have hf := ite_n n4 hf
      refine r_iload_n C dX12_scrip_17 rfl ?_
      refine r_iconst C dX12_scrip_18 ?_
      refine r_bipush C dX12_scrip_19 rfl ?_
      obtain ⟨r5, h5, hq5, hf⟩ := bd_s hf
      refine r_cS3 C (am_X12_in (gl g) n) cm_X12_in w_1496 dX12_scrip_21 ⟨Nat.le_of_ble_eq_true rfl, Nat.le_of_ble_eq_true rfl⟩ cv3 (in32_of rfl) (in32_of rfl) rfl (Nat.le_of_ble_eq_true rfl) hq5 (by decide) (fun c5 => ?_)
      have c5 : in32 _ := c5
      refine r_if_ne C dX12_scrip_24 (tgt := 30) (by decide) c5 (fun n6 => ?_) (fun n6 => ?_)
      · have hf := ite_n n6 hf
        refine r_aload_n C dX12_scrip_30 rfl ?_
        refine r_iload_n C dX12_scrip_31 rfl ?_
        obtain ⟨p7, hf⟩ := gk_s hf
        obtain ⟨r7, h7, hq7, hf⟩ := bd_s hf
        refine r_cV1 C (am_X12_isFallen (gl g) n) cm_X12_isFallen w_1769 dX12_scrip_32 ⟨Nat.le_of_ble_eq_true rfl, Nat.le_of_ble_eq_true rfl⟩ p7 rfl cv1 rfl (Nat.le_of_ble_eq_true rfl) hq7 (by decide) (fun c7 => ?_)
        have c7 : in32 _ := c7
        refine r_if_ne C dX12_scrip_35 (tgt := 54) (by decide) c7 (fun n8 => ?_) (fun n8 => ?_)
        · have hf := ite_n n8 hf
          exact G.mask [false, false, false, false] rfl rfl (b_X12_scrip_54 C hr   hf)
        · have hf := ite_p n8 hf
          refine r_aload_n C dX12_scrip_38 rfl ?_
          obtain ⟨q9, hf⟩ := gf_s hf
          refine r_gf C ct12 (j := 1) (ji := 1) dX12_scrip_39 q9 rfl rfl (by decide) w_1426 rfl (fun c9 => ?_)
          refine r_aload_n C dX12_scrip_42 rfl ?_
          refine r_iload_n C dX12_scrip_43 rfl ?_
          refine r_bipush C dX12_scrip_44 rfl ?_
          obtain ⟨p10, hf⟩ := gk_s hf
          obtain ⟨r10, h10, hq10, hf⟩ := bd_s hf
          refine r_cV2 C (am_X12_sharesAt (gl g) n) cm_X12_sharesAt w_1773 dX12_scrip_46 ⟨Nat.le_of_ble_eq_true rfl, Nat.le_of_ble_eq_true rfl⟩ p10 rfl cv1 (in32_of rfl) rfl (Nat.le_of_ble_eq_true rfl) hq10 (by decide) (fun c10 => ?_)
          have c10 : in32 _ := c10
          obtain ⟨q11, hf⟩ := rd_s hf
          refine r_iald C dX12_scrip_49 q11 rfl (fun c11 => ?_)
          refine r_iload_n C dX12_scrip_50 rfl ?_
          refine r_icmp_ge C dX12_scrip_51 (tgt := 57) (by decide) c11 cv3 (fun n12 => ?_) (fun n12 => ?_)
          · have hf := ite_p n12 hf
            refine r_aload_n C dX12_scrip_57 rfl ?_
            obtain ⟨q13, hf⟩ := gf_s hf
            refine r_gf C ct12 (j := 1) (ji := 1) dX12_scrip_58 q13 rfl rfl (by decide) w_1426 rfl (fun c13 => ?_)
            refine r_aload_n C dX12_scrip_61 rfl ?_
            refine r_iload_n C dX12_scrip_62 rfl ?_
            refine r_bipush C dX12_scrip_63 rfl ?_
            obtain ⟨p14, hf⟩ := gk_s hf
            obtain ⟨r14, h14, hq14, hf⟩ := bd_s hf
            refine r_cV2 C (am_X12_sharesAt (gl g) n) cm_X12_sharesAt w_1773 dX12_scrip_65 ⟨Nat.le_of_ble_eq_true rfl, Nat.le_of_ble_eq_true rfl⟩ p14 rfl cv1 (in32_of rfl) rfl (Nat.le_of_ble_eq_true rfl) hq14 (by decide) (fun c14 => ?_)
            have c14 : in32 _ := c14
            refine r_dup2 C dX12_scrip_68 (by decide) (by decide) ?_
            obtain ⟨q15, hf⟩ := rd_s hf
            refine r_iald C dX12_scrip_69 q15 rfl (fun c15 => ?_)
            refine r_iload_n C dX12_scrip_70 rfl ?_
            refine r_isub C dX12_scrip_71 ?_
            obtain ⟨q16, hf⟩ := wt_s hf
            refine r_iast C dX12_scrip_72 q16 rfl (in32_t _) ?_
            refine r_aload_n C dX12_scrip_73 rfl ?_
            obtain ⟨q17, hf⟩ := gf_s hf
            refine r_gf C ct12 (j := 1) (ji := 1) dX12_scrip_74 q17 rfl rfl (by decide) w_1426 rfl (fun c17 => ?_)
            refine r_aload_n C dX12_scrip_77 rfl ?_
            refine r_iload_n C dX12_scrip_78 rfl ?_
            refine r_iload_n C dX12_scrip_79 rfl ?_
            obtain ⟨p18, hf⟩ := gk_s hf
            obtain ⟨r18, h18, hq18, hf⟩ := bd_s hf
            refine r_cV2 C (am_X12_sharesAt (gl g) n) cm_X12_sharesAt w_1773 dX12_scrip_80 ⟨Nat.le_of_ble_eq_true rfl, Nat.le_of_ble_eq_true rfl⟩ p18 rfl cv1 cv2 rfl (Nat.le_of_ble_eq_true rfl) hq18 (by decide) (fun c18 => ?_)
            have c18 : in32 _ := c18
            refine r_dup2 C dX12_scrip_83 (by decide) (by decide) ?_
            obtain ⟨q19, hf⟩ := rd_s hf
            refine r_iald C dX12_scrip_84 q19 rfl (fun c19 => ?_)
            refine r_iload_n C dX12_scrip_85 rfl ?_
            refine r_iadd C dX12_scrip_86 ?_
            obtain ⟨q20, hf⟩ := wt_s hf
            refine r_iast C dX12_scrip_87 q20 rfl (in32_t _) ?_
            refine r_aload_n C dX12_scrip_88 rfl ?_
            obtain ⟨q21, hf⟩ := gf_s hf
            refine r_gf C ct12 (j := 1) (ji := 1) dX12_scrip_89 q21 rfl rfl (by decide) w_1426 rfl (fun c21 => ?_)
            refine r_aload_n C dX12_scrip_92 rfl ?_
            refine r_iload_n C dX12_scrip_93 rfl ?_
            refine r_iload_n C dX12_scrip_94 rfl ?_
            obtain ⟨p22, hf⟩ := gk_s hf
            obtain ⟨r22, h22, hq22, hf⟩ := bd_s hf
            refine r_cV2 C (am_X12_sharesAt (gl g) n) cm_X12_sharesAt w_1773 dX12_scrip_95 ⟨Nat.le_of_ble_eq_true rfl, Nat.le_of_ble_eq_true rfl⟩ p22 rfl cv1 cv2 rfl (Nat.le_of_ble_eq_true rfl) hq22 (by decide) (fun c22 => ?_)
            have c22 : in32 _ := c22
            obtain ⟨q23, hf⟩ := rd_s hf
            refine r_iald C dX12_scrip_98 q23 rfl (fun c23 => ?_)
            cases hf
            exact r_jret C hr dX12_scrip_99 c23
          · have hf := ite_n n12 hf
            exact G.mask [false, false, false, false] rfl rfl (b_X12_scrip_54 C hr   hf)
      · have hf := ite_p n6 hf
        refine r_bipush C dX12_scrip_27 rfl ?_
        cases hf
        exact r_jret C hr dX12_scrip_29 (in32_of rfl)
    · have hf := ite_p n4 hf
      exact G.mask [false, false, false, false] rfl rfl (b_X12_scrip_15 C hr   hf)
set_option maxRecDepth 20000 in
theorem am_X12_scrip (l : Launch) (n : Nat) : AM l yX12_scrip cX12_scrip 4 (some .int) 4 86 [2, 0, 0, 0] 0 (un4 (f_X12_scrip n)) := by
  refine AM.intro (by decide) (fun xs hx => ?_) (fun g xs h Z hl C hr hx hf => ?_)
  · obtain ⟨a0, a1, a2, a3, rfl, c0, c1, c2, c3⟩ := canL_4 hx
    exact Nat.le_of_ble_eq_true rfl
  · obtain ⟨a0, a1, a2, a3, rfl, c0, c1, c2, c3⟩ := canL_4 hx
    have hf := (un4_e _ a0 a1 a2 a3 _).symm.trans hf
    exact e_X12_scrip (n := n) C hr c0 c1 c2 c3 hf
/-! LinesPromisedModel.held(II)I -/
theorem dX12_held_0 : decode cX12_held 0 = .ok (.aload_n 0, 1) := by decide +kernel
theorem dX12_held_1 : decode cX12_held 1 = .ok (.iload_n 1, 1) := by decide +kernel
theorem dX12_held_2 : decode cX12_held 2 = .ok (.invokevirtual 241, 3) := by decide +kernel
theorem dX12_held_5 : decode cX12_held 5 = .ok (.ifCond .eq 27, 3) := by decide +kernel
theorem dX12_held_8 : decode cX12_held 8 = .ok (.iload_n 2, 1) := by decide +kernel
theorem dX12_held_9 : decode cX12_held 9 = .ok (.iconst 0, 1) := by decide +kernel
theorem dX12_held_10 : decode cX12_held 10 = .ok (.bipush 8, 2) := by decide +kernel
theorem dX12_held_12 : decode cX12_held 12 = .ok (.invokestatic 58, 3) := by decide +kernel
theorem dX12_held_15 : decode cX12_held 15 = .ok (.ifCond .eq 17, 3) := by decide +kernel
theorem dX12_held_18 : decode cX12_held 18 = .ok (.aload_n 0, 1) := by decide +kernel
theorem dX12_held_19 : decode cX12_held 19 = .ok (.getfield 8, 3) := by decide +kernel
theorem dX12_held_22 : decode cX12_held 22 = .ok (.aload_n 0, 1) := by decide +kernel
theorem dX12_held_23 : decode cX12_held 23 = .ok (.iload_n 1, 1) := by decide +kernel
theorem dX12_held_24 : decode cX12_held 24 = .ok (.iload_n 2, 1) := by decide +kernel
theorem dX12_held_25 : decode cX12_held 25 = .ok (.invokevirtual 247, 3) := by decide +kernel
theorem dX12_held_28 : decode cX12_held 28 = .ok (.iaload, 1) := by decide +kernel
theorem dX12_held_29 : decode cX12_held 29 = .ok (.goto 4, 3) := by decide +kernel
theorem dX12_held_32 : decode cX12_held 32 = .ok (.iconst (-1), 1) := by decide +kernel
theorem dX12_held_33 : decode cX12_held 33 = .ok (.ireturn, 1) := by decide +kernel
theorem cm_X12_held : CM yX12_held cX12_held 3 (some .int) 2 12 := ⟨w_1782, w_1783, w_1784, w_97, ⟨by decide +kernel, by decide +kernel, by decide +kernel⟩, ⟨_, _, rfl⟩, by decide⟩
noncomputable def f_X12_held_33 (n : Nat)  (s0 : Int) (h : MM) : RR :=
  some (s0, h)
noncomputable def f_X12_held_32 (n : Nat)  (h : MM) : RR :=
  f_X12_held_33 n ((-1)) h
noncomputable def f_X12_held (n : Nat) (v0 v1 v2 : Int) (h : MM) : RR :=
  gk h v0 12 <|
  bd (f_X12_isScheme n v0 v1 h) fun r1 h1 =>
  if r1 = 0 then
    f_X12_held_32 n h1
  else
  bd (f_X12_in n v2 0 8 h1) fun r3 h3 =>
  if r3 = 0 then
    f_X12_held_32 n h3
  else
  gf h3 v0 12 1 fun r5 =>
  gk h3 v0 12 <|
  bd (f_X12_sharesAt n v0 v1 v2 h3) fun r6 h6 =>
  rd h6 r5 100 r6 fun r7 =>
  f_X12_held_33 n r7 h6
set_option maxRecDepth 20000 in
theorem b_X12_held_33 {g : GT} {Z : Int × MM} {n : Nat} (C : Cx g cX12_held 3 yX12_held 4 86) (hr : Rt g (some .int) 0 Z) {s0 : Int}    (cs0 : in32 s0) {h : MM} (hf : f_X12_held_33 n  s0 h = some Z) : G g 33 [(3, 0), (3, 0), (3, 0)] [(0, s0)] h := by
  unfold f_X12_held_33 at hf
  cases hf
  exact r_jret C hr dX12_held_33 cs0
set_option maxRecDepth 20000 in
theorem b_X12_held_32 {g : GT} {Z : Int × MM} {n : Nat} (C : Cx g cX12_held 3 yX12_held 4 86) (hr : Rt g (some .int) 0 Z)     {h : MM} (hf : f_X12_held_32 n   h = some Z) : G g 32 [(3, 0), (3, 0), (3, 0)] [] h := by
  unfold f_X12_held_32 at hf
  refine r_iconst C dX12_held_32 ?_
  exact G.mask [false, false, false] rfl rfl (b_X12_held_33 C hr  (in32_of rfl) hf)
set_option maxRecDepth 20000 in
theorem e_X12_held {g : GT} {Z : Int × MM} {n : Nat} (C : Cx g cX12_held 3 yX12_held 4 86) (hr : Rt g (some .int) 0 Z) {v0 v1 v2 : Int} (cv0 : cK 2 v0) (cv1 : cK 0 v1) (cv2 : cK 0 v2) {h : MM} (hf : f_X12_held n v0 v1 v2 h = some Z) : G g 0 [(2, v0), (0, v1), (0, v2)] [] h := by
  have cv1 : in32 v1 := cv1
  have cv2 : in32 v2 := cv2
  unfold f_X12_held at hf
  refine r_aload_n C dX12_held_0 rfl ?_
  refine r_iload_n C dX12_held_1 rfl ?_
  obtain ⟨p1, hf⟩ := gk_s hf
  obtain ⟨r1, h1, hq1, hf⟩ := bd_s hf
  refine r_cV1 C (am_X12_isScheme (gl g) n) cm_X12_isScheme w_1765 dX12_held_2 ⟨Nat.le_of_ble_eq_true rfl, Nat.le_of_ble_eq_true rfl⟩ p1 rfl cv1 rfl (Nat.le_of_ble_eq_true rfl) hq1 (by decide) (fun c1 => ?_)
  have c1 : in32 _ := c1
  refine r_if_eq C dX12_held_5 (tgt := 32) (by decide) c1 (fun n2 => ?_) (fun n2 => ?_)
  · have hf := ite_p n2 hf
    exact G.mask [false, false, false] rfl rfl (b_X12_held_32 C hr   hf)
  · have hf := ite_n n2 hf
    refine r_iload_n C dX12_held_8 rfl ?_
    refine r_iconst C dX12_held_9 ?_
    refine r_bipush C dX12_held_10 rfl ?_
    obtain ⟨r3, h3, hq3, hf⟩ := bd_s hf
    refine r_cS3 C (am_X12_in (gl g) n) cm_X12_in w_1496 dX12_held_12 ⟨Nat.le_of_ble_eq_true rfl, Nat.le_of_ble_eq_true rfl⟩ cv2 (in32_of rfl) (in32_of rfl) rfl (Nat.le_of_ble_eq_true rfl) hq3 (by decide) (fun c3 => ?_)
    have c3 : in32 _ := c3
    refine r_if_eq C dX12_held_15 (tgt := 32) (by decide) c3 (fun n4 => ?_) (fun n4 => ?_)
    · have hf := ite_p n4 hf
      exact G.mask [false, false, false] rfl rfl (b_X12_held_32 C hr   hf)
    · have hf := ite_n n4 hf
      refine r_aload_n C dX12_held_18 rfl ?_
      obtain ⟨q5, hf⟩ := gf_s hf
      refine r_gf C ct12 (j := 1) (ji := 1) dX12_held_19 q5 rfl rfl (by decide) w_1426 rfl (fun c5 => ?_)
      refine r_aload_n C dX12_held_22 rfl ?_
      refine r_iload_n C dX12_held_23 rfl ?_
      refine r_iload_n C dX12_held_24 rfl ?_
      obtain ⟨p6, hf⟩ := gk_s hf
      obtain ⟨r6, h6, hq6, hf⟩ := bd_s hf
      refine r_cV2 C (am_X12_sharesAt (gl g) n) cm_X12_sharesAt w_1773 dX12_held_25 ⟨Nat.le_of_ble_eq_true rfl, Nat.le_of_ble_eq_true rfl⟩ p6 rfl cv1 cv2 rfl (Nat.le_of_ble_eq_true rfl) hq6 (by decide) (fun c6 => ?_)
      have c6 : in32 _ := c6
      obtain ⟨q7, hf⟩ := rd_s hf
      refine r_iald C dX12_held_28 q7 rfl (fun c7 => ?_)
      refine r_goto C dX12_held_29 (tgt := 33) (by decide) ?_
      exact G.mask [false, false, false] rfl rfl (b_X12_held_33 C hr  c7 hf)
set_option maxRecDepth 20000 in
theorem am_X12_held (l : Launch) (n : Nat) : AM l yX12_held cX12_held 3 (some .int) 4 86 [2, 0, 0] 0 (un3 (f_X12_held n)) := by
  refine AM.intro (by decide) (fun xs hx => ?_) (fun g xs h Z hl C hr hx hf => ?_)
  · obtain ⟨a0, a1, a2, rfl, c0, c1, c2⟩ := canL_3 hx
    exact Nat.le_of_ble_eq_true rfl
  · obtain ⟨a0, a1, a2, rfl, c0, c1, c2⟩ := canL_3 hx
    have hf := (un3_e _ a0 a1 a2 _).symm.trans hf
    exact e_X12_held (n := n) C hr c0 c1 c2 hf
/-! LinesPromisedModel.purse(II)I -/
theorem dX12_purse_0 : decode cX12_purse 0 = .ok (.iload_n 1, 1) := by decide +kernel
theorem dX12_purse_1 : decode cX12_purse 1 = .ok (.ifCond .ne 25, 3) := by decide +kernel
theorem dX12_purse_4 : decode cX12_purse 4 = .ok (.iload_n 2, 1) := by decide +kernel
theorem dX12_purse_5 : decode cX12_purse 5 = .ok (.invokestatic 69, 3) := by decide +kernel
theorem dX12_purse_8 : decode cX12_purse 8 = .ok (.ifCond .eq 16, 3) := by decide +kernel
theorem dX12_purse_11 : decode cX12_purse 11 = .ok (.aload_n 0, 1) := by decide +kernel
theorem dX12_purse_12 : decode cX12_purse 12 = .ok (.getfield 8, 3) := by decide +kernel
theorem dX12_purse_15 : decode cX12_purse 15 = .ok (.sipush 192, 3) := by decide +kernel
theorem dX12_purse_18 : decode cX12_purse 18 = .ok (.iload_n 2, 1) := by decide +kernel
theorem dX12_purse_19 : decode cX12_purse 19 = .ok (.iadd, 1) := by decide +kernel
theorem dX12_purse_20 : decode cX12_purse 20 = .ok (.iaload, 1) := by decide +kernel
theorem dX12_purse_21 : decode cX12_purse 21 = .ok (.goto 4, 3) := by decide +kernel
theorem dX12_purse_24 : decode cX12_purse 24 = .ok (.iconst (-1), 1) := by decide +kernel
theorem dX12_purse_25 : decode cX12_purse 25 = .ok (.ireturn, 1) := by decide +kernel
theorem dX12_purse_26 : decode cX12_purse 26 = .ok (.iload_n 1, 1) := by decide +kernel
theorem dX12_purse_27 : decode cX12_purse 27 = .ok (.iconst 1, 1) := by decide +kernel
theorem dX12_purse_28 : decode cX12_purse 28 = .ok (.if_icmp .ne 28, 3) := by decide +kernel
theorem dX12_purse_31 : decode cX12_purse 31 = .ok (.aload_n 0, 1) := by decide +kernel
theorem dX12_purse_32 : decode cX12_purse 32 = .ok (.iload_n 2, 1) := by decide +kernel
theorem dX12_purse_33 : decode cX12_purse 33 = .ok (.invokevirtual 241, 3) := by decide +kernel
theorem dX12_purse_36 : decode cX12_purse 36 = .ok (.ifCond .eq 20, 3) := by decide +kernel
theorem dX12_purse_39 : decode cX12_purse 39 = .ok (.aload_n 0, 1) := by decide +kernel
theorem dX12_purse_40 : decode cX12_purse 40 = .ok (.getfield 8, 3) := by decide +kernel
theorem dX12_purse_43 : decode cX12_purse 43 = .ok (.sipush 11502, 3) := by decide +kernel
theorem dX12_purse_46 : decode cX12_purse 46 = .ok (.aload_n 0, 1) := by decide +kernel
theorem dX12_purse_47 : decode cX12_purse 47 = .ok (.iload_n 2, 1) := by decide +kernel
theorem dX12_purse_48 : decode cX12_purse 48 = .ok (.invokevirtual 238, 3) := by decide +kernel
theorem dX12_purse_51 : decode cX12_purse 51 = .ok (.iadd, 1) := by decide +kernel
theorem dX12_purse_52 : decode cX12_purse 52 = .ok (.iaload, 1) := by decide +kernel
theorem dX12_purse_53 : decode cX12_purse 53 = .ok (.goto 4, 3) := by decide +kernel
theorem dX12_purse_56 : decode cX12_purse 56 = .ok (.iconst (-1), 1) := by decide +kernel
theorem dX12_purse_57 : decode cX12_purse 57 = .ok (.ireturn, 1) := by decide +kernel
theorem cm_X12_purse : CM yX12_purse cX12_purse 3 (some .int) 2 12 := ⟨w_1786, w_1787, w_1788, w_97, ⟨by decide +kernel, by decide +kernel, by decide +kernel⟩, ⟨_, _, rfl⟩, by decide⟩
noncomputable def f_X12_purse_57 (n : Nat)  (s0 : Int) (h : MM) : RR :=
  some (s0, h)
noncomputable def f_X12_purse_56 (n : Nat)  (h : MM) : RR :=
  f_X12_purse_57 n ((-1)) h
noncomputable def f_X12_purse_25 (n : Nat)  (s0 : Int) (h : MM) : RR :=
  some (s0, h)
noncomputable def f_X12_purse (n : Nat) (v0 v1 v2 : Int) (h : MM) : RR :=
  if v1 = 0 then
    bd (f_X12_isHolder n v2 h) fun r8 h8 =>
    if r8 = 0 then
      f_X12_purse_25 n ((-1)) h8
    else
    gf h8 v0 12 1 fun r10 =>
    rd h8 r10 100 (wr (192 + v2)) fun r11 =>
    f_X12_purse_25 n r11 h8
  else
  if v1 = 1 then
    gk h v0 12 <|
    bd (f_X12_isScheme n v0 v2 h) fun r3 h3 =>
    if r3 = 0 then
      f_X12_purse_56 n h3
    else
    gf h3 v0 12 1 fun r5 =>
    gk h3 v0 12 <|
    bd (f_X12_indexOf n v0 v2 h3) fun r6 h6 =>
    rd h6 r5 100 (wr (11502 + r6)) fun r7 =>
    f_X12_purse_57 n r7 h6
  else
  f_X12_purse_56 n h
set_option maxRecDepth 20000 in
theorem b_X12_purse_57 {g : GT} {Z : Int × MM} {n : Nat} (C : Cx g cX12_purse 3 yX12_purse 4 86) (hr : Rt g (some .int) 0 Z) {s0 : Int}    (cs0 : in32 s0) {h : MM} (hf : f_X12_purse_57 n  s0 h = some Z) : G g 57 [(3, 0), (3, 0), (3, 0)] [(0, s0)] h := by
  unfold f_X12_purse_57 at hf
  cases hf
  exact r_jret C hr dX12_purse_57 cs0
set_option maxRecDepth 20000 in
theorem b_X12_purse_56 {g : GT} {Z : Int × MM} {n : Nat} (C : Cx g cX12_purse 3 yX12_purse 4 86) (hr : Rt g (some .int) 0 Z)     {h : MM} (hf : f_X12_purse_56 n   h = some Z) : G g 56 [(3, 0), (3, 0), (3, 0)] [] h := by
  unfold f_X12_purse_56 at hf
  refine r_iconst C dX12_purse_56 ?_
  exact G.mask [false, false, false] rfl rfl (b_X12_purse_57 C hr  (in32_of rfl) hf)
set_option maxRecDepth 20000 in
theorem b_X12_purse_25 {g : GT} {Z : Int × MM} {n : Nat} (C : Cx g cX12_purse 3 yX12_purse 4 86) (hr : Rt g (some .int) 0 Z) {s0 : Int}    (cs0 : in32 s0) {h : MM} (hf : f_X12_purse_25 n  s0 h = some Z) : G g 25 [(3, 0), (3, 0), (3, 0)] [(0, s0)] h := by
  unfold f_X12_purse_25 at hf
  cases hf
  exact r_jret C hr dX12_purse_25 cs0
set_option maxRecDepth 20000 in
theorem e_X12_purse {g : GT} {Z : Int × MM} {n : Nat} (C : Cx g cX12_purse 3 yX12_purse 4 86) (hr : Rt g (some .int) 0 Z) {v0 v1 v2 : Int} (cv0 : cK 2 v0) (cv1 : cK 0 v1) (cv2 : cK 0 v2) {h : MM} (hf : f_X12_purse n v0 v1 v2 h = some Z) : G g 0 [(2, v0), (0, v1), (0, v2)] [] h := by
  have cv1 : in32 v1 := cv1
  have cv2 : in32 v2 := cv2
  unfold f_X12_purse at hf
  refine r_iload_n C dX12_purse_0 rfl ?_
  refine r_if_ne C dX12_purse_1 (tgt := 26) (by decide) cv1 (fun n1 => ?_) (fun n1 => ?_)
  · have hf := ite_n n1 hf
    refine r_iload_n C dX12_purse_26 rfl ?_
    refine r_iconst C dX12_purse_27 ?_
    refine r_icmp_ne C dX12_purse_28 (tgt := 56) (by decide) cv1 (in32_of rfl) (fun n2 => ?_) (fun n2 => ?_)
    · have hf := ite_n n2 hf
      exact G.mask [false, false, false] rfl rfl (b_X12_purse_56 C hr   hf)
    · have hf := ite_p n2 hf
      refine r_aload_n C dX12_purse_31 rfl ?_
      refine r_iload_n C dX12_purse_32 rfl ?_
      obtain ⟨p3, hf⟩ := gk_s hf
      obtain ⟨r3, h3, hq3, hf⟩ := bd_s hf
      refine r_cV1 C (am_X12_isScheme (gl g) n) cm_X12_isScheme w_1765 dX12_purse_33 ⟨Nat.le_of_ble_eq_true rfl, Nat.le_of_ble_eq_true rfl⟩ p3 rfl cv2 rfl (Nat.le_of_ble_eq_true rfl) hq3 (by decide) (fun c3 => ?_)
      have c3 : in32 _ := c3
      refine r_if_eq C dX12_purse_36 (tgt := 56) (by decide) c3 (fun n4 => ?_) (fun n4 => ?_)
      · have hf := ite_p n4 hf
        exact G.mask [false, false, false] rfl rfl (b_X12_purse_56 C hr   hf)
      · have hf := ite_n n4 hf
        refine r_aload_n C dX12_purse_39 rfl ?_
        obtain ⟨q5, hf⟩ := gf_s hf
        refine r_gf C ct12 (j := 1) (ji := 1) dX12_purse_40 q5 rfl rfl (by decide) w_1426 rfl (fun c5 => ?_)
        refine r_sipush C dX12_purse_43 rfl ?_
        refine r_aload_n C dX12_purse_46 rfl ?_
        refine r_iload_n C dX12_purse_47 rfl ?_
        obtain ⟨p6, hf⟩ := gk_s hf
        obtain ⟨r6, h6, hq6, hf⟩ := bd_s hf
        refine r_cV1 C (am_X12_indexOf (gl g) n) cm_X12_indexOf w_1777 dX12_purse_48 ⟨Nat.le_of_ble_eq_true rfl, Nat.le_of_ble_eq_true rfl⟩ p6 rfl cv2 rfl (Nat.le_of_ble_eq_true rfl) hq6 (by decide) (fun c6 => ?_)
        have c6 : in32 _ := c6
        refine r_iadd C dX12_purse_51 ?_
        obtain ⟨q7, hf⟩ := rd_s hf
        refine r_iald C dX12_purse_52 q7 rfl (fun c7 => ?_)
        refine r_goto C dX12_purse_53 (tgt := 57) (by decide) ?_
        exact G.mask [false, false, false] rfl rfl (b_X12_purse_57 C hr  c7 hf)
  · have hf := ite_p n1 hf
    refine r_iload_n C dX12_purse_4 rfl ?_
    obtain ⟨r8, h8, hq8, hf⟩ := bd_s hf
    refine r_cS1 C (am_X12_isHolder (gl g) n) cm_X12_isHolder w_1507 dX12_purse_5 ⟨Nat.le_of_ble_eq_true rfl, Nat.le_of_ble_eq_true rfl⟩ cv2 rfl (Nat.le_of_ble_eq_true rfl) hq8 (by decide) (fun c8 => ?_)
    have c8 : in32 _ := c8
    refine r_if_eq C dX12_purse_8 (tgt := 24) (by decide) c8 (fun n9 => ?_) (fun n9 => ?_)
    · have hf := ite_p n9 hf
      refine r_iconst C dX12_purse_24 ?_
      exact G.mask [false, false, false] rfl rfl (b_X12_purse_25 C hr  (in32_of rfl) hf)
    · have hf := ite_n n9 hf
      refine r_aload_n C dX12_purse_11 rfl ?_
      obtain ⟨q10, hf⟩ := gf_s hf
      refine r_gf C ct12 (j := 1) (ji := 1) dX12_purse_12 q10 rfl rfl (by decide) w_1426 rfl (fun c10 => ?_)
      refine r_sipush C dX12_purse_15 rfl ?_
      refine r_iload_n C dX12_purse_18 rfl ?_
      refine r_iadd C dX12_purse_19 ?_
      obtain ⟨q11, hf⟩ := rd_s hf
      refine r_iald C dX12_purse_20 q11 rfl (fun c11 => ?_)
      refine r_goto C dX12_purse_21 (tgt := 25) (by decide) ?_
      exact G.mask [false, false, false] rfl rfl (b_X12_purse_25 C hr  c11 hf)
set_option maxRecDepth 20000 in
theorem am_X12_purse (l : Launch) (n : Nat) : AM l yX12_purse cX12_purse 3 (some .int) 4 86 [2, 0, 0] 0 (un3 (f_X12_purse n)) := by
  refine AM.intro (by decide) (fun xs hx => ?_) (fun g xs h Z hl C hr hx hf => ?_)
  · obtain ⟨a0, a1, a2, rfl, c0, c1, c2⟩ := canL_3 hx
    exact Nat.le_of_ble_eq_true rfl
  · obtain ⟨a0, a1, a2, rfl, c0, c1, c2⟩ := canL_3 hx
    have hf := (un3_e _ a0 a1 a2 _).symm.trans hf
    exact e_X12_purse (n := n) C hr c0 c1 c2 hf
/-! LinesPromisedModel.ask(IIIIZ)I -/
theorem dX12_ask_0 : decode cX12_ask 0 = .ok (.aload_n 0, 1) := by decide +kernel
theorem dX12_ask_1 : decode cX12_ask 1 = .ok (.iload_n 1, 1) := by decide +kernel
theorem dX12_ask_2 : decode cX12_ask 2 = .ok (.invokevirtual 241, 3) := by decide +kernel
theorem dX12_ask_5 : decode cX12_ask 5 = .ok (.ifCond .eq 10, 3) := by decide +kernel
theorem dX12_ask_8 : decode cX12_ask 8 = .ok (.iload_n 2, 1) := by decide +kernel
theorem dX12_ask_9 : decode cX12_ask 9 = .ok (.invokestatic 69, 3) := by decide +kernel
theorem dX12_ask_12 : decode cX12_ask 12 = .ok (.ifCond .ne 5, 3) := by decide +kernel
theorem dX12_ask_15 : decode cX12_ask 15 = .ok (.iconst (-1), 1) := by decide +kernel
theorem dX12_ask_16 : decode cX12_ask 16 = .ok (.ireturn, 1) := by decide +kernel
theorem dX12_ask_17 : decode cX12_ask 17 = .ok (.iload_n 3, 1) := by decide +kernel
theorem dX12_ask_18 : decode cX12_ask 18 = .ok (.iconst 1, 1) := by decide +kernel
theorem dX12_ask_19 : decode cX12_ask 19 = .ok (.bipush 99, 2) := by decide +kernel
theorem dX12_ask_21 : decode cX12_ask 21 = .ok (.invokestatic 58, 3) := by decide +kernel
theorem dX12_ask_24 : decode cX12_ask 24 = .ok (.ifCond .eq 15, 3) := by decide +kernel
theorem dX12_ask_27 : decode cX12_ask 27 = .ok (.iload 4, 2) := by decide +kernel
theorem dX12_ask_29 : decode cX12_ask 29 = .ok (.iconst 1, 1) := by decide +kernel
theorem dX12_ask_30 : decode cX12_ask 30 = .ok (.sipush 999, 3) := by decide +kernel
theorem dX12_ask_33 : decode cX12_ask 33 = .ok (.invokestatic 58, 3) := by decide +kernel
theorem dX12_ask_36 : decode cX12_ask 36 = .ok (.ifCond .ne 6, 3) := by decide +kernel
theorem dX12_ask_39 : decode cX12_ask 39 = .ok (.bipush (-2), 2) := by decide +kernel
theorem dX12_ask_41 : decode cX12_ask 41 = .ok (.ireturn, 1) := by decide +kernel
theorem dX12_ask_42 : decode cX12_ask 42 = .ok (.aload_n 0, 1) := by decide +kernel
theorem dX12_ask_43 : decode cX12_ask 43 = .ok (.getfield 8, 3) := by decide +kernel
theorem dX12_ask_46 : decode cX12_ask 46 = .ok (.bipush 8, 2) := by decide +kernel
theorem dX12_ask_48 : decode cX12_ask 48 = .ok (.iaload, 1) := by decide +kernel
theorem dX12_ask_49 : decode cX12_ask 49 = .ok (.bipush 40, 2) := by decide +kernel
theorem dX12_ask_51 : decode cX12_ask 51 = .ok (.if_icmp .ne 6, 3) := by decide +kernel
theorem dX12_ask_54 : decode cX12_ask 54 = .ok (.bipush (-4), 2) := by decide +kernel
theorem dX12_ask_56 : decode cX12_ask 56 = .ok (.ireturn, 1) := by decide +kernel
theorem dX12_ask_57 : decode cX12_ask 57 = .ok (.aload_n 0, 1) := by decide +kernel
theorem dX12_ask_58 : decode cX12_ask 58 = .ok (.getfield 8, 3) := by decide +kernel
theorem dX12_ask_61 : decode cX12_ask 61 = .ok (.bipush 8, 2) := by decide +kernel
theorem dX12_ask_63 : decode cX12_ask 63 = .ok (.iaload, 1) := by decide +kernel
theorem dX12_ask_64 : decode cX12_ask 64 = .ok (.istore 6, 2) := by decide +kernel
theorem dX12_ask_66 : decode cX12_ask 66 = .ok (.aload_n 0, 1) := by decide +kernel
theorem dX12_ask_67 : decode cX12_ask 67 = .ok (.getfield 8, 3) := by decide +kernel
theorem dX12_ask_70 : decode cX12_ask 70 = .ok (.sipush 11640, 3) := by decide +kernel
theorem dX12_ask_73 : decode cX12_ask 73 = .ok (.iload 6, 2) := by decide +kernel
theorem dX12_ask_75 : decode cX12_ask 75 = .ok (.iadd, 1) := by decide +kernel
theorem dX12_ask_76 : decode cX12_ask 76 = .ok (.iload_n 1, 1) := by decide +kernel
theorem dX12_ask_77 : decode cX12_ask 77 = .ok (.iastore, 1) := by decide +kernel
theorem dX12_ask_78 : decode cX12_ask 78 = .ok (.aload_n 0, 1) := by decide +kernel
theorem dX12_ask_79 : decode cX12_ask 79 = .ok (.getfield 8, 3) := by decide +kernel
theorem dX12_ask_82 : decode cX12_ask 82 = .ok (.sipush 11680, 3) := by decide +kernel
theorem dX12_ask_85 : decode cX12_ask 85 = .ok (.iload 6, 2) := by decide +kernel
theorem dX12_ask_87 : decode cX12_ask 87 = .ok (.iadd, 1) := by decide +kernel
theorem dX12_ask_88 : decode cX12_ask 88 = .ok (.iload_n 2, 1) := by decide +kernel
theorem dX12_ask_89 : decode cX12_ask 89 = .ok (.iastore, 1) := by decide +kernel
theorem dX12_ask_90 : decode cX12_ask 90 = .ok (.aload_n 0, 1) := by decide +kernel
theorem dX12_ask_91 : decode cX12_ask 91 = .ok (.getfield 8, 3) := by decide +kernel
theorem dX12_ask_94 : decode cX12_ask 94 = .ok (.sipush 11720, 3) := by decide +kernel
theorem dX12_ask_97 : decode cX12_ask 97 = .ok (.iload 6, 2) := by decide +kernel
theorem dX12_ask_99 : decode cX12_ask 99 = .ok (.iadd, 1) := by decide +kernel
theorem dX12_ask_100 : decode cX12_ask 100 = .ok (.iload_n 3, 1) := by decide +kernel
theorem dX12_ask_101 : decode cX12_ask 101 = .ok (.iastore, 1) := by decide +kernel
theorem dX12_ask_102 : decode cX12_ask 102 = .ok (.aload_n 0, 1) := by decide +kernel
theorem dX12_ask_103 : decode cX12_ask 103 = .ok (.getfield 8, 3) := by decide +kernel
theorem dX12_ask_106 : decode cX12_ask 106 = .ok (.sipush 11760, 3) := by decide +kernel
theorem dX12_ask_109 : decode cX12_ask 109 = .ok (.iload 6, 2) := by decide +kernel
theorem dX12_ask_111 : decode cX12_ask 111 = .ok (.iadd, 1) := by decide +kernel
theorem dX12_ask_112 : decode cX12_ask 112 = .ok (.iload 4, 2) := by decide +kernel
theorem dX12_ask_114 : decode cX12_ask 114 = .ok (.iastore, 1) := by decide +kernel
theorem dX12_ask_115 : decode cX12_ask 115 = .ok (.aload_n 0, 1) := by decide +kernel
theorem dX12_ask_116 : decode cX12_ask 116 = .ok (.getfield 8, 3) := by decide +kernel
theorem dX12_ask_119 : decode cX12_ask 119 = .ok (.sipush 11800, 3) := by decide +kernel
theorem dX12_ask_122 : decode cX12_ask 122 = .ok (.iload 6, 2) := by decide +kernel
theorem dX12_ask_124 : decode cX12_ask 124 = .ok (.iadd, 1) := by decide +kernel
theorem dX12_ask_125 : decode cX12_ask 125 = .ok (.iload 5, 2) := by decide +kernel
theorem dX12_ask_127 : decode cX12_ask 127 = .ok (.ifCond .eq 7, 3) := by decide +kernel
theorem dX12_ask_130 : decode cX12_ask 130 = .ok (.iconst 1, 1) := by decide +kernel
theorem dX12_ask_131 : decode cX12_ask 131 = .ok (.goto 4, 3) := by decide +kernel
theorem dX12_ask_134 : decode cX12_ask 134 = .ok (.iconst 0, 1) := by decide +kernel
theorem dX12_ask_135 : decode cX12_ask 135 = .ok (.iastore, 1) := by decide +kernel
theorem dX12_ask_136 : decode cX12_ask 136 = .ok (.aload_n 0, 1) := by decide +kernel
theorem dX12_ask_137 : decode cX12_ask 137 = .ok (.getfield 8, 3) := by decide +kernel
theorem dX12_ask_140 : decode cX12_ask 140 = .ok (.bipush 8, 2) := by decide +kernel
theorem dX12_ask_142 : decode cX12_ask 142 = .ok (.dup2, 1) := by decide +kernel
theorem dX12_ask_143 : decode cX12_ask 143 = .ok (.iaload, 1) := by decide +kernel
theorem dX12_ask_144 : decode cX12_ask 144 = .ok (.iconst 1, 1) := by decide +kernel
theorem dX12_ask_145 : decode cX12_ask 145 = .ok (.iadd, 1) := by decide +kernel
theorem dX12_ask_146 : decode cX12_ask 146 = .ok (.iastore, 1) := by decide +kernel
theorem dX12_ask_147 : decode cX12_ask 147 = .ok (.aload_n 0, 1) := by decide +kernel
theorem dX12_ask_148 : decode cX12_ask 148 = .ok (.getfield 8, 3) := by decide +kernel
theorem dX12_ask_151 : decode cX12_ask 151 = .ok (.bipush 8, 2) := by decide +kernel
theorem dX12_ask_153 : decode cX12_ask 153 = .ok (.iaload, 1) := by decide +kernel
theorem dX12_ask_154 : decode cX12_ask 154 = .ok (.ireturn, 1) := by decide +kernel
theorem cm_X12_ask : CM yX12_ask cX12_ask 7 (some .int) 5 12 := ⟨w_1790, w_1791, w_1792, w_97, ⟨by decide +kernel, by decide +kernel, by decide +kernel⟩, ⟨_, _, rfl⟩, by decide⟩
noncomputable def f_X12_ask_15 (n : Nat)  (h : MM) : RR :=
  some ((-1), h)
noncomputable def f_X12_ask_39 (n : Nat)  (h : MM) : RR :=
  some ((-2), h)
noncomputable def f_X12_ask_135 (n : Nat)  (v0 s0 s1 s2 : Int) (h : MM) : RR :=
  wt h s0 100 s1 s2 fun h1 =>
  gf h1 v0 12 1 fun r2 =>
  rd h1 r2 100 8 fun r3 =>
  wt h1 r2 100 8 (wr (r3 + 1)) fun h4 =>
  gf h4 v0 12 1 fun r5 =>
  rd h4 r5 100 8 fun r6 =>
  some (r6, h4)
noncomputable def f_X12_ask (n : Nat) (v0 v1 v2 v3 v4 v5 : Int) (h : MM) : RR :=
  gk h v0 12 <|
  bd (f_X12_isScheme n v0 v1 h) fun r1 h1 =>
  if r1 = 0 then
    f_X12_ask_15 n h1
  else
  bd (f_X12_isHolder n v2 h1) fun r3 h3 =>
  if r3 = 0 then
    f_X12_ask_15 n h3
  else
  bd (f_X12_in n v3 1 99 h3) fun r5 h5 =>
  if r5 = 0 then
    f_X12_ask_39 n h5
  else
  bd (f_X12_in n v4 1 999 h5) fun r7 h7 =>
  if r7 = 0 then
    f_X12_ask_39 n h7
  else
  gf h7 v0 12 1 fun r9 =>
  rd h7 r9 100 8 fun r10 =>
  if r10 = 40 then
    some ((-4), h7)
  else
  gf h7 v0 12 1 fun r12 =>
  rd h7 r12 100 8 fun r13 =>
  gf h7 v0 12 1 fun r14 =>
  wt h7 r14 100 (wr (11640 + r13)) v1 fun h15 =>
  gf h15 v0 12 1 fun r16 =>
  wt h15 r16 100 (wr (11680 + r13)) v2 fun h17 =>
  gf h17 v0 12 1 fun r18 =>
  wt h17 r18 100 (wr (11720 + r13)) v3 fun h19 =>
  gf h19 v0 12 1 fun r20 =>
  wt h19 r20 100 (wr (11760 + r13)) v4 fun h21 =>
  gf h21 v0 12 1 fun r22 =>
  if v5 = 0 then
    f_X12_ask_135 n v0 r22 (wr (11800 + r13)) 0 h21
  else
  f_X12_ask_135 n v0 r22 (wr (11800 + r13)) 1 h21
set_option maxRecDepth 20000 in
theorem b_X12_ask_15 {g : GT} {Z : Int × MM} {n : Nat} (C : Cx g cX12_ask 7 yX12_ask 4 86) (hr : Rt g (some .int) 0 Z)     {h : MM} (hf : f_X12_ask_15 n   h = some Z) : G g 15 [(3, 0), (3, 0), (3, 0), (3, 0), (3, 0), (3, 0), (3, 0)] [] h := by
  unfold f_X12_ask_15 at hf
  refine r_iconst C dX12_ask_15 ?_
  cases hf
  exact r_jret C hr dX12_ask_16 (in32_of rfl)
set_option maxRecDepth 20000 in
theorem b_X12_ask_39 {g : GT} {Z : Int × MM} {n : Nat} (C : Cx g cX12_ask 7 yX12_ask 4 86) (hr : Rt g (some .int) 0 Z)     {h : MM} (hf : f_X12_ask_39 n   h = some Z) : G g 39 [(3, 0), (3, 0), (3, 0), (3, 0), (3, 0), (3, 0), (3, 0)] [] h := by
  unfold f_X12_ask_39 at hf
  refine r_bipush C dX12_ask_39 rfl ?_
  cases hf
  exact r_jret C hr dX12_ask_41 (in32_of rfl)
set_option maxRecDepth 20000 in
theorem b_X12_ask_135 {g : GT} {Z : Int × MM} {n : Nat} (C : Cx g cX12_ask 7 yX12_ask 4 86) (hr : Rt g (some .int) 0 Z) {v0 s0 s1 s2 : Int}    (cs1 : in32 s1) (cs2 : in32 s2) {h : MM} (hf : f_X12_ask_135 n  v0 s0 s1 s2 h = some Z) : G g 135 [(2, v0), (3, 0), (3, 0), (3, 0), (3, 0), (3, 0), (3, 0)] [(0, s2), (0, s1), (2, s0)] h := by
  unfold f_X12_ask_135 at hf
  obtain ⟨q1, hf⟩ := wt_s hf
  refine r_iast C dX12_ask_135 q1 rfl cs2 ?_
  refine r_aload_n C dX12_ask_136 rfl ?_
  obtain ⟨q2, hf⟩ := gf_s hf
  refine r_gf C ct12 (j := 1) (ji := 1) dX12_ask_137 q2 rfl rfl (by decide) w_1426 rfl (fun c2 => ?_)
  refine r_bipush C dX12_ask_140 rfl ?_
  refine r_dup2 C dX12_ask_142 (by decide) (by decide) ?_
  obtain ⟨q3, hf⟩ := rd_s hf
  refine r_iald C dX12_ask_143 q3 rfl (fun c3 => ?_)
  refine r_iconst C dX12_ask_144 ?_
  refine r_iadd C dX12_ask_145 ?_
  obtain ⟨q4, hf⟩ := wt_s hf
  refine r_iast C dX12_ask_146 q4 rfl (in32_t _) ?_
  refine r_aload_n C dX12_ask_147 rfl ?_
  obtain ⟨q5, hf⟩ := gf_s hf
  refine r_gf C ct12 (j := 1) (ji := 1) dX12_ask_148 q5 rfl rfl (by decide) w_1426 rfl (fun c5 => ?_)
  refine r_bipush C dX12_ask_151 rfl ?_
  obtain ⟨q6, hf⟩ := rd_s hf
  refine r_iald C dX12_ask_153 q6 rfl (fun c6 => ?_)
  cases hf
  exact r_jret C hr dX12_ask_154 c6
set_option maxRecDepth 20000 in
theorem e_X12_ask {g : GT} {Z : Int × MM} {n : Nat} (C : Cx g cX12_ask 7 yX12_ask 4 86) (hr : Rt g (some .int) 0 Z) {v0 v1 v2 v3 v4 v5 : Int} (cv0 : cK 2 v0) (cv1 : cK 0 v1) (cv2 : cK 0 v2) (cv3 : cK 0 v3) (cv4 : cK 0 v4) (cv5 : cK 0 v5) {h : MM} (hf : f_X12_ask n v0 v1 v2 v3 v4 v5 h = some Z) : G g 0 [(2, v0), (0, v1), (0, v2), (0, v3), (0, v4), (0, v5), (3, 0)] [] h := by
  have cv1 : in32 v1 := cv1
  have cv2 : in32 v2 := cv2
  have cv3 : in32 v3 := cv3
  have cv4 : in32 v4 := cv4
  have cv5 : in32 v5 := cv5
  unfold f_X12_ask at hf
  refine r_aload_n C dX12_ask_0 rfl ?_
  refine r_iload_n C dX12_ask_1 rfl ?_
  obtain ⟨p1, hf⟩ := gk_s hf
  obtain ⟨r1, h1, hq1, hf⟩ := bd_s hf
  refine r_cV1 C (am_X12_isScheme (gl g) n) cm_X12_isScheme w_1765 dX12_ask_2 ⟨Nat.le_of_ble_eq_true rfl, Nat.le_of_ble_eq_true rfl⟩ p1 rfl cv1 rfl (Nat.le_of_ble_eq_true rfl) hq1 (by decide) (fun c1 => ?_)
  have c1 : in32 _ := c1
  refine r_if_eq C dX12_ask_5 (tgt := 15) (by decide) c1 (fun n2 => ?_) (fun n2 => ?_)
  · have hf := ite_p n2 hf
    exact G.mask [false, false, false, false, false, false, false] rfl rfl (b_X12_ask_15 C hr   hf)
  · have hf := ite_n n2 hf
    refine r_iload_n C dX12_ask_8 rfl ?_
    obtain ⟨r3, h3, hq3, hf⟩ := bd_s hf
    refine r_cS1 C (am_X12_isHolder (gl g) n) cm_X12_isHolder w_1507 dX12_ask_9 ⟨Nat.le_of_ble_eq_true rfl, Nat.le_of_ble_eq_true rfl⟩ cv2 rfl (Nat.le_of_ble_eq_true rfl) hq3 (by decide) (fun c3 => ?_)
    have c3 : in32 _ := c3
    refine r_if_ne C dX12_ask_12 (tgt := 17) (by decide) c3 (fun n4 => ?_) (fun n4 => ?_)
    · have hf := ite_n n4 hf
      refine r_iload_n C dX12_ask_17 rfl ?_
      refine r_iconst C dX12_ask_18 ?_
      refine r_bipush C dX12_ask_19 rfl ?_
      obtain ⟨r5, h5, hq5, hf⟩ := bd_s hf
      refine r_cS3 C (am_X12_in (gl g) n) cm_X12_in w_1496 dX12_ask_21 ⟨Nat.le_of_ble_eq_true rfl, Nat.le_of_ble_eq_true rfl⟩ cv3 (in32_of rfl) (in32_of rfl) rfl (Nat.le_of_ble_eq_true rfl) hq5 (by decide) (fun c5 => ?_)
      have c5 : in32 _ := c5
      refine r_if_eq C dX12_ask_24 (tgt := 39) (by decide) c5 (fun n6 => ?_) (fun n6 => ?_)
      · have hf := ite_p n6 hf
        exact G.mask [false, false, false, false, false, false, false] rfl rfl (b_X12_ask_39 C hr   hf)
      · have hf := ite_n n6 hf
        refine r_iload C dX12_ask_27 rfl ?_
        refine r_iconst C dX12_ask_29 ?_
        refine r_sipush C dX12_ask_30 rfl ?_
        obtain ⟨r7, h7, hq7, hf⟩ := bd_s hf
        refine r_cS3 C (am_X12_in (gl g) n) cm_X12_in w_1496 dX12_ask_33 ⟨Nat.le_of_ble_eq_true rfl, Nat.le_of_ble_eq_true rfl⟩ cv4 (in32_of rfl) (in32_of rfl) rfl (Nat.le_of_ble_eq_true rfl) hq7 (by decide) (fun c7 => ?_)
        have c7 : in32 _ := c7
        refine r_if_ne C dX12_ask_36 (tgt := 42) (by decide) c7 (fun n8 => ?_) (fun n8 => ?_)
        · have hf := ite_n n8 hf
          refine r_aload_n C dX12_ask_42 rfl ?_
          obtain ⟨q9, hf⟩ := gf_s hf
          refine r_gf C ct12 (j := 1) (ji := 1) dX12_ask_43 q9 rfl rfl (by decide) w_1426 rfl (fun c9 => ?_)
          refine r_bipush C dX12_ask_46 rfl ?_
          obtain ⟨q10, hf⟩ := rd_s hf
          refine r_iald C dX12_ask_48 q10 rfl (fun c10 => ?_)
          refine r_bipush C dX12_ask_49 rfl ?_
          refine r_icmp_ne C dX12_ask_51 (tgt := 57) (by decide) c10 (in32_of rfl) (fun n11 => ?_) (fun n11 => ?_)
          · have hf := ite_n n11 hf
            refine r_aload_n C dX12_ask_57 rfl ?_
            obtain ⟨q12, hf⟩ := gf_s hf
            refine r_gf C ct12 (j := 1) (ji := 1) dX12_ask_58 q12 rfl rfl (by decide) w_1426 rfl (fun c12 => ?_)
            refine r_bipush C dX12_ask_61 rfl ?_
            obtain ⟨q13, hf⟩ := rd_s hf
            refine r_iald C dX12_ask_63 q13 rfl (fun c13 => ?_)
            refine r_istore C dX12_ask_64 (Nat.le_of_ble_eq_true rfl) rfl ?_
            refine r_aload_n C dX12_ask_66 rfl ?_
            obtain ⟨q14, hf⟩ := gf_s hf
            refine r_gf C ct12 (j := 1) (ji := 1) dX12_ask_67 q14 rfl rfl (by decide) w_1426 rfl (fun c14 => ?_)
            refine r_sipush C dX12_ask_70 rfl ?_
            refine r_iload C dX12_ask_73 rfl ?_
            refine r_iadd C dX12_ask_75 ?_
            refine r_iload_n C dX12_ask_76 rfl ?_
            obtain ⟨q15, hf⟩ := wt_s hf
            refine r_iast C dX12_ask_77 q15 rfl cv1 ?_
            refine r_aload_n C dX12_ask_78 rfl ?_
            obtain ⟨q16, hf⟩ := gf_s hf
            refine r_gf C ct12 (j := 1) (ji := 1) dX12_ask_79 q16 rfl rfl (by decide) w_1426 rfl (fun c16 => ?_)
            refine r_sipush C dX12_ask_82 rfl ?_
            refine r_iload C dX12_ask_85 rfl ?_
            refine r_iadd C dX12_ask_87 ?_
            refine r_iload_n C dX12_ask_88 rfl ?_
            obtain ⟨q17, hf⟩ := wt_s hf
            refine r_iast C dX12_ask_89 q17 rfl cv2 ?_
            refine r_aload_n C dX12_ask_90 rfl ?_
            obtain ⟨q18, hf⟩ := gf_s hf
            refine r_gf C ct12 (j := 1) (ji := 1) dX12_ask_91 q18 rfl rfl (by decide) w_1426 rfl (fun c18 => ?_)
            refine r_sipush C dX12_ask_94 rfl ?_
            refine r_iload C dX12_ask_97 rfl ?_
            refine r_iadd C dX12_ask_99 ?_
            refine r_iload_n C dX12_ask_100 rfl ?_
            obtain ⟨q19, hf⟩ := wt_s hf
            refine r_iast C dX12_ask_101 q19 rfl cv3 ?_
            refine r_aload_n C dX12_ask_102 rfl ?_
            obtain ⟨q20, hf⟩ := gf_s hf
            refine r_gf C ct12 (j := 1) (ji := 1) dX12_ask_103 q20 rfl rfl (by decide) w_1426 rfl (fun c20 => ?_)
            refine r_sipush C dX12_ask_106 rfl ?_
            refine r_iload C dX12_ask_109 rfl ?_
            refine r_iadd C dX12_ask_111 ?_
            refine r_iload C dX12_ask_112 rfl ?_
            obtain ⟨q21, hf⟩ := wt_s hf
            refine r_iast C dX12_ask_114 q21 rfl cv4 ?_
            refine r_aload_n C dX12_ask_115 rfl ?_
            obtain ⟨q22, hf⟩ := gf_s hf
            refine r_gf C ct12 (j := 1) (ji := 1) dX12_ask_116 q22 rfl rfl (by decide) w_1426 rfl (fun c22 => ?_)
            refine r_sipush C dX12_ask_119 rfl ?_
            refine r_iload C dX12_ask_122 rfl ?_
            refine r_iadd C dX12_ask_124 ?_
            refine r_iload C dX12_ask_125 rfl ?_
            refine r_if_eq C dX12_ask_127 (tgt := 134) (by decide) cv5 (fun n23 => ?_) (fun n23 => ?_)
            · have hf := ite_p n23 hf
              refine r_iconst C dX12_ask_134 ?_
              exact G.mask [true, false, false, false, false, false, false] rfl rfl (b_X12_ask_135 C hr  (in32_t _) (in32_of rfl) hf)
            · have hf := ite_n n23 hf
              refine r_iconst C dX12_ask_130 ?_
              refine r_goto C dX12_ask_131 (tgt := 135) (by decide) ?_
              exact G.mask [true, false, false, false, false, false, false] rfl rfl (b_X12_ask_135 C hr  (in32_t _) (in32_of rfl) hf)
          · have hf := ite_p n11 hf
            refine r_bipush C dX12_ask_54 rfl ?_
            cases hf
            exact r_jret C hr dX12_ask_56 (in32_of rfl)
        · have hf := ite_p n8 hf
          exact G.mask [false, false, false, false, false, false, false] rfl rfl (b_X12_ask_39 C hr   hf)
    · have hf := ite_p n4 hf
      exact G.mask [false, false, false, false, false, false, false] rfl rfl (b_X12_ask_15 C hr   hf)
set_option maxRecDepth 20000 in
theorem am_X12_ask (l : Launch) (n : Nat) : AM l yX12_ask cX12_ask 7 (some .int) 4 86 [2, 0, 0, 0, 0, 0] 0 (un6 (f_X12_ask n)) := by
  refine AM.intro (by decide) (fun xs hx => ?_) (fun g xs h Z hl C hr hx hf => ?_)
  · obtain ⟨a0, a1, a2, a3, a4, a5, rfl, c0, c1, c2, c3, c4, c5⟩ := canL_6 hx
    exact Nat.le_of_ble_eq_true rfl
  · obtain ⟨a0, a1, a2, a3, a4, a5, rfl, c0, c1, c2, c3, c4, c5⟩ := canL_6 hx
    have hf := (un6_e _ a0 a1 a2 a3 a4 a5 _).symm.trans hf
    exact e_X12_ask (n := n) C hr c0 c1 c2 c3 c4 c5 hf
/-! LinesPromisedModel.bestOf(II)I -/
theorem dX12_bestOf_0 : decode cX12_bestOf 0 = .ok (.iconst (-1), 1) := by decide +kernel
theorem dX12_bestOf_1 : decode cX12_bestOf 1 = .ok (.istore_n 3, 1) := by decide +kernel
theorem dX12_bestOf_2 : decode cX12_bestOf 2 = .ok (.iconst 0, 1) := by decide +kernel
theorem dX12_bestOf_3 : decode cX12_bestOf 3 = .ok (.istore 4, 2) := by decide +kernel
theorem dX12_bestOf_5 : decode cX12_bestOf 5 = .ok (.iload 4, 2) := by decide +kernel
theorem dX12_bestOf_7 : decode cX12_bestOf 7 = .ok (.aload_n 0, 1) := by decide +kernel
theorem dX12_bestOf_8 : decode cX12_bestOf 8 = .ok (.getfield 8, 3) := by decide +kernel
theorem dX12_bestOf_11 : decode cX12_bestOf 11 = .ok (.bipush 8, 2) := by decide +kernel
theorem dX12_bestOf_13 : decode cX12_bestOf 13 = .ok (.iaload, 1) := by decide +kernel
theorem dX12_bestOf_14 : decode cX12_bestOf 14 = .ok (.if_icmp .ge 145, 3) := by decide +kernel
theorem dX12_bestOf_17 : decode cX12_bestOf 17 = .ok (.aload_n 0, 1) := by decide +kernel
theorem dX12_bestOf_18 : decode cX12_bestOf 18 = .ok (.getfield 8, 3) := by decide +kernel
theorem dX12_bestOf_21 : decode cX12_bestOf 21 = .ok (.sipush 11640, 3) := by decide +kernel
theorem dX12_bestOf_24 : decode cX12_bestOf 24 = .ok (.iload 4, 2) := by decide +kernel
theorem dX12_bestOf_26 : decode cX12_bestOf 26 = .ok (.iadd, 1) := by decide +kernel
theorem dX12_bestOf_27 : decode cX12_bestOf 27 = .ok (.iaload, 1) := by decide +kernel
theorem dX12_bestOf_28 : decode cX12_bestOf 28 = .ok (.iload_n 1, 1) := by decide +kernel
theorem dX12_bestOf_29 : decode cX12_bestOf 29 = .ok (.if_icmp .ne 36, 3) := by decide +kernel
theorem dX12_bestOf_32 : decode cX12_bestOf 32 = .ok (.aload_n 0, 1) := by decide +kernel
theorem dX12_bestOf_33 : decode cX12_bestOf 33 = .ok (.getfield 8, 3) := by decide +kernel
theorem dX12_bestOf_36 : decode cX12_bestOf 36 = .ok (.sipush 11800, 3) := by decide +kernel
theorem dX12_bestOf_39 : decode cX12_bestOf 39 = .ok (.iload 4, 2) := by decide +kernel
theorem dX12_bestOf_41 : decode cX12_bestOf 41 = .ok (.iadd, 1) := by decide +kernel
theorem dX12_bestOf_42 : decode cX12_bestOf 42 = .ok (.iaload, 1) := by decide +kernel
theorem dX12_bestOf_43 : decode cX12_bestOf 43 = .ok (.iload_n 2, 1) := by decide +kernel
theorem dX12_bestOf_44 : decode cX12_bestOf 44 = .ok (.if_icmp .ne 21, 3) := by decide +kernel
theorem dX12_bestOf_47 : decode cX12_bestOf 47 = .ok (.aload_n 0, 1) := by decide +kernel
theorem dX12_bestOf_48 : decode cX12_bestOf 48 = .ok (.getfield 8, 3) := by decide +kernel
theorem dX12_bestOf_51 : decode cX12_bestOf 51 = .ok (.sipush 11720, 3) := by decide +kernel
theorem dX12_bestOf_54 : decode cX12_bestOf 54 = .ok (.iload 4, 2) := by decide +kernel
theorem dX12_bestOf_56 : decode cX12_bestOf 56 = .ok (.iadd, 1) := by decide +kernel
theorem dX12_bestOf_57 : decode cX12_bestOf 57 = .ok (.iaload, 1) := by decide +kernel
theorem dX12_bestOf_58 : decode cX12_bestOf 58 = .ok (.ifCond .le 7, 3) := by decide +kernel
theorem dX12_bestOf_61 : decode cX12_bestOf 61 = .ok (.iconst 1, 1) := by decide +kernel
theorem dX12_bestOf_62 : decode cX12_bestOf 62 = .ok (.goto 4, 3) := by decide +kernel
theorem dX12_bestOf_65 : decode cX12_bestOf 65 = .ok (.iconst 0, 1) := by decide +kernel
theorem dX12_bestOf_66 : decode cX12_bestOf 66 = .ok (.istore 5, 2) := by decide +kernel
theorem dX12_bestOf_68 : decode cX12_bestOf 68 = .ok (.iload_n 3, 1) := by decide +kernel
theorem dX12_bestOf_69 : decode cX12_bestOf 69 = .ok (.iconst (-1), 1) := by decide +kernel
theorem dX12_bestOf_70 : decode cX12_bestOf 70 = .ok (.if_icmp .eq 59, 3) := by decide +kernel
theorem dX12_bestOf_73 : decode cX12_bestOf 73 = .ok (.iload_n 2, 1) := by decide +kernel
theorem dX12_bestOf_74 : decode cX12_bestOf 74 = .ok (.iconst 1, 1) := by decide +kernel
theorem dX12_bestOf_75 : decode cX12_bestOf 75 = .ok (.if_icmp .ne 30, 3) := by decide +kernel
theorem dX12_bestOf_78 : decode cX12_bestOf 78 = .ok (.aload_n 0, 1) := by decide +kernel
theorem dX12_bestOf_79 : decode cX12_bestOf 79 = .ok (.getfield 8, 3) := by decide +kernel
theorem dX12_bestOf_82 : decode cX12_bestOf 82 = .ok (.sipush 11760, 3) := by decide +kernel
theorem dX12_bestOf_85 : decode cX12_bestOf 85 = .ok (.iload 4, 2) := by decide +kernel
theorem dX12_bestOf_87 : decode cX12_bestOf 87 = .ok (.iadd, 1) := by decide +kernel
theorem dX12_bestOf_88 : decode cX12_bestOf 88 = .ok (.iaload, 1) := by decide +kernel
theorem dX12_bestOf_89 : decode cX12_bestOf 89 = .ok (.aload_n 0, 1) := by decide +kernel
theorem dX12_bestOf_90 : decode cX12_bestOf 90 = .ok (.getfield 8, 3) := by decide +kernel
theorem dX12_bestOf_93 : decode cX12_bestOf 93 = .ok (.sipush 11760, 3) := by decide +kernel
theorem dX12_bestOf_96 : decode cX12_bestOf 96 = .ok (.iload_n 3, 1) := by decide +kernel
theorem dX12_bestOf_97 : decode cX12_bestOf 97 = .ok (.iadd, 1) := by decide +kernel
theorem dX12_bestOf_98 : decode cX12_bestOf 98 = .ok (.iaload, 1) := by decide +kernel
theorem dX12_bestOf_99 : decode cX12_bestOf 99 = .ok (.if_icmp .le 34, 3) := by decide +kernel
theorem dX12_bestOf_102 : decode cX12_bestOf 102 = .ok (.goto 27, 3) := by decide +kernel
theorem dX12_bestOf_105 : decode cX12_bestOf 105 = .ok (.aload_n 0, 1) := by decide +kernel
theorem dX12_bestOf_106 : decode cX12_bestOf 106 = .ok (.getfield 8, 3) := by decide +kernel
theorem dX12_bestOf_109 : decode cX12_bestOf 109 = .ok (.sipush 11760, 3) := by decide +kernel
theorem dX12_bestOf_112 : decode cX12_bestOf 112 = .ok (.iload 4, 2) := by decide +kernel
theorem dX12_bestOf_114 : decode cX12_bestOf 114 = .ok (.iadd, 1) := by decide +kernel
theorem dX12_bestOf_115 : decode cX12_bestOf 115 = .ok (.iaload, 1) := by decide +kernel
theorem dX12_bestOf_116 : decode cX12_bestOf 116 = .ok (.aload_n 0, 1) := by decide +kernel
theorem dX12_bestOf_117 : decode cX12_bestOf 117 = .ok (.getfield 8, 3) := by decide +kernel
theorem dX12_bestOf_120 : decode cX12_bestOf 120 = .ok (.sipush 11760, 3) := by decide +kernel
theorem dX12_bestOf_123 : decode cX12_bestOf 123 = .ok (.iload_n 3, 1) := by decide +kernel
theorem dX12_bestOf_124 : decode cX12_bestOf 124 = .ok (.iadd, 1) := by decide +kernel
theorem dX12_bestOf_125 : decode cX12_bestOf 125 = .ok (.iaload, 1) := by decide +kernel
theorem dX12_bestOf_126 : decode cX12_bestOf 126 = .ok (.if_icmp .ge 7, 3) := by decide +kernel
theorem dX12_bestOf_129 : decode cX12_bestOf 129 = .ok (.iconst 1, 1) := by decide +kernel
theorem dX12_bestOf_130 : decode cX12_bestOf 130 = .ok (.goto 4, 3) := by decide +kernel
theorem dX12_bestOf_133 : decode cX12_bestOf 133 = .ok (.iconst 0, 1) := by decide +kernel
theorem dX12_bestOf_134 : decode cX12_bestOf 134 = .ok (.istore 6, 2) := by decide +kernel
theorem dX12_bestOf_136 : decode cX12_bestOf 136 = .ok (.iload 5, 2) := by decide +kernel
theorem dX12_bestOf_138 : decode cX12_bestOf 138 = .ok (.ifCond .eq 13, 3) := by decide +kernel
theorem dX12_bestOf_141 : decode cX12_bestOf 141 = .ok (.iload 6, 2) := by decide +kernel
theorem dX12_bestOf_143 : decode cX12_bestOf 143 = .ok (.ifCond .eq 8, 3) := by decide +kernel
theorem dX12_bestOf_146 : decode cX12_bestOf 146 = .ok (.iload 4, 2) := by decide +kernel
theorem dX12_bestOf_148 : decode cX12_bestOf 148 = .ok (.goto 4, 3) := by decide +kernel
theorem dX12_bestOf_151 : decode cX12_bestOf 151 = .ok (.iload_n 3, 1) := by decide +kernel
theorem dX12_bestOf_152 : decode cX12_bestOf 152 = .ok (.istore_n 3, 1) := by decide +kernel
theorem dX12_bestOf_153 : decode cX12_bestOf 153 = .ok (.iinc 4 1, 3) := by decide +kernel
theorem dX12_bestOf_156 : decode cX12_bestOf 156 = .ok (.goto (-151), 3) := by decide +kernel
theorem dX12_bestOf_159 : decode cX12_bestOf 159 = .ok (.iload_n 3, 1) := by decide +kernel
theorem dX12_bestOf_160 : decode cX12_bestOf 160 = .ok (.ireturn, 1) := by decide +kernel
theorem cm_X12_bestOf : CM yX12_bestOf cX12_bestOf 7 (some .int) 2 12 := ⟨w_1799, w_79, w_1800, w_97, ⟨by decide +kernel, by decide +kernel, by decide +kernel⟩, ⟨_, _, rfl⟩, by decide⟩
noncomputable def f_X12_bestOf_152 (n : Nat) (rec5 : Int → Int → MM → RR) (v0 v1 v2 v4 s0 : Int) (h : MM) : RR :=
  lb (wr (v4 + 1)) fun x1 =>
  rec5 s0 x1 h
noncomputable def f_X12_bestOf_151 (n : Nat) (rec5 : Int → Int → MM → RR) (v0 v1 v2 v3 v4 : Int) (h : MM) : RR :=
  f_X12_bestOf_152 n rec5 v0 v1 v2 v4 v3 h
noncomputable def f_X12_bestOf_134 (n : Nat) (rec5 : Int → Int → MM → RR) (v0 v1 v2 v3 v4 v5 s0 : Int) (h : MM) : RR :=
  if v5 = 0 then
    f_X12_bestOf_151 n rec5 v0 v1 v2 v3 v4 h
  else
  if s0 = 0 then
    f_X12_bestOf_151 n rec5 v0 v1 v2 v3 v4 h
  else
  f_X12_bestOf_152 n rec5 v0 v1 v2 v4 v4 h
noncomputable def f_X12_bestOf_129 (n : Nat) (rec5 : Int → Int → MM → RR) (v0 v1 v2 v3 v4 v5 : Int) (h : MM) : RR :=
  f_X12_bestOf_134 n rec5 v0 v1 v2 v3 v4 v5 1 h
noncomputable def f_X12_bestOf_133 (n : Nat) (rec5 : Int → Int → MM → RR) (v0 v1 v2 v3 v4 v5 : Int) (h : MM) : RR :=
  f_X12_bestOf_134 n rec5 v0 v1 v2 v3 v4 v5 0 h
noncomputable def f_X12_bestOf_66 (n : Nat) (rec5 : Int → Int → MM → RR) (v0 v1 v2 v3 v4 s0 : Int) (h : MM) : RR :=
  if v3 = (-1) then
    f_X12_bestOf_129 n rec5 v0 v1 v2 v3 v4 s0 h
  else
  if v2 = 1 then
    gf h v0 12 1 fun r8 =>
    rd h r8 100 (wr (11760 + v4)) fun r9 =>
    gf h v0 12 1 fun r10 =>
    rd h r10 100 (wr (11760 + v3)) fun r11 =>
    if r9 ≤ r11 then
      f_X12_bestOf_133 n rec5 v0 v1 v2 v3 v4 s0 h
    else
    f_X12_bestOf_129 n rec5 v0 v1 v2 v3 v4 s0 h
  else
  gf h v0 12 1 fun r3 =>
  rd h r3 100 (wr (11760 + v4)) fun r4 =>
  gf h v0 12 1 fun r5 =>
  rd h r5 100 (wr (11760 + v3)) fun r6 =>
  if r6 ≤ r4 then
    f_X12_bestOf_133 n rec5 v0 v1 v2 v3 v4 s0 h
  else
  f_X12_bestOf_129 n rec5 v0 v1 v2 v3 v4 s0 h
noncomputable def f_X12_bestOf_65 (n : Nat) (rec5 : Int → Int → MM → RR) (v0 v1 v2 v3 v4 : Int) (h : MM) : RR :=
  f_X12_bestOf_66 n rec5 v0 v1 v2 v3 v4 0 h
noncomputable def f_X12_bestOf_5b (n : Nat) (rec5 : Int → Int → MM → RR) (v0 v1 v2 v3 v4 : Int) (h : MM) : RR :=
  gf h v0 12 1 fun r1 =>
  rd h r1 100 8 fun r2 =>
  if r2 ≤ v4 then
    some (v3, h)
  else
  gf h v0 12 1 fun r4 =>
  rd h r4 100 (wr (11640 + v4)) fun r5 =>
  if r5 = v1 then
    gf h v0 12 1 fun r7 =>
    rd h r7 100 (wr (11800 + v4)) fun r8 =>
    if r8 = v2 then
      gf h v0 12 1 fun r10 =>
      rd h r10 100 (wr (11720 + v4)) fun r11 =>
      if r11 ≤ 0 then
        f_X12_bestOf_65 n rec5 v0 v1 v2 v3 v4 h
      else
      f_X12_bestOf_66 n rec5 v0 v1 v2 v3 v4 1 h
    else
    f_X12_bestOf_65 n rec5 v0 v1 v2 v3 v4 h
  else
  f_X12_bestOf_65 n rec5 v0 v1 v2 v3 v4 h
noncomputable def f_X12_bestOf_5 (n : Nat)  (v0 v1 v2 : Int) : Nat → Int → Int → MM → RR
  | 0, _, _, _ => none
  | k + 1, v3, v4, h => f_X12_bestOf_5b n  (f_X12_bestOf_5 n  v0 v1 v2 k) v0 v1 v2 v3 v4 h
noncomputable def f_X12_bestOf (n : Nat) (v0 v1 v2 : Int) (h : MM) : RR :=
  f_X12_bestOf_5 n v0 v1 v2 n ((-1)) 0 h
set_option maxRecDepth 20000 in
theorem b_X12_bestOf_152 {g : GT} {Z : Int × MM} {n : Nat} (C : Cx g cX12_bestOf 7 yX12_bestOf 0 0) (hr : Rt g (some .int) 0 Z) {v0 v1 v2 v4 s0 : Int}  {rec5 : Int → Int → MM → RR} (L5 : ∀ (u3 u4 : Int) (h : MM), in32 u3 → in32 u4 → rec5 u3 u4 h = some Z → G g 5 [(2, v0), (0, v1), (0, v2), (0, u3), (0, u4), (3, 0), (3, 0)] [] h) (cv1 : in32 v1) (cv2 : in32 v2) (cv4 : in32 v4) (cs0 : in32 s0) {h : MM} (hf : f_X12_bestOf_152 n rec5 v0 v1 v2 v4 s0 h = some Z) : G g 152 [(2, v0), (0, v1), (0, v2), (3, 0), (0, v4), (3, 0), (3, 0)] [(0, s0)] h := by
  unfold f_X12_bestOf_152 at hf
  refine r_istore_n C dX12_bestOf_152 (Nat.le_of_ble_eq_true rfl) rfl ?_
  obtain ⟨x1, e1, hf⟩ := lb_s hf
  have c1 : in32 x1 := by rw [e1]; exact (in32_t _)
  refine r_iincL C dX12_bestOf_153 rfl e1 (Nat.le_of_ble_eq_true rfl) rfl ?_
  refine r_goto C dX12_bestOf_156 (tgt := 5) (by decide) ?_
  exact G.mask [true, true, true, true, true, false, false] rfl rfl (L5 _ _ _ cs0 c1 hf)
set_option maxRecDepth 20000 in
theorem b_X12_bestOf_151 {g : GT} {Z : Int × MM} {n : Nat} (C : Cx g cX12_bestOf 7 yX12_bestOf 0 0) (hr : Rt g (some .int) 0 Z) {v0 v1 v2 v3 v4 : Int}  {rec5 : Int → Int → MM → RR} (L5 : ∀ (u3 u4 : Int) (h : MM), in32 u3 → in32 u4 → rec5 u3 u4 h = some Z → G g 5 [(2, v0), (0, v1), (0, v2), (0, u3), (0, u4), (3, 0), (3, 0)] [] h) (cv1 : in32 v1) (cv2 : in32 v2) (cv3 : in32 v3) (cv4 : in32 v4) {h : MM} (hf : f_X12_bestOf_151 n rec5 v0 v1 v2 v3 v4 h = some Z) : G g 151 [(2, v0), (0, v1), (0, v2), (0, v3), (0, v4), (3, 0), (3, 0)] [] h := by
  unfold f_X12_bestOf_151 at hf
  refine r_iload_n C dX12_bestOf_151 rfl ?_
  exact G.mask [true, true, true, false, true, false, false] rfl rfl (b_X12_bestOf_152 C hr L5 cv1 cv2 cv4 cv3 hf)
set_option maxRecDepth 20000 in
theorem b_X12_bestOf_134 {g : GT} {Z : Int × MM} {n : Nat} (C : Cx g cX12_bestOf 7 yX12_bestOf 0 0) (hr : Rt g (some .int) 0 Z) {v0 v1 v2 v3 v4 v5 s0 : Int}  {rec5 : Int → Int → MM → RR} (L5 : ∀ (u3 u4 : Int) (h : MM), in32 u3 → in32 u4 → rec5 u3 u4 h = some Z → G g 5 [(2, v0), (0, v1), (0, v2), (0, u3), (0, u4), (3, 0), (3, 0)] [] h) (cv1 : in32 v1) (cv2 : in32 v2) (cv3 : in32 v3) (cv4 : in32 v4) (cv5 : in32 v5) (cs0 : in32 s0) {h : MM} (hf : f_X12_bestOf_134 n rec5 v0 v1 v2 v3 v4 v5 s0 h = some Z) : G g 134 [(2, v0), (0, v1), (0, v2), (0, v3), (0, v4), (0, v5), (3, 0)] [(0, s0)] h := by
  unfold f_X12_bestOf_134 at hf
  refine r_istore C dX12_bestOf_134 (Nat.le_of_ble_eq_true rfl) rfl ?_
  refine r_iload C dX12_bestOf_136 rfl ?_
  refine r_if_eq C dX12_bestOf_138 (tgt := 151) (by decide) cv5 (fun n1 => ?_) (fun n1 => ?_)
  · have hf := ite_p n1 hf
    exact G.mask [true, true, true, true, true, false, false] rfl rfl (b_X12_bestOf_151 C hr L5 cv1 cv2 cv3 cv4 hf)
  · have hf := ite_n n1 hf
    refine r_iload C dX12_bestOf_141 rfl ?_
    refine r_if_eq C dX12_bestOf_143 (tgt := 151) (by decide) cs0 (fun n2 => ?_) (fun n2 => ?_)
    · have hf := ite_p n2 hf
      exact G.mask [true, true, true, true, true, false, false] rfl rfl (b_X12_bestOf_151 C hr L5 cv1 cv2 cv3 cv4 hf)
    · have hf := ite_n n2 hf
      refine r_iload C dX12_bestOf_146 rfl ?_
      refine r_goto C dX12_bestOf_148 (tgt := 152) (by decide) ?_
      exact G.mask [true, true, true, false, true, false, false] rfl rfl (b_X12_bestOf_152 C hr L5 cv1 cv2 cv4 cv4 hf)
set_option maxRecDepth 20000 in
theorem b_X12_bestOf_129 {g : GT} {Z : Int × MM} {n : Nat} (C : Cx g cX12_bestOf 7 yX12_bestOf 0 0) (hr : Rt g (some .int) 0 Z) {v0 v1 v2 v3 v4 v5 : Int}  {rec5 : Int → Int → MM → RR} (L5 : ∀ (u3 u4 : Int) (h : MM), in32 u3 → in32 u4 → rec5 u3 u4 h = some Z → G g 5 [(2, v0), (0, v1), (0, v2), (0, u3), (0, u4), (3, 0), (3, 0)] [] h) (cv1 : in32 v1) (cv2 : in32 v2) (cv3 : in32 v3) (cv4 : in32 v4) (cv5 : in32 v5) {h : MM} (hf : f_X12_bestOf_129 n rec5 v0 v1 v2 v3 v4 v5 h = some Z) : G g 129 [(2, v0), (0, v1), (0, v2), (0, v3), (0, v4), (0, v5), (3, 0)] [] h := by
  unfold f_X12_bestOf_129 at hf
  refine r_iconst C dX12_bestOf_129 ?_
  refine r_goto C dX12_bestOf_130 (tgt := 134) (by decide) ?_
  exact G.mask [true, true, true, true, true, true, false] rfl rfl (b_X12_bestOf_134 C hr L5 cv1 cv2 cv3 cv4 cv5 (in32_of rfl) hf)
set_option maxRecDepth 20000 in
theorem b_X12_bestOf_133 {g : GT} {Z : Int × MM} {n : Nat} (C : Cx g cX12_bestOf 7 yX12_bestOf 0 0) (hr : Rt g (some .int) 0 Z) {v0 v1 v2 v3 v4 v5 : Int}  {rec5 : Int → Int → MM → RR} (L5 : ∀ (u3 u4 : Int) (h : MM), in32 u3 → in32 u4 → rec5 u3 u4 h = some Z → G g 5 [(2, v0), (0, v1), (0, v2), (0, u3), (0, u4), (3, 0), (3, 0)] [] h) (cv1 : in32 v1) (cv2 : in32 v2) (cv3 : in32 v3) (cv4 : in32 v4) (cv5 : in32 v5) {h : MM} (hf : f_X12_bestOf_133 n rec5 v0 v1 v2 v3 v4 v5 h = some Z) : G g 133 [(2, v0), (0, v1), (0, v2), (0, v3), (0, v4), (0, v5), (3, 0)] [] h := by
  unfold f_X12_bestOf_133 at hf
  refine r_iconst C dX12_bestOf_133 ?_
  exact G.mask [true, true, true, true, true, true, false] rfl rfl (b_X12_bestOf_134 C hr L5 cv1 cv2 cv3 cv4 cv5 (in32_of rfl) hf)
set_option maxRecDepth 20000 in
theorem b_X12_bestOf_66 {g : GT} {Z : Int × MM} {n : Nat} (C : Cx g cX12_bestOf 7 yX12_bestOf 0 0) (hr : Rt g (some .int) 0 Z) {v0 v1 v2 v3 v4 s0 : Int}  {rec5 : Int → Int → MM → RR} (L5 : ∀ (u3 u4 : Int) (h : MM), in32 u3 → in32 u4 → rec5 u3 u4 h = some Z → G g 5 [(2, v0), (0, v1), (0, v2), (0, u3), (0, u4), (3, 0), (3, 0)] [] h) (cv1 : in32 v1) (cv2 : in32 v2) (cv3 : in32 v3) (cv4 : in32 v4) (cs0 : in32 s0) {h : MM} (hf : f_X12_bestOf_66 n rec5 v0 v1 v2 v3 v4 s0 h = some Z) : G g 66 [(2, v0), (0, v1), (0, v2), (0, v3), (0, v4), (3, 0), (3, 0)] [(0, s0)] h := by
  unfold f_X12_bestOf_66 at hf
  refine r_istore C dX12_bestOf_66 (Nat.le_of_ble_eq_true rfl) rfl ?_
  refine r_iload_n C dX12_bestOf_68 rfl ?_
  refine r_iconst C dX12_bestOf_69 ?_
  refine r_icmp_eq C dX12_bestOf_70 (tgt := 129) (by decide) cv3 (in32_of rfl) (fun n1 => ?_) (fun n1 => ?_)
  · have hf := ite_p n1 hf
    exact G.mask [true, true, true, true, true, true, false] rfl rfl (b_X12_bestOf_129 C hr L5 cv1 cv2 cv3 cv4 cs0 hf)
  · have hf := ite_n n1 hf
    refine r_iload_n C dX12_bestOf_73 rfl ?_
    refine r_iconst C dX12_bestOf_74 ?_
    refine r_icmp_ne C dX12_bestOf_75 (tgt := 105) (by decide) cv2 (in32_of rfl) (fun n2 => ?_) (fun n2 => ?_)
    · have hf := ite_n n2 hf
      refine r_aload_n C dX12_bestOf_105 rfl ?_
      obtain ⟨q3, hf⟩ := gf_s hf
      refine r_gf C ct12 (j := 1) (ji := 1) dX12_bestOf_106 q3 rfl rfl (by decide) w_1426 rfl (fun c3 => ?_)
      refine r_sipush C dX12_bestOf_109 rfl ?_
      refine r_iload C dX12_bestOf_112 rfl ?_
      refine r_iadd C dX12_bestOf_114 ?_
      obtain ⟨q4, hf⟩ := rd_s hf
      refine r_iald C dX12_bestOf_115 q4 rfl (fun c4 => ?_)
      refine r_aload_n C dX12_bestOf_116 rfl ?_
      obtain ⟨q5, hf⟩ := gf_s hf
      refine r_gf C ct12 (j := 1) (ji := 1) dX12_bestOf_117 q5 rfl rfl (by decide) w_1426 rfl (fun c5 => ?_)
      refine r_sipush C dX12_bestOf_120 rfl ?_
      refine r_iload_n C dX12_bestOf_123 rfl ?_
      refine r_iadd C dX12_bestOf_124 ?_
      obtain ⟨q6, hf⟩ := rd_s hf
      refine r_iald C dX12_bestOf_125 q6 rfl (fun c6 => ?_)
      refine r_icmp_ge C dX12_bestOf_126 (tgt := 133) (by decide) c4 c6 (fun n7 => ?_) (fun n7 => ?_)
      · have hf := ite_p n7 hf
        exact G.mask [true, true, true, true, true, true, false] rfl rfl (b_X12_bestOf_133 C hr L5 cv1 cv2 cv3 cv4 cs0 hf)
      · have hf := ite_n n7 hf
        exact G.mask [true, true, true, true, true, true, false] rfl rfl (b_X12_bestOf_129 C hr L5 cv1 cv2 cv3 cv4 cs0 hf)
    · have hf := ite_p n2 hf
      refine r_aload_n C dX12_bestOf_78 rfl ?_
      obtain ⟨q8, hf⟩ := gf_s hf
      refine r_gf C ct12 (j := 1) (ji := 1) dX12_bestOf_79 q8 rfl rfl (by decide) w_1426 rfl (fun c8 => ?_)
      refine r_sipush C dX12_bestOf_82 rfl ?_
      refine r_iload C dX12_bestOf_85 rfl ?_
      refine r_iadd C dX12_bestOf_87 ?_
      obtain ⟨q9, hf⟩ := rd_s hf
      refine r_iald C dX12_bestOf_88 q9 rfl (fun c9 => ?_)
      refine r_aload_n C dX12_bestOf_89 rfl ?_
      obtain ⟨q10, hf⟩ := gf_s hf
      refine r_gf C ct12 (j := 1) (ji := 1) dX12_bestOf_90 q10 rfl rfl (by decide) w_1426 rfl (fun c10 => ?_)
      refine r_sipush C dX12_bestOf_93 rfl ?_
      refine r_iload_n C dX12_bestOf_96 rfl ?_
      refine r_iadd C dX12_bestOf_97 ?_
      obtain ⟨q11, hf⟩ := rd_s hf
      refine r_iald C dX12_bestOf_98 q11 rfl (fun c11 => ?_)
      refine r_icmp_le C dX12_bestOf_99 (tgt := 133) (by decide) c9 c11 (fun n12 => ?_) (fun n12 => ?_)
      · have hf := ite_p n12 hf
        exact G.mask [true, true, true, true, true, true, false] rfl rfl (b_X12_bestOf_133 C hr L5 cv1 cv2 cv3 cv4 cs0 hf)
      · have hf := ite_n n12 hf
        refine r_goto C dX12_bestOf_102 (tgt := 129) (by decide) ?_
        exact G.mask [true, true, true, true, true, true, false] rfl rfl (b_X12_bestOf_129 C hr L5 cv1 cv2 cv3 cv4 cs0 hf)
set_option maxRecDepth 20000 in
theorem b_X12_bestOf_65 {g : GT} {Z : Int × MM} {n : Nat} (C : Cx g cX12_bestOf 7 yX12_bestOf 0 0) (hr : Rt g (some .int) 0 Z) {v0 v1 v2 v3 v4 : Int}  {rec5 : Int → Int → MM → RR} (L5 : ∀ (u3 u4 : Int) (h : MM), in32 u3 → in32 u4 → rec5 u3 u4 h = some Z → G g 5 [(2, v0), (0, v1), (0, v2), (0, u3), (0, u4), (3, 0), (3, 0)] [] h) (cv1 : in32 v1) (cv2 : in32 v2) (cv3 : in32 v3) (cv4 : in32 v4) {h : MM} (hf : f_X12_bestOf_65 n rec5 v0 v1 v2 v3 v4 h = some Z) : G g 65 [(2, v0), (0, v1), (0, v2), (0, v3), (0, v4), (3, 0), (3, 0)] [] h := by
  unfold f_X12_bestOf_65 at hf
  refine r_iconst C dX12_bestOf_65 ?_
  exact G.mask [true, true, true, true, true, false, false] rfl rfl (b_X12_bestOf_66 C hr L5 cv1 cv2 cv3 cv4 (in32_of rfl) hf)
set_option maxRecDepth 20000 in
theorem b_X12_bestOf_5b {g : GT} {Z : Int × MM} {n : Nat} (C : Cx g cX12_bestOf 7 yX12_bestOf 0 0) (hr : Rt g (some .int) 0 Z) {v0 v1 v2 v3 v4 : Int}  {rec5 : Int → Int → MM → RR} (L5 : ∀ (u3 u4 : Int) (h : MM), in32 u3 → in32 u4 → rec5 u3 u4 h = some Z → G g 5 [(2, v0), (0, v1), (0, v2), (0, u3), (0, u4), (3, 0), (3, 0)] [] h) (cv1 : in32 v1) (cv2 : in32 v2) (cv3 : in32 v3) (cv4 : in32 v4) {h : MM} (hf : f_X12_bestOf_5b n rec5 v0 v1 v2 v3 v4 h = some Z) : G g 5 [(2, v0), (0, v1), (0, v2), (0, v3), (0, v4), (3, 0), (3, 0)] [] h := by
  unfold f_X12_bestOf_5b at hf
  refine r_iload C dX12_bestOf_5 rfl ?_
  refine r_aload_n C dX12_bestOf_7 rfl ?_
  obtain ⟨q1, hf⟩ := gf_s hf
  refine r_gf C ct12 (j := 1) (ji := 1) dX12_bestOf_8 q1 rfl rfl (by decide) w_1426 rfl (fun c1 => ?_)
  refine r_bipush C dX12_bestOf_11 rfl ?_
  obtain ⟨q2, hf⟩ := rd_s hf
  refine r_iald C dX12_bestOf_13 q2 rfl (fun c2 => ?_)
  refine r_icmp_ge C dX12_bestOf_14 (tgt := 159) (by decide) cv4 c2 (fun n3 => ?_) (fun n3 => ?_)
  · have hf := ite_p n3 hf
    refine r_iload_n C dX12_bestOf_159 rfl ?_
    cases hf
    exact r_jret C hr dX12_bestOf_160 cv3
  · have hf := ite_n n3 hf
    refine r_aload_n C dX12_bestOf_17 rfl ?_
    obtain ⟨q4, hf⟩ := gf_s hf
    refine r_gf C ct12 (j := 1) (ji := 1) dX12_bestOf_18 q4 rfl rfl (by decide) w_1426 rfl (fun c4 => ?_)
    refine r_sipush C dX12_bestOf_21 rfl ?_
    refine r_iload C dX12_bestOf_24 rfl ?_
    refine r_iadd C dX12_bestOf_26 ?_
    obtain ⟨q5, hf⟩ := rd_s hf
    refine r_iald C dX12_bestOf_27 q5 rfl (fun c5 => ?_)
    refine r_iload_n C dX12_bestOf_28 rfl ?_
    refine r_icmp_ne C dX12_bestOf_29 (tgt := 65) (by decide) c5 cv1 (fun n6 => ?_) (fun n6 => ?_)
    · have hf := ite_n n6 hf
      exact G.mask [true, true, true, true, true, false, false] rfl rfl (b_X12_bestOf_65 C hr L5 cv1 cv2 cv3 cv4 hf)
    · have hf := ite_p n6 hf
      refine r_aload_n C dX12_bestOf_32 rfl ?_
      obtain ⟨q7, hf⟩ := gf_s hf
      refine r_gf C ct12 (j := 1) (ji := 1) dX12_bestOf_33 q7 rfl rfl (by decide) w_1426 rfl (fun c7 => ?_)
      refine r_sipush C dX12_bestOf_36 rfl ?_
      refine r_iload C dX12_bestOf_39 rfl ?_
      refine r_iadd C dX12_bestOf_41 ?_
      obtain ⟨q8, hf⟩ := rd_s hf
      refine r_iald C dX12_bestOf_42 q8 rfl (fun c8 => ?_)
      refine r_iload_n C dX12_bestOf_43 rfl ?_
      refine r_icmp_ne C dX12_bestOf_44 (tgt := 65) (by decide) c8 cv2 (fun n9 => ?_) (fun n9 => ?_)
      · have hf := ite_n n9 hf
        exact G.mask [true, true, true, true, true, false, false] rfl rfl (b_X12_bestOf_65 C hr L5 cv1 cv2 cv3 cv4 hf)
      · have hf := ite_p n9 hf
        refine r_aload_n C dX12_bestOf_47 rfl ?_
        obtain ⟨q10, hf⟩ := gf_s hf
        refine r_gf C ct12 (j := 1) (ji := 1) dX12_bestOf_48 q10 rfl rfl (by decide) w_1426 rfl (fun c10 => ?_)
        refine r_sipush C dX12_bestOf_51 rfl ?_
        refine r_iload C dX12_bestOf_54 rfl ?_
        refine r_iadd C dX12_bestOf_56 ?_
        obtain ⟨q11, hf⟩ := rd_s hf
        refine r_iald C dX12_bestOf_57 q11 rfl (fun c11 => ?_)
        refine r_if_le C dX12_bestOf_58 (tgt := 65) (by decide) c11 (fun n12 => ?_) (fun n12 => ?_)
        · have hf := ite_p n12 hf
          exact G.mask [true, true, true, true, true, false, false] rfl rfl (b_X12_bestOf_65 C hr L5 cv1 cv2 cv3 cv4 hf)
        · have hf := ite_n n12 hf
          refine r_iconst C dX12_bestOf_61 ?_
          refine r_goto C dX12_bestOf_62 (tgt := 66) (by decide) ?_
          exact G.mask [true, true, true, true, true, false, false] rfl rfl (b_X12_bestOf_66 C hr L5 cv1 cv2 cv3 cv4 (in32_of rfl) hf)
set_option maxRecDepth 20000 in
theorem l_X12_bestOf_5 {g : GT} {Z : Int × MM} {n : Nat} (C : Cx g cX12_bestOf 7 yX12_bestOf 0 0) (hr : Rt g (some .int) 0 Z) {v0 v1 v2 : Int}   (cv1 : in32 v1) (cv2 : in32 v2) : ∀ (k : Nat) (v3 v4 : Int) (h : MM), in32 v3 → in32 v4 → f_X12_bestOf_5 n  v0 v1 v2 k v3 v4 h = some Z → G g 5 [(2, v0), (0, v1), (0, v2), (0, v3), (0, v4), (3, 0), (3, 0)] [] h := by
  intro k
  induction k with
  | zero => intro v3 v4 h cv3 cv4 hf; exact absurd hf (by intro z; cases z)
  | succ k ih => intro v3 v4 h cv3 cv4 hf; exact b_X12_bestOf_5b C hr (rec5 := f_X12_bestOf_5 n  v0 v1 v2 k)  ih cv1 cv2 cv3 cv4 (show f_X12_bestOf_5b n  (f_X12_bestOf_5 n  v0 v1 v2 k) v0 v1 v2 v3 v4 h = some Z from hf)
set_option maxRecDepth 20000 in
theorem e_X12_bestOf {g : GT} {Z : Int × MM} {n : Nat} (C : Cx g cX12_bestOf 7 yX12_bestOf 0 0) (hr : Rt g (some .int) 0 Z) {v0 v1 v2 : Int} (cv0 : cK 2 v0) (cv1 : cK 0 v1) (cv2 : cK 0 v2) {h : MM} (hf : f_X12_bestOf n v0 v1 v2 h = some Z) : G g 0 [(2, v0), (0, v1), (0, v2), (3, 0), (3, 0), (3, 0), (3, 0)] [] h := by
  have cv1 : in32 v1 := cv1
  have cv2 : in32 v2 := cv2
  unfold f_X12_bestOf at hf
  refine r_iconst C dX12_bestOf_0 ?_
  refine r_istore_n C dX12_bestOf_1 (Nat.le_of_ble_eq_true rfl) rfl ?_
  refine r_iconst C dX12_bestOf_2 ?_
  refine r_istore C dX12_bestOf_3 (Nat.le_of_ble_eq_true rfl) rfl ?_
  exact G.mask [true, true, true, true, true, false, false] rfl rfl (l_X12_bestOf_5 C hr  cv1 cv2 _ _ _ _ (in32_of rfl) (in32_of rfl) hf)
set_option maxRecDepth 20000 in
theorem am_X12_bestOf (l : Launch) (n : Nat) : AM l yX12_bestOf cX12_bestOf 7 (some .int) 0 0 [2, 0, 0] 0 (un3 (f_X12_bestOf n)) := by
  refine AM.intro (by decide) (fun xs hx => ?_) (fun g xs h Z hl C hr hx hf => ?_)
  · obtain ⟨a0, a1, a2, rfl, c0, c1, c2⟩ := canL_3 hx
    exact Nat.le_of_ble_eq_true rfl
  · obtain ⟨a0, a1, a2, rfl, c0, c1, c2⟩ := canL_3 hx
    have hf := (un3_e _ a0 a1 a2 _).symm.trans hf
    exact e_X12_bestOf (n := n) C hr c0 c1 c2 hf
/-! LinesPromisedModel.price(I)I -/
theorem dX12_price_0 : decode cX12_price 0 = .ok (.aload_n 0, 1) := by decide +kernel
theorem dX12_price_1 : decode cX12_price 1 = .ok (.iload_n 1, 1) := by decide +kernel
theorem dX12_price_2 : decode cX12_price 2 = .ok (.invokevirtual 241, 3) := by decide +kernel
theorem dX12_price_5 : decode cX12_price 5 = .ok (.ifCond .ne 5, 3) := by decide +kernel
theorem dX12_price_8 : decode cX12_price 8 = .ok (.iconst (-1), 1) := by decide +kernel
theorem dX12_price_9 : decode cX12_price 9 = .ok (.ireturn, 1) := by decide +kernel
theorem dX12_price_10 : decode cX12_price 10 = .ok (.iconst 0, 1) := by decide +kernel
theorem dX12_price_11 : decode cX12_price 11 = .ok (.istore_n 2, 1) := by decide +kernel
theorem dX12_price_12 : decode cX12_price 12 = .ok (.aload_n 0, 1) := by decide +kernel
theorem dX12_price_13 : decode cX12_price 13 = .ok (.iload_n 1, 1) := by decide +kernel
theorem dX12_price_14 : decode cX12_price 14 = .ok (.iconst 0, 1) := by decide +kernel
theorem dX12_price_15 : decode cX12_price 15 = .ok (.invokevirtual 250, 3) := by decide +kernel
theorem dX12_price_18 : decode cX12_price 18 = .ok (.istore_n 3, 1) := by decide +kernel
theorem dX12_price_19 : decode cX12_price 19 = .ok (.aload_n 0, 1) := by decide +kernel
theorem dX12_price_20 : decode cX12_price 20 = .ok (.iload_n 1, 1) := by decide +kernel
theorem dX12_price_21 : decode cX12_price 21 = .ok (.iconst 1, 1) := by decide +kernel
theorem dX12_price_22 : decode cX12_price 22 = .ok (.invokevirtual 250, 3) := by decide +kernel
theorem dX12_price_25 : decode cX12_price 25 = .ok (.istore 4, 2) := by decide +kernel
theorem dX12_price_27 : decode cX12_price 27 = .ok (.iload_n 3, 1) := by decide +kernel
theorem dX12_price_28 : decode cX12_price 28 = .ok (.iconst (-1), 1) := by decide +kernel
theorem dX12_price_29 : decode cX12_price 29 = .ok (.if_icmp .eq 379, 3) := by decide +kernel
theorem dX12_price_32 : decode cX12_price 32 = .ok (.iload 4, 2) := by decide +kernel
theorem dX12_price_34 : decode cX12_price 34 = .ok (.iconst (-1), 1) := by decide +kernel
theorem dX12_price_35 : decode cX12_price 35 = .ok (.if_icmp .eq 373, 3) := by decide +kernel
theorem dX12_price_38 : decode cX12_price 38 = .ok (.aload_n 0, 1) := by decide +kernel
theorem dX12_price_39 : decode cX12_price 39 = .ok (.getfield 8, 3) := by decide +kernel
theorem dX12_price_42 : decode cX12_price 42 = .ok (.sipush 11760, 3) := by decide +kernel
theorem dX12_price_45 : decode cX12_price 45 = .ok (.iload 4, 2) := by decide +kernel
theorem dX12_price_47 : decode cX12_price 47 = .ok (.iadd, 1) := by decide +kernel
theorem dX12_price_48 : decode cX12_price 48 = .ok (.iaload, 1) := by decide +kernel
theorem dX12_price_49 : decode cX12_price 49 = .ok (.aload_n 0, 1) := by decide +kernel
theorem dX12_price_50 : decode cX12_price 50 = .ok (.getfield 8, 3) := by decide +kernel
theorem dX12_price_53 : decode cX12_price 53 = .ok (.sipush 11760, 3) := by decide +kernel
theorem dX12_price_56 : decode cX12_price 56 = .ok (.iload_n 3, 1) := by decide +kernel
theorem dX12_price_57 : decode cX12_price 57 = .ok (.iadd, 1) := by decide +kernel
theorem dX12_price_58 : decode cX12_price 58 = .ok (.iaload, 1) := by decide +kernel
theorem dX12_price_59 : decode cX12_price 59 = .ok (.if_icmp .lt 349, 3) := by decide +kernel
theorem dX12_price_62 : decode cX12_price 62 = .ok (.aload_n 0, 1) := by decide +kernel
theorem dX12_price_63 : decode cX12_price 63 = .ok (.getfield 8, 3) := by decide +kernel
theorem dX12_price_66 : decode cX12_price 66 = .ok (.sipush 11760, 3) := by decide +kernel
theorem dX12_price_69 : decode cX12_price 69 = .ok (.iload_n 3, 1) := by decide +kernel
theorem dX12_price_70 : decode cX12_price 70 = .ok (.iadd, 1) := by decide +kernel
theorem dX12_price_71 : decode cX12_price 71 = .ok (.iaload, 1) := by decide +kernel
theorem dX12_price_72 : decode cX12_price 72 = .ok (.istore 5, 2) := by decide +kernel
theorem dX12_price_74 : decode cX12_price 74 = .ok (.aload_n 0, 1) := by decide +kernel
theorem dX12_price_75 : decode cX12_price 75 = .ok (.getfield 8, 3) := by decide +kernel
theorem dX12_price_78 : decode cX12_price 78 = .ok (.aload_n 0, 1) := by decide +kernel
theorem dX12_price_79 : decode cX12_price 79 = .ok (.iload_n 1, 1) := by decide +kernel
theorem dX12_price_80 : decode cX12_price 80 = .ok (.aload_n 0, 1) := by decide +kernel
theorem dX12_price_81 : decode cX12_price 81 = .ok (.getfield 8, 3) := by decide +kernel
theorem dX12_price_84 : decode cX12_price 84 = .ok (.sipush 11680, 3) := by decide +kernel
theorem dX12_price_87 : decode cX12_price 87 = .ok (.iload_n 3, 1) := by decide +kernel
theorem dX12_price_88 : decode cX12_price 88 = .ok (.iadd, 1) := by decide +kernel
theorem dX12_price_89 : decode cX12_price 89 = .ok (.iaload, 1) := by decide +kernel
theorem dX12_price_90 : decode cX12_price 90 = .ok (.invokevirtual 247, 3) := by decide +kernel
theorem dX12_price_93 : decode cX12_price 93 = .ok (.iaload, 1) := by decide +kernel
theorem dX12_price_94 : decode cX12_price 94 = .ok (.istore 6, 2) := by decide +kernel
theorem dX12_price_96 : decode cX12_price 96 = .ok (.aload_n 0, 1) := by decide +kernel
theorem dX12_price_97 : decode cX12_price 97 = .ok (.getfield 8, 3) := by decide +kernel
theorem dX12_price_100 : decode cX12_price 100 = .ok (.sipush 192, 3) := by decide +kernel
theorem dX12_price_103 : decode cX12_price 103 = .ok (.aload_n 0, 1) := by decide +kernel
theorem dX12_price_104 : decode cX12_price 104 = .ok (.getfield 8, 3) := by decide +kernel
theorem dX12_price_107 : decode cX12_price 107 = .ok (.sipush 11680, 3) := by decide +kernel
theorem dX12_price_110 : decode cX12_price 110 = .ok (.iload 4, 2) := by decide +kernel
theorem dX12_price_112 : decode cX12_price 112 = .ok (.iadd, 1) := by decide +kernel
theorem dX12_price_113 : decode cX12_price 113 = .ok (.iaload, 1) := by decide +kernel
theorem dX12_price_114 : decode cX12_price 114 = .ok (.iadd, 1) := by decide +kernel
theorem dX12_price_115 : decode cX12_price 115 = .ok (.iaload, 1) := by decide +kernel
theorem dX12_price_116 : decode cX12_price 116 = .ok (.iload 5, 2) := by decide +kernel
theorem dX12_price_118 : decode cX12_price 118 = .ok (.idiv, 1) := by decide +kernel
theorem dX12_price_119 : decode cX12_price 119 = .ok (.istore 7, 2) := by decide +kernel
theorem dX12_price_121 : decode cX12_price 121 = .ok (.aload_n 0, 1) := by decide +kernel
theorem dX12_price_122 : decode cX12_price 122 = .ok (.getfield 8, 3) := by decide +kernel
theorem dX12_price_125 : decode cX12_price 125 = .ok (.sipush 11720, 3) := by decide +kernel
theorem dX12_price_128 : decode cX12_price 128 = .ok (.iload_n 3, 1) := by decide +kernel
theorem dX12_price_129 : decode cX12_price 129 = .ok (.iadd, 1) := by decide +kernel
theorem dX12_price_130 : decode cX12_price 130 = .ok (.iaload, 1) := by decide +kernel
theorem dX12_price_131 : decode cX12_price 131 = .ok (.aload_n 0, 1) := by decide +kernel
theorem dX12_price_132 : decode cX12_price 132 = .ok (.getfield 8, 3) := by decide +kernel
theorem dX12_price_135 : decode cX12_price 135 = .ok (.sipush 11720, 3) := by decide +kernel
theorem dX12_price_138 : decode cX12_price 138 = .ok (.iload 4, 2) := by decide +kernel
theorem dX12_price_140 : decode cX12_price 140 = .ok (.iadd, 1) := by decide +kernel
theorem dX12_price_141 : decode cX12_price 141 = .ok (.iaload, 1) := by decide +kernel
theorem dX12_price_142 : decode cX12_price 142 = .ok (.if_icmp .ge 16, 3) := by decide +kernel
theorem dX12_price_145 : decode cX12_price 145 = .ok (.aload_n 0, 1) := by decide +kernel
theorem dX12_price_146 : decode cX12_price 146 = .ok (.getfield 8, 3) := by decide +kernel
theorem dX12_price_149 : decode cX12_price 149 = .ok (.sipush 11720, 3) := by decide +kernel
theorem dX12_price_152 : decode cX12_price 152 = .ok (.iload_n 3, 1) := by decide +kernel
theorem dX12_price_153 : decode cX12_price 153 = .ok (.iadd, 1) := by decide +kernel
theorem dX12_price_154 : decode cX12_price 154 = .ok (.iaload, 1) := by decide +kernel
theorem dX12_price_155 : decode cX12_price 155 = .ok (.goto 14, 3) := by decide +kernel
theorem dX12_price_158 : decode cX12_price 158 = .ok (.aload_n 0, 1) := by decide +kernel
theorem dX12_price_159 : decode cX12_price 159 = .ok (.getfield 8, 3) := by decide +kernel
theorem dX12_price_162 : decode cX12_price 162 = .ok (.sipush 11720, 3) := by decide +kernel
theorem dX12_price_165 : decode cX12_price 165 = .ok (.iload 4, 2) := by decide +kernel
theorem dX12_price_167 : decode cX12_price 167 = .ok (.iadd, 1) := by decide +kernel
theorem dX12_price_168 : decode cX12_price 168 = .ok (.iaload, 1) := by decide +kernel
theorem dX12_price_169 : decode cX12_price 169 = .ok (.istore 8, 2) := by decide +kernel
theorem dX12_price_171 : decode cX12_price 171 = .ok (.iload 6, 2) := by decide +kernel
theorem dX12_price_173 : decode cX12_price 173 = .ok (.iload 8, 2) := by decide +kernel
theorem dX12_price_175 : decode cX12_price 175 = .ok (.if_icmp .ge 8, 3) := by decide +kernel
theorem dX12_price_178 : decode cX12_price 178 = .ok (.iload 6, 2) := by decide +kernel
theorem dX12_price_180 : decode cX12_price 180 = .ok (.goto 5, 3) := by decide +kernel
theorem dX12_price_183 : decode cX12_price 183 = .ok (.iload 8, 2) := by decide +kernel
theorem dX12_price_185 : decode cX12_price 185 = .ok (.istore 8, 2) := by decide +kernel
theorem dX12_price_187 : decode cX12_price 187 = .ok (.iload 7, 2) := by decide +kernel
theorem dX12_price_189 : decode cX12_price 189 = .ok (.iload 8, 2) := by decide +kernel
theorem dX12_price_191 : decode cX12_price 191 = .ok (.if_icmp .ge 8, 3) := by decide +kernel
theorem dX12_price_194 : decode cX12_price 194 = .ok (.iload 7, 2) := by decide +kernel
theorem dX12_price_196 : decode cX12_price 196 = .ok (.goto 5, 3) := by decide +kernel
theorem dX12_price_199 : decode cX12_price 199 = .ok (.iload 8, 2) := by decide +kernel
theorem dX12_price_201 : decode cX12_price 201 = .ok (.istore 8, 2) := by decide +kernel
theorem dX12_price_203 : decode cX12_price 203 = .ok (.iload 8, 2) := by decide +kernel
theorem dX12_price_205 : decode cX12_price 205 = .ok (.ifCond .ne 27, 3) := by decide +kernel
theorem dX12_price_208 : decode cX12_price 208 = .ok (.aload_n 0, 1) := by decide +kernel
theorem dX12_price_209 : decode cX12_price 209 = .ok (.getfield 8, 3) := by decide +kernel
theorem dX12_price_212 : decode cX12_price 212 = .ok (.sipush 11720, 3) := by decide +kernel
theorem dX12_price_215 : decode cX12_price 215 = .ok (.iload 6, 2) := by decide +kernel
theorem dX12_price_217 : decode cX12_price 217 = .ok (.ifCond .ne 7, 3) := by decide +kernel
theorem dX12_price_220 : decode cX12_price 220 = .ok (.iload_n 3, 1) := by decide +kernel
theorem dX12_price_221 : decode cX12_price 221 = .ok (.goto 5, 3) := by decide +kernel
theorem dX12_price_224 : decode cX12_price 224 = .ok (.iload 4, 2) := by decide +kernel
theorem dX12_price_226 : decode cX12_price 226 = .ok (.iadd, 1) := by decide +kernel
theorem dX12_price_227 : decode cX12_price 227 = .ok (.iconst 0, 1) := by decide +kernel
theorem dX12_price_228 : decode cX12_price 228 = .ok (.iastore, 1) := by decide +kernel
theorem dX12_price_229 : decode cX12_price 229 = .ok (.goto 161, 3) := by decide +kernel
theorem dX12_price_232 : decode cX12_price 232 = .ok (.aload_n 0, 1) := by decide +kernel
theorem dX12_price_233 : decode cX12_price 233 = .ok (.getfield 8, 3) := by decide +kernel
theorem dX12_price_236 : decode cX12_price 236 = .ok (.aload_n 0, 1) := by decide +kernel
theorem dX12_price_237 : decode cX12_price 237 = .ok (.iload_n 1, 1) := by decide +kernel
theorem dX12_price_238 : decode cX12_price 238 = .ok (.aload_n 0, 1) := by decide +kernel
theorem dX12_price_239 : decode cX12_price 239 = .ok (.getfield 8, 3) := by decide +kernel
theorem dX12_price_242 : decode cX12_price 242 = .ok (.sipush 11680, 3) := by decide +kernel
theorem dX12_price_245 : decode cX12_price 245 = .ok (.iload_n 3, 1) := by decide +kernel
theorem dX12_price_246 : decode cX12_price 246 = .ok (.iadd, 1) := by decide +kernel
theorem dX12_price_247 : decode cX12_price 247 = .ok (.iaload, 1) := by decide +kernel
theorem dX12_price_248 : decode cX12_price 248 = .ok (.invokevirtual 247, 3) := by decide +kernel
theorem dX12_price_251 : decode cX12_price 251 = .ok (.dup2, 1) := by decide +kernel
theorem dX12_price_252 : decode cX12_price 252 = .ok (.iaload, 1) := by decide +kernel
theorem dX12_price_253 : decode cX12_price 253 = .ok (.iload 8, 2) := by decide +kernel
theorem dX12_price_255 : decode cX12_price 255 = .ok (.isub, 1) := by decide +kernel
theorem dX12_price_256 : decode cX12_price 256 = .ok (.iastore, 1) := by decide +kernel
theorem dX12_price_257 : decode cX12_price 257 = .ok (.aload_n 0, 1) := by decide +kernel
theorem dX12_price_258 : decode cX12_price 258 = .ok (.getfield 8, 3) := by decide +kernel
theorem dX12_price_261 : decode cX12_price 261 = .ok (.aload_n 0, 1) := by decide +kernel
theorem dX12_price_262 : decode cX12_price 262 = .ok (.iload_n 1, 1) := by decide +kernel
theorem dX12_price_263 : decode cX12_price 263 = .ok (.aload_n 0, 1) := by decide +kernel
theorem dX12_price_264 : decode cX12_price 264 = .ok (.getfield 8, 3) := by decide +kernel
theorem dX12_price_267 : decode cX12_price 267 = .ok (.sipush 11680, 3) := by decide +kernel
theorem dX12_price_270 : decode cX12_price 270 = .ok (.iload 4, 2) := by decide +kernel
theorem dX12_price_272 : decode cX12_price 272 = .ok (.iadd, 1) := by decide +kernel
theorem dX12_price_273 : decode cX12_price 273 = .ok (.iaload, 1) := by decide +kernel
theorem dX12_price_274 : decode cX12_price 274 = .ok (.invokevirtual 247, 3) := by decide +kernel
theorem dX12_price_277 : decode cX12_price 277 = .ok (.dup2, 1) := by decide +kernel
theorem dX12_price_278 : decode cX12_price 278 = .ok (.iaload, 1) := by decide +kernel
theorem dX12_price_279 : decode cX12_price 279 = .ok (.iload 8, 2) := by decide +kernel
theorem dX12_price_281 : decode cX12_price 281 = .ok (.iadd, 1) := by decide +kernel
theorem dX12_price_282 : decode cX12_price 282 = .ok (.iastore, 1) := by decide +kernel
theorem dX12_price_283 : decode cX12_price 283 = .ok (.aload_n 0, 1) := by decide +kernel
theorem dX12_price_284 : decode cX12_price 284 = .ok (.getfield 8, 3) := by decide +kernel
theorem dX12_price_287 : decode cX12_price 287 = .ok (.sipush 192, 3) := by decide +kernel
theorem dX12_price_290 : decode cX12_price 290 = .ok (.aload_n 0, 1) := by decide +kernel
theorem dX12_price_291 : decode cX12_price 291 = .ok (.getfield 8, 3) := by decide +kernel
theorem dX12_price_294 : decode cX12_price 294 = .ok (.sipush 11680, 3) := by decide +kernel
theorem dX12_price_297 : decode cX12_price 297 = .ok (.iload 4, 2) := by decide +kernel
theorem dX12_price_299 : decode cX12_price 299 = .ok (.iadd, 1) := by decide +kernel
theorem dX12_price_300 : decode cX12_price 300 = .ok (.iaload, 1) := by decide +kernel
theorem dX12_price_301 : decode cX12_price 301 = .ok (.iadd, 1) := by decide +kernel
theorem dX12_price_302 : decode cX12_price 302 = .ok (.dup2, 1) := by decide +kernel
theorem dX12_price_303 : decode cX12_price 303 = .ok (.iaload, 1) := by decide +kernel
theorem dX12_price_304 : decode cX12_price 304 = .ok (.iload 8, 2) := by decide +kernel
theorem dX12_price_306 : decode cX12_price 306 = .ok (.iload 5, 2) := by decide +kernel
theorem dX12_price_308 : decode cX12_price 308 = .ok (.imul, 1) := by decide +kernel
theorem dX12_price_309 : decode cX12_price 309 = .ok (.isub, 1) := by decide +kernel
theorem dX12_price_310 : decode cX12_price 310 = .ok (.iastore, 1) := by decide +kernel
theorem dX12_price_311 : decode cX12_price 311 = .ok (.aload_n 0, 1) := by decide +kernel
theorem dX12_price_312 : decode cX12_price 312 = .ok (.getfield 8, 3) := by decide +kernel
theorem dX12_price_315 : decode cX12_price 315 = .ok (.sipush 192, 3) := by decide +kernel
theorem dX12_price_318 : decode cX12_price 318 = .ok (.aload_n 0, 1) := by decide +kernel
theorem dX12_price_319 : decode cX12_price 319 = .ok (.getfield 8, 3) := by decide +kernel
theorem dX12_price_322 : decode cX12_price 322 = .ok (.sipush 11680, 3) := by decide +kernel
theorem dX12_price_325 : decode cX12_price 325 = .ok (.iload_n 3, 1) := by decide +kernel
theorem dX12_price_326 : decode cX12_price 326 = .ok (.iadd, 1) := by decide +kernel
theorem dX12_price_327 : decode cX12_price 327 = .ok (.iaload, 1) := by decide +kernel
theorem dX12_price_328 : decode cX12_price 328 = .ok (.iadd, 1) := by decide +kernel
theorem dX12_price_329 : decode cX12_price 329 = .ok (.dup2, 1) := by decide +kernel
theorem dX12_price_330 : decode cX12_price 330 = .ok (.iaload, 1) := by decide +kernel
theorem dX12_price_331 : decode cX12_price 331 = .ok (.iload 8, 2) := by decide +kernel
theorem dX12_price_333 : decode cX12_price 333 = .ok (.iload 5, 2) := by decide +kernel
theorem dX12_price_335 : decode cX12_price 335 = .ok (.imul, 1) := by decide +kernel
theorem dX12_price_336 : decode cX12_price 336 = .ok (.iadd, 1) := by decide +kernel
theorem dX12_price_337 : decode cX12_price 337 = .ok (.iastore, 1) := by decide +kernel
theorem dX12_price_338 : decode cX12_price 338 = .ok (.aload_n 0, 1) := by decide +kernel
theorem dX12_price_339 : decode cX12_price 339 = .ok (.getfield 8, 3) := by decide +kernel
theorem dX12_price_342 : decode cX12_price 342 = .ok (.sipush 11720, 3) := by decide +kernel
theorem dX12_price_345 : decode cX12_price 345 = .ok (.iload_n 3, 1) := by decide +kernel
theorem dX12_price_346 : decode cX12_price 346 = .ok (.iadd, 1) := by decide +kernel
theorem dX12_price_347 : decode cX12_price 347 = .ok (.dup2, 1) := by decide +kernel
theorem dX12_price_348 : decode cX12_price 348 = .ok (.iaload, 1) := by decide +kernel
theorem dX12_price_349 : decode cX12_price 349 = .ok (.iload 8, 2) := by decide +kernel
theorem dX12_price_351 : decode cX12_price 351 = .ok (.isub, 1) := by decide +kernel
theorem dX12_price_352 : decode cX12_price 352 = .ok (.iastore, 1) := by decide +kernel
theorem dX12_price_353 : decode cX12_price 353 = .ok (.aload_n 0, 1) := by decide +kernel
theorem dX12_price_354 : decode cX12_price 354 = .ok (.getfield 8, 3) := by decide +kernel
theorem dX12_price_357 : decode cX12_price 357 = .ok (.sipush 11720, 3) := by decide +kernel
theorem dX12_price_360 : decode cX12_price 360 = .ok (.iload 4, 2) := by decide +kernel
theorem dX12_price_362 : decode cX12_price 362 = .ok (.iadd, 1) := by decide +kernel
theorem dX12_price_363 : decode cX12_price 363 = .ok (.dup2, 1) := by decide +kernel
theorem dX12_price_364 : decode cX12_price 364 = .ok (.iaload, 1) := by decide +kernel
theorem dX12_price_365 : decode cX12_price 365 = .ok (.iload 8, 2) := by decide +kernel
theorem dX12_price_367 : decode cX12_price 367 = .ok (.isub, 1) := by decide +kernel
theorem dX12_price_368 : decode cX12_price 368 = .ok (.iastore, 1) := by decide +kernel
theorem dX12_price_369 : decode cX12_price 369 = .ok (.aload_n 0, 1) := by decide +kernel
theorem dX12_price_370 : decode cX12_price 370 = .ok (.getfield 8, 3) := by decide +kernel
theorem dX12_price_373 : decode cX12_price 373 = .ok (.sipush 11514, 3) := by decide +kernel
theorem dX12_price_376 : decode cX12_price 376 = .ok (.aload_n 0, 1) := by decide +kernel
theorem dX12_price_377 : decode cX12_price 377 = .ok (.iload_n 1, 1) := by decide +kernel
theorem dX12_price_378 : decode cX12_price 378 = .ok (.invokevirtual 238, 3) := by decide +kernel
theorem dX12_price_381 : decode cX12_price 381 = .ok (.iadd, 1) := by decide +kernel
theorem dX12_price_382 : decode cX12_price 382 = .ok (.iload 5, 2) := by decide +kernel
theorem dX12_price_384 : decode cX12_price 384 = .ok (.iastore, 1) := by decide +kernel
theorem dX12_price_385 : decode cX12_price 385 = .ok (.iload_n 2, 1) := by decide +kernel
theorem dX12_price_386 : decode cX12_price 386 = .ok (.iload 8, 2) := by decide +kernel
theorem dX12_price_388 : decode cX12_price 388 = .ok (.iadd, 1) := by decide +kernel
theorem dX12_price_389 : decode cX12_price 389 = .ok (.istore_n 2, 1) := by decide +kernel
theorem dX12_price_390 : decode cX12_price 390 = .ok (.aload_n 0, 1) := by decide +kernel
theorem dX12_price_391 : decode cX12_price 391 = .ok (.iload_n 1, 1) := by decide +kernel
theorem dX12_price_392 : decode cX12_price 392 = .ok (.iconst 0, 1) := by decide +kernel
theorem dX12_price_393 : decode cX12_price 393 = .ok (.invokevirtual 250, 3) := by decide +kernel
theorem dX12_price_396 : decode cX12_price 396 = .ok (.istore_n 3, 1) := by decide +kernel
theorem dX12_price_397 : decode cX12_price 397 = .ok (.aload_n 0, 1) := by decide +kernel
theorem dX12_price_398 : decode cX12_price 398 = .ok (.iload_n 1, 1) := by decide +kernel
theorem dX12_price_399 : decode cX12_price 399 = .ok (.iconst 1, 1) := by decide +kernel
theorem dX12_price_400 : decode cX12_price 400 = .ok (.invokevirtual 250, 3) := by decide +kernel
theorem dX12_price_403 : decode cX12_price 403 = .ok (.istore 4, 2) := by decide +kernel
theorem dX12_price_405 : decode cX12_price 405 = .ok (.goto (-378), 3) := by decide +kernel
theorem dX12_price_408 : decode cX12_price 408 = .ok (.iconst 0, 1) := by decide +kernel
theorem dX12_price_409 : decode cX12_price 409 = .ok (.istore 5, 2) := by decide +kernel
theorem dX12_price_411 : decode cX12_price 411 = .ok (.iconst 0, 1) := by decide +kernel
theorem dX12_price_412 : decode cX12_price 412 = .ok (.istore 6, 2) := by decide +kernel
theorem dX12_price_414 : decode cX12_price 414 = .ok (.iload 6, 2) := by decide +kernel
theorem dX12_price_416 : decode cX12_price 416 = .ok (.aload_n 0, 1) := by decide +kernel
theorem dX12_price_417 : decode cX12_price 417 = .ok (.getfield 8, 3) := by decide +kernel
theorem dX12_price_420 : decode cX12_price 420 = .ok (.bipush 8, 2) := by decide +kernel
theorem dX12_price_422 : decode cX12_price 422 = .ok (.iaload, 1) := by decide +kernel
theorem dX12_price_423 : decode cX12_price 423 = .ok (.if_icmp .ge 137, 3) := by decide +kernel
theorem dX12_price_426 : decode cX12_price 426 = .ok (.aload_n 0, 1) := by decide +kernel
theorem dX12_price_427 : decode cX12_price 427 = .ok (.getfield 8, 3) := by decide +kernel
theorem dX12_price_430 : decode cX12_price 430 = .ok (.sipush 11640, 3) := by decide +kernel
theorem dX12_price_433 : decode cX12_price 433 = .ok (.iload 6, 2) := by decide +kernel
theorem dX12_price_435 : decode cX12_price 435 = .ok (.iadd, 1) := by decide +kernel
theorem dX12_price_436 : decode cX12_price 436 = .ok (.iaload, 1) := by decide +kernel
theorem dX12_price_437 : decode cX12_price 437 = .ok (.iload_n 1, 1) := by decide +kernel
theorem dX12_price_438 : decode cX12_price 438 = .ok (.if_icmp .eq 116, 3) := by decide +kernel
theorem dX12_price_441 : decode cX12_price 441 = .ok (.aload_n 0, 1) := by decide +kernel
theorem dX12_price_442 : decode cX12_price 442 = .ok (.getfield 8, 3) := by decide +kernel
theorem dX12_price_445 : decode cX12_price 445 = .ok (.sipush 11640, 3) := by decide +kernel
theorem dX12_price_448 : decode cX12_price 448 = .ok (.iload 5, 2) := by decide +kernel
theorem dX12_price_450 : decode cX12_price 450 = .ok (.iadd, 1) := by decide +kernel
theorem dX12_price_451 : decode cX12_price 451 = .ok (.aload_n 0, 1) := by decide +kernel
theorem dX12_price_452 : decode cX12_price 452 = .ok (.getfield 8, 3) := by decide +kernel
theorem dX12_price_455 : decode cX12_price 455 = .ok (.sipush 11640, 3) := by decide +kernel
theorem dX12_price_458 : decode cX12_price 458 = .ok (.iload 6, 2) := by decide +kernel
theorem dX12_price_460 : decode cX12_price 460 = .ok (.iadd, 1) := by decide +kernel
theorem dX12_price_461 : decode cX12_price 461 = .ok (.iaload, 1) := by decide +kernel
theorem dX12_price_462 : decode cX12_price 462 = .ok (.iastore, 1) := by decide +kernel
theorem dX12_price_463 : decode cX12_price 463 = .ok (.aload_n 0, 1) := by decide +kernel
theorem dX12_price_464 : decode cX12_price 464 = .ok (.getfield 8, 3) := by decide +kernel
theorem dX12_price_467 : decode cX12_price 467 = .ok (.sipush 11680, 3) := by decide +kernel
theorem dX12_price_470 : decode cX12_price 470 = .ok (.iload 5, 2) := by decide +kernel
theorem dX12_price_472 : decode cX12_price 472 = .ok (.iadd, 1) := by decide +kernel
theorem dX12_price_473 : decode cX12_price 473 = .ok (.aload_n 0, 1) := by decide +kernel
theorem dX12_price_474 : decode cX12_price 474 = .ok (.getfield 8, 3) := by decide +kernel
theorem dX12_price_477 : decode cX12_price 477 = .ok (.sipush 11680, 3) := by decide +kernel
theorem dX12_price_480 : decode cX12_price 480 = .ok (.iload 6, 2) := by decide +kernel
theorem dX12_price_482 : decode cX12_price 482 = .ok (.iadd, 1) := by decide +kernel
theorem dX12_price_483 : decode cX12_price 483 = .ok (.iaload, 1) := by decide +kernel
theorem dX12_price_484 : decode cX12_price 484 = .ok (.iastore, 1) := by decide +kernel
theorem dX12_price_485 : decode cX12_price 485 = .ok (.aload_n 0, 1) := by decide +kernel
theorem dX12_price_486 : decode cX12_price 486 = .ok (.getfield 8, 3) := by decide +kernel
theorem dX12_price_489 : decode cX12_price 489 = .ok (.sipush 11720, 3) := by decide +kernel
theorem dX12_price_492 : decode cX12_price 492 = .ok (.iload 5, 2) := by decide +kernel
theorem dX12_price_494 : decode cX12_price 494 = .ok (.iadd, 1) := by decide +kernel
theorem dX12_price_495 : decode cX12_price 495 = .ok (.aload_n 0, 1) := by decide +kernel
theorem dX12_price_496 : decode cX12_price 496 = .ok (.getfield 8, 3) := by decide +kernel
theorem dX12_price_499 : decode cX12_price 499 = .ok (.sipush 11720, 3) := by decide +kernel
theorem dX12_price_502 : decode cX12_price 502 = .ok (.iload 6, 2) := by decide +kernel
theorem dX12_price_504 : decode cX12_price 504 = .ok (.iadd, 1) := by decide +kernel
theorem dX12_price_505 : decode cX12_price 505 = .ok (.iaload, 1) := by decide +kernel
theorem dX12_price_506 : decode cX12_price 506 = .ok (.iastore, 1) := by decide +kernel
theorem dX12_price_507 : decode cX12_price 507 = .ok (.aload_n 0, 1) := by decide +kernel
theorem dX12_price_508 : decode cX12_price 508 = .ok (.getfield 8, 3) := by decide +kernel
theorem dX12_price_511 : decode cX12_price 511 = .ok (.sipush 11760, 3) := by decide +kernel
theorem dX12_price_514 : decode cX12_price 514 = .ok (.iload 5, 2) := by decide +kernel
theorem dX12_price_516 : decode cX12_price 516 = .ok (.iadd, 1) := by decide +kernel
theorem dX12_price_517 : decode cX12_price 517 = .ok (.aload_n 0, 1) := by decide +kernel
theorem dX12_price_518 : decode cX12_price 518 = .ok (.getfield 8, 3) := by decide +kernel
theorem dX12_price_521 : decode cX12_price 521 = .ok (.sipush 11760, 3) := by decide +kernel
theorem dX12_price_524 : decode cX12_price 524 = .ok (.iload 6, 2) := by decide +kernel
theorem dX12_price_526 : decode cX12_price 526 = .ok (.iadd, 1) := by decide +kernel
theorem dX12_price_527 : decode cX12_price 527 = .ok (.iaload, 1) := by decide +kernel
theorem dX12_price_528 : decode cX12_price 528 = .ok (.iastore, 1) := by decide +kernel
theorem dX12_price_529 : decode cX12_price 529 = .ok (.aload_n 0, 1) := by decide +kernel
theorem dX12_price_530 : decode cX12_price 530 = .ok (.getfield 8, 3) := by decide +kernel
theorem dX12_price_533 : decode cX12_price 533 = .ok (.sipush 11800, 3) := by decide +kernel
theorem dX12_price_536 : decode cX12_price 536 = .ok (.iload 5, 2) := by decide +kernel
theorem dX12_price_538 : decode cX12_price 538 = .ok (.iadd, 1) := by decide +kernel
theorem dX12_price_539 : decode cX12_price 539 = .ok (.aload_n 0, 1) := by decide +kernel
theorem dX12_price_540 : decode cX12_price 540 = .ok (.getfield 8, 3) := by decide +kernel
theorem dX12_price_543 : decode cX12_price 543 = .ok (.sipush 11800, 3) := by decide +kernel
theorem dX12_price_546 : decode cX12_price 546 = .ok (.iload 6, 2) := by decide +kernel
theorem dX12_price_548 : decode cX12_price 548 = .ok (.iadd, 1) := by decide +kernel
theorem dX12_price_549 : decode cX12_price 549 = .ok (.iaload, 1) := by decide +kernel
theorem dX12_price_550 : decode cX12_price 550 = .ok (.iastore, 1) := by decide +kernel
theorem dX12_price_551 : decode cX12_price 551 = .ok (.iinc 5 1, 3) := by decide +kernel
theorem dX12_price_554 : decode cX12_price 554 = .ok (.iinc 6 1, 3) := by decide +kernel
theorem dX12_price_557 : decode cX12_price 557 = .ok (.goto (-143), 3) := by decide +kernel
theorem dX12_price_560 : decode cX12_price 560 = .ok (.aload_n 0, 1) := by decide +kernel
theorem dX12_price_561 : decode cX12_price 561 = .ok (.getfield 8, 3) := by decide +kernel
theorem dX12_price_564 : decode cX12_price 564 = .ok (.bipush 8, 2) := by decide +kernel
theorem dX12_price_566 : decode cX12_price 566 = .ok (.iload 5, 2) := by decide +kernel
theorem dX12_price_568 : decode cX12_price 568 = .ok (.iastore, 1) := by decide +kernel
theorem dX12_price_569 : decode cX12_price 569 = .ok (.iload_n 2, 1) := by decide +kernel
theorem dX12_price_570 : decode cX12_price 570 = .ok (.ireturn, 1) := by decide +kernel
theorem cm_X12_price : CM yX12_price cX12_price 9 (some .int) 1 12 := ⟨w_1794, w_1795, w_1796, w_97, ⟨by decide +kernel, by decide +kernel, by decide +kernel⟩, ⟨_, _, rfl⟩, by decide⟩
noncomputable def f_X12_price_554 (n : Nat) (rec414 : Int → Int → MM → RR) (v0 v1 v2 v5 v6 : Int) (h : MM) : RR :=
  lb (wr (v6 + 1)) fun x1 =>
  rec414 v5 x1 h
noncomputable def f_X12_price_414b (n : Nat) (rec414 : Int → Int → MM → RR) (v0 v1 v2 v5 v6 : Int) (h : MM) : RR :=
  gf h v0 12 1 fun r1 =>
  rd h r1 100 8 fun r2 =>
  if r2 ≤ v6 then
    gf h v0 12 1 fun r4 =>
    wt h r4 100 8 v5 fun h5 =>
    some (v2, h5)
  else
  gf h v0 12 1 fun r6 =>
  rd h r6 100 (wr (11640 + v6)) fun r7 =>
  if r7 = v1 then
    f_X12_price_554 n rec414 v0 v1 v2 v5 v6 h
  else
  gf h v0 12 1 fun r9 =>
  gf h v0 12 1 fun r10 =>
  rd h r10 100 (wr (11640 + v6)) fun r11 =>
  wt h r9 100 (wr (11640 + v5)) r11 fun h12 =>
  gf h12 v0 12 1 fun r13 =>
  gf h12 v0 12 1 fun r14 =>
  rd h12 r14 100 (wr (11680 + v6)) fun r15 =>
  wt h12 r13 100 (wr (11680 + v5)) r15 fun h16 =>
  gf h16 v0 12 1 fun r17 =>
  gf h16 v0 12 1 fun r18 =>
  rd h16 r18 100 (wr (11720 + v6)) fun r19 =>
  wt h16 r17 100 (wr (11720 + v5)) r19 fun h20 =>
  gf h20 v0 12 1 fun r21 =>
  gf h20 v0 12 1 fun r22 =>
  rd h20 r22 100 (wr (11760 + v6)) fun r23 =>
  wt h20 r21 100 (wr (11760 + v5)) r23 fun h24 =>
  gf h24 v0 12 1 fun r25 =>
  gf h24 v0 12 1 fun r26 =>
  rd h24 r26 100 (wr (11800 + v6)) fun r27 =>
  wt h24 r25 100 (wr (11800 + v5)) r27 fun h28 =>
  lb (wr (v5 + 1)) fun x29 =>
  f_X12_price_554 n rec414 v0 v1 v2 x29 v6 h28
noncomputable def f_X12_price_414 (n : Nat)  (v0 v1 v2 : Int) : Nat → Int → Int → MM → RR
  | 0, _, _, _ => none
  | k + 1, v5, v6, h => f_X12_price_414b n  (f_X12_price_414 n  v0 v1 v2 k) v0 v1 v2 v5 v6 h
noncomputable def f_X12_price_408 (n : Nat)  (v0 v1 v2 : Int) (h : MM) : RR :=
  f_X12_price_414 n v0 v1 v2 n 0 0 h
noncomputable def f_X12_price_390 (n : Nat) (rec27 : Int → Int → Int → MM → RR) (v0 v1 v2 : Int) (h : MM) : RR :=
  gk h v0 12 <|
  bd (f_X12_bestOf n v0 v1 0 h) fun r1 h1 =>
  gk h1 v0 12 <|
  bd (f_X12_bestOf n v0 v1 1 h1) fun r2 h2 =>
  rec27 v2 r1 r2 h2
noncomputable def f_X12_price_226 (n : Nat) (rec27 : Int → Int → Int → MM → RR) (v0 v1 v2 s0 s1 s2 : Int) (h : MM) : RR :=
  wt h s0 100 (wr (s1 + s2)) 0 fun h1 =>
  f_X12_price_390 n rec27 v0 v1 v2 h1
noncomputable def f_X12_price_201 (n : Nat) (rec27 : Int → Int → Int → MM → RR) (v0 v1 v2 v3 v4 v5 v6 s0 : Int) (h : MM) : RR :=
  if s0 = 0 then
    gf h v0 12 1 fun r34 =>
    if v6 = 0 then
      f_X12_price_226 n rec27 v0 v1 v2 r34 11720 v3 h
    else
    f_X12_price_226 n rec27 v0 v1 v2 r34 11720 v4 h
  else
  gf h v0 12 1 fun r2 =>
  gf h v0 12 1 fun r3 =>
  rd h r3 100 (wr (11680 + v3)) fun r4 =>
  gk h v0 12 <|
  bd (f_X12_sharesAt n v0 v1 r4 h) fun r5 h5 =>
  rd h5 r2 100 r5 fun r6 =>
  wt h5 r2 100 r5 (wr (r6 - s0)) fun h7 =>
  gf h7 v0 12 1 fun r8 =>
  gf h7 v0 12 1 fun r9 =>
  rd h7 r9 100 (wr (11680 + v4)) fun r10 =>
  gk h7 v0 12 <|
  bd (f_X12_sharesAt n v0 v1 r10 h7) fun r11 h11 =>
  rd h11 r8 100 r11 fun r12 =>
  wt h11 r8 100 r11 (wr (r12 + s0)) fun h13 =>
  gf h13 v0 12 1 fun r14 =>
  gf h13 v0 12 1 fun r15 =>
  rd h13 r15 100 (wr (11680 + v4)) fun r16 =>
  rd h13 r14 100 (wr (192 + r16)) fun r17 =>
  wt h13 r14 100 (wr (192 + r16)) (wr (r17 - (wr (s0 * v5)))) fun h18 =>
  gf h18 v0 12 1 fun r19 =>
  gf h18 v0 12 1 fun r20 =>
  rd h18 r20 100 (wr (11680 + v3)) fun r21 =>
  rd h18 r19 100 (wr (192 + r21)) fun r22 =>
  wt h18 r19 100 (wr (192 + r21)) (wr (r22 + (wr (s0 * v5)))) fun h23 =>
  gf h23 v0 12 1 fun r24 =>
  rd h23 r24 100 (wr (11720 + v3)) fun r25 =>
  wt h23 r24 100 (wr (11720 + v3)) (wr (r25 - s0)) fun h26 =>
  gf h26 v0 12 1 fun r27 =>
  rd h26 r27 100 (wr (11720 + v4)) fun r28 =>
  wt h26 r27 100 (wr (11720 + v4)) (wr (r28 - s0)) fun h29 =>
  gf h29 v0 12 1 fun r30 =>
  gk h29 v0 12 <|
  bd (f_X12_indexOf n v0 v1 h29) fun r31 h31 =>
  wt h31 r30 100 (wr (11514 + r31)) v5 fun h32 =>
  lb (wr (v2 + s0)) fun x33 =>
  f_X12_price_390 n rec27 v0 v1 x33 h32
noncomputable def f_X12_price_185 (n : Nat) (rec27 : Int → Int → Int → MM → RR) (v0 v1 v2 v3 v4 v5 v6 v7 s0 : Int) (h : MM) : RR :=
  if s0 ≤ v7 then
    f_X12_price_201 n rec27 v0 v1 v2 v3 v4 v5 v6 s0 h
  else
  f_X12_price_201 n rec27 v0 v1 v2 v3 v4 v5 v6 v7 h
noncomputable def f_X12_price_169 (n : Nat) (rec27 : Int → Int → Int → MM → RR) (v0 v1 v2 v3 v4 v5 v6 v7 s0 : Int) (h : MM) : RR :=
  if s0 ≤ v6 then
    f_X12_price_185 n rec27 v0 v1 v2 v3 v4 v5 v6 v7 s0 h
  else
  f_X12_price_185 n rec27 v0 v1 v2 v3 v4 v5 v6 v7 v6 h
noncomputable def f_X12_price_27b (n : Nat) (rec27 : Int → Int → Int → MM → RR) (v0 v1 v2 v3 v4 : Int) (h : MM) : RR :=
  if v3 = (-1) then
    f_X12_price_408 n v0 v1 v2 h
  else
  if v4 = (-1) then
    f_X12_price_408 n v0 v1 v2 h
  else
  gf h v0 12 1 fun r3 =>
  rd h r3 100 (wr (11760 + v4)) fun r4 =>
  gf h v0 12 1 fun r5 =>
  rd h r5 100 (wr (11760 + v3)) fun r6 =>
  if r4 < r6 then
    f_X12_price_408 n v0 v1 v2 h
  else
  gf h v0 12 1 fun r8 =>
  rd h r8 100 (wr (11760 + v3)) fun r9 =>
  gf h v0 12 1 fun r10 =>
  gf h v0 12 1 fun r11 =>
  rd h r11 100 (wr (11680 + v3)) fun r12 =>
  gk h v0 12 <|
  bd (f_X12_sharesAt n v0 v1 r12 h) fun r13 h13 =>
  rd h13 r10 100 r13 fun r14 =>
  gf h13 v0 12 1 fun r15 =>
  gf h13 v0 12 1 fun r16 =>
  rd h13 r16 100 (wr (11680 + v4)) fun r17 =>
  rd h13 r15 100 (wr (192 + r17)) fun r18 =>
  dz r9 <|
  lb (idv r18 r9) fun x20 =>
  gf h13 v0 12 1 fun r21 =>
  rd h13 r21 100 (wr (11720 + v3)) fun r22 =>
  gf h13 v0 12 1 fun r23 =>
  rd h13 r23 100 (wr (11720 + v4)) fun r24 =>
  if r24 ≤ r22 then
    gf h13 v0 12 1 fun r26 =>
    rd h13 r26 100 (wr (11720 + v4)) fun r27 =>
    f_X12_price_169 n rec27 v0 v1 v2 v3 v4 r9 r14 x20 r27 h13
  else
  gf h13 v0 12 1 fun r28 =>
  rd h13 r28 100 (wr (11720 + v3)) fun r29 =>
  f_X12_price_169 n rec27 v0 v1 v2 v3 v4 r9 r14 x20 r29 h13
noncomputable def f_X12_price_27 (n : Nat)  (v0 v1 : Int) : Nat → Int → Int → Int → MM → RR
  | 0, _, _, _, _ => none
  | k + 1, v2, v3, v4, h => f_X12_price_27b n  (f_X12_price_27 n  v0 v1 k) v0 v1 v2 v3 v4 h
noncomputable def f_X12_price (n : Nat) (v0 v1 : Int) (h : MM) : RR :=
  gk h v0 12 <|
  bd (f_X12_isScheme n v0 v1 h) fun r1 h1 =>
  if r1 = 0 then
    some ((-1), h1)
  else
  gk h1 v0 12 <|
  bd (f_X12_bestOf n v0 v1 0 h1) fun r3 h3 =>
  gk h3 v0 12 <|
  bd (f_X12_bestOf n v0 v1 1 h3) fun r4 h4 =>
  f_X12_price_27 n v0 v1 n 0 r3 r4 h4
set_option maxRecDepth 20000 in
theorem b_X12_price_554 {g : GT} {Z : Int × MM} {n : Nat} (C : Cx g cX12_price 9 yX12_price 4 86) (hr : Rt g (some .int) 0 Z) {v0 v1 v2 v5 v6 : Int}  {rec414 : Int → Int → MM → RR} (L414 : ∀ (u5 u6 : Int) (h : MM), in32 u5 → in32 u6 → rec414 u5 u6 h = some Z → G g 414 [(2, v0), (0, v1), (0, v2), (3, 0), (3, 0), (0, u5), (0, u6), (3, 0), (3, 0)] [] h) (cv1 : in32 v1) (cv2 : in32 v2) (cv5 : in32 v5) (cv6 : in32 v6) {h : MM} (hf : f_X12_price_554 n rec414 v0 v1 v2 v5 v6 h = some Z) : G g 554 [(2, v0), (0, v1), (0, v2), (3, 0), (3, 0), (0, v5), (0, v6), (3, 0), (3, 0)] [] h := by
  unfold f_X12_price_554 at hf
  obtain ⟨x1, e1, hf⟩ := lb_s hf
  have c1 : in32 x1 := by rw [e1]; exact (in32_t _)
  refine r_iincL C dX12_price_554 rfl e1 (Nat.le_of_ble_eq_true rfl) rfl ?_
  refine r_goto C dX12_price_557 (tgt := 414) (by decide) ?_
  exact G.mask [true, true, true, false, false, true, true, false, false] rfl rfl (L414 _ _ _ cv5 c1 hf)
set_option maxRecDepth 20000 in
theorem b_X12_price_414b {g : GT} {Z : Int × MM} {n : Nat} (C : Cx g cX12_price 9 yX12_price 4 86) (hr : Rt g (some .int) 0 Z) {v0 v1 v2 v5 v6 : Int}  {rec414 : Int → Int → MM → RR} (L414 : ∀ (u5 u6 : Int) (h : MM), in32 u5 → in32 u6 → rec414 u5 u6 h = some Z → G g 414 [(2, v0), (0, v1), (0, v2), (3, 0), (3, 0), (0, u5), (0, u6), (3, 0), (3, 0)] [] h) (cv1 : in32 v1) (cv2 : in32 v2) (cv5 : in32 v5) (cv6 : in32 v6) {h : MM} (hf : f_X12_price_414b n rec414 v0 v1 v2 v5 v6 h = some Z) : G g 414 [(2, v0), (0, v1), (0, v2), (3, 0), (3, 0), (0, v5), (0, v6), (3, 0), (3, 0)] [] h := by
  unfold f_X12_price_414b at hf
  refine r_iload C dX12_price_414 rfl ?_
  refine r_aload_n C dX12_price_416 rfl ?_
  obtain ⟨q1, hf⟩ := gf_s hf
  refine r_gf C ct12 (j := 1) (ji := 1) dX12_price_417 q1 rfl rfl (by decide) w_1426 rfl (fun c1 => ?_)
  refine r_bipush C dX12_price_420 rfl ?_
  obtain ⟨q2, hf⟩ := rd_s hf
  refine r_iald C dX12_price_422 q2 rfl (fun c2 => ?_)
  refine r_icmp_ge C dX12_price_423 (tgt := 560) (by decide) cv6 c2 (fun n3 => ?_) (fun n3 => ?_)
  · have hf := ite_p n3 hf
    refine r_aload_n C dX12_price_560 rfl ?_
    obtain ⟨q4, hf⟩ := gf_s hf
    refine r_gf C ct12 (j := 1) (ji := 1) dX12_price_561 q4 rfl rfl (by decide) w_1426 rfl (fun c4 => ?_)
    refine r_bipush C dX12_price_564 rfl ?_
    refine r_iload C dX12_price_566 rfl ?_
    obtain ⟨q5, hf⟩ := wt_s hf
    refine r_iast C dX12_price_568 q5 rfl cv5 ?_
    refine r_iload_n C dX12_price_569 rfl ?_
    cases hf
    exact r_jret C hr dX12_price_570 cv2
  · have hf := ite_n n3 hf
    refine r_aload_n C dX12_price_426 rfl ?_
    obtain ⟨q6, hf⟩ := gf_s hf
    refine r_gf C ct12 (j := 1) (ji := 1) dX12_price_427 q6 rfl rfl (by decide) w_1426 rfl (fun c6 => ?_)
    refine r_sipush C dX12_price_430 rfl ?_
    refine r_iload C dX12_price_433 rfl ?_
    refine r_iadd C dX12_price_435 ?_
    obtain ⟨q7, hf⟩ := rd_s hf
    refine r_iald C dX12_price_436 q7 rfl (fun c7 => ?_)
    refine r_iload_n C dX12_price_437 rfl ?_
    refine r_icmp_eq C dX12_price_438 (tgt := 554) (by decide) c7 cv1 (fun n8 => ?_) (fun n8 => ?_)
    · have hf := ite_p n8 hf
      exact G.mask [true, true, true, false, false, true, true, false, false] rfl rfl (b_X12_price_554 C hr L414 cv1 cv2 cv5 cv6 hf)
    · have hf := ite_n n8 hf
      refine r_aload_n C dX12_price_441 rfl ?_
      obtain ⟨q9, hf⟩ := gf_s hf
      refine r_gf C ct12 (j := 1) (ji := 1) dX12_price_442 q9 rfl rfl (by decide) w_1426 rfl (fun c9 => ?_)
      refine r_sipush C dX12_price_445 rfl ?_
      refine r_iload C dX12_price_448 rfl ?_
      refine r_iadd C dX12_price_450 ?_
      refine r_aload_n C dX12_price_451 rfl ?_
      obtain ⟨q10, hf⟩ := gf_s hf
      refine r_gf C ct12 (j := 1) (ji := 1) dX12_price_452 q10 rfl rfl (by decide) w_1426 rfl (fun c10 => ?_)
      refine r_sipush C dX12_price_455 rfl ?_
      refine r_iload C dX12_price_458 rfl ?_
      refine r_iadd C dX12_price_460 ?_
      obtain ⟨q11, hf⟩ := rd_s hf
      refine r_iald C dX12_price_461 q11 rfl (fun c11 => ?_)
      obtain ⟨q12, hf⟩ := wt_s hf
      refine r_iast C dX12_price_462 q12 rfl c11 ?_
      refine r_aload_n C dX12_price_463 rfl ?_
      obtain ⟨q13, hf⟩ := gf_s hf
      refine r_gf C ct12 (j := 1) (ji := 1) dX12_price_464 q13 rfl rfl (by decide) w_1426 rfl (fun c13 => ?_)
      refine r_sipush C dX12_price_467 rfl ?_
      refine r_iload C dX12_price_470 rfl ?_
      refine r_iadd C dX12_price_472 ?_
      refine r_aload_n C dX12_price_473 rfl ?_
      obtain ⟨q14, hf⟩ := gf_s hf
      refine r_gf C ct12 (j := 1) (ji := 1) dX12_price_474 q14 rfl rfl (by decide) w_1426 rfl (fun c14 => ?_)
      refine r_sipush C dX12_price_477 rfl ?_
      refine r_iload C dX12_price_480 rfl ?_
      refine r_iadd C dX12_price_482 ?_
      obtain ⟨q15, hf⟩ := rd_s hf
      refine r_iald C dX12_price_483 q15 rfl (fun c15 => ?_)
      obtain ⟨q16, hf⟩ := wt_s hf
      refine r_iast C dX12_price_484 q16 rfl c15 ?_
      refine r_aload_n C dX12_price_485 rfl ?_
      obtain ⟨q17, hf⟩ := gf_s hf
      refine r_gf C ct12 (j := 1) (ji := 1) dX12_price_486 q17 rfl rfl (by decide) w_1426 rfl (fun c17 => ?_)
      refine r_sipush C dX12_price_489 rfl ?_
      refine r_iload C dX12_price_492 rfl ?_
      refine r_iadd C dX12_price_494 ?_
      refine r_aload_n C dX12_price_495 rfl ?_
      obtain ⟨q18, hf⟩ := gf_s hf
      refine r_gf C ct12 (j := 1) (ji := 1) dX12_price_496 q18 rfl rfl (by decide) w_1426 rfl (fun c18 => ?_)
      refine r_sipush C dX12_price_499 rfl ?_
      refine r_iload C dX12_price_502 rfl ?_
      refine r_iadd C dX12_price_504 ?_
      obtain ⟨q19, hf⟩ := rd_s hf
      refine r_iald C dX12_price_505 q19 rfl (fun c19 => ?_)
      obtain ⟨q20, hf⟩ := wt_s hf
      refine r_iast C dX12_price_506 q20 rfl c19 ?_
      refine r_aload_n C dX12_price_507 rfl ?_
      obtain ⟨q21, hf⟩ := gf_s hf
      refine r_gf C ct12 (j := 1) (ji := 1) dX12_price_508 q21 rfl rfl (by decide) w_1426 rfl (fun c21 => ?_)
      refine r_sipush C dX12_price_511 rfl ?_
      refine r_iload C dX12_price_514 rfl ?_
      refine r_iadd C dX12_price_516 ?_
      refine r_aload_n C dX12_price_517 rfl ?_
      obtain ⟨q22, hf⟩ := gf_s hf
      refine r_gf C ct12 (j := 1) (ji := 1) dX12_price_518 q22 rfl rfl (by decide) w_1426 rfl (fun c22 => ?_)
      refine r_sipush C dX12_price_521 rfl ?_
      refine r_iload C dX12_price_524 rfl ?_
      refine r_iadd C dX12_price_526 ?_
      obtain ⟨q23, hf⟩ := rd_s hf
      refine r_iald C dX12_price_527 q23 rfl (fun c23 => ?_)
      obtain ⟨q24, hf⟩ := wt_s hf
      refine r_iast C dX12_price_528 q24 rfl c23 ?_
      refine r_aload_n C dX12_price_529 rfl ?_
      obtain ⟨q25, hf⟩ := gf_s hf
      refine r_gf C ct12 (j := 1) (ji := 1) dX12_price_530 q25 rfl rfl (by decide) w_1426 rfl (fun c25 => ?_)
      refine r_sipush C dX12_price_533 rfl ?_
      refine r_iload C dX12_price_536 rfl ?_
      refine r_iadd C dX12_price_538 ?_
      refine r_aload_n C dX12_price_539 rfl ?_
      obtain ⟨q26, hf⟩ := gf_s hf
      refine r_gf C ct12 (j := 1) (ji := 1) dX12_price_540 q26 rfl rfl (by decide) w_1426 rfl (fun c26 => ?_)
      refine r_sipush C dX12_price_543 rfl ?_
      refine r_iload C dX12_price_546 rfl ?_
      refine r_iadd C dX12_price_548 ?_
      obtain ⟨q27, hf⟩ := rd_s hf
      refine r_iald C dX12_price_549 q27 rfl (fun c27 => ?_)
      obtain ⟨q28, hf⟩ := wt_s hf
      refine r_iast C dX12_price_550 q28 rfl c27 ?_
      obtain ⟨x29, e29, hf⟩ := lb_s hf
      have c29 : in32 x29 := by rw [e29]; exact (in32_t _)
      refine r_iincL C dX12_price_551 rfl e29 (Nat.le_of_ble_eq_true rfl) rfl ?_
      exact G.mask [true, true, true, false, false, true, true, false, false] rfl rfl (b_X12_price_554 C hr L414 cv1 cv2 c29 cv6 hf)
set_option maxRecDepth 20000 in
theorem l_X12_price_414 {g : GT} {Z : Int × MM} {n : Nat} (C : Cx g cX12_price 9 yX12_price 4 86) (hr : Rt g (some .int) 0 Z) {v0 v1 v2 : Int}   (cv1 : in32 v1) (cv2 : in32 v2) : ∀ (k : Nat) (v5 v6 : Int) (h : MM), in32 v5 → in32 v6 → f_X12_price_414 n  v0 v1 v2 k v5 v6 h = some Z → G g 414 [(2, v0), (0, v1), (0, v2), (3, 0), (3, 0), (0, v5), (0, v6), (3, 0), (3, 0)] [] h := by
  intro k
  induction k with
  | zero => intro v5 v6 h cv5 cv6 hf; exact absurd hf (by intro z; cases z)
  | succ k ih => intro v5 v6 h cv5 cv6 hf; exact b_X12_price_414b C hr (rec414 := f_X12_price_414 n  v0 v1 v2 k)  ih cv1 cv2 cv5 cv6 (show f_X12_price_414b n  (f_X12_price_414 n  v0 v1 v2 k) v0 v1 v2 v5 v6 h = some Z from hf)
set_option maxRecDepth 20000 in
theorem b_X12_price_408 {g : GT} {Z : Int × MM} {n : Nat} (C : Cx g cX12_price 9 yX12_price 4 86) (hr : Rt g (some .int) 0 Z) {v0 v1 v2 : Int}    (cv1 : in32 v1) (cv2 : in32 v2) {h : MM} (hf : f_X12_price_408 n  v0 v1 v2 h = some Z) : G g 408 [(2, v0), (0, v1), (0, v2), (3, 0), (3, 0), (3, 0), (3, 0), (3, 0), (3, 0)] [] h := by
  unfold f_X12_price_408 at hf
  refine r_iconst C dX12_price_408 ?_
  refine r_istore C dX12_price_409 (Nat.le_of_ble_eq_true rfl) rfl ?_
  refine r_iconst C dX12_price_411 ?_
  refine r_istore C dX12_price_412 (Nat.le_of_ble_eq_true rfl) rfl ?_
  exact G.mask [true, true, true, false, false, true, true, false, false] rfl rfl (l_X12_price_414 C hr  cv1 cv2 _ _ _ _ (in32_of rfl) (in32_of rfl) hf)
set_option maxRecDepth 20000 in
theorem b_X12_price_390 {g : GT} {Z : Int × MM} {n : Nat} (C : Cx g cX12_price 9 yX12_price 4 86) (hr : Rt g (some .int) 0 Z) {v0 v1 v2 : Int}  {rec27 : Int → Int → Int → MM → RR} (L27 : ∀ (u2 u3 u4 : Int) (h : MM), in32 u2 → in32 u3 → in32 u4 → rec27 u2 u3 u4 h = some Z → G g 27 [(2, v0), (0, v1), (0, u2), (0, u3), (0, u4), (3, 0), (3, 0), (3, 0), (3, 0)] [] h) (cv1 : in32 v1) (cv2 : in32 v2) {h : MM} (hf : f_X12_price_390 n rec27 v0 v1 v2 h = some Z) : G g 390 [(2, v0), (0, v1), (0, v2), (3, 0), (3, 0), (3, 0), (3, 0), (3, 0), (3, 0)] [] h := by
  unfold f_X12_price_390 at hf
  refine r_aload_n C dX12_price_390 rfl ?_
  refine r_iload_n C dX12_price_391 rfl ?_
  refine r_iconst C dX12_price_392 ?_
  obtain ⟨p1, hf⟩ := gk_s hf
  obtain ⟨r1, h1, hq1, hf⟩ := bd_s hf
  refine r_cV2 C (am_X12_bestOf (gl g) n) cm_X12_bestOf w_1797 dX12_price_393 ⟨Nat.le_of_ble_eq_true rfl, Nat.le_of_ble_eq_true rfl⟩ p1 rfl cv1 (in32_of rfl) rfl (Nat.le_of_ble_eq_true rfl) hq1 (by decide) (fun c1 => ?_)
  have c1 : in32 _ := c1
  refine r_istore_n C dX12_price_396 (Nat.le_of_ble_eq_true rfl) rfl ?_
  refine r_aload_n C dX12_price_397 rfl ?_
  refine r_iload_n C dX12_price_398 rfl ?_
  refine r_iconst C dX12_price_399 ?_
  obtain ⟨p2, hf⟩ := gk_s hf
  obtain ⟨r2, h2, hq2, hf⟩ := bd_s hf
  refine r_cV2 C (am_X12_bestOf (gl g) n) cm_X12_bestOf w_1797 dX12_price_400 ⟨Nat.le_of_ble_eq_true rfl, Nat.le_of_ble_eq_true rfl⟩ p2 rfl cv1 (in32_of rfl) rfl (Nat.le_of_ble_eq_true rfl) hq2 (by decide) (fun c2 => ?_)
  have c2 : in32 _ := c2
  refine r_istore C dX12_price_403 (Nat.le_of_ble_eq_true rfl) rfl ?_
  refine r_goto C dX12_price_405 (tgt := 27) (by decide) ?_
  exact G.mask [true, true, true, true, true, false, false, false, false] rfl rfl (L27 _ _ _ _ cv2 c1 c2 hf)
set_option maxRecDepth 20000 in
theorem b_X12_price_226 {g : GT} {Z : Int × MM} {n : Nat} (C : Cx g cX12_price 9 yX12_price 4 86) (hr : Rt g (some .int) 0 Z) {v0 v1 v2 s0 s1 s2 : Int}  {rec27 : Int → Int → Int → MM → RR} (L27 : ∀ (u2 u3 u4 : Int) (h : MM), in32 u2 → in32 u3 → in32 u4 → rec27 u2 u3 u4 h = some Z → G g 27 [(2, v0), (0, v1), (0, u2), (0, u3), (0, u4), (3, 0), (3, 0), (3, 0), (3, 0)] [] h) (cv1 : in32 v1) (cv2 : in32 v2) (cs1 : in32 s1) (cs2 : in32 s2) {h : MM} (hf : f_X12_price_226 n rec27 v0 v1 v2 s0 s1 s2 h = some Z) : G g 226 [(2, v0), (0, v1), (0, v2), (3, 0), (3, 0), (3, 0), (3, 0), (3, 0), (3, 0)] [(0, s2), (0, s1), (2, s0)] h := by
  unfold f_X12_price_226 at hf
  refine r_iadd C dX12_price_226 ?_
  refine r_iconst C dX12_price_227 ?_
  obtain ⟨q1, hf⟩ := wt_s hf
  refine r_iast C dX12_price_228 q1 rfl (in32_of rfl) ?_
  refine r_goto C dX12_price_229 (tgt := 390) (by decide) ?_
  exact G.mask [true, true, true, false, false, false, false, false, false] rfl rfl (b_X12_price_390 C hr L27 cv1 cv2 hf)
set_option maxRecDepth 20000 in
theorem b_X12_price_201 {g : GT} {Z : Int × MM} {n : Nat} (C : Cx g cX12_price 9 yX12_price 4 86) (hr : Rt g (some .int) 0 Z) {v0 v1 v2 v3 v4 v5 v6 s0 : Int}  {rec27 : Int → Int → Int → MM → RR} (L27 : ∀ (u2 u3 u4 : Int) (h : MM), in32 u2 → in32 u3 → in32 u4 → rec27 u2 u3 u4 h = some Z → G g 27 [(2, v0), (0, v1), (0, u2), (0, u3), (0, u4), (3, 0), (3, 0), (3, 0), (3, 0)] [] h) (cv1 : in32 v1) (cv2 : in32 v2) (cv3 : in32 v3) (cv4 : in32 v4) (cv5 : in32 v5) (cv6 : in32 v6) (cs0 : in32 s0) {h : MM} (hf : f_X12_price_201 n rec27 v0 v1 v2 v3 v4 v5 v6 s0 h = some Z) : G g 201 [(2, v0), (0, v1), (0, v2), (0, v3), (0, v4), (0, v5), (0, v6), (3, 0), (3, 0)] [(0, s0)] h := by
  unfold f_X12_price_201 at hf
  refine r_istore C dX12_price_201 (Nat.le_of_ble_eq_true rfl) rfl ?_
  refine r_iload C dX12_price_203 rfl ?_
  refine r_if_ne C dX12_price_205 (tgt := 232) (by decide) cs0 (fun n1 => ?_) (fun n1 => ?_)
  · have hf := ite_n n1 hf
    refine r_aload_n C dX12_price_232 rfl ?_
    obtain ⟨q2, hf⟩ := gf_s hf
    refine r_gf C ct12 (j := 1) (ji := 1) dX12_price_233 q2 rfl rfl (by decide) w_1426 rfl (fun c2 => ?_)
    refine r_aload_n C dX12_price_236 rfl ?_
    refine r_iload_n C dX12_price_237 rfl ?_
    refine r_aload_n C dX12_price_238 rfl ?_
    obtain ⟨q3, hf⟩ := gf_s hf
    refine r_gf C ct12 (j := 1) (ji := 1) dX12_price_239 q3 rfl rfl (by decide) w_1426 rfl (fun c3 => ?_)
    refine r_sipush C dX12_price_242 rfl ?_
    refine r_iload_n C dX12_price_245 rfl ?_
    refine r_iadd C dX12_price_246 ?_
    obtain ⟨q4, hf⟩ := rd_s hf
    refine r_iald C dX12_price_247 q4 rfl (fun c4 => ?_)
    obtain ⟨p5, hf⟩ := gk_s hf
    obtain ⟨r5, h5, hq5, hf⟩ := bd_s hf
    refine r_cV2 C (am_X12_sharesAt (gl g) n) cm_X12_sharesAt w_1773 dX12_price_248 ⟨Nat.le_of_ble_eq_true rfl, Nat.le_of_ble_eq_true rfl⟩ p5 rfl cv1 c4 rfl (Nat.le_of_ble_eq_true rfl) hq5 (by decide) (fun c5 => ?_)
    have c5 : in32 _ := c5
    refine r_dup2 C dX12_price_251 (by decide) (by decide) ?_
    obtain ⟨q6, hf⟩ := rd_s hf
    refine r_iald C dX12_price_252 q6 rfl (fun c6 => ?_)
    refine r_iload C dX12_price_253 rfl ?_
    refine r_isub C dX12_price_255 ?_
    obtain ⟨q7, hf⟩ := wt_s hf
    refine r_iast C dX12_price_256 q7 rfl (in32_t _) ?_
    refine r_aload_n C dX12_price_257 rfl ?_
    obtain ⟨q8, hf⟩ := gf_s hf
    refine r_gf C ct12 (j := 1) (ji := 1) dX12_price_258 q8 rfl rfl (by decide) w_1426 rfl (fun c8 => ?_)
    refine r_aload_n C dX12_price_261 rfl ?_
    refine r_iload_n C dX12_price_262 rfl ?_
    refine r_aload_n C dX12_price_263 rfl ?_
    obtain ⟨q9, hf⟩ := gf_s hf
    refine r_gf C ct12 (j := 1) (ji := 1) dX12_price_264 q9 rfl rfl (by decide) w_1426 rfl (fun c9 => ?_)
    refine r_sipush C dX12_price_267 rfl ?_
    refine r_iload C dX12_price_270 rfl ?_
    refine r_iadd C dX12_price_272 ?_
    obtain ⟨q10, hf⟩ := rd_s hf
    refine r_iald C dX12_price_273 q10 rfl (fun c10 => ?_)
    obtain ⟨p11, hf⟩ := gk_s hf
    obtain ⟨r11, h11, hq11, hf⟩ := bd_s hf
    refine r_cV2 C (am_X12_sharesAt (gl g) n) cm_X12_sharesAt w_1773 dX12_price_274 ⟨Nat.le_of_ble_eq_true rfl, Nat.le_of_ble_eq_true rfl⟩ p11 rfl cv1 c10 rfl (Nat.le_of_ble_eq_true rfl) hq11 (by decide) (fun c11 => ?_)
    have c11 : in32 _ := c11
    refine r_dup2 C dX12_price_277 (by decide) (by decide) ?_
    obtain ⟨q12, hf⟩ := rd_s hf
    refine r_iald C dX12_price_278 q12 rfl (fun c12 => ?_)
    refine r_iload C dX12_price_279 rfl ?_
    refine r_iadd C dX12_price_281 ?_
    obtain ⟨q13, hf⟩ := wt_s hf
    refine r_iast C dX12_price_282 q13 rfl (in32_t _) ?_
    refine r_aload_n C dX12_price_283 rfl ?_
    obtain ⟨q14, hf⟩ := gf_s hf
    refine r_gf C ct12 (j := 1) (ji := 1) dX12_price_284 q14 rfl rfl (by decide) w_1426 rfl (fun c14 => ?_)
    refine r_sipush C dX12_price_287 rfl ?_
    refine r_aload_n C dX12_price_290 rfl ?_
    obtain ⟨q15, hf⟩ := gf_s hf
    refine r_gf C ct12 (j := 1) (ji := 1) dX12_price_291 q15 rfl rfl (by decide) w_1426 rfl (fun c15 => ?_)
    refine r_sipush C dX12_price_294 rfl ?_
    refine r_iload C dX12_price_297 rfl ?_
    refine r_iadd C dX12_price_299 ?_
    obtain ⟨q16, hf⟩ := rd_s hf
    refine r_iald C dX12_price_300 q16 rfl (fun c16 => ?_)
    refine r_iadd C dX12_price_301 ?_
    refine r_dup2 C dX12_price_302 (by decide) (by decide) ?_
    obtain ⟨q17, hf⟩ := rd_s hf
    refine r_iald C dX12_price_303 q17 rfl (fun c17 => ?_)
    refine r_iload C dX12_price_304 rfl ?_
    refine r_iload C dX12_price_306 rfl ?_
    refine r_imul C dX12_price_308 ?_
    refine r_isub C dX12_price_309 ?_
    obtain ⟨q18, hf⟩ := wt_s hf
    refine r_iast C dX12_price_310 q18 rfl (in32_t _) ?_
    refine r_aload_n C dX12_price_311 rfl ?_
    obtain ⟨q19, hf⟩ := gf_s hf
    refine r_gf C ct12 (j := 1) (ji := 1) dX12_price_312 q19 rfl rfl (by decide) w_1426 rfl (fun c19 => ?_)
    refine r_sipush C dX12_price_315 rfl ?_
    refine r_aload_n C dX12_price_318 rfl ?_
    obtain ⟨q20, hf⟩ := gf_s hf
    refine r_gf C ct12 (j := 1) (ji := 1) dX12_price_319 q20 rfl rfl (by decide) w_1426 rfl (fun c20 => ?_)
    refine r_sipush C dX12_price_322 rfl ?_
    refine r_iload_n C dX12_price_325 rfl ?_
    refine r_iadd C dX12_price_326 ?_
    obtain ⟨q21, hf⟩ := rd_s hf
    refine r_iald C dX12_price_327 q21 rfl (fun c21 => ?_)
    refine r_iadd C dX12_price_328 ?_
    refine r_dup2 C dX12_price_329 (by decide) (by decide) ?_
    obtain ⟨q22, hf⟩ := rd_s hf
    refine r_iald C dX12_price_330 q22 rfl (fun c22 => ?_)
    refine r_iload C dX12_price_331 rfl ?_
    refine r_iload C dX12_price_333 rfl ?_
    refine r_imul C dX12_price_335 ?_
    refine r_iadd C dX12_price_336 ?_
    obtain ⟨q23, hf⟩ := wt_s hf
    refine r_iast C dX12_price_337 q23 rfl (in32_t _) ?_
    refine r_aload_n C dX12_price_338 rfl ?_
    obtain ⟨q24, hf⟩ := gf_s hf
    refine r_gf C ct12 (j := 1) (ji := 1) dX12_price_339 q24 rfl rfl (by decide) w_1426 rfl (fun c24 => ?_)
    refine r_sipush C dX12_price_342 rfl ?_
    refine r_iload_n C dX12_price_345 rfl ?_
    refine r_iadd C dX12_price_346 ?_
    refine r_dup2 C dX12_price_347 (by decide) (by decide) ?_
    obtain ⟨q25, hf⟩ := rd_s hf
    refine r_iald C dX12_price_348 q25 rfl (fun c25 => ?_)
    refine r_iload C dX12_price_349 rfl ?_
    refine r_isub C dX12_price_351 ?_
    obtain ⟨q26, hf⟩ := wt_s hf
    refine r_iast C dX12_price_352 q26 rfl (in32_t _) ?_
    refine r_aload_n C dX12_price_353 rfl ?_
    obtain ⟨q27, hf⟩ := gf_s hf
    refine r_gf C ct12 (j := 1) (ji := 1) dX12_price_354 q27 rfl rfl (by decide) w_1426 rfl (fun c27 => ?_)
    refine r_sipush C dX12_price_357 rfl ?_
    refine r_iload C dX12_price_360 rfl ?_
    refine r_iadd C dX12_price_362 ?_
    refine r_dup2 C dX12_price_363 (by decide) (by decide) ?_
    obtain ⟨q28, hf⟩ := rd_s hf
    refine r_iald C dX12_price_364 q28 rfl (fun c28 => ?_)
    refine r_iload C dX12_price_365 rfl ?_
    refine r_isub C dX12_price_367 ?_
    obtain ⟨q29, hf⟩ := wt_s hf
    refine r_iast C dX12_price_368 q29 rfl (in32_t _) ?_
    refine r_aload_n C dX12_price_369 rfl ?_
    obtain ⟨q30, hf⟩ := gf_s hf
    refine r_gf C ct12 (j := 1) (ji := 1) dX12_price_370 q30 rfl rfl (by decide) w_1426 rfl (fun c30 => ?_)
    refine r_sipush C dX12_price_373 rfl ?_
    refine r_aload_n C dX12_price_376 rfl ?_
    refine r_iload_n C dX12_price_377 rfl ?_
    obtain ⟨p31, hf⟩ := gk_s hf
    obtain ⟨r31, h31, hq31, hf⟩ := bd_s hf
    refine r_cV1 C (am_X12_indexOf (gl g) n) cm_X12_indexOf w_1777 dX12_price_378 ⟨Nat.le_of_ble_eq_true rfl, Nat.le_of_ble_eq_true rfl⟩ p31 rfl cv1 rfl (Nat.le_of_ble_eq_true rfl) hq31 (by decide) (fun c31 => ?_)
    have c31 : in32 _ := c31
    refine r_iadd C dX12_price_381 ?_
    refine r_iload C dX12_price_382 rfl ?_
    obtain ⟨q32, hf⟩ := wt_s hf
    refine r_iast C dX12_price_384 q32 rfl cv5 ?_
    refine r_iload_n C dX12_price_385 rfl ?_
    refine r_iload C dX12_price_386 rfl ?_
    refine r_iadd C dX12_price_388 ?_
    obtain ⟨x33, e33, hf⟩ := lb_s hf
    have c33 : in32 x33 := by rw [e33]; exact (in32_t _)
    refine r_istore_nL C dX12_price_389 e33 (Nat.le_of_ble_eq_true rfl) rfl ?_
    exact G.mask [true, true, true, false, false, false, false, false, false] rfl rfl (b_X12_price_390 C hr L27 cv1 c33 hf)
  · have hf := ite_p n1 hf
    refine r_aload_n C dX12_price_208 rfl ?_
    obtain ⟨q34, hf⟩ := gf_s hf
    refine r_gf C ct12 (j := 1) (ji := 1) dX12_price_209 q34 rfl rfl (by decide) w_1426 rfl (fun c34 => ?_)
    refine r_sipush C dX12_price_212 rfl ?_
    refine r_iload C dX12_price_215 rfl ?_
    refine r_if_ne C dX12_price_217 (tgt := 224) (by decide) cv6 (fun n35 => ?_) (fun n35 => ?_)
    · have hf := ite_n n35 hf
      refine r_iload C dX12_price_224 rfl ?_
      exact G.mask [true, true, true, false, false, false, false, false, false] rfl rfl (b_X12_price_226 C hr L27 cv1 cv2 (in32_of rfl) cv4 hf)
    · have hf := ite_p n35 hf
      refine r_iload_n C dX12_price_220 rfl ?_
      refine r_goto C dX12_price_221 (tgt := 226) (by decide) ?_
      exact G.mask [true, true, true, false, false, false, false, false, false] rfl rfl (b_X12_price_226 C hr L27 cv1 cv2 (in32_of rfl) cv3 hf)
set_option maxRecDepth 20000 in
theorem b_X12_price_185 {g : GT} {Z : Int × MM} {n : Nat} (C : Cx g cX12_price 9 yX12_price 4 86) (hr : Rt g (some .int) 0 Z) {v0 v1 v2 v3 v4 v5 v6 v7 s0 : Int}  {rec27 : Int → Int → Int → MM → RR} (L27 : ∀ (u2 u3 u4 : Int) (h : MM), in32 u2 → in32 u3 → in32 u4 → rec27 u2 u3 u4 h = some Z → G g 27 [(2, v0), (0, v1), (0, u2), (0, u3), (0, u4), (3, 0), (3, 0), (3, 0), (3, 0)] [] h) (cv1 : in32 v1) (cv2 : in32 v2) (cv3 : in32 v3) (cv4 : in32 v4) (cv5 : in32 v5) (cv6 : in32 v6) (cv7 : in32 v7) (cs0 : in32 s0) {h : MM} (hf : f_X12_price_185 n rec27 v0 v1 v2 v3 v4 v5 v6 v7 s0 h = some Z) : G g 185 [(2, v0), (0, v1), (0, v2), (0, v3), (0, v4), (0, v5), (0, v6), (0, v7), (3, 0)] [(0, s0)] h := by
  unfold f_X12_price_185 at hf
  refine r_istore C dX12_price_185 (Nat.le_of_ble_eq_true rfl) rfl ?_
  refine r_iload C dX12_price_187 rfl ?_
  refine r_iload C dX12_price_189 rfl ?_
  refine r_icmp_ge C dX12_price_191 (tgt := 199) (by decide) cv7 cs0 (fun n1 => ?_) (fun n1 => ?_)
  · have hf := ite_p n1 hf
    refine r_iload C dX12_price_199 rfl ?_
    exact G.mask [true, true, true, true, true, true, true, false, false] rfl rfl (b_X12_price_201 C hr L27 cv1 cv2 cv3 cv4 cv5 cv6 cs0 hf)
  · have hf := ite_n n1 hf
    refine r_iload C dX12_price_194 rfl ?_
    refine r_goto C dX12_price_196 (tgt := 201) (by decide) ?_
    exact G.mask [true, true, true, true, true, true, true, false, false] rfl rfl (b_X12_price_201 C hr L27 cv1 cv2 cv3 cv4 cv5 cv6 cv7 hf)
set_option maxRecDepth 20000 in
theorem b_X12_price_169 {g : GT} {Z : Int × MM} {n : Nat} (C : Cx g cX12_price 9 yX12_price 4 86) (hr : Rt g (some .int) 0 Z) {v0 v1 v2 v3 v4 v5 v6 v7 s0 : Int}  {rec27 : Int → Int → Int → MM → RR} (L27 : ∀ (u2 u3 u4 : Int) (h : MM), in32 u2 → in32 u3 → in32 u4 → rec27 u2 u3 u4 h = some Z → G g 27 [(2, v0), (0, v1), (0, u2), (0, u3), (0, u4), (3, 0), (3, 0), (3, 0), (3, 0)] [] h) (cv1 : in32 v1) (cv2 : in32 v2) (cv3 : in32 v3) (cv4 : in32 v4) (cv5 : in32 v5) (cv6 : in32 v6) (cv7 : in32 v7) (cs0 : in32 s0) {h : MM} (hf : f_X12_price_169 n rec27 v0 v1 v2 v3 v4 v5 v6 v7 s0 h = some Z) : G g 169 [(2, v0), (0, v1), (0, v2), (0, v3), (0, v4), (0, v5), (0, v6), (0, v7), (3, 0)] [(0, s0)] h := by
  unfold f_X12_price_169 at hf
  refine r_istore C dX12_price_169 (Nat.le_of_ble_eq_true rfl) rfl ?_
  refine r_iload C dX12_price_171 rfl ?_
  refine r_iload C dX12_price_173 rfl ?_
  refine r_icmp_ge C dX12_price_175 (tgt := 183) (by decide) cv6 cs0 (fun n1 => ?_) (fun n1 => ?_)
  · have hf := ite_p n1 hf
    refine r_iload C dX12_price_183 rfl ?_
    exact G.mask [true, true, true, true, true, true, true, true, false] rfl rfl (b_X12_price_185 C hr L27 cv1 cv2 cv3 cv4 cv5 cv6 cv7 cs0 hf)
  · have hf := ite_n n1 hf
    refine r_iload C dX12_price_178 rfl ?_
    refine r_goto C dX12_price_180 (tgt := 185) (by decide) ?_
    exact G.mask [true, true, true, true, true, true, true, true, false] rfl rfl (b_X12_price_185 C hr L27 cv1 cv2 cv3 cv4 cv5 cv6 cv7 cv6 hf)
set_option maxRecDepth 20000 in
theorem b_X12_price_27b {g : GT} {Z : Int × MM} {n : Nat} (C : Cx g cX12_price 9 yX12_price 4 86) (hr : Rt g (some .int) 0 Z) {v0 v1 v2 v3 v4 : Int}  {rec27 : Int → Int → Int → MM → RR} (L27 : ∀ (u2 u3 u4 : Int) (h : MM), in32 u2 → in32 u3 → in32 u4 → rec27 u2 u3 u4 h = some Z → G g 27 [(2, v0), (0, v1), (0, u2), (0, u3), (0, u4), (3, 0), (3, 0), (3, 0), (3, 0)] [] h) (cv1 : in32 v1) (cv2 : in32 v2) (cv3 : in32 v3) (cv4 : in32 v4) {h : MM} (hf : f_X12_price_27b n rec27 v0 v1 v2 v3 v4 h = some Z) : G g 27 [(2, v0), (0, v1), (0, v2), (0, v3), (0, v4), (3, 0), (3, 0), (3, 0), (3, 0)] [] h := by
  unfold f_X12_price_27b at hf
  refine r_iload_n C dX12_price_27 rfl ?_
  refine r_iconst C dX12_price_28 ?_
  refine r_icmp_eq C dX12_price_29 (tgt := 408) (by decide) cv3 (in32_of rfl) (fun n1 => ?_) (fun n1 => ?_)
  · have hf := ite_p n1 hf
    exact G.mask [true, true, true, false, false, false, false, false, false] rfl rfl (b_X12_price_408 C hr  cv1 cv2 hf)
  · have hf := ite_n n1 hf
    refine r_iload C dX12_price_32 rfl ?_
    refine r_iconst C dX12_price_34 ?_
    refine r_icmp_eq C dX12_price_35 (tgt := 408) (by decide) cv4 (in32_of rfl) (fun n2 => ?_) (fun n2 => ?_)
    · have hf := ite_p n2 hf
      exact G.mask [true, true, true, false, false, false, false, false, false] rfl rfl (b_X12_price_408 C hr  cv1 cv2 hf)
    · have hf := ite_n n2 hf
      refine r_aload_n C dX12_price_38 rfl ?_
      obtain ⟨q3, hf⟩ := gf_s hf
      refine r_gf C ct12 (j := 1) (ji := 1) dX12_price_39 q3 rfl rfl (by decide) w_1426 rfl (fun c3 => ?_)
      refine r_sipush C dX12_price_42 rfl ?_
      refine r_iload C dX12_price_45 rfl ?_
      refine r_iadd C dX12_price_47 ?_
      obtain ⟨q4, hf⟩ := rd_s hf
      refine r_iald C dX12_price_48 q4 rfl (fun c4 => ?_)
      refine r_aload_n C dX12_price_49 rfl ?_
      obtain ⟨q5, hf⟩ := gf_s hf
      refine r_gf C ct12 (j := 1) (ji := 1) dX12_price_50 q5 rfl rfl (by decide) w_1426 rfl (fun c5 => ?_)
      refine r_sipush C dX12_price_53 rfl ?_
      refine r_iload_n C dX12_price_56 rfl ?_
      refine r_iadd C dX12_price_57 ?_
      obtain ⟨q6, hf⟩ := rd_s hf
      refine r_iald C dX12_price_58 q6 rfl (fun c6 => ?_)
      refine r_icmp_lt C dX12_price_59 (tgt := 408) (by decide) c4 c6 (fun n7 => ?_) (fun n7 => ?_)
      · have hf := ite_p n7 hf
        exact G.mask [true, true, true, false, false, false, false, false, false] rfl rfl (b_X12_price_408 C hr  cv1 cv2 hf)
      · have hf := ite_n n7 hf
        refine r_aload_n C dX12_price_62 rfl ?_
        obtain ⟨q8, hf⟩ := gf_s hf
        refine r_gf C ct12 (j := 1) (ji := 1) dX12_price_63 q8 rfl rfl (by decide) w_1426 rfl (fun c8 => ?_)
        refine r_sipush C dX12_price_66 rfl ?_
        refine r_iload_n C dX12_price_69 rfl ?_
        refine r_iadd C dX12_price_70 ?_
        obtain ⟨q9, hf⟩ := rd_s hf
        refine r_iald C dX12_price_71 q9 rfl (fun c9 => ?_)
        refine r_istore C dX12_price_72 (Nat.le_of_ble_eq_true rfl) rfl ?_
        refine r_aload_n C dX12_price_74 rfl ?_
        obtain ⟨q10, hf⟩ := gf_s hf
        refine r_gf C ct12 (j := 1) (ji := 1) dX12_price_75 q10 rfl rfl (by decide) w_1426 rfl (fun c10 => ?_)
        refine r_aload_n C dX12_price_78 rfl ?_
        refine r_iload_n C dX12_price_79 rfl ?_
        refine r_aload_n C dX12_price_80 rfl ?_
        obtain ⟨q11, hf⟩ := gf_s hf
        refine r_gf C ct12 (j := 1) (ji := 1) dX12_price_81 q11 rfl rfl (by decide) w_1426 rfl (fun c11 => ?_)
        refine r_sipush C dX12_price_84 rfl ?_
        refine r_iload_n C dX12_price_87 rfl ?_
        refine r_iadd C dX12_price_88 ?_
        obtain ⟨q12, hf⟩ := rd_s hf
        refine r_iald C dX12_price_89 q12 rfl (fun c12 => ?_)
        obtain ⟨p13, hf⟩ := gk_s hf
        obtain ⟨r13, h13, hq13, hf⟩ := bd_s hf
        refine r_cV2 C (am_X12_sharesAt (gl g) n) cm_X12_sharesAt w_1773 dX12_price_90 ⟨Nat.le_of_ble_eq_true rfl, Nat.le_of_ble_eq_true rfl⟩ p13 rfl cv1 c12 rfl (Nat.le_of_ble_eq_true rfl) hq13 (by decide) (fun c13 => ?_)
        have c13 : in32 _ := c13
        obtain ⟨q14, hf⟩ := rd_s hf
        refine r_iald C dX12_price_93 q14 rfl (fun c14 => ?_)
        refine r_istore C dX12_price_94 (Nat.le_of_ble_eq_true rfl) rfl ?_
        refine r_aload_n C dX12_price_96 rfl ?_
        obtain ⟨q15, hf⟩ := gf_s hf
        refine r_gf C ct12 (j := 1) (ji := 1) dX12_price_97 q15 rfl rfl (by decide) w_1426 rfl (fun c15 => ?_)
        refine r_sipush C dX12_price_100 rfl ?_
        refine r_aload_n C dX12_price_103 rfl ?_
        obtain ⟨q16, hf⟩ := gf_s hf
        refine r_gf C ct12 (j := 1) (ji := 1) dX12_price_104 q16 rfl rfl (by decide) w_1426 rfl (fun c16 => ?_)
        refine r_sipush C dX12_price_107 rfl ?_
        refine r_iload C dX12_price_110 rfl ?_
        refine r_iadd C dX12_price_112 ?_
        obtain ⟨q17, hf⟩ := rd_s hf
        refine r_iald C dX12_price_113 q17 rfl (fun c17 => ?_)
        refine r_iadd C dX12_price_114 ?_
        obtain ⟨q18, hf⟩ := rd_s hf
        refine r_iald C dX12_price_115 q18 rfl (fun c18 => ?_)
        refine r_iload C dX12_price_116 rfl ?_
        obtain ⟨q19, hf⟩ := dz_s hf
        refine r_idiv C dX12_price_118 c9 q19 ?_
        obtain ⟨x20, e20, hf⟩ := lb_s hf
        have c20 : in32 x20 := by rw [e20]; exact (in32_t _)
        refine r_istoreL C dX12_price_119 e20 (Nat.le_of_ble_eq_true rfl) rfl ?_
        refine r_aload_n C dX12_price_121 rfl ?_
        obtain ⟨q21, hf⟩ := gf_s hf
        refine r_gf C ct12 (j := 1) (ji := 1) dX12_price_122 q21 rfl rfl (by decide) w_1426 rfl (fun c21 => ?_)
        refine r_sipush C dX12_price_125 rfl ?_
        refine r_iload_n C dX12_price_128 rfl ?_
        refine r_iadd C dX12_price_129 ?_
        obtain ⟨q22, hf⟩ := rd_s hf
        refine r_iald C dX12_price_130 q22 rfl (fun c22 => ?_)
        refine r_aload_n C dX12_price_131 rfl ?_
        obtain ⟨q23, hf⟩ := gf_s hf
        refine r_gf C ct12 (j := 1) (ji := 1) dX12_price_132 q23 rfl rfl (by decide) w_1426 rfl (fun c23 => ?_)
        refine r_sipush C dX12_price_135 rfl ?_
        refine r_iload C dX12_price_138 rfl ?_
        refine r_iadd C dX12_price_140 ?_
        obtain ⟨q24, hf⟩ := rd_s hf
        refine r_iald C dX12_price_141 q24 rfl (fun c24 => ?_)
        refine r_icmp_ge C dX12_price_142 (tgt := 158) (by decide) c22 c24 (fun n25 => ?_) (fun n25 => ?_)
        · have hf := ite_p n25 hf
          refine r_aload_n C dX12_price_158 rfl ?_
          obtain ⟨q26, hf⟩ := gf_s hf
          refine r_gf C ct12 (j := 1) (ji := 1) dX12_price_159 q26 rfl rfl (by decide) w_1426 rfl (fun c26 => ?_)
          refine r_sipush C dX12_price_162 rfl ?_
          refine r_iload C dX12_price_165 rfl ?_
          refine r_iadd C dX12_price_167 ?_
          obtain ⟨q27, hf⟩ := rd_s hf
          refine r_iald C dX12_price_168 q27 rfl (fun c27 => ?_)
          exact G.mask [true, true, true, true, true, true, true, true, false] rfl rfl (b_X12_price_169 C hr L27 cv1 cv2 cv3 cv4 c9 c14 c20 c27 hf)
        · have hf := ite_n n25 hf
          refine r_aload_n C dX12_price_145 rfl ?_
          obtain ⟨q28, hf⟩ := gf_s hf
          refine r_gf C ct12 (j := 1) (ji := 1) dX12_price_146 q28 rfl rfl (by decide) w_1426 rfl (fun c28 => ?_)
          refine r_sipush C dX12_price_149 rfl ?_
          refine r_iload_n C dX12_price_152 rfl ?_
          refine r_iadd C dX12_price_153 ?_
          obtain ⟨q29, hf⟩ := rd_s hf
          refine r_iald C dX12_price_154 q29 rfl (fun c29 => ?_)
          refine r_goto C dX12_price_155 (tgt := 169) (by decide) ?_
          exact G.mask [true, true, true, true, true, true, true, true, false] rfl rfl (b_X12_price_169 C hr L27 cv1 cv2 cv3 cv4 c9 c14 c20 c29 hf)
set_option maxRecDepth 20000 in
theorem l_X12_price_27 {g : GT} {Z : Int × MM} {n : Nat} (C : Cx g cX12_price 9 yX12_price 4 86) (hr : Rt g (some .int) 0 Z) {v0 v1 : Int}   (cv1 : in32 v1) : ∀ (k : Nat) (v2 v3 v4 : Int) (h : MM), in32 v2 → in32 v3 → in32 v4 → f_X12_price_27 n  v0 v1 k v2 v3 v4 h = some Z → G g 27 [(2, v0), (0, v1), (0, v2), (0, v3), (0, v4), (3, 0), (3, 0), (3, 0), (3, 0)] [] h := by
  intro k
  induction k with
  | zero => intro v2 v3 v4 h cv2 cv3 cv4 hf; exact absurd hf (by intro z; cases z)
  | succ k ih => intro v2 v3 v4 h cv2 cv3 cv4 hf; exact b_X12_price_27b C hr (rec27 := f_X12_price_27 n  v0 v1 k)  ih cv1 cv2 cv3 cv4 (show f_X12_price_27b n  (f_X12_price_27 n  v0 v1 k) v0 v1 v2 v3 v4 h = some Z from hf)
set_option maxRecDepth 20000 in
theorem e_X12_price {g : GT} {Z : Int × MM} {n : Nat} (C : Cx g cX12_price 9 yX12_price 4 86) (hr : Rt g (some .int) 0 Z) {v0 v1 : Int} (cv0 : cK 2 v0) (cv1 : cK 0 v1) {h : MM} (hf : f_X12_price n v0 v1 h = some Z) : G g 0 [(2, v0), (0, v1), (3, 0), (3, 0), (3, 0), (3, 0), (3, 0), (3, 0), (3, 0)] [] h := by
  have cv1 : in32 v1 := cv1
  unfold f_X12_price at hf
  refine r_aload_n C dX12_price_0 rfl ?_
  refine r_iload_n C dX12_price_1 rfl ?_
  obtain ⟨p1, hf⟩ := gk_s hf
  obtain ⟨r1, h1, hq1, hf⟩ := bd_s hf
  refine r_cV1 C (am_X12_isScheme (gl g) n) cm_X12_isScheme w_1765 dX12_price_2 ⟨Nat.le_of_ble_eq_true rfl, Nat.le_of_ble_eq_true rfl⟩ p1 rfl cv1 rfl (Nat.le_of_ble_eq_true rfl) hq1 (by decide) (fun c1 => ?_)
  have c1 : in32 _ := c1
  refine r_if_ne C dX12_price_5 (tgt := 10) (by decide) c1 (fun n2 => ?_) (fun n2 => ?_)
  · have hf := ite_n n2 hf
    refine r_iconst C dX12_price_10 ?_
    refine r_istore_n C dX12_price_11 (Nat.le_of_ble_eq_true rfl) rfl ?_
    refine r_aload_n C dX12_price_12 rfl ?_
    refine r_iload_n C dX12_price_13 rfl ?_
    refine r_iconst C dX12_price_14 ?_
    obtain ⟨p3, hf⟩ := gk_s hf
    obtain ⟨r3, h3, hq3, hf⟩ := bd_s hf
    refine r_cV2 C (am_X12_bestOf (gl g) n) cm_X12_bestOf w_1797 dX12_price_15 ⟨Nat.le_of_ble_eq_true rfl, Nat.le_of_ble_eq_true rfl⟩ p3 rfl cv1 (in32_of rfl) rfl (Nat.le_of_ble_eq_true rfl) hq3 (by decide) (fun c3 => ?_)
    have c3 : in32 _ := c3
    refine r_istore_n C dX12_price_18 (Nat.le_of_ble_eq_true rfl) rfl ?_
    refine r_aload_n C dX12_price_19 rfl ?_
    refine r_iload_n C dX12_price_20 rfl ?_
    refine r_iconst C dX12_price_21 ?_
    obtain ⟨p4, hf⟩ := gk_s hf
    obtain ⟨r4, h4, hq4, hf⟩ := bd_s hf
    refine r_cV2 C (am_X12_bestOf (gl g) n) cm_X12_bestOf w_1797 dX12_price_22 ⟨Nat.le_of_ble_eq_true rfl, Nat.le_of_ble_eq_true rfl⟩ p4 rfl cv1 (in32_of rfl) rfl (Nat.le_of_ble_eq_true rfl) hq4 (by decide) (fun c4 => ?_)
    have c4 : in32 _ := c4
    refine r_istore C dX12_price_25 (Nat.le_of_ble_eq_true rfl) rfl ?_
    exact G.mask [true, true, true, true, true, false, false, false, false] rfl rfl (l_X12_price_27 C hr  cv1 _ _ _ _ _ (in32_of rfl) c3 c4 hf)
  · have hf := ite_p n2 hf
    refine r_iconst C dX12_price_8 ?_
    cases hf
    exact r_jret C hr dX12_price_9 (in32_of rfl)
set_option maxRecDepth 20000 in
theorem am_X12_price (l : Launch) (n : Nat) : AM l yX12_price cX12_price 9 (some .int) 4 86 [2, 0] 0 (un2 (f_X12_price n)) := by
  refine AM.intro (by decide) (fun xs hx => ?_) (fun g xs h Z hl C hr hx hf => ?_)
  · obtain ⟨a0, a1, rfl, c0, c1⟩ := canL_2 hx
    exact Nat.le_of_ble_eq_true rfl
  · obtain ⟨a0, a1, rfl, c0, c1⟩ := canL_2 hx
    have hf := (un2_e _ a0 a1 _).symm.trans hf
    exact e_X12_price (n := n) C hr c0 c1 hf
/-! LinesPromisedModel.read(I)I -/
theorem dX12_read_0 : decode cX12_read 0 = .ok (.aload_n 0, 1) := by decide +kernel
theorem dX12_read_1 : decode cX12_read 1 = .ok (.iload_n 1, 1) := by decide +kernel
theorem dX12_read_2 : decode cX12_read 2 = .ok (.invokevirtual 241, 3) := by decide +kernel
theorem dX12_read_5 : decode cX12_read 5 = .ok (.ifCond .eq 20, 3) := by decide +kernel
theorem dX12_read_8 : decode cX12_read 8 = .ok (.aload_n 0, 1) := by decide +kernel
theorem dX12_read_9 : decode cX12_read 9 = .ok (.getfield 8, 3) := by decide +kernel
theorem dX12_read_12 : decode cX12_read 12 = .ok (.sipush 11514, 3) := by decide +kernel
theorem dX12_read_15 : decode cX12_read 15 = .ok (.aload_n 0, 1) := by decide +kernel
theorem dX12_read_16 : decode cX12_read 16 = .ok (.iload_n 1, 1) := by decide +kernel
theorem dX12_read_17 : decode cX12_read 17 = .ok (.invokevirtual 238, 3) := by decide +kernel
theorem dX12_read_20 : decode cX12_read 20 = .ok (.iadd, 1) := by decide +kernel
theorem dX12_read_21 : decode cX12_read 21 = .ok (.iaload, 1) := by decide +kernel
theorem dX12_read_22 : decode cX12_read 22 = .ok (.goto 4, 3) := by decide +kernel
theorem dX12_read_25 : decode cX12_read 25 = .ok (.iconst (-1), 1) := by decide +kernel
theorem dX12_read_26 : decode cX12_read 26 = .ok (.ireturn, 1) := by decide +kernel
theorem cm_X12_read : CM yX12_read cX12_read 2 (some .int) 1 12 := ⟨w_1802, w_1803, w_1804, w_97, ⟨by decide +kernel, by decide +kernel, by decide +kernel⟩, ⟨_, _, rfl⟩, by decide⟩
noncomputable def f_X12_read_26 (n : Nat)  (s0 : Int) (h : MM) : RR :=
  some (s0, h)
noncomputable def f_X12_read (n : Nat) (v0 v1 : Int) (h : MM) : RR :=
  gk h v0 12 <|
  bd (f_X12_isScheme n v0 v1 h) fun r1 h1 =>
  if r1 = 0 then
    f_X12_read_26 n ((-1)) h1
  else
  gf h1 v0 12 1 fun r3 =>
  gk h1 v0 12 <|
  bd (f_X12_indexOf n v0 v1 h1) fun r4 h4 =>
  rd h4 r3 100 (wr (11514 + r4)) fun r5 =>
  f_X12_read_26 n r5 h4
set_option maxRecDepth 20000 in
theorem b_X12_read_26 {g : GT} {Z : Int × MM} {n : Nat} (C : Cx g cX12_read 2 yX12_read 4 86) (hr : Rt g (some .int) 0 Z) {s0 : Int}    (cs0 : in32 s0) {h : MM} (hf : f_X12_read_26 n  s0 h = some Z) : G g 26 [(3, 0), (3, 0)] [(0, s0)] h := by
  unfold f_X12_read_26 at hf
  cases hf
  exact r_jret C hr dX12_read_26 cs0
set_option maxRecDepth 20000 in
theorem e_X12_read {g : GT} {Z : Int × MM} {n : Nat} (C : Cx g cX12_read 2 yX12_read 4 86) (hr : Rt g (some .int) 0 Z) {v0 v1 : Int} (cv0 : cK 2 v0) (cv1 : cK 0 v1) {h : MM} (hf : f_X12_read n v0 v1 h = some Z) : G g 0 [(2, v0), (0, v1)] [] h := by
  have cv1 : in32 v1 := cv1
  unfold f_X12_read at hf
  refine r_aload_n C dX12_read_0 rfl ?_
  refine r_iload_n C dX12_read_1 rfl ?_
  obtain ⟨p1, hf⟩ := gk_s hf
  obtain ⟨r1, h1, hq1, hf⟩ := bd_s hf
  refine r_cV1 C (am_X12_isScheme (gl g) n) cm_X12_isScheme w_1765 dX12_read_2 ⟨Nat.le_of_ble_eq_true rfl, Nat.le_of_ble_eq_true rfl⟩ p1 rfl cv1 rfl (Nat.le_of_ble_eq_true rfl) hq1 (by decide) (fun c1 => ?_)
  have c1 : in32 _ := c1
  refine r_if_eq C dX12_read_5 (tgt := 25) (by decide) c1 (fun n2 => ?_) (fun n2 => ?_)
  · have hf := ite_p n2 hf
    refine r_iconst C dX12_read_25 ?_
    exact G.mask [false, false] rfl rfl (b_X12_read_26 C hr  (in32_of rfl) hf)
  · have hf := ite_n n2 hf
    refine r_aload_n C dX12_read_8 rfl ?_
    obtain ⟨q3, hf⟩ := gf_s hf
    refine r_gf C ct12 (j := 1) (ji := 1) dX12_read_9 q3 rfl rfl (by decide) w_1426 rfl (fun c3 => ?_)
    refine r_sipush C dX12_read_12 rfl ?_
    refine r_aload_n C dX12_read_15 rfl ?_
    refine r_iload_n C dX12_read_16 rfl ?_
    obtain ⟨p4, hf⟩ := gk_s hf
    obtain ⟨r4, h4, hq4, hf⟩ := bd_s hf
    refine r_cV1 C (am_X12_indexOf (gl g) n) cm_X12_indexOf w_1777 dX12_read_17 ⟨Nat.le_of_ble_eq_true rfl, Nat.le_of_ble_eq_true rfl⟩ p4 rfl cv1 rfl (Nat.le_of_ble_eq_true rfl) hq4 (by decide) (fun c4 => ?_)
    have c4 : in32 _ := c4
    refine r_iadd C dX12_read_20 ?_
    obtain ⟨q5, hf⟩ := rd_s hf
    refine r_iald C dX12_read_21 q5 rfl (fun c5 => ?_)
    refine r_goto C dX12_read_22 (tgt := 26) (by decide) ?_
    exact G.mask [false, false] rfl rfl (b_X12_read_26 C hr  c5 hf)
set_option maxRecDepth 20000 in
theorem am_X12_read (l : Launch) (n : Nat) : AM l yX12_read cX12_read 2 (some .int) 4 86 [2, 0] 0 (un2 (f_X12_read n)) := by
  refine AM.intro (by decide) (fun xs hx => ?_) (fun g xs h Z hl C hr hx hf => ?_)
  · obtain ⟨a0, a1, rfl, c0, c1⟩ := canL_2 hx
    exact Nat.le_of_ble_eq_true rfl
  · obtain ⟨a0, a1, rfl, c0, c1⟩ := canL_2 hx
    have hf := (un2_e _ a0 a1 _).symm.trans hf
    exact e_X12_read (n := n) C hr c0 c1 hf
/-! LinesPromisedModel.call(II)I -/
theorem dX12_call_0 : decode cX12_call 0 = .ok (.aload_n 0, 1) := by decide +kernel
theorem dX12_call_1 : decode cX12_call 1 = .ok (.iload_n 1, 1) := by decide +kernel
theorem dX12_call_2 : decode cX12_call 2 = .ok (.invokevirtual 241, 3) := by decide +kernel
theorem dX12_call_5 : decode cX12_call 5 = .ok (.ifCond .ne 5, 3) := by decide +kernel
theorem dX12_call_8 : decode cX12_call 8 = .ok (.iconst (-1), 1) := by decide +kernel
theorem dX12_call_9 : decode cX12_call 9 = .ok (.ireturn, 1) := by decide +kernel
theorem dX12_call_10 : decode cX12_call 10 = .ok (.iload_n 2, 1) := by decide +kernel
theorem dX12_call_11 : decode cX12_call 11 = .ok (.iconst 1, 1) := by decide +kernel
theorem dX12_call_12 : decode cX12_call 12 = .ok (.aload_n 0, 1) := by decide +kernel
theorem dX12_call_13 : decode cX12_call 13 = .ok (.iconst 3, 1) := by decide +kernel
theorem dX12_call_14 : decode cX12_call 14 = .ok (.aload_n 0, 1) := by decide +kernel
theorem dX12_call_15 : decode cX12_call 15 = .ok (.getfield 8, 3) := by decide +kernel
theorem dX12_call_18 : decode cX12_call 18 = .ok (.iconst 0, 1) := by decide +kernel
theorem dX12_call_19 : decode cX12_call 19 = .ok (.iaload, 1) := by decide +kernel
theorem dX12_call_20 : decode cX12_call 20 = .ok (.invokevirtual 152, 3) := by decide +kernel
theorem dX12_call_23 : decode cX12_call 23 = .ok (.invokestatic 58, 3) := by decide +kernel
theorem dX12_call_26 : decode cX12_call 26 = .ok (.ifCond .ne 6, 3) := by decide +kernel
theorem dX12_call_29 : decode cX12_call 29 = .ok (.bipush (-2), 2) := by decide +kernel
theorem dX12_call_31 : decode cX12_call 31 = .ok (.ireturn, 1) := by decide +kernel
theorem dX12_call_32 : decode cX12_call 32 = .ok (.aload_n 0, 1) := by decide +kernel
theorem dX12_call_33 : decode cX12_call 33 = .ok (.iload_n 1, 1) := by decide +kernel
theorem dX12_call_34 : decode cX12_call 34 = .ok (.invokevirtual 244, 3) := by decide +kernel
theorem dX12_call_37 : decode cX12_call 37 = .ok (.ifCond .ne 7, 3) := by decide +kernel
theorem dX12_call_40 : decode cX12_call 40 = .ok (.iconst 1, 1) := by decide +kernel
theorem dX12_call_41 : decode cX12_call 41 = .ok (.goto 4, 3) := by decide +kernel
theorem dX12_call_44 : decode cX12_call 44 = .ok (.iconst 0, 1) := by decide +kernel
theorem dX12_call_45 : decode cX12_call 45 = .ok (.istore_n 3, 1) := by decide +kernel
theorem dX12_call_46 : decode cX12_call 46 = .ok (.iconst 0, 1) := by decide +kernel
theorem dX12_call_47 : decode cX12_call 47 = .ok (.istore 4, 2) := by decide +kernel
theorem dX12_call_49 : decode cX12_call 49 = .ok (.iload 4, 2) := by decide +kernel
theorem dX12_call_51 : decode cX12_call 51 = .ok (.aload_n 0, 1) := by decide +kernel
theorem dX12_call_52 : decode cX12_call 52 = .ok (.getfield 8, 3) := by decide +kernel
theorem dX12_call_55 : decode cX12_call 55 = .ok (.iconst 2, 1) := by decide +kernel
theorem dX12_call_56 : decode cX12_call 56 = .ok (.iaload, 1) := by decide +kernel
theorem dX12_call_57 : decode cX12_call 57 = .ok (.if_icmp .ge 81, 3) := by decide +kernel
theorem dX12_call_60 : decode cX12_call 60 = .ok (.iload_n 3, 1) := by decide +kernel
theorem dX12_call_61 : decode cX12_call 61 = .ok (.ifCond .eq 69, 3) := by decide +kernel
theorem dX12_call_64 : decode cX12_call 64 = .ok (.aload_n 0, 1) := by decide +kernel
theorem dX12_call_65 : decode cX12_call 65 = .ok (.getfield 8, 3) := by decide +kernel
theorem dX12_call_68 : decode cX12_call 68 = .ok (.sipush 370, 3) := by decide +kernel
theorem dX12_call_71 : decode cX12_call 71 = .ok (.iload 4, 2) := by decide +kernel
theorem dX12_call_73 : decode cX12_call 73 = .ok (.iadd, 1) := by decide +kernel
theorem dX12_call_74 : decode cX12_call 74 = .ok (.iaload, 1) := by decide +kernel
theorem dX12_call_75 : decode cX12_call 75 = .ok (.iconst 4, 1) := by decide +kernel
theorem dX12_call_76 : decode cX12_call 76 = .ok (.if_icmp .ne 50, 3) := by decide +kernel
theorem dX12_call_79 : decode cX12_call 79 = .ok (.aload_n 0, 1) := by decide +kernel
theorem dX12_call_80 : decode cX12_call 80 = .ok (.getfield 8, 3) := by decide +kernel
theorem dX12_call_83 : decode cX12_call 83 = .ok (.sipush 430, 3) := by decide +kernel
theorem dX12_call_86 : decode cX12_call 86 = .ok (.iload 4, 2) := by decide +kernel
theorem dX12_call_88 : decode cX12_call 88 = .ok (.iadd, 1) := by decide +kernel
theorem dX12_call_89 : decode cX12_call 89 = .ok (.iaload, 1) := by decide +kernel
theorem dX12_call_90 : decode cX12_call 90 = .ok (.iload_n 1, 1) := by decide +kernel
theorem dX12_call_91 : decode cX12_call 91 = .ok (.if_icmp .ne 35, 3) := by decide +kernel
theorem dX12_call_94 : decode cX12_call 94 = .ok (.aload_n 0, 1) := by decide +kernel
theorem dX12_call_95 : decode cX12_call 95 = .ok (.getfield 8, 3) := by decide +kernel
theorem dX12_call_98 : decode cX12_call 98 = .ok (.iconst 0, 1) := by decide +kernel
theorem dX12_call_99 : decode cX12_call 99 = .ok (.iaload, 1) := by decide +kernel
theorem dX12_call_100 : decode cX12_call 100 = .ok (.aload_n 0, 1) := by decide +kernel
theorem dX12_call_101 : decode cX12_call 101 = .ok (.getfield 8, 3) := by decide +kernel
theorem dX12_call_104 : decode cX12_call 104 = .ok (.sipush 490, 3) := by decide +kernel
theorem dX12_call_107 : decode cX12_call 107 = .ok (.iload 4, 2) := by decide +kernel
theorem dX12_call_109 : decode cX12_call 109 = .ok (.iadd, 1) := by decide +kernel
theorem dX12_call_110 : decode cX12_call 110 = .ok (.iaload, 1) := by decide +kernel
theorem dX12_call_111 : decode cX12_call 111 = .ok (.isub, 1) := by decide +kernel
theorem dX12_call_112 : decode cX12_call 112 = .ok (.aload_n 0, 1) := by decide +kernel
theorem dX12_call_113 : decode cX12_call 113 = .ok (.iconst 4, 1) := by decide +kernel
theorem dX12_call_114 : decode cX12_call 114 = .ok (.aload_n 0, 1) := by decide +kernel
theorem dX12_call_115 : decode cX12_call 115 = .ok (.getfield 8, 3) := by decide +kernel
theorem dX12_call_118 : decode cX12_call 118 = .ok (.iconst 0, 1) := by decide +kernel
theorem dX12_call_119 : decode cX12_call 119 = .ok (.iaload, 1) := by decide +kernel
theorem dX12_call_120 : decode cX12_call 120 = .ok (.invokevirtual 152, 3) := by decide +kernel
theorem dX12_call_123 : decode cX12_call 123 = .ok (.if_icmp .lt 7, 3) := by decide +kernel
theorem dX12_call_126 : decode cX12_call 126 = .ok (.iconst 1, 1) := by decide +kernel
theorem dX12_call_127 : decode cX12_call 127 = .ok (.goto 4, 3) := by decide +kernel
theorem dX12_call_130 : decode cX12_call 130 = .ok (.iconst 0, 1) := by decide +kernel
theorem dX12_call_131 : decode cX12_call 131 = .ok (.istore_n 3, 1) := by decide +kernel
theorem dX12_call_132 : decode cX12_call 132 = .ok (.iinc 4 1, 3) := by decide +kernel
theorem dX12_call_135 : decode cX12_call 135 = .ok (.goto (-86), 3) := by decide +kernel
theorem dX12_call_138 : decode cX12_call 138 = .ok (.iload_n 3, 1) := by decide +kernel
theorem dX12_call_139 : decode cX12_call 139 = .ok (.ifCond .ne 6, 3) := by decide +kernel
theorem dX12_call_142 : decode cX12_call 142 = .ok (.bipush (-3), 2) := by decide +kernel
theorem dX12_call_144 : decode cX12_call 144 = .ok (.ireturn, 1) := by decide +kernel
theorem dX12_call_145 : decode cX12_call 145 = .ok (.aload_n 0, 1) := by decide +kernel
theorem dX12_call_146 : decode cX12_call 146 = .ok (.getfield 8, 3) := by decide +kernel
theorem dX12_call_149 : decode cX12_call 149 = .ok (.iconst 2, 1) := by decide +kernel
theorem dX12_call_150 : decode cX12_call 150 = .ok (.iaload, 1) := by decide +kernel
theorem dX12_call_151 : decode cX12_call 151 = .ok (.bipush 60, 2) := by decide +kernel
theorem dX12_call_153 : decode cX12_call 153 = .ok (.if_icmp .ne 8, 3) := by decide +kernel
theorem dX12_call_156 : decode cX12_call 156 = .ok (.bipush (-4), 2) := by decide +kernel
theorem dX12_call_158 : decode cX12_call 158 = .ok (.goto 13, 3) := by decide +kernel
theorem dX12_call_161 : decode cX12_call 161 = .ok (.aload_n 0, 1) := by decide +kernel
theorem dX12_call_162 : decode cX12_call 162 = .ok (.iconst 4, 1) := by decide +kernel
theorem dX12_call_163 : decode cX12_call 163 = .ok (.iload_n 1, 1) := by decide +kernel
theorem dX12_call_164 : decode cX12_call 164 = .ok (.iconst (-1), 1) := by decide +kernel
theorem dX12_call_165 : decode cX12_call 165 = .ok (.iconst (-1), 1) := by decide +kernel
theorem dX12_call_166 : decode cX12_call 166 = .ok (.iconst (-1), 1) := by decide +kernel
theorem dX12_call_167 : decode cX12_call 167 = .ok (.iload_n 2, 1) := by decide +kernel
theorem dX12_call_168 : decode cX12_call 168 = .ok (.invokevirtual 158, 3) := by decide +kernel
theorem dX12_call_171 : decode cX12_call 171 = .ok (.ireturn, 1) := by decide +kernel
theorem cm_X12_call : CM yX12_call cX12_call 5 (some .int) 2 12 := ⟨w_1806, w_1807, w_1808, w_97, ⟨by decide +kernel, by decide +kernel, by decide +kernel⟩, ⟨_, _, rfl⟩, by decide⟩
noncomputable def f_X12_call_171 (n : Nat)  (s0 : Int) (h : MM) : RR :=
  some (s0, h)
noncomputable def f_X12_call_131 (n : Nat) (rec49 : Int → Int → MM → RR) (v0 v1 v2 v4 s0 : Int) (h : MM) : RR :=
  lb (wr (v4 + 1)) fun x1 =>
  rec49 s0 x1 h
noncomputable def f_X12_call_130 (n : Nat) (rec49 : Int → Int → MM → RR) (v0 v1 v2 v4 : Int) (h : MM) : RR :=
  f_X12_call_131 n rec49 v0 v1 v2 v4 0 h
noncomputable def f_X12_call_126 (n : Nat) (rec49 : Int → Int → MM → RR) (v0 v1 v2 v4 : Int) (h : MM) : RR :=
  f_X12_call_131 n rec49 v0 v1 v2 v4 1 h
noncomputable def f_X12_call_49b (n : Nat) (rec49 : Int → Int → MM → RR) (v0 v1 v2 v3 v4 : Int) (h : MM) : RR :=
  gf h v0 12 1 fun r1 =>
  rd h r1 100 2 fun r2 =>
  if r2 ≤ v4 then
    if v3 = 0 then
      some ((-3), h)
    else
    gf h v0 12 1 fun r5 =>
    rd h r5 100 2 fun r6 =>
    if r6 = 60 then
      f_X12_call_171 n ((-4)) h
    else
    gk h v0 12 <|
    bd (f_X12_paper n v0 4 v1 ((-1)) ((-1)) ((-1)) v2 h) fun r8 h8 =>
    f_X12_call_171 n r8 h8
  else
  if v3 = 0 then
    f_X12_call_130 n rec49 v0 v1 v2 v4 h
  else
  gf h v0 12 1 fun r10 =>
  rd h r10 100 (wr (370 + v4)) fun r11 =>
  if r11 = 4 then
    gf h v0 12 1 fun r13 =>
    rd h r13 100 (wr (430 + v4)) fun r14 =>
    if r14 = v1 then
      gf h v0 12 1 fun r16 =>
      rd h r16 100 0 fun r17 =>
      gf h v0 12 1 fun r18 =>
      rd h r18 100 (wr (490 + v4)) fun r19 =>
      gf h v0 12 1 fun r20 =>
      rd h r20 100 0 fun r21 =>
      gk h v0 12 <|
      bd (f_X12_rule n v0 4 r21 h) fun r22 h22 =>
      if wr (r17 - r19) < r22 then
        f_X12_call_130 n rec49 v0 v1 v2 v4 h22
      else
      f_X12_call_126 n rec49 v0 v1 v2 v4 h22
    else
    f_X12_call_126 n rec49 v0 v1 v2 v4 h
  else
  f_X12_call_126 n rec49 v0 v1 v2 v4 h
noncomputable def f_X12_call_49 (n : Nat)  (v0 v1 v2 : Int) : Nat → Int → Int → MM → RR
  | 0, _, _, _ => none
  | k + 1, v3, v4, h => f_X12_call_49b n  (f_X12_call_49 n  v0 v1 v2 k) v0 v1 v2 v3 v4 h
noncomputable def f_X12_call_45 (n : Nat)  (v0 v1 v2 s0 : Int) (h : MM) : RR :=
  f_X12_call_49 n v0 v1 v2 n s0 0 h
noncomputable def f_X12_call (n : Nat) (v0 v1 v2 : Int) (h : MM) : RR :=
  gk h v0 12 <|
  bd (f_X12_isScheme n v0 v1 h) fun r1 h1 =>
  if r1 = 0 then
    some ((-1), h1)
  else
  gf h1 v0 12 1 fun r3 =>
  rd h1 r3 100 0 fun r4 =>
  gk h1 v0 12 <|
  bd (f_X12_rule n v0 3 r4 h1) fun r5 h5 =>
  bd (f_X12_in n v2 1 r5 h5) fun r6 h6 =>
  if r6 = 0 then
    some ((-2), h6)
  else
  gk h6 v0 12 <|
  bd (f_X12_isFallen n v0 v1 h6) fun r8 h8 =>
  if r8 = 0 then
    f_X12_call_45 n v0 v1 v2 1 h8
  else
  f_X12_call_45 n v0 v1 v2 0 h8
set_option maxRecDepth 20000 in
theorem b_X12_call_171 {g : GT} {Z : Int × MM} {n : Nat} (C : Cx g cX12_call 5 yX12_call 4 86) (hr : Rt g (some .int) 0 Z) {s0 : Int}    (cs0 : in32 s0) {h : MM} (hf : f_X12_call_171 n  s0 h = some Z) : G g 171 [(3, 0), (3, 0), (3, 0), (3, 0), (3, 0)] [(0, s0)] h := by
  unfold f_X12_call_171 at hf
  cases hf
  exact r_jret C hr dX12_call_171 cs0
set_option maxRecDepth 20000 in
theorem b_X12_call_131 {g : GT} {Z : Int × MM} {n : Nat} (C : Cx g cX12_call 5 yX12_call 4 86) (hr : Rt g (some .int) 0 Z) {v0 v1 v2 v4 s0 : Int}  {rec49 : Int → Int → MM → RR} (L49 : ∀ (u3 u4 : Int) (h : MM), in32 u3 → in32 u4 → rec49 u3 u4 h = some Z → G g 49 [(2, v0), (0, v1), (0, v2), (0, u3), (0, u4)] [] h) (cv1 : in32 v1) (cv2 : in32 v2) (cv4 : in32 v4) (cs0 : in32 s0) {h : MM} (hf : f_X12_call_131 n rec49 v0 v1 v2 v4 s0 h = some Z) : G g 131 [(2, v0), (0, v1), (0, v2), (3, 0), (0, v4)] [(0, s0)] h := by
  unfold f_X12_call_131 at hf
  refine r_istore_n C dX12_call_131 (Nat.le_of_ble_eq_true rfl) rfl ?_
  obtain ⟨x1, e1, hf⟩ := lb_s hf
  have c1 : in32 x1 := by rw [e1]; exact (in32_t _)
  refine r_iincL C dX12_call_132 rfl e1 (Nat.le_of_ble_eq_true rfl) rfl ?_
  refine r_goto C dX12_call_135 (tgt := 49) (by decide) ?_
  exact G.mask [true, true, true, true, true] rfl rfl (L49 _ _ _ cs0 c1 hf)
set_option maxRecDepth 20000 in
theorem b_X12_call_130 {g : GT} {Z : Int × MM} {n : Nat} (C : Cx g cX12_call 5 yX12_call 4 86) (hr : Rt g (some .int) 0 Z) {v0 v1 v2 v4 : Int}  {rec49 : Int → Int → MM → RR} (L49 : ∀ (u3 u4 : Int) (h : MM), in32 u3 → in32 u4 → rec49 u3 u4 h = some Z → G g 49 [(2, v0), (0, v1), (0, v2), (0, u3), (0, u4)] [] h) (cv1 : in32 v1) (cv2 : in32 v2) (cv4 : in32 v4) {h : MM} (hf : f_X12_call_130 n rec49 v0 v1 v2 v4 h = some Z) : G g 130 [(2, v0), (0, v1), (0, v2), (3, 0), (0, v4)] [] h := by
  unfold f_X12_call_130 at hf
  refine r_iconst C dX12_call_130 ?_
  exact G.mask [true, true, true, false, true] rfl rfl (b_X12_call_131 C hr L49 cv1 cv2 cv4 (in32_of rfl) hf)
set_option maxRecDepth 20000 in
theorem b_X12_call_126 {g : GT} {Z : Int × MM} {n : Nat} (C : Cx g cX12_call 5 yX12_call 4 86) (hr : Rt g (some .int) 0 Z) {v0 v1 v2 v4 : Int}  {rec49 : Int → Int → MM → RR} (L49 : ∀ (u3 u4 : Int) (h : MM), in32 u3 → in32 u4 → rec49 u3 u4 h = some Z → G g 49 [(2, v0), (0, v1), (0, v2), (0, u3), (0, u4)] [] h) (cv1 : in32 v1) (cv2 : in32 v2) (cv4 : in32 v4) {h : MM} (hf : f_X12_call_126 n rec49 v0 v1 v2 v4 h = some Z) : G g 126 [(2, v0), (0, v1), (0, v2), (3, 0), (0, v4)] [] h := by
  unfold f_X12_call_126 at hf
  refine r_iconst C dX12_call_126 ?_
  refine r_goto C dX12_call_127 (tgt := 131) (by decide) ?_
  exact G.mask [true, true, true, false, true] rfl rfl (b_X12_call_131 C hr L49 cv1 cv2 cv4 (in32_of rfl) hf)
set_option maxRecDepth 20000 in
theorem b_X12_call_49b {g : GT} {Z : Int × MM} {n : Nat} (C : Cx g cX12_call 5 yX12_call 4 86) (hr : Rt g (some .int) 0 Z) {v0 v1 v2 v3 v4 : Int}  {rec49 : Int → Int → MM → RR} (L49 : ∀ (u3 u4 : Int) (h : MM), in32 u3 → in32 u4 → rec49 u3 u4 h = some Z → G g 49 [(2, v0), (0, v1), (0, v2), (0, u3), (0, u4)] [] h) (cv1 : in32 v1) (cv2 : in32 v2) (cv3 : in32 v3) (cv4 : in32 v4) {h : MM} (hf : f_X12_call_49b n rec49 v0 v1 v2 v3 v4 h = some Z) : G g 49 [(2, v0), (0, v1), (0, v2), (0, v3), (0, v4)] [] h := by
  unfold f_X12_call_49b at hf
  refine r_iload C dX12_call_49 rfl ?_
  refine r_aload_n C dX12_call_51 rfl ?_
  obtain ⟨q1, hf⟩ := gf_s hf
  refine r_gf C ct12 (j := 1) (ji := 1) dX12_call_52 q1 rfl rfl (by decide) w_1426 rfl (fun c1 => ?_)
  refine r_iconst C dX12_call_55 ?_
  obtain ⟨q2, hf⟩ := rd_s hf
  refine r_iald C dX12_call_56 q2 rfl (fun c2 => ?_)
  refine r_icmp_ge C dX12_call_57 (tgt := 138) (by decide) cv4 c2 (fun n3 => ?_) (fun n3 => ?_)
  · have hf := ite_p n3 hf
    refine r_iload_n C dX12_call_138 rfl ?_
    refine r_if_ne C dX12_call_139 (tgt := 145) (by decide) cv3 (fun n4 => ?_) (fun n4 => ?_)
    · have hf := ite_n n4 hf
      refine r_aload_n C dX12_call_145 rfl ?_
      obtain ⟨q5, hf⟩ := gf_s hf
      refine r_gf C ct12 (j := 1) (ji := 1) dX12_call_146 q5 rfl rfl (by decide) w_1426 rfl (fun c5 => ?_)
      refine r_iconst C dX12_call_149 ?_
      obtain ⟨q6, hf⟩ := rd_s hf
      refine r_iald C dX12_call_150 q6 rfl (fun c6 => ?_)
      refine r_bipush C dX12_call_151 rfl ?_
      refine r_icmp_ne C dX12_call_153 (tgt := 161) (by decide) c6 (in32_of rfl) (fun n7 => ?_) (fun n7 => ?_)
      · have hf := ite_n n7 hf
        refine r_aload_n C dX12_call_161 rfl ?_
        refine r_iconst C dX12_call_162 ?_
        refine r_iload_n C dX12_call_163 rfl ?_
        refine r_iconst C dX12_call_164 ?_
        refine r_iconst C dX12_call_165 ?_
        refine r_iconst C dX12_call_166 ?_
        refine r_iload_n C dX12_call_167 rfl ?_
        obtain ⟨p8, hf⟩ := gk_s hf
        obtain ⟨r8, h8, hq8, hf⟩ := bd_s hf
        refine r_cV6 C (am_X12_paper (gl g) n) cm_X12_paper w_1599 dX12_call_168 ⟨Nat.le_of_ble_eq_true rfl, Nat.le_of_ble_eq_true rfl⟩ p8 rfl (in32_of rfl) cv1 (in32_of rfl) (in32_of rfl) (in32_of rfl) cv2 rfl (Nat.le_of_ble_eq_true rfl) hq8 (by decide) (fun c8 => ?_)
        have c8 : in32 _ := c8
        exact G.mask [false, false, false, false, false] rfl rfl (b_X12_call_171 C hr  c8 hf)
      · have hf := ite_p n7 hf
        refine r_bipush C dX12_call_156 rfl ?_
        refine r_goto C dX12_call_158 (tgt := 171) (by decide) ?_
        exact G.mask [false, false, false, false, false] rfl rfl (b_X12_call_171 C hr  (in32_of rfl) hf)
    · have hf := ite_p n4 hf
      refine r_bipush C dX12_call_142 rfl ?_
      cases hf
      exact r_jret C hr dX12_call_144 (in32_of rfl)
  · have hf := ite_n n3 hf
    refine r_iload_n C dX12_call_60 rfl ?_
    refine r_if_eq C dX12_call_61 (tgt := 130) (by decide) cv3 (fun n9 => ?_) (fun n9 => ?_)
    · have hf := ite_p n9 hf
      exact G.mask [true, true, true, false, true] rfl rfl (b_X12_call_130 C hr L49 cv1 cv2 cv4 hf)
    · have hf := ite_n n9 hf
      refine r_aload_n C dX12_call_64 rfl ?_
      obtain ⟨q10, hf⟩ := gf_s hf
      refine r_gf C ct12 (j := 1) (ji := 1) dX12_call_65 q10 rfl rfl (by decide) w_1426 rfl (fun c10 => ?_)
      refine r_sipush C dX12_call_68 rfl ?_
      refine r_iload C dX12_call_71 rfl ?_
      refine r_iadd C dX12_call_73 ?_
      obtain ⟨q11, hf⟩ := rd_s hf
      refine r_iald C dX12_call_74 q11 rfl (fun c11 => ?_)
      refine r_iconst C dX12_call_75 ?_
      refine r_icmp_ne C dX12_call_76 (tgt := 126) (by decide) c11 (in32_of rfl) (fun n12 => ?_) (fun n12 => ?_)
      · have hf := ite_n n12 hf
        exact G.mask [true, true, true, false, true] rfl rfl (b_X12_call_126 C hr L49 cv1 cv2 cv4 hf)
      · have hf := ite_p n12 hf
        refine r_aload_n C dX12_call_79 rfl ?_
        obtain ⟨q13, hf⟩ := gf_s hf
        refine r_gf C ct12 (j := 1) (ji := 1) dX12_call_80 q13 rfl rfl (by decide) w_1426 rfl (fun c13 => ?_)
        refine r_sipush C dX12_call_83 rfl ?_
        refine r_iload C dX12_call_86 rfl ?_
        refine r_iadd C dX12_call_88 ?_
        obtain ⟨q14, hf⟩ := rd_s hf
        refine r_iald C dX12_call_89 q14 rfl (fun c14 => ?_)
        refine r_iload_n C dX12_call_90 rfl ?_
        refine r_icmp_ne C dX12_call_91 (tgt := 126) (by decide) c14 cv1 (fun n15 => ?_) (fun n15 => ?_)
        · have hf := ite_n n15 hf
          exact G.mask [true, true, true, false, true] rfl rfl (b_X12_call_126 C hr L49 cv1 cv2 cv4 hf)
        · have hf := ite_p n15 hf
          refine r_aload_n C dX12_call_94 rfl ?_
          obtain ⟨q16, hf⟩ := gf_s hf
          refine r_gf C ct12 (j := 1) (ji := 1) dX12_call_95 q16 rfl rfl (by decide) w_1426 rfl (fun c16 => ?_)
          refine r_iconst C dX12_call_98 ?_
          obtain ⟨q17, hf⟩ := rd_s hf
          refine r_iald C dX12_call_99 q17 rfl (fun c17 => ?_)
          refine r_aload_n C dX12_call_100 rfl ?_
          obtain ⟨q18, hf⟩ := gf_s hf
          refine r_gf C ct12 (j := 1) (ji := 1) dX12_call_101 q18 rfl rfl (by decide) w_1426 rfl (fun c18 => ?_)
          refine r_sipush C dX12_call_104 rfl ?_
          refine r_iload C dX12_call_107 rfl ?_
          refine r_iadd C dX12_call_109 ?_
          obtain ⟨q19, hf⟩ := rd_s hf
          refine r_iald C dX12_call_110 q19 rfl (fun c19 => ?_)
          refine r_isub C dX12_call_111 ?_
          refine r_aload_n C dX12_call_112 rfl ?_
          refine r_iconst C dX12_call_113 ?_
          refine r_aload_n C dX12_call_114 rfl ?_
          obtain ⟨q20, hf⟩ := gf_s hf
          refine r_gf C ct12 (j := 1) (ji := 1) dX12_call_115 q20 rfl rfl (by decide) w_1426 rfl (fun c20 => ?_)
          refine r_iconst C dX12_call_118 ?_
          obtain ⟨q21, hf⟩ := rd_s hf
          refine r_iald C dX12_call_119 q21 rfl (fun c21 => ?_)
          obtain ⟨p22, hf⟩ := gk_s hf
          obtain ⟨r22, h22, hq22, hf⟩ := bd_s hf
          refine r_cV2 C (am_X12_rule (gl g) n) cm_X12_rule w_1579 dX12_call_120 ⟨Nat.le_of_ble_eq_true rfl, Nat.le_of_ble_eq_true rfl⟩ p22 rfl (in32_of rfl) c21 rfl (Nat.le_of_ble_eq_true rfl) hq22 (by decide) (fun c22 => ?_)
          have c22 : in32 _ := c22
          refine r_icmp_lt C dX12_call_123 (tgt := 130) (by decide) (in32_t _) c22 (fun n23 => ?_) (fun n23 => ?_)
          · have hf := ite_p n23 hf
            exact G.mask [true, true, true, false, true] rfl rfl (b_X12_call_130 C hr L49 cv1 cv2 cv4 hf)
          · have hf := ite_n n23 hf
            exact G.mask [true, true, true, false, true] rfl rfl (b_X12_call_126 C hr L49 cv1 cv2 cv4 hf)
set_option maxRecDepth 20000 in
theorem l_X12_call_49 {g : GT} {Z : Int × MM} {n : Nat} (C : Cx g cX12_call 5 yX12_call 4 86) (hr : Rt g (some .int) 0 Z) {v0 v1 v2 : Int}   (cv1 : in32 v1) (cv2 : in32 v2) : ∀ (k : Nat) (v3 v4 : Int) (h : MM), in32 v3 → in32 v4 → f_X12_call_49 n  v0 v1 v2 k v3 v4 h = some Z → G g 49 [(2, v0), (0, v1), (0, v2), (0, v3), (0, v4)] [] h := by
  intro k
  induction k with
  | zero => intro v3 v4 h cv3 cv4 hf; exact absurd hf (by intro z; cases z)
  | succ k ih => intro v3 v4 h cv3 cv4 hf; exact b_X12_call_49b C hr (rec49 := f_X12_call_49 n  v0 v1 v2 k)  ih cv1 cv2 cv3 cv4 (show f_X12_call_49b n  (f_X12_call_49 n  v0 v1 v2 k) v0 v1 v2 v3 v4 h = some Z from hf)
set_option maxRecDepth 20000 in
theorem b_X12_call_45 {g : GT} {Z : Int × MM} {n : Nat} (C : Cx g cX12_call 5 yX12_call 4 86) (hr : Rt g (some .int) 0 Z) {v0 v1 v2 s0 : Int}    (cv1 : in32 v1) (cv2 : in32 v2) (cs0 : in32 s0) {h : MM} (hf : f_X12_call_45 n  v0 v1 v2 s0 h = some Z) : G g 45 [(2, v0), (0, v1), (0, v2), (3, 0), (3, 0)] [(0, s0)] h := by
  unfold f_X12_call_45 at hf
  refine r_istore_n C dX12_call_45 (Nat.le_of_ble_eq_true rfl) rfl ?_
  refine r_iconst C dX12_call_46 ?_
  refine r_istore C dX12_call_47 (Nat.le_of_ble_eq_true rfl) rfl ?_
  exact G.mask [true, true, true, true, true] rfl rfl (l_X12_call_49 C hr  cv1 cv2 _ _ _ _ cs0 (in32_of rfl) hf)
set_option maxRecDepth 20000 in
theorem e_X12_call {g : GT} {Z : Int × MM} {n : Nat} (C : Cx g cX12_call 5 yX12_call 4 86) (hr : Rt g (some .int) 0 Z) {v0 v1 v2 : Int} (cv0 : cK 2 v0) (cv1 : cK 0 v1) (cv2 : cK 0 v2) {h : MM} (hf : f_X12_call n v0 v1 v2 h = some Z) : G g 0 [(2, v0), (0, v1), (0, v2), (3, 0), (3, 0)] [] h := by
  have cv1 : in32 v1 := cv1
  have cv2 : in32 v2 := cv2
  unfold f_X12_call at hf
  refine r_aload_n C dX12_call_0 rfl ?_
  refine r_iload_n C dX12_call_1 rfl ?_
  obtain ⟨p1, hf⟩ := gk_s hf
  obtain ⟨r1, h1, hq1, hf⟩ := bd_s hf
  refine r_cV1 C (am_X12_isScheme (gl g) n) cm_X12_isScheme w_1765 dX12_call_2 ⟨Nat.le_of_ble_eq_true rfl, Nat.le_of_ble_eq_true rfl⟩ p1 rfl cv1 rfl (Nat.le_of_ble_eq_true rfl) hq1 (by decide) (fun c1 => ?_)
  have c1 : in32 _ := c1
  refine r_if_ne C dX12_call_5 (tgt := 10) (by decide) c1 (fun n2 => ?_) (fun n2 => ?_)
  · have hf := ite_n n2 hf
    refine r_iload_n C dX12_call_10 rfl ?_
    refine r_iconst C dX12_call_11 ?_
    refine r_aload_n C dX12_call_12 rfl ?_
    refine r_iconst C dX12_call_13 ?_
    refine r_aload_n C dX12_call_14 rfl ?_
    obtain ⟨q3, hf⟩ := gf_s hf
    refine r_gf C ct12 (j := 1) (ji := 1) dX12_call_15 q3 rfl rfl (by decide) w_1426 rfl (fun c3 => ?_)
    refine r_iconst C dX12_call_18 ?_
    obtain ⟨q4, hf⟩ := rd_s hf
    refine r_iald C dX12_call_19 q4 rfl (fun c4 => ?_)
    obtain ⟨p5, hf⟩ := gk_s hf
    obtain ⟨r5, h5, hq5, hf⟩ := bd_s hf
    refine r_cV2 C (am_X12_rule (gl g) n) cm_X12_rule w_1579 dX12_call_20 ⟨Nat.le_of_ble_eq_true rfl, Nat.le_of_ble_eq_true rfl⟩ p5 rfl (in32_of rfl) c4 rfl (Nat.le_of_ble_eq_true rfl) hq5 (by decide) (fun c5 => ?_)
    have c5 : in32 _ := c5
    obtain ⟨r6, h6, hq6, hf⟩ := bd_s hf
    refine r_cS3 C (am_X12_in (gl g) n) cm_X12_in w_1496 dX12_call_23 ⟨Nat.le_of_ble_eq_true rfl, Nat.le_of_ble_eq_true rfl⟩ cv2 (in32_of rfl) c5 rfl (Nat.le_of_ble_eq_true rfl) hq6 (by decide) (fun c6 => ?_)
    have c6 : in32 _ := c6
    refine r_if_ne C dX12_call_26 (tgt := 32) (by decide) c6 (fun n7 => ?_) (fun n7 => ?_)
    · have hf := ite_n n7 hf
      refine r_aload_n C dX12_call_32 rfl ?_
      refine r_iload_n C dX12_call_33 rfl ?_
      obtain ⟨p8, hf⟩ := gk_s hf
      obtain ⟨r8, h8, hq8, hf⟩ := bd_s hf
      refine r_cV1 C (am_X12_isFallen (gl g) n) cm_X12_isFallen w_1769 dX12_call_34 ⟨Nat.le_of_ble_eq_true rfl, Nat.le_of_ble_eq_true rfl⟩ p8 rfl cv1 rfl (Nat.le_of_ble_eq_true rfl) hq8 (by decide) (fun c8 => ?_)
      have c8 : in32 _ := c8
      refine r_if_ne C dX12_call_37 (tgt := 44) (by decide) c8 (fun n9 => ?_) (fun n9 => ?_)
      · have hf := ite_n n9 hf
        refine r_iconst C dX12_call_44 ?_
        exact G.mask [true, true, true, false, false] rfl rfl (b_X12_call_45 C hr  cv1 cv2 (in32_of rfl) hf)
      · have hf := ite_p n9 hf
        refine r_iconst C dX12_call_40 ?_
        refine r_goto C dX12_call_41 (tgt := 45) (by decide) ?_
        exact G.mask [true, true, true, false, false] rfl rfl (b_X12_call_45 C hr  cv1 cv2 (in32_of rfl) hf)
    · have hf := ite_p n7 hf
      refine r_bipush C dX12_call_29 rfl ?_
      cases hf
      exact r_jret C hr dX12_call_31 (in32_of rfl)
  · have hf := ite_p n2 hf
    refine r_iconst C dX12_call_8 ?_
    cases hf
    exact r_jret C hr dX12_call_9 (in32_of rfl)
set_option maxRecDepth 20000 in
theorem am_X12_call (l : Launch) (n : Nat) : AM l yX12_call cX12_call 5 (some .int) 4 86 [2, 0, 0] 0 (un3 (f_X12_call n)) := by
  refine AM.intro (by decide) (fun xs hx => ?_) (fun g xs h Z hl C hr hx hf => ?_)
  · obtain ⟨a0, a1, a2, rfl, c0, c1, c2⟩ := canL_3 hx
    exact Nat.le_of_ble_eq_true rfl
  · obtain ⟨a0, a1, a2, rfl, c0, c1, c2⟩ := canL_3 hx
    have hf := (un3_e _ a0 a1 a2 _).symm.trans hf
    exact e_X12_call (n := n) C hr c0 c1 c2 hf
/-! LinesPromisedModel.lend(III)I -/
theorem dX12_lend_0 : decode cX12_lend 0 = .ok (.aload_n 0, 1) := by decide +kernel
theorem dX12_lend_1 : decode cX12_lend 1 = .ok (.iload_n 1, 1) := by decide +kernel
theorem dX12_lend_2 : decode cX12_lend 2 = .ok (.invokevirtual 241, 3) := by decide +kernel
theorem dX12_lend_5 : decode cX12_lend 5 = .ok (.ifCond .eq 10, 3) := by decide +kernel
theorem dX12_lend_8 : decode cX12_lend 8 = .ok (.iload_n 2, 1) := by decide +kernel
theorem dX12_lend_9 : decode cX12_lend 9 = .ok (.invokestatic 69, 3) := by decide +kernel
theorem dX12_lend_12 : decode cX12_lend 12 = .ok (.ifCond .ne 5, 3) := by decide +kernel
theorem dX12_lend_15 : decode cX12_lend 15 = .ok (.iconst (-1), 1) := by decide +kernel
theorem dX12_lend_16 : decode cX12_lend 16 = .ok (.ireturn, 1) := by decide +kernel
theorem dX12_lend_17 : decode cX12_lend 17 = .ok (.iload_n 3, 1) := by decide +kernel
theorem dX12_lend_18 : decode cX12_lend 18 = .ok (.iconst 1, 1) := by decide +kernel
theorem dX12_lend_19 : decode cX12_lend 19 = .ok (.sipush 9999, 3) := by decide +kernel
theorem dX12_lend_22 : decode cX12_lend 22 = .ok (.invokestatic 58, 3) := by decide +kernel
theorem dX12_lend_25 : decode cX12_lend 25 = .ok (.ifCond .ne 6, 3) := by decide +kernel
theorem dX12_lend_28 : decode cX12_lend 28 = .ok (.bipush (-2), 2) := by decide +kernel
theorem dX12_lend_30 : decode cX12_lend 30 = .ok (.ireturn, 1) := by decide +kernel
theorem dX12_lend_31 : decode cX12_lend 31 = .ok (.aload_n 0, 1) := by decide +kernel
theorem dX12_lend_32 : decode cX12_lend 32 = .ok (.iload_n 1, 1) := by decide +kernel
theorem dX12_lend_33 : decode cX12_lend 33 = .ok (.invokevirtual 244, 3) := by decide +kernel
theorem dX12_lend_36 : decode cX12_lend 36 = .ok (.ifCond .ne 17, 3) := by decide +kernel
theorem dX12_lend_39 : decode cX12_lend 39 = .ok (.aload_n 0, 1) := by decide +kernel
theorem dX12_lend_40 : decode cX12_lend 40 = .ok (.getfield 8, 3) := by decide +kernel
theorem dX12_lend_43 : decode cX12_lend 43 = .ok (.sipush 192, 3) := by decide +kernel
theorem dX12_lend_46 : decode cX12_lend 46 = .ok (.iload_n 2, 1) := by decide +kernel
theorem dX12_lend_47 : decode cX12_lend 47 = .ok (.iadd, 1) := by decide +kernel
theorem dX12_lend_48 : decode cX12_lend 48 = .ok (.iaload, 1) := by decide +kernel
theorem dX12_lend_49 : decode cX12_lend 49 = .ok (.iload_n 3, 1) := by decide +kernel
theorem dX12_lend_50 : decode cX12_lend 50 = .ok (.if_icmp .ge 6, 3) := by decide +kernel
theorem dX12_lend_53 : decode cX12_lend 53 = .ok (.bipush (-3), 2) := by decide +kernel
theorem dX12_lend_55 : decode cX12_lend 55 = .ok (.ireturn, 1) := by decide +kernel
theorem dX12_lend_56 : decode cX12_lend 56 = .ok (.aload_n 0, 1) := by decide +kernel
theorem dX12_lend_57 : decode cX12_lend 57 = .ok (.getfield 8, 3) := by decide +kernel
theorem dX12_lend_60 : decode cX12_lend 60 = .ok (.iconst 2, 1) := by decide +kernel
theorem dX12_lend_61 : decode cX12_lend 61 = .ok (.iaload, 1) := by decide +kernel
theorem dX12_lend_62 : decode cX12_lend 62 = .ok (.bipush 60, 2) := by decide +kernel
theorem dX12_lend_64 : decode cX12_lend 64 = .ok (.if_icmp .ne 6, 3) := by decide +kernel
theorem dX12_lend_67 : decode cX12_lend 67 = .ok (.bipush (-4), 2) := by decide +kernel
theorem dX12_lend_69 : decode cX12_lend 69 = .ok (.ireturn, 1) := by decide +kernel
theorem dX12_lend_70 : decode cX12_lend 70 = .ok (.aload_n 0, 1) := by decide +kernel
theorem dX12_lend_71 : decode cX12_lend 71 = .ok (.getfield 8, 3) := by decide +kernel
theorem dX12_lend_74 : decode cX12_lend 74 = .ok (.sipush 192, 3) := by decide +kernel
theorem dX12_lend_77 : decode cX12_lend 77 = .ok (.iload_n 2, 1) := by decide +kernel
theorem dX12_lend_78 : decode cX12_lend 78 = .ok (.iadd, 1) := by decide +kernel
theorem dX12_lend_79 : decode cX12_lend 79 = .ok (.dup2, 1) := by decide +kernel
theorem dX12_lend_80 : decode cX12_lend 80 = .ok (.iaload, 1) := by decide +kernel
theorem dX12_lend_81 : decode cX12_lend 81 = .ok (.iload_n 3, 1) := by decide +kernel
theorem dX12_lend_82 : decode cX12_lend 82 = .ok (.isub, 1) := by decide +kernel
theorem dX12_lend_83 : decode cX12_lend 83 = .ok (.iastore, 1) := by decide +kernel
theorem dX12_lend_84 : decode cX12_lend 84 = .ok (.aload_n 0, 1) := by decide +kernel
theorem dX12_lend_85 : decode cX12_lend 85 = .ok (.getfield 8, 3) := by decide +kernel
theorem dX12_lend_88 : decode cX12_lend 88 = .ok (.sipush 11502, 3) := by decide +kernel
theorem dX12_lend_91 : decode cX12_lend 91 = .ok (.aload_n 0, 1) := by decide +kernel
theorem dX12_lend_92 : decode cX12_lend 92 = .ok (.iload_n 1, 1) := by decide +kernel
theorem dX12_lend_93 : decode cX12_lend 93 = .ok (.invokevirtual 238, 3) := by decide +kernel
theorem dX12_lend_96 : decode cX12_lend 96 = .ok (.iadd, 1) := by decide +kernel
theorem dX12_lend_97 : decode cX12_lend 97 = .ok (.dup2, 1) := by decide +kernel
theorem dX12_lend_98 : decode cX12_lend 98 = .ok (.iaload, 1) := by decide +kernel
theorem dX12_lend_99 : decode cX12_lend 99 = .ok (.iload_n 3, 1) := by decide +kernel
theorem dX12_lend_100 : decode cX12_lend 100 = .ok (.iadd, 1) := by decide +kernel
theorem dX12_lend_101 : decode cX12_lend 101 = .ok (.iastore, 1) := by decide +kernel
theorem dX12_lend_102 : decode cX12_lend 102 = .ok (.aload_n 0, 1) := by decide +kernel
theorem dX12_lend_103 : decode cX12_lend 103 = .ok (.iconst 5, 1) := by decide +kernel
theorem dX12_lend_104 : decode cX12_lend 104 = .ok (.iload_n 1, 1) := by decide +kernel
theorem dX12_lend_105 : decode cX12_lend 105 = .ok (.iload_n 2, 1) := by decide +kernel
theorem dX12_lend_106 : decode cX12_lend 106 = .ok (.iconst (-1), 1) := by decide +kernel
theorem dX12_lend_107 : decode cX12_lend 107 = .ok (.iconst (-1), 1) := by decide +kernel
theorem dX12_lend_108 : decode cX12_lend 108 = .ok (.iload_n 3, 1) := by decide +kernel
theorem dX12_lend_109 : decode cX12_lend 109 = .ok (.invokevirtual 158, 3) := by decide +kernel
theorem dX12_lend_112 : decode cX12_lend 112 = .ok (.ireturn, 1) := by decide +kernel
theorem cm_X12_lend : CM yX12_lend cX12_lend 4 (some .int) 3 12 := ⟨w_1810, w_1811, w_1812, w_97, ⟨by decide +kernel, by decide +kernel, by decide +kernel⟩, ⟨_, _, rfl⟩, by decide⟩
noncomputable def f_X12_lend_15 (n : Nat)  (h : MM) : RR :=
  some ((-1), h)
noncomputable def f_X12_lend_53 (n : Nat)  (h : MM) : RR :=
  some ((-3), h)
noncomputable def f_X12_lend (n : Nat) (v0 v1 v2 v3 : Int) (h : MM) : RR :=
  gk h v0 12 <|
  bd (f_X12_isScheme n v0 v1 h) fun r1 h1 =>
  if r1 = 0 then
    f_X12_lend_15 n h1
  else
  bd (f_X12_isHolder n v2 h1) fun r3 h3 =>
  if r3 = 0 then
    f_X12_lend_15 n h3
  else
  bd (f_X12_in n v3 1 9999 h3) fun r5 h5 =>
  if r5 = 0 then
    some ((-2), h5)
  else
  gk h5 v0 12 <|
  bd (f_X12_isFallen n v0 v1 h5) fun r7 h7 =>
  if r7 = 0 then
    gf h7 v0 12 1 fun r9 =>
    rd h7 r9 100 (wr (192 + v2)) fun r10 =>
    if v3 ≤ r10 then
      gf h7 v0 12 1 fun r12 =>
      rd h7 r12 100 2 fun r13 =>
      if r13 = 60 then
        some ((-4), h7)
      else
      gf h7 v0 12 1 fun r15 =>
      rd h7 r15 100 (wr (192 + v2)) fun r16 =>
      wt h7 r15 100 (wr (192 + v2)) (wr (r16 - v3)) fun h17 =>
      gf h17 v0 12 1 fun r18 =>
      gk h17 v0 12 <|
      bd (f_X12_indexOf n v0 v1 h17) fun r19 h19 =>
      rd h19 r18 100 (wr (11502 + r19)) fun r20 =>
      wt h19 r18 100 (wr (11502 + r19)) (wr (r20 + v3)) fun h21 =>
      gk h21 v0 12 <|
      bd (f_X12_paper n v0 5 v1 v2 ((-1)) ((-1)) v3 h21) fun r22 h22 =>
      some (r22, h22)
    else
    f_X12_lend_53 n h7
  else
  f_X12_lend_53 n h7
set_option maxRecDepth 20000 in
theorem b_X12_lend_15 {g : GT} {Z : Int × MM} {n : Nat} (C : Cx g cX12_lend 4 yX12_lend 4 86) (hr : Rt g (some .int) 0 Z)     {h : MM} (hf : f_X12_lend_15 n   h = some Z) : G g 15 [(3, 0), (3, 0), (3, 0), (3, 0)] [] h := by
  unfold f_X12_lend_15 at hf
  refine r_iconst C dX12_lend_15 ?_
  cases hf
  exact r_jret C hr dX12_lend_16 (in32_of rfl)
set_option maxRecDepth 20000 in
theorem b_X12_lend_53 {g : GT} {Z : Int × MM} {n : Nat} (C : Cx g cX12_lend 4 yX12_lend 4 86) (hr : Rt g (some .int) 0 Z)     {h : MM} (hf : f_X12_lend_53 n   h = some Z) : G g 53 [(3, 0), (3, 0), (3, 0), (3, 0)] [] h := by
  unfold f_X12_lend_53 at hf
  refine r_bipush C dX12_lend_53 rfl ?_
  cases hf
  exact r_jret C hr dX12_lend_55 (in32_of rfl)
set_option maxRecDepth 20000 in
theorem e_X12_lend {g : GT} {Z : Int × MM} {n : Nat} (C : Cx g cX12_lend 4 yX12_lend 4 86) (hr : Rt g (some .int) 0 Z) {v0 v1 v2 v3 : Int} (cv0 : cK 2 v0) (cv1 : cK 0 v1) (cv2 : cK 0 v2) (cv3 : cK 0 v3) {h : MM} (hf : f_X12_lend n v0 v1 v2 v3 h = some Z) : G g 0 [(2, v0), (0, v1), (0, v2), (0, v3)] [] h := by
  have cv1 : in32 v1 := cv1
  have cv2 : in32 v2 := cv2
  have cv3 : in32 v3 := cv3
  unfold f_X12_lend at hf
  refine r_aload_n C dX12_lend_0 rfl ?_
  refine r_iload_n C dX12_lend_1 rfl ?_
  obtain ⟨p1, hf⟩ := gk_s hf
  obtain ⟨r1, h1, hq1, hf⟩ := bd_s hf
  refine r_cV1 C (am_X12_isScheme (gl g) n) cm_X12_isScheme w_1765 dX12_lend_2 ⟨Nat.le_of_ble_eq_true rfl, Nat.le_of_ble_eq_true rfl⟩ p1 rfl cv1 rfl (Nat.le_of_ble_eq_true rfl) hq1 (by decide) (fun c1 => ?_)
  have c1 : in32 _ := c1
  refine r_if_eq C dX12_lend_5 (tgt := 15) (by decide) c1 (fun n2 => ?_) (fun n2 => ?_)
  · have hf := ite_p n2 hf
    exact G.mask [false, false, false, false] rfl rfl (b_X12_lend_15 C hr   hf)
  · have hf := ite_n n2 hf
    refine r_iload_n C dX12_lend_8 rfl ?_
    obtain ⟨r3, h3, hq3, hf⟩ := bd_s hf
    refine r_cS1 C (am_X12_isHolder (gl g) n) cm_X12_isHolder w_1507 dX12_lend_9 ⟨Nat.le_of_ble_eq_true rfl, Nat.le_of_ble_eq_true rfl⟩ cv2 rfl (Nat.le_of_ble_eq_true rfl) hq3 (by decide) (fun c3 => ?_)
    have c3 : in32 _ := c3
    refine r_if_ne C dX12_lend_12 (tgt := 17) (by decide) c3 (fun n4 => ?_) (fun n4 => ?_)
    · have hf := ite_n n4 hf
      refine r_iload_n C dX12_lend_17 rfl ?_
      refine r_iconst C dX12_lend_18 ?_
      refine r_sipush C dX12_lend_19 rfl ?_
      obtain ⟨r5, h5, hq5, hf⟩ := bd_s hf
      refine r_cS3 C (am_X12_in (gl g) n) cm_X12_in w_1496 dX12_lend_22 ⟨Nat.le_of_ble_eq_true rfl, Nat.le_of_ble_eq_true rfl⟩ cv3 (in32_of rfl) (in32_of rfl) rfl (Nat.le_of_ble_eq_true rfl) hq5 (by decide) (fun c5 => ?_)
      have c5 : in32 _ := c5
      refine r_if_ne C dX12_lend_25 (tgt := 31) (by decide) c5 (fun n6 => ?_) (fun n6 => ?_)
      · have hf := ite_n n6 hf
        refine r_aload_n C dX12_lend_31 rfl ?_
        refine r_iload_n C dX12_lend_32 rfl ?_
        obtain ⟨p7, hf⟩ := gk_s hf
        obtain ⟨r7, h7, hq7, hf⟩ := bd_s hf
        refine r_cV1 C (am_X12_isFallen (gl g) n) cm_X12_isFallen w_1769 dX12_lend_33 ⟨Nat.le_of_ble_eq_true rfl, Nat.le_of_ble_eq_true rfl⟩ p7 rfl cv1 rfl (Nat.le_of_ble_eq_true rfl) hq7 (by decide) (fun c7 => ?_)
        have c7 : in32 _ := c7
        refine r_if_ne C dX12_lend_36 (tgt := 53) (by decide) c7 (fun n8 => ?_) (fun n8 => ?_)
        · have hf := ite_n n8 hf
          exact G.mask [false, false, false, false] rfl rfl (b_X12_lend_53 C hr   hf)
        · have hf := ite_p n8 hf
          refine r_aload_n C dX12_lend_39 rfl ?_
          obtain ⟨q9, hf⟩ := gf_s hf
          refine r_gf C ct12 (j := 1) (ji := 1) dX12_lend_40 q9 rfl rfl (by decide) w_1426 rfl (fun c9 => ?_)
          refine r_sipush C dX12_lend_43 rfl ?_
          refine r_iload_n C dX12_lend_46 rfl ?_
          refine r_iadd C dX12_lend_47 ?_
          obtain ⟨q10, hf⟩ := rd_s hf
          refine r_iald C dX12_lend_48 q10 rfl (fun c10 => ?_)
          refine r_iload_n C dX12_lend_49 rfl ?_
          refine r_icmp_ge C dX12_lend_50 (tgt := 56) (by decide) c10 cv3 (fun n11 => ?_) (fun n11 => ?_)
          · have hf := ite_p n11 hf
            refine r_aload_n C dX12_lend_56 rfl ?_
            obtain ⟨q12, hf⟩ := gf_s hf
            refine r_gf C ct12 (j := 1) (ji := 1) dX12_lend_57 q12 rfl rfl (by decide) w_1426 rfl (fun c12 => ?_)
            refine r_iconst C dX12_lend_60 ?_
            obtain ⟨q13, hf⟩ := rd_s hf
            refine r_iald C dX12_lend_61 q13 rfl (fun c13 => ?_)
            refine r_bipush C dX12_lend_62 rfl ?_
            refine r_icmp_ne C dX12_lend_64 (tgt := 70) (by decide) c13 (in32_of rfl) (fun n14 => ?_) (fun n14 => ?_)
            · have hf := ite_n n14 hf
              refine r_aload_n C dX12_lend_70 rfl ?_
              obtain ⟨q15, hf⟩ := gf_s hf
              refine r_gf C ct12 (j := 1) (ji := 1) dX12_lend_71 q15 rfl rfl (by decide) w_1426 rfl (fun c15 => ?_)
              refine r_sipush C dX12_lend_74 rfl ?_
              refine r_iload_n C dX12_lend_77 rfl ?_
              refine r_iadd C dX12_lend_78 ?_
              refine r_dup2 C dX12_lend_79 (by decide) (by decide) ?_
              obtain ⟨q16, hf⟩ := rd_s hf
              refine r_iald C dX12_lend_80 q16 rfl (fun c16 => ?_)
              refine r_iload_n C dX12_lend_81 rfl ?_
              refine r_isub C dX12_lend_82 ?_
              obtain ⟨q17, hf⟩ := wt_s hf
              refine r_iast C dX12_lend_83 q17 rfl (in32_t _) ?_
              refine r_aload_n C dX12_lend_84 rfl ?_
              obtain ⟨q18, hf⟩ := gf_s hf
              refine r_gf C ct12 (j := 1) (ji := 1) dX12_lend_85 q18 rfl rfl (by decide) w_1426 rfl (fun c18 => ?_)
              refine r_sipush C dX12_lend_88 rfl ?_
              refine r_aload_n C dX12_lend_91 rfl ?_
              refine r_iload_n C dX12_lend_92 rfl ?_
              obtain ⟨p19, hf⟩ := gk_s hf
              obtain ⟨r19, h19, hq19, hf⟩ := bd_s hf
              refine r_cV1 C (am_X12_indexOf (gl g) n) cm_X12_indexOf w_1777 dX12_lend_93 ⟨Nat.le_of_ble_eq_true rfl, Nat.le_of_ble_eq_true rfl⟩ p19 rfl cv1 rfl (Nat.le_of_ble_eq_true rfl) hq19 (by decide) (fun c19 => ?_)
              have c19 : in32 _ := c19
              refine r_iadd C dX12_lend_96 ?_
              refine r_dup2 C dX12_lend_97 (by decide) (by decide) ?_
              obtain ⟨q20, hf⟩ := rd_s hf
              refine r_iald C dX12_lend_98 q20 rfl (fun c20 => ?_)
              refine r_iload_n C dX12_lend_99 rfl ?_
              refine r_iadd C dX12_lend_100 ?_
              obtain ⟨q21, hf⟩ := wt_s hf
              refine r_iast C dX12_lend_101 q21 rfl (in32_t _) ?_
              refine r_aload_n C dX12_lend_102 rfl ?_
              refine r_iconst C dX12_lend_103 ?_
              refine r_iload_n C dX12_lend_104 rfl ?_
              refine r_iload_n C dX12_lend_105 rfl ?_
              refine r_iconst C dX12_lend_106 ?_
              refine r_iconst C dX12_lend_107 ?_
              refine r_iload_n C dX12_lend_108 rfl ?_
              obtain ⟨p22, hf⟩ := gk_s hf
              obtain ⟨r22, h22, hq22, hf⟩ := bd_s hf
              refine r_cV6 C (am_X12_paper (gl g) n) cm_X12_paper w_1599 dX12_lend_109 ⟨Nat.le_of_ble_eq_true rfl, Nat.le_of_ble_eq_true rfl⟩ p22 rfl (in32_of rfl) cv1 cv2 (in32_of rfl) (in32_of rfl) cv3 rfl (Nat.le_of_ble_eq_true rfl) hq22 (by decide) (fun c22 => ?_)
              have c22 : in32 _ := c22
              cases hf
              exact r_jret C hr dX12_lend_112 c22
            · have hf := ite_p n14 hf
              refine r_bipush C dX12_lend_67 rfl ?_
              cases hf
              exact r_jret C hr dX12_lend_69 (in32_of rfl)
          · have hf := ite_n n11 hf
            exact G.mask [false, false, false, false] rfl rfl (b_X12_lend_53 C hr   hf)
      · have hf := ite_p n6 hf
        refine r_bipush C dX12_lend_28 rfl ?_
        cases hf
        exact r_jret C hr dX12_lend_30 (in32_of rfl)
    · have hf := ite_p n4 hf
      exact G.mask [false, false, false, false] rfl rfl (b_X12_lend_15 C hr   hf)
set_option maxRecDepth 20000 in
theorem am_X12_lend (l : Launch) (n : Nat) : AM l yX12_lend cX12_lend 4 (some .int) 4 86 [2, 0, 0, 0] 0 (un4 (f_X12_lend n)) := by
  refine AM.intro (by decide) (fun xs hx => ?_) (fun g xs h Z hl C hr hx hf => ?_)
  · obtain ⟨a0, a1, a2, a3, rfl, c0, c1, c2, c3⟩ := canL_4 hx
    exact Nat.le_of_ble_eq_true rfl
  · obtain ⟨a0, a1, a2, a3, rfl, c0, c1, c2, c3⟩ := canL_4 hx
    have hf := (un4_e _ a0 a1 a2 a3 _).symm.trans hf
    exact e_X12_lend (n := n) C hr c0 c1 c2 c3 hf
/-! LinesPromisedModel.canPay(I)J -/
theorem dX12_canPay_0 : decode cX12_canPay 0 = .ok (.aload_n 0, 1) := by decide +kernel
theorem dX12_canPay_1 : decode cX12_canPay 1 = .ok (.getfield 42, 3) := by decide +kernel
theorem dX12_canPay_4 : decode cX12_canPay 4 = .ok (.iload_n 1, 1) := by decide +kernel
theorem dX12_canPay_5 : decode cX12_canPay 5 = .ok (.laload, 1) := by decide +kernel
theorem dX12_canPay_6 : decode cX12_canPay 6 = .ok (.lstore_n 2, 1) := by decide +kernel
theorem dX12_canPay_7 : decode cX12_canPay 7 = .ok (.iconst 0, 1) := by decide +kernel
theorem dX12_canPay_8 : decode cX12_canPay 8 = .ok (.istore 4, 2) := by decide +kernel
theorem dX12_canPay_10 : decode cX12_canPay 10 = .ok (.iload 4, 2) := by decide +kernel
theorem dX12_canPay_12 : decode cX12_canPay 12 = .ok (.bipush 20, 2) := by decide +kernel
theorem dX12_canPay_14 : decode cX12_canPay 14 = .ok (.if_icmp .ge 24, 3) := by decide +kernel
theorem dX12_canPay_17 : decode cX12_canPay 17 = .ok (.lload_n 2, 1) := by decide +kernel
theorem dX12_canPay_18 : decode cX12_canPay 18 = .ok (.aload_n 0, 1) := by decide +kernel
theorem dX12_canPay_19 : decode cX12_canPay 19 = .ok (.getfield 36, 3) := by decide +kernel
theorem dX12_canPay_22 : decode cX12_canPay 22 = .ok (.bipush 20, 2) := by decide +kernel
theorem dX12_canPay_24 : decode cX12_canPay 24 = .ok (.iload 4, 2) := by decide +kernel
theorem dX12_canPay_26 : decode cX12_canPay 26 = .ok (.imul, 1) := by decide +kernel
theorem dX12_canPay_27 : decode cX12_canPay 27 = .ok (.iload_n 1, 1) := by decide +kernel
theorem dX12_canPay_28 : decode cX12_canPay 28 = .ok (.iadd, 1) := by decide +kernel
theorem dX12_canPay_29 : decode cX12_canPay 29 = .ok (.laload, 1) := by decide +kernel
theorem dX12_canPay_30 : decode cX12_canPay 30 = .ok (.ladd, 1) := by decide +kernel
theorem dX12_canPay_31 : decode cX12_canPay 31 = .ok (.lstore_n 2, 1) := by decide +kernel
theorem dX12_canPay_32 : decode cX12_canPay 32 = .ok (.iinc 4 1, 3) := by decide +kernel
theorem dX12_canPay_35 : decode cX12_canPay 35 = .ok (.goto (-25), 3) := by decide +kernel
theorem dX12_canPay_38 : decode cX12_canPay 38 = .ok (.lload_n 2, 1) := by decide +kernel
theorem dX12_canPay_39 : decode cX12_canPay 39 = .ok (.aload_n 0, 1) := by decide +kernel
theorem dX12_canPay_40 : decode cX12_canPay 40 = .ok (.getfield 45, 3) := by decide +kernel
theorem dX12_canPay_43 : decode cX12_canPay 43 = .ok (.iload_n 1, 1) := by decide +kernel
theorem dX12_canPay_44 : decode cX12_canPay 44 = .ok (.laload, 1) := by decide +kernel
theorem dX12_canPay_45 : decode cX12_canPay 45 = .ok (.lcmp, 1) := by decide +kernel
theorem dX12_canPay_46 : decode cX12_canPay 46 = .ok (.ifCond .ge 7, 3) := by decide +kernel
theorem dX12_canPay_49 : decode cX12_canPay 49 = .ok (.lload_n 2, 1) := by decide +kernel
theorem dX12_canPay_50 : decode cX12_canPay 50 = .ok (.goto 9, 3) := by decide +kernel
theorem dX12_canPay_53 : decode cX12_canPay 53 = .ok (.aload_n 0, 1) := by decide +kernel
theorem dX12_canPay_54 : decode cX12_canPay 54 = .ok (.getfield 45, 3) := by decide +kernel
theorem dX12_canPay_57 : decode cX12_canPay 57 = .ok (.iload_n 1, 1) := by decide +kernel
theorem dX12_canPay_58 : decode cX12_canPay 58 = .ok (.laload, 1) := by decide +kernel
theorem dX12_canPay_59 : decode cX12_canPay 59 = .ok (.lreturn, 1) := by decide +kernel
theorem cm_X12_canPay : CM yX12_canPay cX12_canPay 5 (some .long) 1 12 := ⟨w_1823, w_81, w_1824, w_97, ⟨by decide +kernel, by decide +kernel, by decide +kernel⟩, ⟨_, _, rfl⟩, by decide⟩
noncomputable def f_X12_canPay_59 (n : Nat)  (s0 : Int) (h : MM) : RR :=
  some (s0, h)
noncomputable def f_X12_canPay_10b (n : Nat) (rec10 : Int → Int → MM → RR) (v0 v1 v2 v4 : Int) (h : MM) : RR :=
  if 20 ≤ v4 then
    gf h v0 12 18 fun r2 =>
    rd h r2 101 v1 fun r3 =>
    if 0 ≤ lcm v2 r3 then
      gf h v0 12 18 fun r5 =>
      rd h r5 101 v1 fun r6 =>
      f_X12_canPay_59 n r6 h
    else
    f_X12_canPay_59 n v2 h
  else
  gf h v0 12 15 fun r7 =>
  rd h r7 101 (wr ((wr (20 * v4)) + v1)) fun r8 =>
  lb (wl (v2 + r8)) fun x9 =>
  lb (wr (v4 + 1)) fun x10 =>
  rec10 x9 x10 h
noncomputable def f_X12_canPay_10 (n : Nat)  (v0 v1 : Int) : Nat → Int → Int → MM → RR
  | 0, _, _, _ => none
  | k + 1, v2, v4, h => f_X12_canPay_10b n  (f_X12_canPay_10 n  v0 v1 k) v0 v1 v2 v4 h
noncomputable def f_X12_canPay (n : Nat) (v0 v1 : Int) (h : MM) : RR :=
  gf h v0 12 17 fun r1 =>
  rd h r1 101 v1 fun r2 =>
  f_X12_canPay_10 n v0 v1 n r2 0 h
set_option maxRecDepth 20000 in
theorem b_X12_canPay_59 {g : GT} {Z : Int × MM} {n : Nat} (C : Cx g cX12_canPay 5 yX12_canPay 0 0) (hr : Rt g (some .long) 1 Z) {s0 : Int}    (cs0 : in64 s0) {h : MM} (hf : f_X12_canPay_59 n  s0 h = some Z) : G g 59 [(3, 0), (3, 0), (3, 0), (3, 0), (3, 0)] [(1, s0)] h := by
  unfold f_X12_canPay_59 at hf
  cases hf
  exact r_lret C hr dX12_canPay_59 cs0
set_option maxRecDepth 20000 in
theorem b_X12_canPay_10b {g : GT} {Z : Int × MM} {n : Nat} (C : Cx g cX12_canPay 5 yX12_canPay 0 0) (hr : Rt g (some .long) 1 Z) {v0 v1 v2 v4 : Int}  {rec10 : Int → Int → MM → RR} (L10 : ∀ (u2 u4 : Int) (h : MM), in64 u2 → in32 u4 → rec10 u2 u4 h = some Z → G g 10 [(2, v0), (0, v1), (1, u2), (4, 0), (0, u4)] [] h) (cv1 : in32 v1) (cv2 : in64 v2) (cv4 : in32 v4) {h : MM} (hf : f_X12_canPay_10b n rec10 v0 v1 v2 v4 h = some Z) : G g 10 [(2, v0), (0, v1), (1, v2), (4, 0), (0, v4)] [] h := by
  unfold f_X12_canPay_10b at hf
  refine r_iload C dX12_canPay_10 rfl ?_
  refine r_bipush C dX12_canPay_12 rfl ?_
  refine r_icmp_ge C dX12_canPay_14 (tgt := 38) (by decide) cv4 (in32_of rfl) (fun n1 => ?_) (fun n1 => ?_)
  · have hf := ite_p n1 hf
    refine r_lload_n C dX12_canPay_38 rfl ?_
    refine r_aload_n C dX12_canPay_39 rfl ?_
    obtain ⟨q2, hf⟩ := gf_s hf
    refine r_gf C ct12 (j := 18) (ji := 18) dX12_canPay_40 q2 rfl rfl (by decide) w_1443 rfl (fun c2 => ?_)
    refine r_iload_n C dX12_canPay_43 rfl ?_
    obtain ⟨q3, hf⟩ := rd_s hf
    refine r_lald C dX12_canPay_44 q3 rfl (fun c3 => ?_)
    refine r_lcmp C dX12_canPay_45 ?_
    refine r_if_ge C dX12_canPay_46 (tgt := 53) (by decide) (in32_t _) (fun n4 => ?_) (fun n4 => ?_)
    · have hf := ite_p n4 hf
      refine r_aload_n C dX12_canPay_53 rfl ?_
      obtain ⟨q5, hf⟩ := gf_s hf
      refine r_gf C ct12 (j := 18) (ji := 18) dX12_canPay_54 q5 rfl rfl (by decide) w_1443 rfl (fun c5 => ?_)
      refine r_iload_n C dX12_canPay_57 rfl ?_
      obtain ⟨q6, hf⟩ := rd_s hf
      refine r_lald C dX12_canPay_58 q6 rfl (fun c6 => ?_)
      exact G.mask [false, false, false, false, false] rfl rfl (b_X12_canPay_59 C hr  c6 hf)
    · have hf := ite_n n4 hf
      refine r_lload_n C dX12_canPay_49 rfl ?_
      refine r_goto C dX12_canPay_50 (tgt := 59) (by decide) ?_
      exact G.mask [false, false, false, false, false] rfl rfl (b_X12_canPay_59 C hr  cv2 hf)
  · have hf := ite_n n1 hf
    refine r_lload_n C dX12_canPay_17 rfl ?_
    refine r_aload_n C dX12_canPay_18 rfl ?_
    obtain ⟨q7, hf⟩ := gf_s hf
    refine r_gf C ct12 (j := 15) (ji := 15) dX12_canPay_19 q7 rfl rfl (by decide) w_1440 rfl (fun c7 => ?_)
    refine r_bipush C dX12_canPay_22 rfl ?_
    refine r_iload C dX12_canPay_24 rfl ?_
    refine r_imul C dX12_canPay_26 ?_
    refine r_iload_n C dX12_canPay_27 rfl ?_
    refine r_iadd C dX12_canPay_28 ?_
    obtain ⟨q8, hf⟩ := rd_s hf
    refine r_lald C dX12_canPay_29 q8 rfl (fun c8 => ?_)
    refine r_ladd C dX12_canPay_30 ?_
    obtain ⟨x9, e9, hf⟩ := lb_s hf
    have c9 : in64 x9 := by rw [e9]; exact (in64_t _)
    refine r_lstore_nL C dX12_canPay_31 e9 (Nat.le_of_ble_eq_true rfl) rfl ?_
    obtain ⟨x10, e10, hf⟩ := lb_s hf
    have c10 : in32 x10 := by rw [e10]; exact (in32_t _)
    refine r_iincL C dX12_canPay_32 rfl e10 (Nat.le_of_ble_eq_true rfl) rfl ?_
    refine r_goto C dX12_canPay_35 (tgt := 10) (by decide) ?_
    exact G.mask [true, true, true, true, true] rfl rfl (L10 _ _ _ c9 c10 hf)
set_option maxRecDepth 20000 in
theorem l_X12_canPay_10 {g : GT} {Z : Int × MM} {n : Nat} (C : Cx g cX12_canPay 5 yX12_canPay 0 0) (hr : Rt g (some .long) 1 Z) {v0 v1 : Int}   (cv1 : in32 v1) : ∀ (k : Nat) (v2 v4 : Int) (h : MM), in64 v2 → in32 v4 → f_X12_canPay_10 n  v0 v1 k v2 v4 h = some Z → G g 10 [(2, v0), (0, v1), (1, v2), (4, 0), (0, v4)] [] h := by
  intro k
  induction k with
  | zero => intro v2 v4 h cv2 cv4 hf; exact absurd hf (by intro z; cases z)
  | succ k ih => intro v2 v4 h cv2 cv4 hf; exact b_X12_canPay_10b C hr (rec10 := f_X12_canPay_10 n  v0 v1 k)  ih cv1 cv2 cv4 (show f_X12_canPay_10b n  (f_X12_canPay_10 n  v0 v1 k) v0 v1 v2 v4 h = some Z from hf)
set_option maxRecDepth 20000 in
theorem e_X12_canPay {g : GT} {Z : Int × MM} {n : Nat} (C : Cx g cX12_canPay 5 yX12_canPay 0 0) (hr : Rt g (some .long) 1 Z) {v0 v1 : Int} (cv0 : cK 2 v0) (cv1 : cK 0 v1) {h : MM} (hf : f_X12_canPay n v0 v1 h = some Z) : G g 0 [(2, v0), (0, v1), (3, 0), (3, 0), (3, 0)] [] h := by
  have cv1 : in32 v1 := cv1
  unfold f_X12_canPay at hf
  refine r_aload_n C dX12_canPay_0 rfl ?_
  obtain ⟨q1, hf⟩ := gf_s hf
  refine r_gf C ct12 (j := 17) (ji := 17) dX12_canPay_1 q1 rfl rfl (by decide) w_1442 rfl (fun c1 => ?_)
  refine r_iload_n C dX12_canPay_4 rfl ?_
  obtain ⟨q2, hf⟩ := rd_s hf
  refine r_lald C dX12_canPay_5 q2 rfl (fun c2 => ?_)
  refine r_lstore_n C dX12_canPay_6 (Nat.le_of_ble_eq_true rfl) rfl ?_
  refine r_iconst C dX12_canPay_7 ?_
  refine r_istore C dX12_canPay_8 (Nat.le_of_ble_eq_true rfl) rfl ?_
  exact G.mask [true, true, true, true, true] rfl rfl (l_X12_canPay_10 C hr  cv1 _ _ _ _ c2 (in32_of rfl) hf)
set_option maxRecDepth 20000 in
theorem am_X12_canPay (l : Launch) (n : Nat) : AM l yX12_canPay cX12_canPay 5 (some .long) 0 0 [2, 0] 1 (un2 (f_X12_canPay n)) := by
  refine AM.intro (by decide) (fun xs hx => ?_) (fun g xs h Z hl C hr hx hf => ?_)
  · obtain ⟨a0, a1, rfl, c0, c1⟩ := canL_2 hx
    exact Nat.le_of_ble_eq_true rfl
  · obtain ⟨a0, a1, rfl, c0, c1⟩ := canL_2 hx
    have hf := (un2_e _ a0 a1 _).symm.trans hf
    exact e_X12_canPay (n := n) C hr c0 c1 hf
