/-! THE LAW'S BODY, over the sims. Made by gen/genlaw.py. -/
def Rw (v0 L : Int) (sc : Int → Int) (h : MM) : Prop := v0 < 100 ∧ tg h v0 = 100 ∧ ln h v0 = L ∧ ∀ j : Int, mv h v0 j = sc j
theorem Rw.lo {v0 L : Int} {sc : Int → Int} {h h' : MM} (R : Rw v0 L sc h) (l : Lo h h') : Rw v0 L sc h' := by
  obtain ⟨r1, r2, r3, r4⟩ := R
  have e1 := l.2.2.2.1 v0 (Int.lt_of_lt_of_le r1 l.2.1)
  have e2 := l.2.2.2.2 v0 r1
  exact ⟨r1, (congrArg Prod.fst e1).trans r2, (congrArg Prod.snd e1).trans r3, fun j => (e2 j).trans (r4 j)⟩
theorem Rw.xrd {v0 L i : Int} {sc : Int → Int} {h : MM} (R : Rw v0 L sc h) (q : 0 ≤ i ∧ i < L) (K : Int → RR) : rd h v0 100 i K = K (sc i) := by
  unfold rd
  rw [if_pos ⟨R.2.1, q.1, by rw [R.2.2.1]; exact q.2⟩, R.2.2.2]
theorem Rw.xrw {v0 L i j : Int} {sc : Int → Int} {h : MM} (R : Rw v0 L sc h) (c : j < 6) (c0 : 0 ≤ j) (q : 0 ≤ i ∧ i + 6 ≤ L) (q2 : L ≤ 384) (K : Int → RR) : rd h v0 100 (wr (i + j)) K = K (sc (i + j)) := by
  rw [wrk ⟨by omega, by omega⟩]
  exact R.xrd ⟨by omega, by omega⟩ K
theorem gk_p {h : MM} {a t : Int} (q : tg h a = t) (k : RR) : gk h a t k = k := if_pos q
theorem bd_p (r : Int) (h : MM) (k : Int → MM → RR) : bd (some (r, h)) k = k r h := rfl
theorem Inv.st {k : Int} {h : MM} (I : Inv k h) : Inv (k + 1) h := I.q I.1 (Keep.refl h) rfl rfl (SameW.refl 0 198 h)
section LAW
variable {k i v0 L : Int} {h : MM} {sc : Int → Int} {rc : Int → MM → RR}
theorem law_0 (n : Nat) (hn : 10000000 ≤ n) (hk : k ≤ 1000) (I : Inv k h) (R : Rw v0 L sc h) (hs : ∀ j, J (sc j)) (q : 0 ≤ i ∧ i + 6 ≤ L) (q2 : L ≤ 384) : ∃ h2, (
      rd h v0 100 (wr (i + 1)) fun r6 =>
      rd h v0 100 (wr (i + 2)) fun r7 =>
      rd h v0 100 (wr (i + 3)) fun r8 =>
      gk h 100 11 <|
      bd (f_X11_land n 100 r6 r7 r8 h) fun r9 h9 =>
      rd h9 v0 100 (wr (i + 1)) fun r10 =>
      rd h9 v0 100 (wr (i + 2)) fun r11 =>
      rd h9 v0 100 (wr (i + 3)) fun r12 =>
      gk h9 197 12 <|
      bd (f_X12_land n 197 r10 r11 r12 h9) fun r13 h13 =>
      if r9 = r13 then
        f_L_law_1923 n rc v0 100 197 i h13
      else
      ck (isb 0) <|
      some (0, h13)
    ) = rc (i + 6) h2 ∧ Inv (k + 1) h2 ∧ Lo h h2 := by
  have z : 100 ≤ nx h := by have := I.1.2.2; omega
  have w6 : wr (i + 6) = i + 6 := wrk ⟨by omega, by omega⟩
  obtain ⟨r, h1, h2, x1, x2, I2⟩ := sim_land n I (hs (i + 1)) (hs (i + 2)) (hs (i + 3))
  have l1 := lo_f_X11_land h z r h1 x1
  have l2 := lo_f_X12_land h1 l1.1 r h2 x2
  have R1 := R.lo l1
  have g1 : ∀ K : RR, gk h 100 11 K = K := fun K => gk_p (t100 I.1) K
  have y12 : tg h1 197 = 12 := (congrArg Prod.fst (l1.2.2.2.1 197 (by have := I.1.2.2; omega))).trans (t197 I.1)
  have g2 : ∀ K : RR, gk h1 197 12 K = K := fun K => gk_p y12 K
  have r1 := fun K => R.xrw (j := 1) (by decide) (by decide) q q2 K
  have s1 := fun K => R1.xrw (j := 1) (by decide) (by decide) q q2 K
  have r2 := fun K => R.xrw (j := 2) (by decide) (by decide) q q2 K
  have s2 := fun K => R1.xrw (j := 2) (by decide) (by decide) q q2 K
  have r3 := fun K => R.xrw (j := 3) (by decide) (by decide) q q2 K
  have s3 := fun K => R1.xrw (j := 3) (by decide) (by decide) q q2 K
  refine ⟨h2, ?_, I2, l1.trans l2⟩
  simp only [r1, s1, r2, s2, r3, s3, g1, g2, x1, x2, bd_p, eq_self, if_true, f_L_law_1923, lb, w6]
theorem law_1 (n : Nat) (hn : 10000000 ≤ n) (hk : k ≤ 1000) (I : Inv k h) (R : Rw v0 L sc h) (hs : ∀ j, J (sc j)) (q : 0 ≤ i ∧ i + 6 ≤ L) (q2 : L ≤ 384) : ∃ h2, (
      rd h v0 100 (wr (i + 1)) fun r17 =>
      rd h v0 100 (wr (i + 2)) fun r18 =>
      gk h 100 11 <|
      bd (f_X11_town n 100 r17 r18 h) fun r19 h19 =>
      rd h19 v0 100 (wr (i + 1)) fun r20 =>
      rd h19 v0 100 (wr (i + 2)) fun r21 =>
      gk h19 197 12 <|
      bd (f_X12_town n 197 r20 r21 h19) fun r22 h22 =>
      if r19 = r22 then
        f_L_law_1923 n rc v0 100 197 i h22
      else
      ck (isb 0) <|
      some (0, h22)
    ) = rc (i + 6) h2 ∧ Inv (k + 1) h2 ∧ Lo h h2 := by
  have z : 100 ≤ nx h := by have := I.1.2.2; omega
  have w6 : wr (i + 6) = i + 6 := wrk ⟨by omega, by omega⟩
  obtain ⟨r, h1, h2, x1, x2, I2⟩ := sim_town n hn I (hs (i + 1)) (hs (i + 2))
  have l1 := lo_f_X11_town h z r h1 x1
  have l2 := lo_f_X12_town h1 l1.1 r h2 x2
  have R1 := R.lo l1
  have g1 : ∀ K : RR, gk h 100 11 K = K := fun K => gk_p (t100 I.1) K
  have y12 : tg h1 197 = 12 := (congrArg Prod.fst (l1.2.2.2.1 197 (by have := I.1.2.2; omega))).trans (t197 I.1)
  have g2 : ∀ K : RR, gk h1 197 12 K = K := fun K => gk_p y12 K
  have r1 := fun K => R.xrw (j := 1) (by decide) (by decide) q q2 K
  have s1 := fun K => R1.xrw (j := 1) (by decide) (by decide) q q2 K
  have r2 := fun K => R.xrw (j := 2) (by decide) (by decide) q q2 K
  have s2 := fun K => R1.xrw (j := 2) (by decide) (by decide) q q2 K
  refine ⟨h2, ?_, I2, l1.trans l2⟩
  simp only [r1, s1, r2, s2, g1, g2, x1, x2, bd_p, eq_self, if_true, f_L_law_1923, lb, w6]
theorem law_2 (n : Nat) (hn : 10000000 ≤ n) (hk : k ≤ 1000) (I : Inv k h) (R : Rw v0 L sc h) (hs : ∀ j, J (sc j)) (q : 0 ≤ i ∧ i + 6 ≤ L) (q2 : L ≤ 384) : ∃ h2, (
      rd h v0 100 (wr (i + 1)) fun r26 =>
      rd h v0 100 (wr (i + 2)) fun r27 =>
      gk h 100 11 <|
      bd (f_X11_coin n 100 r26 r27 h) fun r28 h28 =>
      rd h28 v0 100 (wr (i + 1)) fun r29 =>
      rd h28 v0 100 (wr (i + 2)) fun r30 =>
      gk h28 197 12 <|
      bd (f_X12_coin n 197 r29 r30 h28) fun r31 h31 =>
      if r28 = r31 then
        f_L_law_1923 n rc v0 100 197 i h31
      else
      ck (isb 0) <|
      some (0, h31)
    ) = rc (i + 6) h2 ∧ Inv (k + 1) h2 ∧ Lo h h2 := by
  have z : 100 ≤ nx h := by have := I.1.2.2; omega
  have w6 : wr (i + 6) = i + 6 := wrk ⟨by omega, by omega⟩
  obtain ⟨r, h1, h2, x1, x2, I2⟩ := sim_coin n I (hs (i + 1)) (hs (i + 2))
  have l1 := lo_f_X11_coin h z r h1 x1
  have l2 := lo_f_X12_coin h1 l1.1 r h2 x2
  have R1 := R.lo l1
  have g1 : ∀ K : RR, gk h 100 11 K = K := fun K => gk_p (t100 I.1) K
  have y12 : tg h1 197 = 12 := (congrArg Prod.fst (l1.2.2.2.1 197 (by have := I.1.2.2; omega))).trans (t197 I.1)
  have g2 : ∀ K : RR, gk h1 197 12 K = K := fun K => gk_p y12 K
  have r1 := fun K => R.xrw (j := 1) (by decide) (by decide) q q2 K
  have s1 := fun K => R1.xrw (j := 1) (by decide) (by decide) q q2 K
  have r2 := fun K => R.xrw (j := 2) (by decide) (by decide) q q2 K
  have s2 := fun K => R1.xrw (j := 2) (by decide) (by decide) q q2 K
  refine ⟨h2, ?_, I2, l1.trans l2⟩
  simp only [r1, s1, r2, s2, g1, g2, x1, x2, bd_p, eq_self, if_true, f_L_law_1923, lb, w6]
theorem law_3 (n : Nat) (hn : 10000000 ≤ n) (hk : k ≤ 1000) (I : Inv k h) (R : Rw v0 L sc h) (hs : ∀ j, J (sc j)) (q : 0 ≤ i ∧ i + 6 ≤ L) (q2 : L ≤ 384) : ∃ h2, (
      rd h v0 100 (wr (i + 1)) fun r35 =>
      gk h 100 11 <|
      bd (f_X11_man n 100 r35 h) fun r36 h36 =>
      rd h36 v0 100 (wr (i + 1)) fun r37 =>
      gk h36 197 12 <|
      bd (f_X12_man n 197 r37 h36) fun r38 h38 =>
      if r36 = r38 then
        f_L_law_1923 n rc v0 100 197 i h38
      else
      ck (isb 0) <|
      some (0, h38)
    ) = rc (i + 6) h2 ∧ Inv (k + 1) h2 ∧ Lo h h2 := by
  have z : 100 ≤ nx h := by have := I.1.2.2; omega
  have w6 : wr (i + 6) = i + 6 := wrk ⟨by omega, by omega⟩
  obtain ⟨r, h1, h2, x1, x2, I2⟩ := sim_man n I (hs (i + 1))
  have l1 := lo_f_X11_man h z r h1 x1
  have l2 := lo_f_X12_man h1 l1.1 r h2 x2
  have R1 := R.lo l1
  have g1 : ∀ K : RR, gk h 100 11 K = K := fun K => gk_p (t100 I.1) K
  have y12 : tg h1 197 = 12 := (congrArg Prod.fst (l1.2.2.2.1 197 (by have := I.1.2.2; omega))).trans (t197 I.1)
  have g2 : ∀ K : RR, gk h1 197 12 K = K := fun K => gk_p y12 K
  have r1 := fun K => R.xrw (j := 1) (by decide) (by decide) q q2 K
  have s1 := fun K => R1.xrw (j := 1) (by decide) (by decide) q q2 K
  refine ⟨h2, ?_, I2, l1.trans l2⟩
  simp only [r1, s1, g1, g2, x1, x2, bd_p, eq_self, if_true, f_L_law_1923, lb, w6]
theorem law_4 (n : Nat) (hn : 10000000 ≤ n) (hk : k ≤ 1000) (I : Inv k h) (R : Rw v0 L sc h) (hs : ∀ j, J (sc j)) (q : 0 ≤ i ∧ i + 6 ≤ L) (q2 : L ≤ 384) : ∃ h2, (
      rd h v0 100 (wr (i + 1)) fun r42 =>
      rd h v0 100 (wr (i + 2)) fun r43 =>
      rd h v0 100 (wr (i + 3)) fun r44 =>
      gk h 100 11 <|
      bd (f_X11_feed n 100 (lor (lsl r42 32) (lan r43 4294967295)) r44 h) fun r45 h45 =>
      rd h45 v0 100 (wr (i + 1)) fun r46 =>
      rd h45 v0 100 (wr (i + 2)) fun r47 =>
      rd h45 v0 100 (wr (i + 3)) fun r48 =>
      gk h45 197 12 <|
      bd (f_X12_feed n 197 (lor (lsl r46 32) (lan r47 4294967295)) r48 h45) fun r49 h49 =>
      if r45 = r49 then
        f_L_law_1923 n rc v0 100 197 i h49
      else
      ck (isb 0) <|
      some (0, h49)
    ) = rc (i + 6) h2 ∧ Inv (k + 1) h2 ∧ Lo h h2 := by
  have z : 100 ≤ nx h := by have := I.1.2.2; omega
  have w6 : wr (i + 6) = i + 6 := wrk ⟨by omega, by omega⟩
  obtain ⟨r, h1, h2, x1, x2, I2⟩ := sim_feed n hn I (w := lor (lsl (sc (i + 1)) 32) (lan (sc (i + 2)) 4294967295)) (in64_t _) (hs (i + 3))
  have l1 := lo_f_X11_feed h z r h1 x1
  have l2 := lo_f_X12_feed h1 l1.1 r h2 x2
  have R1 := R.lo l1
  have g1 : ∀ K : RR, gk h 100 11 K = K := fun K => gk_p (t100 I.1) K
  have y12 : tg h1 197 = 12 := (congrArg Prod.fst (l1.2.2.2.1 197 (by have := I.1.2.2; omega))).trans (t197 I.1)
  have g2 : ∀ K : RR, gk h1 197 12 K = K := fun K => gk_p y12 K
  have r1 := fun K => R.xrw (j := 1) (by decide) (by decide) q q2 K
  have s1 := fun K => R1.xrw (j := 1) (by decide) (by decide) q q2 K
  have r2 := fun K => R.xrw (j := 2) (by decide) (by decide) q q2 K
  have s2 := fun K => R1.xrw (j := 2) (by decide) (by decide) q q2 K
  have r3 := fun K => R.xrw (j := 3) (by decide) (by decide) q q2 K
  have s3 := fun K => R1.xrw (j := 3) (by decide) (by decide) q q2 K
  refine ⟨h2, ?_, I2, l1.trans l2⟩
  simp only [r1, s1, r2, s2, r3, s3, g1, g2, x1, x2, bd_p, eq_self, if_true, f_L_law_1923, lb, w6]
theorem law_5 (n : Nat) (hn : 10000000 ≤ n) (hk : k ≤ 1000) (I : Inv k h) (R : Rw v0 L sc h) (hs : ∀ j, J (sc j)) (q : 0 ≤ i ∧ i + 6 ≤ L) (q2 : L ≤ 384) : ∃ h2, (
      rd h v0 100 (wr (i + 1)) fun r53 =>
      gk h 100 11 <|
      bd (f_X11_text n 100 r53 h) fun r54 h54 =>
      rd h54 v0 100 (wr (i + 1)) fun r55 =>
      gk h54 197 12 <|
      bd (f_X12_text n 197 r55 h54) fun r56 h56 =>
      if r54 = r56 then
        f_L_law_1923 n rc v0 100 197 i h56
      else
      ck (isb 0) <|
      some (0, h56)
    ) = rc (i + 6) h2 ∧ Inv (k + 1) h2 ∧ Lo h h2 := by
  have z : 100 ≤ nx h := by have := I.1.2.2; omega
  have w6 : wr (i + 6) = i + 6 := wrk ⟨by omega, by omega⟩
  obtain ⟨r, h1, h2, x1, x2, I2⟩ := sim_text n hn hk I (hs (i + 1))
  have l1 := lo_f_X11_text h z r h1 x1
  have l2 := lo_f_X12_text h1 l1.1 r h2 x2
  have R1 := R.lo l1
  have g1 : ∀ K : RR, gk h 100 11 K = K := fun K => gk_p (t100 I.1) K
  have y12 : tg h1 197 = 12 := (congrArg Prod.fst (l1.2.2.2.1 197 (by have := I.1.2.2; omega))).trans (t197 I.1)
  have g2 : ∀ K : RR, gk h1 197 12 K = K := fun K => gk_p y12 K
  have r1 := fun K => R.xrw (j := 1) (by decide) (by decide) q q2 K
  have s1 := fun K => R1.xrw (j := 1) (by decide) (by decide) q q2 K
  refine ⟨h2, ?_, I2, l1.trans l2⟩
  simp only [r1, s1, g1, g2, x1, x2, bd_p, eq_self, if_true, f_L_law_1923, lb, w6]
theorem law_6 (n : Nat) (hn : 10000000 ≤ n) (hk : k ≤ 1000) (I : Inv k h) (R : Rw v0 L sc h) (hs : ∀ j, J (sc j)) (q : 0 ≤ i ∧ i + 6 ≤ L) (q2 : L ≤ 384) : ∃ h2, (
      rd h v0 100 (wr (i + 1)) fun r60 =>
      rd h v0 100 (wr (i + 2)) fun r61 =>
      gk h 100 11 <|
      bd (f_X11_force n 100 r60 r61 h) fun r62 h62 =>
      rd h62 v0 100 (wr (i + 1)) fun r63 =>
      rd h62 v0 100 (wr (i + 2)) fun r64 =>
      gk h62 197 12 <|
      bd (f_X12_force n 197 r63 r64 h62) fun r65 h65 =>
      if r62 = r65 then
        f_L_law_1923 n rc v0 100 197 i h65
      else
      ck (isb 0) <|
      some (0, h65)
    ) = rc (i + 6) h2 ∧ Inv (k + 1) h2 ∧ Lo h h2 := by
  have z : 100 ≤ nx h := by have := I.1.2.2; omega
  have w6 : wr (i + 6) = i + 6 := wrk ⟨by omega, by omega⟩
  obtain ⟨r, h1, h2, x1, x2, I2⟩ := sim_force n hn I (hs (i + 1)) (hs (i + 2))
  have l1 := lo_f_X11_force h z r h1 x1
  have l2 := lo_f_X12_force h1 l1.1 r h2 x2
  have R1 := R.lo l1
  have g1 : ∀ K : RR, gk h 100 11 K = K := fun K => gk_p (t100 I.1) K
  have y12 : tg h1 197 = 12 := (congrArg Prod.fst (l1.2.2.2.1 197 (by have := I.1.2.2; omega))).trans (t197 I.1)
  have g2 : ∀ K : RR, gk h1 197 12 K = K := fun K => gk_p y12 K
  have r1 := fun K => R.xrw (j := 1) (by decide) (by decide) q q2 K
  have s1 := fun K => R1.xrw (j := 1) (by decide) (by decide) q q2 K
  have r2 := fun K => R.xrw (j := 2) (by decide) (by decide) q q2 K
  have s2 := fun K => R1.xrw (j := 2) (by decide) (by decide) q q2 K
  refine ⟨h2, ?_, I2, l1.trans l2⟩
  simp only [r1, s1, r2, s2, g1, g2, x1, x2, bd_p, eq_self, if_true, f_L_law_1923, lb, w6]
theorem law_7 (n : Nat) (hn : 10000000 ≤ n) (hk : k ≤ 1000) (I : Inv k h) (R : Rw v0 L sc h) (hs : ∀ j, J (sc j)) (q : 0 ≤ i ∧ i + 6 ≤ L) (q2 : L ≤ 384) : ∃ h2, (
      rd h v0 100 (wr (i + 1)) fun r69 =>
      rd h v0 100 (wr (i + 2)) fun r70 =>
      gk h 100 11 <|
      bd (f_X11_why n 100 r69 r70 h) fun r71 h71 =>
      rd h71 v0 100 (wr (i + 1)) fun r72 =>
      rd h71 v0 100 (wr (i + 2)) fun r73 =>
      gk h71 197 12 <|
      bd (f_X12_why n 197 r72 r73 h71) fun r74 h74 =>
      if r71 = r74 then
        f_L_law_1923 n rc v0 100 197 i h74
      else
      ck (isb 0) <|
      some (0, h74)
    ) = rc (i + 6) h2 ∧ Inv (k + 1) h2 ∧ Lo h h2 := by
  have z : 100 ≤ nx h := by have := I.1.2.2; omega
  have w6 : wr (i + 6) = i + 6 := wrk ⟨by omega, by omega⟩
  obtain ⟨r, h1, h2, x1, x2, I2⟩ := sim_why n hn I (hs (i + 1)) (hs (i + 2))
  have l1 := lo_f_X11_why h z r h1 x1
  have l2 := lo_f_X12_why h1 l1.1 r h2 x2
  have R1 := R.lo l1
  have g1 : ∀ K : RR, gk h 100 11 K = K := fun K => gk_p (t100 I.1) K
  have y12 : tg h1 197 = 12 := (congrArg Prod.fst (l1.2.2.2.1 197 (by have := I.1.2.2; omega))).trans (t197 I.1)
  have g2 : ∀ K : RR, gk h1 197 12 K = K := fun K => gk_p y12 K
  have r1 := fun K => R.xrw (j := 1) (by decide) (by decide) q q2 K
  have s1 := fun K => R1.xrw (j := 1) (by decide) (by decide) q q2 K
  have r2 := fun K => R.xrw (j := 2) (by decide) (by decide) q q2 K
  have s2 := fun K => R1.xrw (j := 2) (by decide) (by decide) q q2 K
  refine ⟨h2, ?_, I2, l1.trans l2⟩
  simp only [r1, s1, r2, s2, g1, g2, x1, x2, bd_p, eq_self, if_true, f_L_law_1923, lb, w6]
theorem law_8 (n : Nat) (hn : 10000000 ≤ n) (hk : k ≤ 1000) (I : Inv k h) (R : Rw v0 L sc h) (hs : ∀ j, J (sc j)) (q : 0 ≤ i ∧ i + 6 ≤ L) (q2 : L ≤ 384) : ∃ h2, (
      rd h v0 100 (wr (i + 1)) fun r78 =>
      rd h v0 100 (wr (i + 2)) fun r79 =>
      rd h v0 100 (wr (i + 3)) fun r80 =>
      rd h v0 100 (wr (i + 4)) fun r81 =>
      gk h 100 11 <|
      bd (f_X11_scheme n 100 r78 r79 r80 r81 h) fun r82 h82 =>
      rd h82 v0 100 (wr (i + 1)) fun r83 =>
      rd h82 v0 100 (wr (i + 2)) fun r84 =>
      rd h82 v0 100 (wr (i + 3)) fun r85 =>
      rd h82 v0 100 (wr (i + 4)) fun r86 =>
      gk h82 197 12 <|
      bd (f_X12_scheme n 197 r83 r84 r85 r86 h82) fun r87 h87 =>
      if r82 = r87 then
        f_L_law_1923 n rc v0 100 197 i h87
      else
      ck (isb 0) <|
      some (0, h87)
    ) = rc (i + 6) h2 ∧ Inv (k + 1) h2 ∧ Lo h h2 := by
  have z : 100 ≤ nx h := by have := I.1.2.2; omega
  have w6 : wr (i + 6) = i + 6 := wrk ⟨by omega, by omega⟩
  obtain ⟨r, h1, h2, x1, x2, I2⟩ := sim_scheme n hn hk I (hs (i + 1)) (hs (i + 2)) (hs (i + 3)) (hs (i + 4))
  have l1 := lo_f_X11_scheme h z r h1 x1
  have l2 := lo_f_X12_scheme h1 l1.1 r h2 x2
  have R1 := R.lo l1
  have g1 : ∀ K : RR, gk h 100 11 K = K := fun K => gk_p (t100 I.1) K
  have y12 : tg h1 197 = 12 := (congrArg Prod.fst (l1.2.2.2.1 197 (by have := I.1.2.2; omega))).trans (t197 I.1)
  have g2 : ∀ K : RR, gk h1 197 12 K = K := fun K => gk_p y12 K
  have r1 := fun K => R.xrw (j := 1) (by decide) (by decide) q q2 K
  have s1 := fun K => R1.xrw (j := 1) (by decide) (by decide) q q2 K
  have r2 := fun K => R.xrw (j := 2) (by decide) (by decide) q q2 K
  have s2 := fun K => R1.xrw (j := 2) (by decide) (by decide) q q2 K
  have r3 := fun K => R.xrw (j := 3) (by decide) (by decide) q q2 K
  have s3 := fun K => R1.xrw (j := 3) (by decide) (by decide) q q2 K
  have r4 := fun K => R.xrw (j := 4) (by decide) (by decide) q q2 K
  have s4 := fun K => R1.xrw (j := 4) (by decide) (by decide) q q2 K
  refine ⟨h2, ?_, I2, l1.trans l2⟩
  simp only [r1, s1, r2, s2, r3, s3, r4, s4, g1, g2, x1, x2, bd_p, eq_self, if_true, f_L_law_1923, lb, w6]
theorem law_9 (n : Nat) (hn : 10000000 ≤ n) (hk : k ≤ 1000) (I : Inv k h) (R : Rw v0 L sc h) (hs : ∀ j, J (sc j)) (q : 0 ≤ i ∧ i + 6 ≤ L) (q2 : L ≤ 384) : ∃ h2, (
      rd h v0 100 (wr (i + 1)) fun r91 =>
      rd h v0 100 (wr (i + 2)) fun r92 =>
      rd h v0 100 (wr (i + 3)) fun r93 =>
      gk h 100 11 <|
      bd (f_X11_chain n 100 r91 r92 r93 h) fun r94 h94 =>
      rd h94 v0 100 (wr (i + 1)) fun r95 =>
      rd h94 v0 100 (wr (i + 2)) fun r96 =>
      rd h94 v0 100 (wr (i + 3)) fun r97 =>
      gk h94 197 12 <|
      bd (f_X12_chain n 197 r95 r96 r97 h94) fun r98 h98 =>
      if r94 = r98 then
        f_L_law_1923 n rc v0 100 197 i h98
      else
      ck (isb 0) <|
      some (0, h98)
    ) = rc (i + 6) h2 ∧ Inv (k + 1) h2 ∧ Lo h h2 := by
  have z : 100 ≤ nx h := by have := I.1.2.2; omega
  have w6 : wr (i + 6) = i + 6 := wrk ⟨by omega, by omega⟩
  obtain ⟨r, h1, h2, x1, x2, I2⟩ := sim_chain n hn hk I (hs (i + 1)) (hs (i + 2)) (hs (i + 3))
  have l1 := lo_f_X11_chain h z r h1 x1
  have l2 := lo_f_X12_chain h1 l1.1 r h2 x2
  have R1 := R.lo l1
  have g1 : ∀ K : RR, gk h 100 11 K = K := fun K => gk_p (t100 I.1) K
  have y12 : tg h1 197 = 12 := (congrArg Prod.fst (l1.2.2.2.1 197 (by have := I.1.2.2; omega))).trans (t197 I.1)
  have g2 : ∀ K : RR, gk h1 197 12 K = K := fun K => gk_p y12 K
  have r1 := fun K => R.xrw (j := 1) (by decide) (by decide) q q2 K
  have s1 := fun K => R1.xrw (j := 1) (by decide) (by decide) q q2 K
  have r2 := fun K => R.xrw (j := 2) (by decide) (by decide) q q2 K
  have s2 := fun K => R1.xrw (j := 2) (by decide) (by decide) q q2 K
  have r3 := fun K => R.xrw (j := 3) (by decide) (by decide) q q2 K
  have s3 := fun K => R1.xrw (j := 3) (by decide) (by decide) q q2 K
  refine ⟨h2, ?_, I2, l1.trans l2⟩
  simp only [r1, s1, r2, s2, r3, s3, g1, g2, x1, x2, bd_p, eq_self, if_true, f_L_law_1923, lb, w6]
theorem law_10 (n : Nat) (hn : 10000000 ≤ n) (hk : k ≤ 1000) (I : Inv k h) (R : Rw v0 L sc h) (hs : ∀ j, J (sc j)) (q : 0 ≤ i ∧ i + 6 ≤ L) (q2 : L ≤ 384) : ∃ h2, (
      rd h v0 100 (wr (i + 1)) fun r102 =>
      rd h v0 100 (wr (i + 2)) fun r103 =>
      gk h 100 11 <|
      bd (f_X11_way n 100 r102 r103 h) fun r104 h104 =>
      rd h104 v0 100 (wr (i + 1)) fun r105 =>
      rd h104 v0 100 (wr (i + 2)) fun r106 =>
      gk h104 197 12 <|
      bd (f_X12_way n 197 r105 r106 h104) fun r107 h107 =>
      if r104 = r107 then
        f_L_law_1923 n rc v0 100 197 i h107
      else
      ck (isb 0) <|
      some (0, h107)
    ) = rc (i + 6) h2 ∧ Inv (k + 1) h2 ∧ Lo h h2 := by
  have z : 100 ≤ nx h := by have := I.1.2.2; omega
  have w6 : wr (i + 6) = i + 6 := wrk ⟨by omega, by omega⟩
  obtain ⟨r, h1, h2, x1, x2, I2⟩ := sim_way n hn I (hs (i + 1)) (hs (i + 2))
  have l1 := lo_f_X11_way h z r h1 x1
  have l2 := lo_f_X12_way h1 l1.1 r h2 x2
  have R1 := R.lo l1
  have g1 : ∀ K : RR, gk h 100 11 K = K := fun K => gk_p (t100 I.1) K
  have y12 : tg h1 197 = 12 := (congrArg Prod.fst (l1.2.2.2.1 197 (by have := I.1.2.2; omega))).trans (t197 I.1)
  have g2 : ∀ K : RR, gk h1 197 12 K = K := fun K => gk_p y12 K
  have r1 := fun K => R.xrw (j := 1) (by decide) (by decide) q q2 K
  have s1 := fun K => R1.xrw (j := 1) (by decide) (by decide) q q2 K
  have r2 := fun K => R.xrw (j := 2) (by decide) (by decide) q q2 K
  have s2 := fun K => R1.xrw (j := 2) (by decide) (by decide) q q2 K
  refine ⟨h2, ?_, I2, l1.trans l2⟩
  simp only [r1, s1, r2, s2, g1, g2, x1, x2, bd_p, eq_self, if_true, f_L_law_1923, lb, w6]
theorem law_11 (n : Nat) (hn : 10000000 ≤ n) (hk : k ≤ 1000) (I : Inv k h) (R : Rw v0 L sc h) (hs : ∀ j, J (sc j)) (q : 0 ≤ i ∧ i + 6 ≤ L) (q2 : L ≤ 384) : ∃ h2, (
      rd h v0 100 (wr (i + 1)) fun r111 =>
      rd h v0 100 (wr (i + 2)) fun r112 =>
      gk h 100 11 <|
      bd (f_X11_level n 100 r111 r112 h) fun r113 h113 =>
      rd h113 v0 100 (wr (i + 1)) fun r114 =>
      rd h113 v0 100 (wr (i + 2)) fun r115 =>
      gk h113 197 12 <|
      bd (f_X12_level n 197 r114 r115 h113) fun r116 h116 =>
      if r113 = r116 then
        f_L_law_1923 n rc v0 100 197 i h116
      else
      ck (isb 0) <|
      some (0, h116)
    ) = rc (i + 6) h2 ∧ Inv (k + 1) h2 ∧ Lo h h2 := by
  have z : 100 ≤ nx h := by have := I.1.2.2; omega
  have w6 : wr (i + 6) = i + 6 := wrk ⟨by omega, by omega⟩
  obtain ⟨r, h1, h2, x1, x2, I2⟩ := sim_level n hn I (hs (i + 1)) (hs (i + 2))
  have l1 := lo_f_X11_level h z r h1 x1
  have l2 := lo_f_X12_level h1 l1.1 r h2 x2
  have R1 := R.lo l1
  have g1 : ∀ K : RR, gk h 100 11 K = K := fun K => gk_p (t100 I.1) K
  have y12 : tg h1 197 = 12 := (congrArg Prod.fst (l1.2.2.2.1 197 (by have := I.1.2.2; omega))).trans (t197 I.1)
  have g2 : ∀ K : RR, gk h1 197 12 K = K := fun K => gk_p y12 K
  have r1 := fun K => R.xrw (j := 1) (by decide) (by decide) q q2 K
  have s1 := fun K => R1.xrw (j := 1) (by decide) (by decide) q q2 K
  have r2 := fun K => R.xrw (j := 2) (by decide) (by decide) q q2 K
  have s2 := fun K => R1.xrw (j := 2) (by decide) (by decide) q q2 K
  refine ⟨h2, ?_, I2, l1.trans l2⟩
  simp only [r1, s1, r2, s2, g1, g2, x1, x2, bd_p, eq_self, if_true, f_L_law_1923, lb, w6]
theorem law_12 (n : Nat) (hn : 10000000 ≤ n) (hk : k ≤ 1000) (I : Inv k h) (R : Rw v0 L sc h) (hs : ∀ j, J (sc j)) (q : 0 ≤ i ∧ i + 6 ≤ L) (q2 : L ≤ 384) : ∃ h2, (
      rd h v0 100 (wr (i + 1)) fun r120 =>
      rd h v0 100 (wr (i + 2)) fun r121 =>
      rd h v0 100 (wr (i + 3)) fun r122 =>
      gk h 100 11 <|
      bd (f_X11_close n 100 r120 r121 r122 h) fun r123 h123 =>
      rd h123 v0 100 (wr (i + 1)) fun r124 =>
      rd h123 v0 100 (wr (i + 2)) fun r125 =>
      rd h123 v0 100 (wr (i + 3)) fun r126 =>
      gk h123 197 12 <|
      bd (f_X12_close n 197 r124 r125 r126 h123) fun r127 h127 =>
      if r123 = r127 then
        f_L_law_1923 n rc v0 100 197 i h127
      else
      ck (isb 0) <|
      some (0, h127)
    ) = rc (i + 6) h2 ∧ Inv (k + 1) h2 ∧ Lo h h2 := by
  have z : 100 ≤ nx h := by have := I.1.2.2; omega
  have w6 : wr (i + 6) = i + 6 := wrk ⟨by omega, by omega⟩
  obtain ⟨r, h1, h2, x1, x2, I2⟩ := sim_close n hn I (hs (i + 1)) (hs (i + 2)) (hs (i + 3))
  have l1 := lo_f_X11_close h z r h1 x1
  have l2 := lo_f_X12_close h1 l1.1 r h2 x2
  have R1 := R.lo l1
  have g1 : ∀ K : RR, gk h 100 11 K = K := fun K => gk_p (t100 I.1) K
  have y12 : tg h1 197 = 12 := (congrArg Prod.fst (l1.2.2.2.1 197 (by have := I.1.2.2; omega))).trans (t197 I.1)
  have g2 : ∀ K : RR, gk h1 197 12 K = K := fun K => gk_p y12 K
  have r1 := fun K => R.xrw (j := 1) (by decide) (by decide) q q2 K
  have s1 := fun K => R1.xrw (j := 1) (by decide) (by decide) q q2 K
  have r2 := fun K => R.xrw (j := 2) (by decide) (by decide) q q2 K
  have s2 := fun K => R1.xrw (j := 2) (by decide) (by decide) q q2 K
  have r3 := fun K => R.xrw (j := 3) (by decide) (by decide) q q2 K
  have s3 := fun K => R1.xrw (j := 3) (by decide) (by decide) q q2 K
  refine ⟨h2, ?_, I2, l1.trans l2⟩
  simp only [r1, s1, r2, s2, r3, s3, g1, g2, x1, x2, bd_p, eq_self, if_true, f_L_law_1923, lb, w6]
theorem law_13 (n : Nat) (hn : 10000000 ≤ n) (hk : k ≤ 1000) (I : Inv k h) (R : Rw v0 L sc h) (hs : ∀ j, J (sc j)) (q : 0 ≤ i ∧ i + 6 ≤ L) (q2 : L ≤ 384) : ∃ h2, (
      rd h v0 100 (wr (i + 1)) fun r131 =>
      rd h v0 100 (wr (i + 2)) fun r132 =>
      gk h 100 11 <|
      bd (f_X11_quarrel n 100 r131 r132 h) fun r133 h133 =>
      rd h133 v0 100 (wr (i + 1)) fun r134 =>
      rd h133 v0 100 (wr (i + 2)) fun r135 =>
      gk h133 197 12 <|
      bd (f_X12_quarrel n 197 r134 r135 h133) fun r136 h136 =>
      if r133 = r136 then
        f_L_law_1923 n rc v0 100 197 i h136
      else
      ck (isb 0) <|
      some (0, h136)
    ) = rc (i + 6) h2 ∧ Inv (k + 1) h2 ∧ Lo h h2 := by
  have z : 100 ≤ nx h := by have := I.1.2.2; omega
  have w6 : wr (i + 6) = i + 6 := wrk ⟨by omega, by omega⟩
  obtain ⟨r, h1, h2, x1, x2, I2⟩ := sim_quarrel n hn I (hs (i + 1)) (hs (i + 2))
  have l1 := lo_f_X11_quarrel h z r h1 x1
  have l2 := lo_f_X12_quarrel h1 l1.1 r h2 x2
  have R1 := R.lo l1
  have g1 : ∀ K : RR, gk h 100 11 K = K := fun K => gk_p (t100 I.1) K
  have y12 : tg h1 197 = 12 := (congrArg Prod.fst (l1.2.2.2.1 197 (by have := I.1.2.2; omega))).trans (t197 I.1)
  have g2 : ∀ K : RR, gk h1 197 12 K = K := fun K => gk_p y12 K
  have r1 := fun K => R.xrw (j := 1) (by decide) (by decide) q q2 K
  have s1 := fun K => R1.xrw (j := 1) (by decide) (by decide) q q2 K
  have r2 := fun K => R.xrw (j := 2) (by decide) (by decide) q q2 K
  have s2 := fun K => R1.xrw (j := 2) (by decide) (by decide) q q2 K
  refine ⟨h2, ?_, I2, l1.trans l2⟩
  simp only [r1, s1, r2, s2, g1, g2, x1, x2, bd_p, eq_self, if_true, f_L_law_1923, lb, w6]
theorem law_14 (n : Nat) (hn : 10000000 ≤ n) (hk : k ≤ 1000) (I : Inv k h) (R : Rw v0 L sc h) (hs : ∀ j, J (sc j)) (q : 0 ≤ i ∧ i + 6 ≤ L) (q2 : L ≤ 384) : ∃ h2, (
      rd h v0 100 (wr (i + 1)) fun r140 =>
      rd h v0 100 (wr (i + 2)) fun r141 =>
      rd h v0 100 (wr (i + 3)) fun r142 =>
      rd h v0 100 (wr (i + 4)) fun r143 =>
      gk h 100 11 <|
      bd (f_X11_slope n 100 r140 r141 r142 r143 h) fun r144 h144 =>
      rd h144 v0 100 (wr (i + 1)) fun r145 =>
      rd h144 v0 100 (wr (i + 2)) fun r146 =>
      rd h144 v0 100 (wr (i + 3)) fun r147 =>
      rd h144 v0 100 (wr (i + 4)) fun r148 =>
      gk h144 197 12 <|
      bd (f_X12_slope n 197 r145 r146 r147 r148 h144) fun r149 h149 =>
      if r144 = r149 then
        f_L_law_1923 n rc v0 100 197 i h149
      else
      ck (isb 0) <|
      some (0, h149)
    ) = rc (i + 6) h2 ∧ Inv (k + 1) h2 ∧ Lo h h2 := by
  have z : 100 ≤ nx h := by have := I.1.2.2; omega
  have w6 : wr (i + 6) = i + 6 := wrk ⟨by omega, by omega⟩
  obtain ⟨r, h1, h2, x1, x2, I2⟩ := sim_slope n hn I (hs (i + 1)) (hs (i + 2)) (hs (i + 3)) (hs (i + 4))
  have l1 := lo_f_X11_slope h z r h1 x1
  have l2 := lo_f_X12_slope h1 l1.1 r h2 x2
  have R1 := R.lo l1
  have g1 : ∀ K : RR, gk h 100 11 K = K := fun K => gk_p (t100 I.1) K
  have y12 : tg h1 197 = 12 := (congrArg Prod.fst (l1.2.2.2.1 197 (by have := I.1.2.2; omega))).trans (t197 I.1)
  have g2 : ∀ K : RR, gk h1 197 12 K = K := fun K => gk_p y12 K
  have r1 := fun K => R.xrw (j := 1) (by decide) (by decide) q q2 K
  have s1 := fun K => R1.xrw (j := 1) (by decide) (by decide) q q2 K
  have r2 := fun K => R.xrw (j := 2) (by decide) (by decide) q q2 K
  have s2 := fun K => R1.xrw (j := 2) (by decide) (by decide) q q2 K
  have r3 := fun K => R.xrw (j := 3) (by decide) (by decide) q q2 K
  have s3 := fun K => R1.xrw (j := 3) (by decide) (by decide) q q2 K
  have r4 := fun K => R.xrw (j := 4) (by decide) (by decide) q q2 K
  have s4 := fun K => R1.xrw (j := 4) (by decide) (by decide) q q2 K
  refine ⟨h2, ?_, I2, l1.trans l2⟩
  simp only [r1, s1, r2, s2, r3, s3, r4, s4, g1, g2, x1, x2, bd_p, eq_self, if_true, f_L_law_1923, lb, w6]
theorem law_15 (n : Nat) (hn : 10000000 ≤ n) (hk : k ≤ 1000) (I : Inv k h) (R : Rw v0 L sc h) (hs : ∀ j, J (sc j)) (q : 0 ≤ i ∧ i + 6 ≤ L) (q2 : L ≤ 384) : ∃ h2, (
      rd h v0 100 (wr (i + 1)) fun r153 =>
      rd h v0 100 (wr (i + 2)) fun r154 =>
      gk h 100 11 <|
      bd (f_X11_claim n 100 r153 r154 h) fun r155 h155 =>
      rd h155 v0 100 (wr (i + 1)) fun r156 =>
      rd h155 v0 100 (wr (i + 2)) fun r157 =>
      gk h155 197 12 <|
      bd (f_X12_claim n 197 r156 r157 h155) fun r158 h158 =>
      if r155 = r158 then
        f_L_law_1923 n rc v0 100 197 i h158
      else
      ck (isb 0) <|
      some (0, h158)
    ) = rc (i + 6) h2 ∧ Inv (k + 1) h2 ∧ Lo h h2 := by
  have z : 100 ≤ nx h := by have := I.1.2.2; omega
  have w6 : wr (i + 6) = i + 6 := wrk ⟨by omega, by omega⟩
  obtain ⟨r, h1, h2, x1, x2, I2⟩ := sim_claim n hn hk I (hs (i + 1)) (hs (i + 2))
  have l1 := lo_f_X11_claim h z r h1 x1
  have l2 := lo_f_X12_claim h1 l1.1 r h2 x2
  have R1 := R.lo l1
  have g1 : ∀ K : RR, gk h 100 11 K = K := fun K => gk_p (t100 I.1) K
  have y12 : tg h1 197 = 12 := (congrArg Prod.fst (l1.2.2.2.1 197 (by have := I.1.2.2; omega))).trans (t197 I.1)
  have g2 : ∀ K : RR, gk h1 197 12 K = K := fun K => gk_p y12 K
  have r1 := fun K => R.xrw (j := 1) (by decide) (by decide) q q2 K
  have s1 := fun K => R1.xrw (j := 1) (by decide) (by decide) q q2 K
  have r2 := fun K => R.xrw (j := 2) (by decide) (by decide) q q2 K
  have s2 := fun K => R1.xrw (j := 2) (by decide) (by decide) q q2 K
  refine ⟨h2, ?_, I2, l1.trans l2⟩
  simp only [r1, s1, r2, s2, g1, g2, x1, x2, bd_p, eq_self, if_true, f_L_law_1923, lb, w6]
theorem law_16 (n : Nat) (hn : 10000000 ≤ n) (hk : k ≤ 1000) (I : Inv k h) (R : Rw v0 L sc h) (hs : ∀ j, J (sc j)) (q : 0 ≤ i ∧ i + 6 ≤ L) (q2 : L ≤ 384) : ∃ h2, (
      rd h v0 100 (wr (i + 1)) fun r162 =>
      gk h 100 11 <|
      bd (f_X11_bill n 100 r162 h) fun r163 h163 =>
      rd h163 v0 100 (wr (i + 1)) fun r164 =>
      gk h163 197 12 <|
      bd (f_X12_bill n 197 r164 h163) fun r165 h165 =>
      if r163 = r165 then
        f_L_law_1923 n rc v0 100 197 i h165
      else
      ck (isb 0) <|
      some (0, h165)
    ) = rc (i + 6) h2 ∧ Inv (k + 1) h2 ∧ Lo h h2 := by
  have z : 100 ≤ nx h := by have := I.1.2.2; omega
  have w6 : wr (i + 6) = i + 6 := wrk ⟨by omega, by omega⟩
  obtain ⟨r, h1, h2, x1, x2, I2⟩ := sim_bill n hn hk I (hs (i + 1))
  have l1 := lo_f_X11_bill h z r h1 x1
  have l2 := lo_f_X12_bill h1 l1.1 r h2 x2
  have R1 := R.lo l1
  have g1 : ∀ K : RR, gk h 100 11 K = K := fun K => gk_p (t100 I.1) K
  have y12 : tg h1 197 = 12 := (congrArg Prod.fst (l1.2.2.2.1 197 (by have := I.1.2.2; omega))).trans (t197 I.1)
  have g2 : ∀ K : RR, gk h1 197 12 K = K := fun K => gk_p y12 K
  have r1 := fun K => R.xrw (j := 1) (by decide) (by decide) q q2 K
  have s1 := fun K => R1.xrw (j := 1) (by decide) (by decide) q q2 K
  refine ⟨h2, ?_, I2, l1.trans l2⟩
  simp only [r1, s1, g1, g2, x1, x2, bd_p, eq_self, if_true, f_L_law_1923, lb, w6]
theorem law_17 (n : Nat) (hn : 10000000 ≤ n) (hk : k ≤ 1000) (I : Inv k h) (R : Rw v0 L sc h) (hs : ∀ j, J (sc j)) (q : 0 ≤ i ∧ i + 6 ≤ L) (q2 : L ≤ 384) : ∃ h2, (
      rd h v0 100 (wr (i + 1)) fun r169 =>
      rd h v0 100 (wr (i + 2)) fun r170 =>
      gk h 100 11 <|
      bd (f_X11_hear n 100 r169 r170 h) fun r171 h171 =>
      rd h171 v0 100 (wr (i + 1)) fun r172 =>
      rd h171 v0 100 (wr (i + 2)) fun r173 =>
      gk h171 197 12 <|
      bd (f_X12_hear n 197 r172 r173 h171) fun r174 h174 =>
      if r171 = r174 then
        f_L_law_1923 n rc v0 100 197 i h174
      else
      ck (isb 0) <|
      some (0, h174)
    ) = rc (i + 6) h2 ∧ Inv (k + 1) h2 ∧ Lo h h2 := by
  have z : 100 ≤ nx h := by have := I.1.2.2; omega
  have w6 : wr (i + 6) = i + 6 := wrk ⟨by omega, by omega⟩
  obtain ⟨r, h1, h2, x1, x2, I2⟩ := sim_hear n hn I (hs (i + 1)) (hs (i + 2))
  have l1 := lo_f_X11_hear h z r h1 x1
  have l2 := lo_f_X12_hear h1 l1.1 r h2 x2
  have R1 := R.lo l1
  have g1 : ∀ K : RR, gk h 100 11 K = K := fun K => gk_p (t100 I.1) K
  have y12 : tg h1 197 = 12 := (congrArg Prod.fst (l1.2.2.2.1 197 (by have := I.1.2.2; omega))).trans (t197 I.1)
  have g2 : ∀ K : RR, gk h1 197 12 K = K := fun K => gk_p y12 K
  have r1 := fun K => R.xrw (j := 1) (by decide) (by decide) q q2 K
  have s1 := fun K => R1.xrw (j := 1) (by decide) (by decide) q q2 K
  have r2 := fun K => R.xrw (j := 2) (by decide) (by decide) q q2 K
  have s2 := fun K => R1.xrw (j := 2) (by decide) (by decide) q q2 K
  refine ⟨h2, ?_, I2, l1.trans l2⟩
  simp only [r1, s1, r2, s2, g1, g2, x1, x2, bd_p, eq_self, if_true, f_L_law_1923, lb, w6]
theorem law_18 (n : Nat) (hn : 10000000 ≤ n) (hk : k ≤ 1000) (I : Inv k h) (R : Rw v0 L sc h) (hs : ∀ j, J (sc j)) (q : 0 ≤ i ∧ i + 6 ≤ L) (q2 : L ≤ 384) : ∃ h2, (
      rd h v0 100 (wr (i + 1)) fun r178 =>
      rd h v0 100 (wr (i + 2)) fun r179 =>
      gk h 100 11 <|
      bd (f_X11_bar n 100 r178 r179 h) fun r180 h180 =>
      rd h180 v0 100 (wr (i + 1)) fun r181 =>
      rd h180 v0 100 (wr (i + 2)) fun r182 =>
      gk h180 197 12 <|
      bd (f_X12_bar n 197 r181 r182 h180) fun r183 h183 =>
      if r180 = r183 then
        f_L_law_1923 n rc v0 100 197 i h183
      else
      ck (isb 0) <|
      some (0, h183)
    ) = rc (i + 6) h2 ∧ Inv (k + 1) h2 ∧ Lo h h2 := by
  have z : 100 ≤ nx h := by have := I.1.2.2; omega
  have w6 : wr (i + 6) = i + 6 := wrk ⟨by omega, by omega⟩
  obtain ⟨r, h1, h2, x1, x2, I2⟩ := sim_bar n hn I (hs (i + 1)) (hs (i + 2))
  have l1 := lo_f_X11_bar h z r h1 x1
  have l2 := lo_f_X12_bar h1 l1.1 r h2 x2
  have R1 := R.lo l1
  have g1 : ∀ K : RR, gk h 100 11 K = K := fun K => gk_p (t100 I.1) K
  have y12 : tg h1 197 = 12 := (congrArg Prod.fst (l1.2.2.2.1 197 (by have := I.1.2.2; omega))).trans (t197 I.1)
  have g2 : ∀ K : RR, gk h1 197 12 K = K := fun K => gk_p y12 K
  have r1 := fun K => R.xrw (j := 1) (by decide) (by decide) q q2 K
  have s1 := fun K => R1.xrw (j := 1) (by decide) (by decide) q q2 K
  have r2 := fun K => R.xrw (j := 2) (by decide) (by decide) q q2 K
  have s2 := fun K => R1.xrw (j := 2) (by decide) (by decide) q q2 K
  refine ⟨h2, ?_, I2, l1.trans l2⟩
  simp only [r1, s1, r2, s2, g1, g2, x1, x2, bd_p, eq_self, if_true, f_L_law_1923, lb, w6]
theorem law_19 (n : Nat) (hn : 10000000 ≤ n) (hk : k ≤ 1000) (I : Inv k h) (R : Rw v0 L sc h) (hs : ∀ j, J (sc j)) (q : 0 ≤ i ∧ i + 6 ≤ L) (q2 : L ≤ 384) : ∃ h2, (
      rd h v0 100 (wr (i + 1)) fun r187 =>
      gk h 100 11 <|
      bd (f_X11_grant n 100 r187 h) fun r188 h188 =>
      rd h188 v0 100 (wr (i + 1)) fun r189 =>
      gk h188 197 12 <|
      bd (f_X12_grant n 197 r189 h188) fun r190 h190 =>
      if r188 = r190 then
        f_L_law_1923 n rc v0 100 197 i h190
      else
      ck (isb 0) <|
      some (0, h190)
    ) = rc (i + 6) h2 ∧ Inv (k + 1) h2 ∧ Lo h h2 := by
  have z : 100 ≤ nx h := by have := I.1.2.2; omega
  have w6 : wr (i + 6) = i + 6 := wrk ⟨by omega, by omega⟩
  obtain ⟨r, h1, h2, x1, x2, I2⟩ := sim_grant n hn I (hs (i + 1))
  have l1 := lo_f_X11_grant h z r h1 x1
  have l2 := lo_f_X12_grant h1 l1.1 r h2 x2
  have R1 := R.lo l1
  have g1 : ∀ K : RR, gk h 100 11 K = K := fun K => gk_p (t100 I.1) K
  have y12 : tg h1 197 = 12 := (congrArg Prod.fst (l1.2.2.2.1 197 (by have := I.1.2.2; omega))).trans (t197 I.1)
  have g2 : ∀ K : RR, gk h1 197 12 K = K := fun K => gk_p y12 K
  have r1 := fun K => R.xrw (j := 1) (by decide) (by decide) q q2 K
  have s1 := fun K => R1.xrw (j := 1) (by decide) (by decide) q q2 K
  refine ⟨h2, ?_, I2, l1.trans l2⟩
  simp only [r1, s1, g1, g2, x1, x2, bd_p, eq_self, if_true, f_L_law_1923, lb, w6]
theorem law_20 (n : Nat) (hn : 10000000 ≤ n) (hk : k ≤ 1000) (I : Inv k h) (R : Rw v0 L sc h) (hs : ∀ j, J (sc j)) (q : 0 ≤ i ∧ i + 6 ≤ L) (q2 : L ≤ 384) : ∃ h2, (
      rd h v0 100 (wr (i + 1)) fun r194 =>
      rd h v0 100 (wr (i + 2)) fun r195 =>
      gk h 100 11 <|
      bd (f_X11_cast n 100 r194 r195 h) fun r196 h196 =>
      rd h196 v0 100 (wr (i + 1)) fun r197 =>
      rd h196 v0 100 (wr (i + 2)) fun r198 =>
      gk h196 197 12 <|
      bd (f_X12_cast n 197 r197 r198 h196) fun r199 h199 =>
      if r196 = r199 then
        f_L_law_1923 n rc v0 100 197 i h199
      else
      ck (isb 0) <|
      some (0, h199)
    ) = rc (i + 6) h2 ∧ Inv (k + 1) h2 ∧ Lo h h2 := by
  have z : 100 ≤ nx h := by have := I.1.2.2; omega
  have w6 : wr (i + 6) = i + 6 := wrk ⟨by omega, by omega⟩
  obtain ⟨r, h1, h2, x1, x2, I2⟩ := sim_cast n hn I (hs (i + 1)) (hs (i + 2))
  have l1 := lo_f_X11_cast h z r h1 x1
  have l2 := lo_f_X12_cast h1 l1.1 r h2 x2
  have R1 := R.lo l1
  have g1 : ∀ K : RR, gk h 100 11 K = K := fun K => gk_p (t100 I.1) K
  have y12 : tg h1 197 = 12 := (congrArg Prod.fst (l1.2.2.2.1 197 (by have := I.1.2.2; omega))).trans (t197 I.1)
  have g2 : ∀ K : RR, gk h1 197 12 K = K := fun K => gk_p y12 K
  have r1 := fun K => R.xrw (j := 1) (by decide) (by decide) q q2 K
  have s1 := fun K => R1.xrw (j := 1) (by decide) (by decide) q q2 K
  have r2 := fun K => R.xrw (j := 2) (by decide) (by decide) q q2 K
  have s2 := fun K => R1.xrw (j := 2) (by decide) (by decide) q q2 K
  refine ⟨h2, ?_, I2, l1.trans l2⟩
  simp only [r1, s1, r2, s2, g1, g2, x1, x2, bd_p, eq_self, if_true, f_L_law_1923, lb, w6]
theorem law_21 (n : Nat) (hn : 10000000 ≤ n) (hk : k ≤ 1000) (I : Inv k h) (R : Rw v0 L sc h) (hs : ∀ j, J (sc j)) (q : 0 ≤ i ∧ i + 6 ≤ L) (q2 : L ≤ 384) : ∃ h2, (
      rd h v0 100 (wr (i + 1)) fun r203 =>
      rd h v0 100 (wr (i + 2)) fun r204 =>
      gk h 100 11 <|
      bd (f_X11_about n 100 r203 r204 h) fun r205 h205 =>
      rd h205 v0 100 (wr (i + 1)) fun r206 =>
      rd h205 v0 100 (wr (i + 2)) fun r207 =>
      gk h205 197 12 <|
      bd (f_X12_about n 197 r206 r207 h205) fun r208 h208 =>
      if r205 = r208 then
        f_L_law_1923 n rc v0 100 197 i h208
      else
      ck (isb 0) <|
      some (0, h208)
    ) = rc (i + 6) h2 ∧ Inv (k + 1) h2 ∧ Lo h h2 := by
  have z : 100 ≤ nx h := by have := I.1.2.2; omega
  have w6 : wr (i + 6) = i + 6 := wrk ⟨by omega, by omega⟩
  obtain ⟨r, h1, h2, x1, x2, I2⟩ := sim_about n hn I (hs (i + 1)) (hs (i + 2))
  have l1 := lo_f_X11_about h z r h1 x1
  have l2 := lo_f_X12_about h1 l1.1 r h2 x2
  have R1 := R.lo l1
  have g1 : ∀ K : RR, gk h 100 11 K = K := fun K => gk_p (t100 I.1) K
  have y12 : tg h1 197 = 12 := (congrArg Prod.fst (l1.2.2.2.1 197 (by have := I.1.2.2; omega))).trans (t197 I.1)
  have g2 : ∀ K : RR, gk h1 197 12 K = K := fun K => gk_p y12 K
  have r1 := fun K => R.xrw (j := 1) (by decide) (by decide) q q2 K
  have s1 := fun K => R1.xrw (j := 1) (by decide) (by decide) q q2 K
  have r2 := fun K => R.xrw (j := 2) (by decide) (by decide) q q2 K
  have s2 := fun K => R1.xrw (j := 2) (by decide) (by decide) q q2 K
  refine ⟨h2, ?_, I2, l1.trans l2⟩
  simp only [r1, s1, r2, s2, g1, g2, x1, x2, bd_p, eq_self, if_true, f_L_law_1923, lb, w6]
theorem law_22 (n : Nat) (hn : 10000000 ≤ n) (hk : k ≤ 1000) (I : Inv k h) (R : Rw v0 L sc h) (hs : ∀ j, J (sc j)) (q : 0 ≤ i ∧ i + 6 ≤ L) (q2 : L ≤ 384) : ∃ h2, (
      rd h v0 100 (wr (i + 1)) fun r212 =>
      rd h v0 100 (wr (i + 2)) fun r213 =>
      rd h v0 100 (wr (i + 3)) fun r214 =>
      if r214 = 0 then
        f_L_law_1054 n rc v0 100 197 i 100 r212 r213 0 h
      else
      f_L_law_1054 n rc v0 100 197 i 100 r212 r213 1 h
    ) = rc (i + 6) h2 ∧ Inv (k + 1) h2 ∧ Lo h h2 := by
  have z : 100 ≤ nx h := by have := I.1.2.2; omega
  have w6 : wr (i + 6) = i + 6 := wrk ⟨by omega, by omega⟩
  by_cases b : sc (i + 3) = 0
  · obtain ⟨r, h1, h2, x1, x2, I2⟩ := sim_board n hn I (hs (i + 1)) (hs (i + 2)) (yy := 0) (Or.inl rfl)
    have l1 := lo_f_X11_board h z r h1 x1
    have l2 := lo_f_X12_board h1 l1.1 r h2 x2
    have R1 := R.lo l1
    have g1 : ∀ K : RR, gk h 100 11 K = K := fun K => gk_p (t100 I.1) K
    have y12 : tg h1 197 = 12 := (congrArg Prod.fst (l1.2.2.2.1 197 (by have := I.1.2.2; omega))).trans (t197 I.1)
    have g2 : ∀ K : RR, gk h1 197 12 K = K := fun K => gk_p y12 K
    have r1 := fun K => R.xrw (j := 1) (by decide) (by decide) q q2 K
    have s1 := fun K => R1.xrw (j := 1) (by decide) (by decide) q q2 K
    have r2 := fun K => R.xrw (j := 2) (by decide) (by decide) q q2 K
    have s2 := fun K => R1.xrw (j := 2) (by decide) (by decide) q q2 K
    have r3 := fun K => R.xrw (j := 3) (by decide) (by decide) q q2 K
    have s3 := fun K => R1.xrw (j := 3) (by decide) (by decide) q q2 K
    refine ⟨h2, ?_, I2, l1.trans l2⟩
    simp only [r1, s1, r2, s2, r3, s3, g1, g2, x1, x2, bd_p, eq_self, if_true, f_L_law_1923, lb, w6, b, f_L_law_1054, f_L_law_1081]
  · obtain ⟨r, h1, h2, x1, x2, I2⟩ := sim_board n hn I (hs (i + 1)) (hs (i + 2)) (yy := 1) (Or.inr rfl)
    have l1 := lo_f_X11_board h z r h1 x1
    have l2 := lo_f_X12_board h1 l1.1 r h2 x2
    have R1 := R.lo l1
    have g1 : ∀ K : RR, gk h 100 11 K = K := fun K => gk_p (t100 I.1) K
    have y12 : tg h1 197 = 12 := (congrArg Prod.fst (l1.2.2.2.1 197 (by have := I.1.2.2; omega))).trans (t197 I.1)
    have g2 : ∀ K : RR, gk h1 197 12 K = K := fun K => gk_p y12 K
    have r1 := fun K => R.xrw (j := 1) (by decide) (by decide) q q2 K
    have s1 := fun K => R1.xrw (j := 1) (by decide) (by decide) q q2 K
    have r2 := fun K => R.xrw (j := 2) (by decide) (by decide) q q2 K
    have s2 := fun K => R1.xrw (j := 2) (by decide) (by decide) q q2 K
    have r3 := fun K => R.xrw (j := 3) (by decide) (by decide) q q2 K
    have s3 := fun K => R1.xrw (j := 3) (by decide) (by decide) q q2 K
    refine ⟨h2, ?_, I2, l1.trans l2⟩
    simp only [r1, s1, r2, s2, r3, s3, g1, g2, x1, x2, bd_p, eq_self, if_true, f_L_law_1923, lb, w6, b, if_false, f_L_law_1054, f_L_law_1081]
theorem law_23 (n : Nat) (hn : 10000000 ≤ n) (hk : k ≤ 1000) (I : Inv k h) (R : Rw v0 L sc h) (hs : ∀ j, J (sc j)) (q : 0 ≤ i ∧ i + 6 ≤ L) (q2 : L ≤ 384) : ∃ h2, (
      gk h 100 11 <|
      bd (f_X11_doubled n 100 h) fun r217 h217 =>
      gk h217 197 12 <|
      bd (f_X12_doubled n 197 h217) fun r218 h218 =>
      if r217 = r218 then
        f_L_law_1923 n rc v0 100 197 i h218
      else
      ck (isb 0) <|
      some (0, h218)
    ) = rc (i + 6) h2 ∧ Inv (k + 1) h2 ∧ Lo h h2 := by
  have z : 100 ≤ nx h := by have := I.1.2.2; omega
  have w6 : wr (i + 6) = i + 6 := wrk ⟨by omega, by omega⟩
  obtain ⟨r, h1, h2, x1, x2, I2⟩ := sim_doubled n hn I
  have l1 := lo_f_X11_doubled h z r h1 x1
  have l2 := lo_f_X12_doubled h1 l1.1 r h2 x2
  have R1 := R.lo l1
  have g1 : ∀ K : RR, gk h 100 11 K = K := fun K => gk_p (t100 I.1) K
  have y12 : tg h1 197 = 12 := (congrArg Prod.fst (l1.2.2.2.1 197 (by have := I.1.2.2; omega))).trans (t197 I.1)
  have g2 : ∀ K : RR, gk h1 197 12 K = K := fun K => gk_p y12 K
  refine ⟨h2, ?_, I2, l1.trans l2⟩
  simp only [g1, g2, x1, x2, bd_p, eq_self, if_true, f_L_law_1923, lb, w6]
theorem law_24 (n : Nat) (hn : 10000000 ≤ n) (hk : k ≤ 1000) (I : Inv k h) (R : Rw v0 L sc h) (hs : ∀ j, J (sc j)) (q : 0 ≤ i ∧ i + 6 ≤ L) (q2 : L ≤ 384) : ∃ h2, (
      rd h v0 100 (wr (i + 1)) fun r222 =>
      rd h v0 100 (wr (i + 2)) fun r223 =>
      gk h 100 11 <|
      bd (f_X11_hand n 100 r222 r223 h) fun r224 h224 =>
      rd h224 v0 100 (wr (i + 1)) fun r225 =>
      rd h224 v0 100 (wr (i + 2)) fun r226 =>
      gk h224 197 12 <|
      bd (f_X12_hand n 197 r225 r226 h224) fun r227 h227 =>
      if r224 = r227 then
        f_L_law_1923 n rc v0 100 197 i h227
      else
      ck (isb 0) <|
      some (0, h227)
    ) = rc (i + 6) h2 ∧ Inv (k + 1) h2 ∧ Lo h h2 := by
  have z : 100 ≤ nx h := by have := I.1.2.2; omega
  have w6 : wr (i + 6) = i + 6 := wrk ⟨by omega, by omega⟩
  obtain ⟨r, h1, h2, x1, x2, I2⟩ := sim_hand n I (hs (i + 1)) (hs (i + 2))
  have l1 := lo_f_X11_hand h z r h1 x1
  have l2 := lo_f_X12_hand h1 l1.1 r h2 x2
  have R1 := R.lo l1
  have g1 : ∀ K : RR, gk h 100 11 K = K := fun K => gk_p (t100 I.1) K
  have y12 : tg h1 197 = 12 := (congrArg Prod.fst (l1.2.2.2.1 197 (by have := I.1.2.2; omega))).trans (t197 I.1)
  have g2 : ∀ K : RR, gk h1 197 12 K = K := fun K => gk_p y12 K
  have r1 := fun K => R.xrw (j := 1) (by decide) (by decide) q q2 K
  have s1 := fun K => R1.xrw (j := 1) (by decide) (by decide) q q2 K
  have r2 := fun K => R.xrw (j := 2) (by decide) (by decide) q q2 K
  have s2 := fun K => R1.xrw (j := 2) (by decide) (by decide) q q2 K
  refine ⟨h2, ?_, I2, l1.trans l2⟩
  simp only [r1, s1, r2, s2, g1, g2, x1, x2, bd_p, eq_self, if_true, f_L_law_1923, lb, w6]
theorem law_25 (n : Nat) (hn : 10000000 ≤ n) (hk : k ≤ 1000) (I : Inv k h) (R : Rw v0 L sc h) (hs : ∀ j, J (sc j)) (q : 0 ≤ i ∧ i + 6 ≤ L) (q2 : L ≤ 384) : ∃ h2, (
      rd h v0 100 (wr (i + 1)) fun r231 =>
      rd h v0 100 (wr (i + 2)) fun r232 =>
      gk h 100 11 <|
      bd (f_X11_midnight n 100 r231 r232 h) fun r233 h233 =>
      rd h233 v0 100 (wr (i + 1)) fun r234 =>
      rd h233 v0 100 (wr (i + 2)) fun r235 =>
      gk h233 197 12 <|
      bd (f_X12_midnight n 197 r234 r235 h233) fun r236 h236 =>
      if r233 = r236 then
        f_L_law_1923 n rc v0 100 197 i h236
      else
      ck (isb 0) <|
      some (0, h236)
    ) = rc (i + 6) h2 ∧ Inv (k + 1) h2 ∧ Lo h h2 := by
  have z : 100 ≤ nx h := by have := I.1.2.2; omega
  have w6 : wr (i + 6) = i + 6 := wrk ⟨by omega, by omega⟩
  obtain ⟨r, h1, h2, x1, x2, I2⟩ := sim_midnight n hn I (hs (i + 1)) (hs (i + 2))
  have l1 := lo_f_X11_midnight h z r h1 x1
  have l2 := lo_f_X12_midnight h1 l1.1 r h2 x2
  have R1 := R.lo l1
  have g1 : ∀ K : RR, gk h 100 11 K = K := fun K => gk_p (t100 I.1) K
  have y12 : tg h1 197 = 12 := (congrArg Prod.fst (l1.2.2.2.1 197 (by have := I.1.2.2; omega))).trans (t197 I.1)
  have g2 : ∀ K : RR, gk h1 197 12 K = K := fun K => gk_p y12 K
  have r1 := fun K => R.xrw (j := 1) (by decide) (by decide) q q2 K
  have s1 := fun K => R1.xrw (j := 1) (by decide) (by decide) q q2 K
  have r2 := fun K => R.xrw (j := 2) (by decide) (by decide) q q2 K
  have s2 := fun K => R1.xrw (j := 2) (by decide) (by decide) q q2 K
  refine ⟨h2, ?_, I2, l1.trans l2⟩
  simp only [r1, s1, r2, s2, g1, g2, x1, x2, bd_p, eq_self, if_true, f_L_law_1923, lb, w6]
theorem law_26 (n : Nat) (hn : 10000000 ≤ n) (hk : k ≤ 1000) (I : Inv k h) (R : Rw v0 L sc h) (hs : ∀ j, J (sc j)) (q : 0 ≤ i ∧ i + 6 ≤ L) (q2 : L ≤ 384) : ∃ h2, (
      rd h v0 100 (wr (i + 1)) fun r240 =>
      rd h v0 100 (wr (i + 2)) fun r241 =>
      rd h v0 100 (wr (i + 3)) fun r242 =>
      gk h 100 11 <|
      bd (f_X11_scrip n 100 r240 r241 r242 h) fun r243 h243 =>
      rd h243 v0 100 (wr (i + 1)) fun r244 =>
      rd h243 v0 100 (wr (i + 2)) fun r245 =>
      rd h243 v0 100 (wr (i + 3)) fun r246 =>
      gk h243 197 12 <|
      bd (f_X12_scrip n 197 r244 r245 r246 h243) fun r247 h247 =>
      if r243 = r247 then
        f_L_law_1923 n rc v0 100 197 i h247
      else
      ck (isb 0) <|
      some (0, h247)
    ) = rc (i + 6) h2 ∧ Inv (k + 1) h2 ∧ Lo h h2 := by
  have z : 100 ≤ nx h := by have := I.1.2.2; omega
  have w6 : wr (i + 6) = i + 6 := wrk ⟨by omega, by omega⟩
  obtain ⟨r, h1, h2, x1, x2, I2⟩ := sim_scrip n hn I (hs (i + 1)) (hs (i + 2)) (hs (i + 3))
  have l1 := lo_f_X11_scrip h z r h1 x1
  have l2 := lo_f_X12_scrip h1 l1.1 r h2 x2
  have R1 := R.lo l1
  have g1 : ∀ K : RR, gk h 100 11 K = K := fun K => gk_p (t100 I.1) K
  have y12 : tg h1 197 = 12 := (congrArg Prod.fst (l1.2.2.2.1 197 (by have := I.1.2.2; omega))).trans (t197 I.1)
  have g2 : ∀ K : RR, gk h1 197 12 K = K := fun K => gk_p y12 K
  have r1 := fun K => R.xrw (j := 1) (by decide) (by decide) q q2 K
  have s1 := fun K => R1.xrw (j := 1) (by decide) (by decide) q q2 K
  have r2 := fun K => R.xrw (j := 2) (by decide) (by decide) q q2 K
  have s2 := fun K => R1.xrw (j := 2) (by decide) (by decide) q q2 K
  have r3 := fun K => R.xrw (j := 3) (by decide) (by decide) q q2 K
  have s3 := fun K => R1.xrw (j := 3) (by decide) (by decide) q q2 K
  refine ⟨h2, ?_, I2, l1.trans l2⟩
  simp only [r1, s1, r2, s2, r3, s3, g1, g2, x1, x2, bd_p, eq_self, if_true, f_L_law_1923, lb, w6]
theorem law_27 (n : Nat) (hn : 10000000 ≤ n) (hk : k ≤ 1000) (I : Inv k h) (R : Rw v0 L sc h) (hs : ∀ j, J (sc j)) (q : 0 ≤ i ∧ i + 6 ≤ L) (q2 : L ≤ 384) : ∃ h2, (
      rd h v0 100 (wr (i + 1)) fun r251 =>
      rd h v0 100 (wr (i + 2)) fun r252 =>
      gk h 100 11 <|
      bd (f_X11_held n 100 r251 r252 h) fun r253 h253 =>
      rd h253 v0 100 (wr (i + 1)) fun r254 =>
      rd h253 v0 100 (wr (i + 2)) fun r255 =>
      gk h253 197 12 <|
      bd (f_X12_held n 197 r254 r255 h253) fun r256 h256 =>
      if r253 = r256 then
        f_L_law_1923 n rc v0 100 197 i h256
      else
      ck (isb 0) <|
      some (0, h256)
    ) = rc (i + 6) h2 ∧ Inv (k + 1) h2 ∧ Lo h h2 := by
  have z : 100 ≤ nx h := by have := I.1.2.2; omega
  have w6 : wr (i + 6) = i + 6 := wrk ⟨by omega, by omega⟩
  obtain ⟨r, h1, h2, x1, x2, I2⟩ := sim_held n hn I (hs (i + 1)) (hs (i + 2))
  have l1 := lo_f_X11_held h z r h1 x1
  have l2 := lo_f_X12_held h1 l1.1 r h2 x2
  have R1 := R.lo l1
  have g1 : ∀ K : RR, gk h 100 11 K = K := fun K => gk_p (t100 I.1) K
  have y12 : tg h1 197 = 12 := (congrArg Prod.fst (l1.2.2.2.1 197 (by have := I.1.2.2; omega))).trans (t197 I.1)
  have g2 : ∀ K : RR, gk h1 197 12 K = K := fun K => gk_p y12 K
  have r1 := fun K => R.xrw (j := 1) (by decide) (by decide) q q2 K
  have s1 := fun K => R1.xrw (j := 1) (by decide) (by decide) q q2 K
  have r2 := fun K => R.xrw (j := 2) (by decide) (by decide) q q2 K
  have s2 := fun K => R1.xrw (j := 2) (by decide) (by decide) q q2 K
  refine ⟨h2, ?_, I2, l1.trans l2⟩
  simp only [r1, s1, r2, s2, g1, g2, x1, x2, bd_p, eq_self, if_true, f_L_law_1923, lb, w6]
theorem law_28 (n : Nat) (hn : 10000000 ≤ n) (hk : k ≤ 1000) (I : Inv k h) (R : Rw v0 L sc h) (hs : ∀ j, J (sc j)) (q : 0 ≤ i ∧ i + 6 ≤ L) (q2 : L ≤ 384) : ∃ h2, (
      rd h v0 100 (wr (i + 1)) fun r260 =>
      rd h v0 100 (wr (i + 2)) fun r261 =>
      gk h 100 11 <|
      bd (f_X11_purse n 100 r260 r261 h) fun r262 h262 =>
      rd h262 v0 100 (wr (i + 1)) fun r263 =>
      rd h262 v0 100 (wr (i + 2)) fun r264 =>
      gk h262 197 12 <|
      bd (f_X12_purse n 197 r263 r264 h262) fun r265 h265 =>
      if r262 = r265 then
        f_L_law_1923 n rc v0 100 197 i h265
      else
      ck (isb 0) <|
      some (0, h265)
    ) = rc (i + 6) h2 ∧ Inv (k + 1) h2 ∧ Lo h h2 := by
  have z : 100 ≤ nx h := by have := I.1.2.2; omega
  have w6 : wr (i + 6) = i + 6 := wrk ⟨by omega, by omega⟩
  obtain ⟨r, h1, h2, x1, x2, I2⟩ := sim_purse n hn I (hs (i + 1)) (hs (i + 2))
  have l1 := lo_f_X11_purse h z r h1 x1
  have l2 := lo_f_X12_purse h1 l1.1 r h2 x2
  have R1 := R.lo l1
  have g1 : ∀ K : RR, gk h 100 11 K = K := fun K => gk_p (t100 I.1) K
  have y12 : tg h1 197 = 12 := (congrArg Prod.fst (l1.2.2.2.1 197 (by have := I.1.2.2; omega))).trans (t197 I.1)
  have g2 : ∀ K : RR, gk h1 197 12 K = K := fun K => gk_p y12 K
  have r1 := fun K => R.xrw (j := 1) (by decide) (by decide) q q2 K
  have s1 := fun K => R1.xrw (j := 1) (by decide) (by decide) q q2 K
  have r2 := fun K => R.xrw (j := 2) (by decide) (by decide) q q2 K
  have s2 := fun K => R1.xrw (j := 2) (by decide) (by decide) q q2 K
  refine ⟨h2, ?_, I2, l1.trans l2⟩
  simp only [r1, s1, r2, s2, g1, g2, x1, x2, bd_p, eq_self, if_true, f_L_law_1923, lb, w6]
theorem law_29 (n : Nat) (hn : 10000000 ≤ n) (hk : k ≤ 1000) (I : Inv k h) (R : Rw v0 L sc h) (hs : ∀ j, J (sc j)) (q : 0 ≤ i ∧ i + 6 ≤ L) (q2 : L ≤ 384) : ∃ h2, (
      rd h v0 100 (wr (i + 1)) fun r269 =>
      rd h v0 100 (wr (i + 2)) fun r270 =>
      rd h v0 100 (wr (i + 3)) fun r271 =>
      rd h v0 100 (wr (i + 4)) fun r272 =>
      rd h v0 100 (wr (i + 5)) fun r273 =>
      if r273 = 0 then
        f_L_law_1311 n rc v0 100 197 i 100 r269 r270 r271 r272 0 h
      else
      f_L_law_1311 n rc v0 100 197 i 100 r269 r270 r271 r272 1 h
    ) = rc (i + 6) h2 ∧ Inv (k + 1) h2 ∧ Lo h h2 := by
  have z : 100 ≤ nx h := by have := I.1.2.2; omega
  have w6 : wr (i + 6) = i + 6 := wrk ⟨by omega, by omega⟩
  by_cases b : sc (i + 5) = 0
  · obtain ⟨r, h1, h2, x1, x2, I2⟩ := sim_ask n hn I (hs (i + 1)) (hs (i + 2)) (hs (i + 3)) (hs (i + 4)) (yy := 0) (Or.inl rfl)
    have l1 := lo_f_X11_ask h z r h1 x1
    have l2 := lo_f_X12_ask h1 l1.1 r h2 x2
    have R1 := R.lo l1
    have g1 : ∀ K : RR, gk h 100 11 K = K := fun K => gk_p (t100 I.1) K
    have y12 : tg h1 197 = 12 := (congrArg Prod.fst (l1.2.2.2.1 197 (by have := I.1.2.2; omega))).trans (t197 I.1)
    have g2 : ∀ K : RR, gk h1 197 12 K = K := fun K => gk_p y12 K
    have r1 := fun K => R.xrw (j := 1) (by decide) (by decide) q q2 K
    have s1 := fun K => R1.xrw (j := 1) (by decide) (by decide) q q2 K
    have r2 := fun K => R.xrw (j := 2) (by decide) (by decide) q q2 K
    have s2 := fun K => R1.xrw (j := 2) (by decide) (by decide) q q2 K
    have r3 := fun K => R.xrw (j := 3) (by decide) (by decide) q q2 K
    have s3 := fun K => R1.xrw (j := 3) (by decide) (by decide) q q2 K
    have r4 := fun K => R.xrw (j := 4) (by decide) (by decide) q q2 K
    have s4 := fun K => R1.xrw (j := 4) (by decide) (by decide) q q2 K
    have r5 := fun K => R.xrw (j := 5) (by decide) (by decide) q q2 K
    have s5 := fun K => R1.xrw (j := 5) (by decide) (by decide) q q2 K
    refine ⟨h2, ?_, I2, l1.trans l2⟩
    simp only [r1, s1, r2, s2, r3, s3, r4, s4, r5, s5, g1, g2, x1, x2, bd_p, eq_self, if_true, f_L_law_1923, lb, w6, b, f_L_law_1311, f_L_law_1348]
  · obtain ⟨r, h1, h2, x1, x2, I2⟩ := sim_ask n hn I (hs (i + 1)) (hs (i + 2)) (hs (i + 3)) (hs (i + 4)) (yy := 1) (Or.inr rfl)
    have l1 := lo_f_X11_ask h z r h1 x1
    have l2 := lo_f_X12_ask h1 l1.1 r h2 x2
    have R1 := R.lo l1
    have g1 : ∀ K : RR, gk h 100 11 K = K := fun K => gk_p (t100 I.1) K
    have y12 : tg h1 197 = 12 := (congrArg Prod.fst (l1.2.2.2.1 197 (by have := I.1.2.2; omega))).trans (t197 I.1)
    have g2 : ∀ K : RR, gk h1 197 12 K = K := fun K => gk_p y12 K
    have r1 := fun K => R.xrw (j := 1) (by decide) (by decide) q q2 K
    have s1 := fun K => R1.xrw (j := 1) (by decide) (by decide) q q2 K
    have r2 := fun K => R.xrw (j := 2) (by decide) (by decide) q q2 K
    have s2 := fun K => R1.xrw (j := 2) (by decide) (by decide) q q2 K
    have r3 := fun K => R.xrw (j := 3) (by decide) (by decide) q q2 K
    have s3 := fun K => R1.xrw (j := 3) (by decide) (by decide) q q2 K
    have r4 := fun K => R.xrw (j := 4) (by decide) (by decide) q q2 K
    have s4 := fun K => R1.xrw (j := 4) (by decide) (by decide) q q2 K
    have r5 := fun K => R.xrw (j := 5) (by decide) (by decide) q q2 K
    have s5 := fun K => R1.xrw (j := 5) (by decide) (by decide) q q2 K
    refine ⟨h2, ?_, I2, l1.trans l2⟩
    simp only [r1, s1, r2, s2, r3, s3, r4, s4, r5, s5, g1, g2, x1, x2, bd_p, eq_self, if_true, f_L_law_1923, lb, w6, b, if_false, f_L_law_1311, f_L_law_1348]
theorem law_30 (n : Nat) (hn : 10000000 ≤ n) (hk : k ≤ 1000) (I : Inv k h) (R : Rw v0 L sc h) (hs : ∀ j, J (sc j)) (q : 0 ≤ i ∧ i + 6 ≤ L) (q2 : L ≤ 384) : ∃ h2, (
      rd h v0 100 (wr (i + 1)) fun r276 =>
      gk h 100 11 <|
      bd (f_X11_price n 100 r276 h) fun r277 h277 =>
      rd h277 v0 100 (wr (i + 1)) fun r278 =>
      gk h277 197 12 <|
      bd (f_X12_price n 197 r278 h277) fun r279 h279 =>
      if r277 = r279 then
        f_L_law_1923 n rc v0 100 197 i h279
      else
      ck (isb 0) <|
      some (0, h279)
    ) = rc (i + 6) h2 ∧ Inv (k + 1) h2 ∧ Lo h h2 := by
  have z : 100 ≤ nx h := by have := I.1.2.2; omega
  have w6 : wr (i + 6) = i + 6 := wrk ⟨by omega, by omega⟩
  obtain ⟨r, h1, h2, x1, x2, I2⟩ := sim_price n hn hk I (hs (i + 1))
  have l1 := lo_f_X11_price h z r h1 x1
  have l2 := lo_f_X12_price h1 l1.1 r h2 x2
  have R1 := R.lo l1
  have g1 : ∀ K : RR, gk h 100 11 K = K := fun K => gk_p (t100 I.1) K
  have y12 : tg h1 197 = 12 := (congrArg Prod.fst (l1.2.2.2.1 197 (by have := I.1.2.2; omega))).trans (t197 I.1)
  have g2 : ∀ K : RR, gk h1 197 12 K = K := fun K => gk_p y12 K
  have r1 := fun K => R.xrw (j := 1) (by decide) (by decide) q q2 K
  have s1 := fun K => R1.xrw (j := 1) (by decide) (by decide) q q2 K
  refine ⟨h2, ?_, I2, l1.trans l2⟩
  simp only [r1, s1, g1, g2, x1, x2, bd_p, eq_self, if_true, f_L_law_1923, lb, w6]
theorem law_31 (n : Nat) (hn : 10000000 ≤ n) (hk : k ≤ 1000) (I : Inv k h) (R : Rw v0 L sc h) (hs : ∀ j, J (sc j)) (q : 0 ≤ i ∧ i + 6 ≤ L) (q2 : L ≤ 384) : ∃ h2, (
      rd h v0 100 (wr (i + 1)) fun r283 =>
      gk h 100 11 <|
      bd (f_X11_read n 100 r283 h) fun r284 h284 =>
      rd h284 v0 100 (wr (i + 1)) fun r285 =>
      gk h284 197 12 <|
      bd (f_X12_read n 197 r285 h284) fun r286 h286 =>
      if r284 = r286 then
        f_L_law_1923 n rc v0 100 197 i h286
      else
      ck (isb 0) <|
      some (0, h286)
    ) = rc (i + 6) h2 ∧ Inv (k + 1) h2 ∧ Lo h h2 := by
  have z : 100 ≤ nx h := by have := I.1.2.2; omega
  have w6 : wr (i + 6) = i + 6 := wrk ⟨by omega, by omega⟩
  obtain ⟨r, h1, h2, x1, x2, I2⟩ := sim_read n hn I (hs (i + 1))
  have l1 := lo_f_X11_read h z r h1 x1
  have l2 := lo_f_X12_read h1 l1.1 r h2 x2
  have R1 := R.lo l1
  have g1 : ∀ K : RR, gk h 100 11 K = K := fun K => gk_p (t100 I.1) K
  have y12 : tg h1 197 = 12 := (congrArg Prod.fst (l1.2.2.2.1 197 (by have := I.1.2.2; omega))).trans (t197 I.1)
  have g2 : ∀ K : RR, gk h1 197 12 K = K := fun K => gk_p y12 K
  have r1 := fun K => R.xrw (j := 1) (by decide) (by decide) q q2 K
  have s1 := fun K => R1.xrw (j := 1) (by decide) (by decide) q q2 K
  refine ⟨h2, ?_, I2, l1.trans l2⟩
  simp only [r1, s1, g1, g2, x1, x2, bd_p, eq_self, if_true, f_L_law_1923, lb, w6]
theorem law_32 (n : Nat) (hn : 10000000 ≤ n) (hk : k ≤ 1000) (I : Inv k h) (R : Rw v0 L sc h) (hs : ∀ j, J (sc j)) (q : 0 ≤ i ∧ i + 6 ≤ L) (q2 : L ≤ 384) : ∃ h2, (
      rd h v0 100 (wr (i + 1)) fun r290 =>
      rd h v0 100 (wr (i + 2)) fun r291 =>
      gk h 100 11 <|
      bd (f_X11_call n 100 r290 r291 h) fun r292 h292 =>
      rd h292 v0 100 (wr (i + 1)) fun r293 =>
      rd h292 v0 100 (wr (i + 2)) fun r294 =>
      gk h292 197 12 <|
      bd (f_X12_call n 197 r293 r294 h292) fun r295 h295 =>
      if r292 = r295 then
        f_L_law_1923 n rc v0 100 197 i h295
      else
      ck (isb 0) <|
      some (0, h295)
    ) = rc (i + 6) h2 ∧ Inv (k + 1) h2 ∧ Lo h h2 := by
  have z : 100 ≤ nx h := by have := I.1.2.2; omega
  have w6 : wr (i + 6) = i + 6 := wrk ⟨by omega, by omega⟩
  obtain ⟨r, h1, h2, x1, x2, I2⟩ := sim_call n hn hk I (hs (i + 1)) (hs (i + 2))
  have l1 := lo_f_X11_call h z r h1 x1
  have l2 := lo_f_X12_call h1 l1.1 r h2 x2
  have R1 := R.lo l1
  have g1 : ∀ K : RR, gk h 100 11 K = K := fun K => gk_p (t100 I.1) K
  have y12 : tg h1 197 = 12 := (congrArg Prod.fst (l1.2.2.2.1 197 (by have := I.1.2.2; omega))).trans (t197 I.1)
  have g2 : ∀ K : RR, gk h1 197 12 K = K := fun K => gk_p y12 K
  have r1 := fun K => R.xrw (j := 1) (by decide) (by decide) q q2 K
  have s1 := fun K => R1.xrw (j := 1) (by decide) (by decide) q q2 K
  have r2 := fun K => R.xrw (j := 2) (by decide) (by decide) q q2 K
  have s2 := fun K => R1.xrw (j := 2) (by decide) (by decide) q q2 K
  refine ⟨h2, ?_, I2, l1.trans l2⟩
  simp only [r1, s1, r2, s2, g1, g2, x1, x2, bd_p, eq_self, if_true, f_L_law_1923, lb, w6]
theorem law_33 (n : Nat) (hn : 10000000 ≤ n) (hk : k ≤ 1000) (I : Inv k h) (R : Rw v0 L sc h) (hs : ∀ j, J (sc j)) (q : 0 ≤ i ∧ i + 6 ≤ L) (q2 : L ≤ 384) : ∃ h2, (
      rd h v0 100 (wr (i + 1)) fun r299 =>
      rd h v0 100 (wr (i + 2)) fun r300 =>
      rd h v0 100 (wr (i + 3)) fun r301 =>
      gk h 100 11 <|
      bd (f_X11_lend n 100 r299 r300 r301 h) fun r302 h302 =>
      rd h302 v0 100 (wr (i + 1)) fun r303 =>
      rd h302 v0 100 (wr (i + 2)) fun r304 =>
      rd h302 v0 100 (wr (i + 3)) fun r305 =>
      gk h302 197 12 <|
      bd (f_X12_lend n 197 r303 r304 r305 h302) fun r306 h306 =>
      if r302 = r306 then
        f_L_law_1923 n rc v0 100 197 i h306
      else
      ck (isb 0) <|
      some (0, h306)
    ) = rc (i + 6) h2 ∧ Inv (k + 1) h2 ∧ Lo h h2 := by
  have z : 100 ≤ nx h := by have := I.1.2.2; omega
  have w6 : wr (i + 6) = i + 6 := wrk ⟨by omega, by omega⟩
  obtain ⟨r, h1, h2, x1, x2, I2⟩ := sim_lend n hn hk I (hs (i + 1)) (hs (i + 2)) (hs (i + 3))
  have l1 := lo_f_X11_lend h z r h1 x1
  have l2 := lo_f_X12_lend h1 l1.1 r h2 x2
  have R1 := R.lo l1
  have g1 : ∀ K : RR, gk h 100 11 K = K := fun K => gk_p (t100 I.1) K
  have y12 : tg h1 197 = 12 := (congrArg Prod.fst (l1.2.2.2.1 197 (by have := I.1.2.2; omega))).trans (t197 I.1)
  have g2 : ∀ K : RR, gk h1 197 12 K = K := fun K => gk_p y12 K
  have r1 := fun K => R.xrw (j := 1) (by decide) (by decide) q q2 K
  have s1 := fun K => R1.xrw (j := 1) (by decide) (by decide) q q2 K
  have r2 := fun K => R.xrw (j := 2) (by decide) (by decide) q q2 K
  have s2 := fun K => R1.xrw (j := 2) (by decide) (by decide) q q2 K
  have r3 := fun K => R.xrw (j := 3) (by decide) (by decide) q q2 K
  have s3 := fun K => R1.xrw (j := 3) (by decide) (by decide) q q2 K
  refine ⟨h2, ?_, I2, l1.trans l2⟩
  simp only [r1, s1, r2, s2, r3, s3, g1, g2, x1, x2, bd_p, eq_self, if_true, f_L_law_1923, lb, w6]
theorem law_34 (n : Nat) (hn : 10000000 ≤ n) (hk : k ≤ 1000) (I : Inv k h) (R : Rw v0 L sc h) (hs : ∀ j, J (sc j)) (q : 0 ≤ i ∧ i + 6 ≤ L) (q2 : L ≤ 384) : ∃ h2, (
      gk h 100 11 <|
      bd (f_X11_settle n 100 h) fun r310 h310 =>
      gk h310 197 12 <|
      bd (f_X12_settle n 197 h310) fun r311 h311 =>
      if r310 = r311 then
        f_L_law_1923 n rc v0 100 197 i h311
      else
      ck (isb 0) <|
      some (0, h311)
    ) = rc (i + 6) h2 ∧ Inv (k + 1) h2 ∧ Lo h h2 := by
  have z : 100 ≤ nx h := by have := I.1.2.2; omega
  have w6 : wr (i + 6) = i + 6 := wrk ⟨by omega, by omega⟩
  obtain ⟨r, h1, h2, x1, x2, I2⟩ := sim_settle n hn hk I
  have l1 := lo_f_X11_settle h z r h1 x1
  have l2 := lo_f_X12_settle h1 l1.1 r h2 x2
  have R1 := R.lo l1
  have g1 : ∀ K : RR, gk h 100 11 K = K := fun K => gk_p (t100 I.1) K
  have y12 : tg h1 197 = 12 := (congrArg Prod.fst (l1.2.2.2.1 197 (by have := I.1.2.2; omega))).trans (t197 I.1)
  have g2 : ∀ K : RR, gk h1 197 12 K = K := fun K => gk_p y12 K
  refine ⟨h2, ?_, I2, l1.trans l2⟩
  simp only [g1, g2, x1, x2, bd_p, eq_self, if_true, f_L_law_1923, lb, w6]
theorem law_35 (n : Nat) (hn : 10000000 ≤ n) (hk : k ≤ 1000) (I : Inv k h) (R : Rw v0 L sc h) (hs : ∀ j, J (sc j)) (q : 0 ≤ i ∧ i + 6 ≤ L) (q2 : L ≤ 384) : ∃ h2, (
      rd h v0 100 (wr (i + 1)) fun r315 =>
      rd h v0 100 (wr (i + 2)) fun r316 =>
      gk h 100 11 <|
      bd (f_X11_along n 100 r315 r316 h) fun r317 h317 =>
      rd h317 v0 100 (wr (i + 1)) fun r318 =>
      rd h317 v0 100 (wr (i + 2)) fun r319 =>
      gk h317 197 12 <|
      bd (f_X12_along n 197 r318 r319 h317) fun r320 h320 =>
      if r317 = r320 then
        f_L_law_1923 n rc v0 100 197 i h320
      else
      ck (isb 0) <|
      some (0, h320)
    ) = rc (i + 6) h2 ∧ Inv (k + 1) h2 ∧ Lo h h2 := by
  have z : 100 ≤ nx h := by have := I.1.2.2; omega
  have w6 : wr (i + 6) = i + 6 := wrk ⟨by omega, by omega⟩
  obtain ⟨r, h1, h2, x1, x2, I2⟩ := sim_along n hn hk I (hs (i + 1)) (hs (i + 2))
  have l1 := lo_f_X11_along h z r h1 x1
  have l2 := lo_f_X12_along h1 l1.1 r h2 x2
  have R1 := R.lo l1
  have g1 : ∀ K : RR, gk h 100 11 K = K := fun K => gk_p (t100 I.1) K
  have y12 : tg h1 197 = 12 := (congrArg Prod.fst (l1.2.2.2.1 197 (by have := I.1.2.2; omega))).trans (t197 I.1)
  have g2 : ∀ K : RR, gk h1 197 12 K = K := fun K => gk_p y12 K
  have r1 := fun K => R.xrw (j := 1) (by decide) (by decide) q q2 K
  have s1 := fun K => R1.xrw (j := 1) (by decide) (by decide) q q2 K
  have r2 := fun K => R.xrw (j := 2) (by decide) (by decide) q q2 K
  have s2 := fun K => R1.xrw (j := 2) (by decide) (by decide) q q2 K
  refine ⟨h2, ?_, I2, l1.trans l2⟩
  simp only [r1, s1, r2, s2, g1, g2, x1, x2, bd_p, eq_self, if_true, f_L_law_1923, lb, w6]
theorem law_36 (n : Nat) (hn : 10000000 ≤ n) (hk : k ≤ 1000) (I : Inv k h) (R : Rw v0 L sc h) (hs : ∀ j, J (sc j)) (q : 0 ≤ i ∧ i + 6 ≤ L) (q2 : L ≤ 384) : ∃ h2, (
      rd h v0 100 (wr (i + 1)) fun r324 =>
      gk h 100 11 <|
      bd (f_X11_dig n 100 r324 h) fun r325 h325 =>
      rd h325 v0 100 (wr (i + 1)) fun r326 =>
      gk h325 197 12 <|
      bd (f_X12_dig n 197 r326 h325) fun r327 h327 =>
      if r325 = r327 then
        f_L_law_1923 n rc v0 100 197 i h327
      else
      ck (isb 0) <|
      some (0, h327)
    ) = rc (i + 6) h2 ∧ Inv (k + 1) h2 ∧ Lo h h2 := by
  have z : 100 ≤ nx h := by have := I.1.2.2; omega
  have w6 : wr (i + 6) = i + 6 := wrk ⟨by omega, by omega⟩
  obtain ⟨r, h1, h2, x1, x2, I2⟩ := sim_dig n hn hk I (hs (i + 1))
  have l1 := lo_f_X11_dig h z r h1 x1
  have l2 := lo_f_X12_dig h1 l1.1 r h2 x2
  have R1 := R.lo l1
  have g1 : ∀ K : RR, gk h 100 11 K = K := fun K => gk_p (t100 I.1) K
  have y12 : tg h1 197 = 12 := (congrArg Prod.fst (l1.2.2.2.1 197 (by have := I.1.2.2; omega))).trans (t197 I.1)
  have g2 : ∀ K : RR, gk h1 197 12 K = K := fun K => gk_p y12 K
  have r1 := fun K => R.xrw (j := 1) (by decide) (by decide) q q2 K
  have s1 := fun K => R1.xrw (j := 1) (by decide) (by decide) q q2 K
  refine ⟨h2, ?_, I2, l1.trans l2⟩
  simp only [r1, s1, g1, g2, x1, x2, bd_p, eq_self, if_true, f_L_law_1923, lb, w6]
theorem law_37 (n : Nat) (hn : 10000000 ≤ n) (hk : k ≤ 1000) (I : Inv k h) (R : Rw v0 L sc h) (hs : ∀ j, J (sc j)) (q : 0 ≤ i ∧ i + 6 ≤ L) (q2 : L ≤ 384) : ∃ h2, (
      rd h v0 100 (wr (i + 1)) fun r331 =>
      rd h v0 100 (wr (i + 2)) fun r332 =>
      gk h 100 11 <|
      bd (f_X11_last n 100 r331 r332 h) fun r333 h333 =>
      rd h333 v0 100 (wr (i + 1)) fun r334 =>
      rd h333 v0 100 (wr (i + 2)) fun r335 =>
      gk h333 197 12 <|
      bd (f_X12_last n 197 r334 r335 h333) fun r336 h336 =>
      if r333 = r336 then
        f_L_law_1923 n rc v0 100 197 i h336
      else
      ck (isb 0) <|
      some (0, h336)
    ) = rc (i + 6) h2 ∧ Inv (k + 1) h2 ∧ Lo h h2 := by
  have z : 100 ≤ nx h := by have := I.1.2.2; omega
  have w6 : wr (i + 6) = i + 6 := wrk ⟨by omega, by omega⟩
  obtain ⟨r, h1, h2, x1, x2, I2⟩ := sim_last n hn I (hs (i + 1)) (hs (i + 2))
  have l1 := lo_f_X11_last h z r h1 x1
  have l2 := lo_f_X12_last h1 l1.1 r h2 x2
  have R1 := R.lo l1
  have g1 : ∀ K : RR, gk h 100 11 K = K := fun K => gk_p (t100 I.1) K
  have y12 : tg h1 197 = 12 := (congrArg Prod.fst (l1.2.2.2.1 197 (by have := I.1.2.2; omega))).trans (t197 I.1)
  have g2 : ∀ K : RR, gk h1 197 12 K = K := fun K => gk_p y12 K
  have r1 := fun K => R.xrw (j := 1) (by decide) (by decide) q q2 K
  have s1 := fun K => R1.xrw (j := 1) (by decide) (by decide) q q2 K
  have r2 := fun K => R.xrw (j := 2) (by decide) (by decide) q q2 K
  have s2 := fun K => R1.xrw (j := 2) (by decide) (by decide) q q2 K
  refine ⟨h2, ?_, I2, l1.trans l2⟩
  simp only [r1, s1, r2, s2, g1, g2, x1, x2, bd_p, eq_self, if_true, f_L_law_1923, lb, w6]
theorem law_38 (n : Nat) (hn : 10000000 ≤ n) (hk : k ≤ 1000) (I : Inv k h) (R : Rw v0 L sc h) (hs : ∀ j, J (sc j)) (q : 0 ≤ i ∧ i + 6 ≤ L) (q2 : L ≤ 384) : ∃ h2, (
      gk h 100 11 <|
      bd (f_X11_meet n 100 h) fun r340 h340 =>
      gk h340 197 12 <|
      bd (f_X12_meet n 197 h340) fun r341 h341 =>
      if r340 = r341 then
        f_L_law_1923 n rc v0 100 197 i h341
      else
      ck (isb 0) <|
      some (0, h341)
    ) = rc (i + 6) h2 ∧ Inv (k + 1) h2 ∧ Lo h h2 := by
  have z : 100 ≤ nx h := by have := I.1.2.2; omega
  have w6 : wr (i + 6) = i + 6 := wrk ⟨by omega, by omega⟩
  obtain ⟨r, h1, h2, x1, x2, I2⟩ := sim_meet n hn I
  have l1 := lo_f_X11_meet h z r h1 x1
  have l2 := lo_f_X12_meet h1 l1.1 r h2 x2
  have R1 := R.lo l1
  have g1 : ∀ K : RR, gk h 100 11 K = K := fun K => gk_p (t100 I.1) K
  have y12 : tg h1 197 = 12 := (congrArg Prod.fst (l1.2.2.2.1 197 (by have := I.1.2.2; omega))).trans (t197 I.1)
  have g2 : ∀ K : RR, gk h1 197 12 K = K := fun K => gk_p y12 K
  refine ⟨h2, ?_, I2, l1.trans l2⟩
  simp only [g1, g2, x1, x2, bd_p, eq_self, if_true, f_L_law_1923, lb, w6]
theorem law_39 (n : Nat) (hn : 10000000 ≤ n) (hk : k ≤ 1000) (I : Inv k h) (R : Rw v0 L sc h) (hs : ∀ j, J (sc j)) (q : 0 ≤ i ∧ i + 6 ≤ L) (q2 : L ≤ 384) : ∃ h2, (
      rd h v0 100 (wr (i + 1)) fun r345 =>
      gk h 100 11 <|
      bd (f_X11_gauge n 100 r345 h) fun r346 h346 =>
      rd h346 v0 100 (wr (i + 1)) fun r347 =>
      gk h346 197 12 <|
      bd (f_X12_gauge n 197 r347 h346) fun r348 h348 =>
      if r346 = r348 then
        f_L_law_1923 n rc v0 100 197 i h348
      else
      ck (isb 0) <|
      some (0, h348)
    ) = rc (i + 6) h2 ∧ Inv (k + 1) h2 ∧ Lo h h2 := by
  have z : 100 ≤ nx h := by have := I.1.2.2; omega
  have w6 : wr (i + 6) = i + 6 := wrk ⟨by omega, by omega⟩
  obtain ⟨r, h1, h2, x1, x2, I2⟩ := sim_gauge n hn I (hs (i + 1))
  have l1 := lo_f_X11_gauge h z r h1 x1
  have l2 := lo_f_X12_gauge h1 l1.1 r h2 x2
  have R1 := R.lo l1
  have g1 : ∀ K : RR, gk h 100 11 K = K := fun K => gk_p (t100 I.1) K
  have y12 : tg h1 197 = 12 := (congrArg Prod.fst (l1.2.2.2.1 197 (by have := I.1.2.2; omega))).trans (t197 I.1)
  have g2 : ∀ K : RR, gk h1 197 12 K = K := fun K => gk_p y12 K
  have r1 := fun K => R.xrw (j := 1) (by decide) (by decide) q q2 K
  have s1 := fun K => R1.xrw (j := 1) (by decide) (by decide) q q2 K
  refine ⟨h2, ?_, I2, l1.trans l2⟩
  simp only [r1, s1, g1, g2, x1, x2, bd_p, eq_self, if_true, f_L_law_1923, lb, w6]
theorem law_40 (n : Nat) (hn : 10000000 ≤ n) (hk : k ≤ 1000) (I : Inv k h) (R : Rw v0 L sc h) (hs : ∀ j, J (sc j)) (q : 0 ≤ i ∧ i + 6 ≤ L) (q2 : L ≤ 384) : ∃ h2, (
      rd h v0 100 (wr (i + 1)) fun r352 =>
      rd h v0 100 (wr (i + 2)) fun r353 =>
      rd h v0 100 (wr (i + 3)) fun r354 =>
      rd h v0 100 (wr (i + 4)) fun r355 =>
      gk h 100 11 <|
      bd (f_X11_plan n 100 r352 r353 r354 r355 h) fun r356 h356 =>
      rd h356 v0 100 (wr (i + 1)) fun r357 =>
      rd h356 v0 100 (wr (i + 2)) fun r358 =>
      rd h356 v0 100 (wr (i + 3)) fun r359 =>
      rd h356 v0 100 (wr (i + 4)) fun r360 =>
      gk h356 197 12 <|
      bd (f_X12_plan n 197 r357 r358 r359 r360 h356) fun r361 h361 =>
      if r356 = r361 then
        f_L_law_1923 n rc v0 100 197 i h361
      else
      ck (isb 0) <|
      some (0, h361)
    ) = rc (i + 6) h2 ∧ Inv (k + 1) h2 ∧ Lo h h2 := by
  have z : 100 ≤ nx h := by have := I.1.2.2; omega
  have w6 : wr (i + 6) = i + 6 := wrk ⟨by omega, by omega⟩
  obtain ⟨r, h1, h2, x1, x2, I2⟩ := sim_plan n hn I (hs (i + 1)) (hs (i + 2)) (hs (i + 3)) (hs (i + 4))
  have l1 := lo_f_X11_plan h z r h1 x1
  have l2 := lo_f_X12_plan h1 l1.1 r h2 x2
  have R1 := R.lo l1
  have g1 : ∀ K : RR, gk h 100 11 K = K := fun K => gk_p (t100 I.1) K
  have y12 : tg h1 197 = 12 := (congrArg Prod.fst (l1.2.2.2.1 197 (by have := I.1.2.2; omega))).trans (t197 I.1)
  have g2 : ∀ K : RR, gk h1 197 12 K = K := fun K => gk_p y12 K
  have r1 := fun K => R.xrw (j := 1) (by decide) (by decide) q q2 K
  have s1 := fun K => R1.xrw (j := 1) (by decide) (by decide) q q2 K
  have r2 := fun K => R.xrw (j := 2) (by decide) (by decide) q q2 K
  have s2 := fun K => R1.xrw (j := 2) (by decide) (by decide) q q2 K
  have r3 := fun K => R.xrw (j := 3) (by decide) (by decide) q q2 K
  have s3 := fun K => R1.xrw (j := 3) (by decide) (by decide) q q2 K
  have r4 := fun K => R.xrw (j := 4) (by decide) (by decide) q q2 K
  have s4 := fun K => R1.xrw (j := 4) (by decide) (by decide) q q2 K
  refine ⟨h2, ?_, I2, l1.trans l2⟩
  simp only [r1, s1, r2, s2, r3, s3, r4, s4, g1, g2, x1, x2, bd_p, eq_self, if_true, f_L_law_1923, lb, w6]
theorem law_41 (n : Nat) (hn : 10000000 ≤ n) (hk : k ≤ 1000) (I : Inv k h) (R : Rw v0 L sc h) (hs : ∀ j, J (sc j)) (q : 0 ≤ i ∧ i + 6 ≤ L) (q2 : L ≤ 384) : ∃ h2, (
      rd h v0 100 (wr (i + 1)) fun r365 =>
      gk h 100 11 <|
      bd (f_X11_tried n 100 r365 h) fun r366 h366 =>
      rd h366 v0 100 (wr (i + 1)) fun r367 =>
      gk h366 197 12 <|
      bd (f_X12_tried n 197 r367 h366) fun r368 h368 =>
      if r366 = r368 then
        f_L_law_1923 n rc v0 100 197 i h368
      else
      ck (isb 0) <|
      some (0, h368)
    ) = rc (i + 6) h2 ∧ Inv (k + 1) h2 ∧ Lo h h2 := by
  have z : 100 ≤ nx h := by have := I.1.2.2; omega
  have w6 : wr (i + 6) = i + 6 := wrk ⟨by omega, by omega⟩
  obtain ⟨r, h1, h2, x1, x2, I2⟩ := sim_tried n hn hk I (hs (i + 1))
  have l1 := lo_f_X11_tried h z r h1 x1
  have l2 := lo_f_X12_tried h1 l1.1 r h2 x2
  have R1 := R.lo l1
  have g1 : ∀ K : RR, gk h 100 11 K = K := fun K => gk_p (t100 I.1) K
  have y12 : tg h1 197 = 12 := (congrArg Prod.fst (l1.2.2.2.1 197 (by have := I.1.2.2; omega))).trans (t197 I.1)
  have g2 : ∀ K : RR, gk h1 197 12 K = K := fun K => gk_p y12 K
  have r1 := fun K => R.xrw (j := 1) (by decide) (by decide) q q2 K
  have s1 := fun K => R1.xrw (j := 1) (by decide) (by decide) q q2 K
  refine ⟨h2, ?_, I2, l1.trans l2⟩
  simp only [r1, s1, g1, g2, x1, x2, bd_p, eq_self, if_true, f_L_law_1923, lb, w6]
theorem law_42 (n : Nat) (hn : 10000000 ≤ n) (hk : k ≤ 1000) (I : Inv k h) (R : Rw v0 L sc h) (hs : ∀ j, J (sc j)) (q : 0 ≤ i ∧ i + 6 ≤ L) (q2 : L ≤ 384) : ∃ h2, (
      rd h v0 100 (wr (i + 1)) fun r372 =>
      rd h v0 100 (wr (i + 2)) fun r373 =>
      gk h 100 11 <|
      bd (f_X11_known n 100 r372 r373 h) fun r374 h374 =>
      rd h374 v0 100 (wr (i + 1)) fun r375 =>
      rd h374 v0 100 (wr (i + 2)) fun r376 =>
      gk h374 197 12 <|
      bd (f_X12_known n 197 r375 r376 h374) fun r377 h377 =>
      if r374 = r377 then
        f_L_law_1923 n rc v0 100 197 i h377
      else
      ck (isb 0) <|
      some (0, h377)
    ) = rc (i + 6) h2 ∧ Inv (k + 1) h2 ∧ Lo h h2 := by
  have z : 100 ≤ nx h := by have := I.1.2.2; omega
  have w6 : wr (i + 6) = i + 6 := wrk ⟨by omega, by omega⟩
  obtain ⟨r, h1, h2, x1, x2, I2⟩ := sim_known n hn I (hs (i + 1)) (hs (i + 2))
  have l1 := lo_f_X11_known h z r h1 x1
  have l2 := lo_f_X12_known h1 l1.1 r h2 x2
  have R1 := R.lo l1
  have g1 : ∀ K : RR, gk h 100 11 K = K := fun K => gk_p (t100 I.1) K
  have y12 : tg h1 197 = 12 := (congrArg Prod.fst (l1.2.2.2.1 197 (by have := I.1.2.2; omega))).trans (t197 I.1)
  have g2 : ∀ K : RR, gk h1 197 12 K = K := fun K => gk_p y12 K
  have r1 := fun K => R.xrw (j := 1) (by decide) (by decide) q q2 K
  have s1 := fun K => R1.xrw (j := 1) (by decide) (by decide) q q2 K
  have r2 := fun K => R.xrw (j := 2) (by decide) (by decide) q q2 K
  have s2 := fun K => R1.xrw (j := 2) (by decide) (by decide) q q2 K
  refine ⟨h2, ?_, I2, l1.trans l2⟩
  simp only [r1, s1, r2, s2, g1, g2, x1, x2, bd_p, eq_self, if_true, f_L_law_1923, lb, w6]
theorem law_43 (n : Nat) (hn : 10000000 ≤ n) (hk : k ≤ 1000) (I : Inv k h) (R : Rw v0 L sc h) (hs : ∀ j, J (sc j)) (q : 0 ≤ i ∧ i + 6 ≤ L) (q2 : L ≤ 384) : ∃ h2, (
      gk h 100 11 <|
      bd (f_X11_image n 100 h) fun r381 h381 =>
      gk h381 197 12 <|
      bd (f_X12_image n 197 h381) fun r382 h382 =>
      if r381 = r382 then
        f_L_law_1923 n rc v0 100 197 i h382
      else
      ck (isb 0) <|
      some (0, h382)
    ) = rc (i + 6) h2 ∧ Inv (k + 1) h2 ∧ Lo h h2 := by
  have z : 100 ≤ nx h := by have := I.1.2.2; omega
  have w6 : wr (i + 6) = i + 6 := wrk ⟨by omega, by omega⟩
  obtain ⟨r, h1, h2, x1, x2, I2⟩ := sim_image n hn I
  have l1 := lo_f_X11_image h z r h1 x1
  have l2 := lo_f_X12_image h1 l1.1 r h2 x2
  have R1 := R.lo l1
  have g1 : ∀ K : RR, gk h 100 11 K = K := fun K => gk_p (t100 I.1) K
  have y12 : tg h1 197 = 12 := (congrArg Prod.fst (l1.2.2.2.1 197 (by have := I.1.2.2; omega))).trans (t197 I.1)
  have g2 : ∀ K : RR, gk h1 197 12 K = K := fun K => gk_p y12 K
  refine ⟨h2, ?_, I2, l1.trans l2⟩
  simp only [g1, g2, x1, x2, bd_p, eq_self, if_true, f_L_law_1923, lb, w6]
theorem law_44 (n : Nat) (hn : 10000000 ≤ n) (hk : k ≤ 1000) (I : Inv k h) (R : Rw v0 L sc h) (hs : ∀ j, J (sc j)) (q : 0 ≤ i ∧ i + 6 ≤ L) (q2 : L ≤ 384) : ∃ h2, (
      gk h 100 11 <|
      bd (f_X11_undo n 100 h) fun r386 h386 =>
      gk h386 197 12 <|
      bd (f_X12_undo n 197 h386) fun r387 h387 =>
      if r386 = r387 then
        f_L_law_1923 n rc v0 100 197 i h387
      else
      ck (isb 0) <|
      some (0, h387)
    ) = rc (i + 6) h2 ∧ Inv (k + 1) h2 ∧ Lo h h2 := by
  have z : 100 ≤ nx h := by have := I.1.2.2; omega
  have w6 : wr (i + 6) = i + 6 := wrk ⟨by omega, by omega⟩
  obtain ⟨r, h1, h2, x1, x2, I2⟩ := sim_undo n hn I
  have l1 := lo_f_X11_undo h z r h1 x1
  have l2 := lo_f_X12_undo h1 l1.1 r h2 x2
  have R1 := R.lo l1
  have g1 : ∀ K : RR, gk h 100 11 K = K := fun K => gk_p (t100 I.1) K
  have y12 : tg h1 197 = 12 := (congrArg Prod.fst (l1.2.2.2.1 197 (by have := I.1.2.2; omega))).trans (t197 I.1)
  have g2 : ∀ K : RR, gk h1 197 12 K = K := fun K => gk_p y12 K
  refine ⟨h2, ?_, I2, l1.trans l2⟩
  simp only [g1, g2, x1, x2, bd_p, eq_self, if_true, f_L_law_1923, lb, w6]
theorem law_45 (n : Nat) (hn : 10000000 ≤ n) (hk : k ≤ 1000) (I : Inv k h) (R : Rw v0 L sc h) (hs : ∀ j, J (sc j)) (q : 0 ≤ i ∧ i + 6 ≤ L) (q2 : L ≤ 384) : ∃ h2, (
      rd h v0 100 (wr (i + 1)) fun r391 =>
      gk h 100 11 <|
      bd (f_X11_count n 100 r391 h) fun r392 h392 =>
      rd h392 v0 100 (wr (i + 1)) fun r393 =>
      gk h392 197 12 <|
      bd (f_X12_count n 197 r393 h392) fun r394 h394 =>
      if r392 = r394 then
        f_L_law_1923 n rc v0 100 197 i h394
      else
      ck (isb 0) <|
      some (0, h394)
    ) = rc (i + 6) h2 ∧ Inv (k + 1) h2 ∧ Lo h h2 := by
  have z : 100 ≤ nx h := by have := I.1.2.2; omega
  have w6 : wr (i + 6) = i + 6 := wrk ⟨by omega, by omega⟩
  obtain ⟨r, h1, h2, x1, x2, I2⟩ := sim_count n hn I (hs (i + 1))
  have l1 := lo_f_X11_count h z r h1 x1
  have l2 := lo_f_X12_count h1 l1.1 r h2 x2
  have R1 := R.lo l1
  have g1 : ∀ K : RR, gk h 100 11 K = K := fun K => gk_p (t100 I.1) K
  have y12 : tg h1 197 = 12 := (congrArg Prod.fst (l1.2.2.2.1 197 (by have := I.1.2.2; omega))).trans (t197 I.1)
  have g2 : ∀ K : RR, gk h1 197 12 K = K := fun K => gk_p y12 K
  have r1 := fun K => R.xrw (j := 1) (by decide) (by decide) q q2 K
  have s1 := fun K => R1.xrw (j := 1) (by decide) (by decide) q q2 K
  refine ⟨h2, ?_, I2, l1.trans l2⟩
  simp only [r1, s1, g1, g2, x1, x2, bd_p, eq_self, if_true, f_L_law_1923, lb, w6]
theorem law_46 (n : Nat) (hn : 10000000 ≤ n) (hk : k ≤ 1000) (I : Inv k h) (R : Rw v0 L sc h) (hs : ∀ j, J (sc j)) (q : 0 ≤ i ∧ i + 6 ≤ L) (q2 : L ≤ 384) : ∃ h2, (
      rd h v0 100 (wr (i + 1)) fun r398 =>
      rd h v0 100 (wr (i + 2)) fun r399 =>
      rd h v0 100 (wr (i + 3)) fun r400 =>
      gk h 100 11 <|
      bd (f_X11_sheet n 100 r398 r399 r400 h) fun r401 h401 =>
      rd h401 v0 100 (wr (i + 1)) fun r402 =>
      rd h401 v0 100 (wr (i + 2)) fun r403 =>
      rd h401 v0 100 (wr (i + 3)) fun r404 =>
      gk h401 197 12 <|
      bd (f_X12_sheet n 197 r402 r403 r404 h401) fun r405 h405 =>
      if r401 = r405 then
        f_L_law_1923 n rc v0 100 197 i h405
      else
      ck (isb 0) <|
      some (0, h405)
    ) = rc (i + 6) h2 ∧ Inv (k + 1) h2 ∧ Lo h h2 := by
  have z : 100 ≤ nx h := by have := I.1.2.2; omega
  have w6 : wr (i + 6) = i + 6 := wrk ⟨by omega, by omega⟩
  obtain ⟨r, h1, h2, x1, x2, I2⟩ := sim_sheet n hn I (hs (i + 1)) (hs (i + 2)) (hs (i + 3))
  have l1 := lo_f_X11_sheet h z r h1 x1
  have l2 := lo_f_X12_sheet h1 l1.1 r h2 x2
  have R1 := R.lo l1
  have g1 : ∀ K : RR, gk h 100 11 K = K := fun K => gk_p (t100 I.1) K
  have y12 : tg h1 197 = 12 := (congrArg Prod.fst (l1.2.2.2.1 197 (by have := I.1.2.2; omega))).trans (t197 I.1)
  have g2 : ∀ K : RR, gk h1 197 12 K = K := fun K => gk_p y12 K
  have r1 := fun K => R.xrw (j := 1) (by decide) (by decide) q q2 K
  have s1 := fun K => R1.xrw (j := 1) (by decide) (by decide) q q2 K
  have r2 := fun K => R.xrw (j := 2) (by decide) (by decide) q q2 K
  have s2 := fun K => R1.xrw (j := 2) (by decide) (by decide) q q2 K
  have r3 := fun K => R.xrw (j := 3) (by decide) (by decide) q q2 K
  have s3 := fun K => R1.xrw (j := 3) (by decide) (by decide) q q2 K
  refine ⟨h2, ?_, I2, l1.trans l2⟩
  simp only [r1, s1, r2, s2, r3, s3, g1, g2, x1, x2, bd_p, eq_self, if_true, f_L_law_1923, lb, w6]
theorem law_47 (n : Nat) (hn : 10000000 ≤ n) (hk : k ≤ 1000) (I : Inv k h) (R : Rw v0 L sc h) (hs : ∀ j, J (sc j)) (q : 0 ≤ i ∧ i + 6 ≤ L) (q2 : L ≤ 384) : ∃ h2, (
      rd h v0 100 (wr (i + 1)) fun r409 =>
      rd h v0 100 (wr (i + 2)) fun r410 =>
      rd h v0 100 (wr (i + 3)) fun r411 =>
      gk h 100 11 <|
      bd (f_X11_item n 100 r409 r410 r411 h) fun r412 h412 =>
      rd h412 v0 100 (wr (i + 1)) fun r413 =>
      rd h412 v0 100 (wr (i + 2)) fun r414 =>
      rd h412 v0 100 (wr (i + 3)) fun r415 =>
      gk h412 197 12 <|
      bd (f_X12_item n 197 r413 r414 r415 h412) fun r416 h416 =>
      if r412 = r416 then
        f_L_law_1923 n rc v0 100 197 i h416
      else
      ck (isb 0) <|
      some (0, h416)
    ) = rc (i + 6) h2 ∧ Inv (k + 1) h2 ∧ Lo h h2 := by
  have z : 100 ≤ nx h := by have := I.1.2.2; omega
  have w6 : wr (i + 6) = i + 6 := wrk ⟨by omega, by omega⟩
  obtain ⟨r, h1, h2, x1, x2, I2⟩ := sim_item n hn I (hs (i + 1)) (hs (i + 2)) (hs (i + 3))
  have l1 := lo_f_X11_item h z r h1 x1
  have l2 := lo_f_X12_item h1 l1.1 r h2 x2
  have R1 := R.lo l1
  have g1 : ∀ K : RR, gk h 100 11 K = K := fun K => gk_p (t100 I.1) K
  have y12 : tg h1 197 = 12 := (congrArg Prod.fst (l1.2.2.2.1 197 (by have := I.1.2.2; omega))).trans (t197 I.1)
  have g2 : ∀ K : RR, gk h1 197 12 K = K := fun K => gk_p y12 K
  have r1 := fun K => R.xrw (j := 1) (by decide) (by decide) q q2 K
  have s1 := fun K => R1.xrw (j := 1) (by decide) (by decide) q q2 K
  have r2 := fun K => R.xrw (j := 2) (by decide) (by decide) q q2 K
  have s2 := fun K => R1.xrw (j := 2) (by decide) (by decide) q q2 K
  have r3 := fun K => R.xrw (j := 3) (by decide) (by decide) q q2 K
  have s3 := fun K => R1.xrw (j := 3) (by decide) (by decide) q q2 K
  refine ⟨h2, ?_, I2, l1.trans l2⟩
  simp only [r1, s1, r2, s2, r3, s3, g1, g2, x1, x2, bd_p, eq_self, if_true, f_L_law_1923, lb, w6]
theorem law_48 (n : Nat) (hn : 10000000 ≤ n) (hk : k ≤ 1000) (I : Inv k h) (R : Rw v0 L sc h) (hs : ∀ j, J (sc j)) (q : 0 ≤ i ∧ i + 6 ≤ L) (q2 : L ≤ 384) : ∃ h2, (
      rd h v0 100 (wr (i + 1)) fun r420 =>
      rd h v0 100 (wr (i + 2)) fun r421 =>
      rd h v0 100 (wr (i + 3)) fun r422 =>
      rd h v0 100 (wr (i + 4)) fun r423 =>
      rd h v0 100 (wr (i + 5)) fun r424 =>
      gk h 100 11 <|
      bd (f_X11_copy n 100 r420 r421 r422 r423 r424 h) fun r425 h425 =>
      rd h425 v0 100 (wr (i + 1)) fun r426 =>
      rd h425 v0 100 (wr (i + 2)) fun r427 =>
      rd h425 v0 100 (wr (i + 3)) fun r428 =>
      rd h425 v0 100 (wr (i + 4)) fun r429 =>
      rd h425 v0 100 (wr (i + 5)) fun r430 =>
      gk h425 197 12 <|
      bd (f_X12_copy n 197 r426 r427 r428 r429 r430 h425) fun r431 h431 =>
      if r425 = r431 then
        f_L_law_1923 n rc v0 100 197 i h431
      else
      ck (isb 0) <|
      some (0, h431)
    ) = rc (i + 6) h2 ∧ Inv (k + 1) h2 ∧ Lo h h2 := by
  have z : 100 ≤ nx h := by have := I.1.2.2; omega
  have w6 : wr (i + 6) = i + 6 := wrk ⟨by omega, by omega⟩
  obtain ⟨r, h1, h2, x1, x2, I2⟩ := sim_copy n hn I (hs (i + 1)) (hs (i + 2)) (hs (i + 3)) (hs (i + 4)) (hs (i + 5))
  have l1 := lo_f_X11_copy h z r h1 x1
  have l2 := lo_f_X12_copy h1 l1.1 r h2 x2
  have R1 := R.lo l1
  have g1 : ∀ K : RR, gk h 100 11 K = K := fun K => gk_p (t100 I.1) K
  have y12 : tg h1 197 = 12 := (congrArg Prod.fst (l1.2.2.2.1 197 (by have := I.1.2.2; omega))).trans (t197 I.1)
  have g2 : ∀ K : RR, gk h1 197 12 K = K := fun K => gk_p y12 K
  have r1 := fun K => R.xrw (j := 1) (by decide) (by decide) q q2 K
  have s1 := fun K => R1.xrw (j := 1) (by decide) (by decide) q q2 K
  have r2 := fun K => R.xrw (j := 2) (by decide) (by decide) q q2 K
  have s2 := fun K => R1.xrw (j := 2) (by decide) (by decide) q q2 K
  have r3 := fun K => R.xrw (j := 3) (by decide) (by decide) q q2 K
  have s3 := fun K => R1.xrw (j := 3) (by decide) (by decide) q q2 K
  have r4 := fun K => R.xrw (j := 4) (by decide) (by decide) q q2 K
  have s4 := fun K => R1.xrw (j := 4) (by decide) (by decide) q q2 K
  have r5 := fun K => R.xrw (j := 5) (by decide) (by decide) q q2 K
  have s5 := fun K => R1.xrw (j := 5) (by decide) (by decide) q q2 K
  refine ⟨h2, ?_, I2, l1.trans l2⟩
  simp only [r1, s1, r2, s2, r3, s3, r4, s4, r5, s5, g1, g2, x1, x2, bd_p, eq_self, if_true, f_L_law_1923, lb, w6]
/-- one step of the law -/
theorem law_s (n : Nat) (hn : 10000000 ≤ n) (hk : k ≤ 1000) (I : Inv k h) (R : Rw v0 L sc h) (hs : ∀ j, J (sc j)) (q : 0 ≤ i ∧ i + 6 ≤ L) (q2 : L ≤ 384) : ∃ h2, f_L_law_18b n rc v0 100 197 i h = rc (i + 6) h2 ∧ Inv (k + 1) h2 ∧ Lo h h2 := by
  have z : 100 ≤ nx h := by have := I.1.2.2; omega
  have w6 : wr (i + 6) = i + 6 := wrk ⟨by omega, by omega⟩
  have wL : wr (L - 6) = L - 6 := wrk ⟨by omega, by omega⟩
  have aL : ∀ K : Int → RR, al h v0 100 K = K L := fun K => by unfold al; rw [if_pos R.2.1, R.2.2.1]
  have r0 := fun K => R.xrd (i := i) ⟨by omega, by omega⟩ K
  unfold f_L_law_18b
  rw [aL, wL, if_neg (by omega), r0]
  by_cases c0 : ban (sc i) 63 = 0
  · rw [if_pos c0]; exact law_0 n hn hk I R hs q q2
  rw [if_neg c0]
  by_cases c1 : ban (sc i) 63 = 1
  · rw [if_pos c1]; exact law_1 n hn hk I R hs q q2
  rw [if_neg c1]
  by_cases c2 : ban (sc i) 63 = 2
  · rw [if_pos c2]; exact law_2 n hn hk I R hs q q2
  rw [if_neg c2]
  by_cases c3 : ban (sc i) 63 = 3
  · rw [if_pos c3]; exact law_3 n hn hk I R hs q q2
  rw [if_neg c3]
  by_cases c4 : ban (sc i) 63 = 4
  · rw [if_pos c4]; exact law_4 n hn hk I R hs q q2
  rw [if_neg c4]
  by_cases c5 : ban (sc i) 63 = 5
  · rw [if_pos c5]; exact law_5 n hn hk I R hs q q2
  rw [if_neg c5]
  by_cases c6 : ban (sc i) 63 = 6
  · rw [if_pos c6]; exact law_6 n hn hk I R hs q q2
  rw [if_neg c6]
  by_cases c7 : ban (sc i) 63 = 7
  · rw [if_pos c7]; exact law_7 n hn hk I R hs q q2
  rw [if_neg c7]
  by_cases c8 : ban (sc i) 63 = 8
  · rw [if_pos c8]; exact law_8 n hn hk I R hs q q2
  rw [if_neg c8]
  by_cases c9 : ban (sc i) 63 = 9
  · rw [if_pos c9]; exact law_9 n hn hk I R hs q q2
  rw [if_neg c9]
  by_cases c10 : ban (sc i) 63 = 10
  · rw [if_pos c10]; exact law_10 n hn hk I R hs q q2
  rw [if_neg c10]
  by_cases c11 : ban (sc i) 63 = 11
  · rw [if_pos c11]; exact law_11 n hn hk I R hs q q2
  rw [if_neg c11]
  by_cases c12 : ban (sc i) 63 = 12
  · rw [if_pos c12]; exact law_12 n hn hk I R hs q q2
  rw [if_neg c12]
  by_cases c13 : ban (sc i) 63 = 13
  · rw [if_pos c13]; exact law_13 n hn hk I R hs q q2
  rw [if_neg c13]
  by_cases c14 : ban (sc i) 63 = 14
  · rw [if_pos c14]; exact law_14 n hn hk I R hs q q2
  rw [if_neg c14]
  by_cases c15 : ban (sc i) 63 = 15
  · rw [if_pos c15]; exact law_15 n hn hk I R hs q q2
  rw [if_neg c15]
  by_cases c16 : ban (sc i) 63 = 16
  · rw [if_pos c16]; exact law_16 n hn hk I R hs q q2
  rw [if_neg c16]
  by_cases c17 : ban (sc i) 63 = 17
  · rw [if_pos c17]; exact law_17 n hn hk I R hs q q2
  rw [if_neg c17]
  by_cases c18 : ban (sc i) 63 = 18
  · rw [if_pos c18]; exact law_18 n hn hk I R hs q q2
  rw [if_neg c18]
  by_cases c19 : ban (sc i) 63 = 19
  · rw [if_pos c19]; exact law_19 n hn hk I R hs q q2
  rw [if_neg c19]
  by_cases c20 : ban (sc i) 63 = 20
  · rw [if_pos c20]; exact law_20 n hn hk I R hs q q2
  rw [if_neg c20]
  by_cases c21 : ban (sc i) 63 = 21
  · rw [if_pos c21]; exact law_21 n hn hk I R hs q q2
  rw [if_neg c21]
  by_cases c22 : ban (sc i) 63 = 22
  · rw [if_pos c22]; exact law_22 n hn hk I R hs q q2
  rw [if_neg c22]
  by_cases c23 : ban (sc i) 63 = 23
  · rw [if_pos c23]; exact law_23 n hn hk I R hs q q2
  rw [if_neg c23]
  by_cases c24 : ban (sc i) 63 = 24
  · rw [if_pos c24]; exact law_24 n hn hk I R hs q q2
  rw [if_neg c24]
  by_cases c25 : ban (sc i) 63 = 25
  · rw [if_pos c25]; exact law_25 n hn hk I R hs q q2
  rw [if_neg c25]
  by_cases c26 : ban (sc i) 63 = 26
  · rw [if_pos c26]; exact law_26 n hn hk I R hs q q2
  rw [if_neg c26]
  by_cases c27 : ban (sc i) 63 = 27
  · rw [if_pos c27]; exact law_27 n hn hk I R hs q q2
  rw [if_neg c27]
  by_cases c28 : ban (sc i) 63 = 28
  · rw [if_pos c28]; exact law_28 n hn hk I R hs q q2
  rw [if_neg c28]
  by_cases c29 : ban (sc i) 63 = 29
  · rw [if_pos c29]; exact law_29 n hn hk I R hs q q2
  rw [if_neg c29]
  by_cases c30 : ban (sc i) 63 = 30
  · rw [if_pos c30]; exact law_30 n hn hk I R hs q q2
  rw [if_neg c30]
  by_cases c31 : ban (sc i) 63 = 31
  · rw [if_pos c31]; exact law_31 n hn hk I R hs q q2
  rw [if_neg c31]
  by_cases c32 : ban (sc i) 63 = 32
  · rw [if_pos c32]; exact law_32 n hn hk I R hs q q2
  rw [if_neg c32]
  by_cases c33 : ban (sc i) 63 = 33
  · rw [if_pos c33]; exact law_33 n hn hk I R hs q q2
  rw [if_neg c33]
  by_cases c34 : ban (sc i) 63 = 34
  · rw [if_pos c34]; exact law_34 n hn hk I R hs q q2
  rw [if_neg c34]
  by_cases c35 : ban (sc i) 63 = 35
  · rw [if_pos c35]; exact law_35 n hn hk I R hs q q2
  rw [if_neg c35]
  by_cases c36 : ban (sc i) 63 = 36
  · rw [if_pos c36]; exact law_36 n hn hk I R hs q q2
  rw [if_neg c36]
  by_cases c37 : ban (sc i) 63 = 37
  · rw [if_pos c37]; exact law_37 n hn hk I R hs q q2
  rw [if_neg c37]
  by_cases c38 : ban (sc i) 63 = 38
  · rw [if_pos c38]; exact law_38 n hn hk I R hs q q2
  rw [if_neg c38]
  by_cases c39 : ban (sc i) 63 = 39
  · rw [if_pos c39]; exact law_39 n hn hk I R hs q q2
  rw [if_neg c39]
  by_cases c40 : ban (sc i) 63 = 40
  · rw [if_pos c40]; exact law_40 n hn hk I R hs q q2
  rw [if_neg c40]
  by_cases c41 : ban (sc i) 63 = 41
  · rw [if_pos c41]; exact law_41 n hn hk I R hs q q2
  rw [if_neg c41]
  by_cases c42 : ban (sc i) 63 = 42
  · rw [if_pos c42]; exact law_42 n hn hk I R hs q q2
  rw [if_neg c42]
  by_cases c43 : ban (sc i) 63 = 43
  · rw [if_pos c43]; exact law_43 n hn hk I R hs q q2
  rw [if_neg c43]
  by_cases c44 : ban (sc i) 63 = 44
  · rw [if_pos c44]; exact law_44 n hn hk I R hs q q2
  rw [if_neg c44]
  by_cases c45 : ban (sc i) 63 = 45
  · rw [if_pos c45]; exact law_45 n hn hk I R hs q q2
  rw [if_neg c45]
  by_cases c46 : ban (sc i) 63 = 46
  · rw [if_pos c46]; exact law_46 n hn hk I R hs q q2
  rw [if_neg c46]
  by_cases c47 : ban (sc i) 63 = 47
  · rw [if_pos c47]; exact law_47 n hn hk I R hs q q2
  rw [if_neg c47]
  by_cases c48 : ban (sc i) 63 = 48
  · rw [if_pos c48]; exact law_48 n hn hk I R hs q q2
  rw [if_neg c48]
  exact ⟨h, by rw [f_L_law_1923, w6]; rfl, I.st, Lo.refl z⟩
theorem law_l (n : Nat) (hn : 10000000 ≤ n) (hs : ∀ j, J (sc j)) (q0 : 0 ≤ L) (q2 : L ≤ 384) : ∀ (m i : Nat) (h : MM), Inv (i : Int) h → Rw v0 L sc h → 6 * (i : Int) ≤ L → L - 6 * i < 6 * (m : Int) → ∃ h', f_L_law_18 n v0 100 197 m (6 * (i : Int)) h = some (1, h')
  | 0, i, h, I, R, i1, m0 => by omega
  | m + 1, i, h, I, R, i1, m0 => by
    have un : f_L_law_18 n v0 100 197 (m + 1) (6 * (i : Int)) h = f_L_law_18b n (f_L_law_18 n v0 100 197 m) v0 100 197 (6 * (i : Int)) h := rfl
    rw [un]
    by_cases c : 6 * (i : Int) + 6 ≤ L
    · obtain ⟨h2, x1, x2, x3⟩ := law_s (rc := f_L_law_18 n v0 100 197 m) n hn (by omega) I R hs ⟨by omega, c⟩ q2
      rw [x1]
      have ih := law_l n hn hs q0 q2 m (i + 1) h2 (by rw [show ((i + 1 : Nat) : Int) = (i : Int) + 1 by omega]; exact x2) (R.lo x3) (by omega) (by omega)
      rw [show 6 * ((i + 1 : Nat) : Int) = 6 * (i : Int) + 6 by omega] at ih
      exact ih
    · have aL : ∀ K : Int → RR, al h v0 100 K = K L := fun K => by unfold al; rw [if_pos R.2.1, R.2.2.1]
      have wL : wr (L - 6) = L - 6 := wrk ⟨by omega, by omega⟩
      refine ⟨h, ?_⟩
      unfold f_L_law_18b
      rw [aL, wL, if_pos (by omega)]
      rfl
end LAW
