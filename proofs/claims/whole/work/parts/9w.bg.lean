/-! AN ORDER TAKEN: the object, the row -/
section CPO
variable {n : Nat} {H h h' : MM} {s N L o a c d w : Int} {fv : Int → Int}
theorem cpof_b (ts : tg H s = 102) (s0 : 100 ≤ s) (ls : ln H s = N) (q : 0 ≤ L ∧ L ≤ N) (rm1 : nx H + 1 ≤ NM) (rm2 : sl H + N ≤ SM) (hs : s ≠ nx H) (h1 : 100 ≤ nx H) (bb : ∀ i : Int, 0 ≤ i → i < N → -128 ≤ mv H s i ∧ mv H s i ≤ 127) : ∃ H', f_J7_copyOf_9075b n s L H = some (nx H, H') ∧ nx H' = nx H + 1 ∧ sl H' = sl H + L ∧ (∀ x, x ≠ nx H → tg H' x = tg H x ∧ ln H' x = ln H x ∧ ∀ j, mv H' x j = mv H x j) ∧ tg H' (nx H) = 102 ∧ ln H' (nx H) = L ∧ ∀ j : Int, 0 ≤ j → j < L → mv H' (nx H) j = mv H s j := by
  by_cases c : L = N
  · have t1 : tg (cl H s) (nx H) = 102 := by
      show (if nx H = nx H then H.2.1 s else H.2.1 (nx H)).1 = 102
      rw [if_pos rfl]; exact ts
    have l1 : ln (cl H s) (nx H) = L := by
      show (if nx H = nx H then H.2.1 s else H.2.1 (nx H)).2 = L
      rw [if_pos rfl, c]; exact ls
    refine ⟨cl H s, ?_, rfl, ?_, fun x hx => ⟨?_, ?_, fun j => ?_⟩, t1, l1, fun j j0 j1 => ?_⟩
    · unfold f_J7_copyOf_9075b
      rw [al_e ts, ls, if_pos c, cln_e ⟨ts, s0, rm1, by rw [ls]; exact rm2, fun _ i i0 i1 => bb i i0 (by rw [← ls]; exact i1)⟩]
      unfold gk2
      rw [if_pos ⟨t1, h1⟩]
    · show sl H + ln H s = sl H + L
      rw [ls, c]
    · show (if x = nx H then H.2.1 s else H.2.1 x).1 = (H.2.1 x).1
      rw [if_neg hx]
    · show (if x = nx H then H.2.1 s else H.2.1 x).2 = (H.2.1 x).2
      rw [if_neg hx]
    · show (if x = nx H then (if 0 ≤ j ∧ j < (H.2.1 s).2 then H.1 s j else 0) else H.1 x j) = H.1 x j
      rw [if_neg hx]
    · show (if nx H = nx H then (if 0 ≤ j ∧ j < (H.2.1 s).2 then H.1 s j else 0) else H.1 (nx H) j) = H.1 s j
      rw [if_pos rfl, if_pos ⟨j0, by show j < ln H s; omega⟩]
  · have t1 : tg (mn H 102 L) (nx H) = 102 := by rw [tg_mn, if_pos rfl]
    have l1 : ln (mn H 102 L) (nx H) = L := by rw [ln_mn, if_pos rfl]
    have t2 : tg (mn H 102 L) s = 102 := by rw [tg_mn, if_neg hs]; exact ts
    have l2 : ln (mn H 102 L) s = N := by rw [ln_mn, if_neg hs]; exact ls
    have jm : jmin N L = L := by have := jmin_l N L; omega
    have mo : ∀ x j, x ≠ nx H → mv (mn H 102 L) x j = mv H x j := fun x j hx => mv_mn_lt hx
    refine ⟨mc (mn H 102 L) s 0 (nx H) 0 L, ?_, rfl, rfl, fun x hx => ⟨?_, ?_, fun j => ?_⟩, t1, l1, fun j j0 j1 => ?_⟩
    · unfold f_J7_copyOf_9075b
      rw [al_e ts, ls, if_neg c, na_e q.1 rm1 (by omega), al_e t2, l2, jm, ac_e ⟨t2, s0, t1, h1, by omega, by omega, q.1, by rw [l2]; omega, by rw [l1]; omega, fun _ i i0 i1 => by rw [mo _ _ hs]; exact bb _ (by omega) (by omega)⟩]
    · show tg (mn H 102 L) x = _
      rw [tg_mn, if_neg hx]
    · show ln (mn H 102 L) x = _
      rw [ln_mn, if_neg hx]
    · rw [mv_mco hx, mo _ _ hx]
    · rw [mv_mcs ⟨by omega, by omega⟩, mo _ _ hs, show 0 + (j - 0) = j by omega]
theorem cpof_i (ts : tg H s = 100) (s0 : 100 ≤ s) (ls : ln H s = N) (q : 0 ≤ L ∧ L ≤ N) (rm1 : nx H + 1 ≤ NM) (rm2 : sl H + N ≤ SM) (hs : s ≠ nx H) (h1 : 100 ≤ nx H) : ∃ H', f_J7_copyOf_59c91 n s L H = some (nx H, H') ∧ nx H' = nx H + 1 ∧ sl H' = sl H + L ∧ (∀ x, x ≠ nx H → tg H' x = tg H x ∧ ln H' x = ln H x ∧ ∀ j, mv H' x j = mv H x j) ∧ tg H' (nx H) = 100 ∧ ln H' (nx H) = L ∧ ∀ j : Int, 0 ≤ j → j < L → mv H' (nx H) j = mv H s j := by
  by_cases c : L = N
  · have t1 : tg (cl H s) (nx H) = 100 := by
      show (if nx H = nx H then H.2.1 s else H.2.1 (nx H)).1 = 100
      rw [if_pos rfl]; exact ts
    have l1 : ln (cl H s) (nx H) = L := by
      show (if nx H = nx H then H.2.1 s else H.2.1 (nx H)).2 = L
      rw [if_pos rfl, c]; exact ls
    refine ⟨cl H s, ?_, rfl, ?_, fun x hx => ⟨?_, ?_, fun j => ?_⟩, t1, l1, fun j j0 j1 => ?_⟩
    · unfold f_J7_copyOf_59c91
      rw [al_e ts, ls, if_pos c, cln_e ⟨ts, s0, rm1, by rw [ls]; exact rm2, fun y => absurd y (by decide)⟩]
      unfold gk2
      rw [if_pos ⟨t1, h1⟩]
    · show sl H + ln H s = sl H + L
      rw [ls, c]
    · show (if x = nx H then H.2.1 s else H.2.1 x).1 = (H.2.1 x).1
      rw [if_neg hx]
    · show (if x = nx H then H.2.1 s else H.2.1 x).2 = (H.2.1 x).2
      rw [if_neg hx]
    · show (if x = nx H then (if 0 ≤ j ∧ j < (H.2.1 s).2 then H.1 s j else 0) else H.1 x j) = H.1 x j
      rw [if_neg hx]
    · show (if nx H = nx H then (if 0 ≤ j ∧ j < (H.2.1 s).2 then H.1 s j else 0) else H.1 (nx H) j) = H.1 s j
      rw [if_pos rfl, if_pos ⟨j0, by show j < ln H s; omega⟩]
  · have t1 : tg (mn H 100 L) (nx H) = 100 := by rw [tg_mn, if_pos rfl]
    have l1 : ln (mn H 100 L) (nx H) = L := by rw [ln_mn, if_pos rfl]
    have t2 : tg (mn H 100 L) s = 100 := by rw [tg_mn, if_neg hs]; exact ts
    have l2 : ln (mn H 100 L) s = N := by rw [ln_mn, if_neg hs]; exact ls
    have jm : jmin N L = L := by have := jmin_l N L; omega
    have mo : ∀ x j, x ≠ nx H → mv (mn H 100 L) x j = mv H x j := fun x j hx => mv_mn_lt hx
    refine ⟨mc (mn H 100 L) s 0 (nx H) 0 L, ?_, rfl, rfl, fun x hx => ⟨?_, ?_, fun j => ?_⟩, t1, l1, fun j j0 j1 => ?_⟩
    · unfold f_J7_copyOf_59c91
      rw [al_e ts, ls, if_neg c, na_e q.1 rm1 (by omega), al_e t2, l2, jm, ac_e ⟨t2, s0, t1, h1, by omega, by omega, q.1, by rw [l2]; omega, by rw [l1]; omega, fun y => absurd y (by decide)⟩]
    · show tg (mn H 100 L) x = _
      rw [tg_mn, if_neg hx]
    · show ln (mn H 100 L) x = _
      rw [ln_mn, if_neg hx]
    · rw [mv_mco hx, mo _ _ hx]
    · rw [mv_mcs ⟨by omega, by omega⟩, mo _ _ hs, show 0 + (j - 0) = j by omega]
/-- what takeTape leaves -/
def TK (C C1 : MM) (o d L : Int) : Prop := (nx C1 = o + 5 ∧ sl C1 = sl C + 26 + L) ∧ (∀ x, x < o → tg C1 x = tg C x ∧ ln C1 x = ln C x) ∧ (∀ x y, x < o → (x ≠ 101 ∨ y ≠ 7) → mv C1 x y = mv C x y) ∧ mv C1 101 7 = 0 ∧ (tg C1 o = 3 ∧ tg C1 (o + 1) = 100 ∧ ln C1 (o + 1) = 7 ∧ tg C1 (o + 2) = 100 ∧ ln C1 (o + 2) = 7 ∧ tg C1 (o + 3) = 100 ∧ ln C1 (o + 3) = 6 ∧ tg C1 (o + 4) = 102 ∧ ln C1 (o + 4) = L) ∧ (mv C1 o 0 = d ∧ mv C1 o 1 = o + 4 ∧ mv C1 o 2 = o + 1 ∧ mv C1 o 3 = o + 2 ∧ mv C1 o 4 = o + 3) ∧ (∀ w : Int, 0 ≤ w → w < 7 → mv C1 (o + 2) w = -1) ∧ ∀ j : Int, 0 ≤ j → j < L → mv C1 (o + 4) j = mv C 130 j
set_option maxHeartbeats 8000000 in
theorem take_e {C : MM} (hn : 10000000 ≤ n) (S : Sh C) (ho : nx C = o) (e4 : mv C 101 7 = L) (q : 0 ≤ L ∧ L ≤ 140) (rm1 : nx C ≤ 200000) (rm2 : sl C ≤ 7000000) (bb : ∀ i : Int, 0 ≤ i → i < 140 → -128 ≤ mv C 130 i ∧ mv C 130 i ≤ 127) : ∃ C1, f_X10_takeTape n 101 d C = some (o, C1) ∧ TK C C1 o d L := by
  have hz : 212 ≤ o := by rw [← ho]; exact S.2.2
  obtain ⟨K1, h1⟩ : ∃ K, K = mn C 3 6 := ⟨_, rfl⟩
  obtain ⟨K2, h2⟩ : ∃ K, K = mn K1 100 7 := ⟨_, rfl⟩
  obtain ⟨K3, h3⟩ : ∃ K, K = ms K2 o 2 (o + 1) := ⟨_, rfl⟩
  obtain ⟨K4, h4⟩ : ∃ K, K = mn K3 100 7 := ⟨_, rfl⟩
  obtain ⟨K5, h5⟩ : ∃ K, K = ms K4 o 3 (o + 2) := ⟨_, rfl⟩
  obtain ⟨K6, h6⟩ : ∃ K, K = mn K5 100 6 := ⟨_, rfl⟩
  obtain ⟨K7, h7⟩ : ∃ K, K = ms K6 o 4 (o + 3) := ⟨_, rfl⟩
  obtain ⟨K8, h8⟩ : ∃ K, K = ms K7 o 0 d := ⟨_, rfl⟩
  have n1 : nx K1 = o + 1 := by rw [h1, nx_mn, ho]
  have n2 : nx K2 = o + 2 := by rw [h2, nx_mn, n1]; omega
  have n3 : nx K3 = o + 2 := by rw [h3, nx_ms, n2]
  have n4 : nx K4 = o + 3 := by rw [h4, nx_mn, n3]; omega
  have n5 : nx K5 = o + 3 := by rw [h5, nx_ms, n4]
  have n6 : nx K6 = o + 4 := by rw [h6, nx_mn, n5]; omega
  have n8 : nx K8 = o + 4 := by rw [h8, nx_ms, h7, nx_ms, n6]
  have s1 : sl K1 = sl C + 6 := by rw [h1, sl_mn]
  have s2 : sl K2 = sl C + 13 := by rw [h2, sl_mn, s1]; omega
  have s3 : sl K3 = sl C + 13 := by rw [h3, sl_ms, s2]
  have s4 : sl K4 = sl C + 20 := by rw [h4, sl_mn, s3]; omega
  have s5 : sl K5 = sl C + 20 := by rw [h5, sl_ms, s4]
  have s6 : sl K6 = sl C + 26 := by rw [h6, sl_mn, s5]; omega
  have s8 : sl K8 = sl C + 26 := by rw [h8, sl_ms, h7, sl_ms, s6]
  have g1 : ∀ x, tg K1 x = (if x = o then 3 else tg C x) ∧ ln K1 x = (if x = o then 6 else ln C x) := fun x => by rw [h1, tg_mn, ln_mn, ho]; exact ⟨rfl, rfl⟩
  have g2 : ∀ x, tg K2 x = (if x = o + 1 then 100 else tg K1 x) ∧ ln K2 x = (if x = o + 1 then 7 else ln K1 x) := fun x => by rw [h2, tg_mn, ln_mn, n1]; exact ⟨rfl, rfl⟩
  have g4 : ∀ x, tg K4 x = (if x = o + 2 then 100 else tg K2 x) ∧ ln K4 x = (if x = o + 2 then 7 else ln K2 x) := fun x => by rw [h4, tg_mn, ln_mn, n3, h3, tg_ms, ln_ms]; exact ⟨rfl, rfl⟩
  have g6 : ∀ x, tg K6 x = (if x = o + 3 then 100 else tg K4 x) ∧ ln K6 x = (if x = o + 3 then 6 else ln K4 x) := fun x => by rw [h6, tg_mn, ln_mn, n5, h5, tg_ms, ln_ms]; exact ⟨rfl, rfl⟩
  have g8 : ∀ x, tg K8 x = tg K6 x ∧ ln K8 x = ln K6 x := fun x => by rw [h8, tg_ms, ln_ms, h7, tg_ms, ln_ms]; exact ⟨rfl, rfl⟩
  have to1 : tg K1 o = 3 := by rw [(g1 o).1, if_pos rfl]
  have to2 : tg K2 o = 3 := by rw [(g2 o).1, if_neg (by omega)]; exact to1
  have to4 : tg K4 o = 3 := by rw [(g4 o).1, if_neg (by omega)]; exact to2
  have to6 : tg K6 o = 3 := by rw [(g6 o).1, if_neg (by omega)]; exact to4
  have to8 : tg K8 o = 3 := by rw [(g8 o).1]; exact to6
  have ta1 : tg K8 (o + 1) = 100 ∧ ln K8 (o + 1) = 7 := by
    rw [(g8 _).1, (g8 _).2, (g6 _).1, (g6 _).2, if_neg (by omega), if_neg (by omega), (g4 _).1, (g4 _).2, if_neg (by omega), if_neg (by omega), (g2 _).1, (g2 _).2, if_pos rfl, if_pos rfl]
    exact ⟨rfl, rfl⟩
  have ta2 : tg K8 (o + 2) = 100 ∧ ln K8 (o + 2) = 7 := by
    rw [(g8 _).1, (g8 _).2, (g6 _).1, (g6 _).2, if_neg (by omega), if_neg (by omega), (g4 _).1, (g4 _).2, if_pos rfl, if_pos rfl]
    exact ⟨rfl, rfl⟩
  have ta3 : tg K8 (o + 3) = 100 ∧ ln K8 (o + 3) = 6 := by
    rw [(g8 _).1, (g8 _).2, (g6 _).1, (g6 _).2, if_pos rfl, if_pos rfl]
    exact ⟨rfl, rfl⟩
  have told : ∀ x, x < o → tg K8 x = tg C x ∧ ln K8 x = ln C x := fun x hx => by
    rw [(g8 _).1, (g8 _).2, (g6 _).1, (g6 _).2, if_neg (by omega), if_neg (by omega), (g4 _).1, (g4 _).2, if_neg (by omega), if_neg (by omega), (g2 _).1, (g2 _).2, if_neg (by omega), if_neg (by omega), (g1 _).1, (g1 _).2, if_neg (by omega), if_neg (by omega)]
    exact ⟨rfl, rfl⟩
  have m1 : ∀ x y, x ≠ o → mv K1 x y = mv C x y := fun x y hx => by rw [h1]; exact mv_mn_lt (by rw [ho]; exact hx)
  have m2 : ∀ x y, x ≠ o + 1 → mv K2 x y = mv K1 x y := fun x y hx => by rw [h2]; exact mv_mn_lt (by rw [n1]; exact hx)
  have m4 : ∀ x y, x ≠ o + 2 → mv K4 x y = mv K3 x y := fun x y hx => by rw [h4]; exact mv_mn_lt (by rw [n3]; exact hx)
  have m6 : ∀ x y, x ≠ o + 3 → mv K6 x y = mv K5 x y := fun x y hx => by rw [h6]; exact mv_mn_lt (by rw [n5]; exact hx)
  have mold : ∀ x y, x < o → mv K8 x y = mv C x y := fun x y hx => by
    rw [h8, mv_o (by omega), h7, mv_o (by omega), m6 _ _ (by omega), h5, mv_o (by omega), m4 _ _ (by omega), h3, mv_o (by omega), m2 _ _ (by omega), m1 _ _ (by omega)]
  have v0 : mv K8 o 0 = d := by rw [h8, mv_s rfl]
  have v2 : mv K8 o 2 = o + 1 := by rw [h8, mv_o (by omega), h7, mv_o (by omega), m6 _ _ (by omega), h5, mv_o (by omega), m4 _ _ (by omega), h3, mv_s rfl]
  have v3 : mv K8 o 3 = o + 2 := by rw [h8, mv_o (by omega), h7, mv_o (by omega), m6 _ _ (by omega), h5, mv_s rfl]
  have v4 : mv K8 o 4 = o + 3 := by rw [h8, mv_o (by omega), h7, mv_s rfl]
  have hNM : NM = 600100 := rfl
  have hSM : SM = 7302250 := rfl
  have t130 : tg K8 130 = 102 ∧ ln K8 130 = 140 := by
    rw [(told 130 (by omega)).1, (told 130 (by omega)).2]; exact ⟨t130 S, l130 S⟩
  obtain ⟨K9, x1, x2, x3, x4, x5, x6, x7⟩ := cpof_b (n := n) (H := K8) (s := 130) (N := 140) (L := L) t130.1 (by omega) t130.2 q (by omega) (by omega) (by omega) (by omega) (fun i i0 i1 => by rw [mold _ _ (by omega)]; exact bb i i0 i1)
  rw [n8] at x1 x2 x4 x5 x6 x7
  obtain ⟨K10, h10⟩ : ∃ K, K = ms K9 o 1 (o + 4) := ⟨_, rfl⟩
  have f10 : tg K10 (o + 2) = 100 := by rw [h10, tg_ms, (x4 _ (by omega)).1]; exact ta2.1
  have l10 : ln K10 (o + 2) = 7 := by rw [h10, ln_ms, (x4 _ (by omega)).2.1]; exact ta2.2
  have fe := fill_e (n := n) (v := -1) (h := K10) (L := 7) hn f10 (by omega) l10 (by omega) (by omega)
  obtain ⟨K11, h11⟩ : ∃ K, K = ma K10 (o + 2) (fun j => if 0 ≤ j ∧ j < 7 then -1 else mv K10 (o + 2) j) := ⟨_, rfl⟩
  rw [← h11] at fe
  have S1 : Sh K1 := by rw [h1]; exact Sh_mn S
  have t9 : ∀ x, x < o + 4 → tg K9 x = tg K8 x ∧ ln K9 x = ln K8 x ∧ ∀ j, mv K9 x j = mv K8 x j := fun x hx => x4 x (by omega)
  have to9 : tg K9 o = 3 := by rw [(t9 o (by omega)).1]; exact to8
  have to10 : tg K10 o = 3 := by rw [h10, tg_ms]; exact to9
  have t101 : tg K11 101 = 10 := by rw [h11, tg_ma, h10, tg_ms, (t9 101 (by omega)).1, (told 101 (by omega)).1]; exact t101 S
  have c1 : ∀ kk, nw C 3 6 kk = kk o K1 := fun kk => by rw [nw_e (by omega) (by omega), ho, h1]
  have c2 : ∀ kk : Int → RR, gf K1 101 10 5 kk = kk 130 := fun kk => by rw [g101_5 S1]
  have c3 : ∀ kk : Int → RR, gf K1 101 10 7 kk = kk L := fun kk => by rw [g101_7 S1, m1 _ _ (by omega), e4]
  have c4 : ∀ kk : RR, nz o kk = kk := fun kk => nz_p hz
  have c5 : ∀ kk, na K1 100 7 kk = kk (o + 1) K2 := fun kk => by rw [na_e (by omega) (by omega) (by omega), n1, h2]
  have c6 : ∀ kk, pf K2 o 3 2 (o + 1) kk = kk K3 := fun kk => by rw [pf_e to2 (by omega), h3]
  have c7 : ∀ kk, na K3 100 7 kk = kk (o + 2) K4 := fun kk => by rw [na_e (by omega) (by omega) (by omega), n3, h4]
  have c8 : ∀ kk, pf K4 o 3 3 (o + 2) kk = kk K5 := fun kk => by rw [pf_e to4 (by omega), h5]
  have c9 : ∀ kk, na K5 100 6 kk = kk (o + 3) K6 := fun kk => by rw [na_e (by omega) (by omega) (by omega), n5, h6]
  have c10 : ∀ kk, pf K6 o 3 4 (o + 3) kk = kk K7 := fun kk => by rw [pf_e to6 (by omega), h7]
  have c11 : ∀ kk, pf K7 o 3 0 d kk = kk K8 := fun kk => by rw [pf_e (by rw [h7, tg_ms]; exact to6) (by omega), h8]
  have c12 : ∀ kk, pf K9 o 3 1 (o + 4) kk = kk K10 := fun kk => by rw [pf_e to9 (by omega), h10]
  have c13 : ∀ kk : Int → RR, gf K10 o 3 3 kk = kk (o + 2) := fun kk => by rw [gf_e to10, h10, mv_o (by omega), (t9 o (by omega)).2.2, v3]
  have c14 : ∀ kk, pf K11 101 10 7 0 kk = kk (ms K11 101 7 0) := fun kk => by rw [pf_e t101 (by omega)]
  refine ⟨ms K11 101 7 0, ?_, ⟨?_, ?_⟩, fun x hx => ?_, fun x y hx hxy => ?_, mv_s rfl, ⟨?_, ?_, ?_, ?_, ?_, ?_, ?_, ?_, ?_⟩, ⟨?_, ?_, ?_, ?_, ?_⟩, fun w w0 w1 => ?_, fun j j0 j1 => ?_⟩
  · simp only [f_X10_takeTape, f_X3_init, c1, c2, c3, c4, c5, c6, c7, c8, c9, c10, c11, x1, bd_k, c12, c13, fe, c14]
  · rw [nx_ms, h11, nx_ma, h10, nx_ms, x2]; omega
  · rw [sl_ms, h11, sl_ma, h10, sl_ms, x3, s8]
  · rw [tg_ms, ln_ms, h11, tg_ma, ln_ma, h10, tg_ms, ln_ms, (t9 x (by omega)).1, (t9 x (by omega)).2.1]; exact told x hx
  · rw [mv_o (by omega), h11, mv_ma_ne (by omega), h10, mv_o (by omega), (t9 x (by omega)).2.2, mold x y hx]
  · rw [tg_ms, h11, tg_ma]; exact to10
  · rw [tg_ms, h11, tg_ma, h10, tg_ms, (t9 _ (by omega)).1]; exact ta1.1
  · rw [ln_ms, h11, ln_ma, h10, ln_ms, (t9 _ (by omega)).2.1]; exact ta1.2
  · rw [tg_ms, h11, tg_ma]; exact f10
  · rw [ln_ms, h11, ln_ma]; exact l10
  · rw [tg_ms, h11, tg_ma, h10, tg_ms, (t9 _ (by omega)).1]; exact ta3.1
  · rw [ln_ms, h11, ln_ma, h10, ln_ms, (t9 _ (by omega)).2.1]; exact ta3.2
  · rw [tg_ms, h11, tg_ma, h10, tg_ms]; exact x5
  · rw [ln_ms, h11, ln_ma, h10, ln_ms]; exact x6
  · rw [mv_o (by omega), h11, mv_ma_ne (by omega), h10, mv_o (by omega), (t9 _ (by omega)).2.2]; exact v0
  · rw [mv_o (by omega), h11, mv_ma_ne (by omega), h10, mv_s rfl]
  · rw [mv_o (by omega), h11, mv_ma_ne (by omega), h10, mv_o (by omega), (t9 _ (by omega)).2.2]; exact v2
  · rw [mv_o (by omega), h11, mv_ma_ne (by omega), h10, mv_o (by omega), (t9 _ (by omega)).2.2]; exact v3
  · rw [mv_o (by omega), h11, mv_ma_ne (by omega), h10, mv_o (by omega), (t9 _ (by omega)).2.2]; exact v4
  · rw [mv_o (by omega), h11, mv_ma_eq, if_pos ⟨w0, w1⟩]
  · rw [mv_o (by omega), h11, mv_ma_ne (by omega), h10, mv_o (by omega), x7 j j0 j1, mold _ _ (by omega)]
end CPO
