/-! THE PURE SIDE: the shape of the fixed cells (100 .. 211 are made by the two constructors, by no other call) -/
def tL : List Int := [11, 10, 1, 100, 100, 100, 100, 100, 5, 105, 101, 100, 100, 100, 100, 8, 100, 100, 100, 100, 100, 100, 100, 100, 6, 100, 100, 100, 100, 106, 102, 104, 9, 100, 9, 100, 9, 100, 9, 100, 10, 1, 100, 100, 100, 100, 100, 5, 105, 101, 100, 100, 100, 100, 8, 100, 100, 100, 100, 100, 100, 100, 100, 6, 100, 100, 100, 100, 106, 102, 104, 9, 100, 9, 100, 9, 100, 9, 100, 107, 7, 100, 100, 103, 0, 100, 100, 100, 100, 100, 100, 2, 100, 100, 100, 100, 100, 12, 100, 100, 100, 100, 100, 100, 100, 101, 101, 101, 101, 101, 100, 100]
def lL : List Int := [7, 11, 6, 80, 80, 80, 6, 6, 10, 60, 60, 60, 60, 60, 60, 9, 20, 108, 12, 40, 40, 40, 40, 40, 5, 7, 7, 7, 128, 4, 140, 9, 3, 40, 3, 40, 3, 40, 3, 40, 11, 6, 80, 80, 80, 6, 6, 10, 60, 60, 60, 60, 60, 60, 9, 20, 108, 12, 40, 40, 40, 40, 40, 5, 7, 7, 7, 128, 4, 140, 9, 3, 40, 3, 40, 3, 40, 3, 40, 1000, 9, 80, 80, 80, 7, 96, 96, 96, 96, 20, 20, 7, 10, 10, 10, 10, 10, 21, 83840, 83840, 6, 80, 80, 7, 7, 400, 400, 400, 20, 20, 60, 40]
def rL : List (Int × Int × Int) := [(100, 0, 101), (100, 1, 140), (100, 3, 179), (100, 4, 180), (100, 5, 184), (100, 6, 191), (101, 0, 102), (101, 1, 108), (101, 2, 115), (101, 3, 124), (101, 4, 129), (101, 5, 130), (101, 6, 131), (102, 0, 103), (102, 1, 104), (102, 2, 105), (102, 3, 106), (102, 4, 107), (108, 0, 109), (108, 1, 110), (108, 2, 111), (108, 3, 112), (108, 4, 113), (108, 5, 114), (115, 0, 116), (115, 1, 117), (115, 2, 118), (115, 3, 119), (115, 4, 120), (115, 5, 121), (115, 6, 122), (115, 7, 123), (124, 0, 125), (124, 1, 126), (124, 3, 127), (124, 4, 128), (129, 0, 132), (129, 1, 134), (129, 2, 136), (129, 3, 138), (132, 0, 133), (134, 0, 135), (136, 0, 137), (138, 0, 139), (140, 0, 141), (140, 1, 147), (140, 2, 154), (140, 3, 163), (140, 4, 168), (140, 5, 169), (140, 6, 170), (141, 0, 142), (141, 1, 143), (141, 2, 144), (141, 3, 145), (141, 4, 146), (147, 0, 148), (147, 1, 149), (147, 2, 150), (147, 3, 151), (147, 4, 152), (147, 5, 153), (154, 0, 155), (154, 1, 156), (154, 2, 157), (154, 3, 158), (154, 4, 159), (154, 5, 160), (154, 6, 161), (154, 7, 162), (163, 0, 164), (163, 1, 165), (163, 3, 166), (163, 4, 167), (168, 0, 171), (168, 1, 173), (168, 2, 175), (168, 3, 177), (171, 0, 172), (173, 0, 174), (175, 0, 176), (177, 0, 178), (180, 0, 181), (180, 3, 182), (180, 4, 183), (184, 0, 185), (184, 1, 186), (184, 2, 187), (184, 3, 188), (184, 4, 189), (184, 5, 190), (191, 0, 192), (191, 1, 193), (191, 2, 194), (191, 3, 195), (191, 4, 196), (197, 1, 198), (197, 2, 199), (197, 8, 200), (197, 9, 201), (197, 10, 202), (197, 11, 203), (197, 12, 204), (197, 14, 205), (197, 15, 206), (197, 16, 207), (197, 17, 208), (197, 18, 209), (197, 19, 210), (197, 20, 211)]
def ma (h : MM) (a : Int) (f : Int → Int) : MM := (fun b j => if b = a then f j else h.1 b j, h.2)
theorem tg_ma (h : MM) (a : Int) (f : Int → Int) (b : Int) : tg (ma h a f) b = tg h b := rfl
theorem ln_ma (h : MM) (a : Int) (f : Int → Int) (b : Int) : ln (ma h a f) b = ln h b := rfl
theorem nx_ma (h : MM) (a : Int) (f : Int → Int) : nx (ma h a f) = nx h := rfl
theorem sl_ma (h : MM) (a : Int) (f : Int → Int) : sl (ma h a f) = sl h := rfl
theorem mv_ma (h : MM) (a : Int) (f : Int → Int) (b j : Int) : mv (ma h a f) b j = if b = a then f j else mv h b j := rfl
theorem mv_ma_eq (h : MM) (a : Int) (f : Int → Int) (j : Int) : mv (ma h a f) a j = f j := by rw [mv_ma, if_pos rfl]
theorem mv_ma_ne {h : MM} {a : Int} {f : Int → Int} {b : Int} (hb : b ≠ a) (j : Int) : mv (ma h a f) b j = mv h b j := by rw [mv_ma, if_neg hb]
theorem MM_ext {h h' : MM} (q : ∀ b j, mv h b j = mv h' b j) (q2 : h.2 = h'.2) : h = h' := Prod.ext (funext fun b => funext fun j => q b j) q2
theorem ms_is_ma (h : MM) (a i v : Int) : ms h a i v = ma h a (fun j => if j = i then v else mv h a j) := by
  refine MM_ext (fun b j => ?_) rfl
  rw [mv_ms, mv_ma]
  by_cases hb : b = a
  · subst hb
    by_cases hj : j = i
    · rw [if_pos ⟨rfl, hj⟩, if_pos rfl]; exact (if_pos hj).symm
    · rw [if_neg (fun q => hj q.2), if_pos rfl]; exact (if_neg hj).symm
  · rw [if_neg (fun q => hb q.1), if_neg hb]
theorem ma_id (h : MM) (a : Int) : ma h a (mv h a) = h := by
  refine MM_ext (fun b j => ?_) rfl
  rw [mv_ma]
  by_cases hb : b = a
  · subst hb; exact if_pos rfl
  · exact if_neg hb
theorem ma_ma (h : MM) (a : Int) (f f' : Int → Int) : ma (ma h a f) a f' = ma h a f' := by
  refine MM_ext (fun b j => ?_) rfl
  rw [mv_ma, mv_ma, mv_ma]
  by_cases hb : b = a
  · rw [if_pos hb, if_pos hb]
  · rw [if_neg hb, if_neg hb, if_neg hb]
theorem ma_cm (h : MM) {a b : Int} (f f' : Int → Int) (q : a ≠ b) : ma (ma h a f) b f' = ma (ma h b f') a f := by
  refine MM_ext (fun c j => ?_) rfl
  rw [mv_ma, mv_ma, mv_ma, mv_ma]
  by_cases hb : c = b
  · have : c ≠ a := fun e => q (e.symm.trans hb)
    rw [if_pos hb, if_neg this, if_pos hb]
  · by_cases ha : c = a
    · rw [if_neg hb, if_pos ha, if_pos ha]
    · rw [if_neg hb, if_neg ha, if_neg ha, if_neg hb]
theorem ms_ma_eq (h : MM) (a : Int) (f : Int → Int) (i v : Int) : ms (ma h a f) a i v = ma h a (fun j => if j = i then v else f j) := by
  rw [ms_is_ma, ma_ma]; congr 1; funext j; rw [mv_ma_eq]
theorem mv_o {h : MM} {a i v b j : Int} (q : b ≠ a ∨ j ≠ i) : mv (ms h a i v) b j = mv h b j := by
  rw [mv_ms, if_neg (fun e => q.elim (fun r => r e.1) (fun r => r e.2))]
theorem mv_s {h : MM} {a i v j : Int} (q : j = i) : mv (ms h a i v) a j = v := by rw [mv_ms, if_pos ⟨rfl, q⟩]
def Sh (h : MM) : Prop := (∀ k : Nat, k < 112 → (tg h (100 + (k : Int)), ln h (100 + (k : Int))) = (tL.getD k 0, lL.getD k 0)) ∧ (∀ p ∈ rL, mv h p.1 p.2.1 = p.2.2) ∧ 212 ≤ nx h
theorem Sh.t {h : MM} (S : Sh h) {a : Int} (k : Nat) {t n : Int} (hk : k < 112) (ha : 100 + (k : Int) = a) (e : (tL.getD k 0, lL.getD k 0) = (t, n)) : tg h a = t ∧ ln h a = n := by
  have q := S.1 k hk
  rw [ha, e] at q
  exact ⟨congrArg Prod.fst q, congrArg Prod.snd q⟩
theorem Sh.r {h : MM} (S : Sh h) {a i r : Int} (q : (a, i, r) ∈ rL) : mv h a i = r := S.2.1 _ q
theorem Sh_ms {h : MM} {a i v : Int} (q : (rL.all fun p => (p.1 != a) || (p.2.1 != i)) = true) : Sh (ms h a i v) ↔ Sh h := by
  have e : ∀ p ∈ rL, mv (ms h a i v) p.1 p.2.1 = mv h p.1 p.2.1 := by
    intro p hp
    have := List.all_eq_true.mp q p hp
    refine mv_o ?_
    simpa using this
  constructor
  · rintro ⟨s1, s2, s3⟩
    exact ⟨s1, fun p hp => by rw [← e p hp]; exact s2 p hp, s3⟩
  · rintro ⟨s1, s2, s3⟩
    exact ⟨s1, fun p hp => by rw [e p hp]; exact s2 p hp, s3⟩
theorem rL_lt : ∀ p ∈ rL, p.1 < 212 := by decide
theorem Sh_msd {h : MM} {a i v : Int} (q : 212 ≤ a) : Sh (ms h a i v) ↔ Sh h := by
  refine Sh_ms ?_
  rw [List.all_eq_true]
  intro p hp
  have := rL_lt p hp
  have : p.1 ≠ a := by omega
  simp [this]
theorem Sh_ma {h : MM} {a : Int} {f : Int → Int} (q : (rL.all fun p => p.1 != a) = true) : Sh (ma h a f) ↔ Sh h := by
  have e : ∀ p ∈ rL, mv (ma h a f) p.1 p.2.1 = mv h p.1 p.2.1 := by
    intro p hp
    have := List.all_eq_true.mp q p hp
    refine mv_ma_ne ?_ _
    simpa using this
  constructor
  · rintro ⟨s1, s2, s3⟩
    exact ⟨s1, fun p hp => by rw [← e p hp]; exact s2 p hp, s3⟩
  · rintro ⟨s1, s2, s3⟩
    exact ⟨s1, fun p hp => by rw [e p hp]; exact s2 p hp, s3⟩
theorem Sh_mad {h : MM} {a : Int} {f : Int → Int} (q : 212 ≤ a) : Sh (ma h a f) ↔ Sh h := by
  refine Sh_ma ?_
  rw [List.all_eq_true]
  intro p hp
  have := rL_lt p hp
  have : p.1 ≠ a := by omega
  simp [this]
theorem Sh_mn {h : MM} {t n : Int} (S : Sh h) : Sh (mn h t n) := by
  have z := S.2.2
  refine ⟨fun k hk => ?_, fun p hp => ?_, by rw [nx_mn]; omega⟩
  · rw [tg_mn, ln_mn, if_neg (by omega), if_neg (by omega)]; exact S.1 k hk
  · have := rL_lt p hp
    rw [mv_mn, if_neg (by omega)]; exact S.2.1 p hp
theorem gf_e {h : MM} {a t j : Int} {k : Int → RR} (q : tg h a = t) : gf h a t j k = k (mv h a j) := if_pos q
theorem pf_e {h : MM} {a t j v : Int} {k : MM → RR} (q : tg h a = t) (q2 : 100 ≤ a) : pf h a t j v k = k (ms h a j v) := if_pos ⟨q, q2⟩
theorem rd_e {h : MM} {a t i : Int} {k : Int → RR} (q : tg h a = t) (q1 : 0 ≤ i) (q2 : i < ln h a) : rd h a t i k = k (mv h a i) := if_pos ⟨q, q1, q2⟩
theorem wt_e {h : MM} {a t i v : Int} {k : MM → RR} (q : tg h a = t) (q0 : 100 ≤ a) (q1 : 0 ≤ i) (q2 : i < ln h a) : wt h a t i v k = k (ms h a i v) := if_pos ⟨q, q0, q1, q2⟩
theorem al_e {h : MM} {a t : Int} {k : Int → RR} (q : tg h a = t) : al h a t k = k (ln h a) := if_pos q
theorem gk_e {h : MM} {a t : Int} {k : RR} (q : tg h a = t) : gk h a t k = k := if_pos q
theorem gk2_e {h : MM} {a t : Int} {k : RR} (q : tg h a = t) (q2 : 100 ≤ a) : gk2 h a t k = k := if_pos ⟨q, q2⟩
theorem nz_e {z : Int} {k : RR} (q : z ≠ 0) : nz z k = k := if_neg q
theorem dz_e {z : Int} {k : RR} (q : z ≠ 0) : dz z k = k := if_neg q
theorem nw_e {h : MM} {t n : Int} {k : Int → MM → RR} (q : nx h + 1 ≤ NM) (q2 : sl h + n ≤ SM) : nw h t n k = k (nx h) (mn h t n) := if_pos ⟨q, q2⟩
theorem na_e {h : MM} {t n : Int} {k : Int → MM → RR} (q0 : 0 ≤ n) (q : nx h + 1 ≤ NM) (q2 : sl h + n ≤ SM) : na h t n k = k (nx h) (mn h t n) := if_pos ⟨q0, q, q2⟩
theorem ck_t {k : RR} : ck true k = k := rfl
theorem ck_e {b : Bool} {k : RR} (q : b = true) : ck b k = k := if_pos q
theorem bd_e {v : Int} {h : MM} {k : Int → MM → RR} : bd (some (v, h)) k = k v h := rfl
theorem lb_e {v : Int} {k : Int → RR} : lb v k = k v := rfl
theorem isb_0 : isb 0 = true := rfl
theorem isb_1 : isb 1 = true := rfl
section SHAPE
variable {h : MM} {i v : Int} {f : Int → Int} {k : Int → RR} {k0 : RR} {km : MM → RR}
theorem tl100 (S : Sh h) : tg h 100 = 11 ∧ ln h 100 = 7 := S.t 0 (by decide) rfl rfl
theorem t100 (S : Sh h) : tg h 100 = 11 := (tl100 S).1
theorem gk100 (S : Sh h) : gk h 100 11 k0 = k0 := gk_e (t100 S)
theorem r100_0 (S : Sh h) : mv h 100 0 = 101 := S.r (by decide)
theorem g100_0 (S : Sh h) : gf h 100 11 0 k = k 101 := by rw [gf_e (t100 S), r100_0 S]
theorem r100_1 (S : Sh h) : mv h 100 1 = 140 := S.r (by decide)
theorem g100_1 (S : Sh h) : gf h 100 11 1 k = k 140 := by rw [gf_e (t100 S), r100_1 S]
theorem g100_2 (S : Sh h) : gf h 100 11 2 k = k (mv h 100 2) := gf_e (t100 S)
theorem p100_2 (S : Sh h) : pf h 100 11 2 v km = km (ms h 100 2 v) := pf_e (t100 S) (by decide)
theorem S100_2 : Sh (ms h 100 2 v) ↔ Sh h := Sh_ms rfl
theorem r100_3 (S : Sh h) : mv h 100 3 = 179 := S.r (by decide)
theorem g100_3 (S : Sh h) : gf h 100 11 3 k = k 179 := by rw [gf_e (t100 S), r100_3 S]
theorem r100_4 (S : Sh h) : mv h 100 4 = 180 := S.r (by decide)
theorem g100_4 (S : Sh h) : gf h 100 11 4 k = k 180 := by rw [gf_e (t100 S), r100_4 S]
theorem r100_5 (S : Sh h) : mv h 100 5 = 184 := S.r (by decide)
theorem g100_5 (S : Sh h) : gf h 100 11 5 k = k 184 := by rw [gf_e (t100 S), r100_5 S]
theorem r100_6 (S : Sh h) : mv h 100 6 = 191 := S.r (by decide)
theorem g100_6 (S : Sh h) : gf h 100 11 6 k = k 191 := by rw [gf_e (t100 S), r100_6 S]
theorem tl101 (S : Sh h) : tg h 101 = 10 ∧ ln h 101 = 11 := S.t 1 (by decide) rfl rfl
theorem t101 (S : Sh h) : tg h 101 = 10 := (tl101 S).1
theorem gk101 (S : Sh h) : gk h 101 10 k0 = k0 := gk_e (t101 S)
theorem r101_0 (S : Sh h) : mv h 101 0 = 102 := S.r (by decide)
theorem g101_0 (S : Sh h) : gf h 101 10 0 k = k 102 := by rw [gf_e (t101 S), r101_0 S]
theorem r101_1 (S : Sh h) : mv h 101 1 = 108 := S.r (by decide)
theorem g101_1 (S : Sh h) : gf h 101 10 1 k = k 108 := by rw [gf_e (t101 S), r101_1 S]
theorem r101_2 (S : Sh h) : mv h 101 2 = 115 := S.r (by decide)
theorem g101_2 (S : Sh h) : gf h 101 10 2 k = k 115 := by rw [gf_e (t101 S), r101_2 S]
theorem r101_3 (S : Sh h) : mv h 101 3 = 124 := S.r (by decide)
theorem g101_3 (S : Sh h) : gf h 101 10 3 k = k 124 := by rw [gf_e (t101 S), r101_3 S]
theorem r101_4 (S : Sh h) : mv h 101 4 = 129 := S.r (by decide)
theorem g101_4 (S : Sh h) : gf h 101 10 4 k = k 129 := by rw [gf_e (t101 S), r101_4 S]
theorem r101_5 (S : Sh h) : mv h 101 5 = 130 := S.r (by decide)
theorem g101_5 (S : Sh h) : gf h 101 10 5 k = k 130 := by rw [gf_e (t101 S), r101_5 S]
theorem r101_6 (S : Sh h) : mv h 101 6 = 131 := S.r (by decide)
theorem g101_6 (S : Sh h) : gf h 101 10 6 k = k 131 := by rw [gf_e (t101 S), r101_6 S]
theorem g101_7 (S : Sh h) : gf h 101 10 7 k = k (mv h 101 7) := gf_e (t101 S)
theorem p101_7 (S : Sh h) : pf h 101 10 7 v km = km (ms h 101 7 v) := pf_e (t101 S) (by decide)
theorem S101_7 : Sh (ms h 101 7 v) ↔ Sh h := Sh_ms rfl
theorem g101_8 (S : Sh h) : gf h 101 10 8 k = k (mv h 101 8) := gf_e (t101 S)
theorem p101_8 (S : Sh h) : pf h 101 10 8 v km = km (ms h 101 8 v) := pf_e (t101 S) (by decide)
theorem S101_8 : Sh (ms h 101 8 v) ↔ Sh h := Sh_ms rfl
theorem g101_9 (S : Sh h) : gf h 101 10 9 k = k (mv h 101 9) := gf_e (t101 S)
theorem p101_9 (S : Sh h) : pf h 101 10 9 v km = km (ms h 101 9 v) := pf_e (t101 S) (by decide)
theorem S101_9 : Sh (ms h 101 9 v) ↔ Sh h := Sh_ms rfl
theorem g101_10 (S : Sh h) : gf h 101 10 10 k = k (mv h 101 10) := gf_e (t101 S)
theorem p101_10 (S : Sh h) : pf h 101 10 10 v km = km (ms h 101 10 v) := pf_e (t101 S) (by decide)
theorem S101_10 : Sh (ms h 101 10 v) ↔ Sh h := Sh_ms rfl
theorem tl102 (S : Sh h) : tg h 102 = 1 ∧ ln h 102 = 6 := S.t 2 (by decide) rfl rfl
theorem t102 (S : Sh h) : tg h 102 = 1 := (tl102 S).1
theorem gk102 (S : Sh h) : gk h 102 1 k0 = k0 := gk_e (t102 S)
theorem r102_0 (S : Sh h) : mv h 102 0 = 103 := S.r (by decide)
theorem g102_0 (S : Sh h) : gf h 102 1 0 k = k 103 := by rw [gf_e (t102 S), r102_0 S]
theorem r102_1 (S : Sh h) : mv h 102 1 = 104 := S.r (by decide)
theorem g102_1 (S : Sh h) : gf h 102 1 1 k = k 104 := by rw [gf_e (t102 S), r102_1 S]
theorem r102_2 (S : Sh h) : mv h 102 2 = 105 := S.r (by decide)
theorem g102_2 (S : Sh h) : gf h 102 1 2 k = k 105 := by rw [gf_e (t102 S), r102_2 S]
theorem r102_3 (S : Sh h) : mv h 102 3 = 106 := S.r (by decide)
theorem g102_3 (S : Sh h) : gf h 102 1 3 k = k 106 := by rw [gf_e (t102 S), r102_3 S]
theorem r102_4 (S : Sh h) : mv h 102 4 = 107 := S.r (by decide)
theorem g102_4 (S : Sh h) : gf h 102 1 4 k = k 107 := by rw [gf_e (t102 S), r102_4 S]
theorem g102_5 (S : Sh h) : gf h 102 1 5 k = k (mv h 102 5) := gf_e (t102 S)
theorem p102_5 (S : Sh h) : pf h 102 1 5 v km = km (ms h 102 5 v) := pf_e (t102 S) (by decide)
theorem S102_5 : Sh (ms h 102 5 v) ↔ Sh h := Sh_ms rfl
theorem tl103 (S : Sh h) : tg h 103 = 100 ∧ ln h 103 = 80 := S.t 3 (by decide) rfl rfl
theorem t103 (S : Sh h) : tg h 103 = 100 := (tl103 S).1
theorem gk103 (S : Sh h) : gk h 103 100 k0 = k0 := gk_e (t103 S)
theorem l103 (S : Sh h) : ln h 103 = 80 := (tl103 S).2
theorem al103 (S : Sh h) : al h 103 100 k = k 80 := by rw [al_e (t103 S), l103 S]
theorem rd103 (S : Sh h) (q : 0 ≤ i ∧ i < 80) : rd h 103 100 i k = k (mv h 103 i) := rd_e (t103 S) q.1 (by rw [l103 S]; exact q.2)
theorem wt103 (S : Sh h) (q : 0 ≤ i ∧ i < 80) : wt h 103 100 i v km = km (ms h 103 i v) := wt_e (t103 S) (by decide) q.1 (by rw [l103 S]; exact q.2)
theorem S103 : Sh (ms h 103 i v) ↔ Sh h := Sh_ms rfl
theorem M103 : Sh (ma h 103 f) ↔ Sh h := Sh_ma rfl
theorem tl104 (S : Sh h) : tg h 104 = 100 ∧ ln h 104 = 80 := S.t 4 (by decide) rfl rfl
theorem t104 (S : Sh h) : tg h 104 = 100 := (tl104 S).1
theorem gk104 (S : Sh h) : gk h 104 100 k0 = k0 := gk_e (t104 S)
theorem l104 (S : Sh h) : ln h 104 = 80 := (tl104 S).2
theorem al104 (S : Sh h) : al h 104 100 k = k 80 := by rw [al_e (t104 S), l104 S]
theorem rd104 (S : Sh h) (q : 0 ≤ i ∧ i < 80) : rd h 104 100 i k = k (mv h 104 i) := rd_e (t104 S) q.1 (by rw [l104 S]; exact q.2)
theorem wt104 (S : Sh h) (q : 0 ≤ i ∧ i < 80) : wt h 104 100 i v km = km (ms h 104 i v) := wt_e (t104 S) (by decide) q.1 (by rw [l104 S]; exact q.2)
theorem S104 : Sh (ms h 104 i v) ↔ Sh h := Sh_ms rfl
theorem M104 : Sh (ma h 104 f) ↔ Sh h := Sh_ma rfl
theorem tl105 (S : Sh h) : tg h 105 = 100 ∧ ln h 105 = 80 := S.t 5 (by decide) rfl rfl
theorem t105 (S : Sh h) : tg h 105 = 100 := (tl105 S).1
theorem gk105 (S : Sh h) : gk h 105 100 k0 = k0 := gk_e (t105 S)
theorem l105 (S : Sh h) : ln h 105 = 80 := (tl105 S).2
theorem al105 (S : Sh h) : al h 105 100 k = k 80 := by rw [al_e (t105 S), l105 S]
theorem rd105 (S : Sh h) (q : 0 ≤ i ∧ i < 80) : rd h 105 100 i k = k (mv h 105 i) := rd_e (t105 S) q.1 (by rw [l105 S]; exact q.2)
theorem wt105 (S : Sh h) (q : 0 ≤ i ∧ i < 80) : wt h 105 100 i v km = km (ms h 105 i v) := wt_e (t105 S) (by decide) q.1 (by rw [l105 S]; exact q.2)
theorem S105 : Sh (ms h 105 i v) ↔ Sh h := Sh_ms rfl
theorem M105 : Sh (ma h 105 f) ↔ Sh h := Sh_ma rfl
theorem tl106 (S : Sh h) : tg h 106 = 100 ∧ ln h 106 = 6 := S.t 6 (by decide) rfl rfl
theorem t106 (S : Sh h) : tg h 106 = 100 := (tl106 S).1
theorem gk106 (S : Sh h) : gk h 106 100 k0 = k0 := gk_e (t106 S)
theorem l106 (S : Sh h) : ln h 106 = 6 := (tl106 S).2
theorem al106 (S : Sh h) : al h 106 100 k = k 6 := by rw [al_e (t106 S), l106 S]
theorem rd106 (S : Sh h) (q : 0 ≤ i ∧ i < 6) : rd h 106 100 i k = k (mv h 106 i) := rd_e (t106 S) q.1 (by rw [l106 S]; exact q.2)
theorem wt106 (S : Sh h) (q : 0 ≤ i ∧ i < 6) : wt h 106 100 i v km = km (ms h 106 i v) := wt_e (t106 S) (by decide) q.1 (by rw [l106 S]; exact q.2)
theorem S106 : Sh (ms h 106 i v) ↔ Sh h := Sh_ms rfl
theorem M106 : Sh (ma h 106 f) ↔ Sh h := Sh_ma rfl
theorem tl107 (S : Sh h) : tg h 107 = 100 ∧ ln h 107 = 6 := S.t 7 (by decide) rfl rfl
theorem t107 (S : Sh h) : tg h 107 = 100 := (tl107 S).1
theorem gk107 (S : Sh h) : gk h 107 100 k0 = k0 := gk_e (t107 S)
theorem l107 (S : Sh h) : ln h 107 = 6 := (tl107 S).2
theorem al107 (S : Sh h) : al h 107 100 k = k 6 := by rw [al_e (t107 S), l107 S]
theorem rd107 (S : Sh h) (q : 0 ≤ i ∧ i < 6) : rd h 107 100 i k = k (mv h 107 i) := rd_e (t107 S) q.1 (by rw [l107 S]; exact q.2)
theorem wt107 (S : Sh h) (q : 0 ≤ i ∧ i < 6) : wt h 107 100 i v km = km (ms h 107 i v) := wt_e (t107 S) (by decide) q.1 (by rw [l107 S]; exact q.2)
theorem S107 : Sh (ms h 107 i v) ↔ Sh h := Sh_ms rfl
theorem M107 : Sh (ma h 107 f) ↔ Sh h := Sh_ma rfl
theorem tl108 (S : Sh h) : tg h 108 = 5 ∧ ln h 108 = 10 := S.t 8 (by decide) rfl rfl
theorem t108 (S : Sh h) : tg h 108 = 5 := (tl108 S).1
theorem gk108 (S : Sh h) : gk h 108 5 k0 = k0 := gk_e (t108 S)
theorem r108_0 (S : Sh h) : mv h 108 0 = 109 := S.r (by decide)
theorem g108_0 (S : Sh h) : gf h 108 5 0 k = k 109 := by rw [gf_e (t108 S), r108_0 S]
theorem r108_1 (S : Sh h) : mv h 108 1 = 110 := S.r (by decide)
theorem g108_1 (S : Sh h) : gf h 108 5 1 k = k 110 := by rw [gf_e (t108 S), r108_1 S]
theorem r108_2 (S : Sh h) : mv h 108 2 = 111 := S.r (by decide)
theorem g108_2 (S : Sh h) : gf h 108 5 2 k = k 111 := by rw [gf_e (t108 S), r108_2 S]
theorem r108_3 (S : Sh h) : mv h 108 3 = 112 := S.r (by decide)
theorem g108_3 (S : Sh h) : gf h 108 5 3 k = k 112 := by rw [gf_e (t108 S), r108_3 S]
theorem r108_4 (S : Sh h) : mv h 108 4 = 113 := S.r (by decide)
theorem g108_4 (S : Sh h) : gf h 108 5 4 k = k 113 := by rw [gf_e (t108 S), r108_4 S]
theorem r108_5 (S : Sh h) : mv h 108 5 = 114 := S.r (by decide)
theorem g108_5 (S : Sh h) : gf h 108 5 5 k = k 114 := by rw [gf_e (t108 S), r108_5 S]
theorem g108_6 (S : Sh h) : gf h 108 5 6 k = k (mv h 108 6) := gf_e (t108 S)
theorem p108_6 (S : Sh h) : pf h 108 5 6 v km = km (ms h 108 6 v) := pf_e (t108 S) (by decide)
theorem S108_6 : Sh (ms h 108 6 v) ↔ Sh h := Sh_ms rfl
theorem g108_7 (S : Sh h) : gf h 108 5 7 k = k (mv h 108 7) := gf_e (t108 S)
theorem p108_7 (S : Sh h) : pf h 108 5 7 v km = km (ms h 108 7 v) := pf_e (t108 S) (by decide)
theorem S108_7 : Sh (ms h 108 7 v) ↔ Sh h := Sh_ms rfl
theorem g108_8 (S : Sh h) : gf h 108 5 8 k = k (mv h 108 8) := gf_e (t108 S)
theorem p108_8 (S : Sh h) : pf h 108 5 8 v km = km (ms h 108 8 v) := pf_e (t108 S) (by decide)
theorem S108_8 : Sh (ms h 108 8 v) ↔ Sh h := Sh_ms rfl
theorem g108_9 (S : Sh h) : gf h 108 5 9 k = k (mv h 108 9) := gf_e (t108 S)
theorem p108_9 (S : Sh h) : pf h 108 5 9 v km = km (ms h 108 9 v) := pf_e (t108 S) (by decide)
theorem S108_9 : Sh (ms h 108 9 v) ↔ Sh h := Sh_ms rfl
theorem tl109 (S : Sh h) : tg h 109 = 105 ∧ ln h 109 = 60 := S.t 9 (by decide) rfl rfl
theorem t109 (S : Sh h) : tg h 109 = 105 := (tl109 S).1
theorem gk109 (S : Sh h) : gk h 109 105 k0 = k0 := gk_e (t109 S)
theorem l109 (S : Sh h) : ln h 109 = 60 := (tl109 S).2
theorem al109 (S : Sh h) : al h 109 105 k = k 60 := by rw [al_e (t109 S), l109 S]
theorem rd109 (S : Sh h) (q : 0 ≤ i ∧ i < 60) : rd h 109 105 i k = k (mv h 109 i) := rd_e (t109 S) q.1 (by rw [l109 S]; exact q.2)
theorem wt109 (S : Sh h) (q : 0 ≤ i ∧ i < 60) : wt h 109 105 i v km = km (ms h 109 i v) := wt_e (t109 S) (by decide) q.1 (by rw [l109 S]; exact q.2)
theorem S109 : Sh (ms h 109 i v) ↔ Sh h := Sh_ms rfl
theorem M109 : Sh (ma h 109 f) ↔ Sh h := Sh_ma rfl
theorem tl110 (S : Sh h) : tg h 110 = 101 ∧ ln h 110 = 60 := S.t 10 (by decide) rfl rfl
theorem t110 (S : Sh h) : tg h 110 = 101 := (tl110 S).1
theorem gk110 (S : Sh h) : gk h 110 101 k0 = k0 := gk_e (t110 S)
theorem l110 (S : Sh h) : ln h 110 = 60 := (tl110 S).2
theorem al110 (S : Sh h) : al h 110 101 k = k 60 := by rw [al_e (t110 S), l110 S]
theorem rd110 (S : Sh h) (q : 0 ≤ i ∧ i < 60) : rd h 110 101 i k = k (mv h 110 i) := rd_e (t110 S) q.1 (by rw [l110 S]; exact q.2)
theorem wt110 (S : Sh h) (q : 0 ≤ i ∧ i < 60) : wt h 110 101 i v km = km (ms h 110 i v) := wt_e (t110 S) (by decide) q.1 (by rw [l110 S]; exact q.2)
theorem S110 : Sh (ms h 110 i v) ↔ Sh h := Sh_ms rfl
theorem M110 : Sh (ma h 110 f) ↔ Sh h := Sh_ma rfl
theorem tl111 (S : Sh h) : tg h 111 = 100 ∧ ln h 111 = 60 := S.t 11 (by decide) rfl rfl
theorem t111 (S : Sh h) : tg h 111 = 100 := (tl111 S).1
theorem gk111 (S : Sh h) : gk h 111 100 k0 = k0 := gk_e (t111 S)
theorem l111 (S : Sh h) : ln h 111 = 60 := (tl111 S).2
theorem al111 (S : Sh h) : al h 111 100 k = k 60 := by rw [al_e (t111 S), l111 S]
theorem rd111 (S : Sh h) (q : 0 ≤ i ∧ i < 60) : rd h 111 100 i k = k (mv h 111 i) := rd_e (t111 S) q.1 (by rw [l111 S]; exact q.2)
theorem wt111 (S : Sh h) (q : 0 ≤ i ∧ i < 60) : wt h 111 100 i v km = km (ms h 111 i v) := wt_e (t111 S) (by decide) q.1 (by rw [l111 S]; exact q.2)
theorem S111 : Sh (ms h 111 i v) ↔ Sh h := Sh_ms rfl
theorem M111 : Sh (ma h 111 f) ↔ Sh h := Sh_ma rfl
theorem tl112 (S : Sh h) : tg h 112 = 100 ∧ ln h 112 = 60 := S.t 12 (by decide) rfl rfl
theorem t112 (S : Sh h) : tg h 112 = 100 := (tl112 S).1
theorem gk112 (S : Sh h) : gk h 112 100 k0 = k0 := gk_e (t112 S)
theorem l112 (S : Sh h) : ln h 112 = 60 := (tl112 S).2
theorem al112 (S : Sh h) : al h 112 100 k = k 60 := by rw [al_e (t112 S), l112 S]
theorem rd112 (S : Sh h) (q : 0 ≤ i ∧ i < 60) : rd h 112 100 i k = k (mv h 112 i) := rd_e (t112 S) q.1 (by rw [l112 S]; exact q.2)
theorem wt112 (S : Sh h) (q : 0 ≤ i ∧ i < 60) : wt h 112 100 i v km = km (ms h 112 i v) := wt_e (t112 S) (by decide) q.1 (by rw [l112 S]; exact q.2)
theorem S112 : Sh (ms h 112 i v) ↔ Sh h := Sh_ms rfl
theorem M112 : Sh (ma h 112 f) ↔ Sh h := Sh_ma rfl
theorem tl113 (S : Sh h) : tg h 113 = 100 ∧ ln h 113 = 60 := S.t 13 (by decide) rfl rfl
theorem t113 (S : Sh h) : tg h 113 = 100 := (tl113 S).1
theorem gk113 (S : Sh h) : gk h 113 100 k0 = k0 := gk_e (t113 S)
theorem l113 (S : Sh h) : ln h 113 = 60 := (tl113 S).2
theorem al113 (S : Sh h) : al h 113 100 k = k 60 := by rw [al_e (t113 S), l113 S]
theorem rd113 (S : Sh h) (q : 0 ≤ i ∧ i < 60) : rd h 113 100 i k = k (mv h 113 i) := rd_e (t113 S) q.1 (by rw [l113 S]; exact q.2)
theorem wt113 (S : Sh h) (q : 0 ≤ i ∧ i < 60) : wt h 113 100 i v km = km (ms h 113 i v) := wt_e (t113 S) (by decide) q.1 (by rw [l113 S]; exact q.2)
theorem S113 : Sh (ms h 113 i v) ↔ Sh h := Sh_ms rfl
theorem M113 : Sh (ma h 113 f) ↔ Sh h := Sh_ma rfl
theorem tl114 (S : Sh h) : tg h 114 = 100 ∧ ln h 114 = 60 := S.t 14 (by decide) rfl rfl
theorem t114 (S : Sh h) : tg h 114 = 100 := (tl114 S).1
theorem gk114 (S : Sh h) : gk h 114 100 k0 = k0 := gk_e (t114 S)
theorem l114 (S : Sh h) : ln h 114 = 60 := (tl114 S).2
theorem al114 (S : Sh h) : al h 114 100 k = k 60 := by rw [al_e (t114 S), l114 S]
theorem rd114 (S : Sh h) (q : 0 ≤ i ∧ i < 60) : rd h 114 100 i k = k (mv h 114 i) := rd_e (t114 S) q.1 (by rw [l114 S]; exact q.2)
theorem wt114 (S : Sh h) (q : 0 ≤ i ∧ i < 60) : wt h 114 100 i v km = km (ms h 114 i v) := wt_e (t114 S) (by decide) q.1 (by rw [l114 S]; exact q.2)
theorem S114 : Sh (ms h 114 i v) ↔ Sh h := Sh_ms rfl
theorem M114 : Sh (ma h 114 f) ↔ Sh h := Sh_ma rfl
theorem tl115 (S : Sh h) : tg h 115 = 8 ∧ ln h 115 = 9 := S.t 15 (by decide) rfl rfl
theorem t115 (S : Sh h) : tg h 115 = 8 := (tl115 S).1
theorem gk115 (S : Sh h) : gk h 115 8 k0 = k0 := gk_e (t115 S)
theorem r115_0 (S : Sh h) : mv h 115 0 = 116 := S.r (by decide)
theorem g115_0 (S : Sh h) : gf h 115 8 0 k = k 116 := by rw [gf_e (t115 S), r115_0 S]
theorem r115_1 (S : Sh h) : mv h 115 1 = 117 := S.r (by decide)
theorem g115_1 (S : Sh h) : gf h 115 8 1 k = k 117 := by rw [gf_e (t115 S), r115_1 S]
theorem r115_2 (S : Sh h) : mv h 115 2 = 118 := S.r (by decide)
theorem g115_2 (S : Sh h) : gf h 115 8 2 k = k 118 := by rw [gf_e (t115 S), r115_2 S]
theorem r115_3 (S : Sh h) : mv h 115 3 = 119 := S.r (by decide)
theorem g115_3 (S : Sh h) : gf h 115 8 3 k = k 119 := by rw [gf_e (t115 S), r115_3 S]
theorem r115_4 (S : Sh h) : mv h 115 4 = 120 := S.r (by decide)
theorem g115_4 (S : Sh h) : gf h 115 8 4 k = k 120 := by rw [gf_e (t115 S), r115_4 S]
theorem r115_5 (S : Sh h) : mv h 115 5 = 121 := S.r (by decide)
theorem g115_5 (S : Sh h) : gf h 115 8 5 k = k 121 := by rw [gf_e (t115 S), r115_5 S]
theorem r115_6 (S : Sh h) : mv h 115 6 = 122 := S.r (by decide)
theorem g115_6 (S : Sh h) : gf h 115 8 6 k = k 122 := by rw [gf_e (t115 S), r115_6 S]
theorem r115_7 (S : Sh h) : mv h 115 7 = 123 := S.r (by decide)
theorem g115_7 (S : Sh h) : gf h 115 8 7 k = k 123 := by rw [gf_e (t115 S), r115_7 S]
theorem g115_8 (S : Sh h) : gf h 115 8 8 k = k (mv h 115 8) := gf_e (t115 S)
theorem p115_8 (S : Sh h) : pf h 115 8 8 v km = km (ms h 115 8 v) := pf_e (t115 S) (by decide)
theorem S115_8 : Sh (ms h 115 8 v) ↔ Sh h := Sh_ms rfl
theorem tl116 (S : Sh h) : tg h 116 = 100 ∧ ln h 116 = 20 := S.t 16 (by decide) rfl rfl
theorem t116 (S : Sh h) : tg h 116 = 100 := (tl116 S).1
theorem gk116 (S : Sh h) : gk h 116 100 k0 = k0 := gk_e (t116 S)
theorem l116 (S : Sh h) : ln h 116 = 20 := (tl116 S).2
theorem al116 (S : Sh h) : al h 116 100 k = k 20 := by rw [al_e (t116 S), l116 S]
theorem rd116 (S : Sh h) (q : 0 ≤ i ∧ i < 20) : rd h 116 100 i k = k (mv h 116 i) := rd_e (t116 S) q.1 (by rw [l116 S]; exact q.2)
theorem wt116 (S : Sh h) (q : 0 ≤ i ∧ i < 20) : wt h 116 100 i v km = km (ms h 116 i v) := wt_e (t116 S) (by decide) q.1 (by rw [l116 S]; exact q.2)
theorem S116 : Sh (ms h 116 i v) ↔ Sh h := Sh_ms rfl
theorem M116 : Sh (ma h 116 f) ↔ Sh h := Sh_ma rfl
theorem tl117 (S : Sh h) : tg h 117 = 100 ∧ ln h 117 = 108 := S.t 17 (by decide) rfl rfl
theorem t117 (S : Sh h) : tg h 117 = 100 := (tl117 S).1
theorem gk117 (S : Sh h) : gk h 117 100 k0 = k0 := gk_e (t117 S)
theorem l117 (S : Sh h) : ln h 117 = 108 := (tl117 S).2
theorem al117 (S : Sh h) : al h 117 100 k = k 108 := by rw [al_e (t117 S), l117 S]
theorem rd117 (S : Sh h) (q : 0 ≤ i ∧ i < 108) : rd h 117 100 i k = k (mv h 117 i) := rd_e (t117 S) q.1 (by rw [l117 S]; exact q.2)
theorem wt117 (S : Sh h) (q : 0 ≤ i ∧ i < 108) : wt h 117 100 i v km = km (ms h 117 i v) := wt_e (t117 S) (by decide) q.1 (by rw [l117 S]; exact q.2)
theorem S117 : Sh (ms h 117 i v) ↔ Sh h := Sh_ms rfl
theorem M117 : Sh (ma h 117 f) ↔ Sh h := Sh_ma rfl
theorem tl118 (S : Sh h) : tg h 118 = 100 ∧ ln h 118 = 12 := S.t 18 (by decide) rfl rfl
theorem t118 (S : Sh h) : tg h 118 = 100 := (tl118 S).1
theorem gk118 (S : Sh h) : gk h 118 100 k0 = k0 := gk_e (t118 S)
theorem l118 (S : Sh h) : ln h 118 = 12 := (tl118 S).2
theorem al118 (S : Sh h) : al h 118 100 k = k 12 := by rw [al_e (t118 S), l118 S]
theorem rd118 (S : Sh h) (q : 0 ≤ i ∧ i < 12) : rd h 118 100 i k = k (mv h 118 i) := rd_e (t118 S) q.1 (by rw [l118 S]; exact q.2)
theorem wt118 (S : Sh h) (q : 0 ≤ i ∧ i < 12) : wt h 118 100 i v km = km (ms h 118 i v) := wt_e (t118 S) (by decide) q.1 (by rw [l118 S]; exact q.2)
theorem S118 : Sh (ms h 118 i v) ↔ Sh h := Sh_ms rfl
theorem M118 : Sh (ma h 118 f) ↔ Sh h := Sh_ma rfl
theorem tl119 (S : Sh h) : tg h 119 = 100 ∧ ln h 119 = 40 := S.t 19 (by decide) rfl rfl
theorem t119 (S : Sh h) : tg h 119 = 100 := (tl119 S).1
theorem gk119 (S : Sh h) : gk h 119 100 k0 = k0 := gk_e (t119 S)
theorem l119 (S : Sh h) : ln h 119 = 40 := (tl119 S).2
theorem al119 (S : Sh h) : al h 119 100 k = k 40 := by rw [al_e (t119 S), l119 S]
theorem rd119 (S : Sh h) (q : 0 ≤ i ∧ i < 40) : rd h 119 100 i k = k (mv h 119 i) := rd_e (t119 S) q.1 (by rw [l119 S]; exact q.2)
theorem wt119 (S : Sh h) (q : 0 ≤ i ∧ i < 40) : wt h 119 100 i v km = km (ms h 119 i v) := wt_e (t119 S) (by decide) q.1 (by rw [l119 S]; exact q.2)
theorem S119 : Sh (ms h 119 i v) ↔ Sh h := Sh_ms rfl
theorem M119 : Sh (ma h 119 f) ↔ Sh h := Sh_ma rfl
theorem tl120 (S : Sh h) : tg h 120 = 100 ∧ ln h 120 = 40 := S.t 20 (by decide) rfl rfl
theorem t120 (S : Sh h) : tg h 120 = 100 := (tl120 S).1
theorem gk120 (S : Sh h) : gk h 120 100 k0 = k0 := gk_e (t120 S)
theorem l120 (S : Sh h) : ln h 120 = 40 := (tl120 S).2
theorem al120 (S : Sh h) : al h 120 100 k = k 40 := by rw [al_e (t120 S), l120 S]
theorem rd120 (S : Sh h) (q : 0 ≤ i ∧ i < 40) : rd h 120 100 i k = k (mv h 120 i) := rd_e (t120 S) q.1 (by rw [l120 S]; exact q.2)
theorem wt120 (S : Sh h) (q : 0 ≤ i ∧ i < 40) : wt h 120 100 i v km = km (ms h 120 i v) := wt_e (t120 S) (by decide) q.1 (by rw [l120 S]; exact q.2)
theorem S120 : Sh (ms h 120 i v) ↔ Sh h := Sh_ms rfl
theorem M120 : Sh (ma h 120 f) ↔ Sh h := Sh_ma rfl
theorem tl121 (S : Sh h) : tg h 121 = 100 ∧ ln h 121 = 40 := S.t 21 (by decide) rfl rfl
theorem t121 (S : Sh h) : tg h 121 = 100 := (tl121 S).1
theorem gk121 (S : Sh h) : gk h 121 100 k0 = k0 := gk_e (t121 S)
theorem l121 (S : Sh h) : ln h 121 = 40 := (tl121 S).2
theorem al121 (S : Sh h) : al h 121 100 k = k 40 := by rw [al_e (t121 S), l121 S]
theorem rd121 (S : Sh h) (q : 0 ≤ i ∧ i < 40) : rd h 121 100 i k = k (mv h 121 i) := rd_e (t121 S) q.1 (by rw [l121 S]; exact q.2)
theorem wt121 (S : Sh h) (q : 0 ≤ i ∧ i < 40) : wt h 121 100 i v km = km (ms h 121 i v) := wt_e (t121 S) (by decide) q.1 (by rw [l121 S]; exact q.2)
theorem S121 : Sh (ms h 121 i v) ↔ Sh h := Sh_ms rfl
theorem M121 : Sh (ma h 121 f) ↔ Sh h := Sh_ma rfl
theorem tl122 (S : Sh h) : tg h 122 = 100 ∧ ln h 122 = 40 := S.t 22 (by decide) rfl rfl
theorem t122 (S : Sh h) : tg h 122 = 100 := (tl122 S).1
theorem gk122 (S : Sh h) : gk h 122 100 k0 = k0 := gk_e (t122 S)
theorem l122 (S : Sh h) : ln h 122 = 40 := (tl122 S).2
theorem al122 (S : Sh h) : al h 122 100 k = k 40 := by rw [al_e (t122 S), l122 S]
theorem rd122 (S : Sh h) (q : 0 ≤ i ∧ i < 40) : rd h 122 100 i k = k (mv h 122 i) := rd_e (t122 S) q.1 (by rw [l122 S]; exact q.2)
theorem wt122 (S : Sh h) (q : 0 ≤ i ∧ i < 40) : wt h 122 100 i v km = km (ms h 122 i v) := wt_e (t122 S) (by decide) q.1 (by rw [l122 S]; exact q.2)
theorem S122 : Sh (ms h 122 i v) ↔ Sh h := Sh_ms rfl
theorem M122 : Sh (ma h 122 f) ↔ Sh h := Sh_ma rfl
theorem tl123 (S : Sh h) : tg h 123 = 100 ∧ ln h 123 = 40 := S.t 23 (by decide) rfl rfl
theorem t123 (S : Sh h) : tg h 123 = 100 := (tl123 S).1
theorem gk123 (S : Sh h) : gk h 123 100 k0 = k0 := gk_e (t123 S)
theorem l123 (S : Sh h) : ln h 123 = 40 := (tl123 S).2
theorem al123 (S : Sh h) : al h 123 100 k = k 40 := by rw [al_e (t123 S), l123 S]
theorem rd123 (S : Sh h) (q : 0 ≤ i ∧ i < 40) : rd h 123 100 i k = k (mv h 123 i) := rd_e (t123 S) q.1 (by rw [l123 S]; exact q.2)
theorem wt123 (S : Sh h) (q : 0 ≤ i ∧ i < 40) : wt h 123 100 i v km = km (ms h 123 i v) := wt_e (t123 S) (by decide) q.1 (by rw [l123 S]; exact q.2)
theorem S123 : Sh (ms h 123 i v) ↔ Sh h := Sh_ms rfl
theorem M123 : Sh (ma h 123 f) ↔ Sh h := Sh_ma rfl
theorem tl124 (S : Sh h) : tg h 124 = 6 ∧ ln h 124 = 5 := S.t 24 (by decide) rfl rfl
theorem t124 (S : Sh h) : tg h 124 = 6 := (tl124 S).1
theorem gk124 (S : Sh h) : gk h 124 6 k0 = k0 := gk_e (t124 S)
theorem r124_0 (S : Sh h) : mv h 124 0 = 125 := S.r (by decide)
theorem g124_0 (S : Sh h) : gf h 124 6 0 k = k 125 := by rw [gf_e (t124 S), r124_0 S]
theorem r124_1 (S : Sh h) : mv h 124 1 = 126 := S.r (by decide)
theorem g124_1 (S : Sh h) : gf h 124 6 1 k = k 126 := by rw [gf_e (t124 S), r124_1 S]
theorem g124_2 (S : Sh h) : gf h 124 6 2 k = k (mv h 124 2) := gf_e (t124 S)
theorem p124_2 (S : Sh h) : pf h 124 6 2 v km = km (ms h 124 2 v) := pf_e (t124 S) (by decide)
theorem S124_2 : Sh (ms h 124 2 v) ↔ Sh h := Sh_ms rfl
theorem r124_3 (S : Sh h) : mv h 124 3 = 127 := S.r (by decide)
theorem g124_3 (S : Sh h) : gf h 124 6 3 k = k 127 := by rw [gf_e (t124 S), r124_3 S]
theorem r124_4 (S : Sh h) : mv h 124 4 = 128 := S.r (by decide)
theorem g124_4 (S : Sh h) : gf h 124 6 4 k = k 128 := by rw [gf_e (t124 S), r124_4 S]
theorem tl125 (S : Sh h) : tg h 125 = 100 ∧ ln h 125 = 7 := S.t 25 (by decide) rfl rfl
theorem t125 (S : Sh h) : tg h 125 = 100 := (tl125 S).1
theorem gk125 (S : Sh h) : gk h 125 100 k0 = k0 := gk_e (t125 S)
theorem l125 (S : Sh h) : ln h 125 = 7 := (tl125 S).2
theorem al125 (S : Sh h) : al h 125 100 k = k 7 := by rw [al_e (t125 S), l125 S]
theorem rd125 (S : Sh h) (q : 0 ≤ i ∧ i < 7) : rd h 125 100 i k = k (mv h 125 i) := rd_e (t125 S) q.1 (by rw [l125 S]; exact q.2)
theorem wt125 (S : Sh h) (q : 0 ≤ i ∧ i < 7) : wt h 125 100 i v km = km (ms h 125 i v) := wt_e (t125 S) (by decide) q.1 (by rw [l125 S]; exact q.2)
theorem S125 : Sh (ms h 125 i v) ↔ Sh h := Sh_ms rfl
theorem M125 : Sh (ma h 125 f) ↔ Sh h := Sh_ma rfl
theorem tl126 (S : Sh h) : tg h 126 = 100 ∧ ln h 126 = 7 := S.t 26 (by decide) rfl rfl
theorem t126 (S : Sh h) : tg h 126 = 100 := (tl126 S).1
theorem gk126 (S : Sh h) : gk h 126 100 k0 = k0 := gk_e (t126 S)
theorem l126 (S : Sh h) : ln h 126 = 7 := (tl126 S).2
theorem al126 (S : Sh h) : al h 126 100 k = k 7 := by rw [al_e (t126 S), l126 S]
theorem rd126 (S : Sh h) (q : 0 ≤ i ∧ i < 7) : rd h 126 100 i k = k (mv h 126 i) := rd_e (t126 S) q.1 (by rw [l126 S]; exact q.2)
theorem wt126 (S : Sh h) (q : 0 ≤ i ∧ i < 7) : wt h 126 100 i v km = km (ms h 126 i v) := wt_e (t126 S) (by decide) q.1 (by rw [l126 S]; exact q.2)
theorem S126 : Sh (ms h 126 i v) ↔ Sh h := Sh_ms rfl
theorem M126 : Sh (ma h 126 f) ↔ Sh h := Sh_ma rfl
theorem tl127 (S : Sh h) : tg h 127 = 100 ∧ ln h 127 = 7 := S.t 27 (by decide) rfl rfl
theorem t127 (S : Sh h) : tg h 127 = 100 := (tl127 S).1
theorem gk127 (S : Sh h) : gk h 127 100 k0 = k0 := gk_e (t127 S)
theorem l127 (S : Sh h) : ln h 127 = 7 := (tl127 S).2
theorem al127 (S : Sh h) : al h 127 100 k = k 7 := by rw [al_e (t127 S), l127 S]
theorem rd127 (S : Sh h) (q : 0 ≤ i ∧ i < 7) : rd h 127 100 i k = k (mv h 127 i) := rd_e (t127 S) q.1 (by rw [l127 S]; exact q.2)
theorem wt127 (S : Sh h) (q : 0 ≤ i ∧ i < 7) : wt h 127 100 i v km = km (ms h 127 i v) := wt_e (t127 S) (by decide) q.1 (by rw [l127 S]; exact q.2)
theorem S127 : Sh (ms h 127 i v) ↔ Sh h := Sh_ms rfl
theorem M127 : Sh (ma h 127 f) ↔ Sh h := Sh_ma rfl
theorem tl128 (S : Sh h) : tg h 128 = 100 ∧ ln h 128 = 128 := S.t 28 (by decide) rfl rfl
theorem t128 (S : Sh h) : tg h 128 = 100 := (tl128 S).1
theorem gk128 (S : Sh h) : gk h 128 100 k0 = k0 := gk_e (t128 S)
theorem l128 (S : Sh h) : ln h 128 = 128 := (tl128 S).2
theorem al128 (S : Sh h) : al h 128 100 k = k 128 := by rw [al_e (t128 S), l128 S]
theorem rd128 (S : Sh h) (q : 0 ≤ i ∧ i < 128) : rd h 128 100 i k = k (mv h 128 i) := rd_e (t128 S) q.1 (by rw [l128 S]; exact q.2)
theorem wt128 (S : Sh h) (q : 0 ≤ i ∧ i < 128) : wt h 128 100 i v km = km (ms h 128 i v) := wt_e (t128 S) (by decide) q.1 (by rw [l128 S]; exact q.2)
theorem S128 : Sh (ms h 128 i v) ↔ Sh h := Sh_ms rfl
theorem M128 : Sh (ma h 128 f) ↔ Sh h := Sh_ma rfl
theorem tl129 (S : Sh h) : tg h 129 = 106 ∧ ln h 129 = 4 := S.t 29 (by decide) rfl rfl
theorem t129 (S : Sh h) : tg h 129 = 106 := (tl129 S).1
theorem gk129 (S : Sh h) : gk h 129 106 k0 = k0 := gk_e (t129 S)
theorem l129 (S : Sh h) : ln h 129 = 4 := (tl129 S).2
theorem al129 (S : Sh h) : al h 129 106 k = k 4 := by rw [al_e (t129 S), l129 S]
theorem rd129 (S : Sh h) (q : 0 ≤ i ∧ i < 4) : rd h 129 106 i k = k (mv h 129 i) := rd_e (t129 S) q.1 (by rw [l129 S]; exact q.2)
theorem wt129 (S : Sh h) (q : 0 ≤ i ∧ i < 4) : wt h 129 106 i v km = km (ms h 129 i v) := wt_e (t129 S) (by decide) q.1 (by rw [l129 S]; exact q.2)
theorem r129_0 (S : Sh h) : mv h 129 0 = 132 := S.r (by decide)
theorem r129_1 (S : Sh h) : mv h 129 1 = 134 := S.r (by decide)
theorem r129_2 (S : Sh h) : mv h 129 2 = 136 := S.r (by decide)
theorem r129_3 (S : Sh h) : mv h 129 3 = 138 := S.r (by decide)
theorem tl130 (S : Sh h) : tg h 130 = 102 ∧ ln h 130 = 140 := S.t 30 (by decide) rfl rfl
theorem t130 (S : Sh h) : tg h 130 = 102 := (tl130 S).1
theorem gk130 (S : Sh h) : gk h 130 102 k0 = k0 := gk_e (t130 S)
theorem l130 (S : Sh h) : ln h 130 = 140 := (tl130 S).2
theorem al130 (S : Sh h) : al h 130 102 k = k 140 := by rw [al_e (t130 S), l130 S]
theorem rd130 (S : Sh h) (q : 0 ≤ i ∧ i < 140) : rd h 130 102 i k = k (mv h 130 i) := rd_e (t130 S) q.1 (by rw [l130 S]; exact q.2)
theorem wt130 (S : Sh h) (q : 0 ≤ i ∧ i < 140) : wt h 130 102 i v km = km (ms h 130 i v) := wt_e (t130 S) (by decide) q.1 (by rw [l130 S]; exact q.2)
theorem S130 : Sh (ms h 130 i v) ↔ Sh h := Sh_ms rfl
theorem M130 : Sh (ma h 130 f) ↔ Sh h := Sh_ma rfl
theorem tl131 (S : Sh h) : tg h 131 = 104 ∧ ln h 131 = 9 := S.t 31 (by decide) rfl rfl
theorem t131 (S : Sh h) : tg h 131 = 104 := (tl131 S).1
theorem gk131 (S : Sh h) : gk h 131 104 k0 = k0 := gk_e (t131 S)
theorem l131 (S : Sh h) : ln h 131 = 9 := (tl131 S).2
theorem al131 (S : Sh h) : al h 131 104 k = k 9 := by rw [al_e (t131 S), l131 S]
theorem rd131 (S : Sh h) (q : 0 ≤ i ∧ i < 9) : rd h 131 104 i k = k (mv h 131 i) := rd_e (t131 S) q.1 (by rw [l131 S]; exact q.2)
theorem wt131 (S : Sh h) (q : 0 ≤ i ∧ i < 9) : wt h 131 104 i v km = km (ms h 131 i v) := wt_e (t131 S) (by decide) q.1 (by rw [l131 S]; exact q.2)
theorem S131 : Sh (ms h 131 i v) ↔ Sh h := Sh_ms rfl
theorem M131 : Sh (ma h 131 f) ↔ Sh h := Sh_ma rfl
theorem tl132 (S : Sh h) : tg h 132 = 9 ∧ ln h 132 = 3 := S.t 32 (by decide) rfl rfl
theorem t132 (S : Sh h) : tg h 132 = 9 := (tl132 S).1
theorem gk132 (S : Sh h) : gk h 132 9 k0 = k0 := gk_e (t132 S)
theorem r132_0 (S : Sh h) : mv h 132 0 = 133 := S.r (by decide)
theorem g132_0 (S : Sh h) : gf h 132 9 0 k = k 133 := by rw [gf_e (t132 S), r132_0 S]
theorem g132_1 (S : Sh h) : gf h 132 9 1 k = k (mv h 132 1) := gf_e (t132 S)
theorem p132_1 (S : Sh h) : pf h 132 9 1 v km = km (ms h 132 1 v) := pf_e (t132 S) (by decide)
theorem S132_1 : Sh (ms h 132 1 v) ↔ Sh h := Sh_ms rfl
theorem g132_2 (S : Sh h) : gf h 132 9 2 k = k (mv h 132 2) := gf_e (t132 S)
theorem p132_2 (S : Sh h) : pf h 132 9 2 v km = km (ms h 132 2 v) := pf_e (t132 S) (by decide)
theorem S132_2 : Sh (ms h 132 2 v) ↔ Sh h := Sh_ms rfl
theorem tl133 (S : Sh h) : tg h 133 = 100 ∧ ln h 133 = 40 := S.t 33 (by decide) rfl rfl
theorem t133 (S : Sh h) : tg h 133 = 100 := (tl133 S).1
theorem gk133 (S : Sh h) : gk h 133 100 k0 = k0 := gk_e (t133 S)
theorem l133 (S : Sh h) : ln h 133 = 40 := (tl133 S).2
theorem al133 (S : Sh h) : al h 133 100 k = k 40 := by rw [al_e (t133 S), l133 S]
theorem rd133 (S : Sh h) (q : 0 ≤ i ∧ i < 40) : rd h 133 100 i k = k (mv h 133 i) := rd_e (t133 S) q.1 (by rw [l133 S]; exact q.2)
theorem wt133 (S : Sh h) (q : 0 ≤ i ∧ i < 40) : wt h 133 100 i v km = km (ms h 133 i v) := wt_e (t133 S) (by decide) q.1 (by rw [l133 S]; exact q.2)
theorem S133 : Sh (ms h 133 i v) ↔ Sh h := Sh_ms rfl
theorem M133 : Sh (ma h 133 f) ↔ Sh h := Sh_ma rfl
theorem tl134 (S : Sh h) : tg h 134 = 9 ∧ ln h 134 = 3 := S.t 34 (by decide) rfl rfl
theorem t134 (S : Sh h) : tg h 134 = 9 := (tl134 S).1
theorem gk134 (S : Sh h) : gk h 134 9 k0 = k0 := gk_e (t134 S)
theorem r134_0 (S : Sh h) : mv h 134 0 = 135 := S.r (by decide)
theorem g134_0 (S : Sh h) : gf h 134 9 0 k = k 135 := by rw [gf_e (t134 S), r134_0 S]
theorem g134_1 (S : Sh h) : gf h 134 9 1 k = k (mv h 134 1) := gf_e (t134 S)
theorem p134_1 (S : Sh h) : pf h 134 9 1 v km = km (ms h 134 1 v) := pf_e (t134 S) (by decide)
theorem S134_1 : Sh (ms h 134 1 v) ↔ Sh h := Sh_ms rfl
theorem g134_2 (S : Sh h) : gf h 134 9 2 k = k (mv h 134 2) := gf_e (t134 S)
theorem p134_2 (S : Sh h) : pf h 134 9 2 v km = km (ms h 134 2 v) := pf_e (t134 S) (by decide)
theorem S134_2 : Sh (ms h 134 2 v) ↔ Sh h := Sh_ms rfl
theorem tl135 (S : Sh h) : tg h 135 = 100 ∧ ln h 135 = 40 := S.t 35 (by decide) rfl rfl
theorem t135 (S : Sh h) : tg h 135 = 100 := (tl135 S).1
theorem gk135 (S : Sh h) : gk h 135 100 k0 = k0 := gk_e (t135 S)
theorem l135 (S : Sh h) : ln h 135 = 40 := (tl135 S).2
theorem al135 (S : Sh h) : al h 135 100 k = k 40 := by rw [al_e (t135 S), l135 S]
theorem rd135 (S : Sh h) (q : 0 ≤ i ∧ i < 40) : rd h 135 100 i k = k (mv h 135 i) := rd_e (t135 S) q.1 (by rw [l135 S]; exact q.2)
theorem wt135 (S : Sh h) (q : 0 ≤ i ∧ i < 40) : wt h 135 100 i v km = km (ms h 135 i v) := wt_e (t135 S) (by decide) q.1 (by rw [l135 S]; exact q.2)
theorem S135 : Sh (ms h 135 i v) ↔ Sh h := Sh_ms rfl
theorem M135 : Sh (ma h 135 f) ↔ Sh h := Sh_ma rfl
theorem tl136 (S : Sh h) : tg h 136 = 9 ∧ ln h 136 = 3 := S.t 36 (by decide) rfl rfl
theorem t136 (S : Sh h) : tg h 136 = 9 := (tl136 S).1
theorem gk136 (S : Sh h) : gk h 136 9 k0 = k0 := gk_e (t136 S)
theorem r136_0 (S : Sh h) : mv h 136 0 = 137 := S.r (by decide)
theorem g136_0 (S : Sh h) : gf h 136 9 0 k = k 137 := by rw [gf_e (t136 S), r136_0 S]
theorem g136_1 (S : Sh h) : gf h 136 9 1 k = k (mv h 136 1) := gf_e (t136 S)
theorem p136_1 (S : Sh h) : pf h 136 9 1 v km = km (ms h 136 1 v) := pf_e (t136 S) (by decide)
theorem S136_1 : Sh (ms h 136 1 v) ↔ Sh h := Sh_ms rfl
theorem g136_2 (S : Sh h) : gf h 136 9 2 k = k (mv h 136 2) := gf_e (t136 S)
theorem p136_2 (S : Sh h) : pf h 136 9 2 v km = km (ms h 136 2 v) := pf_e (t136 S) (by decide)
theorem S136_2 : Sh (ms h 136 2 v) ↔ Sh h := Sh_ms rfl
theorem tl137 (S : Sh h) : tg h 137 = 100 ∧ ln h 137 = 40 := S.t 37 (by decide) rfl rfl
theorem t137 (S : Sh h) : tg h 137 = 100 := (tl137 S).1
theorem gk137 (S : Sh h) : gk h 137 100 k0 = k0 := gk_e (t137 S)
theorem l137 (S : Sh h) : ln h 137 = 40 := (tl137 S).2
theorem al137 (S : Sh h) : al h 137 100 k = k 40 := by rw [al_e (t137 S), l137 S]
theorem rd137 (S : Sh h) (q : 0 ≤ i ∧ i < 40) : rd h 137 100 i k = k (mv h 137 i) := rd_e (t137 S) q.1 (by rw [l137 S]; exact q.2)
theorem wt137 (S : Sh h) (q : 0 ≤ i ∧ i < 40) : wt h 137 100 i v km = km (ms h 137 i v) := wt_e (t137 S) (by decide) q.1 (by rw [l137 S]; exact q.2)
theorem S137 : Sh (ms h 137 i v) ↔ Sh h := Sh_ms rfl
theorem M137 : Sh (ma h 137 f) ↔ Sh h := Sh_ma rfl
theorem tl138 (S : Sh h) : tg h 138 = 9 ∧ ln h 138 = 3 := S.t 38 (by decide) rfl rfl
theorem t138 (S : Sh h) : tg h 138 = 9 := (tl138 S).1
theorem gk138 (S : Sh h) : gk h 138 9 k0 = k0 := gk_e (t138 S)
theorem r138_0 (S : Sh h) : mv h 138 0 = 139 := S.r (by decide)
theorem g138_0 (S : Sh h) : gf h 138 9 0 k = k 139 := by rw [gf_e (t138 S), r138_0 S]
theorem g138_1 (S : Sh h) : gf h 138 9 1 k = k (mv h 138 1) := gf_e (t138 S)
theorem p138_1 (S : Sh h) : pf h 138 9 1 v km = km (ms h 138 1 v) := pf_e (t138 S) (by decide)
theorem S138_1 : Sh (ms h 138 1 v) ↔ Sh h := Sh_ms rfl
theorem g138_2 (S : Sh h) : gf h 138 9 2 k = k (mv h 138 2) := gf_e (t138 S)
theorem p138_2 (S : Sh h) : pf h 138 9 2 v km = km (ms h 138 2 v) := pf_e (t138 S) (by decide)
theorem S138_2 : Sh (ms h 138 2 v) ↔ Sh h := Sh_ms rfl
theorem tl139 (S : Sh h) : tg h 139 = 100 ∧ ln h 139 = 40 := S.t 39 (by decide) rfl rfl
theorem t139 (S : Sh h) : tg h 139 = 100 := (tl139 S).1
theorem gk139 (S : Sh h) : gk h 139 100 k0 = k0 := gk_e (t139 S)
theorem l139 (S : Sh h) : ln h 139 = 40 := (tl139 S).2
theorem al139 (S : Sh h) : al h 139 100 k = k 40 := by rw [al_e (t139 S), l139 S]
theorem rd139 (S : Sh h) (q : 0 ≤ i ∧ i < 40) : rd h 139 100 i k = k (mv h 139 i) := rd_e (t139 S) q.1 (by rw [l139 S]; exact q.2)
theorem wt139 (S : Sh h) (q : 0 ≤ i ∧ i < 40) : wt h 139 100 i v km = km (ms h 139 i v) := wt_e (t139 S) (by decide) q.1 (by rw [l139 S]; exact q.2)
theorem S139 : Sh (ms h 139 i v) ↔ Sh h := Sh_ms rfl
theorem M139 : Sh (ma h 139 f) ↔ Sh h := Sh_ma rfl
theorem tl140 (S : Sh h) : tg h 140 = 10 ∧ ln h 140 = 11 := S.t 40 (by decide) rfl rfl
theorem t140 (S : Sh h) : tg h 140 = 10 := (tl140 S).1
theorem gk140 (S : Sh h) : gk h 140 10 k0 = k0 := gk_e (t140 S)
theorem r140_0 (S : Sh h) : mv h 140 0 = 141 := S.r (by decide)
theorem g140_0 (S : Sh h) : gf h 140 10 0 k = k 141 := by rw [gf_e (t140 S), r140_0 S]
theorem r140_1 (S : Sh h) : mv h 140 1 = 147 := S.r (by decide)
theorem g140_1 (S : Sh h) : gf h 140 10 1 k = k 147 := by rw [gf_e (t140 S), r140_1 S]
theorem r140_2 (S : Sh h) : mv h 140 2 = 154 := S.r (by decide)
theorem g140_2 (S : Sh h) : gf h 140 10 2 k = k 154 := by rw [gf_e (t140 S), r140_2 S]
theorem r140_3 (S : Sh h) : mv h 140 3 = 163 := S.r (by decide)
theorem g140_3 (S : Sh h) : gf h 140 10 3 k = k 163 := by rw [gf_e (t140 S), r140_3 S]
theorem r140_4 (S : Sh h) : mv h 140 4 = 168 := S.r (by decide)
theorem g140_4 (S : Sh h) : gf h 140 10 4 k = k 168 := by rw [gf_e (t140 S), r140_4 S]
theorem r140_5 (S : Sh h) : mv h 140 5 = 169 := S.r (by decide)
theorem g140_5 (S : Sh h) : gf h 140 10 5 k = k 169 := by rw [gf_e (t140 S), r140_5 S]
theorem r140_6 (S : Sh h) : mv h 140 6 = 170 := S.r (by decide)
theorem g140_6 (S : Sh h) : gf h 140 10 6 k = k 170 := by rw [gf_e (t140 S), r140_6 S]
theorem g140_7 (S : Sh h) : gf h 140 10 7 k = k (mv h 140 7) := gf_e (t140 S)
theorem p140_7 (S : Sh h) : pf h 140 10 7 v km = km (ms h 140 7 v) := pf_e (t140 S) (by decide)
theorem S140_7 : Sh (ms h 140 7 v) ↔ Sh h := Sh_ms rfl
theorem g140_8 (S : Sh h) : gf h 140 10 8 k = k (mv h 140 8) := gf_e (t140 S)
theorem p140_8 (S : Sh h) : pf h 140 10 8 v km = km (ms h 140 8 v) := pf_e (t140 S) (by decide)
theorem S140_8 : Sh (ms h 140 8 v) ↔ Sh h := Sh_ms rfl
theorem g140_9 (S : Sh h) : gf h 140 10 9 k = k (mv h 140 9) := gf_e (t140 S)
theorem p140_9 (S : Sh h) : pf h 140 10 9 v km = km (ms h 140 9 v) := pf_e (t140 S) (by decide)
theorem S140_9 : Sh (ms h 140 9 v) ↔ Sh h := Sh_ms rfl
theorem g140_10 (S : Sh h) : gf h 140 10 10 k = k (mv h 140 10) := gf_e (t140 S)
theorem p140_10 (S : Sh h) : pf h 140 10 10 v km = km (ms h 140 10 v) := pf_e (t140 S) (by decide)
theorem S140_10 : Sh (ms h 140 10 v) ↔ Sh h := Sh_ms rfl
theorem tl141 (S : Sh h) : tg h 141 = 1 ∧ ln h 141 = 6 := S.t 41 (by decide) rfl rfl
theorem t141 (S : Sh h) : tg h 141 = 1 := (tl141 S).1
theorem gk141 (S : Sh h) : gk h 141 1 k0 = k0 := gk_e (t141 S)
theorem r141_0 (S : Sh h) : mv h 141 0 = 142 := S.r (by decide)
theorem g141_0 (S : Sh h) : gf h 141 1 0 k = k 142 := by rw [gf_e (t141 S), r141_0 S]
theorem r141_1 (S : Sh h) : mv h 141 1 = 143 := S.r (by decide)
theorem g141_1 (S : Sh h) : gf h 141 1 1 k = k 143 := by rw [gf_e (t141 S), r141_1 S]
theorem r141_2 (S : Sh h) : mv h 141 2 = 144 := S.r (by decide)
theorem g141_2 (S : Sh h) : gf h 141 1 2 k = k 144 := by rw [gf_e (t141 S), r141_2 S]
theorem r141_3 (S : Sh h) : mv h 141 3 = 145 := S.r (by decide)
theorem g141_3 (S : Sh h) : gf h 141 1 3 k = k 145 := by rw [gf_e (t141 S), r141_3 S]
theorem r141_4 (S : Sh h) : mv h 141 4 = 146 := S.r (by decide)
theorem g141_4 (S : Sh h) : gf h 141 1 4 k = k 146 := by rw [gf_e (t141 S), r141_4 S]
theorem g141_5 (S : Sh h) : gf h 141 1 5 k = k (mv h 141 5) := gf_e (t141 S)
theorem p141_5 (S : Sh h) : pf h 141 1 5 v km = km (ms h 141 5 v) := pf_e (t141 S) (by decide)
theorem S141_5 : Sh (ms h 141 5 v) ↔ Sh h := Sh_ms rfl
theorem tl142 (S : Sh h) : tg h 142 = 100 ∧ ln h 142 = 80 := S.t 42 (by decide) rfl rfl
theorem t142 (S : Sh h) : tg h 142 = 100 := (tl142 S).1
theorem gk142 (S : Sh h) : gk h 142 100 k0 = k0 := gk_e (t142 S)
theorem l142 (S : Sh h) : ln h 142 = 80 := (tl142 S).2
theorem al142 (S : Sh h) : al h 142 100 k = k 80 := by rw [al_e (t142 S), l142 S]
theorem rd142 (S : Sh h) (q : 0 ≤ i ∧ i < 80) : rd h 142 100 i k = k (mv h 142 i) := rd_e (t142 S) q.1 (by rw [l142 S]; exact q.2)
theorem wt142 (S : Sh h) (q : 0 ≤ i ∧ i < 80) : wt h 142 100 i v km = km (ms h 142 i v) := wt_e (t142 S) (by decide) q.1 (by rw [l142 S]; exact q.2)
theorem S142 : Sh (ms h 142 i v) ↔ Sh h := Sh_ms rfl
theorem M142 : Sh (ma h 142 f) ↔ Sh h := Sh_ma rfl
theorem tl143 (S : Sh h) : tg h 143 = 100 ∧ ln h 143 = 80 := S.t 43 (by decide) rfl rfl
theorem t143 (S : Sh h) : tg h 143 = 100 := (tl143 S).1
theorem gk143 (S : Sh h) : gk h 143 100 k0 = k0 := gk_e (t143 S)
theorem l143 (S : Sh h) : ln h 143 = 80 := (tl143 S).2
theorem al143 (S : Sh h) : al h 143 100 k = k 80 := by rw [al_e (t143 S), l143 S]
theorem rd143 (S : Sh h) (q : 0 ≤ i ∧ i < 80) : rd h 143 100 i k = k (mv h 143 i) := rd_e (t143 S) q.1 (by rw [l143 S]; exact q.2)
theorem wt143 (S : Sh h) (q : 0 ≤ i ∧ i < 80) : wt h 143 100 i v km = km (ms h 143 i v) := wt_e (t143 S) (by decide) q.1 (by rw [l143 S]; exact q.2)
theorem S143 : Sh (ms h 143 i v) ↔ Sh h := Sh_ms rfl
theorem M143 : Sh (ma h 143 f) ↔ Sh h := Sh_ma rfl
theorem tl144 (S : Sh h) : tg h 144 = 100 ∧ ln h 144 = 80 := S.t 44 (by decide) rfl rfl
theorem t144 (S : Sh h) : tg h 144 = 100 := (tl144 S).1
theorem gk144 (S : Sh h) : gk h 144 100 k0 = k0 := gk_e (t144 S)
theorem l144 (S : Sh h) : ln h 144 = 80 := (tl144 S).2
theorem al144 (S : Sh h) : al h 144 100 k = k 80 := by rw [al_e (t144 S), l144 S]
theorem rd144 (S : Sh h) (q : 0 ≤ i ∧ i < 80) : rd h 144 100 i k = k (mv h 144 i) := rd_e (t144 S) q.1 (by rw [l144 S]; exact q.2)
theorem wt144 (S : Sh h) (q : 0 ≤ i ∧ i < 80) : wt h 144 100 i v km = km (ms h 144 i v) := wt_e (t144 S) (by decide) q.1 (by rw [l144 S]; exact q.2)
theorem S144 : Sh (ms h 144 i v) ↔ Sh h := Sh_ms rfl
theorem M144 : Sh (ma h 144 f) ↔ Sh h := Sh_ma rfl
theorem tl145 (S : Sh h) : tg h 145 = 100 ∧ ln h 145 = 6 := S.t 45 (by decide) rfl rfl
theorem t145 (S : Sh h) : tg h 145 = 100 := (tl145 S).1
theorem gk145 (S : Sh h) : gk h 145 100 k0 = k0 := gk_e (t145 S)
theorem l145 (S : Sh h) : ln h 145 = 6 := (tl145 S).2
theorem al145 (S : Sh h) : al h 145 100 k = k 6 := by rw [al_e (t145 S), l145 S]
theorem rd145 (S : Sh h) (q : 0 ≤ i ∧ i < 6) : rd h 145 100 i k = k (mv h 145 i) := rd_e (t145 S) q.1 (by rw [l145 S]; exact q.2)
theorem wt145 (S : Sh h) (q : 0 ≤ i ∧ i < 6) : wt h 145 100 i v km = km (ms h 145 i v) := wt_e (t145 S) (by decide) q.1 (by rw [l145 S]; exact q.2)
theorem S145 : Sh (ms h 145 i v) ↔ Sh h := Sh_ms rfl
theorem M145 : Sh (ma h 145 f) ↔ Sh h := Sh_ma rfl
theorem tl146 (S : Sh h) : tg h 146 = 100 ∧ ln h 146 = 6 := S.t 46 (by decide) rfl rfl
theorem t146 (S : Sh h) : tg h 146 = 100 := (tl146 S).1
theorem gk146 (S : Sh h) : gk h 146 100 k0 = k0 := gk_e (t146 S)
theorem l146 (S : Sh h) : ln h 146 = 6 := (tl146 S).2
theorem al146 (S : Sh h) : al h 146 100 k = k 6 := by rw [al_e (t146 S), l146 S]
theorem rd146 (S : Sh h) (q : 0 ≤ i ∧ i < 6) : rd h 146 100 i k = k (mv h 146 i) := rd_e (t146 S) q.1 (by rw [l146 S]; exact q.2)
theorem wt146 (S : Sh h) (q : 0 ≤ i ∧ i < 6) : wt h 146 100 i v km = km (ms h 146 i v) := wt_e (t146 S) (by decide) q.1 (by rw [l146 S]; exact q.2)
theorem S146 : Sh (ms h 146 i v) ↔ Sh h := Sh_ms rfl
theorem M146 : Sh (ma h 146 f) ↔ Sh h := Sh_ma rfl
theorem tl147 (S : Sh h) : tg h 147 = 5 ∧ ln h 147 = 10 := S.t 47 (by decide) rfl rfl
theorem t147 (S : Sh h) : tg h 147 = 5 := (tl147 S).1
theorem gk147 (S : Sh h) : gk h 147 5 k0 = k0 := gk_e (t147 S)
theorem r147_0 (S : Sh h) : mv h 147 0 = 148 := S.r (by decide)
theorem g147_0 (S : Sh h) : gf h 147 5 0 k = k 148 := by rw [gf_e (t147 S), r147_0 S]
theorem r147_1 (S : Sh h) : mv h 147 1 = 149 := S.r (by decide)
theorem g147_1 (S : Sh h) : gf h 147 5 1 k = k 149 := by rw [gf_e (t147 S), r147_1 S]
theorem r147_2 (S : Sh h) : mv h 147 2 = 150 := S.r (by decide)
theorem g147_2 (S : Sh h) : gf h 147 5 2 k = k 150 := by rw [gf_e (t147 S), r147_2 S]
theorem r147_3 (S : Sh h) : mv h 147 3 = 151 := S.r (by decide)
theorem g147_3 (S : Sh h) : gf h 147 5 3 k = k 151 := by rw [gf_e (t147 S), r147_3 S]
theorem r147_4 (S : Sh h) : mv h 147 4 = 152 := S.r (by decide)
theorem g147_4 (S : Sh h) : gf h 147 5 4 k = k 152 := by rw [gf_e (t147 S), r147_4 S]
theorem r147_5 (S : Sh h) : mv h 147 5 = 153 := S.r (by decide)
theorem g147_5 (S : Sh h) : gf h 147 5 5 k = k 153 := by rw [gf_e (t147 S), r147_5 S]
theorem g147_6 (S : Sh h) : gf h 147 5 6 k = k (mv h 147 6) := gf_e (t147 S)
theorem p147_6 (S : Sh h) : pf h 147 5 6 v km = km (ms h 147 6 v) := pf_e (t147 S) (by decide)
theorem S147_6 : Sh (ms h 147 6 v) ↔ Sh h := Sh_ms rfl
theorem g147_7 (S : Sh h) : gf h 147 5 7 k = k (mv h 147 7) := gf_e (t147 S)
theorem p147_7 (S : Sh h) : pf h 147 5 7 v km = km (ms h 147 7 v) := pf_e (t147 S) (by decide)
theorem S147_7 : Sh (ms h 147 7 v) ↔ Sh h := Sh_ms rfl
theorem g147_8 (S : Sh h) : gf h 147 5 8 k = k (mv h 147 8) := gf_e (t147 S)
theorem p147_8 (S : Sh h) : pf h 147 5 8 v km = km (ms h 147 8 v) := pf_e (t147 S) (by decide)
theorem S147_8 : Sh (ms h 147 8 v) ↔ Sh h := Sh_ms rfl
theorem g147_9 (S : Sh h) : gf h 147 5 9 k = k (mv h 147 9) := gf_e (t147 S)
theorem p147_9 (S : Sh h) : pf h 147 5 9 v km = km (ms h 147 9 v) := pf_e (t147 S) (by decide)
theorem S147_9 : Sh (ms h 147 9 v) ↔ Sh h := Sh_ms rfl
theorem tl148 (S : Sh h) : tg h 148 = 105 ∧ ln h 148 = 60 := S.t 48 (by decide) rfl rfl
theorem t148 (S : Sh h) : tg h 148 = 105 := (tl148 S).1
theorem gk148 (S : Sh h) : gk h 148 105 k0 = k0 := gk_e (t148 S)
theorem l148 (S : Sh h) : ln h 148 = 60 := (tl148 S).2
theorem al148 (S : Sh h) : al h 148 105 k = k 60 := by rw [al_e (t148 S), l148 S]
theorem rd148 (S : Sh h) (q : 0 ≤ i ∧ i < 60) : rd h 148 105 i k = k (mv h 148 i) := rd_e (t148 S) q.1 (by rw [l148 S]; exact q.2)
theorem wt148 (S : Sh h) (q : 0 ≤ i ∧ i < 60) : wt h 148 105 i v km = km (ms h 148 i v) := wt_e (t148 S) (by decide) q.1 (by rw [l148 S]; exact q.2)
theorem S148 : Sh (ms h 148 i v) ↔ Sh h := Sh_ms rfl
theorem M148 : Sh (ma h 148 f) ↔ Sh h := Sh_ma rfl
theorem tl149 (S : Sh h) : tg h 149 = 101 ∧ ln h 149 = 60 := S.t 49 (by decide) rfl rfl
theorem t149 (S : Sh h) : tg h 149 = 101 := (tl149 S).1
theorem gk149 (S : Sh h) : gk h 149 101 k0 = k0 := gk_e (t149 S)
theorem l149 (S : Sh h) : ln h 149 = 60 := (tl149 S).2
theorem al149 (S : Sh h) : al h 149 101 k = k 60 := by rw [al_e (t149 S), l149 S]
theorem rd149 (S : Sh h) (q : 0 ≤ i ∧ i < 60) : rd h 149 101 i k = k (mv h 149 i) := rd_e (t149 S) q.1 (by rw [l149 S]; exact q.2)
theorem wt149 (S : Sh h) (q : 0 ≤ i ∧ i < 60) : wt h 149 101 i v km = km (ms h 149 i v) := wt_e (t149 S) (by decide) q.1 (by rw [l149 S]; exact q.2)
theorem S149 : Sh (ms h 149 i v) ↔ Sh h := Sh_ms rfl
theorem M149 : Sh (ma h 149 f) ↔ Sh h := Sh_ma rfl
theorem tl150 (S : Sh h) : tg h 150 = 100 ∧ ln h 150 = 60 := S.t 50 (by decide) rfl rfl
theorem t150 (S : Sh h) : tg h 150 = 100 := (tl150 S).1
theorem gk150 (S : Sh h) : gk h 150 100 k0 = k0 := gk_e (t150 S)
theorem l150 (S : Sh h) : ln h 150 = 60 := (tl150 S).2
theorem al150 (S : Sh h) : al h 150 100 k = k 60 := by rw [al_e (t150 S), l150 S]
theorem rd150 (S : Sh h) (q : 0 ≤ i ∧ i < 60) : rd h 150 100 i k = k (mv h 150 i) := rd_e (t150 S) q.1 (by rw [l150 S]; exact q.2)
theorem wt150 (S : Sh h) (q : 0 ≤ i ∧ i < 60) : wt h 150 100 i v km = km (ms h 150 i v) := wt_e (t150 S) (by decide) q.1 (by rw [l150 S]; exact q.2)
theorem S150 : Sh (ms h 150 i v) ↔ Sh h := Sh_ms rfl
theorem M150 : Sh (ma h 150 f) ↔ Sh h := Sh_ma rfl
theorem tl151 (S : Sh h) : tg h 151 = 100 ∧ ln h 151 = 60 := S.t 51 (by decide) rfl rfl
theorem t151 (S : Sh h) : tg h 151 = 100 := (tl151 S).1
theorem gk151 (S : Sh h) : gk h 151 100 k0 = k0 := gk_e (t151 S)
theorem l151 (S : Sh h) : ln h 151 = 60 := (tl151 S).2
theorem al151 (S : Sh h) : al h 151 100 k = k 60 := by rw [al_e (t151 S), l151 S]
theorem rd151 (S : Sh h) (q : 0 ≤ i ∧ i < 60) : rd h 151 100 i k = k (mv h 151 i) := rd_e (t151 S) q.1 (by rw [l151 S]; exact q.2)
theorem wt151 (S : Sh h) (q : 0 ≤ i ∧ i < 60) : wt h 151 100 i v km = km (ms h 151 i v) := wt_e (t151 S) (by decide) q.1 (by rw [l151 S]; exact q.2)
theorem S151 : Sh (ms h 151 i v) ↔ Sh h := Sh_ms rfl
theorem M151 : Sh (ma h 151 f) ↔ Sh h := Sh_ma rfl
theorem tl152 (S : Sh h) : tg h 152 = 100 ∧ ln h 152 = 60 := S.t 52 (by decide) rfl rfl
theorem t152 (S : Sh h) : tg h 152 = 100 := (tl152 S).1
theorem gk152 (S : Sh h) : gk h 152 100 k0 = k0 := gk_e (t152 S)
theorem l152 (S : Sh h) : ln h 152 = 60 := (tl152 S).2
theorem al152 (S : Sh h) : al h 152 100 k = k 60 := by rw [al_e (t152 S), l152 S]
theorem rd152 (S : Sh h) (q : 0 ≤ i ∧ i < 60) : rd h 152 100 i k = k (mv h 152 i) := rd_e (t152 S) q.1 (by rw [l152 S]; exact q.2)
theorem wt152 (S : Sh h) (q : 0 ≤ i ∧ i < 60) : wt h 152 100 i v km = km (ms h 152 i v) := wt_e (t152 S) (by decide) q.1 (by rw [l152 S]; exact q.2)
theorem S152 : Sh (ms h 152 i v) ↔ Sh h := Sh_ms rfl
theorem M152 : Sh (ma h 152 f) ↔ Sh h := Sh_ma rfl
theorem tl153 (S : Sh h) : tg h 153 = 100 ∧ ln h 153 = 60 := S.t 53 (by decide) rfl rfl
theorem t153 (S : Sh h) : tg h 153 = 100 := (tl153 S).1
theorem gk153 (S : Sh h) : gk h 153 100 k0 = k0 := gk_e (t153 S)
theorem l153 (S : Sh h) : ln h 153 = 60 := (tl153 S).2
theorem al153 (S : Sh h) : al h 153 100 k = k 60 := by rw [al_e (t153 S), l153 S]
theorem rd153 (S : Sh h) (q : 0 ≤ i ∧ i < 60) : rd h 153 100 i k = k (mv h 153 i) := rd_e (t153 S) q.1 (by rw [l153 S]; exact q.2)
theorem wt153 (S : Sh h) (q : 0 ≤ i ∧ i < 60) : wt h 153 100 i v km = km (ms h 153 i v) := wt_e (t153 S) (by decide) q.1 (by rw [l153 S]; exact q.2)
theorem S153 : Sh (ms h 153 i v) ↔ Sh h := Sh_ms rfl
theorem M153 : Sh (ma h 153 f) ↔ Sh h := Sh_ma rfl
theorem tl154 (S : Sh h) : tg h 154 = 8 ∧ ln h 154 = 9 := S.t 54 (by decide) rfl rfl
theorem t154 (S : Sh h) : tg h 154 = 8 := (tl154 S).1
theorem gk154 (S : Sh h) : gk h 154 8 k0 = k0 := gk_e (t154 S)
theorem r154_0 (S : Sh h) : mv h 154 0 = 155 := S.r (by decide)
theorem g154_0 (S : Sh h) : gf h 154 8 0 k = k 155 := by rw [gf_e (t154 S), r154_0 S]
theorem r154_1 (S : Sh h) : mv h 154 1 = 156 := S.r (by decide)
theorem g154_1 (S : Sh h) : gf h 154 8 1 k = k 156 := by rw [gf_e (t154 S), r154_1 S]
theorem r154_2 (S : Sh h) : mv h 154 2 = 157 := S.r (by decide)
theorem g154_2 (S : Sh h) : gf h 154 8 2 k = k 157 := by rw [gf_e (t154 S), r154_2 S]
theorem r154_3 (S : Sh h) : mv h 154 3 = 158 := S.r (by decide)
theorem g154_3 (S : Sh h) : gf h 154 8 3 k = k 158 := by rw [gf_e (t154 S), r154_3 S]
theorem r154_4 (S : Sh h) : mv h 154 4 = 159 := S.r (by decide)
theorem g154_4 (S : Sh h) : gf h 154 8 4 k = k 159 := by rw [gf_e (t154 S), r154_4 S]
theorem r154_5 (S : Sh h) : mv h 154 5 = 160 := S.r (by decide)
theorem g154_5 (S : Sh h) : gf h 154 8 5 k = k 160 := by rw [gf_e (t154 S), r154_5 S]
theorem r154_6 (S : Sh h) : mv h 154 6 = 161 := S.r (by decide)
theorem g154_6 (S : Sh h) : gf h 154 8 6 k = k 161 := by rw [gf_e (t154 S), r154_6 S]
theorem r154_7 (S : Sh h) : mv h 154 7 = 162 := S.r (by decide)
theorem g154_7 (S : Sh h) : gf h 154 8 7 k = k 162 := by rw [gf_e (t154 S), r154_7 S]
theorem g154_8 (S : Sh h) : gf h 154 8 8 k = k (mv h 154 8) := gf_e (t154 S)
theorem p154_8 (S : Sh h) : pf h 154 8 8 v km = km (ms h 154 8 v) := pf_e (t154 S) (by decide)
theorem S154_8 : Sh (ms h 154 8 v) ↔ Sh h := Sh_ms rfl
theorem tl155 (S : Sh h) : tg h 155 = 100 ∧ ln h 155 = 20 := S.t 55 (by decide) rfl rfl
theorem t155 (S : Sh h) : tg h 155 = 100 := (tl155 S).1
theorem gk155 (S : Sh h) : gk h 155 100 k0 = k0 := gk_e (t155 S)
theorem l155 (S : Sh h) : ln h 155 = 20 := (tl155 S).2
theorem al155 (S : Sh h) : al h 155 100 k = k 20 := by rw [al_e (t155 S), l155 S]
theorem rd155 (S : Sh h) (q : 0 ≤ i ∧ i < 20) : rd h 155 100 i k = k (mv h 155 i) := rd_e (t155 S) q.1 (by rw [l155 S]; exact q.2)
theorem wt155 (S : Sh h) (q : 0 ≤ i ∧ i < 20) : wt h 155 100 i v km = km (ms h 155 i v) := wt_e (t155 S) (by decide) q.1 (by rw [l155 S]; exact q.2)
theorem S155 : Sh (ms h 155 i v) ↔ Sh h := Sh_ms rfl
theorem M155 : Sh (ma h 155 f) ↔ Sh h := Sh_ma rfl
theorem tl156 (S : Sh h) : tg h 156 = 100 ∧ ln h 156 = 108 := S.t 56 (by decide) rfl rfl
theorem t156 (S : Sh h) : tg h 156 = 100 := (tl156 S).1
theorem gk156 (S : Sh h) : gk h 156 100 k0 = k0 := gk_e (t156 S)
theorem l156 (S : Sh h) : ln h 156 = 108 := (tl156 S).2
theorem al156 (S : Sh h) : al h 156 100 k = k 108 := by rw [al_e (t156 S), l156 S]
theorem rd156 (S : Sh h) (q : 0 ≤ i ∧ i < 108) : rd h 156 100 i k = k (mv h 156 i) := rd_e (t156 S) q.1 (by rw [l156 S]; exact q.2)
theorem wt156 (S : Sh h) (q : 0 ≤ i ∧ i < 108) : wt h 156 100 i v km = km (ms h 156 i v) := wt_e (t156 S) (by decide) q.1 (by rw [l156 S]; exact q.2)
theorem S156 : Sh (ms h 156 i v) ↔ Sh h := Sh_ms rfl
theorem M156 : Sh (ma h 156 f) ↔ Sh h := Sh_ma rfl
theorem tl157 (S : Sh h) : tg h 157 = 100 ∧ ln h 157 = 12 := S.t 57 (by decide) rfl rfl
theorem t157 (S : Sh h) : tg h 157 = 100 := (tl157 S).1
theorem gk157 (S : Sh h) : gk h 157 100 k0 = k0 := gk_e (t157 S)
theorem l157 (S : Sh h) : ln h 157 = 12 := (tl157 S).2
theorem al157 (S : Sh h) : al h 157 100 k = k 12 := by rw [al_e (t157 S), l157 S]
theorem rd157 (S : Sh h) (q : 0 ≤ i ∧ i < 12) : rd h 157 100 i k = k (mv h 157 i) := rd_e (t157 S) q.1 (by rw [l157 S]; exact q.2)
theorem wt157 (S : Sh h) (q : 0 ≤ i ∧ i < 12) : wt h 157 100 i v km = km (ms h 157 i v) := wt_e (t157 S) (by decide) q.1 (by rw [l157 S]; exact q.2)
theorem S157 : Sh (ms h 157 i v) ↔ Sh h := Sh_ms rfl
theorem M157 : Sh (ma h 157 f) ↔ Sh h := Sh_ma rfl
theorem tl158 (S : Sh h) : tg h 158 = 100 ∧ ln h 158 = 40 := S.t 58 (by decide) rfl rfl
theorem t158 (S : Sh h) : tg h 158 = 100 := (tl158 S).1
theorem gk158 (S : Sh h) : gk h 158 100 k0 = k0 := gk_e (t158 S)
theorem l158 (S : Sh h) : ln h 158 = 40 := (tl158 S).2
theorem al158 (S : Sh h) : al h 158 100 k = k 40 := by rw [al_e (t158 S), l158 S]
theorem rd158 (S : Sh h) (q : 0 ≤ i ∧ i < 40) : rd h 158 100 i k = k (mv h 158 i) := rd_e (t158 S) q.1 (by rw [l158 S]; exact q.2)
theorem wt158 (S : Sh h) (q : 0 ≤ i ∧ i < 40) : wt h 158 100 i v km = km (ms h 158 i v) := wt_e (t158 S) (by decide) q.1 (by rw [l158 S]; exact q.2)
theorem S158 : Sh (ms h 158 i v) ↔ Sh h := Sh_ms rfl
theorem M158 : Sh (ma h 158 f) ↔ Sh h := Sh_ma rfl
theorem tl159 (S : Sh h) : tg h 159 = 100 ∧ ln h 159 = 40 := S.t 59 (by decide) rfl rfl
theorem t159 (S : Sh h) : tg h 159 = 100 := (tl159 S).1
theorem gk159 (S : Sh h) : gk h 159 100 k0 = k0 := gk_e (t159 S)
theorem l159 (S : Sh h) : ln h 159 = 40 := (tl159 S).2
theorem al159 (S : Sh h) : al h 159 100 k = k 40 := by rw [al_e (t159 S), l159 S]
theorem rd159 (S : Sh h) (q : 0 ≤ i ∧ i < 40) : rd h 159 100 i k = k (mv h 159 i) := rd_e (t159 S) q.1 (by rw [l159 S]; exact q.2)
theorem wt159 (S : Sh h) (q : 0 ≤ i ∧ i < 40) : wt h 159 100 i v km = km (ms h 159 i v) := wt_e (t159 S) (by decide) q.1 (by rw [l159 S]; exact q.2)
theorem S159 : Sh (ms h 159 i v) ↔ Sh h := Sh_ms rfl
theorem M159 : Sh (ma h 159 f) ↔ Sh h := Sh_ma rfl
theorem tl160 (S : Sh h) : tg h 160 = 100 ∧ ln h 160 = 40 := S.t 60 (by decide) rfl rfl
theorem t160 (S : Sh h) : tg h 160 = 100 := (tl160 S).1
theorem gk160 (S : Sh h) : gk h 160 100 k0 = k0 := gk_e (t160 S)
theorem l160 (S : Sh h) : ln h 160 = 40 := (tl160 S).2
theorem al160 (S : Sh h) : al h 160 100 k = k 40 := by rw [al_e (t160 S), l160 S]
theorem rd160 (S : Sh h) (q : 0 ≤ i ∧ i < 40) : rd h 160 100 i k = k (mv h 160 i) := rd_e (t160 S) q.1 (by rw [l160 S]; exact q.2)
theorem wt160 (S : Sh h) (q : 0 ≤ i ∧ i < 40) : wt h 160 100 i v km = km (ms h 160 i v) := wt_e (t160 S) (by decide) q.1 (by rw [l160 S]; exact q.2)
theorem S160 : Sh (ms h 160 i v) ↔ Sh h := Sh_ms rfl
theorem M160 : Sh (ma h 160 f) ↔ Sh h := Sh_ma rfl
theorem tl161 (S : Sh h) : tg h 161 = 100 ∧ ln h 161 = 40 := S.t 61 (by decide) rfl rfl
theorem t161 (S : Sh h) : tg h 161 = 100 := (tl161 S).1
theorem gk161 (S : Sh h) : gk h 161 100 k0 = k0 := gk_e (t161 S)
theorem l161 (S : Sh h) : ln h 161 = 40 := (tl161 S).2
theorem al161 (S : Sh h) : al h 161 100 k = k 40 := by rw [al_e (t161 S), l161 S]
theorem rd161 (S : Sh h) (q : 0 ≤ i ∧ i < 40) : rd h 161 100 i k = k (mv h 161 i) := rd_e (t161 S) q.1 (by rw [l161 S]; exact q.2)
theorem wt161 (S : Sh h) (q : 0 ≤ i ∧ i < 40) : wt h 161 100 i v km = km (ms h 161 i v) := wt_e (t161 S) (by decide) q.1 (by rw [l161 S]; exact q.2)
theorem S161 : Sh (ms h 161 i v) ↔ Sh h := Sh_ms rfl
theorem M161 : Sh (ma h 161 f) ↔ Sh h := Sh_ma rfl
theorem tl162 (S : Sh h) : tg h 162 = 100 ∧ ln h 162 = 40 := S.t 62 (by decide) rfl rfl
theorem t162 (S : Sh h) : tg h 162 = 100 := (tl162 S).1
theorem gk162 (S : Sh h) : gk h 162 100 k0 = k0 := gk_e (t162 S)
theorem l162 (S : Sh h) : ln h 162 = 40 := (tl162 S).2
theorem al162 (S : Sh h) : al h 162 100 k = k 40 := by rw [al_e (t162 S), l162 S]
theorem rd162 (S : Sh h) (q : 0 ≤ i ∧ i < 40) : rd h 162 100 i k = k (mv h 162 i) := rd_e (t162 S) q.1 (by rw [l162 S]; exact q.2)
theorem wt162 (S : Sh h) (q : 0 ≤ i ∧ i < 40) : wt h 162 100 i v km = km (ms h 162 i v) := wt_e (t162 S) (by decide) q.1 (by rw [l162 S]; exact q.2)
theorem S162 : Sh (ms h 162 i v) ↔ Sh h := Sh_ms rfl
theorem M162 : Sh (ma h 162 f) ↔ Sh h := Sh_ma rfl
theorem tl163 (S : Sh h) : tg h 163 = 6 ∧ ln h 163 = 5 := S.t 63 (by decide) rfl rfl
theorem t163 (S : Sh h) : tg h 163 = 6 := (tl163 S).1
theorem gk163 (S : Sh h) : gk h 163 6 k0 = k0 := gk_e (t163 S)
theorem r163_0 (S : Sh h) : mv h 163 0 = 164 := S.r (by decide)
theorem g163_0 (S : Sh h) : gf h 163 6 0 k = k 164 := by rw [gf_e (t163 S), r163_0 S]
theorem r163_1 (S : Sh h) : mv h 163 1 = 165 := S.r (by decide)
theorem g163_1 (S : Sh h) : gf h 163 6 1 k = k 165 := by rw [gf_e (t163 S), r163_1 S]
theorem g163_2 (S : Sh h) : gf h 163 6 2 k = k (mv h 163 2) := gf_e (t163 S)
theorem p163_2 (S : Sh h) : pf h 163 6 2 v km = km (ms h 163 2 v) := pf_e (t163 S) (by decide)
theorem S163_2 : Sh (ms h 163 2 v) ↔ Sh h := Sh_ms rfl
theorem r163_3 (S : Sh h) : mv h 163 3 = 166 := S.r (by decide)
theorem g163_3 (S : Sh h) : gf h 163 6 3 k = k 166 := by rw [gf_e (t163 S), r163_3 S]
theorem r163_4 (S : Sh h) : mv h 163 4 = 167 := S.r (by decide)
theorem g163_4 (S : Sh h) : gf h 163 6 4 k = k 167 := by rw [gf_e (t163 S), r163_4 S]
theorem tl164 (S : Sh h) : tg h 164 = 100 ∧ ln h 164 = 7 := S.t 64 (by decide) rfl rfl
theorem t164 (S : Sh h) : tg h 164 = 100 := (tl164 S).1
theorem gk164 (S : Sh h) : gk h 164 100 k0 = k0 := gk_e (t164 S)
theorem l164 (S : Sh h) : ln h 164 = 7 := (tl164 S).2
theorem al164 (S : Sh h) : al h 164 100 k = k 7 := by rw [al_e (t164 S), l164 S]
theorem rd164 (S : Sh h) (q : 0 ≤ i ∧ i < 7) : rd h 164 100 i k = k (mv h 164 i) := rd_e (t164 S) q.1 (by rw [l164 S]; exact q.2)
theorem wt164 (S : Sh h) (q : 0 ≤ i ∧ i < 7) : wt h 164 100 i v km = km (ms h 164 i v) := wt_e (t164 S) (by decide) q.1 (by rw [l164 S]; exact q.2)
theorem S164 : Sh (ms h 164 i v) ↔ Sh h := Sh_ms rfl
theorem M164 : Sh (ma h 164 f) ↔ Sh h := Sh_ma rfl
theorem tl165 (S : Sh h) : tg h 165 = 100 ∧ ln h 165 = 7 := S.t 65 (by decide) rfl rfl
theorem t165 (S : Sh h) : tg h 165 = 100 := (tl165 S).1
theorem gk165 (S : Sh h) : gk h 165 100 k0 = k0 := gk_e (t165 S)
theorem l165 (S : Sh h) : ln h 165 = 7 := (tl165 S).2
theorem al165 (S : Sh h) : al h 165 100 k = k 7 := by rw [al_e (t165 S), l165 S]
theorem rd165 (S : Sh h) (q : 0 ≤ i ∧ i < 7) : rd h 165 100 i k = k (mv h 165 i) := rd_e (t165 S) q.1 (by rw [l165 S]; exact q.2)
theorem wt165 (S : Sh h) (q : 0 ≤ i ∧ i < 7) : wt h 165 100 i v km = km (ms h 165 i v) := wt_e (t165 S) (by decide) q.1 (by rw [l165 S]; exact q.2)
theorem S165 : Sh (ms h 165 i v) ↔ Sh h := Sh_ms rfl
theorem M165 : Sh (ma h 165 f) ↔ Sh h := Sh_ma rfl
theorem tl166 (S : Sh h) : tg h 166 = 100 ∧ ln h 166 = 7 := S.t 66 (by decide) rfl rfl
theorem t166 (S : Sh h) : tg h 166 = 100 := (tl166 S).1
theorem gk166 (S : Sh h) : gk h 166 100 k0 = k0 := gk_e (t166 S)
theorem l166 (S : Sh h) : ln h 166 = 7 := (tl166 S).2
theorem al166 (S : Sh h) : al h 166 100 k = k 7 := by rw [al_e (t166 S), l166 S]
theorem rd166 (S : Sh h) (q : 0 ≤ i ∧ i < 7) : rd h 166 100 i k = k (mv h 166 i) := rd_e (t166 S) q.1 (by rw [l166 S]; exact q.2)
theorem wt166 (S : Sh h) (q : 0 ≤ i ∧ i < 7) : wt h 166 100 i v km = km (ms h 166 i v) := wt_e (t166 S) (by decide) q.1 (by rw [l166 S]; exact q.2)
theorem S166 : Sh (ms h 166 i v) ↔ Sh h := Sh_ms rfl
theorem M166 : Sh (ma h 166 f) ↔ Sh h := Sh_ma rfl
theorem tl167 (S : Sh h) : tg h 167 = 100 ∧ ln h 167 = 128 := S.t 67 (by decide) rfl rfl
theorem t167 (S : Sh h) : tg h 167 = 100 := (tl167 S).1
theorem gk167 (S : Sh h) : gk h 167 100 k0 = k0 := gk_e (t167 S)
theorem l167 (S : Sh h) : ln h 167 = 128 := (tl167 S).2
theorem al167 (S : Sh h) : al h 167 100 k = k 128 := by rw [al_e (t167 S), l167 S]
theorem rd167 (S : Sh h) (q : 0 ≤ i ∧ i < 128) : rd h 167 100 i k = k (mv h 167 i) := rd_e (t167 S) q.1 (by rw [l167 S]; exact q.2)
theorem wt167 (S : Sh h) (q : 0 ≤ i ∧ i < 128) : wt h 167 100 i v km = km (ms h 167 i v) := wt_e (t167 S) (by decide) q.1 (by rw [l167 S]; exact q.2)
theorem S167 : Sh (ms h 167 i v) ↔ Sh h := Sh_ms rfl
theorem M167 : Sh (ma h 167 f) ↔ Sh h := Sh_ma rfl
theorem tl168 (S : Sh h) : tg h 168 = 106 ∧ ln h 168 = 4 := S.t 68 (by decide) rfl rfl
theorem t168 (S : Sh h) : tg h 168 = 106 := (tl168 S).1
theorem gk168 (S : Sh h) : gk h 168 106 k0 = k0 := gk_e (t168 S)
theorem l168 (S : Sh h) : ln h 168 = 4 := (tl168 S).2
theorem al168 (S : Sh h) : al h 168 106 k = k 4 := by rw [al_e (t168 S), l168 S]
theorem rd168 (S : Sh h) (q : 0 ≤ i ∧ i < 4) : rd h 168 106 i k = k (mv h 168 i) := rd_e (t168 S) q.1 (by rw [l168 S]; exact q.2)
theorem wt168 (S : Sh h) (q : 0 ≤ i ∧ i < 4) : wt h 168 106 i v km = km (ms h 168 i v) := wt_e (t168 S) (by decide) q.1 (by rw [l168 S]; exact q.2)
theorem r168_0 (S : Sh h) : mv h 168 0 = 171 := S.r (by decide)
theorem r168_1 (S : Sh h) : mv h 168 1 = 173 := S.r (by decide)
theorem r168_2 (S : Sh h) : mv h 168 2 = 175 := S.r (by decide)
theorem r168_3 (S : Sh h) : mv h 168 3 = 177 := S.r (by decide)
theorem tl169 (S : Sh h) : tg h 169 = 102 ∧ ln h 169 = 140 := S.t 69 (by decide) rfl rfl
theorem t169 (S : Sh h) : tg h 169 = 102 := (tl169 S).1
theorem gk169 (S : Sh h) : gk h 169 102 k0 = k0 := gk_e (t169 S)
theorem l169 (S : Sh h) : ln h 169 = 140 := (tl169 S).2
theorem al169 (S : Sh h) : al h 169 102 k = k 140 := by rw [al_e (t169 S), l169 S]
theorem rd169 (S : Sh h) (q : 0 ≤ i ∧ i < 140) : rd h 169 102 i k = k (mv h 169 i) := rd_e (t169 S) q.1 (by rw [l169 S]; exact q.2)
theorem wt169 (S : Sh h) (q : 0 ≤ i ∧ i < 140) : wt h 169 102 i v km = km (ms h 169 i v) := wt_e (t169 S) (by decide) q.1 (by rw [l169 S]; exact q.2)
theorem S169 : Sh (ms h 169 i v) ↔ Sh h := Sh_ms rfl
theorem M169 : Sh (ma h 169 f) ↔ Sh h := Sh_ma rfl
theorem tl170 (S : Sh h) : tg h 170 = 104 ∧ ln h 170 = 9 := S.t 70 (by decide) rfl rfl
theorem t170 (S : Sh h) : tg h 170 = 104 := (tl170 S).1
theorem gk170 (S : Sh h) : gk h 170 104 k0 = k0 := gk_e (t170 S)
theorem l170 (S : Sh h) : ln h 170 = 9 := (tl170 S).2
theorem al170 (S : Sh h) : al h 170 104 k = k 9 := by rw [al_e (t170 S), l170 S]
theorem rd170 (S : Sh h) (q : 0 ≤ i ∧ i < 9) : rd h 170 104 i k = k (mv h 170 i) := rd_e (t170 S) q.1 (by rw [l170 S]; exact q.2)
theorem wt170 (S : Sh h) (q : 0 ≤ i ∧ i < 9) : wt h 170 104 i v km = km (ms h 170 i v) := wt_e (t170 S) (by decide) q.1 (by rw [l170 S]; exact q.2)
theorem S170 : Sh (ms h 170 i v) ↔ Sh h := Sh_ms rfl
theorem M170 : Sh (ma h 170 f) ↔ Sh h := Sh_ma rfl
theorem tl171 (S : Sh h) : tg h 171 = 9 ∧ ln h 171 = 3 := S.t 71 (by decide) rfl rfl
theorem t171 (S : Sh h) : tg h 171 = 9 := (tl171 S).1
theorem gk171 (S : Sh h) : gk h 171 9 k0 = k0 := gk_e (t171 S)
theorem r171_0 (S : Sh h) : mv h 171 0 = 172 := S.r (by decide)
theorem g171_0 (S : Sh h) : gf h 171 9 0 k = k 172 := by rw [gf_e (t171 S), r171_0 S]
theorem g171_1 (S : Sh h) : gf h 171 9 1 k = k (mv h 171 1) := gf_e (t171 S)
theorem p171_1 (S : Sh h) : pf h 171 9 1 v km = km (ms h 171 1 v) := pf_e (t171 S) (by decide)
theorem S171_1 : Sh (ms h 171 1 v) ↔ Sh h := Sh_ms rfl
theorem g171_2 (S : Sh h) : gf h 171 9 2 k = k (mv h 171 2) := gf_e (t171 S)
theorem p171_2 (S : Sh h) : pf h 171 9 2 v km = km (ms h 171 2 v) := pf_e (t171 S) (by decide)
theorem S171_2 : Sh (ms h 171 2 v) ↔ Sh h := Sh_ms rfl
theorem tl172 (S : Sh h) : tg h 172 = 100 ∧ ln h 172 = 40 := S.t 72 (by decide) rfl rfl
theorem t172 (S : Sh h) : tg h 172 = 100 := (tl172 S).1
theorem gk172 (S : Sh h) : gk h 172 100 k0 = k0 := gk_e (t172 S)
theorem l172 (S : Sh h) : ln h 172 = 40 := (tl172 S).2
theorem al172 (S : Sh h) : al h 172 100 k = k 40 := by rw [al_e (t172 S), l172 S]
theorem rd172 (S : Sh h) (q : 0 ≤ i ∧ i < 40) : rd h 172 100 i k = k (mv h 172 i) := rd_e (t172 S) q.1 (by rw [l172 S]; exact q.2)
theorem wt172 (S : Sh h) (q : 0 ≤ i ∧ i < 40) : wt h 172 100 i v km = km (ms h 172 i v) := wt_e (t172 S) (by decide) q.1 (by rw [l172 S]; exact q.2)
theorem S172 : Sh (ms h 172 i v) ↔ Sh h := Sh_ms rfl
theorem M172 : Sh (ma h 172 f) ↔ Sh h := Sh_ma rfl
theorem tl173 (S : Sh h) : tg h 173 = 9 ∧ ln h 173 = 3 := S.t 73 (by decide) rfl rfl
theorem t173 (S : Sh h) : tg h 173 = 9 := (tl173 S).1
theorem gk173 (S : Sh h) : gk h 173 9 k0 = k0 := gk_e (t173 S)
theorem r173_0 (S : Sh h) : mv h 173 0 = 174 := S.r (by decide)
theorem g173_0 (S : Sh h) : gf h 173 9 0 k = k 174 := by rw [gf_e (t173 S), r173_0 S]
theorem g173_1 (S : Sh h) : gf h 173 9 1 k = k (mv h 173 1) := gf_e (t173 S)
theorem p173_1 (S : Sh h) : pf h 173 9 1 v km = km (ms h 173 1 v) := pf_e (t173 S) (by decide)
theorem S173_1 : Sh (ms h 173 1 v) ↔ Sh h := Sh_ms rfl
theorem g173_2 (S : Sh h) : gf h 173 9 2 k = k (mv h 173 2) := gf_e (t173 S)
theorem p173_2 (S : Sh h) : pf h 173 9 2 v km = km (ms h 173 2 v) := pf_e (t173 S) (by decide)
theorem S173_2 : Sh (ms h 173 2 v) ↔ Sh h := Sh_ms rfl
theorem tl174 (S : Sh h) : tg h 174 = 100 ∧ ln h 174 = 40 := S.t 74 (by decide) rfl rfl
theorem t174 (S : Sh h) : tg h 174 = 100 := (tl174 S).1
theorem gk174 (S : Sh h) : gk h 174 100 k0 = k0 := gk_e (t174 S)
theorem l174 (S : Sh h) : ln h 174 = 40 := (tl174 S).2
theorem al174 (S : Sh h) : al h 174 100 k = k 40 := by rw [al_e (t174 S), l174 S]
theorem rd174 (S : Sh h) (q : 0 ≤ i ∧ i < 40) : rd h 174 100 i k = k (mv h 174 i) := rd_e (t174 S) q.1 (by rw [l174 S]; exact q.2)
theorem wt174 (S : Sh h) (q : 0 ≤ i ∧ i < 40) : wt h 174 100 i v km = km (ms h 174 i v) := wt_e (t174 S) (by decide) q.1 (by rw [l174 S]; exact q.2)
theorem S174 : Sh (ms h 174 i v) ↔ Sh h := Sh_ms rfl
theorem M174 : Sh (ma h 174 f) ↔ Sh h := Sh_ma rfl
theorem tl175 (S : Sh h) : tg h 175 = 9 ∧ ln h 175 = 3 := S.t 75 (by decide) rfl rfl
theorem t175 (S : Sh h) : tg h 175 = 9 := (tl175 S).1
theorem gk175 (S : Sh h) : gk h 175 9 k0 = k0 := gk_e (t175 S)
theorem r175_0 (S : Sh h) : mv h 175 0 = 176 := S.r (by decide)
theorem g175_0 (S : Sh h) : gf h 175 9 0 k = k 176 := by rw [gf_e (t175 S), r175_0 S]
theorem g175_1 (S : Sh h) : gf h 175 9 1 k = k (mv h 175 1) := gf_e (t175 S)
theorem p175_1 (S : Sh h) : pf h 175 9 1 v km = km (ms h 175 1 v) := pf_e (t175 S) (by decide)
theorem S175_1 : Sh (ms h 175 1 v) ↔ Sh h := Sh_ms rfl
theorem g175_2 (S : Sh h) : gf h 175 9 2 k = k (mv h 175 2) := gf_e (t175 S)
theorem p175_2 (S : Sh h) : pf h 175 9 2 v km = km (ms h 175 2 v) := pf_e (t175 S) (by decide)
theorem S175_2 : Sh (ms h 175 2 v) ↔ Sh h := Sh_ms rfl
theorem tl176 (S : Sh h) : tg h 176 = 100 ∧ ln h 176 = 40 := S.t 76 (by decide) rfl rfl
theorem t176 (S : Sh h) : tg h 176 = 100 := (tl176 S).1
theorem gk176 (S : Sh h) : gk h 176 100 k0 = k0 := gk_e (t176 S)
theorem l176 (S : Sh h) : ln h 176 = 40 := (tl176 S).2
theorem al176 (S : Sh h) : al h 176 100 k = k 40 := by rw [al_e (t176 S), l176 S]
theorem rd176 (S : Sh h) (q : 0 ≤ i ∧ i < 40) : rd h 176 100 i k = k (mv h 176 i) := rd_e (t176 S) q.1 (by rw [l176 S]; exact q.2)
theorem wt176 (S : Sh h) (q : 0 ≤ i ∧ i < 40) : wt h 176 100 i v km = km (ms h 176 i v) := wt_e (t176 S) (by decide) q.1 (by rw [l176 S]; exact q.2)
theorem S176 : Sh (ms h 176 i v) ↔ Sh h := Sh_ms rfl
theorem M176 : Sh (ma h 176 f) ↔ Sh h := Sh_ma rfl
theorem tl177 (S : Sh h) : tg h 177 = 9 ∧ ln h 177 = 3 := S.t 77 (by decide) rfl rfl
theorem t177 (S : Sh h) : tg h 177 = 9 := (tl177 S).1
theorem gk177 (S : Sh h) : gk h 177 9 k0 = k0 := gk_e (t177 S)
theorem r177_0 (S : Sh h) : mv h 177 0 = 178 := S.r (by decide)
theorem g177_0 (S : Sh h) : gf h 177 9 0 k = k 178 := by rw [gf_e (t177 S), r177_0 S]
theorem g177_1 (S : Sh h) : gf h 177 9 1 k = k (mv h 177 1) := gf_e (t177 S)
theorem p177_1 (S : Sh h) : pf h 177 9 1 v km = km (ms h 177 1 v) := pf_e (t177 S) (by decide)
theorem S177_1 : Sh (ms h 177 1 v) ↔ Sh h := Sh_ms rfl
theorem g177_2 (S : Sh h) : gf h 177 9 2 k = k (mv h 177 2) := gf_e (t177 S)
theorem p177_2 (S : Sh h) : pf h 177 9 2 v km = km (ms h 177 2 v) := pf_e (t177 S) (by decide)
theorem S177_2 : Sh (ms h 177 2 v) ↔ Sh h := Sh_ms rfl
theorem tl178 (S : Sh h) : tg h 178 = 100 ∧ ln h 178 = 40 := S.t 78 (by decide) rfl rfl
theorem t178 (S : Sh h) : tg h 178 = 100 := (tl178 S).1
theorem gk178 (S : Sh h) : gk h 178 100 k0 = k0 := gk_e (t178 S)
theorem l178 (S : Sh h) : ln h 178 = 40 := (tl178 S).2
theorem al178 (S : Sh h) : al h 178 100 k = k 40 := by rw [al_e (t178 S), l178 S]
theorem rd178 (S : Sh h) (q : 0 ≤ i ∧ i < 40) : rd h 178 100 i k = k (mv h 178 i) := rd_e (t178 S) q.1 (by rw [l178 S]; exact q.2)
theorem wt178 (S : Sh h) (q : 0 ≤ i ∧ i < 40) : wt h 178 100 i v km = km (ms h 178 i v) := wt_e (t178 S) (by decide) q.1 (by rw [l178 S]; exact q.2)
theorem S178 : Sh (ms h 178 i v) ↔ Sh h := Sh_ms rfl
theorem M178 : Sh (ma h 178 f) ↔ Sh h := Sh_ma rfl
theorem tl179 (S : Sh h) : tg h 179 = 107 ∧ ln h 179 = 1000 := S.t 79 (by decide) rfl rfl
theorem t179 (S : Sh h) : tg h 179 = 107 := (tl179 S).1
theorem gk179 (S : Sh h) : gk h 179 107 k0 = k0 := gk_e (t179 S)
theorem l179 (S : Sh h) : ln h 179 = 1000 := (tl179 S).2
theorem al179 (S : Sh h) : al h 179 107 k = k 1000 := by rw [al_e (t179 S), l179 S]
theorem rd179 (S : Sh h) (q : 0 ≤ i ∧ i < 1000) : rd h 179 107 i k = k (mv h 179 i) := rd_e (t179 S) q.1 (by rw [l179 S]; exact q.2)
theorem wt179 (S : Sh h) (q : 0 ≤ i ∧ i < 1000) : wt h 179 107 i v km = km (ms h 179 i v) := wt_e (t179 S) (by decide) q.1 (by rw [l179 S]; exact q.2)
theorem S179 : Sh (ms h 179 i v) ↔ Sh h := Sh_ms rfl
theorem M179 : Sh (ma h 179 f) ↔ Sh h := Sh_ma rfl
theorem tl180 (S : Sh h) : tg h 180 = 7 ∧ ln h 180 = 9 := S.t 80 (by decide) rfl rfl
theorem t180 (S : Sh h) : tg h 180 = 7 := (tl180 S).1
theorem gk180 (S : Sh h) : gk h 180 7 k0 = k0 := gk_e (t180 S)
theorem r180_0 (S : Sh h) : mv h 180 0 = 181 := S.r (by decide)
theorem g180_0 (S : Sh h) : gf h 180 7 0 k = k 181 := by rw [gf_e (t180 S), r180_0 S]
theorem g180_1 (S : Sh h) : gf h 180 7 1 k = k (mv h 180 1) := gf_e (t180 S)
theorem p180_1 (S : Sh h) : pf h 180 7 1 v km = km (ms h 180 1 v) := pf_e (t180 S) (by decide)
theorem S180_1 : Sh (ms h 180 1 v) ↔ Sh h := Sh_ms rfl
theorem g180_2 (S : Sh h) : gf h 180 7 2 k = k (mv h 180 2) := gf_e (t180 S)
theorem p180_2 (S : Sh h) : pf h 180 7 2 v km = km (ms h 180 2 v) := pf_e (t180 S) (by decide)
theorem S180_2 : Sh (ms h 180 2 v) ↔ Sh h := Sh_ms rfl
theorem r180_3 (S : Sh h) : mv h 180 3 = 182 := S.r (by decide)
theorem g180_3 (S : Sh h) : gf h 180 7 3 k = k 182 := by rw [gf_e (t180 S), r180_3 S]
theorem r180_4 (S : Sh h) : mv h 180 4 = 183 := S.r (by decide)
theorem g180_4 (S : Sh h) : gf h 180 7 4 k = k 183 := by rw [gf_e (t180 S), r180_4 S]
theorem g180_5 (S : Sh h) : gf h 180 7 5 k = k (mv h 180 5) := gf_e (t180 S)
theorem p180_5 (S : Sh h) : pf h 180 7 5 v km = km (ms h 180 5 v) := pf_e (t180 S) (by decide)
theorem S180_5 : Sh (ms h 180 5 v) ↔ Sh h := Sh_ms rfl
theorem g180_6 (S : Sh h) : gf h 180 7 6 k = k (mv h 180 6) := gf_e (t180 S)
theorem p180_6 (S : Sh h) : pf h 180 7 6 v km = km (ms h 180 6 v) := pf_e (t180 S) (by decide)
theorem S180_6 : Sh (ms h 180 6 v) ↔ Sh h := Sh_ms rfl
theorem g180_7 (S : Sh h) : gf h 180 7 7 k = k (mv h 180 7) := gf_e (t180 S)
theorem p180_7 (S : Sh h) : pf h 180 7 7 v km = km (ms h 180 7 v) := pf_e (t180 S) (by decide)
theorem S180_7 : Sh (ms h 180 7 v) ↔ Sh h := Sh_ms rfl
theorem g180_8 (S : Sh h) : gf h 180 7 8 k = k (mv h 180 8) := gf_e (t180 S)
theorem p180_8 (S : Sh h) : pf h 180 7 8 v km = km (ms h 180 8 v) := pf_e (t180 S) (by decide)
theorem S180_8 : Sh (ms h 180 8 v) ↔ Sh h := Sh_ms rfl
theorem tl181 (S : Sh h) : tg h 181 = 100 ∧ ln h 181 = 80 := S.t 81 (by decide) rfl rfl
theorem t181 (S : Sh h) : tg h 181 = 100 := (tl181 S).1
theorem gk181 (S : Sh h) : gk h 181 100 k0 = k0 := gk_e (t181 S)
theorem l181 (S : Sh h) : ln h 181 = 80 := (tl181 S).2
theorem al181 (S : Sh h) : al h 181 100 k = k 80 := by rw [al_e (t181 S), l181 S]
theorem rd181 (S : Sh h) (q : 0 ≤ i ∧ i < 80) : rd h 181 100 i k = k (mv h 181 i) := rd_e (t181 S) q.1 (by rw [l181 S]; exact q.2)
theorem wt181 (S : Sh h) (q : 0 ≤ i ∧ i < 80) : wt h 181 100 i v km = km (ms h 181 i v) := wt_e (t181 S) (by decide) q.1 (by rw [l181 S]; exact q.2)
theorem S181 : Sh (ms h 181 i v) ↔ Sh h := Sh_ms rfl
theorem M181 : Sh (ma h 181 f) ↔ Sh h := Sh_ma rfl
theorem tl182 (S : Sh h) : tg h 182 = 100 ∧ ln h 182 = 80 := S.t 82 (by decide) rfl rfl
theorem t182 (S : Sh h) : tg h 182 = 100 := (tl182 S).1
theorem gk182 (S : Sh h) : gk h 182 100 k0 = k0 := gk_e (t182 S)
theorem l182 (S : Sh h) : ln h 182 = 80 := (tl182 S).2
theorem al182 (S : Sh h) : al h 182 100 k = k 80 := by rw [al_e (t182 S), l182 S]
theorem rd182 (S : Sh h) (q : 0 ≤ i ∧ i < 80) : rd h 182 100 i k = k (mv h 182 i) := rd_e (t182 S) q.1 (by rw [l182 S]; exact q.2)
theorem wt182 (S : Sh h) (q : 0 ≤ i ∧ i < 80) : wt h 182 100 i v km = km (ms h 182 i v) := wt_e (t182 S) (by decide) q.1 (by rw [l182 S]; exact q.2)
theorem S182 : Sh (ms h 182 i v) ↔ Sh h := Sh_ms rfl
theorem M182 : Sh (ma h 182 f) ↔ Sh h := Sh_ma rfl
theorem tl183 (S : Sh h) : tg h 183 = 103 ∧ ln h 183 = 80 := S.t 83 (by decide) rfl rfl
theorem t183 (S : Sh h) : tg h 183 = 103 := (tl183 S).1
theorem gk183 (S : Sh h) : gk h 183 103 k0 = k0 := gk_e (t183 S)
theorem l183 (S : Sh h) : ln h 183 = 80 := (tl183 S).2
theorem al183 (S : Sh h) : al h 183 103 k = k 80 := by rw [al_e (t183 S), l183 S]
theorem rd183 (S : Sh h) (q : 0 ≤ i ∧ i < 80) : rd h 183 103 i k = k (mv h 183 i) := rd_e (t183 S) q.1 (by rw [l183 S]; exact q.2)
theorem wt183 (S : Sh h) (q : 0 ≤ i ∧ i < 80) : wt h 183 103 i v km = km (ms h 183 i v) := wt_e (t183 S) (by decide) q.1 (by rw [l183 S]; exact q.2)
theorem S183 : Sh (ms h 183 i v) ↔ Sh h := Sh_ms rfl
theorem M183 : Sh (ma h 183 f) ↔ Sh h := Sh_ma rfl
theorem tl184 (S : Sh h) : tg h 184 = 0 ∧ ln h 184 = 7 := S.t 84 (by decide) rfl rfl
theorem t184 (S : Sh h) : tg h 184 = 0 := (tl184 S).1
theorem gk184 (S : Sh h) : gk h 184 0 k0 = k0 := gk_e (t184 S)
theorem r184_0 (S : Sh h) : mv h 184 0 = 185 := S.r (by decide)
theorem g184_0 (S : Sh h) : gf h 184 0 0 k = k 185 := by rw [gf_e (t184 S), r184_0 S]
theorem r184_1 (S : Sh h) : mv h 184 1 = 186 := S.r (by decide)
theorem g184_1 (S : Sh h) : gf h 184 0 1 k = k 186 := by rw [gf_e (t184 S), r184_1 S]
theorem r184_2 (S : Sh h) : mv h 184 2 = 187 := S.r (by decide)
theorem g184_2 (S : Sh h) : gf h 184 0 2 k = k 187 := by rw [gf_e (t184 S), r184_2 S]
theorem r184_3 (S : Sh h) : mv h 184 3 = 188 := S.r (by decide)
theorem g184_3 (S : Sh h) : gf h 184 0 3 k = k 188 := by rw [gf_e (t184 S), r184_3 S]
theorem r184_4 (S : Sh h) : mv h 184 4 = 189 := S.r (by decide)
theorem g184_4 (S : Sh h) : gf h 184 0 4 k = k 189 := by rw [gf_e (t184 S), r184_4 S]
theorem r184_5 (S : Sh h) : mv h 184 5 = 190 := S.r (by decide)
theorem g184_5 (S : Sh h) : gf h 184 0 5 k = k 190 := by rw [gf_e (t184 S), r184_5 S]
theorem g184_6 (S : Sh h) : gf h 184 0 6 k = k (mv h 184 6) := gf_e (t184 S)
theorem p184_6 (S : Sh h) : pf h 184 0 6 v km = km (ms h 184 6 v) := pf_e (t184 S) (by decide)
theorem S184_6 : Sh (ms h 184 6 v) ↔ Sh h := Sh_ms rfl
theorem tl185 (S : Sh h) : tg h 185 = 100 ∧ ln h 185 = 96 := S.t 85 (by decide) rfl rfl
theorem t185 (S : Sh h) : tg h 185 = 100 := (tl185 S).1
theorem gk185 (S : Sh h) : gk h 185 100 k0 = k0 := gk_e (t185 S)
theorem l185 (S : Sh h) : ln h 185 = 96 := (tl185 S).2
theorem al185 (S : Sh h) : al h 185 100 k = k 96 := by rw [al_e (t185 S), l185 S]
theorem rd185 (S : Sh h) (q : 0 ≤ i ∧ i < 96) : rd h 185 100 i k = k (mv h 185 i) := rd_e (t185 S) q.1 (by rw [l185 S]; exact q.2)
theorem wt185 (S : Sh h) (q : 0 ≤ i ∧ i < 96) : wt h 185 100 i v km = km (ms h 185 i v) := wt_e (t185 S) (by decide) q.1 (by rw [l185 S]; exact q.2)
theorem S185 : Sh (ms h 185 i v) ↔ Sh h := Sh_ms rfl
theorem M185 : Sh (ma h 185 f) ↔ Sh h := Sh_ma rfl
theorem tl186 (S : Sh h) : tg h 186 = 100 ∧ ln h 186 = 96 := S.t 86 (by decide) rfl rfl
theorem t186 (S : Sh h) : tg h 186 = 100 := (tl186 S).1
theorem gk186 (S : Sh h) : gk h 186 100 k0 = k0 := gk_e (t186 S)
theorem l186 (S : Sh h) : ln h 186 = 96 := (tl186 S).2
theorem al186 (S : Sh h) : al h 186 100 k = k 96 := by rw [al_e (t186 S), l186 S]
theorem rd186 (S : Sh h) (q : 0 ≤ i ∧ i < 96) : rd h 186 100 i k = k (mv h 186 i) := rd_e (t186 S) q.1 (by rw [l186 S]; exact q.2)
theorem wt186 (S : Sh h) (q : 0 ≤ i ∧ i < 96) : wt h 186 100 i v km = km (ms h 186 i v) := wt_e (t186 S) (by decide) q.1 (by rw [l186 S]; exact q.2)
theorem S186 : Sh (ms h 186 i v) ↔ Sh h := Sh_ms rfl
theorem M186 : Sh (ma h 186 f) ↔ Sh h := Sh_ma rfl
theorem tl187 (S : Sh h) : tg h 187 = 100 ∧ ln h 187 = 96 := S.t 87 (by decide) rfl rfl
theorem t187 (S : Sh h) : tg h 187 = 100 := (tl187 S).1
theorem gk187 (S : Sh h) : gk h 187 100 k0 = k0 := gk_e (t187 S)
theorem l187 (S : Sh h) : ln h 187 = 96 := (tl187 S).2
theorem al187 (S : Sh h) : al h 187 100 k = k 96 := by rw [al_e (t187 S), l187 S]
theorem rd187 (S : Sh h) (q : 0 ≤ i ∧ i < 96) : rd h 187 100 i k = k (mv h 187 i) := rd_e (t187 S) q.1 (by rw [l187 S]; exact q.2)
theorem wt187 (S : Sh h) (q : 0 ≤ i ∧ i < 96) : wt h 187 100 i v km = km (ms h 187 i v) := wt_e (t187 S) (by decide) q.1 (by rw [l187 S]; exact q.2)
theorem S187 : Sh (ms h 187 i v) ↔ Sh h := Sh_ms rfl
theorem M187 : Sh (ma h 187 f) ↔ Sh h := Sh_ma rfl
theorem tl188 (S : Sh h) : tg h 188 = 100 ∧ ln h 188 = 96 := S.t 88 (by decide) rfl rfl
theorem t188 (S : Sh h) : tg h 188 = 100 := (tl188 S).1
theorem gk188 (S : Sh h) : gk h 188 100 k0 = k0 := gk_e (t188 S)
theorem l188 (S : Sh h) : ln h 188 = 96 := (tl188 S).2
theorem al188 (S : Sh h) : al h 188 100 k = k 96 := by rw [al_e (t188 S), l188 S]
theorem rd188 (S : Sh h) (q : 0 ≤ i ∧ i < 96) : rd h 188 100 i k = k (mv h 188 i) := rd_e (t188 S) q.1 (by rw [l188 S]; exact q.2)
theorem wt188 (S : Sh h) (q : 0 ≤ i ∧ i < 96) : wt h 188 100 i v km = km (ms h 188 i v) := wt_e (t188 S) (by decide) q.1 (by rw [l188 S]; exact q.2)
theorem S188 : Sh (ms h 188 i v) ↔ Sh h := Sh_ms rfl
theorem M188 : Sh (ma h 188 f) ↔ Sh h := Sh_ma rfl
theorem tl189 (S : Sh h) : tg h 189 = 100 ∧ ln h 189 = 20 := S.t 89 (by decide) rfl rfl
theorem t189 (S : Sh h) : tg h 189 = 100 := (tl189 S).1
theorem gk189 (S : Sh h) : gk h 189 100 k0 = k0 := gk_e (t189 S)
theorem l189 (S : Sh h) : ln h 189 = 20 := (tl189 S).2
theorem al189 (S : Sh h) : al h 189 100 k = k 20 := by rw [al_e (t189 S), l189 S]
theorem rd189 (S : Sh h) (q : 0 ≤ i ∧ i < 20) : rd h 189 100 i k = k (mv h 189 i) := rd_e (t189 S) q.1 (by rw [l189 S]; exact q.2)
theorem wt189 (S : Sh h) (q : 0 ≤ i ∧ i < 20) : wt h 189 100 i v km = km (ms h 189 i v) := wt_e (t189 S) (by decide) q.1 (by rw [l189 S]; exact q.2)
theorem S189 : Sh (ms h 189 i v) ↔ Sh h := Sh_ms rfl
theorem M189 : Sh (ma h 189 f) ↔ Sh h := Sh_ma rfl
theorem tl190 (S : Sh h) : tg h 190 = 100 ∧ ln h 190 = 20 := S.t 90 (by decide) rfl rfl
theorem t190 (S : Sh h) : tg h 190 = 100 := (tl190 S).1
theorem gk190 (S : Sh h) : gk h 190 100 k0 = k0 := gk_e (t190 S)
theorem l190 (S : Sh h) : ln h 190 = 20 := (tl190 S).2
theorem al190 (S : Sh h) : al h 190 100 k = k 20 := by rw [al_e (t190 S), l190 S]
theorem rd190 (S : Sh h) (q : 0 ≤ i ∧ i < 20) : rd h 190 100 i k = k (mv h 190 i) := rd_e (t190 S) q.1 (by rw [l190 S]; exact q.2)
theorem wt190 (S : Sh h) (q : 0 ≤ i ∧ i < 20) : wt h 190 100 i v km = km (ms h 190 i v) := wt_e (t190 S) (by decide) q.1 (by rw [l190 S]; exact q.2)
theorem S190 : Sh (ms h 190 i v) ↔ Sh h := Sh_ms rfl
theorem M190 : Sh (ma h 190 f) ↔ Sh h := Sh_ma rfl
theorem tl191 (S : Sh h) : tg h 191 = 2 ∧ ln h 191 = 7 := S.t 91 (by decide) rfl rfl
theorem t191 (S : Sh h) : tg h 191 = 2 := (tl191 S).1
theorem gk191 (S : Sh h) : gk h 191 2 k0 = k0 := gk_e (t191 S)
theorem r191_0 (S : Sh h) : mv h 191 0 = 192 := S.r (by decide)
theorem g191_0 (S : Sh h) : gf h 191 2 0 k = k 192 := by rw [gf_e (t191 S), r191_0 S]
theorem r191_1 (S : Sh h) : mv h 191 1 = 193 := S.r (by decide)
theorem g191_1 (S : Sh h) : gf h 191 2 1 k = k 193 := by rw [gf_e (t191 S), r191_1 S]
theorem r191_2 (S : Sh h) : mv h 191 2 = 194 := S.r (by decide)
theorem g191_2 (S : Sh h) : gf h 191 2 2 k = k 194 := by rw [gf_e (t191 S), r191_2 S]
theorem r191_3 (S : Sh h) : mv h 191 3 = 195 := S.r (by decide)
theorem g191_3 (S : Sh h) : gf h 191 2 3 k = k 195 := by rw [gf_e (t191 S), r191_3 S]
theorem r191_4 (S : Sh h) : mv h 191 4 = 196 := S.r (by decide)
theorem g191_4 (S : Sh h) : gf h 191 2 4 k = k 196 := by rw [gf_e (t191 S), r191_4 S]
theorem g191_5 (S : Sh h) : gf h 191 2 5 k = k (mv h 191 5) := gf_e (t191 S)
theorem p191_5 (S : Sh h) : pf h 191 2 5 v km = km (ms h 191 5 v) := pf_e (t191 S) (by decide)
theorem S191_5 : Sh (ms h 191 5 v) ↔ Sh h := Sh_ms rfl
theorem g191_6 (S : Sh h) : gf h 191 2 6 k = k (mv h 191 6) := gf_e (t191 S)
theorem p191_6 (S : Sh h) : pf h 191 2 6 v km = km (ms h 191 6 v) := pf_e (t191 S) (by decide)
theorem S191_6 : Sh (ms h 191 6 v) ↔ Sh h := Sh_ms rfl
theorem tl192 (S : Sh h) : tg h 192 = 100 ∧ ln h 192 = 10 := S.t 92 (by decide) rfl rfl
theorem t192 (S : Sh h) : tg h 192 = 100 := (tl192 S).1
theorem gk192 (S : Sh h) : gk h 192 100 k0 = k0 := gk_e (t192 S)
theorem l192 (S : Sh h) : ln h 192 = 10 := (tl192 S).2
theorem al192 (S : Sh h) : al h 192 100 k = k 10 := by rw [al_e (t192 S), l192 S]
theorem rd192 (S : Sh h) (q : 0 ≤ i ∧ i < 10) : rd h 192 100 i k = k (mv h 192 i) := rd_e (t192 S) q.1 (by rw [l192 S]; exact q.2)
theorem wt192 (S : Sh h) (q : 0 ≤ i ∧ i < 10) : wt h 192 100 i v km = km (ms h 192 i v) := wt_e (t192 S) (by decide) q.1 (by rw [l192 S]; exact q.2)
theorem S192 : Sh (ms h 192 i v) ↔ Sh h := Sh_ms rfl
theorem M192 : Sh (ma h 192 f) ↔ Sh h := Sh_ma rfl
theorem tl193 (S : Sh h) : tg h 193 = 100 ∧ ln h 193 = 10 := S.t 93 (by decide) rfl rfl
theorem t193 (S : Sh h) : tg h 193 = 100 := (tl193 S).1
theorem gk193 (S : Sh h) : gk h 193 100 k0 = k0 := gk_e (t193 S)
theorem l193 (S : Sh h) : ln h 193 = 10 := (tl193 S).2
theorem al193 (S : Sh h) : al h 193 100 k = k 10 := by rw [al_e (t193 S), l193 S]
theorem rd193 (S : Sh h) (q : 0 ≤ i ∧ i < 10) : rd h 193 100 i k = k (mv h 193 i) := rd_e (t193 S) q.1 (by rw [l193 S]; exact q.2)
theorem wt193 (S : Sh h) (q : 0 ≤ i ∧ i < 10) : wt h 193 100 i v km = km (ms h 193 i v) := wt_e (t193 S) (by decide) q.1 (by rw [l193 S]; exact q.2)
theorem S193 : Sh (ms h 193 i v) ↔ Sh h := Sh_ms rfl
theorem M193 : Sh (ma h 193 f) ↔ Sh h := Sh_ma rfl
theorem tl194 (S : Sh h) : tg h 194 = 100 ∧ ln h 194 = 10 := S.t 94 (by decide) rfl rfl
theorem t194 (S : Sh h) : tg h 194 = 100 := (tl194 S).1
theorem gk194 (S : Sh h) : gk h 194 100 k0 = k0 := gk_e (t194 S)
theorem l194 (S : Sh h) : ln h 194 = 10 := (tl194 S).2
theorem al194 (S : Sh h) : al h 194 100 k = k 10 := by rw [al_e (t194 S), l194 S]
theorem rd194 (S : Sh h) (q : 0 ≤ i ∧ i < 10) : rd h 194 100 i k = k (mv h 194 i) := rd_e (t194 S) q.1 (by rw [l194 S]; exact q.2)
theorem wt194 (S : Sh h) (q : 0 ≤ i ∧ i < 10) : wt h 194 100 i v km = km (ms h 194 i v) := wt_e (t194 S) (by decide) q.1 (by rw [l194 S]; exact q.2)
theorem S194 : Sh (ms h 194 i v) ↔ Sh h := Sh_ms rfl
theorem M194 : Sh (ma h 194 f) ↔ Sh h := Sh_ma rfl
theorem tl195 (S : Sh h) : tg h 195 = 100 ∧ ln h 195 = 10 := S.t 95 (by decide) rfl rfl
theorem t195 (S : Sh h) : tg h 195 = 100 := (tl195 S).1
theorem gk195 (S : Sh h) : gk h 195 100 k0 = k0 := gk_e (t195 S)
theorem l195 (S : Sh h) : ln h 195 = 10 := (tl195 S).2
theorem al195 (S : Sh h) : al h 195 100 k = k 10 := by rw [al_e (t195 S), l195 S]
theorem rd195 (S : Sh h) (q : 0 ≤ i ∧ i < 10) : rd h 195 100 i k = k (mv h 195 i) := rd_e (t195 S) q.1 (by rw [l195 S]; exact q.2)
theorem wt195 (S : Sh h) (q : 0 ≤ i ∧ i < 10) : wt h 195 100 i v km = km (ms h 195 i v) := wt_e (t195 S) (by decide) q.1 (by rw [l195 S]; exact q.2)
theorem S195 : Sh (ms h 195 i v) ↔ Sh h := Sh_ms rfl
theorem M195 : Sh (ma h 195 f) ↔ Sh h := Sh_ma rfl
theorem tl196 (S : Sh h) : tg h 196 = 100 ∧ ln h 196 = 10 := S.t 96 (by decide) rfl rfl
theorem t196 (S : Sh h) : tg h 196 = 100 := (tl196 S).1
theorem gk196 (S : Sh h) : gk h 196 100 k0 = k0 := gk_e (t196 S)
theorem l196 (S : Sh h) : ln h 196 = 10 := (tl196 S).2
theorem al196 (S : Sh h) : al h 196 100 k = k 10 := by rw [al_e (t196 S), l196 S]
theorem rd196 (S : Sh h) (q : 0 ≤ i ∧ i < 10) : rd h 196 100 i k = k (mv h 196 i) := rd_e (t196 S) q.1 (by rw [l196 S]; exact q.2)
theorem wt196 (S : Sh h) (q : 0 ≤ i ∧ i < 10) : wt h 196 100 i v km = km (ms h 196 i v) := wt_e (t196 S) (by decide) q.1 (by rw [l196 S]; exact q.2)
theorem S196 : Sh (ms h 196 i v) ↔ Sh h := Sh_ms rfl
theorem M196 : Sh (ma h 196 f) ↔ Sh h := Sh_ma rfl
theorem tl197 (S : Sh h) : tg h 197 = 12 ∧ ln h 197 = 21 := S.t 97 (by decide) rfl rfl
theorem t197 (S : Sh h) : tg h 197 = 12 := (tl197 S).1
theorem gk197 (S : Sh h) : gk h 197 12 k0 = k0 := gk_e (t197 S)
theorem g197_0 (S : Sh h) : gf h 197 12 0 k = k (mv h 197 0) := gf_e (t197 S)
theorem p197_0 (S : Sh h) : pf h 197 12 0 v km = km (ms h 197 0 v) := pf_e (t197 S) (by decide)
theorem S197_0 : Sh (ms h 197 0 v) ↔ Sh h := Sh_ms rfl
theorem r197_1 (S : Sh h) : mv h 197 1 = 198 := S.r (by decide)
theorem g197_1 (S : Sh h) : gf h 197 12 1 k = k 198 := by rw [gf_e (t197 S), r197_1 S]
theorem r197_2 (S : Sh h) : mv h 197 2 = 199 := S.r (by decide)
theorem g197_2 (S : Sh h) : gf h 197 12 2 k = k 199 := by rw [gf_e (t197 S), r197_2 S]
theorem g197_3 (S : Sh h) : gf h 197 12 3 k = k (mv h 197 3) := gf_e (t197 S)
theorem p197_3 (S : Sh h) : pf h 197 12 3 v km = km (ms h 197 3 v) := pf_e (t197 S) (by decide)
theorem S197_3 : Sh (ms h 197 3 v) ↔ Sh h := Sh_ms rfl
theorem g197_4 (S : Sh h) : gf h 197 12 4 k = k (mv h 197 4) := gf_e (t197 S)
theorem p197_4 (S : Sh h) : pf h 197 12 4 v km = km (ms h 197 4 v) := pf_e (t197 S) (by decide)
theorem S197_4 : Sh (ms h 197 4 v) ↔ Sh h := Sh_ms rfl
theorem g197_5 (S : Sh h) : gf h 197 12 5 k = k (mv h 197 5) := gf_e (t197 S)
theorem p197_5 (S : Sh h) : pf h 197 12 5 v km = km (ms h 197 5 v) := pf_e (t197 S) (by decide)
theorem S197_5 : Sh (ms h 197 5 v) ↔ Sh h := Sh_ms rfl
theorem g197_6 (S : Sh h) : gf h 197 12 6 k = k (mv h 197 6) := gf_e (t197 S)
theorem p197_6 (S : Sh h) : pf h 197 12 6 v km = km (ms h 197 6 v) := pf_e (t197 S) (by decide)
theorem S197_6 : Sh (ms h 197 6 v) ↔ Sh h := Sh_ms rfl
theorem g197_7 (S : Sh h) : gf h 197 12 7 k = k (mv h 197 7) := gf_e (t197 S)
theorem p197_7 (S : Sh h) : pf h 197 12 7 v km = km (ms h 197 7 v) := pf_e (t197 S) (by decide)
theorem S197_7 : Sh (ms h 197 7 v) ↔ Sh h := Sh_ms rfl
theorem r197_8 (S : Sh h) : mv h 197 8 = 200 := S.r (by decide)
theorem g197_8 (S : Sh h) : gf h 197 12 8 k = k 200 := by rw [gf_e (t197 S), r197_8 S]
theorem r197_9 (S : Sh h) : mv h 197 9 = 201 := S.r (by decide)
theorem g197_9 (S : Sh h) : gf h 197 12 9 k = k 201 := by rw [gf_e (t197 S), r197_9 S]
theorem r197_10 (S : Sh h) : mv h 197 10 = 202 := S.r (by decide)
theorem g197_10 (S : Sh h) : gf h 197 12 10 k = k 202 := by rw [gf_e (t197 S), r197_10 S]
theorem r197_11 (S : Sh h) : mv h 197 11 = 203 := S.r (by decide)
theorem g197_11 (S : Sh h) : gf h 197 12 11 k = k 203 := by rw [gf_e (t197 S), r197_11 S]
theorem r197_12 (S : Sh h) : mv h 197 12 = 204 := S.r (by decide)
theorem g197_12 (S : Sh h) : gf h 197 12 12 k = k 204 := by rw [gf_e (t197 S), r197_12 S]
theorem g197_13 (S : Sh h) : gf h 197 12 13 k = k (mv h 197 13) := gf_e (t197 S)
theorem p197_13 (S : Sh h) : pf h 197 12 13 v km = km (ms h 197 13 v) := pf_e (t197 S) (by decide)
theorem S197_13 : Sh (ms h 197 13 v) ↔ Sh h := Sh_ms rfl
theorem r197_14 (S : Sh h) : mv h 197 14 = 205 := S.r (by decide)
theorem g197_14 (S : Sh h) : gf h 197 12 14 k = k 205 := by rw [gf_e (t197 S), r197_14 S]
theorem r197_15 (S : Sh h) : mv h 197 15 = 206 := S.r (by decide)
theorem g197_15 (S : Sh h) : gf h 197 12 15 k = k 206 := by rw [gf_e (t197 S), r197_15 S]
theorem r197_16 (S : Sh h) : mv h 197 16 = 207 := S.r (by decide)
theorem g197_16 (S : Sh h) : gf h 197 12 16 k = k 207 := by rw [gf_e (t197 S), r197_16 S]
theorem r197_17 (S : Sh h) : mv h 197 17 = 208 := S.r (by decide)
theorem g197_17 (S : Sh h) : gf h 197 12 17 k = k 208 := by rw [gf_e (t197 S), r197_17 S]
theorem r197_18 (S : Sh h) : mv h 197 18 = 209 := S.r (by decide)
theorem g197_18 (S : Sh h) : gf h 197 12 18 k = k 209 := by rw [gf_e (t197 S), r197_18 S]
theorem r197_19 (S : Sh h) : mv h 197 19 = 210 := S.r (by decide)
theorem g197_19 (S : Sh h) : gf h 197 12 19 k = k 210 := by rw [gf_e (t197 S), r197_19 S]
theorem r197_20 (S : Sh h) : mv h 197 20 = 211 := S.r (by decide)
theorem g197_20 (S : Sh h) : gf h 197 12 20 k = k 211 := by rw [gf_e (t197 S), r197_20 S]
theorem tl198 (S : Sh h) : tg h 198 = 100 ∧ ln h 198 = 83840 := S.t 98 (by decide) rfl rfl
theorem t198 (S : Sh h) : tg h 198 = 100 := (tl198 S).1
theorem gk198 (S : Sh h) : gk h 198 100 k0 = k0 := gk_e (t198 S)
theorem l198 (S : Sh h) : ln h 198 = 83840 := (tl198 S).2
theorem al198 (S : Sh h) : al h 198 100 k = k 83840 := by rw [al_e (t198 S), l198 S]
theorem rd198 (S : Sh h) (q : 0 ≤ i ∧ i < 83840) : rd h 198 100 i k = k (mv h 198 i) := rd_e (t198 S) q.1 (by rw [l198 S]; exact q.2)
theorem wt198 (S : Sh h) (q : 0 ≤ i ∧ i < 83840) : wt h 198 100 i v km = km (ms h 198 i v) := wt_e (t198 S) (by decide) q.1 (by rw [l198 S]; exact q.2)
theorem S198 : Sh (ms h 198 i v) ↔ Sh h := Sh_ms rfl
theorem M198 : Sh (ma h 198 f) ↔ Sh h := Sh_ma rfl
theorem tl199 (S : Sh h) : tg h 199 = 100 ∧ ln h 199 = 83840 := S.t 99 (by decide) rfl rfl
theorem t199 (S : Sh h) : tg h 199 = 100 := (tl199 S).1
theorem gk199 (S : Sh h) : gk h 199 100 k0 = k0 := gk_e (t199 S)
theorem l199 (S : Sh h) : ln h 199 = 83840 := (tl199 S).2
theorem al199 (S : Sh h) : al h 199 100 k = k 83840 := by rw [al_e (t199 S), l199 S]
theorem rd199 (S : Sh h) (q : 0 ≤ i ∧ i < 83840) : rd h 199 100 i k = k (mv h 199 i) := rd_e (t199 S) q.1 (by rw [l199 S]; exact q.2)
theorem wt199 (S : Sh h) (q : 0 ≤ i ∧ i < 83840) : wt h 199 100 i v km = km (ms h 199 i v) := wt_e (t199 S) (by decide) q.1 (by rw [l199 S]; exact q.2)
theorem S199 : Sh (ms h 199 i v) ↔ Sh h := Sh_ms rfl
theorem M199 : Sh (ma h 199 f) ↔ Sh h := Sh_ma rfl
theorem tl200 (S : Sh h) : tg h 200 = 100 ∧ ln h 200 = 6 := S.t 100 (by decide) rfl rfl
theorem t200 (S : Sh h) : tg h 200 = 100 := (tl200 S).1
theorem gk200 (S : Sh h) : gk h 200 100 k0 = k0 := gk_e (t200 S)
theorem l200 (S : Sh h) : ln h 200 = 6 := (tl200 S).2
theorem al200 (S : Sh h) : al h 200 100 k = k 6 := by rw [al_e (t200 S), l200 S]
theorem rd200 (S : Sh h) (q : 0 ≤ i ∧ i < 6) : rd h 200 100 i k = k (mv h 200 i) := rd_e (t200 S) q.1 (by rw [l200 S]; exact q.2)
theorem wt200 (S : Sh h) (q : 0 ≤ i ∧ i < 6) : wt h 200 100 i v km = km (ms h 200 i v) := wt_e (t200 S) (by decide) q.1 (by rw [l200 S]; exact q.2)
theorem S200 : Sh (ms h 200 i v) ↔ Sh h := Sh_ms rfl
theorem M200 : Sh (ma h 200 f) ↔ Sh h := Sh_ma rfl
theorem tl201 (S : Sh h) : tg h 201 = 100 ∧ ln h 201 = 80 := S.t 101 (by decide) rfl rfl
theorem t201 (S : Sh h) : tg h 201 = 100 := (tl201 S).1
theorem gk201 (S : Sh h) : gk h 201 100 k0 = k0 := gk_e (t201 S)
theorem l201 (S : Sh h) : ln h 201 = 80 := (tl201 S).2
theorem al201 (S : Sh h) : al h 201 100 k = k 80 := by rw [al_e (t201 S), l201 S]
theorem rd201 (S : Sh h) (q : 0 ≤ i ∧ i < 80) : rd h 201 100 i k = k (mv h 201 i) := rd_e (t201 S) q.1 (by rw [l201 S]; exact q.2)
theorem wt201 (S : Sh h) (q : 0 ≤ i ∧ i < 80) : wt h 201 100 i v km = km (ms h 201 i v) := wt_e (t201 S) (by decide) q.1 (by rw [l201 S]; exact q.2)
theorem S201 : Sh (ms h 201 i v) ↔ Sh h := Sh_ms rfl
theorem M201 : Sh (ma h 201 f) ↔ Sh h := Sh_ma rfl
theorem tl202 (S : Sh h) : tg h 202 = 100 ∧ ln h 202 = 80 := S.t 102 (by decide) rfl rfl
theorem t202 (S : Sh h) : tg h 202 = 100 := (tl202 S).1
theorem gk202 (S : Sh h) : gk h 202 100 k0 = k0 := gk_e (t202 S)
theorem l202 (S : Sh h) : ln h 202 = 80 := (tl202 S).2
theorem al202 (S : Sh h) : al h 202 100 k = k 80 := by rw [al_e (t202 S), l202 S]
theorem rd202 (S : Sh h) (q : 0 ≤ i ∧ i < 80) : rd h 202 100 i k = k (mv h 202 i) := rd_e (t202 S) q.1 (by rw [l202 S]; exact q.2)
theorem wt202 (S : Sh h) (q : 0 ≤ i ∧ i < 80) : wt h 202 100 i v km = km (ms h 202 i v) := wt_e (t202 S) (by decide) q.1 (by rw [l202 S]; exact q.2)
theorem S202 : Sh (ms h 202 i v) ↔ Sh h := Sh_ms rfl
theorem M202 : Sh (ma h 202 f) ↔ Sh h := Sh_ma rfl
theorem tl203 (S : Sh h) : tg h 203 = 100 ∧ ln h 203 = 7 := S.t 103 (by decide) rfl rfl
theorem t203 (S : Sh h) : tg h 203 = 100 := (tl203 S).1
theorem gk203 (S : Sh h) : gk h 203 100 k0 = k0 := gk_e (t203 S)
theorem l203 (S : Sh h) : ln h 203 = 7 := (tl203 S).2
theorem al203 (S : Sh h) : al h 203 100 k = k 7 := by rw [al_e (t203 S), l203 S]
theorem rd203 (S : Sh h) (q : 0 ≤ i ∧ i < 7) : rd h 203 100 i k = k (mv h 203 i) := rd_e (t203 S) q.1 (by rw [l203 S]; exact q.2)
theorem wt203 (S : Sh h) (q : 0 ≤ i ∧ i < 7) : wt h 203 100 i v km = km (ms h 203 i v) := wt_e (t203 S) (by decide) q.1 (by rw [l203 S]; exact q.2)
theorem S203 : Sh (ms h 203 i v) ↔ Sh h := Sh_ms rfl
theorem M203 : Sh (ma h 203 f) ↔ Sh h := Sh_ma rfl
theorem tl204 (S : Sh h) : tg h 204 = 100 ∧ ln h 204 = 7 := S.t 104 (by decide) rfl rfl
theorem t204 (S : Sh h) : tg h 204 = 100 := (tl204 S).1
theorem gk204 (S : Sh h) : gk h 204 100 k0 = k0 := gk_e (t204 S)
theorem l204 (S : Sh h) : ln h 204 = 7 := (tl204 S).2
theorem al204 (S : Sh h) : al h 204 100 k = k 7 := by rw [al_e (t204 S), l204 S]
theorem rd204 (S : Sh h) (q : 0 ≤ i ∧ i < 7) : rd h 204 100 i k = k (mv h 204 i) := rd_e (t204 S) q.1 (by rw [l204 S]; exact q.2)
theorem wt204 (S : Sh h) (q : 0 ≤ i ∧ i < 7) : wt h 204 100 i v km = km (ms h 204 i v) := wt_e (t204 S) (by decide) q.1 (by rw [l204 S]; exact q.2)
theorem S204 : Sh (ms h 204 i v) ↔ Sh h := Sh_ms rfl
theorem M204 : Sh (ma h 204 f) ↔ Sh h := Sh_ma rfl
theorem tl205 (S : Sh h) : tg h 205 = 101 ∧ ln h 205 = 400 := S.t 105 (by decide) rfl rfl
theorem t205 (S : Sh h) : tg h 205 = 101 := (tl205 S).1
theorem gk205 (S : Sh h) : gk h 205 101 k0 = k0 := gk_e (t205 S)
theorem l205 (S : Sh h) : ln h 205 = 400 := (tl205 S).2
theorem al205 (S : Sh h) : al h 205 101 k = k 400 := by rw [al_e (t205 S), l205 S]
theorem rd205 (S : Sh h) (q : 0 ≤ i ∧ i < 400) : rd h 205 101 i k = k (mv h 205 i) := rd_e (t205 S) q.1 (by rw [l205 S]; exact q.2)
theorem wt205 (S : Sh h) (q : 0 ≤ i ∧ i < 400) : wt h 205 101 i v km = km (ms h 205 i v) := wt_e (t205 S) (by decide) q.1 (by rw [l205 S]; exact q.2)
theorem S205 : Sh (ms h 205 i v) ↔ Sh h := Sh_ms rfl
theorem M205 : Sh (ma h 205 f) ↔ Sh h := Sh_ma rfl
theorem tl206 (S : Sh h) : tg h 206 = 101 ∧ ln h 206 = 400 := S.t 106 (by decide) rfl rfl
theorem t206 (S : Sh h) : tg h 206 = 101 := (tl206 S).1
theorem gk206 (S : Sh h) : gk h 206 101 k0 = k0 := gk_e (t206 S)
theorem l206 (S : Sh h) : ln h 206 = 400 := (tl206 S).2
theorem al206 (S : Sh h) : al h 206 101 k = k 400 := by rw [al_e (t206 S), l206 S]
theorem rd206 (S : Sh h) (q : 0 ≤ i ∧ i < 400) : rd h 206 101 i k = k (mv h 206 i) := rd_e (t206 S) q.1 (by rw [l206 S]; exact q.2)
theorem wt206 (S : Sh h) (q : 0 ≤ i ∧ i < 400) : wt h 206 101 i v km = km (ms h 206 i v) := wt_e (t206 S) (by decide) q.1 (by rw [l206 S]; exact q.2)
theorem S206 : Sh (ms h 206 i v) ↔ Sh h := Sh_ms rfl
theorem M206 : Sh (ma h 206 f) ↔ Sh h := Sh_ma rfl
theorem tl207 (S : Sh h) : tg h 207 = 101 ∧ ln h 207 = 400 := S.t 107 (by decide) rfl rfl
theorem t207 (S : Sh h) : tg h 207 = 101 := (tl207 S).1
theorem gk207 (S : Sh h) : gk h 207 101 k0 = k0 := gk_e (t207 S)
theorem l207 (S : Sh h) : ln h 207 = 400 := (tl207 S).2
theorem al207 (S : Sh h) : al h 207 101 k = k 400 := by rw [al_e (t207 S), l207 S]
theorem rd207 (S : Sh h) (q : 0 ≤ i ∧ i < 400) : rd h 207 101 i k = k (mv h 207 i) := rd_e (t207 S) q.1 (by rw [l207 S]; exact q.2)
theorem wt207 (S : Sh h) (q : 0 ≤ i ∧ i < 400) : wt h 207 101 i v km = km (ms h 207 i v) := wt_e (t207 S) (by decide) q.1 (by rw [l207 S]; exact q.2)
theorem S207 : Sh (ms h 207 i v) ↔ Sh h := Sh_ms rfl
theorem M207 : Sh (ma h 207 f) ↔ Sh h := Sh_ma rfl
theorem tl208 (S : Sh h) : tg h 208 = 101 ∧ ln h 208 = 20 := S.t 108 (by decide) rfl rfl
theorem t208 (S : Sh h) : tg h 208 = 101 := (tl208 S).1
theorem gk208 (S : Sh h) : gk h 208 101 k0 = k0 := gk_e (t208 S)
theorem l208 (S : Sh h) : ln h 208 = 20 := (tl208 S).2
theorem al208 (S : Sh h) : al h 208 101 k = k 20 := by rw [al_e (t208 S), l208 S]
theorem rd208 (S : Sh h) (q : 0 ≤ i ∧ i < 20) : rd h 208 101 i k = k (mv h 208 i) := rd_e (t208 S) q.1 (by rw [l208 S]; exact q.2)
theorem wt208 (S : Sh h) (q : 0 ≤ i ∧ i < 20) : wt h 208 101 i v km = km (ms h 208 i v) := wt_e (t208 S) (by decide) q.1 (by rw [l208 S]; exact q.2)
theorem S208 : Sh (ms h 208 i v) ↔ Sh h := Sh_ms rfl
theorem M208 : Sh (ma h 208 f) ↔ Sh h := Sh_ma rfl
theorem tl209 (S : Sh h) : tg h 209 = 101 ∧ ln h 209 = 20 := S.t 109 (by decide) rfl rfl
theorem t209 (S : Sh h) : tg h 209 = 101 := (tl209 S).1
theorem gk209 (S : Sh h) : gk h 209 101 k0 = k0 := gk_e (t209 S)
theorem l209 (S : Sh h) : ln h 209 = 20 := (tl209 S).2
theorem al209 (S : Sh h) : al h 209 101 k = k 20 := by rw [al_e (t209 S), l209 S]
theorem rd209 (S : Sh h) (q : 0 ≤ i ∧ i < 20) : rd h 209 101 i k = k (mv h 209 i) := rd_e (t209 S) q.1 (by rw [l209 S]; exact q.2)
theorem wt209 (S : Sh h) (q : 0 ≤ i ∧ i < 20) : wt h 209 101 i v km = km (ms h 209 i v) := wt_e (t209 S) (by decide) q.1 (by rw [l209 S]; exact q.2)
theorem S209 : Sh (ms h 209 i v) ↔ Sh h := Sh_ms rfl
theorem M209 : Sh (ma h 209 f) ↔ Sh h := Sh_ma rfl
theorem tl210 (S : Sh h) : tg h 210 = 100 ∧ ln h 210 = 60 := S.t 110 (by decide) rfl rfl
theorem t210 (S : Sh h) : tg h 210 = 100 := (tl210 S).1
theorem gk210 (S : Sh h) : gk h 210 100 k0 = k0 := gk_e (t210 S)
theorem l210 (S : Sh h) : ln h 210 = 60 := (tl210 S).2
theorem al210 (S : Sh h) : al h 210 100 k = k 60 := by rw [al_e (t210 S), l210 S]
theorem rd210 (S : Sh h) (q : 0 ≤ i ∧ i < 60) : rd h 210 100 i k = k (mv h 210 i) := rd_e (t210 S) q.1 (by rw [l210 S]; exact q.2)
theorem wt210 (S : Sh h) (q : 0 ≤ i ∧ i < 60) : wt h 210 100 i v km = km (ms h 210 i v) := wt_e (t210 S) (by decide) q.1 (by rw [l210 S]; exact q.2)
theorem S210 : Sh (ms h 210 i v) ↔ Sh h := Sh_ms rfl
theorem M210 : Sh (ma h 210 f) ↔ Sh h := Sh_ma rfl
theorem tl211 (S : Sh h) : tg h 211 = 100 ∧ ln h 211 = 40 := S.t 111 (by decide) rfl rfl
theorem t211 (S : Sh h) : tg h 211 = 100 := (tl211 S).1
theorem gk211 (S : Sh h) : gk h 211 100 k0 = k0 := gk_e (t211 S)
theorem l211 (S : Sh h) : ln h 211 = 40 := (tl211 S).2
theorem al211 (S : Sh h) : al h 211 100 k = k 40 := by rw [al_e (t211 S), l211 S]
theorem rd211 (S : Sh h) (q : 0 ≤ i ∧ i < 40) : rd h 211 100 i k = k (mv h 211 i) := rd_e (t211 S) q.1 (by rw [l211 S]; exact q.2)
theorem wt211 (S : Sh h) (q : 0 ≤ i ∧ i < 40) : wt h 211 100 i v km = km (ms h 211 i v) := wt_e (t211 S) (by decide) q.1 (by rw [l211 S]; exact q.2)
theorem S211 : Sh (ms h 211 i v) ↔ Sh h := Sh_ms rfl
theorem M211 : Sh (ma h 211 f) ↔ Sh h := Sh_ma rfl
end SHAPE
