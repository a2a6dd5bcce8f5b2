/-! THE LAW'S BEGINNING: both constructors. Made by gen/geninit.py. -/
def lk : List (Int × Int × Int) → Int → Int → Int
  | [], _, _ => 0
  | (b, i, v) :: l, a, j => if a = b ∧ j = i then v else lk l a j
def smL : Nat → Int
  | 0 => 0
  | k + 1 => smL k + lL.getD k 0
def Bd (h0 : MM) (l : List (Int × Int × Int)) (k : Nat) (h : MM) : Prop := (nx h = 100 + (k : Int) ∧ sl h = sl h0 + smL k ∧ sl h0 ≤ 20000) ∧ (∀ i : Nat, i < k → (tg h (100 + (i : Int)), ln h (100 + (i : Int))) = (tL.getD i 0, lL.getD i 0)) ∧ (∀ a : Int, a < 100 → h.2.1 a = h0.2.1 a ∧ ∀ j : Int, mv h a j = mv h0 a j) ∧ (∀ a j : Int, 100 ≤ a → a < 100 + (k : Int) → mv h a j = lk l a j) ∧ ∀ p ∈ l, p.1 < 100 + (k : Int)
def Fin (h0 : MM) (E : MM → RR) (L : List (Int × Int × Int)) (k : Nat) (X : RR) : Prop := ∃ h', X = E h' ∧ Bd h0 L k h'
theorem smL_bd : ∀ k : Nat, k < 113 → 0 ≤ smL k ∧ smL k ≤ 180000 := by decide
section INI
variable {h0 h : MM} {E : MM → RR} {l L : List (Int × Int × Int)} {k kk : Nat} {a t j v w m i : Int}
theorem lk_z : ∀ (l : List (Int × Int × Int)), (∀ p ∈ l, p.1 ≠ a) → lk l a j = 0
  | [], _ => rfl
  | (b, i, v) :: l, q => by
    have e : lk ((b, i, v) :: l) a j = if a = b ∧ j = i then v else lk l a j := rfl
    have y : b ≠ a := q (b, i, v) List.mem_cons_self
    rw [e, if_neg (fun z => y z.1.symm)]
    exact lk_z l (fun p hp => q p (List.mem_cons_of_mem _ hp))
theorem Bd.z (q : nx h0 = 100) (s : sl h0 ≤ 20000) : Bd h0 [] 0 h0 := ⟨⟨q, (Int.add_zero _).symm, s⟩, fun i hi => by omega, fun a _ => ⟨rfl, fun _ => rfl⟩, fun a j q1 q2 => by omega, fun p hp => by cases hp⟩
theorem Bd.xmn (B : Bd h0 l k h) (e : (tL.getD k 0, lL.getD k 0) = (t, m)) : Bd h0 l (k + 1) (mn h t m) := by
  obtain ⟨⟨b1, b2, b3⟩, b4, b5, b6, b7⟩ := B
  have n1 : nx h = h.2.2.1 := rfl
  refine ⟨⟨by rw [nx_mn]; omega, ?_, b3⟩, fun i hi => ?_, fun a ha => ⟨?_, fun j => ?_⟩, fun a j q1 q2 => ?_, fun p hp => by have := b7 p hp; omega⟩
  · have s1 : sl (mn h t m) = sl h + m := rfl
    have s2 : smL (k + 1) = smL k + lL.getD k 0 := rfl
    have s3 : lL.getD k 0 = m := congrArg Prod.snd e
    omega
  · by_cases c : i = k
    · subst c
      rw [tg_mn, ln_mn, if_pos b1.symm, if_pos b1.symm]; exact e.symm
    · rw [tg_mn, ln_mn, if_neg (by omega), if_neg (by omega)]; exact b4 i (by omega)
  · have e : (mn h t m).2.1 a = if a = h.2.2.1 then (t, m) else h.2.1 a := rfl
    rw [e, if_neg (by omega)]; exact (b5 a ha).1
  · rw [mv_mn, if_neg (by omega)]; exact (b5 a ha).2 j
  · rw [mv_mn]
    by_cases c : a = nx h
    · rw [if_pos c, c, b1]
      exact (lk_z l (fun p hp => by have := b7 p hp; omega)).symm
    · rw [if_neg c]; exact b6 a j q1 (by omega)
theorem Bd.xms (B : Bd h0 l k h) (q : 100 ≤ a) (q2 : a < 100 + (k : Int)) : Bd h0 ((a, j, v) :: l) k (ms h a j v) := by
  obtain ⟨b1, b4, b5, b6, b7⟩ := B
  refine ⟨b1, b4, fun b hb => ⟨(b5 b hb).1, fun i => by rw [mv_o (by omega)]; exact (b5 b hb).2 i⟩, fun b i q1 q2 => ?_, fun p hp => ?_⟩
  · have e : lk ((a, j, v) :: l) b i = if b = a ∧ i = j then v else lk l b i := rfl
    rw [e, mv_ms]
    by_cases c : b = a ∧ i = j
    · rw [if_pos c, if_pos c]
    · rw [if_neg c, if_neg c]; exact b6 b i q1 q2
  · rcases List.mem_cons.mp hp with z | z
    · rw [z]; exact q2
    · exact b7 p z
theorem Bd.xtg {i : Nat} (B : Bd h0 l k h) (ei : 100 + (i : Int) = a) (hi : i < k) (e : tL.getD i 0 = t) : tg h a = t := by
  rw [← ei, ← e]; exact congrArg Prod.fst (B.2.1 i hi)
theorem Bd.xln {i : Nat} (B : Bd h0 l k h) (ei : 100 + (i : Int) = a) (hi : i < k) : ln h a = lL.getD i 0 := by
  rw [← ei]; exact congrArg Prod.snd (B.2.1 i hi)
theorem Fin.xnz (q : v ≠ 0) {X : RR} (Z : Fin h0 E L kk X) : Fin h0 E L kk (nz v X) := by
  rw [nz_e q]; exact Z
theorem Bd.room (B : Bd h0 l k h) (kb : k < 112) (e : (tL.getD k 0, lL.getD k 0) = (t, m)) (m0 : 0 ≤ m) : nx h + 1 ≤ NM ∧ sl h + m ≤ SM := by
  obtain ⟨⟨b1, b2, b3⟩, -⟩ := B
  have y := smL_bd (k + 1) (by omega)
  have s2 : smL (k + 1) = smL k + lL.getD k 0 := rfl
  have s3 : lL.getD k 0 = m := congrArg Prod.snd e
  have e1 : NM = 600100 := rfl
  have e2 : SM = 7302250 := rfl
  omega
theorem Fin.xnw {K : Int → MM → RR} (k' : Nat) (a : Int) (B : Bd h0 l k h) (ek : k + 1 = k') (ea : 100 + (k : Int) = a) (e : (tL.getD k 0, lL.getD k 0) = (t, m)) (kb : k < 112 ∧ 0 ≤ m) (Z : ∀ h1, Bd h0 l k' h1 → Fin h0 E L kk (K a h1)) : Fin h0 E L kk (nw h t m K) := by
  have y := B.room kb.1 e kb.2
  rw [nw_e y.1 y.2, B.1.1, ea]
  exact Z _ (ek ▸ B.xmn e)
theorem Fin.xna {K : Int → MM → RR} (k' : Nat) (a : Int) (B : Bd h0 l k h) (ek : k + 1 = k') (ea : 100 + (k : Int) = a) (e : (tL.getD k 0, lL.getD k 0) = (t, m)) (kb : k < 112 ∧ 0 ≤ m) (Z : ∀ h1, Bd h0 l k' h1 → Fin h0 E L kk (K a h1)) : Fin h0 E L kk (na h t m K) := by
  have y := B.room kb.1 e kb.2
  rw [na_e kb.2 y.1 y.2, B.1.1, ea]
  exact Z _ (ek ▸ B.xmn e)
theorem Fin.xpf {K : MM → RR} (i : Nat) (B : Bd h0 l k h) (ei : 100 + (i : Int) = a) (hi : i < k) (e : tL.getD i 0 = t) (Z : ∀ h1, Bd h0 ((a, j, v) :: l) k h1 → Fin h0 E L kk (K h1)) : Fin h0 E L kk (pf h a t j v K) := by
  rw [pf_e (B.xtg ei hi e) (by omega)]
  exact Z _ (B.xms (by omega) (by omega))
theorem Fin.xwt {K : MM → RR} {r : Int} (i : Nat) (B : Bd h0 l k h) (ei : 100 + (i : Int) = a) (hi : i < k) (e : tL.getD i 0 = t) (er : r = j) (j0 : 0 ≤ j) (j1 : j < lL.getD i 0) (Z : ∀ h1, Bd h0 ((a, j, v) :: l) k h1 → Fin h0 E L kk (K h1)) : Fin h0 E L kk (wt h a t r v K) := by
  rw [er, wt_e (B.xtg ei hi e) (by omega) j0 (by rw [B.xln ei hi]; exact j1)]
  exact Z _ (B.xms (by omega) (by omega))
theorem Fin.xgf {K : Int → RR} (i : Nat) (B : Bd h0 l k h) (ei : 100 + (i : Int) = a) (hi : i < k) (e : tL.getD i 0 = t) (ew : lk l a j = w) (Z : Fin h0 E L kk (K w)) : Fin h0 E L kk (gf h a t j K) := by
  rw [gf_e (B.xtg ei hi e), B.2.2.2.1 a j (by omega) (by omega), ew]
  exact Z
theorem Fin.xgk {X : RR} (i : Nat) (B : Bd h0 l k h) (ei : 100 + (i : Int) = a) (hi : i < k) (e : tL.getD i 0 = t) (Z : Fin h0 E L kk X) : Fin h0 E L kk (gk h a t X) := by
  rw [gk_e (B.xtg ei hi e)]
  exact Z
theorem Fin.xlb {K : Int → RR} (e : v = w) (Z : Fin h0 E L kk (K w)) : Fin h0 E L kk (lb v K) := by
  show Fin h0 E L kk (K v)
  rw [e]; exact Z
theorem Fin.xbd {X : RR} {K : Int → MM → RR} (q : Fin h0 (fun h => some (0, h)) l k X) (Z : ∀ h1, Bd h0 l k h1 → Fin h0 E L kk (K 0 h1)) : Fin h0 E L kk (bd X K) := by
  obtain ⟨h1, e, B⟩ := q
  rw [e]
  exact Z h1 B
def LL : List (Int × Int × Int) := [(198, 203, (-1)), (198, 202, (-1)), (198, 201, (-1)), (198, 200, (-1)), (197, 20, 211), (197, 19, 210), (197, 18, 209), (197, 17, 208), (197, 16, 207), (197, 15, 206), (197, 14, 205), (197, 12, 204), (197, 11, 203), (197, 10, 202), (197, 9, 201), (197, 8, 200), (197, 2, 199), (197, 1, 198), (100, 6, 191), (191, 4, 196), (191, 3, 195), (191, 2, 194), (191, 1, 193), (191, 0, 192), (100, 5, 184), (184, 5, 190), (184, 4, 189), (184, 3, 188), (184, 2, 187), (184, 1, 186), (184, 0, 185), (100, 4, 180), (180, 4, 183), (180, 3, 182), (180, 0, 181), (100, 3, 179), (100, 1, 140), (168, 3, 177), (177, 1, (-1)), (177, 0, 178), (168, 2, 175), (175, 1, (-1)), (175, 0, 176), (168, 1, 173), (173, 1, (-1)), (173, 0, 174), (168, 0, 171), (171, 1, (-1)), (171, 0, 172), (140, 6, 170), (140, 5, 169), (140, 4, 168), (140, 3, 163), (163, 4, 167), (163, 3, 166), (163, 1, 165), (163, 0, 164), (140, 2, 154), (154, 7, 162), (154, 6, 161), (154, 5, 160), (154, 4, 159), (154, 3, 158), (154, 2, 157), (154, 1, 156), (154, 0, 155), (140, 1, 147), (147, 5, 153), (147, 4, 152), (147, 3, 151), (147, 2, 150), (147, 1, 149), (147, 0, 148), (140, 0, 141), (141, 4, 146), (141, 3, 145), (141, 2, 144), (141, 1, 143), (141, 0, 142), (100, 0, 101), (129, 3, 138), (138, 1, (-1)), (138, 0, 139), (129, 2, 136), (136, 1, (-1)), (136, 0, 137), (129, 1, 134), (134, 1, (-1)), (134, 0, 135), (129, 0, 132), (132, 1, (-1)), (132, 0, 133), (101, 6, 131), (101, 5, 130), (101, 4, 129), (101, 3, 124), (124, 4, 128), (124, 3, 127), (124, 1, 126), (124, 0, 125), (101, 2, 115), (115, 7, 123), (115, 6, 122), (115, 5, 121), (115, 4, 120), (115, 3, 119), (115, 2, 118), (115, 1, 117), (115, 0, 116), (101, 1, 108), (108, 5, 114), (108, 4, 113), (108, 3, 112), (108, 2, 111), (108, 1, 110), (108, 0, 109), (101, 0, 102), (102, 4, 107), (102, 3, 106), (102, 2, 105), (102, 1, 104), (102, 0, 103)]
theorem in_102 {l : List (Int × Int × Int)} {h : MM} (n : Nat) (hn : 10000000 ≤ n) (B : Bd h0 l 3 h) : Fin h0 (fun h => some (0, h)) ((102, 4, 107) :: (102, 3, 106) :: (102, 2, 105) :: (102, 1, 104) :: (102, 0, 103) :: l) 8 (f_X1_init n 102 h) := by
  delta f_X1_init
  refine Fin.xnz (by decide) ?_
  refine Fin.xna 4 103 B rfl rfl rfl ⟨by decide, by decide⟩ fun h4 B4 => ?_
  refine Fin.xpf 2 B4 rfl (by decide) rfl fun h5 B5 => ?_
  refine Fin.xna 5 104 B5 rfl rfl rfl ⟨by decide, by decide⟩ fun h6 B6 => ?_
  refine Fin.xpf 2 B6 rfl (by decide) rfl fun h7 B7 => ?_
  refine Fin.xna 6 105 B7 rfl rfl rfl ⟨by decide, by decide⟩ fun h8 B8 => ?_
  refine Fin.xpf 2 B8 rfl (by decide) rfl fun h9 B9 => ?_
  refine Fin.xna 7 106 B9 rfl rfl rfl ⟨by decide, by decide⟩ fun h10 B10 => ?_
  refine Fin.xpf 2 B10 rfl (by decide) rfl fun h11 B11 => ?_
  refine Fin.xna 8 107 B11 rfl rfl rfl ⟨by decide, by decide⟩ fun h12 B12 => ?_
  refine Fin.xpf 2 B12 rfl (by decide) rfl fun h13 B13 => ?_
  exact ⟨_, rfl, B13⟩
theorem in_108 {l : List (Int × Int × Int)} {h : MM} (n : Nat) (hn : 10000000 ≤ n) (B : Bd h0 l 9 h) : Fin h0 (fun h => some (0, h)) ((108, 5, 114) :: (108, 4, 113) :: (108, 3, 112) :: (108, 2, 111) :: (108, 1, 110) :: (108, 0, 109) :: l) 15 (f_X5_init n 108 h) := by
  delta f_X5_init
  refine Fin.xnz (by decide) ?_
  refine Fin.xna 10 109 B rfl rfl rfl ⟨by decide, by decide⟩ fun h17 B17 => ?_
  refine Fin.xpf 8 B17 rfl (by decide) rfl fun h18 B18 => ?_
  refine Fin.xna 11 110 B18 rfl rfl rfl ⟨by decide, by decide⟩ fun h19 B19 => ?_
  refine Fin.xpf 8 B19 rfl (by decide) rfl fun h20 B20 => ?_
  refine Fin.xna 12 111 B20 rfl rfl rfl ⟨by decide, by decide⟩ fun h21 B21 => ?_
  refine Fin.xpf 8 B21 rfl (by decide) rfl fun h22 B22 => ?_
  refine Fin.xna 13 112 B22 rfl rfl rfl ⟨by decide, by decide⟩ fun h23 B23 => ?_
  refine Fin.xpf 8 B23 rfl (by decide) rfl fun h24 B24 => ?_
  refine Fin.xna 14 113 B24 rfl rfl rfl ⟨by decide, by decide⟩ fun h25 B25 => ?_
  refine Fin.xpf 8 B25 rfl (by decide) rfl fun h26 B26 => ?_
  refine Fin.xna 15 114 B26 rfl rfl rfl ⟨by decide, by decide⟩ fun h27 B27 => ?_
  refine Fin.xpf 8 B27 rfl (by decide) rfl fun h28 B28 => ?_
  exact ⟨_, rfl, B28⟩
theorem in_115 {l : List (Int × Int × Int)} {h : MM} (n : Nat) (hn : 10000000 ≤ n) (B : Bd h0 l 16 h) : Fin h0 (fun h => some (0, h)) ((115, 7, 123) :: (115, 6, 122) :: (115, 5, 121) :: (115, 4, 120) :: (115, 3, 119) :: (115, 2, 118) :: (115, 1, 117) :: (115, 0, 116) :: l) 24 (f_X8_init n 115 h) := by
  delta f_X8_init
  refine Fin.xnz (by decide) ?_
  refine Fin.xna 17 116 B rfl rfl rfl ⟨by decide, by decide⟩ fun h32 B32 => ?_
  refine Fin.xpf 15 B32 rfl (by decide) rfl fun h33 B33 => ?_
  refine Fin.xna 18 117 B33 rfl rfl rfl ⟨by decide, by decide⟩ fun h34 B34 => ?_
  refine Fin.xpf 15 B34 rfl (by decide) rfl fun h35 B35 => ?_
  refine Fin.xna 19 118 B35 rfl rfl rfl ⟨by decide, by decide⟩ fun h36 B36 => ?_
  refine Fin.xpf 15 B36 rfl (by decide) rfl fun h37 B37 => ?_
  refine Fin.xna 20 119 B37 rfl rfl rfl ⟨by decide, by decide⟩ fun h38 B38 => ?_
  refine Fin.xpf 15 B38 rfl (by decide) rfl fun h39 B39 => ?_
  refine Fin.xna 21 120 B39 rfl rfl rfl ⟨by decide, by decide⟩ fun h40 B40 => ?_
  refine Fin.xpf 15 B40 rfl (by decide) rfl fun h41 B41 => ?_
  refine Fin.xna 22 121 B41 rfl rfl rfl ⟨by decide, by decide⟩ fun h42 B42 => ?_
  refine Fin.xpf 15 B42 rfl (by decide) rfl fun h43 B43 => ?_
  refine Fin.xna 23 122 B43 rfl rfl rfl ⟨by decide, by decide⟩ fun h44 B44 => ?_
  refine Fin.xpf 15 B44 rfl (by decide) rfl fun h45 B45 => ?_
  refine Fin.xna 24 123 B45 rfl rfl rfl ⟨by decide, by decide⟩ fun h46 B46 => ?_
  refine Fin.xpf 15 B46 rfl (by decide) rfl fun h47 B47 => ?_
  exact ⟨_, rfl, B47⟩
theorem in_124 {l : List (Int × Int × Int)} {h : MM} (n : Nat) (hn : 10000000 ≤ n) (B : Bd h0 l 25 h) : Fin h0 (fun h => some (0, h)) ((124, 4, 128) :: (124, 3, 127) :: (124, 1, 126) :: (124, 0, 125) :: l) 29 (f_X6_init n 124 h) := by
  delta f_X6_init
  refine Fin.xnz (by decide) ?_
  refine Fin.xna 26 125 B rfl rfl rfl ⟨by decide, by decide⟩ fun h51 B51 => ?_
  refine Fin.xpf 24 B51 rfl (by decide) rfl fun h52 B52 => ?_
  refine Fin.xna 27 126 B52 rfl rfl rfl ⟨by decide, by decide⟩ fun h53 B53 => ?_
  refine Fin.xpf 24 B53 rfl (by decide) rfl fun h54 B54 => ?_
  refine Fin.xna 28 127 B54 rfl rfl rfl ⟨by decide, by decide⟩ fun h55 B55 => ?_
  refine Fin.xpf 24 B55 rfl (by decide) rfl fun h56 B56 => ?_
  refine Fin.xna 29 128 B56 rfl rfl rfl ⟨by decide, by decide⟩ fun h57 B57 => ?_
  refine Fin.xpf 24 B57 rfl (by decide) rfl fun h58 B58 => ?_
  exact ⟨_, rfl, B58⟩
theorem in_132 {l : List (Int × Int × Int)} {h : MM} (n : Nat) (hn : 10000000 ≤ n) (B : Bd h0 l 33 h) : Fin h0 (fun h => some (0, h)) ((132, 1, (-1)) :: (132, 0, 133) :: l) 34 (f_X9_init n 132 h) := by
  delta f_X9_init
  refine Fin.xnz (by decide) ?_
  refine Fin.xna 34 133 B rfl rfl rfl ⟨by decide, by decide⟩ fun h68 B68 => ?_
  refine Fin.xpf 32 B68 rfl (by decide) rfl fun h69 B69 => ?_
  refine Fin.xpf 32 B69 rfl (by decide) rfl fun h70 B70 => ?_
  exact ⟨_, rfl, B70⟩
theorem in_134 {l : List (Int × Int × Int)} {h : MM} (n : Nat) (hn : 10000000 ≤ n) (B : Bd h0 l 35 h) : Fin h0 (fun h => some (0, h)) ((134, 1, (-1)) :: (134, 0, 135) :: l) 36 (f_X9_init n 134 h) := by
  delta f_X9_init
  refine Fin.xnz (by decide) ?_
  refine Fin.xna 36 135 B rfl rfl rfl ⟨by decide, by decide⟩ fun h74 B74 => ?_
  refine Fin.xpf 34 B74 rfl (by decide) rfl fun h75 B75 => ?_
  refine Fin.xpf 34 B75 rfl (by decide) rfl fun h76 B76 => ?_
  exact ⟨_, rfl, B76⟩
theorem in_136 {l : List (Int × Int × Int)} {h : MM} (n : Nat) (hn : 10000000 ≤ n) (B : Bd h0 l 37 h) : Fin h0 (fun h => some (0, h)) ((136, 1, (-1)) :: (136, 0, 137) :: l) 38 (f_X9_init n 136 h) := by
  delta f_X9_init
  refine Fin.xnz (by decide) ?_
  refine Fin.xna 38 137 B rfl rfl rfl ⟨by decide, by decide⟩ fun h80 B80 => ?_
  refine Fin.xpf 36 B80 rfl (by decide) rfl fun h81 B81 => ?_
  refine Fin.xpf 36 B81 rfl (by decide) rfl fun h82 B82 => ?_
  exact ⟨_, rfl, B82⟩
theorem in_138 {l : List (Int × Int × Int)} {h : MM} (n : Nat) (hn : 10000000 ≤ n) (B : Bd h0 l 39 h) : Fin h0 (fun h => some (0, h)) ((138, 1, (-1)) :: (138, 0, 139) :: l) 40 (f_X9_init n 138 h) := by
  delta f_X9_init
  refine Fin.xnz (by decide) ?_
  refine Fin.xna 40 139 B rfl rfl rfl ⟨by decide, by decide⟩ fun h86 B86 => ?_
  refine Fin.xpf 38 B86 rfl (by decide) rfl fun h87 B87 => ?_
  refine Fin.xpf 38 B87 rfl (by decide) rfl fun h88 B88 => ?_
  exact ⟨_, rfl, B88⟩
theorem in_101 {l : List (Int × Int × Int)} {h : MM} (n : Nat) (hn : 10000000 ≤ n) (B : Bd h0 l 2 h) : Fin h0 (fun h => some (0, h)) ((129, 3, 138) :: (138, 1, (-1)) :: (138, 0, 139) :: (129, 2, 136) :: (136, 1, (-1)) :: (136, 0, 137) :: (129, 1, 134) :: (134, 1, (-1)) :: (134, 0, 135) :: (129, 0, 132) :: (132, 1, (-1)) :: (132, 0, 133) :: (101, 6, 131) :: (101, 5, 130) :: (101, 4, 129) :: (101, 3, 124) :: (124, 4, 128) :: (124, 3, 127) :: (124, 1, 126) :: (124, 0, 125) :: (101, 2, 115) :: (115, 7, 123) :: (115, 6, 122) :: (115, 5, 121) :: (115, 4, 120) :: (115, 3, 119) :: (115, 2, 118) :: (115, 1, 117) :: (115, 0, 116) :: (101, 1, 108) :: (108, 5, 114) :: (108, 4, 113) :: (108, 3, 112) :: (108, 2, 111) :: (108, 1, 110) :: (108, 0, 109) :: (101, 0, 102) :: (102, 4, 107) :: (102, 3, 106) :: (102, 2, 105) :: (102, 1, 104) :: (102, 0, 103) :: l) 40 (f_X10_init n 101 h) := by
  delta f_X10_init
  refine Fin.xnz (by decide) ?_
  refine Fin.xnw 3 102 B rfl rfl rfl ⟨by decide, by decide⟩ fun h3 B3 => ?_
  refine Fin.xnz (by decide) ?_
  refine Fin.xbd (in_102 n hn B3) fun h14 B14 => ?_
  refine Fin.xpf 1 B14 rfl (by decide) rfl fun h15 B15 => ?_
  refine Fin.xnw 9 108 B15 rfl rfl rfl ⟨by decide, by decide⟩ fun h16 B16 => ?_
  refine Fin.xnz (by decide) ?_
  refine Fin.xbd (in_108 n hn B16) fun h29 B29 => ?_
  refine Fin.xpf 1 B29 rfl (by decide) rfl fun h30 B30 => ?_
  refine Fin.xnw 16 115 B30 rfl rfl rfl ⟨by decide, by decide⟩ fun h31 B31 => ?_
  refine Fin.xnz (by decide) ?_
  refine Fin.xbd (in_115 n hn B31) fun h48 B48 => ?_
  refine Fin.xpf 1 B48 rfl (by decide) rfl fun h49 B49 => ?_
  refine Fin.xnw 25 124 B49 rfl rfl rfl ⟨by decide, by decide⟩ fun h50 B50 => ?_
  refine Fin.xnz (by decide) ?_
  refine Fin.xbd (in_124 n hn B50) fun h59 B59 => ?_
  refine Fin.xpf 1 B59 rfl (by decide) rfl fun h60 B60 => ?_
  refine Fin.xna 30 129 B60 rfl rfl rfl ⟨by decide, by decide⟩ fun h61 B61 => ?_
  refine Fin.xpf 1 B61 rfl (by decide) rfl fun h62 B62 => ?_
  refine Fin.xna 31 130 B62 rfl rfl rfl ⟨by decide, by decide⟩ fun h63 B63 => ?_
  refine Fin.xpf 1 B63 rfl (by decide) rfl fun h64 B64 => ?_
  refine Fin.xna 32 131 B64 rfl rfl rfl ⟨by decide, by decide⟩ fun h65 B65 => ?_
  refine Fin.xpf 1 B65 rfl (by decide) rfl fun h66 B66 => ?_
  obtain ⟨m, hm⟩ : ∃ m, n = m + 8 := ⟨n - 8, by omega⟩
  rw [show ∀ hh : MM, f_X10_init_76 n 101 n 0 hh = f_X10_init_76 n 101 (m + 8) 0 hh from fun hh => by rw [← hm]]
  show Fin _ _ _ _ (f_X10_init_76b n (f_X10_init_76 n 101 (m + 7)) 101 0 _)
  delta f_X10_init_76b
  rw [if_neg (by decide)]
  refine Fin.xgf 1 (w := 129) B66 rfl (by decide) rfl rfl ?_
  refine Fin.xnw 33 132 B66 rfl rfl rfl ⟨by decide, by decide⟩ fun h67 B67 => ?_
  refine Fin.xnz (by decide) ?_
  refine Fin.xbd (in_132 n hn B67) fun h71 B71 => ?_
  refine Fin.xgk 32 B71 rfl (by decide) rfl ?_
  refine Fin.xwt 29 (j := 0) B71 rfl (by decide) rfl (by first | rfl | exact wrk ⟨by decide, by decide⟩) (by decide) (by decide) fun h72 B72 => ?_
  refine Fin.xlb (w := 1) (wrk ⟨by decide, by decide⟩) ?_
  show Fin _ _ _ _ (f_X10_init_76b n (f_X10_init_76 n 101 (m + 6)) 101 1 _)
  delta f_X10_init_76b
  rw [if_neg (by decide)]
  refine Fin.xgf 1 (w := 129) B72 rfl (by decide) rfl rfl ?_
  refine Fin.xnw 35 134 B72 rfl rfl rfl ⟨by decide, by decide⟩ fun h73 B73 => ?_
  refine Fin.xnz (by decide) ?_
  refine Fin.xbd (in_134 n hn B73) fun h77 B77 => ?_
  refine Fin.xgk 34 B77 rfl (by decide) rfl ?_
  refine Fin.xwt 29 (j := 1) B77 rfl (by decide) rfl (by first | rfl | exact wrk ⟨by decide, by decide⟩) (by decide) (by decide) fun h78 B78 => ?_
  refine Fin.xlb (w := 2) (wrk ⟨by decide, by decide⟩) ?_
  show Fin _ _ _ _ (f_X10_init_76b n (f_X10_init_76 n 101 (m + 5)) 101 2 _)
  delta f_X10_init_76b
  rw [if_neg (by decide)]
  refine Fin.xgf 1 (w := 129) B78 rfl (by decide) rfl rfl ?_
  refine Fin.xnw 37 136 B78 rfl rfl rfl ⟨by decide, by decide⟩ fun h79 B79 => ?_
  refine Fin.xnz (by decide) ?_
  refine Fin.xbd (in_136 n hn B79) fun h83 B83 => ?_
  refine Fin.xgk 36 B83 rfl (by decide) rfl ?_
  refine Fin.xwt 29 (j := 2) B83 rfl (by decide) rfl (by first | rfl | exact wrk ⟨by decide, by decide⟩) (by decide) (by decide) fun h84 B84 => ?_
  refine Fin.xlb (w := 3) (wrk ⟨by decide, by decide⟩) ?_
  show Fin _ _ _ _ (f_X10_init_76b n (f_X10_init_76 n 101 (m + 4)) 101 3 _)
  delta f_X10_init_76b
  rw [if_neg (by decide)]
  refine Fin.xgf 1 (w := 129) B84 rfl (by decide) rfl rfl ?_
  refine Fin.xnw 39 138 B84 rfl rfl rfl ⟨by decide, by decide⟩ fun h85 B85 => ?_
  refine Fin.xnz (by decide) ?_
  refine Fin.xbd (in_138 n hn B85) fun h89 B89 => ?_
  refine Fin.xgk 38 B89 rfl (by decide) rfl ?_
  refine Fin.xwt 29 (j := 3) B89 rfl (by decide) rfl (by first | rfl | exact wrk ⟨by decide, by decide⟩) (by decide) (by decide) fun h90 B90 => ?_
  refine Fin.xlb (w := 4) (wrk ⟨by decide, by decide⟩) ?_
  show Fin _ _ _ _ (f_X10_init_76b n (f_X10_init_76 n 101 (m + 3)) 101 4 _)
  delta f_X10_init_76b
  rw [if_pos (by decide)]
  exact ⟨_, rfl, B90⟩
theorem in_141 {l : List (Int × Int × Int)} {h : MM} (n : Nat) (hn : 10000000 ≤ n) (B : Bd h0 l 42 h) : Fin h0 (fun h => some (0, h)) ((141, 4, 146) :: (141, 3, 145) :: (141, 2, 144) :: (141, 1, 143) :: (141, 0, 142) :: l) 47 (f_X1_init n 141 h) := by
  delta f_X1_init
  refine Fin.xnz (by decide) ?_
  refine Fin.xna 43 142 B rfl rfl rfl ⟨by decide, by decide⟩ fun h95 B95 => ?_
  refine Fin.xpf 41 B95 rfl (by decide) rfl fun h96 B96 => ?_
  refine Fin.xna 44 143 B96 rfl rfl rfl ⟨by decide, by decide⟩ fun h97 B97 => ?_
  refine Fin.xpf 41 B97 rfl (by decide) rfl fun h98 B98 => ?_
  refine Fin.xna 45 144 B98 rfl rfl rfl ⟨by decide, by decide⟩ fun h99 B99 => ?_
  refine Fin.xpf 41 B99 rfl (by decide) rfl fun h100 B100 => ?_
  refine Fin.xna 46 145 B100 rfl rfl rfl ⟨by decide, by decide⟩ fun h101 B101 => ?_
  refine Fin.xpf 41 B101 rfl (by decide) rfl fun h102 B102 => ?_
  refine Fin.xna 47 146 B102 rfl rfl rfl ⟨by decide, by decide⟩ fun h103 B103 => ?_
  refine Fin.xpf 41 B103 rfl (by decide) rfl fun h104 B104 => ?_
  exact ⟨_, rfl, B104⟩
theorem in_147 {l : List (Int × Int × Int)} {h : MM} (n : Nat) (hn : 10000000 ≤ n) (B : Bd h0 l 48 h) : Fin h0 (fun h => some (0, h)) ((147, 5, 153) :: (147, 4, 152) :: (147, 3, 151) :: (147, 2, 150) :: (147, 1, 149) :: (147, 0, 148) :: l) 54 (f_X5_init n 147 h) := by
  delta f_X5_init
  refine Fin.xnz (by decide) ?_
  refine Fin.xna 49 148 B rfl rfl rfl ⟨by decide, by decide⟩ fun h108 B108 => ?_
  refine Fin.xpf 47 B108 rfl (by decide) rfl fun h109 B109 => ?_
  refine Fin.xna 50 149 B109 rfl rfl rfl ⟨by decide, by decide⟩ fun h110 B110 => ?_
  refine Fin.xpf 47 B110 rfl (by decide) rfl fun h111 B111 => ?_
  refine Fin.xna 51 150 B111 rfl rfl rfl ⟨by decide, by decide⟩ fun h112 B112 => ?_
  refine Fin.xpf 47 B112 rfl (by decide) rfl fun h113 B113 => ?_
  refine Fin.xna 52 151 B113 rfl rfl rfl ⟨by decide, by decide⟩ fun h114 B114 => ?_
  refine Fin.xpf 47 B114 rfl (by decide) rfl fun h115 B115 => ?_
  refine Fin.xna 53 152 B115 rfl rfl rfl ⟨by decide, by decide⟩ fun h116 B116 => ?_
  refine Fin.xpf 47 B116 rfl (by decide) rfl fun h117 B117 => ?_
  refine Fin.xna 54 153 B117 rfl rfl rfl ⟨by decide, by decide⟩ fun h118 B118 => ?_
  refine Fin.xpf 47 B118 rfl (by decide) rfl fun h119 B119 => ?_
  exact ⟨_, rfl, B119⟩
theorem in_154 {l : List (Int × Int × Int)} {h : MM} (n : Nat) (hn : 10000000 ≤ n) (B : Bd h0 l 55 h) : Fin h0 (fun h => some (0, h)) ((154, 7, 162) :: (154, 6, 161) :: (154, 5, 160) :: (154, 4, 159) :: (154, 3, 158) :: (154, 2, 157) :: (154, 1, 156) :: (154, 0, 155) :: l) 63 (f_X8_init n 154 h) := by
  delta f_X8_init
  refine Fin.xnz (by decide) ?_
  refine Fin.xna 56 155 B rfl rfl rfl ⟨by decide, by decide⟩ fun h123 B123 => ?_
  refine Fin.xpf 54 B123 rfl (by decide) rfl fun h124 B124 => ?_
  refine Fin.xna 57 156 B124 rfl rfl rfl ⟨by decide, by decide⟩ fun h125 B125 => ?_
  refine Fin.xpf 54 B125 rfl (by decide) rfl fun h126 B126 => ?_
  refine Fin.xna 58 157 B126 rfl rfl rfl ⟨by decide, by decide⟩ fun h127 B127 => ?_
  refine Fin.xpf 54 B127 rfl (by decide) rfl fun h128 B128 => ?_
  refine Fin.xna 59 158 B128 rfl rfl rfl ⟨by decide, by decide⟩ fun h129 B129 => ?_
  refine Fin.xpf 54 B129 rfl (by decide) rfl fun h130 B130 => ?_
  refine Fin.xna 60 159 B130 rfl rfl rfl ⟨by decide, by decide⟩ fun h131 B131 => ?_
  refine Fin.xpf 54 B131 rfl (by decide) rfl fun h132 B132 => ?_
  refine Fin.xna 61 160 B132 rfl rfl rfl ⟨by decide, by decide⟩ fun h133 B133 => ?_
  refine Fin.xpf 54 B133 rfl (by decide) rfl fun h134 B134 => ?_
  refine Fin.xna 62 161 B134 rfl rfl rfl ⟨by decide, by decide⟩ fun h135 B135 => ?_
  refine Fin.xpf 54 B135 rfl (by decide) rfl fun h136 B136 => ?_
  refine Fin.xna 63 162 B136 rfl rfl rfl ⟨by decide, by decide⟩ fun h137 B137 => ?_
  refine Fin.xpf 54 B137 rfl (by decide) rfl fun h138 B138 => ?_
  exact ⟨_, rfl, B138⟩
theorem in_163 {l : List (Int × Int × Int)} {h : MM} (n : Nat) (hn : 10000000 ≤ n) (B : Bd h0 l 64 h) : Fin h0 (fun h => some (0, h)) ((163, 4, 167) :: (163, 3, 166) :: (163, 1, 165) :: (163, 0, 164) :: l) 68 (f_X6_init n 163 h) := by
  delta f_X6_init
  refine Fin.xnz (by decide) ?_
  refine Fin.xna 65 164 B rfl rfl rfl ⟨by decide, by decide⟩ fun h142 B142 => ?_
  refine Fin.xpf 63 B142 rfl (by decide) rfl fun h143 B143 => ?_
  refine Fin.xna 66 165 B143 rfl rfl rfl ⟨by decide, by decide⟩ fun h144 B144 => ?_
  refine Fin.xpf 63 B144 rfl (by decide) rfl fun h145 B145 => ?_
  refine Fin.xna 67 166 B145 rfl rfl rfl ⟨by decide, by decide⟩ fun h146 B146 => ?_
  refine Fin.xpf 63 B146 rfl (by decide) rfl fun h147 B147 => ?_
  refine Fin.xna 68 167 B147 rfl rfl rfl ⟨by decide, by decide⟩ fun h148 B148 => ?_
  refine Fin.xpf 63 B148 rfl (by decide) rfl fun h149 B149 => ?_
  exact ⟨_, rfl, B149⟩
theorem in_171 {l : List (Int × Int × Int)} {h : MM} (n : Nat) (hn : 10000000 ≤ n) (B : Bd h0 l 72 h) : Fin h0 (fun h => some (0, h)) ((171, 1, (-1)) :: (171, 0, 172) :: l) 73 (f_X9_init n 171 h) := by
  delta f_X9_init
  refine Fin.xnz (by decide) ?_
  refine Fin.xna 73 172 B rfl rfl rfl ⟨by decide, by decide⟩ fun h159 B159 => ?_
  refine Fin.xpf 71 B159 rfl (by decide) rfl fun h160 B160 => ?_
  refine Fin.xpf 71 B160 rfl (by decide) rfl fun h161 B161 => ?_
  exact ⟨_, rfl, B161⟩
theorem in_173 {l : List (Int × Int × Int)} {h : MM} (n : Nat) (hn : 10000000 ≤ n) (B : Bd h0 l 74 h) : Fin h0 (fun h => some (0, h)) ((173, 1, (-1)) :: (173, 0, 174) :: l) 75 (f_X9_init n 173 h) := by
  delta f_X9_init
  refine Fin.xnz (by decide) ?_
  refine Fin.xna 75 174 B rfl rfl rfl ⟨by decide, by decide⟩ fun h165 B165 => ?_
  refine Fin.xpf 73 B165 rfl (by decide) rfl fun h166 B166 => ?_
  refine Fin.xpf 73 B166 rfl (by decide) rfl fun h167 B167 => ?_
  exact ⟨_, rfl, B167⟩
theorem in_175 {l : List (Int × Int × Int)} {h : MM} (n : Nat) (hn : 10000000 ≤ n) (B : Bd h0 l 76 h) : Fin h0 (fun h => some (0, h)) ((175, 1, (-1)) :: (175, 0, 176) :: l) 77 (f_X9_init n 175 h) := by
  delta f_X9_init
  refine Fin.xnz (by decide) ?_
  refine Fin.xna 77 176 B rfl rfl rfl ⟨by decide, by decide⟩ fun h171 B171 => ?_
  refine Fin.xpf 75 B171 rfl (by decide) rfl fun h172 B172 => ?_
  refine Fin.xpf 75 B172 rfl (by decide) rfl fun h173 B173 => ?_
  exact ⟨_, rfl, B173⟩
theorem in_177 {l : List (Int × Int × Int)} {h : MM} (n : Nat) (hn : 10000000 ≤ n) (B : Bd h0 l 78 h) : Fin h0 (fun h => some (0, h)) ((177, 1, (-1)) :: (177, 0, 178) :: l) 79 (f_X9_init n 177 h) := by
  delta f_X9_init
  refine Fin.xnz (by decide) ?_
  refine Fin.xna 79 178 B rfl rfl rfl ⟨by decide, by decide⟩ fun h177 B177 => ?_
  refine Fin.xpf 77 B177 rfl (by decide) rfl fun h178 B178 => ?_
  refine Fin.xpf 77 B178 rfl (by decide) rfl fun h179 B179 => ?_
  exact ⟨_, rfl, B179⟩
theorem in_140 {l : List (Int × Int × Int)} {h : MM} (n : Nat) (hn : 10000000 ≤ n) (B : Bd h0 l 41 h) : Fin h0 (fun h => some (0, h)) ((168, 3, 177) :: (177, 1, (-1)) :: (177, 0, 178) :: (168, 2, 175) :: (175, 1, (-1)) :: (175, 0, 176) :: (168, 1, 173) :: (173, 1, (-1)) :: (173, 0, 174) :: (168, 0, 171) :: (171, 1, (-1)) :: (171, 0, 172) :: (140, 6, 170) :: (140, 5, 169) :: (140, 4, 168) :: (140, 3, 163) :: (163, 4, 167) :: (163, 3, 166) :: (163, 1, 165) :: (163, 0, 164) :: (140, 2, 154) :: (154, 7, 162) :: (154, 6, 161) :: (154, 5, 160) :: (154, 4, 159) :: (154, 3, 158) :: (154, 2, 157) :: (154, 1, 156) :: (154, 0, 155) :: (140, 1, 147) :: (147, 5, 153) :: (147, 4, 152) :: (147, 3, 151) :: (147, 2, 150) :: (147, 1, 149) :: (147, 0, 148) :: (140, 0, 141) :: (141, 4, 146) :: (141, 3, 145) :: (141, 2, 144) :: (141, 1, 143) :: (141, 0, 142) :: l) 79 (f_X10_init n 140 h) := by
  delta f_X10_init
  refine Fin.xnz (by decide) ?_
  refine Fin.xnw 42 141 B rfl rfl rfl ⟨by decide, by decide⟩ fun h94 B94 => ?_
  refine Fin.xnz (by decide) ?_
  refine Fin.xbd (in_141 n hn B94) fun h105 B105 => ?_
  refine Fin.xpf 40 B105 rfl (by decide) rfl fun h106 B106 => ?_
  refine Fin.xnw 48 147 B106 rfl rfl rfl ⟨by decide, by decide⟩ fun h107 B107 => ?_
  refine Fin.xnz (by decide) ?_
  refine Fin.xbd (in_147 n hn B107) fun h120 B120 => ?_
  refine Fin.xpf 40 B120 rfl (by decide) rfl fun h121 B121 => ?_
  refine Fin.xnw 55 154 B121 rfl rfl rfl ⟨by decide, by decide⟩ fun h122 B122 => ?_
  refine Fin.xnz (by decide) ?_
  refine Fin.xbd (in_154 n hn B122) fun h139 B139 => ?_
  refine Fin.xpf 40 B139 rfl (by decide) rfl fun h140 B140 => ?_
  refine Fin.xnw 64 163 B140 rfl rfl rfl ⟨by decide, by decide⟩ fun h141 B141 => ?_
  refine Fin.xnz (by decide) ?_
  refine Fin.xbd (in_163 n hn B141) fun h150 B150 => ?_
  refine Fin.xpf 40 B150 rfl (by decide) rfl fun h151 B151 => ?_
  refine Fin.xna 69 168 B151 rfl rfl rfl ⟨by decide, by decide⟩ fun h152 B152 => ?_
  refine Fin.xpf 40 B152 rfl (by decide) rfl fun h153 B153 => ?_
  refine Fin.xna 70 169 B153 rfl rfl rfl ⟨by decide, by decide⟩ fun h154 B154 => ?_
  refine Fin.xpf 40 B154 rfl (by decide) rfl fun h155 B155 => ?_
  refine Fin.xna 71 170 B155 rfl rfl rfl ⟨by decide, by decide⟩ fun h156 B156 => ?_
  refine Fin.xpf 40 B156 rfl (by decide) rfl fun h157 B157 => ?_
  obtain ⟨m, hm⟩ : ∃ m, n = m + 8 := ⟨n - 8, by omega⟩
  rw [show ∀ hh : MM, f_X10_init_76 n 140 n 0 hh = f_X10_init_76 n 140 (m + 8) 0 hh from fun hh => by rw [← hm]]
  show Fin _ _ _ _ (f_X10_init_76b n (f_X10_init_76 n 140 (m + 7)) 140 0 _)
  delta f_X10_init_76b
  rw [if_neg (by decide)]
  refine Fin.xgf 40 (w := 168) B157 rfl (by decide) rfl rfl ?_
  refine Fin.xnw 72 171 B157 rfl rfl rfl ⟨by decide, by decide⟩ fun h158 B158 => ?_
  refine Fin.xnz (by decide) ?_
  refine Fin.xbd (in_171 n hn B158) fun h162 B162 => ?_
  refine Fin.xgk 71 B162 rfl (by decide) rfl ?_
  refine Fin.xwt 68 (j := 0) B162 rfl (by decide) rfl (by first | rfl | exact wrk ⟨by decide, by decide⟩) (by decide) (by decide) fun h163 B163 => ?_
  refine Fin.xlb (w := 1) (wrk ⟨by decide, by decide⟩) ?_
  show Fin _ _ _ _ (f_X10_init_76b n (f_X10_init_76 n 140 (m + 6)) 140 1 _)
  delta f_X10_init_76b
  rw [if_neg (by decide)]
  refine Fin.xgf 40 (w := 168) B163 rfl (by decide) rfl rfl ?_
  refine Fin.xnw 74 173 B163 rfl rfl rfl ⟨by decide, by decide⟩ fun h164 B164 => ?_
  refine Fin.xnz (by decide) ?_
  refine Fin.xbd (in_173 n hn B164) fun h168 B168 => ?_
  refine Fin.xgk 73 B168 rfl (by decide) rfl ?_
  refine Fin.xwt 68 (j := 1) B168 rfl (by decide) rfl (by first | rfl | exact wrk ⟨by decide, by decide⟩) (by decide) (by decide) fun h169 B169 => ?_
  refine Fin.xlb (w := 2) (wrk ⟨by decide, by decide⟩) ?_
  show Fin _ _ _ _ (f_X10_init_76b n (f_X10_init_76 n 140 (m + 5)) 140 2 _)
  delta f_X10_init_76b
  rw [if_neg (by decide)]
  refine Fin.xgf 40 (w := 168) B169 rfl (by decide) rfl rfl ?_
  refine Fin.xnw 76 175 B169 rfl rfl rfl ⟨by decide, by decide⟩ fun h170 B170 => ?_
  refine Fin.xnz (by decide) ?_
  refine Fin.xbd (in_175 n hn B170) fun h174 B174 => ?_
  refine Fin.xgk 75 B174 rfl (by decide) rfl ?_
  refine Fin.xwt 68 (j := 2) B174 rfl (by decide) rfl (by first | rfl | exact wrk ⟨by decide, by decide⟩) (by decide) (by decide) fun h175 B175 => ?_
  refine Fin.xlb (w := 3) (wrk ⟨by decide, by decide⟩) ?_
  show Fin _ _ _ _ (f_X10_init_76b n (f_X10_init_76 n 140 (m + 4)) 140 3 _)
  delta f_X10_init_76b
  rw [if_neg (by decide)]
  refine Fin.xgf 40 (w := 168) B175 rfl (by decide) rfl rfl ?_
  refine Fin.xnw 78 177 B175 rfl rfl rfl ⟨by decide, by decide⟩ fun h176 B176 => ?_
  refine Fin.xnz (by decide) ?_
  refine Fin.xbd (in_177 n hn B176) fun h180 B180 => ?_
  refine Fin.xgk 77 B180 rfl (by decide) rfl ?_
  refine Fin.xwt 68 (j := 3) B180 rfl (by decide) rfl (by first | rfl | exact wrk ⟨by decide, by decide⟩) (by decide) (by decide) fun h181 B181 => ?_
  refine Fin.xlb (w := 4) (wrk ⟨by decide, by decide⟩) ?_
  show Fin _ _ _ _ (f_X10_init_76b n (f_X10_init_76 n 140 (m + 3)) 140 4 _)
  delta f_X10_init_76b
  rw [if_pos (by decide)]
  exact ⟨_, rfl, B181⟩
theorem in_180 {l : List (Int × Int × Int)} {h : MM} (n : Nat) (hn : 10000000 ≤ n) (B : Bd h0 l 81 h) : Fin h0 (fun h => some (0, h)) ((180, 4, 183) :: (180, 3, 182) :: (180, 0, 181) :: l) 84 (f_X7_init n 180 h) := by
  delta f_X7_init
  refine Fin.xnz (by decide) ?_
  refine Fin.xna 82 181 B rfl rfl rfl ⟨by decide, by decide⟩ fun h187 B187 => ?_
  refine Fin.xpf 80 B187 rfl (by decide) rfl fun h188 B188 => ?_
  refine Fin.xna 83 182 B188 rfl rfl rfl ⟨by decide, by decide⟩ fun h189 B189 => ?_
  refine Fin.xpf 80 B189 rfl (by decide) rfl fun h190 B190 => ?_
  refine Fin.xna 84 183 B190 rfl rfl rfl ⟨by decide, by decide⟩ fun h191 B191 => ?_
  refine Fin.xpf 80 B191 rfl (by decide) rfl fun h192 B192 => ?_
  exact ⟨_, rfl, B192⟩
theorem in_184 {l : List (Int × Int × Int)} {h : MM} (n : Nat) (hn : 10000000 ≤ n) (B : Bd h0 l 85 h) : Fin h0 (fun h => some (0, h)) ((184, 5, 190) :: (184, 4, 189) :: (184, 3, 188) :: (184, 2, 187) :: (184, 1, 186) :: (184, 0, 185) :: l) 91 (f_X0_init n 184 h) := by
  delta f_X0_init
  refine Fin.xnz (by decide) ?_
  refine Fin.xna 86 185 B rfl rfl rfl ⟨by decide, by decide⟩ fun h196 B196 => ?_
  refine Fin.xpf 84 B196 rfl (by decide) rfl fun h197 B197 => ?_
  refine Fin.xna 87 186 B197 rfl rfl rfl ⟨by decide, by decide⟩ fun h198 B198 => ?_
  refine Fin.xpf 84 B198 rfl (by decide) rfl fun h199 B199 => ?_
  refine Fin.xna 88 187 B199 rfl rfl rfl ⟨by decide, by decide⟩ fun h200 B200 => ?_
  refine Fin.xpf 84 B200 rfl (by decide) rfl fun h201 B201 => ?_
  refine Fin.xna 89 188 B201 rfl rfl rfl ⟨by decide, by decide⟩ fun h202 B202 => ?_
  refine Fin.xpf 84 B202 rfl (by decide) rfl fun h203 B203 => ?_
  refine Fin.xna 90 189 B203 rfl rfl rfl ⟨by decide, by decide⟩ fun h204 B204 => ?_
  refine Fin.xpf 84 B204 rfl (by decide) rfl fun h205 B205 => ?_
  refine Fin.xna 91 190 B205 rfl rfl rfl ⟨by decide, by decide⟩ fun h206 B206 => ?_
  refine Fin.xpf 84 B206 rfl (by decide) rfl fun h207 B207 => ?_
  exact ⟨_, rfl, B207⟩
theorem in_191 {l : List (Int × Int × Int)} {h : MM} (n : Nat) (hn : 10000000 ≤ n) (B : Bd h0 l 92 h) : Fin h0 (fun h => some (0, h)) ((191, 4, 196) :: (191, 3, 195) :: (191, 2, 194) :: (191, 1, 193) :: (191, 0, 192) :: l) 97 (f_X2_init n 191 h) := by
  delta f_X2_init
  refine Fin.xnz (by decide) ?_
  refine Fin.xna 93 192 B rfl rfl rfl ⟨by decide, by decide⟩ fun h211 B211 => ?_
  refine Fin.xpf 91 B211 rfl (by decide) rfl fun h212 B212 => ?_
  refine Fin.xna 94 193 B212 rfl rfl rfl ⟨by decide, by decide⟩ fun h213 B213 => ?_
  refine Fin.xpf 91 B213 rfl (by decide) rfl fun h214 B214 => ?_
  refine Fin.xna 95 194 B214 rfl rfl rfl ⟨by decide, by decide⟩ fun h215 B215 => ?_
  refine Fin.xpf 91 B215 rfl (by decide) rfl fun h216 B216 => ?_
  refine Fin.xna 96 195 B216 rfl rfl rfl ⟨by decide, by decide⟩ fun h217 B217 => ?_
  refine Fin.xpf 91 B217 rfl (by decide) rfl fun h218 B218 => ?_
  refine Fin.xna 97 196 B218 rfl rfl rfl ⟨by decide, by decide⟩ fun h219 B219 => ?_
  refine Fin.xpf 91 B219 rfl (by decide) rfl fun h220 B220 => ?_
  exact ⟨_, rfl, B220⟩
theorem in_100 {l : List (Int × Int × Int)} {h : MM} (n : Nat) (hn : 10000000 ≤ n) (B : Bd h0 l 1 h) : Fin h0 (fun h => some (0, h)) ((100, 6, 191) :: (191, 4, 196) :: (191, 3, 195) :: (191, 2, 194) :: (191, 1, 193) :: (191, 0, 192) :: (100, 5, 184) :: (184, 5, 190) :: (184, 4, 189) :: (184, 3, 188) :: (184, 2, 187) :: (184, 1, 186) :: (184, 0, 185) :: (100, 4, 180) :: (180, 4, 183) :: (180, 3, 182) :: (180, 0, 181) :: (100, 3, 179) :: (100, 1, 140) :: (168, 3, 177) :: (177, 1, (-1)) :: (177, 0, 178) :: (168, 2, 175) :: (175, 1, (-1)) :: (175, 0, 176) :: (168, 1, 173) :: (173, 1, (-1)) :: (173, 0, 174) :: (168, 0, 171) :: (171, 1, (-1)) :: (171, 0, 172) :: (140, 6, 170) :: (140, 5, 169) :: (140, 4, 168) :: (140, 3, 163) :: (163, 4, 167) :: (163, 3, 166) :: (163, 1, 165) :: (163, 0, 164) :: (140, 2, 154) :: (154, 7, 162) :: (154, 6, 161) :: (154, 5, 160) :: (154, 4, 159) :: (154, 3, 158) :: (154, 2, 157) :: (154, 1, 156) :: (154, 0, 155) :: (140, 1, 147) :: (147, 5, 153) :: (147, 4, 152) :: (147, 3, 151) :: (147, 2, 150) :: (147, 1, 149) :: (147, 0, 148) :: (140, 0, 141) :: (141, 4, 146) :: (141, 3, 145) :: (141, 2, 144) :: (141, 1, 143) :: (141, 0, 142) :: (100, 0, 101) :: (129, 3, 138) :: (138, 1, (-1)) :: (138, 0, 139) :: (129, 2, 136) :: (136, 1, (-1)) :: (136, 0, 137) :: (129, 1, 134) :: (134, 1, (-1)) :: (134, 0, 135) :: (129, 0, 132) :: (132, 1, (-1)) :: (132, 0, 133) :: (101, 6, 131) :: (101, 5, 130) :: (101, 4, 129) :: (101, 3, 124) :: (124, 4, 128) :: (124, 3, 127) :: (124, 1, 126) :: (124, 0, 125) :: (101, 2, 115) :: (115, 7, 123) :: (115, 6, 122) :: (115, 5, 121) :: (115, 4, 120) :: (115, 3, 119) :: (115, 2, 118) :: (115, 1, 117) :: (115, 0, 116) :: (101, 1, 108) :: (108, 5, 114) :: (108, 4, 113) :: (108, 3, 112) :: (108, 2, 111) :: (108, 1, 110) :: (108, 0, 109) :: (101, 0, 102) :: (102, 4, 107) :: (102, 3, 106) :: (102, 2, 105) :: (102, 1, 104) :: (102, 0, 103) :: l) 97 (f_X11_init n 100 h) := by
  delta f_X11_init
  refine Fin.xnz (by decide) ?_
  refine Fin.xnw 2 101 B rfl rfl rfl ⟨by decide, by decide⟩ fun h2 B2 => ?_
  refine Fin.xnz (by decide) ?_
  refine Fin.xbd (in_101 n hn B2) fun h91 B91 => ?_
  refine Fin.xpf 0 B91 rfl (by decide) rfl fun h92 B92 => ?_
  refine Fin.xnw 41 140 B92 rfl rfl rfl ⟨by decide, by decide⟩ fun h93 B93 => ?_
  refine Fin.xnz (by decide) ?_
  refine Fin.xbd (in_140 n hn B93) fun h182 B182 => ?_
  refine Fin.xpf 0 B182 rfl (by decide) rfl fun h183 B183 => ?_
  refine Fin.xna 80 179 B183 rfl rfl rfl ⟨by decide, by decide⟩ fun h184 B184 => ?_
  refine Fin.xpf 0 B184 rfl (by decide) rfl fun h185 B185 => ?_
  refine Fin.xnw 81 180 B185 rfl rfl rfl ⟨by decide, by decide⟩ fun h186 B186 => ?_
  refine Fin.xnz (by decide) ?_
  refine Fin.xbd (in_180 n hn B186) fun h193 B193 => ?_
  refine Fin.xpf 0 B193 rfl (by decide) rfl fun h194 B194 => ?_
  refine Fin.xnw 85 184 B194 rfl rfl rfl ⟨by decide, by decide⟩ fun h195 B195 => ?_
  refine Fin.xnz (by decide) ?_
  refine Fin.xbd (in_184 n hn B195) fun h208 B208 => ?_
  refine Fin.xpf 0 B208 rfl (by decide) rfl fun h209 B209 => ?_
  refine Fin.xnw 92 191 B209 rfl rfl rfl ⟨by decide, by decide⟩ fun h210 B210 => ?_
  refine Fin.xnz (by decide) ?_
  refine Fin.xbd (in_191 n hn B210) fun h221 B221 => ?_
  refine Fin.xpf 0 B221 rfl (by decide) rfl fun h222 B222 => ?_
  exact ⟨_, rfl, B222⟩
theorem in_197 {l : List (Int × Int × Int)} {h : MM} (n : Nat) (hn : 10000000 ≤ n) (B : Bd h0 l 98 h) : Fin h0 (fun h => some (0, h)) ((198, 203, (-1)) :: (198, 202, (-1)) :: (198, 201, (-1)) :: (198, 200, (-1)) :: (197, 20, 211) :: (197, 19, 210) :: (197, 18, 209) :: (197, 17, 208) :: (197, 16, 207) :: (197, 15, 206) :: (197, 14, 205) :: (197, 12, 204) :: (197, 11, 203) :: (197, 10, 202) :: (197, 9, 201) :: (197, 8, 200) :: (197, 2, 199) :: (197, 1, 198) :: l) 112 (f_X12_init n 197 h) := by
  delta f_X12_init
  refine Fin.xnz (by decide) ?_
  refine Fin.xna 99 198 B rfl rfl rfl ⟨by decide, by decide⟩ fun h225 B225 => ?_
  refine Fin.xpf 97 B225 rfl (by decide) rfl fun h226 B226 => ?_
  refine Fin.xna 100 199 B226 rfl rfl rfl ⟨by decide, by decide⟩ fun h227 B227 => ?_
  refine Fin.xpf 97 B227 rfl (by decide) rfl fun h228 B228 => ?_
  refine Fin.xna 101 200 B228 rfl rfl rfl ⟨by decide, by decide⟩ fun h229 B229 => ?_
  refine Fin.xpf 97 B229 rfl (by decide) rfl fun h230 B230 => ?_
  refine Fin.xna 102 201 B230 rfl rfl rfl ⟨by decide, by decide⟩ fun h231 B231 => ?_
  refine Fin.xpf 97 B231 rfl (by decide) rfl fun h232 B232 => ?_
  refine Fin.xna 103 202 B232 rfl rfl rfl ⟨by decide, by decide⟩ fun h233 B233 => ?_
  refine Fin.xpf 97 B233 rfl (by decide) rfl fun h234 B234 => ?_
  refine Fin.xna 104 203 B234 rfl rfl rfl ⟨by decide, by decide⟩ fun h235 B235 => ?_
  refine Fin.xpf 97 B235 rfl (by decide) rfl fun h236 B236 => ?_
  refine Fin.xna 105 204 B236 rfl rfl rfl ⟨by decide, by decide⟩ fun h237 B237 => ?_
  refine Fin.xpf 97 B237 rfl (by decide) rfl fun h238 B238 => ?_
  refine Fin.xna 106 205 B238 rfl rfl rfl ⟨by decide, by decide⟩ fun h239 B239 => ?_
  refine Fin.xpf 97 B239 rfl (by decide) rfl fun h240 B240 => ?_
  refine Fin.xna 107 206 B240 rfl rfl rfl ⟨by decide, by decide⟩ fun h241 B241 => ?_
  refine Fin.xpf 97 B241 rfl (by decide) rfl fun h242 B242 => ?_
  refine Fin.xna 108 207 B242 rfl rfl rfl ⟨by decide, by decide⟩ fun h243 B243 => ?_
  refine Fin.xpf 97 B243 rfl (by decide) rfl fun h244 B244 => ?_
  refine Fin.xna 109 208 B244 rfl rfl rfl ⟨by decide, by decide⟩ fun h245 B245 => ?_
  refine Fin.xpf 97 B245 rfl (by decide) rfl fun h246 B246 => ?_
  refine Fin.xna 110 209 B246 rfl rfl rfl ⟨by decide, by decide⟩ fun h247 B247 => ?_
  refine Fin.xpf 97 B247 rfl (by decide) rfl fun h248 B248 => ?_
  refine Fin.xna 111 210 B248 rfl rfl rfl ⟨by decide, by decide⟩ fun h249 B249 => ?_
  refine Fin.xpf 97 B249 rfl (by decide) rfl fun h250 B250 => ?_
  refine Fin.xna 112 211 B250 rfl rfl rfl ⟨by decide, by decide⟩ fun h251 B251 => ?_
  refine Fin.xpf 97 B251 rfl (by decide) rfl fun h252 B252 => ?_
  obtain ⟨m, hm⟩ : ∃ m, n = m + 8 := ⟨n - 8, by omega⟩
  rw [show ∀ hh : MM, f_X12_init_121 n 197 n 0 hh = f_X12_init_121 n 197 (m + 8) 0 hh from fun hh => by rw [← hm]]
  show Fin _ _ _ _ (f_X12_init_121b n (f_X12_init_121 n 197 (m + 7)) 197 0 _)
  delta f_X12_init_121b
  rw [if_neg (by decide)]
  refine Fin.xgf 97 (w := 198) B252 rfl (by decide) rfl rfl ?_
  refine Fin.xwt 98 (j := 200) B252 rfl (by decide) rfl (by first | rfl | exact wrk ⟨by decide, by decide⟩) (by decide) (by decide) fun h253 B253 => ?_
  refine Fin.xlb (w := 1) (wrk ⟨by decide, by decide⟩) ?_
  show Fin _ _ _ _ (f_X12_init_121b n (f_X12_init_121 n 197 (m + 6)) 197 1 _)
  delta f_X12_init_121b
  rw [if_neg (by decide)]
  refine Fin.xgf 97 (w := 198) B253 rfl (by decide) rfl rfl ?_
  refine Fin.xwt 98 (j := 201) B253 rfl (by decide) rfl (by first | rfl | exact wrk ⟨by decide, by decide⟩) (by decide) (by decide) fun h254 B254 => ?_
  refine Fin.xlb (w := 2) (wrk ⟨by decide, by decide⟩) ?_
  show Fin _ _ _ _ (f_X12_init_121b n (f_X12_init_121 n 197 (m + 5)) 197 2 _)
  delta f_X12_init_121b
  rw [if_neg (by decide)]
  refine Fin.xgf 97 (w := 198) B254 rfl (by decide) rfl rfl ?_
  refine Fin.xwt 98 (j := 202) B254 rfl (by decide) rfl (by first | rfl | exact wrk ⟨by decide, by decide⟩) (by decide) (by decide) fun h255 B255 => ?_
  refine Fin.xlb (w := 3) (wrk ⟨by decide, by decide⟩) ?_
  show Fin _ _ _ _ (f_X12_init_121b n (f_X12_init_121 n 197 (m + 4)) 197 3 _)
  delta f_X12_init_121b
  rw [if_neg (by decide)]
  refine Fin.xgf 97 (w := 198) B255 rfl (by decide) rfl rfl ?_
  refine Fin.xwt 98 (j := 203) B255 rfl (by decide) rfl (by first | rfl | exact wrk ⟨by decide, by decide⟩) (by decide) (by decide) fun h256 B256 => ?_
  refine Fin.xlb (w := 4) (wrk ⟨by decide, by decide⟩) ?_
  show Fin _ _ _ _ (f_X12_init_121b n (f_X12_init_121 n 197 (m + 3)) 197 4 _)
  delta f_X12_init_121b
  rw [if_pos (by decide)]
  exact ⟨_, rfl, B256⟩
theorem law_in (n : Nat) (hn : 10000000 ≤ n) {v0 : Int} (B : Bd h0 [] 0 h0) : Fin h0 (fun h => f_L_law_18 n v0 100 197 n 0 h) LL 112 (f_L_law n v0 h0) := by
  delta f_L_law LL
  refine Fin.xnw 1 100 B rfl rfl rfl ⟨by decide, by decide⟩ fun h1 B1 => ?_
  refine Fin.xnz (by decide) ?_
  refine Fin.xbd (in_100 n hn B1) fun h223 B223 => ?_
  refine Fin.xnw 98 197 B223 rfl rfl rfl ⟨by decide, by decide⟩ fun h224 B224 => ?_
  refine Fin.xnz (by decide) ?_
  refine Fin.xbd (in_197 n hn B224) fun h257 B257 => ?_
  exact ⟨_, rfl, B257⟩
end INI
