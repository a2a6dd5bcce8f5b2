theorem ct0w : ∀ w ∈ u_ws RX0 TX0 7, w ∈ wG := in_pl [396, 398, 400, 402, 404, 406, 408] (by decide +kernel) (by decide +kernel)
theorem ct0 : CT 0 RX0 TX0 7 tyX0 := ⟨rfl, ct0w, tyX0_ok, nmX0, rfl, by decide, by decide +kernel⟩
theorem cf0 : ∀ k, k < 7 → tyX0 k ≠ .float ∧ tyX0 k ≠ .double := by decide +kernel
theorem ct1w : ∀ w ∈ u_ws RX1 TX1 6, w ∈ wG := in_pl [143, 145, 147, 149, 151, 153] (by decide +kernel) (by decide +kernel)
theorem ct1 : CT 1 RX1 TX1 6 tyX1 := ⟨rfl, ct1w, tyX1_ok, nmX1, rfl, by decide, by decide +kernel⟩
theorem cf1 : ∀ k, k < 6 → tyX1 k ≠ .float ∧ tyX1 k ≠ .double := by decide +kernel
theorem ct2w : ∀ w ∈ u_ws RX2 TX2 7, w ∈ wG := in_pl [425, 427, 429, 431, 433, 435, 437] (by decide +kernel) (by decide +kernel)
theorem ct2 : CT 2 RX2 TX2 7 tyX2 := ⟨rfl, ct2w, tyX2_ok, nmX2, rfl, by decide, by decide +kernel⟩
theorem cf2 : ∀ k, k < 7 → tyX2 k ≠ .float ∧ tyX2 k ≠ .double := by decide +kernel
theorem ct3w : ∀ w ∈ u_ws RX3 TX3 6, w ∈ wG := in_pl [543, 545, 547, 549, 551, 553] (by decide +kernel) (by decide +kernel)
theorem ct3 : CT 3 RX3 TX3 6 tyX3 := ⟨rfl, ct3w, tyX3_ok, nmX3, rfl, by decide, by decide +kernel⟩
theorem cf3 : ∀ k, k < 6 → tyX3 k ≠ .float ∧ tyX3 k ≠ .double := by decide +kernel
theorem ct4w : ∀ w ∈ u_ws RX4 TX4 11, w ∈ wG := in_pl [758, 760, 762, 764, 766, 768, 770, 772, 774, 776, 778] (by decide +kernel) (by decide +kernel)
theorem ct4 : CT 4 RX4 TX4 11 tyX4 := ⟨rfl, ct4w, tyX4_ok, nmX4, rfl, by decide, by decide +kernel⟩
theorem cf4 : ∀ k, k < 11 → tyX4 k ≠ .float ∧ tyX4 k ≠ .double := by decide +kernel
theorem ct5w : ∀ w ∈ u_ws RX5 TX5 10, w ∈ wG := in_pl [186, 188, 190, 192, 194, 196, 198, 200, 202, 204] (by decide +kernel) (by decide +kernel)
theorem ct5 : CT 5 RX5 TX5 10 tyX5 := ⟨rfl, ct5w, tyX5_ok, nmX5, rfl, by decide, by decide +kernel⟩
theorem cf5 : ∀ k, k < 10 → tyX5 k ≠ .float ∧ tyX5 k ≠ .double := by decide +kernel
theorem ct6w : ∀ w ∈ u_ws RX6 TX6 5, w ∈ wG := in_pl [260, 262, 264, 266, 268] (by decide +kernel) (by decide +kernel)
theorem ct6 : CT 6 RX6 TX6 5 tyX6 := ⟨rfl, ct6w, tyX6_ok, nmX6, rfl, by decide, by decide +kernel⟩
theorem cf6 : ∀ k, k < 5 → tyX6 k ≠ .float ∧ tyX6 k ≠ .double := by decide +kernel
theorem ct7w : ∀ w ∈ u_ws RX7 TX7 9, w ∈ wG := in_pl [363, 365, 367, 369, 371, 373, 375, 377, 379] (by decide +kernel) (by decide +kernel)
theorem ct7 : CT 7 RX7 TX7 9 tyX7 := ⟨rfl, ct7w, tyX7_ok, nmX7, rfl, by decide, by decide +kernel⟩
theorem cf7 : ∀ k, k < 9 → tyX7 k ≠ .float ∧ tyX7 k ≠ .double := by decide +kernel
theorem ct8w : ∀ w ∈ u_ws RX8 TX8 9, w ∈ wG := in_pl [228, 230, 232, 234, 236, 238, 240, 242, 244] (by decide +kernel) (by decide +kernel)
theorem ct8 : CT 8 RX8 TX8 9 tyX8 := ⟨rfl, ct8w, tyX8_ok, nmX8, rfl, by decide, by decide +kernel⟩
theorem cf8 : ∀ k, k < 9 → tyX8 k ≠ .float ∧ tyX8 k ≠ .double := by decide +kernel
theorem ct9w : ∀ w ∈ u_ws RX9 TX9 3, w ∈ wG := in_pl [290, 292, 294] (by decide +kernel) (by decide +kernel)
theorem ct9 : CT 9 RX9 TX9 3 tyX9 := ⟨rfl, ct9w, tyX9_ok, nmX9, rfl, by decide, by decide +kernel⟩
theorem cf9 : ∀ k, k < 3 → tyX9 k ≠ .float ∧ tyX9 k ≠ .double := by decide +kernel
theorem ct10w : ∀ w ∈ u_ws RX10 TX10 11, w ∈ wG := in_pl [320, 322, 324, 326, 328, 330, 332, 334, 336, 338, 340] (by decide +kernel) (by decide +kernel)
theorem ct10 : CT 10 RX10 TX10 11 tyX10 := ⟨rfl, ct10w, tyX10_ok, nmX10, rfl, by decide, by decide +kernel⟩
theorem cf10 : ∀ k, k < 11 → tyX10 k ≠ .float ∧ tyX10 k ≠ .double := by decide +kernel
theorem ct11w : ∀ w ∈ u_ws RX11 TX11 7, w ∈ wG := in_pl [447, 449, 451, 453, 455, 457, 459] (by decide +kernel) (by decide +kernel)
theorem ct11 : CT 11 RX11 TX11 7 tyX11 := ⟨rfl, ct11w, tyX11_ok, nmX11, rfl, by decide, by decide +kernel⟩
theorem cf11 : ∀ k, k < 7 → tyX11 k ≠ .float ∧ tyX11 k ≠ .double := by decide +kernel
theorem ct12w : ∀ w ∈ u_ws RX12 TX12 21, w ∈ wG := in_pl [1446, 1448, 1450, 1452, 1454, 1456, 1458, 1460, 1462, 1464, 1466, 1468, 1470, 1472, 1474, 1476, 1478, 1480, 1482, 1484, 1486] (by decide +kernel) (by decide +kernel)
theorem ct12 : CT 12 RX12 TX12 21 tyX12 := ⟨rfl, ct12w, tyX12_ok, nmX12, rfl, by decide, by decide +kernel⟩
theorem cf12 : ∀ k, k < 21 → tyX12 k ≠ .float ∧ tyX12 k ≠ .double := by decide +kernel
theorem wo1 : Cond.instanceMethod Lib.objectInit ∈ wG := wG_in 114 (by decide +kernel) (by decide +kernel)
theorem wo2 : Cond.code Lib.objectInit ⟨#[0xb1]⟩ 1 none ∈ wG := wG_in 115 (by decide +kernel) (by decide +kernel)
theorem wa1 : Cond.native arraycopyName ∈ wG := wG_in 528 (by decide +kernel) (by decide +kernel)
theorem wa2 : Cond.static arraycopyName ∈ wG := wG_in 527 (by decide +kernel) (by decide +kernel)
theorem wa3 : Cond.initialized "java/lang/System" ∈ wG := wG_in 101 (by decide +kernel) (by decide +kernel)
theorem wc1 : Cond.native ⟨"java/lang/Object", "clone", "()Ljava/lang/Object;"⟩ ∈ wG := wG_in 518 (by decide +kernel) (by decide +kernel)
theorem wc2 : Cond.instanceMethod ⟨"java/lang/Object", "clone", "()Ljava/lang/Object;"⟩ ∈ wG := wG_in 519 (by decide +kernel) (by decide +kernel)
theorem wc100a : Cond.sameMethod "[I" "java/lang/Object" "clone" "()Ljava/lang/Object;" ∈ wG := wG_in 832 (by decide +kernel) (by decide +kernel)
theorem wc100b : Cond.selects "[I" ⟨"[I", "clone", "()Ljava/lang/Object;"⟩ ⟨"java/lang/Object", "clone", "()Ljava/lang/Object;"⟩ ∈ wG := wG_in 833 (by decide +kernel) (by decide +kernel)
theorem wc102a : Cond.sameMethod "[B" "java/lang/Object" "clone" "()Ljava/lang/Object;" ∈ wG := wG_in 517 (by decide +kernel) (by decide +kernel)
theorem wc102b : Cond.selects "[B" ⟨"[B", "clone", "()Ljava/lang/Object;"⟩ ⟨"java/lang/Object", "clone", "()Ljava/lang/Object;"⟩ ∈ wG := wG_in 520 (by decide +kernel) (by decide +kernel)
theorem wm_max1 : Cond.static Lib.Math.max.name ∈ wG := wG_in 631 (by decide +kernel) (by decide +kernel)
theorem wm_max2 : Cond.code Lib.Math.max.name Lib.Math.max.code 2 (some .int) ∈ wG := wG_in 632 (by decide +kernel) (by decide +kernel)
theorem wm_min1 : Cond.static Lib.Math.min.name ∈ wG := wG_in 524 (by decide +kernel) (by decide +kernel)
theorem wm_min2 : Cond.code Lib.Math.min.name Lib.Math.min.code 2 (some .int) ∈ wG := wG_in 525 (by decide +kernel) (by decide +kernel)
theorem wm_abs1 : Cond.static Lib.Math.abs.name ∈ wG := wG_in 867 (by decide +kernel) (by decide +kernel)
theorem wm_abs2 : Cond.code Lib.Math.abs.name Lib.Math.abs.code 1 (some .int) ∈ wG := wG_in 868 (by decide +kernel) (by decide +kernel)
theorem wm_minl1 : Cond.static Lib.MathLoose.min_long.x ∈ wG := wG_in 1205 (by decide +kernel) (by decide +kernel)
theorem wm_minl2 : Cond.code Lib.MathLoose.min_long.x Lib.MathLoose.min_long.code 4 (some .long) ∈ wG := wG_in 1206 (by decide +kernel) (by decide +kernel)
theorem wm_i : Cond.initialized "java/lang/Math" ∈ wG := wG_in 100 (by decide +kernel) (by decide +kernel)
def jmax (x z : Int) : Int := if x < z then z else x
def jmin (x z : Int) : Int := if z < x then z else x
def jabs (x : Int) : Int := if 0 ≤ x then x else wr (0 - x)
theorem in32_max {x z : Int} (a : in32 x) (b : in32 z) : in32 (jmax x z) := by unfold jmax; split; exact b; exact a
theorem in32_min {x z : Int} (a : in32 x) (b : in32 z) : in32 (jmin x z) := by unfold jmin; split; exact b; exact a
theorem in64_min {x z : Int} (a : in64 x) (b : in64 z) : in64 (jmin x z) := by unfold jmin; split; exact b; exact a
theorem in32_abs {x : Int} (a : in32 x) : in32 (jabs x) := by unfold jabs; split; exact a; exact in32_t _
theorem i64_lt {x y : Int} (hx : in64 x) (hy : in64 y) : i64 x < i64 y ↔ x < y := by rw [Int64.lt_iff_toInt_lt, i64_i hx, i64_i hy]
section MATHR
variable {g : GT} {cc : ByteArray} {nL : Nat} {y : MethodName} {FR LO : Nat} {pc : Nat} {lv st : List (Nat × Int)} {h : MM}
theorem r_mmax (C : Cx g cc nL y FR LO) {ix : Nat} {x z : Int} (d : decode cc pc = .ok (.invokestatic ix, 3)) (hw : Cond.methodLink y.cls ix ⟨"java/lang/Math", "max", "(II)I"⟩ ∈ wG) (hR : 1 ≤ FR ∧ catS st + 15 ≤ LO) (hl : lv.length = nL) (cx : in32 x) (cz : in32 z) (k : G g (pc + 3) lv ((0, jmax x z) :: st) h) : G g pc lv ((0, z) :: (0, x) :: st) h := by
  intro ls H locs l R S
  have q := k ls H locs l R S
  have e : i32 (jmax x z) = (if i32 x < i32 z then i32 z else i32 x) := by
    unfold jmax
    by_cases c : x < z
    · rw [if_pos c, if_pos ((i32_lt cx cz).mpr c)]
    · rw [if_neg c, if_neg (fun w => c ((i32_lt cx cz).mp w))]
  have hf := C.fit R S
  simp only [List.map_cons, cvp, cv, e] at q
  exact va_mmax C.hx C.hb (by rw [C.hml, ← hl]; exact l.1.symm) C.hown (C.hts _ hw) (C.hts _ wm_max1) (C.hts _ wm_i) (C.hts _ wm_max2) (by rw [C.hrm]; exact hR.1) (by rw [C.hrm, catS_s]; show _ ≤ LO; omega) (by omega) (by omega) d q
theorem r_mmin (C : Cx g cc nL y FR LO) {ix : Nat} {x z : Int} (d : decode cc pc = .ok (.invokestatic ix, 3)) (hw : Cond.methodLink y.cls ix ⟨"java/lang/Math", "min", "(II)I"⟩ ∈ wG) (hR : 1 ≤ FR ∧ catS st + 15 ≤ LO) (hl : lv.length = nL) (cx : in32 x) (cz : in32 z) (k : G g (pc + 3) lv ((0, jmin x z) :: st) h) : G g pc lv ((0, z) :: (0, x) :: st) h := by
  intro ls H locs l R S
  have q := k ls H locs l R S
  have e : i32 (jmin x z) = (if i32 z < i32 x then i32 z else i32 x) := by
    unfold jmin
    by_cases c : z < x
    · rw [if_pos c, if_pos ((i32_lt cz cx).mpr c)]
    · rw [if_neg c, if_neg (fun w => c ((i32_lt cz cx).mp w))]
  have hf := C.fit R S
  simp only [List.map_cons, cvp, cv, e] at q
  exact va_mmin C.hx C.hb (by rw [C.hml, ← hl]; exact l.1.symm) C.hown (C.hts _ hw) (C.hts _ wm_min1) (C.hts _ wm_i) (C.hts _ wm_min2) (by rw [C.hrm]; exact hR.1) (by rw [C.hrm, catS_s]; show _ ≤ LO; omega) (by omega) (by omega) d q
theorem r_mminl (C : Cx g cc nL y FR LO) {ix : Nat} {x z : Int} (d : decode cc pc = .ok (.invokestatic ix, 3)) (hw : Cond.methodLink y.cls ix ⟨"java/lang/Math", "min", "(JJ)J"⟩ ∈ wG) (hR : 1 ≤ FR ∧ catS st + 15 ≤ LO) (hl : lv.length = nL) (cx : in64 x) (cz : in64 z) (k : G g (pc + 3) lv ((1, jmin x z) :: st) h) : G g pc lv ((1, z) :: (1, x) :: st) h := by
  intro ls H locs l R S
  have q := k ls H locs l R S
  have e : i64 (jmin x z) = (if i64 z < i64 x then i64 z else i64 x) := by
    unfold jmin
    by_cases c : z < x
    · rw [if_pos c, if_pos ((i64_lt cz cx).mpr c)]
    · rw [if_neg c, if_neg (fun w => c ((i64_lt cz cx).mp w))]
  have hf := C.fit R S
  simp only [List.map_cons, cvp, cv, e] at q
  exact va_mmin_long C.hx C.hb (by rw [C.hml, ← hl]; exact l.1.symm) C.hown (C.hts _ hw) (C.hts _ wm_minl1) (C.hts _ wm_i) (C.hts _ wm_minl2) (by rw [C.hrm]; exact hR.1) (by rw [C.hrm, catS_s]; show _ ≤ LO; omega) (by omega) (by omega) d q
theorem r_mabs (C : Cx g cc nL y FR LO) {ix : Nat} {x : Int} (d : decode cc pc = .ok (.invokestatic ix, 3)) (hw : Cond.methodLink y.cls ix ⟨"java/lang/Math", "abs", "(I)I"⟩ ∈ wG) (hR : 1 ≤ FR ∧ catS st + 15 ≤ LO) (hl : lv.length = nL) (cx : in32 x) (k : G g (pc + 3) lv ((0, jabs x) :: st) h) : G g pc lv ((0, x) :: st) h := by
  intro ls H locs l R S
  have q := k ls H locs l R S
  have e : i32 (jabs x) = (if 0 ≤ i32 x then i32 x else 0 - i32 x) := by
    unfold jabs
    by_cases c : 0 ≤ x
    · rw [if_pos c, if_pos ((i32_0le cx).mpr c)]
    · rw [if_neg c, if_neg (fun w => c ((i32_0le cx).mp w)), i32_sub]; rfl
  have hf := C.fit R S
  simp only [List.map_cons, cvp, cv, e] at q
  exact va_mabs C.hx C.hb (by rw [C.hml, ← hl]; exact l.1.symm) C.hown (C.hts _ hw) (C.hts _ wm_abs1) (C.hts _ wm_i) (C.hts _ wm_abs2) (by rw [C.hrm]; exact hR.1) (by rw [C.hrm, catS_s]; show _ ≤ LO; omega) (by omega) (by omega) d q
theorem r_ccast (C : Cx g cc nL y FR LO) {ix t : Nat} {nm : String} {a ti : Int} (d : decode cc pc = .ok (.checkcast ix, 3)) (hw : Cond.classLink y.cls ix nm ∈ wG) (q : tg h a = ti ∧ 100 ≤ a) (et : ti = (t : Int)) (h1 : 100 ≤ t) (h2 : t ≤ 102) (hnm : nm = "[" ++ (aty t).toString) (k : G g (pc + 3) lv ((2, a) :: st) h) : G g pc lv ((2, a) :: st) h := by
  intro ls H locs l R S
  subst et
  have z := k ls H locs l R S
  obtain ⟨u1, u2, u3, u4, u5, u6, u7⟩ := R.1.own q.1 h1 q.2
  obtain ⟨-, a2, -⟩ := C.hK.2.2.1 t h1 (by omega)
  have ca : cv (gE g) 2 a = .ref (ad (gE g) a) := cv_ref (by omega)
  simp only [List.map_cons, cvp, ca] at z ⊢
  exact va_castE C.hx C.hb C.hown (C.hts _ hw) ⟨_, u1, rfl, by rw [hnm]; exact a2⟩ d z
end MATHR

def inb (x : Int) : Bool := decide (-128 ≤ x) && decide (x ≤ 127)
def inc (x : Int) : Bool := decide (0 ≤ x) && decide (x ≤ 65535)
def CMt (y' : MethodName) (cc' : ByteArray) (maxL' : Nat) (ret' : Option FieldType) (n : Nat) : Prop := Cond.instanceMethod y' ∈ wG ∧ Cond.selects y'.cls y' y' ∈ wG ∧ Cond.code y' cc' maxL' ret' ∈ wG ∧ Cond.initialized y'.cls ∈ wG ∧ clsOk y' n ∧ y'.cls = "java/lang/String"
theorem nar_b {x : Int} (h : inb x = true) : narrow .byte (.int (i32 x)) = .int (i32 x) := by
  simp only [inb, Bool.and_eq_true, decide_eq_true_eq] at h
  show Value.int ((i32 x).toInt8.toInt32) = _
  congr 1
  have e : (i32 x).toInt8 = Int8.ofInt x := by show (Int32.ofInt x).toInt8 = _; simp
  rw [e]
  exact i8_c (by simp only [Bool.and_eq_true, decide_eq_true_eq]; exact h)
theorem nar_c {x : Int} (h : inc x = true) : narrow .char (.int (i32 x)) = .int (i32 x) := by
  simp only [inc, Bool.and_eq_true, decide_eq_true_eq] at h
  obtain ⟨n, rfl⟩ : ∃ n : Nat, x = (n : Int) := ⟨x.toNat, by omega⟩
  have hn : n ≤ 65535 := by omega
  have e0 : i32 (n : Int) = Int32.ofNat n := Int32.ofInt_eq_ofNat
  rw [e0]
  have e : (UInt32.ofNat n).toUInt16.toUInt32 = UInt32.ofNat n := by
    apply UInt32.toNat_inj.mp
    simp only [UInt16.toNat_toUInt32, UInt32.toNat_toUInt16, UInt32.toNat_ofNat']
    omega
  show Value.int ((UInt32.ofNat n).toUInt16.toUInt32.toInt32) = _
  rw [e]; rfl
section STR
variable {g : GT} {cc : ByteArray} {nL : Nat} {y : MethodName} {FR LO : Nat} {pc : Nat} {lv st : List (Nat × Int)} {h h1 : MM} {v : Int}
variable {y' : MethodName} {cc' : ByteArray} {maxL' : Nat} {ret' : Option FieldType} {FR' LO' rk : Nat}
theorem r_bret (C : Cx g cc nL y FR LO) {x : Int} (hr : Rt g (some .byte) 0 (x, h)) (d : decode cc pc = .ok (.ireturn, 1)) (hx : inb x = true) : G g pc lv [(0, x)] h := r_iret C hr d (nar_b hx) (by simp only [inb, Bool.and_eq_true, decide_eq_true_eq] at hx; exact ⟨by omega, by omega⟩)
theorem r_cret (C : Cx g cc nL y FR LO) {x : Int} (hr : Rt g (some .char) 0 (x, h)) (d : decode cc pc = .ok (.ireturn, 1)) (hx : inc x = true) : G g pc lv [(0, x)] h := r_iret C hr d (nar_c hx) (by simp only [inc, Bool.and_eq_true, decide_eq_true_eq] at hx; exact ⟨by omega, by omega⟩)
theorem Rl.str {E : EV} {H : Heap} (R : Rl E h H) {a : Int} (q : tg h a = 13) : sOK h a := by
  rcases R.1 a with w | ⟨_, _, _, w⟩
  · omega
  · rcases w with w | w | w
    · omega
    · exact w.2.2
    · omega
theorem r_gfS0 (C : Cx g cc nL y FR LO) {a : Int} {ix : Nat} (d : decode cc pc = .ok (.getfield ix, 3)) (q : tg h a = 13) (hw : Cond.fieldLink y.cls ix "java/lang/String" "value" "[B" ∈ wG) (k : G g (pc + 3) lv ((2, mv h a 0) :: st) h) : G g pc lv ((2, a) :: st) h := by
  intro ls H locs l R S
  have z := k ls H locs l R S
  obtain ⟨i, hi, ha, h0, h1⟩ := R.1.str q
  have e1 : cv (gE g) 2 a = .ref (er (gE g) (10 + i)) := by rw [cv_ref (by omega)]; unfold ad; rw [if_neg (by omega)]; congr 1; congr 1; omega
  have e2 : cv (gE g) 2 (mv h a 0) = .ref (er (gE g) (30 + i)) := by rw [cv_ref (by omega)]; unfold ad; rw [if_neg (by omega)]; congr 1; congr 1; omega
  obtain ⟨s1, s2, s3, s4⟩ := C.hK.2.2.2.1.2.2.2.2.2.1.1 i hi
  simp only [List.map_cons, cvp, e1, e2] at z ⊢
  exact vk_getf C.hx C.hb s3 S C.hown (C.hts _ hw) (fun _ q => q) d z
theorem r_gfS1 (C : Cx g cc nL y FR LO) {a : Int} {ix : Nat} (d : decode cc pc = .ok (.getfield ix, 3)) (q : tg h a = 13) (hw : Cond.fieldLink y.cls ix "java/lang/String" "coder" "B" ∈ wG) (k : in32 (mv h a 1) → G g (pc + 3) lv ((0, mv h a 1) :: st) h) : G g pc lv ((2, a) :: st) h := by
  intro ls H locs l R S
  obtain ⟨i, hi, ha, h0, h1⟩ := R.1.str q
  have z := k (by rw [h1]; exact in32_of rfl) ls H locs l R S
  have e1 : cv (gE g) 2 a = .ref (er (gE g) (10 + i)) := by rw [cv_ref (by omega)]; unfold ad; rw [if_neg (by omega)]; congr 1; congr 1; omega
  have e2 : cv (gE g) 0 (mv h a 1) = .int 0 := by rw [h1]; rfl
  obtain ⟨s1, s2, s3, s4⟩ := C.hK.2.2.2.1.2.2.2.2.2.1.1 i hi
  simp only [List.map_cons, cvp, e1, e2] at z ⊢
  exact vk_getf C.hx C.hb s2 S C.hown (C.hts _ hw) (fun _ q => q) d z
theorem r_gsF (C : Cx g cc nL y FR LO) {ix : Nat} (d : decode cc pc = .ok (.getstatic ix, 3)) (hw : Cond.fieldLink y.cls ix "jdk/internal/util/Preconditions" "SIOOBE_FORMATTER" "Ljava/util/function/BiFunction;" ∈ wG) (k : ∀ v : Int, G g (pc + 3) lv ((2, v) :: st) h) : G g pc lv st h := by
  intro ls H locs l R S
  rcases C.hK.2.2.2.1.2.2.2.2.1 with z | ⟨v, v0, z⟩
  · exact va_gets C.hx C.hb z S C.hown (C.hts _ hw) (fun _ q => q) d (k 0 ls H locs l R S)
  · have q := k v ls H locs l R S
    have e : cv (gE g) 2 v = .ref (ad (gE g) v) := cv_ref v0
    simp only [List.map_cons, cvp, e] at q
    exact va_gets C.hx C.hb z S C.hown (C.hts _ hw) (fun _ q => q) d q
theorem r_cVs (C : Cx g cc nL y FR LO) {ks : List Nat} {f : List Int → MM → RR} {xs : List Int} {Z : Int × MM} {st0 st1 : List (Nat × Int)} (hA : AM (gl g) y' cc' maxL' ret' FR' LO' (2 :: ks) rk f) {ix : Nat} {a : Int} (d : decode cc pc = .ok (.invokevirtual ix, 3)) (hw1 : Cond.methodLink y.cls ix y' ∈ wG) (hM : CMt y' cc' maxL' ret' ks.length) (hR : FR' + 1 ≤ FR ∧ 8 + (maxL' + 11) + LO' ≤ LO) (ht : tg h a = 13) (hx : canL ks xs) (hl : lv.length = nL) (hcat : catS st ≤ 8) (hs : st0 = (List.zip ks xs).reverse ++ (2, a) :: st) (hf : f (a :: xs) h = some Z) (hst : st1 = rsl rk Z.1 ++ st) (k : (rk < 3 → cK rk Z.1) → G g (pc + 3) lv st1 Z.2) : G g pc lv st0 h := by
  obtain ⟨hw2, hw3, hw4, hw5, hd, hcl⟩ := hM
  refine G_run C (a := (cvL (gE g) (2 :: ks) (a :: xs)).toArray) hst (fun ls H locs l R S => ?_) k
  obtain ⟨i, hi, ha, h0, h1⟩ := R.1.str ht
  have e1 : ad (gE g) a = er (gE g) (10 + i) := by unfold ad; rw [if_neg (by omega)]; congr 1; omega
  have ha' : cv (gE g) 2 a = .ref (ad (gE g) a) := cv_ref (by omega)
  obtain ⟨s1, s2, s3, s4⟩ := C.hK.2.2.2.1.2.2.2.2.2.1.1 i hi
  obtain ⟨cell, o1, o2, o3, o4⟩ := s1.kept S.2.1
  have hcv : cvL (gE g) (2 :: ks) (a :: xs) = .ref (ad (gE g) a) :: cvL (gE g) ks xs := by
    show cv (gE g) 2 a :: cvL (gE g) ks xs = _
    rw [ha']
  rw [hcv]
  refine va_runV (As := cvL (gE g) ks xs) ⟨C.hx, C.hb, C.hml, C.hown, C.hts⟩ (hA (gE g) (a :: xs) h Z ⟨trivial, hx⟩ hf) ⟨C.callB hw1 hw4 hw5 hd hR, C.hts _ hw2, C.hts _ hw3⟩ ⟨Cx.blind, ⟨cell, by rw [e1]; exact o1, o2, by rw [hcl]; exact o3⟩, ?_⟩ rfl (cvL_len hx) (by rw [← hl]; exact l.1) ?_ (lv_room (by rw [catS_s]; exact hcat)) d (C.fit R S)
  · have := C.pre (xs := cvL (gE g) (2 :: ks) (a :: xs)) R S
    rw [hcv] at this ⊢
    exact this
  · show st0.map (cvp (gE g)) = _
    rw [hs, List.map_append, List.map_reverse, cvL_zip, List.map_cons]
    show _ ++ cv (gE g) 2 a :: _ = _
    rw [ha']
theorem r_cVs0 (C : Cx g cc nL y FR LO) {F : Int → MM → RR} (hA : AM (gl g) y' cc' maxL' ret' FR' LO' [2] rk (un1 F)) (hM : CMt y' cc' maxL' ret' 0) {ix : Nat} (hw : Cond.methodLink y.cls ix y' ∈ wG) {a : Int} (d : decode cc pc = .ok (.invokevirtual ix, 3)) (hR : FR' + 1 ≤ FR ∧ 8 + (maxL' + 11) + LO' ≤ LO) (ht : tg h a = 13) (hl : lv.length = nL) (hcat : catS st ≤ 8) (hf : F a h = some (v, h1)) (hk : rk < 3) (k : cK rk v → G g (pc + 3) lv ((rk, v) :: st) h1) : G g pc lv ((2, a) :: st) h :=
  r_cVs C hA (ks := []) (xs := []) d hw hM hR ht trivial hl hcat rfl hf (rsl_n hk _ _) (fun q => k (q hk))
theorem r_cVs1 (C : Cx g cc nL y FR LO) {k1 : Nat} {F : Int → Int → MM → RR} (hA : AM (gl g) y' cc' maxL' ret' FR' LO' [2, k1] rk (un2 F)) (hM : CMt y' cc' maxL' ret' 1) {ix : Nat} (hw : Cond.methodLink y.cls ix y' ∈ wG) {a x1 : Int} (d : decode cc pc = .ok (.invokevirtual ix, 3)) (hR : FR' + 1 ≤ FR ∧ 8 + (maxL' + 11) + LO' ≤ LO) (ht : tg h a = 13) (c1 : cK k1 x1) (hl : lv.length = nL) (hcat : catS st ≤ 8) (hf : F a x1 h = some (v, h1)) (hk : rk < 3) (k : cK rk v → G g (pc + 3) lv ((rk, v) :: st) h1) : G g pc lv ((k1, x1) :: (2, a) :: st) h :=
  r_cVs C hA (ks := [k1]) (xs := [x1]) d hw hM hR ht ⟨c1, trivial⟩ hl hcat rfl hf (rsl_n hk _ _) (fun q => k (q hk))
end STR

