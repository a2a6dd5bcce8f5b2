def ban (x z : Int) : Int := (i32 x &&& i32 z).toInt
def bor (x z : Int) : Int := (i32 x ||| i32 z).toInt
def bxo (x z : Int) : Int := (i32 x ^^^ i32 z).toInt
def shl (x z : Int) : Int := (i32 x <<< (i32 z &&& 31)).toInt
def shr (x z : Int) : Int := (i32 x >>> (i32 z &&& 31)).toInt
def ush (x z : Int) : Int := ((i32 x).toUInt32 >>> ((i32 z).toUInt32 &&& Int32.toUInt32 31)).toInt32.toInt
def idv (x z : Int) : Int := (i32 x / i32 z).toInt
def irm (x z : Int) : Int := (i32 x - i32 x / i32 z * i32 z).toInt
def b8 (x : Int) : Int := ((i32 x).toInt8.toInt32).toInt
def b16 (x : Int) : Int := ((i32 x).toInt16.toInt32).toInt
def c16 (x : Int) : Int := (((i32 x).toUInt32 % 65536).toInt32).toInt
def lan (x z : Int) : Int := (i64 x &&& i64 z).toInt
def lor (x z : Int) : Int := (i64 x ||| i64 z).toInt
def lsl (x z : Int) : Int := (i64 x <<< ((i32 z).toInt64 &&& 63)).toInt
def lsr (x z : Int) : Int := (i64 x >>> ((i32 z).toInt64 &&& 63)).toInt
def ldv (x z : Int) : Int := (i64 x / i64 z).toInt
def lcm (x z : Int) : Int := (lg_cmp (i64 x) (i64 z)).toInt
theorem i32_add (x z : Int) : i32 (wr (x + z)) = i32 x + i32 z := by rw [i32_wr]; exact Int32.ofInt_add x z
theorem i32_sub (x z : Int) : i32 (wr (x - z)) = i32 x - i32 z := by rw [i32_wr]; exact Int32.ofInt_sub x z
theorem i32_mul (x z : Int) : i32 (wr (x * z)) = i32 x * i32 z := by rw [i32_wr]; exact Int32.ofInt_mul x z
theorem i32_neg (x : Int) : i32 (wr (-x)) = - i32 x := by rw [i32_wr]; exact Int32.ofInt_neg x
theorem i64_add (x z : Int) : i64 (wl (x + z)) = i64 x + i64 z := by rw [i64_wl]; exact Int64.ofInt_add x z
theorem i64_sub (x z : Int) : i64 (wl (x - z)) = i64 x - i64 z := by rw [i64_wl]; exact Int64.ofInt_sub x z
theorem i64_mul (x z : Int) : i64 (wl (x * z)) = i64 x * i64 z := by rw [i64_wl]; exact Int64.ofInt_mul x z
theorem in64_i {x : Int} (h : in32 x) : in64 x := ⟨by have := h.1; omega, by have := h.2; omega⟩
theorem i32_l {x : Int} (h : in32 x) : (i32 x).toInt64 = i64 x := by
  apply Int64.toInt_inj.mp
  rw [Int32.toInt_toInt64, i32_i h, i64_i (in64_i h)]
theorem i64_w (x : Int) : (i64 x).toInt32 = i32 x := by
  show (Int64.ofInt x).toInt32 = Int32.ofInt x
  simp
theorem i8_c {n : Int} (h : (decide (-128 ≤ n) && decide (n ≤ 127)) = true) : (Int8.ofInt n).toInt32 = i32 n := by
  simp only [Bool.and_eq_true, decide_eq_true_eq] at h
  apply Int32.toInt_inj.mp
  rw [Int8.toInt_toInt32, i32_i ⟨by omega, by omega⟩]
  exact Int8.toInt_ofInt_of_le h.1 (by omega)
theorem i16_c {n : Int} (h : (decide (-32768 ≤ n) && decide (n ≤ 32767)) = true) : (Int16.ofInt n).toInt32 = i32 n := by
  simp only [Bool.and_eq_true, decide_eq_true_eq] at h
  apply Int32.toInt_inj.mp
  rw [Int16.toInt_toInt32, i32_i ⟨by omega, by omega⟩]
  exact Int16.toInt_ofInt_of_le h.1 (by omega)
theorem i32_z {x : Int} (h : in32 x) : i32 x = 0 ↔ x = 0 := i32_eq (y := 0) h (in32_of rfl)
theorem i32_lt0 {x : Int} (h : in32 x) : i32 x < 0 ↔ x < 0 := i32_lt (y := 0) h (in32_of rfl)
theorem i32_le0 {x : Int} (h : in32 x) : i32 x ≤ 0 ↔ x ≤ 0 := i32_le (y := 0) h (in32_of rfl)
theorem i32_0lt {x : Int} (h : in32 x) : 0 < i32 x ↔ 0 < x := i32_lt (x := 0) (in32_of rfl) h
theorem i32_0le {x : Int} (h : in32 x) : 0 ≤ i32 x ↔ 0 ≤ x := i32_le (x := 0) (in32_of rfl) h
theorem i64_z {x : Int} (h : in64 x) : i64 x = 0 ↔ x = 0 := ⟨fun q => by rw [← i64_i h, q]; rfl, fun q => by rw [q]; rfl⟩
section OPS
variable {g : GT} {cc : ByteArray} {nL : Nat} {y : MethodName} {FR LO : Nat} {pc : Nat} {lv st : List (Nat × Int)} {h : MM}

theorem r_iadd (C : Cx g cc nL y FR LO) {x z : Int} (d : decode cc pc = .ok (.iadd, 1)) (k : G g (pc + 1) lv ((0, wr (x + z)) :: st) h) : G g pc lv ((0, z) :: (0, x) :: st) h := by
  intro ls H locs a b c
  have q := k ls H locs a b c
  simp only [List.map_cons, cvp, cv, i32_add] at q
  exact lv_iadd C.hx C.hb d q
theorem r_isub (C : Cx g cc nL y FR LO) {x z : Int} (d : decode cc pc = .ok (.isub, 1)) (k : G g (pc + 1) lv ((0, wr (x - z)) :: st) h) : G g pc lv ((0, z) :: (0, x) :: st) h := by
  intro ls H locs a b c
  have q := k ls H locs a b c
  simp only [List.map_cons, cvp, cv, i32_sub] at q
  exact lv_isub C.hx C.hb d q
theorem r_imul (C : Cx g cc nL y FR LO) {x z : Int} (d : decode cc pc = .ok (.imul, 1)) (k : G g (pc + 1) lv ((0, wr (x * z)) :: st) h) : G g pc lv ((0, z) :: (0, x) :: st) h := by
  intro ls H locs a b c
  have q := k ls H locs a b c
  simp only [List.map_cons, cvp, cv, i32_mul] at q
  exact lv_imul C.hx C.hb d q
theorem r_iand (C : Cx g cc nL y FR LO) {x z : Int} (d : decode cc pc = .ok (.iand, 1)) (k : G g (pc + 1) lv ((0, ban x z) :: st) h) : G g pc lv ((0, z) :: (0, x) :: st) h := by
  intro ls H locs a b c
  have q := k ls H locs a b c
  simp only [List.map_cons, cvp, cv, ban, i32_t] at q
  exact lv_iand C.hx C.hb d q
theorem r_ior (C : Cx g cc nL y FR LO) {x z : Int} (d : decode cc pc = .ok (.ior, 1)) (k : G g (pc + 1) lv ((0, bor x z) :: st) h) : G g pc lv ((0, z) :: (0, x) :: st) h := by
  intro ls H locs a b c
  have q := k ls H locs a b c
  simp only [List.map_cons, cvp, cv, bor, i32_t] at q
  exact lv_ior C.hx C.hb d q
theorem r_ixor (C : Cx g cc nL y FR LO) {x z : Int} (d : decode cc pc = .ok (.ixor, 1)) (k : G g (pc + 1) lv ((0, bxo x z) :: st) h) : G g pc lv ((0, z) :: (0, x) :: st) h := by
  intro ls H locs a b c
  have q := k ls H locs a b c
  simp only [List.map_cons, cvp, cv, bxo, i32_t] at q
  exact lv_ixor C.hx C.hb d q
theorem r_ishl (C : Cx g cc nL y FR LO) {x z : Int} (d : decode cc pc = .ok (.ishl, 1)) (k : G g (pc + 1) lv ((0, shl x z) :: st) h) : G g pc lv ((0, z) :: (0, x) :: st) h := by
  intro ls H locs a b c
  have q := k ls H locs a b c
  simp only [List.map_cons, cvp, cv, shl, i32_t] at q
  exact lv_ishl C.hx C.hb d q
theorem r_ishr (C : Cx g cc nL y FR LO) {x z : Int} (d : decode cc pc = .ok (.ishr, 1)) (k : G g (pc + 1) lv ((0, shr x z) :: st) h) : G g pc lv ((0, z) :: (0, x) :: st) h := by
  intro ls H locs a b c
  have q := k ls H locs a b c
  simp only [List.map_cons, cvp, cv, shr, i32_t] at q
  exact lv_ishr C.hx C.hb d q
theorem r_ladd (C : Cx g cc nL y FR LO) {x z : Int} (d : decode cc pc = .ok (.ladd, 1)) (k : G g (pc + 1) lv ((1, wl (x + z)) :: st) h) : G g pc lv ((1, z) :: (1, x) :: st) h := by
  intro ls H locs a b c
  have q := k ls H locs a b c
  simp only [List.map_cons, cvp, cv, i64_add] at q
  exact lv_ladd C.hx C.hb d q
theorem r_lsub (C : Cx g cc nL y FR LO) {x z : Int} (d : decode cc pc = .ok (.lsub, 1)) (k : G g (pc + 1) lv ((1, wl (x - z)) :: st) h) : G g pc lv ((1, z) :: (1, x) :: st) h := by
  intro ls H locs a b c
  have q := k ls H locs a b c
  simp only [List.map_cons, cvp, cv, i64_sub] at q
  exact lv_lsub C.hx C.hb d q
theorem r_lmul (C : Cx g cc nL y FR LO) {x z : Int} (d : decode cc pc = .ok (.lmul, 1)) (k : G g (pc + 1) lv ((1, wl (x * z)) :: st) h) : G g pc lv ((1, z) :: (1, x) :: st) h := by
  intro ls H locs a b c
  have q := k ls H locs a b c
  simp only [List.map_cons, cvp, cv, i64_mul] at q
  exact lv_lmul C.hx C.hb d q
theorem r_land (C : Cx g cc nL y FR LO) {x z : Int} (d : decode cc pc = .ok (.land, 1)) (k : G g (pc + 1) lv ((1, lan x z) :: st) h) : G g pc lv ((1, z) :: (1, x) :: st) h := by
  intro ls H locs a b c
  have q := k ls H locs a b c
  simp only [List.map_cons, cvp, cv, lan, i64_t] at q
  exact lv_land C.hx C.hb d q
theorem r_lor (C : Cx g cc nL y FR LO) {x z : Int} (d : decode cc pc = .ok (.lor, 1)) (k : G g (pc + 1) lv ((1, lor x z) :: st) h) : G g pc lv ((1, z) :: (1, x) :: st) h := by
  intro ls H locs a b c
  have q := k ls H locs a b c
  simp only [List.map_cons, cvp, cv, lor, i64_t] at q
  exact lv_lor C.hx C.hb d q
theorem r_lcmp (C : Cx g cc nL y FR LO) {x z : Int} (d : decode cc pc = .ok (.lcmp, 1)) (k : G g (pc + 1) lv ((0, lcm x z) :: st) h) : G g pc lv ((1, z) :: (1, x) :: st) h := by
  intro ls H locs a b c
  have q := k ls H locs a b c
  simp only [List.map_cons, cvp, cv, lcm, i32_t] at q
  exact W.lcmp C.hx C.hb d q
theorem r_iushr (C : Cx g cc nL y FR LO) {x z : Int} (d : decode cc pc = .ok (.iushr, 1)) (k : G g (pc + 1) lv ((0, ush x z) :: st) h) : G g pc lv ((0, z) :: (0, x) :: st) h := by
  intro ls H locs a b c
  have q := k ls H locs a b c
  simp only [List.map_cons, cvp, cv, ush, i32_t] at q
  exact lv_iushr C.hx C.hb d rfl q
theorem r_lshl (C : Cx g cc nL y FR LO) {x z : Int} (d : decode cc pc = .ok (.lshl, 1)) (k : G g (pc + 1) lv ((1, lsl x z) :: st) h) : G g pc lv ((0, z) :: (1, x) :: st) h := by
  intro ls H locs a b c
  have q := k ls H locs a b c
  simp only [List.map_cons, cvp, cv, lsl, i64_t] at q
  exact lv_lshl C.hx C.hb d rfl q
theorem r_lshr (C : Cx g cc nL y FR LO) {x z : Int} (d : decode cc pc = .ok (.lshr, 1)) (k : G g (pc + 1) lv ((1, lsr x z) :: st) h) : G g pc lv ((0, z) :: (1, x) :: st) h := by
  intro ls H locs a b c
  have q := k ls H locs a b c
  simp only [List.map_cons, cvp, cv, lsr, i64_t] at q
  exact lv_lshr C.hx C.hb d rfl q
theorem r_idiv (C : Cx g cc nL y FR LO) {x z : Int} (d : decode cc pc = .ok (.idiv, 1)) (hz : in32 z) (hn : ¬ z = 0) (k : G g (pc + 1) lv ((0, idv x z) :: st) h) : G g pc lv ((0, z) :: (0, x) :: st) h := by
  intro ls H locs a b c
  have q := k ls H locs a b c
  simp only [List.map_cons, cvp, cv, idv, i32_t] at q
  exact lv_idiv C.hx C.hb d (fun e => hn ((i32_z hz).mp e)) q
theorem r_irem (C : Cx g cc nL y FR LO) {x z : Int} (d : decode cc pc = .ok (.irem, 1)) (hz : in32 z) (hn : ¬ z = 0) (k : G g (pc + 1) lv ((0, irm x z) :: st) h) : G g pc lv ((0, z) :: (0, x) :: st) h := by
  intro ls H locs a b c
  have q := k ls H locs a b c
  simp only [List.map_cons, cvp, cv, irm, i32_t] at q
  exact lv_irem C.hx C.hb d (fun e => hn ((i32_z hz).mp e)) q
theorem r_ldiv (C : Cx g cc nL y FR LO) {x z : Int} (d : decode cc pc = .ok (.ldiv, 1)) (hz : in64 z) (hn : ¬ z = 0) (k : G g (pc + 1) lv ((1, ldv x z) :: st) h) : G g pc lv ((1, z) :: (1, x) :: st) h := by
  intro ls H locs a b c
  have q := k ls H locs a b c
  simp only [List.map_cons, cvp, cv, ldv, i64_t] at q
  exact lv_ldiv C.hx C.hb d (fun e => hn ((i64_z hz).mp e)) q
theorem r_ineg (C : Cx g cc nL y FR LO) {x : Int} (d : decode cc pc = .ok (.ineg, 1)) (k : G g (pc + 1) lv ((0, wr (-x)) :: st) h) : G g pc lv ((0, x) :: st) h := by
  intro ls H locs a b c
  have q := k ls H locs a b c
  simp only [List.map_cons, cvp, cv, i32_neg] at q
  exact lv_ineg C.hx C.hb d q
theorem r_i2l (C : Cx g cc nL y FR LO) {x : Int} (d : decode cc pc = .ok (.i2l, 1)) (hx : in32 x) (k : G g (pc + 1) lv ((1, x) :: st) h) : G g pc lv ((0, x) :: st) h := by
  intro ls H locs a b c
  exact lv_i2l C.hx C.hb d (i32_l hx) (k ls H locs a b c)
theorem r_l2i (C : Cx g cc nL y FR LO) {x : Int} (d : decode cc pc = .ok (.l2i, 1)) (k : G g (pc + 1) lv ((0, wr x) :: st) h) : G g pc lv ((1, x) :: st) h := by
  intro ls H locs a b c
  exact lv_l2i C.hx C.hb d (by rw [i64_w, i32_wr]) (k ls H locs a b c)
theorem r_i2b (C : Cx g cc nL y FR LO) {x : Int} (d : decode cc pc = .ok (.i2b, 1)) (k : G g (pc + 1) lv ((0, b8 x) :: st) h) : G g pc lv ((0, x) :: st) h := by
  intro ls H locs a b c
  exact lv_i2b C.hx C.hb d (by rw [b8, i32_t]) (k ls H locs a b c)
theorem r_i2s (C : Cx g cc nL y FR LO) {x : Int} (d : decode cc pc = .ok (.i2s, 1)) (k : G g (pc + 1) lv ((0, b16 x) :: st) h) : G g pc lv ((0, x) :: st) h := by
  intro ls H locs a b c
  exact lv_i2s C.hx C.hb d (by rw [b16, i32_t]) (k ls H locs a b c)
theorem r_i2c (C : Cx g cc nL y FR LO) {x : Int} (d : decode cc pc = .ok (.i2c, 1)) (k : G g (pc + 1) lv ((0, c16 x) :: st) h) : G g pc lv ((0, x) :: st) h := by
  intro ls H locs a b c
  exact lv_i2c C.hx C.hb d (by rw [c16, i32_t]) (k ls H locs a b c)
theorem r_iconst (C : Cx g cc nL y FR LO) {n : Int} (d : decode cc pc = .ok (.iconst n, 1)) (k : G g (pc + 1) lv ((0, n) :: st) h) : G g pc lv st h := by
  intro ls H locs a b c
  exact lv_iconst C.hx C.hb d rfl (k ls H locs a b c)
theorem r_bipush (C : Cx g cc nL y FR LO) {n : Int} (d : decode cc pc = .ok (.bipush n, 2)) (hn : (decide (-128 ≤ n) && decide (n ≤ 127)) = true) (k : G g (pc + 2) lv ((0, n) :: st) h) : G g pc lv st h := by
  intro ls H locs a b c
  exact lv_bipush C.hx C.hb d (i8_c hn) (k ls H locs a b c)
theorem r_sipush (C : Cx g cc nL y FR LO) {n : Int} (d : decode cc pc = .ok (.sipush n, 3)) (hn : (decide (-32768 ≤ n) && decide (n ≤ 32767)) = true) (k : G g (pc + 3) lv ((0, n) :: st) h) : G g pc lv st h := by
  intro ls H locs a b c
  exact lv_sipush C.hx C.hb d (i16_c hn) (k ls H locs a b c)
theorem r_lconst (C : Cx g cc nL y FR LO) {n : Fin 2} {v : Int} (d : decode cc pc = .ok (.lconst n, 1)) (hv : Int64.ofNat (n : Nat) = i64 v) (k : G g (pc + 1) lv ((1, v) :: st) h) : G g pc lv st h := by
  intro ls H locs a b c
  exact lv_lconst C.hx C.hb d hv (k ls H locs a b c)
theorem r_ldc (C : Cx g cc nL y FR LO) {ix : Nat} {v : Int} (d : decode cc pc = .ok (.ldc ix, 2)) (hw : Cond.constant y.cls ix (i32 v) ∈ wG) (k : G g (pc + 2) lv ((0, v) :: st) h) : G g pc lv st h := by
  intro ls H locs a b c
  exact lv_ldc C.hx C.hb C.hown (C.hts _ hw) d (k ls H locs a b c)
theorem r_ldcw (C : Cx g cc nL y FR LO) {ix : Nat} {v : Int} (d : decode cc pc = .ok (.ldc_w ix, 3)) (hw : Cond.constant y.cls ix (i32 v) ∈ wG) (k : G g (pc + 3) lv ((0, v) :: st) h) : G g pc lv st h := by
  intro ls H locs a b c
  exact lv_ldcw C.hx C.hb C.hown (C.hts _ hw) d (k ls H locs a b c)
theorem r_ldc2 (C : Cx g cc nL y FR LO) {ix : Nat} {v : Int} (d : decode cc pc = .ok (.ldc2_w ix, 3)) (hw : Cond.constantLong y.cls ix (i64 v) ∈ wG) (k : G g (pc + 3) lv ((1, v) :: st) h) : G g pc lv st h := by
  intro ls H locs a b c
  exact lv_ldc2 C.hx C.hb C.hown (C.hts _ hw) d (k ls H locs a b c)
theorem r_null (C : Cx g cc nL y FR LO) (d : decode cc pc = .ok (.aconst_null, 1)) (k : G g (pc + 1) lv ((2, 0) :: st) h) : G g pc lv st h := by
  intro ls H locs a b c
  exact lv_null C.hx C.hb d (k ls H locs a b c)
theorem r_pop (C : Cx g cc nL y FR LO) {kd : Nat} {x : Int} (d : decode cc pc = .ok (.pop, 1)) (hk : kd ≠ 1) (k : G g (pc + 1) lv st h) : G g pc lv ((kd, x) :: st) h := by
  intro ls H locs a b c
  exact lv_pop C.hx C.hb d (cv_cat1 _ hk _) (k ls H locs a b c)
theorem r_dup (C : Cx g cc nL y FR LO) {kd : Nat} {x : Int} (d : decode cc pc = .ok (.dup, 1)) (hk : kd ≠ 1) (k : G g (pc + 1) lv ((kd, x) :: (kd, x) :: st) h) : G g pc lv ((kd, x) :: st) h := by
  intro ls H locs a b c
  exact lv_dup C.hx C.hb d (cv_cat1 _ hk _) (k ls H locs a b c)
theorem r_dup2 (C : Cx g cc nL y FR LO) {kd ke : Nat} {x z : Int} (d : decode cc pc = .ok (.dup2, 1)) (hk : kd ≠ 1) (he : ke ≠ 1) (k : G g (pc + 1) lv ((kd, x) :: (ke, z) :: (kd, x) :: (ke, z) :: st) h) : G g pc lv ((kd, x) :: (ke, z) :: st) h := by
  intro ls H locs a b c
  exact lv_dup2_11 C.hx C.hb d (cv_cat1 _ hk _) (cv_cat1 _ he _) (k ls H locs a b c)
theorem r_dupx1 (C : Cx g cc nL y FR LO) {kd ke : Nat} {x z : Int} (d : decode cc pc = .ok (.dup_x1, 1)) (hk : kd ≠ 1) (he : ke ≠ 1) (k : G g (pc + 1) lv ((kd, x) :: (ke, z) :: (kd, x) :: st) h) : G g pc lv ((kd, x) :: (ke, z) :: st) h := by
  intro ls H locs a b c
  exact lv_dup_x1 C.hx C.hb d (cv_cat1 _ hk _) (cv_cat1 _ he _) (k ls H locs a b c)
theorem r_goto (C : Cx g cc nL y FR LO) {off : Int} {tgt : Nat} (d : decode cc pc = .ok (.goto off, 3)) (ht : (pc : Int) + off = (tgt : Int)) (k : G g tgt lv st h) : G g pc lv st h := by
  intro ls H locs a b c
  exact lv_goto C.hx C.hb d ht (k ls H locs a b c)
theorem r_iload_n (C : Cx g cc nL y FR LO) {n : Fin 4} {x : Int} (d : decode cc pc = .ok (.iload_n n, 1)) (hl : lv[(n : Nat)]? = some (0, x)) (k : G g (pc + 1) lv ((0, x) :: st) h) : G g pc lv st h := by
  intro ls H locs a b c
  exact lv_iload_n C.hx C.hb d rfl (a.at hl (by decide)) (k ls H locs a b c)
theorem r_iload (C : Cx g cc nL y FR LO) {n : Nat} {x : Int} (d : decode cc pc = .ok (.iload n, 2)) (hl : lv[n]? = some (0, x)) (k : G g (pc + 2) lv ((0, x) :: st) h) : G g pc lv st h := by
  intro ls H locs a b c
  exact lv_iload C.hx C.hb d (a.at hl (by decide)) (k ls H locs a b c)
theorem r_lload_n (C : Cx g cc nL y FR LO) {n : Fin 4} {x : Int} (d : decode cc pc = .ok (.lload_n n, 1)) (hl : lv[(n : Nat)]? = some (1, x)) (k : G g (pc + 1) lv ((1, x) :: st) h) : G g pc lv st h := by
  intro ls H locs a b c
  exact lv_lload_n C.hx C.hb d rfl (a.at hl (by decide)) (k ls H locs a b c)
theorem r_lload (C : Cx g cc nL y FR LO) {n : Nat} {x : Int} (d : decode cc pc = .ok (.lload n, 2)) (hl : lv[n]? = some (1, x)) (k : G g (pc + 2) lv ((1, x) :: st) h) : G g pc lv st h := by
  intro ls H locs a b c
  exact lv_lload C.hx C.hb d (a.at hl (by decide)) (k ls H locs a b c)
theorem r_aload_n (C : Cx g cc nL y FR LO) {n : Fin 4} {x : Int} (d : decode cc pc = .ok (.aload_n n, 1)) (hl : lv[(n : Nat)]? = some (2, x)) (k : G g (pc + 1) lv ((2, x) :: st) h) : G g pc lv st h := by
  intro ls H locs a b c
  have q := k ls H locs a b c
  have e := a.at hl (by decide)
  simp only [List.map_cons, cvp, cv] at q e
  by_cases hx : x = 0
  · rw [if_pos hx] at q e
    exact lv_aload_nN C.hx C.hb d rfl e q
  · rw [if_neg hx] at q e
    exact lv_aload_n C.hx C.hb d rfl e q
theorem r_aload (C : Cx g cc nL y FR LO) {n : Nat} {x : Int} (d : decode cc pc = .ok (.aload n, 2)) (hl : lv[n]? = some (2, x)) (k : G g (pc + 2) lv ((2, x) :: st) h) : G g pc lv st h := by
  intro ls H locs a b c
  have q := k ls H locs a b c
  have e := a.at hl (by decide)
  simp only [List.map_cons, cvp, cv] at q e
  by_cases hx : x = 0
  · rw [if_pos hx] at q e
    exact lv_aloadN C.hx C.hb d e q
  · rw [if_neg hx] at q e
    exact lv_aload C.hx C.hb d e q
theorem r_istore_n (C : Cx g cc nL y FR LO) {n : Fin 4} {x : Int} (d : decode cc pc = .ok (.istore_n n, 1)) (hn : (n : Nat) < lv.length) (ho : okst lv n = true) (k : G g (pc + 1) (lv.set n (0, x)) st h) : G g pc lv ((0, x) :: st) h := by
  intro ls H locs a b c
  exact lv_istore_n C.hx C.hb d rfl a.has hn rfl (fun ls' q => k ls' H locs (lvK.st1 (k := 0) hn ho q) b c)
theorem r_istore (C : Cx g cc nL y FR LO) {n : Nat} {x : Int} (d : decode cc pc = .ok (.istore n, 2)) (hn : n < lv.length) (ho : okst lv n = true) (k : G g (pc + 2) (lv.set n (0, x)) st h) : G g pc lv ((0, x) :: st) h := by
  intro ls H locs a b c
  exact lv_istore C.hx C.hb d a.has hn rfl (fun ls' q => k ls' H locs (lvK.st1 (k := 0) hn ho q) b c)
theorem r_lstore_n (C : Cx g cc nL y FR LO) {n : Fin 4} {x : Int} (d : decode cc pc = .ok (.lstore_n n, 1)) (hn : (n : Nat) + 1 < lv.length) (ho : okst lv n = true) (k : G g (pc + 1) ((lv.set n (1, x)).set ((n : Nat) + 1) (4, 0)) st h) : G g pc lv ((1, x) :: st) h := by
  intro ls H locs a b c
  exact lv_lstore_n C.hx C.hb d rfl a.has hn rfl (fun ls' q => k ls' H locs (lvK.st2 hn ho q) b c)
theorem r_lstore (C : Cx g cc nL y FR LO) {n : Nat} {x : Int} (d : decode cc pc = .ok (.lstore n, 2)) (hn : n + 1 < lv.length) (ho : okst lv n = true) (k : G g (pc + 2) ((lv.set n (1, x)).set (n + 1) (4, 0)) st h) : G g pc lv ((1, x) :: st) h := by
  intro ls H locs a b c
  exact lv_lstore C.hx C.hb d a.has hn rfl (fun ls' q => k ls' H locs (lvK.st2 hn ho q) b c)
theorem r_astore_n (C : Cx g cc nL y FR LO) {n : Fin 4} {x : Int} (d : decode cc pc = .ok (.astore_n n, 1)) (hn : (n : Nat) < lv.length) (ho : okst lv n = true) (k : G g (pc + 1) (lv.set n (2, x)) st h) : G g pc lv ((2, x) :: st) h := by
  intro ls H locs a b c
  have s1 := fun ls' => lvK.st1 (E := gE g) (ls' := ls') (k := 2) (x := x) hn ho
  simp only [List.map_cons, cvp, cv] at s1 ⊢
  by_cases hx : x = 0
  · simp only [if_pos hx] at s1 ⊢
    exact lv_astore_nN C.hx C.hb d rfl a.has hn rfl (fun ls' q => k ls' H locs (s1 ls' q) b c)
  · simp only [if_neg hx] at s1 ⊢
    exact lv_astore_n C.hx C.hb d rfl a.has hn rfl (fun ls' q => k ls' H locs (s1 ls' q) b c)
theorem r_astore (C : Cx g cc nL y FR LO) {n : Nat} {x : Int} (d : decode cc pc = .ok (.astore n, 2)) (hn : n < lv.length) (ho : okst lv n = true) (k : G g (pc + 2) (lv.set n (2, x)) st h) : G g pc lv ((2, x) :: st) h := by
  intro ls H locs a b c
  have s1 := fun ls' => lvK.st1 (E := gE g) (ls' := ls') (k := 2) (x := x) hn ho
  simp only [List.map_cons, cvp, cv] at s1 ⊢
  by_cases hx : x = 0
  · simp only [if_pos hx] at s1 ⊢
    exact lv_astoreN C.hx C.hb d a.has hn rfl (fun ls' q => k ls' H locs (s1 ls' q) b c)
  · simp only [if_neg hx] at s1 ⊢
    exact lv_astore C.hx C.hb d a.has hn rfl (fun ls' q => k ls' H locs (s1 ls' q) b c)
theorem r_iinc (C : Cx g cc nL y FR LO) {n : Nat} {i x : Int} (d : decode cc pc = .ok (.iinc n i, 3)) (hl : lv[n]? = some (0, x)) (hn : n < lv.length) (ho : okst lv n = true) (k : G g (pc + 3) (lv.set n (0, wr (x + i))) st h) : G g pc lv st h := by
  intro ls H locs a b c
  have hm := lvList_of (E := gE g) lv 0 n 0 x hl (by decide)
  rw [Nat.zero_add] at hm
  obtain ⟨j, hj⟩ := List.getElem?_of_mem hm
  exact lv_iinc C.hx C.hb d a.has hj (v := i32 (wr (x + i))) (i32_add x i).symm hn rfl (fun ls' q => k ls' H locs (lvK.st1 (k := 0) hn ho q) b c)

theorem r_icmp_lt (C : Cx g cc nL y FR LO) {x z off : Int} {tgt : Nat} (d : decode cc pc = .ok (.if_icmp .lt off, 3)) (ht : (pc : Int) + off = (tgt : Int)) (cx : in32 x) (cz : in32 z) (kt : x < z → G g tgt lv st h) (kf : ¬ x < z → G g (pc + 3) lv st h) : G g pc lv ((0, z) :: (0, x) :: st) h := by
  intro ls H locs a b c
  exact lv_icmp_lt C.hx C.hb d ht (fun q => kt ((i32_lt cx cz).mp q) ls H locs a b c) (fun q => kf (fun n => q ((i32_lt cx cz).mpr n)) ls H locs a b c)
theorem r_icmp_le (C : Cx g cc nL y FR LO) {x z off : Int} {tgt : Nat} (d : decode cc pc = .ok (.if_icmp .le off, 3)) (ht : (pc : Int) + off = (tgt : Int)) (cx : in32 x) (cz : in32 z) (kt : x ≤ z → G g tgt lv st h) (kf : ¬ x ≤ z → G g (pc + 3) lv st h) : G g pc lv ((0, z) :: (0, x) :: st) h := by
  intro ls H locs a b c
  exact lv_icmp_le C.hx C.hb d ht (fun q => kt ((i32_le cx cz).mp q) ls H locs a b c) (fun q => kf (fun n => q ((i32_le cx cz).mpr n)) ls H locs a b c)
theorem r_icmp_ge (C : Cx g cc nL y FR LO) {x z off : Int} {tgt : Nat} (d : decode cc pc = .ok (.if_icmp .ge off, 3)) (ht : (pc : Int) + off = (tgt : Int)) (cx : in32 x) (cz : in32 z) (kt : z ≤ x → G g tgt lv st h) (kf : ¬ z ≤ x → G g (pc + 3) lv st h) : G g pc lv ((0, z) :: (0, x) :: st) h := by
  intro ls H locs a b c
  exact lv_icmp_ge C.hx C.hb d ht (fun q => kt ((i32_le cz cx).mp q) ls H locs a b c) (fun q => kf (fun n => q ((i32_le cz cx).mpr n)) ls H locs a b c)
theorem r_icmp_gt (C : Cx g cc nL y FR LO) {x z off : Int} {tgt : Nat} (d : decode cc pc = .ok (.if_icmp .gt off, 3)) (ht : (pc : Int) + off = (tgt : Int)) (cx : in32 x) (cz : in32 z) (kt : z < x → G g tgt lv st h) (kf : ¬ z < x → G g (pc + 3) lv st h) : G g pc lv ((0, z) :: (0, x) :: st) h := by
  intro ls H locs a b c
  exact lv_icmp_gt C.hx C.hb d ht (fun q => kt ((i32_lt cz cx).mp q) ls H locs a b c) (fun q => kf (fun n => q ((i32_lt cz cx).mpr n)) ls H locs a b c)
theorem r_icmp_eq (C : Cx g cc nL y FR LO) {x z off : Int} {tgt : Nat} (d : decode cc pc = .ok (.if_icmp .eq off, 3)) (ht : (pc : Int) + off = (tgt : Int)) (cx : in32 x) (cz : in32 z) (kt : x = z → G g tgt lv st h) (kf : ¬ x = z → G g (pc + 3) lv st h) : G g pc lv ((0, z) :: (0, x) :: st) h := by
  intro ls H locs a b c
  exact lv_icmp_eq C.hx C.hb d ht (fun q => kt ((i32_eq cx cz).mp q) ls H locs a b c) (fun q => kf (fun n => q ((i32_eq cx cz).mpr n)) ls H locs a b c)
theorem r_icmp_ne (C : Cx g cc nL y FR LO) {x z off : Int} {tgt : Nat} (d : decode cc pc = .ok (.if_icmp .ne off, 3)) (ht : (pc : Int) + off = (tgt : Int)) (cx : in32 x) (cz : in32 z) (kt : ¬ x = z → G g tgt lv st h) (kf : x = z → G g (pc + 3) lv st h) : G g pc lv ((0, z) :: (0, x) :: st) h := by
  intro ls H locs a b c
  exact lv_icmp_ne C.hx C.hb d ht (fun q => kt (fun n => q ((i32_eq cx cz).mpr n)) ls H locs a b c) (fun q => kf ((i32_eq cx cz).mp (by first | exact q | exact Decidable.not_not.mp q)) ls H locs a b c)

theorem r_if_lt (C : Cx g cc nL y FR LO) {x off : Int} {tgt : Nat} (d : decode cc pc = .ok (.ifCond .lt off, 3)) (ht : (pc : Int) + off = (tgt : Int)) (cx : in32 x) (kt : x < 0 → G g tgt lv st h) (kf : ¬ x < 0 → G g (pc + 3) lv st h) : G g pc lv ((0, x) :: st) h := by
  intro ls H locs a b c
  exact lv_if_lt C.hx C.hb d ht (fun q => kt ((i32_lt0 cx).mp q) ls H locs a b c) (fun q => kf (fun n => q ((i32_lt0 cx).mpr n)) ls H locs a b c)
theorem r_if_le (C : Cx g cc nL y FR LO) {x off : Int} {tgt : Nat} (d : decode cc pc = .ok (.ifCond .le off, 3)) (ht : (pc : Int) + off = (tgt : Int)) (cx : in32 x) (kt : x ≤ 0 → G g tgt lv st h) (kf : ¬ x ≤ 0 → G g (pc + 3) lv st h) : G g pc lv ((0, x) :: st) h := by
  intro ls H locs a b c
  exact lv_if_le C.hx C.hb d ht (fun q => kt ((i32_le0 cx).mp q) ls H locs a b c) (fun q => kf (fun n => q ((i32_le0 cx).mpr n)) ls H locs a b c)
theorem r_if_ge (C : Cx g cc nL y FR LO) {x off : Int} {tgt : Nat} (d : decode cc pc = .ok (.ifCond .ge off, 3)) (ht : (pc : Int) + off = (tgt : Int)) (cx : in32 x) (kt : 0 ≤ x → G g tgt lv st h) (kf : ¬ 0 ≤ x → G g (pc + 3) lv st h) : G g pc lv ((0, x) :: st) h := by
  intro ls H locs a b c
  exact lv_if_ge C.hx C.hb d ht (fun q => kt ((i32_0le cx).mp q) ls H locs a b c) (fun q => kf (fun n => q ((i32_0le cx).mpr n)) ls H locs a b c)
theorem r_if_gt (C : Cx g cc nL y FR LO) {x off : Int} {tgt : Nat} (d : decode cc pc = .ok (.ifCond .gt off, 3)) (ht : (pc : Int) + off = (tgt : Int)) (cx : in32 x) (kt : 0 < x → G g tgt lv st h) (kf : ¬ 0 < x → G g (pc + 3) lv st h) : G g pc lv ((0, x) :: st) h := by
  intro ls H locs a b c
  exact lv_if_gt C.hx C.hb d ht (fun q => kt ((i32_0lt cx).mp q) ls H locs a b c) (fun q => kf (fun n => q ((i32_0lt cx).mpr n)) ls H locs a b c)
theorem r_if_eq (C : Cx g cc nL y FR LO) {x off : Int} {tgt : Nat} (d : decode cc pc = .ok (.ifCond .eq off, 3)) (ht : (pc : Int) + off = (tgt : Int)) (cx : in32 x) (kt : x = 0 → G g tgt lv st h) (kf : ¬ x = 0 → G g (pc + 3) lv st h) : G g pc lv ((0, x) :: st) h := by
  intro ls H locs a b c
  exact lv_if_eq C.hx C.hb d ht (fun q => kt ((i32_z cx).mp q) ls H locs a b c) (fun q => kf (fun n => q ((i32_z cx).mpr n)) ls H locs a b c)
theorem r_if_ne (C : Cx g cc nL y FR LO) {x off : Int} {tgt : Nat} (d : decode cc pc = .ok (.ifCond .ne off, 3)) (ht : (pc : Int) + off = (tgt : Int)) (cx : in32 x) (kt : ¬ x = 0 → G g tgt lv st h) (kf : x = 0 → G g (pc + 3) lv st h) : G g pc lv ((0, x) :: st) h := by
  intro ls H locs a b c
  exact lv_if_ne C.hx C.hb d ht (fun q => kt (fun n => q ((i32_z cx).mpr n)) ls H locs a b c) (fun q => kf ((i32_z cx).mp (by first | exact q | exact Decidable.not_not.mp q)) ls H locs a b c)
theorem r_ifnull (C : Cx g cc nL y FR LO) {x off : Int} {tgt : Nat} (d : decode cc pc = .ok (.ifnull off, 3)) (ht : (pc : Int) + off = (tgt : Int)) (kt : x = 0 → G g tgt lv st h) (kf : ¬ x = 0 → G g (pc + 3) lv st h) : G g pc lv ((2, x) :: st) h := by
  intro ls H locs a b c
  simp only [List.map_cons, cvp, cv]
  by_cases hx : x = 0
  · rw [if_pos hx]; exact lv_ifnullN C.hx C.hb d ht (kt hx ls H locs a b c)
  · rw [if_neg hx]; exact lv_ifnull C.hx C.hb d (kf hx ls H locs a b c)
theorem r_ifnonnull (C : Cx g cc nL y FR LO) {x off : Int} {tgt : Nat} (d : decode cc pc = .ok (.ifnonnull off, 3)) (ht : (pc : Int) + off = (tgt : Int)) (kt : ¬ x = 0 → G g tgt lv st h) (kf : x = 0 → G g (pc + 3) lv st h) : G g pc lv ((2, x) :: st) h := by
  intro ls H locs a b c
  simp only [List.map_cons, cvp, cv]
  by_cases hx : x = 0
  · rw [if_pos hx]; exact lv_ifnonnullN C.hx C.hb d (kf hx ls H locs a b c)
  · rw [if_neg hx]; exact lv_ifnonnull C.hx C.hb d ht (kt hx ls H locs a b c)
theorem r_tsw (C : Cx g cc nL y FR LO) {dflt lo hi x : Int} {offs : Array Int} {len : Nat} {n off : Int} {tgt : Nat} (d : decode cc pc = .ok (.tableswitch dflt lo hi offs, len)) (cx : in32 x) (hx : x = n) (hb : (decide (lo ≤ n) && decide (n ≤ hi)) = true) (ho : offs[(n - lo).toNat]? = some off) (ht : (pc : Int) + off = (tgt : Int)) (k : G g tgt lv st h) : G g pc lv ((0, x) :: st) h := by
  intro ls H locs a b c
  subst hx
  simp only [Bool.and_eq_true, decide_eq_true_eq] at hb
  exact lv_tableIn C.hx C.hb d (by rw [i32_i cx]; omega) (by rw [i32_i cx]; omega) (by rw [i32_i cx]; exact ho) ht (k ls H locs a b c)
theorem r_tswd (C : Cx g cc nL y FR LO) {dflt lo hi x : Int} {offs : Array Int} {len tgt : Nat} (d : decode cc pc = .ok (.tableswitch dflt lo hi offs, len)) (cx : in32 x) (hx : x < lo ∨ hi < x) (ht : (pc : Int) + dflt = (tgt : Int)) (k : G g tgt lv st h) : G g pc lv ((0, x) :: st) h := by
  intro ls H locs a b c
  exact lv_tableOut C.hx C.hb d (by rw [i32_i cx]; exact hx) ht (k ls H locs a b c)
theorem r_lsw (C : Cx g cc nL y FR LO) {dflt x : Int} {ps : Array (Int × Int)} {len : Nat} {off : Int} {tgt : Nat} (d : decode cc pc = .ok (.lookupswitch dflt ps, len)) (cx : in32 x) (hp : (ps.toList.zip (ps.toList.drop 1)).all (fun (a, next) => a.1 < next.1) = true) (ho : Op.lookupswitch.offset ps.toList dflt x = off) (ht : (pc : Int) + off = (tgt : Int)) (k : G g tgt lv st h) : G g pc lv ((0, x) :: st) h := by
  intro ls H locs a b c
  exact lv_lookup C.hx C.hb d hp (by rw [i32_i cx]; exact ho) ht (k ls H locs a b c)
end OPS
