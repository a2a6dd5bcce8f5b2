/-! BITS -/
def bt (x q : Int) : Bool := (i64 x).toBitVec.getLsbD q.toNat
def ibt (x q : Int) : Bool := (i32 x).toBitVec.getLsbD q.toNat
theorem sc64 : ∀ p : Fin 64, (((i32 ((p : Nat) : Int)).toInt64 &&& 63).toBitVec.smod 64) = BitVec.ofNat 64 (p : Nat) := by decide +kernel
theorem sc32 : ∀ p : Fin 32, ((i32 ((p : Nat) : Int) &&& 31).toBitVec.smod 32) = BitVec.ofNat 32 (p : Nat) := by decide +kernel
theorem sc64' {p : Int} (h0 : 0 ≤ p) (h1 : p < 64) : (((i32 p).toInt64 &&& 63).toBitVec.smod 64) = BitVec.ofNat 64 p.toNat := by
  have := sc64 ⟨p.toNat, by omega⟩
  simpa [Int.toNat_of_nonneg h0] using this
theorem sc32' {p : Int} (h0 : 0 ≤ p) (h1 : p < 32) : ((i32 p &&& 31).toBitVec.smod 32) = BitVec.ofNat 32 p.toNat := by
  have := sc32 ⟨p.toNat, by omega⟩
  simpa [Int.toNat_of_nonneg h0] using this
theorem bt_or (x y q : Int) : bt (lor x y) q = (bt x q || bt y q) := by
  unfold bt lor; rw [i64_t, Int64.toBitVec_or, BitVec.getLsbD_or]
theorem bt_and (x y q : Int) : bt (lan x y) q = (bt x q && bt y q) := by
  unfold bt lan; rw [i64_t, Int64.toBitVec_and, BitVec.getLsbD_and]
theorem ibt_or (x y q : Int) : ibt (bor x y) q = (ibt x q || ibt y q) := by
  unfold ibt bor; rw [i32_t, Int32.toBitVec_or, BitVec.getLsbD_or]
theorem ibt_and (x y q : Int) : ibt (ban x y) q = (ibt x q && ibt y q) := by
  unfold ibt ban; rw [i32_t, Int32.toBitVec_and, BitVec.getLsbD_and]
theorem ibt_xor (x y q : Int) : ibt (bxo x y) q = (ibt x q ^^ ibt y q) := by
  unfold ibt bxo; rw [i32_t, Int32.toBitVec_xor, BitVec.getLsbD_xor]
theorem bt_lsl {x p q : Int} (h0 : 0 ≤ p) (h1 : p < 64) (h2 : 0 ≤ q) (h3 : q < 64) : bt (lsl x p) q = (decide (p ≤ q) && bt x (q - p)) := by
  unfold bt lsl
  rw [i64_t, Int64.toBitVec_shiftLeft, sc64' h0 h1, BitVec.shiftLeft_eq', BitVec.getLsbD_shiftLeft, BitVec.toNat_ofNat, Nat.mod_eq_of_lt (by omega)]
  have e : (q - p).toNat = q.toNat - p.toNat := by omega
  by_cases c : p ≤ q
  · rw [decide_eq_true (show q.toNat < 64 by omega), decide_eq_false (show ¬ q.toNat < p.toNat by omega), decide_eq_true c, e]; simp
  · simp [c, show q.toNat < p.toNat by omega]
theorem ibt_shl {x p q : Int} (h0 : 0 ≤ p) (h1 : p < 32) (h2 : 0 ≤ q) (h3 : q < 32) : ibt (shl x p) q = (decide (p ≤ q) && ibt x (q - p)) := by
  unfold ibt shl
  rw [i32_t, Int32.toBitVec_shiftLeft, sc32' h0 h1, BitVec.shiftLeft_eq', BitVec.getLsbD_shiftLeft, BitVec.toNat_ofNat, Nat.mod_eq_of_lt (by omega)]
  have e : (q - p).toNat = q.toNat - p.toNat := by omega
  by_cases c : p ≤ q
  · rw [decide_eq_true (show q.toNat < 32 by omega), decide_eq_false (show ¬ q.toNat < p.toNat by omega), decide_eq_true c, e]; simp
  · simp [c, show q.toNat < p.toNat by omega]
theorem bt_one {q : Int} (h2 : 0 ≤ q) : bt 1 q = decide (q = 0) := by
  have e : (i64 1).toBitVec = 1#64 := by decide
  unfold bt
  rw [e, BitVec.getLsbD_one]
  by_cases c : q = 0
  · simp [c]
  · simp [c, show q.toNat ≠ 0 by omega]
theorem ibt_one {q : Int} (h2 : 0 ≤ q) : ibt 1 q = decide (q = 0) := by
  have e : (i32 1).toBitVec = 1#32 := by decide
  unfold ibt
  rw [e, BitVec.getLsbD_one]
  by_cases c : q = 0
  · simp [c]
  · simp [c, show q.toNat ≠ 0 by omega]
theorem bt_zero (q : Int) : bt 0 q = false := by
  have e : (i64 0).toBitVec = 0#64 := by decide
  unfold bt; rw [e]; simp
theorem ibt_zero (q : Int) : ibt 0 q = false := by
  have e : (i32 0).toBitVec = 0#32 := by decide
  unfold ibt; rw [e]; simp
theorem bt_l1 {p q : Int} (h0 : 0 ≤ p) (h1 : p < 64) (h2 : 0 ≤ q) (h3 : q < 64) : bt (lsl 1 p) q = decide (p = q) := by
  rw [bt_lsl h0 h1 h2 h3]
  by_cases c : p ≤ q
  · rw [bt_one (by omega)]
    by_cases d : p = q
    · simp [d]
    · simp [d, c, show q - p ≠ 0 by omega]
  · simp [c, show p ≠ q by omega]
theorem ibt_l1 {p q : Int} (h0 : 0 ≤ p) (h1 : p < 32) (h2 : 0 ≤ q) (h3 : q < 32) : ibt (shl 1 p) q = decide (p = q) := by
  rw [ibt_shl h0 h1 h2 h3]
  by_cases c : p ≤ q
  · rw [ibt_one (by omega)]
    by_cases d : p = q
    · simp [d]
    · simp [d, c, show q - p ≠ 0 by omega]
  · simp [c, show p ≠ q by omega]
theorem in64_l (u : Int64) : in64 u.toInt := in64_t u
theorem lcm_z (u : Int64) : lcm u.toInt 0 = 0 ↔ u.toInt = 0 := by
  unfold lcm
  rw [show (0 : Int) = (0 : Int32).toInt from rfl, Int32.toInt_inj, lg_cmp_eq, i64_t, show i64 (0 : Int32).toInt = 0 from rfl, ← Int64.toInt_inj]
  rfl
theorem tz64 (u : Int64) : u.toInt = 0 ↔ ∀ q : Int, 0 ≤ q → q < 64 → u.toBitVec.getLsbD q.toNat = false := by
  constructor
  · intro h q _ _
    have : u = 0 := Int64.toInt_inj.mp h
    rw [this]; simp
  · intro h
    have : u.toBitVec = 0#64 := by
      apply BitVec.eq_of_getLsbD_eq
      intro i hi
      have := h (i : Int) (by omega) (by omega)
      simpa using this
    have : u = 0 := Int64.toBitVec_inj.mp this
    rw [this]; rfl
theorem tz32 (u : Int32) : u.toInt = 0 ↔ ∀ q : Int, 0 ≤ q → q < 32 → u.toBitVec.getLsbD q.toNat = false := by
  constructor
  · intro h q _ _
    have : u = 0 := Int32.toInt_inj.mp h
    rw [this]; simp
  · intro h
    have : u.toBitVec = 0#32 := by
      apply BitVec.eq_of_getLsbD_eq
      intro i hi
      have := h (i : Int) (by omega) (by omega)
      simpa using this
    have : u = 0 := Int32.toBitVec_inj.mp this
    rw [this]; rfl
theorem lan_z (x y : Int) : lan x y = 0 ↔ ∀ q : Int, 0 ≤ q → q < 64 → (bt x q && bt y q) = false := by
  have := tz64 (i64 x &&& i64 y)
  rw [Int64.toBitVec_and] at this
  simp only [BitVec.getLsbD_and] at this
  exact this
theorem ban_z (x y : Int) : ban x y = 0 ↔ ∀ q : Int, 0 ≤ q → q < 32 → (ibt x q && ibt y q) = false := by
  have := tz32 (i32 x &&& i32 y)
  rw [Int32.toBitVec_and] at this
  simp only [BitVec.getLsbD_and] at this
  exact this
theorem bt_lsr0 {x q : Int} (h2 : 0 ≤ q) (h3 : q < 64) : bt (lsr x q) 0 = bt x q := by
  unfold bt lsr
  rw [i64_t, Int64.toBitVec_shiftRight, sc64' h2 h3, show ∀ (a b : BitVec _), a.sshiftRight' b = a.sshiftRight b.toNat from fun _ _ => rfl, BitVec.toNat_ofNat, Nat.mod_eq_of_lt (by omega), BitVec.getLsbD_sshiftRight]
  simp
  omega
theorem ibt_shr0 {x q : Int} (h2 : 0 ≤ q) (h3 : q < 32) : ibt (shr x q) 0 = ibt x q := by
  unfold ibt shr
  rw [i32_t, Int32.toBitVec_shiftRight, sc32' h2 h3, show ∀ (a b : BitVec _), a.sshiftRight' b = a.sshiftRight b.toNat from fun _ _ => rfl, BitVec.toNat_ofNat, Nat.mod_eq_of_lt (by omega), BitVec.getLsbD_sshiftRight]
  simp
  omega
theorem lbit_z {x q : Int} (h2 : 0 ≤ q) (h3 : q < 64) : lcm (lan (lsr x q) 1) 0 = 0 ↔ bt x q = false := by
  rw [show lan (lsr x q) 1 = (i64 (lsr x q) &&& i64 1).toInt from rfl, lcm_z, show (i64 (lsr x q) &&& i64 1).toInt = lan (lsr x q) 1 from rfl, lan_z]
  constructor
  · intro h
    have := h 0 (by omega) (by omega)
    rw [bt_lsr0 h2 h3, bt_one (by omega)] at this
    simpa using this
  · intro h r h4 h5
    rw [bt_one h4]
    by_cases c : r = 0
    · subst c; rw [bt_lsr0 h2 h3, h]; rfl
    · simp [c]
theorem ibit_z {x q : Int} (h2 : 0 ≤ q) (h3 : q < 32) : ban (shr x q) 1 = 0 ↔ ibt x q = false := by
  rw [ban_z]
  constructor
  · intro h
    have := h 0 (by omega) (by omega)
    rw [ibt_shr0 h2 h3, ibt_one (by omega)] at this
    simpa using this
  · intro h r h4 h5
    rw [ibt_one h4]
    by_cases c : r = 0
    · subst c; rw [ibt_shr0 h2 h3, h]; rfl
    · simp [c]
theorem ban1 (x : Int) : ban x 1 = 0 ∨ ban x 1 = 1 := by
  have e : (i32 x &&& i32 1) = 0 ∨ (i32 x &&& i32 1) = 1 := by
    rw [← Int32.toBitVec_inj, ← Int32.toBitVec_inj, Int32.toBitVec_and, show (i32 1).toBitVec = 1#32 by decide]
    by_cases c : (i32 x).toBitVec.getLsbD 0 = true
    · right
      apply BitVec.eq_of_getLsbD_eq
      intro i hi
      rw [BitVec.getLsbD_and, show (1 : Int32).toBitVec = 1#32 by decide, BitVec.getLsbD_one]
      by_cases d : i = 0
      · subst d; simp [c]
      · simp [d]
    · left
      apply BitVec.eq_of_getLsbD_eq
      intro i hi
      rw [BitVec.getLsbD_and, show (0 : Int32).toBitVec = 0#32 by decide, BitVec.getLsbD_one]
      by_cases d : i = 0
      · subst d; rw [Bool.eq_false_iff.mpr c]; simp
      · simp [d]
  rcases e with e | e
  · left; unfold ban; rw [e]; rfl
  · right; unfold ban; rw [e]; rfl
theorem ibit_1 {x q : Int} (h2 : 0 ≤ q) (h3 : q < 32) : ban (shr x q) 1 = 1 ↔ ibt x q = true := by
  rcases ban1 (shr x q) with e | e
  · have := (ibit_z (x := x) h2 h3).mp e
    rw [e, this]; simp
  · have : ¬ ibt x q = false := fun c => by have := (ibit_z (x := x) h2 h3).mpr c; omega
    rw [e]; simpa using this
theorem bt_ext {x y : Int} (hx : in64 x) (hy : in64 y) (q : ∀ r : Int, 0 ≤ r → r < 64 → bt x r = bt y r) : x = y := by
  have : (i64 x).toBitVec = (i64 y).toBitVec := by
    apply BitVec.eq_of_getLsbD_eq
    intro i hi
    have := q (i : Int) (by omega) (by omega)
    simpa [bt] using this
  have := Int64.toBitVec_inj.mp this
  rw [← i64_i hx, ← i64_i hy, this]
theorem ibt_ext {x y : Int} (hx : in32 x) (hy : in32 y) (q : ∀ r : Int, 0 ≤ r → r < 32 → ibt x r = ibt y r) : x = y := by
  have : (i32 x).toBitVec = (i32 y).toBitVec := by
    apply BitVec.eq_of_getLsbD_eq
    intro i hi
    have := q (i : Int) (by omega) (by omega)
    simpa [ibt] using this
  have := Int32.toBitVec_inj.mp this
  rw [← i32_i hx, ← i32_i hy, this]
