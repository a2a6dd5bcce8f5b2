/-! SETTLING, as pure functions -/
theorem ldv_p {x z : Int} (hx : 0 ≤ x ∧ x ≤ 9223372036854775807) (hz : 0 < z ∧ z ≤ 9223372036854775807) : ldv x z = x / z := by
  have q0 : 0 ≤ x / z := Int.ediv_nonneg hx.1 (by omega)
  have q1 : x / z ≤ x := Int.ediv_le_self z hx.1
  unfold ldv
  rw [Int64.toInt_div, i64_i ⟨by omega, by omega⟩, i64_i ⟨by omega, by omega⟩, Int.tdiv_eq_ediv_of_nonneg hx.1]
  generalize x / z = y at q0 q1
  show Int.bmod y 18446744073709551616 = y
  unfold Int.bmod
  dsimp only
  split <;> omega
section SUM
variable {f g : Int → Int} {a i j : Int}
theorem sumI_app (f : Int → Int) (m : Nat) : ∀ n : Nat, sumI f (m + n) = sumI f m + sumI (fun s => f ((m : Int) + s)) n
  | 0 => by
    show sumI f m = sumI f m + 0
    omega
  | n + 1 => by
    rw [show m + (n + 1) = (m + n) + 1 by omega, sumI_s, sumI_s, sumI_app f m n]
    rw [show (((m + n : Nat)) : Int) = (m : Int) + (n : Int) by omega]
    omega
theorem sumI_blk (f : Int → Int) : ∀ m : Nat, sumI f (12 * m) = sumI (fun h => sumI (fun s => f (12 * h + s)) 12) m
  | 0 => rfl
  | m + 1 => by
    rw [show 12 * (m + 1) = 12 * m + 12 by omega, sumI_app, sumI_blk f m, show ((12 * m : Nat) : Int) = 12 * (m : Int) by omega]
    rfl
theorem sumI_tail (m : Nat) : ∀ n : Nat, (∀ i : Int, (m : Int) ≤ i → i < (m : Int) + (n : Int) → f i = 0) → sumI f (m + n) = sumI f m
  | 0, _ => rfl
  | n + 1, q => by
    rw [show m + (n + 1) = (m + n) + 1 by omega, sumI_s, sumI_tail m n (fun i i0 i1 => q i i0 (by omega)), q (((m + n : Nat)) : Int) (by omega) (by omega)]
    omega
theorem sumI_le2 : ∀ k : Nat, (∀ i : Int, 0 ≤ i → i < (k : Int) → f i ≤ g i) → sumI f k ≤ sumI g k
  | 0, _ => Int.le_refl _
  | k + 1, q => by
    have a := sumI_le2 k (fun i i0 i1 => q i i0 (by omega))
    have b := q (k : Int) (by omega) (by omega)
    rw [sumI_s, sumI_s]; omega
/-- sums over the 96, by rows and by columns -/
def S1 (F : Int → Int) (a : Int) (i : Nat) : Int := sumI (fun j => if j / 12 = a then F j else 0) i
def S2 (F : Int → Int) (a : Int) (i : Nat) : Int := sumI (fun j => if 8 + j % 12 = a then F j else 0) i
theorem S1_e (F : Int → Int) (h0 : 0 ≤ a) (h1 : a < 8) : S1 F a 96 = sumI (fun s => F (12 * a + s)) 12 := by
  unfold S1
  rw [show (96 : Nat) = 12 * 8 from rfl, sumI_blk]
  rw [sumI_at (t := a) h0 (by omega) (fun i i0 i1 ne => sumI_zero (fun s s0 s1 => by
    rw [if_neg (by omega)]))]
  exact sumI_congr (fun s s0 s1 => by rw [if_pos (by omega)])
theorem S1_z (F : Int → Int) (h0 : 8 ≤ a) : S1 F a 96 = 0 := sumI_zero (fun j j0 j1 => by rw [if_neg (by omega)])
theorem S2_e (F : Int → Int) (h0 : 0 ≤ a) (h1 : a < 12) : S2 F (8 + a) 96 = sumI (fun h => F (12 * h + a)) 8 := by
  unfold S2
  rw [show (96 : Nat) = 12 * 8 from rfl, sumI_blk]
  refine sumI_congr (fun h g0 g1 => ?_)
  rw [sumI_at (t := a) h0 (by omega) (fun i i0 i1 ne => by rw [if_neg (by omega)]), if_pos (by omega)]
theorem S2_z (F : Int → Int) (h1 : a < 8) : S2 F a 96 = 0 := sumI_zero (fun j j0 j1 => by rw [if_neg (by omega)])
theorem S1_s (F : Int → Int) (a : Int) (i : Nat) : S1 F a (i + 1) = S1 F a i + (if (i : Int) / 12 = a then F (i : Int) else 0) := rfl
theorem S2_s (F : Int → Int) (a : Int) (i : Nat) : S2 F a (i + 1) = S2 F a i + (if 8 + (i : Int) % 12 = a then F (i : Int) else 0) := rfl
theorem S1_bd {F : Int → Int} {B : Int} (q : ∀ j : Int, 0 ≤ j → j < 96 → 0 ≤ F j ∧ F j ≤ B) (hB : 0 ≤ B) (a : Int) {i : Nat} (hi : i ≤ 96) : 0 ≤ S1 F a i ∧ S1 F a i ≤ B * 96 := by
  have z := sumI_bd (f := fun j => if j / 12 = a then F j else 0) (B := B) (k := i) (fun j j0 j1 => by
    have y := q j j0 (by omega)
    show 0 ≤ (if j / 12 = a then F j else 0) ∧ (if j / 12 = a then F j else 0) ≤ B
    split <;> omega)
  have w : B * (i : Int) ≤ B * 96 := Int.mul_le_mul_of_nonneg_left (by omega) hB
  unfold S1; omega
theorem S2_bd {F : Int → Int} {B : Int} (q : ∀ j : Int, 0 ≤ j → j < 96 → 0 ≤ F j ∧ F j ≤ B) (hB : 0 ≤ B) (a : Int) {i : Nat} (hi : i ≤ 96) : 0 ≤ S2 F a i ∧ S2 F a i ≤ B * 96 := by
  have z := sumI_bd (f := fun j => if 8 + j % 12 = a then F j else 0) (B := B) (k := i) (fun j j0 j1 => by
    have y := q j j0 (by omega)
    show 0 ≤ (if 8 + j % 12 = a then F j else 0) ∧ (if 8 + j % 12 = a then F j else 0) ≤ B
    split <;> omega)
  have w : B * (i : Int) ≤ B * 96 := Int.mul_le_mul_of_nonneg_left (by omega) hB
  unfold S2; omega
end SUM
/-! who owes whom, what is paid -/
def OBq (O : Int → Int → Int) (S : Int) : Prop := (0 ≤ S ∧ S ≤ 12) ∧ (∀ a b : Int, 0 ≤ a → a < 20 → 0 ≤ b → b < 20 → 0 ≤ O a b ∧ O a b ≤ 6000000) ∧ (∀ a b : Int, (a < 8 ∧ b < 8) ∨ (8 ≤ a ∧ 8 ≤ b) ∨ 8 + S ≤ a ∨ 8 + S ≤ b → O a b = 0)
def dueS (O : Int → Int → Int) (a : Int) : Int := sumI (O a) 20
def canS (O P : Int → Int → Int) (H : Int → Int) (a : Int) : Int := if H a + sumI (fun b => P b a) 20 < dueS O a then H a + sumI (fun b => P b a) 20 else dueS O a
def PY (O : Int → Int → Int) (H : Int → Int) : Nat → Int → Int → Int
  | 0 => fun _ _ => 0
  | r + 1 => fun a b => if dueS O a = 0 then 0 else canS O (PY O H r) H a * O a b / dueS O a
section PYS
variable {O P Q : Int → Int → Int} {H : Int → Int} {S a b i j : Int}
theorem PY_s (r : Nat) (a b : Int) : PY O H (r + 1) a b = if dueS O a = 0 then 0 else canS O (PY O H r) H a * O a b / dueS O a := rfl
theorem due_bd (q : OBq O S) (a0 : 0 ≤ a) (a1 : a < 20) : 0 ≤ dueS O a ∧ dueS O a ≤ 120000000 := by
  have z := sumI_bd (f := O a) (B := 6000000) (k := 20) (fun j j0 j1 => q.2.1 a j a0 a1 j0 j1)
  unfold dueS; omega
theorem can_bd (q : OBq O S) (a0 : 0 ≤ a) (a1 : a < 20) (h : 0 ≤ H a) (p : ∀ b : Int, 0 ≤ b → b < 20 → 0 ≤ P b a) : 0 ≤ canS O P H a ∧ canS O P H a ≤ dueS O a := by
  have d := due_bd q a0 a1
  have s : 0 ≤ sumI (fun b => P b a) 20 := sumI_nn (fun i i0 i1 => p i i0 (by omega))
  unfold canS
  split <;> omega
theorem div_bd {c o d : Int} (hc : 0 ≤ c ∧ c ≤ d) (ho : 0 ≤ o) (hd : 0 < d) : 0 ≤ c * o / d ∧ c * o / d ≤ o := by
  refine ⟨Int.ediv_nonneg (Int.mul_nonneg hc.1 ho) (Int.le_of_lt hd), ?_⟩
  have z : c * o ≤ d * o := Int.mul_le_mul_of_nonneg_right hc.2 ho
  have y : c * o / d ≤ d * o / d := Int.ediv_le_ediv hd z
  rw [Int.mul_ediv_cancel_left o (by omega)] at y
  exact y
theorem PY_bd (q : OBq O S) (h : ∀ a : Int, 0 ≤ a → a < 20 → 0 ≤ H a) : ∀ (r : Nat) (a b : Int), 0 ≤ a → a < 20 → 0 ≤ b → b < 20 → 0 ≤ PY O H r a b ∧ PY O H r a b ≤ O a b
  | 0, a, b, a0, a1, b0, b1 => ⟨Int.le_refl _, (q.2.1 a b a0 a1 b0 b1).1⟩
  | r + 1, a, b, a0, a1, b0, b1 => by
    have o := q.2.1 a b a0 a1 b0 b1
    have d := due_bd q a0 a1
    have c := can_bd (P := PY O H r) q a0 a1 (h a a0 a1) (fun b b0 b1 => (PY_bd q h r b a b0 b1 a0 a1).1)
    rw [PY_s]
    split
    · exact ⟨Int.le_refl _, o.1⟩
    · exact div_bd c o.1 (by omega)
theorem PY_z (r : Nat) (z : O a b = 0) : PY O H r a b = 0 := by
  cases r with
  | zero => rfl
  | succ r =>
    rw [PY_s]
    split
    · rfl
    · rw [z, Int.mul_zero, Int.zero_ediv]
theorem can_mono (q : OBq O S) (a : Int) (a0 : 0 ≤ a) (a1 : a < 20) (m : ∀ b : Int, 0 ≤ b → b < 20 → P b a ≤ Q b a) : canS O P H a ≤ canS O Q H a := by
  have s := sumI_le2 (f := fun b => P b a) (g := fun b => Q b a) 20 (fun i i0 i1 => m i i0 (by omega))
  unfold canS
  split <;> split <;> omega
theorem PY_mono (q : OBq O S) (h : ∀ a : Int, 0 ≤ a → a < 20 → 0 ≤ H a) : ∀ (r : Nat) (a b : Int), 0 ≤ a → a < 20 → 0 ≤ b → b < 20 → PY O H r a b ≤ PY O H (r + 1) a b
  | 0, a, b, a0, a1, b0, b1 => (PY_bd q h 1 a b a0 a1 b0 b1).1
  | r + 1, a, b, a0, a1, b0, b1 => by
    have d := due_bd q a0 a1
    have o := (q.2.1 a b a0 a1 b0 b1).1
    have c := can_mono (H := H) q a a0 a1 (fun b b0 b1 => PY_mono q h r b a b0 b1 a0 a1)
    rw [PY_s, PY_s]
    split
    · exact Int.le_refl _
    · exact Int.ediv_le_ediv (by omega) (Int.mul_le_mul_of_nonneg_right c o)
theorem div_sum {f : Int → Int} {c d : Int} (hd : 0 < d) : ∀ k : Nat, d * sumI (fun b => c * f b / d) k ≤ c * sumI f k
  | 0 => by
    show d * 0 ≤ c * 0
    omega
  | k + 1 => by
    have ih := div_sum (f := f) (c := c) hd k
    have e : d * (c * f (k : Int) / d) ≤ c * f (k : Int) := Int.mul_ediv_self_le (by omega)
    rw [sumI_s, sumI_s, Int.mul_add, Int.mul_add]
    omega
theorem PY_row (q : OBq O S) (h : ∀ a : Int, 0 ≤ a → a < 20 → 0 ≤ H a) (r : Nat) (a0 : 0 ≤ a) (a1 : a < 20) : sumI (PY O H (r + 1) a) 20 ≤ canS O (PY O H r) H a := by
  have d := due_bd q a0 a1
  have c := can_bd (P := PY O H r) q a0 a1 (h a a0 a1) (fun b b0 b1 => (PY_bd q h r b a b0 b1 a0 a1).1)
  by_cases z : dueS O a = 0
  · have e : sumI (PY O H (r + 1) a) 20 = 0 := sumI_zero (fun b _ _ => by rw [PY_s, if_pos z])
    omega
  · have e : sumI (PY O H (r + 1) a) 20 = sumI (fun b => canS O (PY O H r) H a * O a b / dueS O a) 20 := sumI_congr (fun b _ _ => by rw [PY_s, if_neg z])
    have s := div_sum (f := O a) (c := canS O (PY O H r) H a) (d := dueS O a) (by omega) 20
    rw [← e, show sumI (O a) 20 = dueS O a from rfl, Int.mul_comm (canS O (PY O H r) H a)] at s
    exact Int.le_of_mul_le_mul_left s (by omega)
/-- nobody is left with less than nothing -/
theorem PY_left (q : OBq O S) (h : ∀ a : Int, 0 ≤ a → a < 20 → 0 ≤ H a) (r : Nat) (hr : 1 ≤ r) (a0 : 0 ≤ a) (a1 : a < 20) : sumI (PY O H r a) 20 ≤ H a + sumI (fun b => PY O H r b a) 20 := by
  obtain ⟨r', rfl⟩ : ∃ r', r = r' + 1 := ⟨r - 1, by omega⟩
  have x := PY_row q h r' a0 a1
  have m := sumI_le2 (f := fun b => PY O H r' b a) (g := fun b => PY O H (r' + 1) b a) 20 (fun b b0 b1 => PY_mono q h r' b a b0 (by omega) a0 a1)
  have c : canS O (PY O H r') H a ≤ H a + sumI (fun b => PY O H r' b a) 20 := by unfold canS; split <;> omega
  omega
/-- rows and columns of a square with two blocks -/
theorem row_h (z : ∀ a b : Int, (a < 8 ∧ b < 8) ∨ (8 ≤ a ∧ 8 ≤ b) → P a b = 0) (h1 : a < 8) : sumI (P a) 20 = sumI (fun s => P a (8 + s)) 12 := by
  rw [show (20 : Nat) = 8 + 12 from rfl, sumI_app, sumI_zero (fun i i0 i1 => z a i (by omega))]
  show 0 + sumI (fun s => P a (((8 : Nat) : Int) + s)) 12 = _
  rw [Int.zero_add]; rfl
theorem row_s (z : ∀ a b : Int, (a < 8 ∧ b < 8) ∨ (8 ≤ a ∧ 8 ≤ b) → P a b = 0) (h1 : 8 ≤ a) : sumI (P a) 20 = sumI (P a) 8 := by
  rw [show (20 : Nat) = 8 + 12 from rfl]
  exact sumI_tail 8 12 (fun i i0 i1 => z a i (by omega))
theorem col_h (z : ∀ a b : Int, (a < 8 ∧ b < 8) ∨ (8 ≤ a ∧ 8 ≤ b) → P a b = 0) (h1 : a < 8) : sumI (fun b => P b a) 20 = sumI (fun s => P (8 + s) a) 12 := by
  rw [show (20 : Nat) = 8 + 12 from rfl, sumI_app, sumI_zero (fun i i0 i1 => z i a (by omega))]
  show 0 + sumI (fun s => P (((8 : Nat) : Int) + s) a) 12 = _
  rw [Int.zero_add]; rfl
theorem col_s (z : ∀ a b : Int, (a < 8 ∧ b < 8) ∨ (8 ≤ a ∧ 8 ≤ b) → P a b = 0) (h1 : 8 ≤ a) : sumI (fun b => P b a) 20 = sumI (fun b => P b a) 8 := by
  rw [show (20 : Nat) = 8 + 12 from rfl]
  exact sumI_tail 8 12 (fun i i0 i1 => z i a (by omega))
/-- the class's 96 of each kind -/
def cF (P : Int → Int → Int) (j : Int) : Int := P (j / 12) (8 + j % 12)
def lF (P : Int → Int → Int) (j : Int) : Int := P (8 + j % 12) (j / 12)
theorem row_e (z : ∀ a b : Int, (a < 8 ∧ b < 8) ∨ (8 ≤ a ∧ 8 ≤ b) → P a b = 0) (a0 : 0 ≤ a) (a1 : a < 20) : S1 (cF P) a 96 + S2 (lF P) a 96 = sumI (P a) 20 := by
  by_cases c : a < 8
  · rw [S1_e _ a0 c, S2_z _ c, row_h z c, Int.add_zero]
    refine sumI_congr (fun s s0 s1 => ?_)
    unfold cF
    rw [show (12 * a + s) / 12 = a by omega, show (12 * a + s) % 12 = s by omega]
  · rw [S1_z _ (by omega), row_s z (by omega), Int.zero_add]
    have y := S2_e (a := a - 8) (lF P) (by omega) (by omega)
    rw [show 8 + (a - 8) = a by omega] at y
    rw [y]
    refine sumI_congr (fun h g0 g1 => ?_)
    unfold lF
    rw [show (12 * h + (a - 8)) / 12 = h by omega, show 8 + (12 * h + (a - 8)) % 12 = a by omega]
theorem col_e (z : ∀ a b : Int, (a < 8 ∧ b < 8) ∨ (8 ≤ a ∧ 8 ≤ b) → P a b = 0) (a0 : 0 ≤ a) (a1 : a < 20) : S1 (lF P) a 96 + S2 (cF P) a 96 = sumI (fun b => P b a) 20 := by
  by_cases c : a < 8
  · rw [S1_e _ a0 c, S2_z _ c, col_h z c, Int.add_zero]
    refine sumI_congr (fun s s0 s1 => ?_)
    unfold lF
    rw [show (12 * a + s) / 12 = a by omega, show (12 * a + s) % 12 = s by omega]
  · rw [S1_z _ (by omega), col_s z (by omega), Int.zero_add]
    have y := S2_e (a := a - 8) (cF P) (by omega) (by omega)
    rw [show 8 + (a - 8) = a by omega] at y
    rw [y]
    refine sumI_congr (fun h g0 g1 => ?_)
    unfold cF
    rw [show (12 * h + (a - 8)) / 12 = h by omega, show 8 + (12 * h + (a - 8)) % 12 = a by omega]
end PYS
