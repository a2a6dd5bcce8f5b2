/-! small closed forms -/
theorem lcm_lt {x z : Int} (hx : in64 x) (hz : in64 z) : lcm x z < 0 ↔ x < z := by
  unfold lcm
  rw [show (0 : Int) = (0 : Int32).toInt from rfl, ← Int32.lt_iff_toInt_lt, lg_cmp_lt, Int64.lt_iff_toInt_lt, i64_i hx, i64_i hz]
theorem lcm_gt {x z : Int} (hx : in64 x) (hz : in64 z) : 0 < lcm x z ↔ z < x := by
  unfold lcm
  rw [show (0 : Int) = (0 : Int32).toInt from rfl, ← Int32.lt_iff_toInt_lt, lg_cmp_gt, Int64.lt_iff_toInt_lt, i64_i hx, i64_i hz]
def J (v : Int) : Prop := -2147483648 ≤ v ∧ v ≤ 2147483647
def J64 (v : Int) : Prop := -9223372036854775808 ≤ v ∧ v ≤ 9223372036854775807
section BASIC
variable {n : Nat} {h : MM} {v a b : Int}
theorem within_t (hv : J64 v) (ha : J a) (hb : J b) (q : a ≤ v ∧ v ≤ b) : f_X11_within n v a b h = some (1, h) := by
  have ha' : in64 a := by unfold J at ha; unfold in64; omega
  have hb' : in64 b := by unfold J at hb; unfold in64; omega
  unfold f_X11_within f_X11_within_18 f_X11_within_19
  rw [if_neg (fun e => by have := (lcm_lt hv ha').mp e; omega), if_neg (fun e => by have := (lcm_gt hv hb').mp e; omega)]; rfl
theorem within_f (hv : J64 v) (ha : J a) (hb : J b) (q : ¬ (a ≤ v ∧ v ≤ b)) : f_X11_within n v a b h = some (0, h) := by
  have ha' : in64 a := by unfold J at ha; unfold in64; omega
  have hb' : in64 b := by unfold J at hb; unfold in64; omega
  unfold f_X11_within f_X11_within_18 f_X11_within_19
  by_cases q1 : v < a
  · rw [if_pos ((lcm_lt hv ha').mpr q1)]; rfl
  · rw [if_neg (fun e => q1 ((lcm_lt hv ha').mp e)), if_pos ((lcm_gt hv hb').mpr (by omega))]; rfl
theorem in_t (q : a ≤ v ∧ v ≤ b) : f_X12_in n v a b h = some (1, h) := by
  unfold f_X12_in f_X12_in_14 f_X12_in_15
  rw [if_neg (by omega), if_neg (by omega)]; rfl
theorem in_f (q : ¬ (a ≤ v ∧ v ≤ b)) : f_X12_in n v a b h = some (0, h) := by
  unfold f_X12_in f_X12_in_14 f_X12_in_15
  by_cases q1 : v < a
  · rw [if_pos q1]; rfl
  · rw [if_neg q1, if_pos (by omega)]; rfl
theorem isCell_t (q : 0 ≤ v ∧ v ≤ 79) : f_X12_isCell n v h = some (1, h) := by unfold f_X12_isCell; rw [in_t q]; rfl
theorem isCell_f (q : ¬ (0 ≤ v ∧ v ≤ 79)) : f_X12_isCell n v h = some (0, h) := by unfold f_X12_isCell; rw [in_f q]; rfl
theorem isHolderm_t (q : 0 ≤ v ∧ v ≤ 7) : f_X12_isHolder n v h = some (1, h) := by unfold f_X12_isHolder; rw [in_t q]; rfl
theorem isHolderm_f (q : ¬ (0 ≤ v ∧ v ≤ 7)) : f_X12_isHolder n v h = some (0, h) := by unfold f_X12_isHolder; rw [in_f q]; rfl
theorem isDaym_t (q : 0 ≤ v ∧ v ≤ 999) : f_X12_isDay n v h = some (1, h) := by unfold f_X12_isDay; rw [in_t q]; rfl
theorem isDaym_f (q : ¬ (0 ≤ v ∧ v ≤ 999)) : f_X12_isDay n v h = some (0, h) := by unfold f_X12_isDay; rw [in_f q]; rfl
theorem isSheetm_t (q : 0 ≤ v ∧ v ≤ 3) : f_X12_isSheet n v h = some (1, h) := by unfold f_X12_isSheet; rw [in_t q]; rfl
theorem isSheetm_f (q : ¬ (0 ≤ v ∧ v ≤ 3)) : f_X12_isSheet n v h = some (0, h) := by unfold f_X12_isSheet; rw [in_f q]; rfl
theorem J_lit {x : Int} (q : -2147483648 ≤ x ∧ x ≤ 2147483647) : J x := q
theorem J64_of (q : J v) : J64 v := by unfold J at q; unfold J64; omega
theorem isDay_t (q : 0 ≤ v ∧ v ≤ 999) : f_X11_isDay n v h = some (1, h) := by unfold f_X11_isDay; rw [within_t (J64_of (by unfold J; omega)) (J_lit (by decide)) (J_lit (by decide)) q]; rfl
theorem isDay_f (j : J v) (q : ¬ (0 ≤ v ∧ v ≤ 999)) : f_X11_isDay n v h = some (0, h) := by unfold f_X11_isDay; rw [within_f (J64_of j) (J_lit (by decide)) (J_lit (by decide)) q]; rfl
theorem isHolder_t (q : 0 ≤ v ∧ v ≤ 7) : f_X11_isHolder n v h = some (1, h) := by unfold f_X11_isHolder; rw [within_t (J64_of (by unfold J; omega)) (J_lit (by decide)) (J_lit (by decide)) q]; rfl
theorem isHolder_f (j : J v) (q : ¬ (0 ≤ v ∧ v ≤ 7)) : f_X11_isHolder n v h = some (0, h) := by unfold f_X11_isHolder; rw [within_f (J64_of j) (J_lit (by decide)) (J_lit (by decide)) q]; rfl
theorem isSheet_t (q : 0 ≤ v ∧ v ≤ 3) : f_X11_isSheet n v h = some (1, h) := by unfold f_X11_isSheet; rw [within_t (J64_of (by unfold J; omega)) (J_lit (by decide)) (J_lit (by decide)) q]; rfl
theorem isSheet_f (j : J v) (q : ¬ (0 ≤ v ∧ v ≤ 3)) : f_X11_isSheet n v h = some (0, h) := by unfold f_X11_isSheet; rw [within_f (J64_of j) (J_lit (by decide)) (J_lit (by decide)) q]; rfl
end BASIC
theorem wrk {x : Int} (q : -2147483648 ≤ x ∧ x ≤ 2147483647) : wr x = x := wr_id q
theorem wlk {x : Int} (q : -9223372036854775808 ≤ x ∧ x ≤ 9223372036854775807) : wl x = x := wl_id q
theorem some_inj {a b : Int × MM} (q : a = b) : (some a : RR) = some b := congrArg some q
/-- a counted sum -/
def sumI (f : Int → Int) : Nat → Int
  | 0 => 0
  | k + 1 => sumI f k + f (k : Int)
theorem sumI_congr {f g : Int → Int} : ∀ {k : Nat}, (∀ i : Int, 0 ≤ i → i < (k : Int) → f i = g i) → sumI f k = sumI g k
  | 0, _ => rfl
  | k + 1, q => by
    unfold sumI
    rw [sumI_congr (k := k) (fun i h0 h1 => q i h0 (by omega)), q (k : Int) (by omega) (by omega)]
theorem sumI_bd {f : Int → Int} {B : Int} : ∀ {k : Nat}, (∀ i : Int, 0 ≤ i → i < (k : Int) → 0 ≤ f i ∧ f i ≤ B) → 0 ≤ sumI f k ∧ sumI f k ≤ B * k
  | 0, _ => by unfold sumI; omega
  | k + 1, q => by
    unfold sumI
    have h1 := sumI_bd (k := k) (fun i h0 h1 => q i h0 (by omega))
    have h2 := q (k : Int) (by omega) (by omega)
    rw [show B * ((k + 1 : Nat) : Int) = B * k + B by rw [Int.natCast_add, Int.mul_add]; omega]
    omega
theorem sumI_upd {f g : Int → Int} {a : Int} : ∀ {k : Nat}, 0 ≤ a → a < (k : Int) → (∀ i : Int, 0 ≤ i → i < (k : Int) → i ≠ a → g i = f i) → sumI g k = sumI f k - f a + g a
  | 0, h0, h1, _ => by omega
  | k + 1, h0, h1, q => by
    unfold sumI
    by_cases e : a = (k : Int)
    · subst e
      rw [sumI_congr (f := g) (g := f) (fun i h2 h3 => q i h2 (by omega) (by omega))]
      omega
    · rw [sumI_upd (f := f) (g := g) (k := k) h0 (by omega) (fun i h2 h3 h4 => q i h2 (by omega) h4), q (k : Int) (by omega) (by omega) (fun z => e z.symm)]
      omega
