/-! small closed forms -/
theorem lcm_lt {x z : Int} (hx : in64 x) (hz : in64 z) : lcm x z < 0 ↔ x < z := by
  unfold lcm
  rw [show (0 : Int) = (0 : Int32).toInt from rfl, ← Int32.lt_iff_toInt_lt, lg_cmp_lt, Int64.lt_iff_toInt_lt, i64_i hx, i64_i hz]
theorem lcm_gt {x z : Int} (hx : in64 x) (hz : in64 z) : 0 < lcm x z ↔ z < x := by
  unfold lcm
  rw [show (0 : Int) = (0 : Int32).toInt from rfl, ← Int32.lt_iff_toInt_lt, lg_cmp_gt, Int64.lt_iff_toInt_lt, i64_i hx, i64_i hz]
def b2 (P : Prop) [Decidable P] : Int := if P then 1 else 0
section BASIC
variable {n : Nat} {h : MM} {v a b : Int}
theorem b2_isb (P : Prop) [Decidable P] : isb (b2 P) = true := by unfold b2; split <;> rfl
theorem b2_z (P : Prop) [Decidable P] : b2 P = 0 ↔ ¬ P := by unfold b2; split <;> simp_all
theorem wl_lt {v a : Int} (hv : in64 v) (ha : in64 a) : True := trivial
theorem within_e (hv : in64 v) (ha : in64 a) (hb : in64 b) : f_X11_within n v a b h = some (b2 (a ≤ v ∧ v ≤ b), h) := by
  unfold f_X11_within f_X11_within_18 f_X11_within_19 b2
  by_cases q1 : v < a
  · rw [if_pos ((lcm_lt hv ha).mpr q1), if_neg (by omega)]; rfl
  · rw [if_neg (fun e => q1 ((lcm_lt hv ha).mp e))]
    by_cases q2 : b < v
    · rw [if_pos ((lcm_gt hv hb).mpr q2), if_neg (by omega)]; rfl
    · rw [if_neg (fun e => q2 ((lcm_gt hv hb).mp e)), if_pos (by omega)]; rfl
theorem in_e : f_X12_in n v a b h = some (b2 (a ≤ v ∧ v ≤ b), h) := by
  unfold f_X12_in f_X12_in_14 f_X12_in_15 b2
  by_cases q1 : v < a
  · rw [if_pos q1, if_neg (by omega)]; rfl
  · rw [if_neg q1]
    by_cases q2 : b < v
    · rw [if_pos q2, if_neg (by omega)]; rfl
    · rw [if_neg q2, if_pos (by omega)]; rfl
theorem in64_32 (q : in32 v) : in64 v := by unfold in32 at q; unfold in64; omega
theorem isCell_e : f_X12_isCell n v h = some (b2 (0 ≤ v ∧ v ≤ 79), h) := by unfold f_X12_isCell; rw [in_e, bd_e, ck_e (b2_isb _)]
theorem isHolderm_e : f_X12_isHolder n v h = some (b2 (0 ≤ v ∧ v ≤ 7), h) := by unfold f_X12_isHolder; rw [in_e, bd_e, ck_e (b2_isb _)]
theorem isDaym_e : f_X12_isDay n v h = some (b2 (0 ≤ v ∧ v ≤ 999), h) := by unfold f_X12_isDay; rw [in_e, bd_e, ck_e (b2_isb _)]
theorem isSheetm_e : f_X12_isSheet n v h = some (b2 (0 ≤ v ∧ v ≤ 3), h) := by unfold f_X12_isSheet; rw [in_e, bd_e, ck_e (b2_isb _)]
theorem lit64 {v : Int} (q : -9223372036854775808 ≤ v ∧ v ≤ 9223372036854775807) : in64 v := q
theorem isDay_e (hv : in32 v) : f_X11_isDay n v h = some (b2 (0 ≤ v ∧ v ≤ 999), h) := by
  unfold f_X11_isDay; rw [within_e (in64_32 hv) (lit64 (by decide)) (lit64 (by decide)), bd_e, ck_e (b2_isb _)]
theorem isHolder_e (hv : in32 v) : f_X11_isHolder n v h = some (b2 (0 ≤ v ∧ v ≤ 7), h) := by
  unfold f_X11_isHolder; rw [within_e (in64_32 hv) (lit64 (by decide)) (lit64 (by decide)), bd_e, ck_e (b2_isb _)]
theorem isSheet_e (hv : in32 v) : f_X11_isSheet n v h = some (b2 (0 ≤ v ∧ v ≤ 3), h) := by
  unfold f_X11_isSheet; rw [within_e (in64_32 hv) (lit64 (by decide)) (lit64 (by decide)), bd_e, ck_e (b2_isb _)]
end BASIC
theorem wrk {x : Int} (q : -2147483648 ≤ x ∧ x ≤ 2147483647) : wr x = x := wr_id q
theorem wlk {x : Int} (q : -9223372036854775808 ≤ x ∧ x ≤ 9223372036854775807) : wl x = x := wl_id q
