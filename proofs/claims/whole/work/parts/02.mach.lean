/-! THE ABSTRACT MEMORY: addresses and all values are whole numbers (a reference 0 is null); tags: below 100 a class, from 100 on an array -/
abbrev MM : Type := (Int → Int → Int) × (Int → Int × Int) × Int × Int
abbrev RR : Type := Option (Int × MM)
def mv (h : MM) (a i : Int) : Int := h.1 a i
def tg (h : MM) (a : Int) : Int := (h.2.1 a).1
def ln (h : MM) (a : Int) : Int := (h.2.1 a).2
def nx (h : MM) : Int := h.2.2.1
def sl (h : MM) : Int := h.2.2.2
def ms (h : MM) (a i v : Int) : MM := (fun b j => if b = a ∧ j = i then v else h.1 b j, h.2)
def mn (h : MM) (t n : Int) : MM := (fun b j => if b = h.2.2.1 then 0 else h.1 b j, fun b => if b = h.2.2.1 then (t, n) else h.2.1 b, h.2.2.1 + 1, h.2.2.2 + n)
def NM : Int := 600100
def SM : Int := 7302250
/-- the checks of the machine, as a partial run -/
def gf (h : MM) (a t j : Int) (k : Int → RR) : RR := if tg h a = t then k (mv h a j) else none
def pf (h : MM) (a t j v : Int) (k : MM → RR) : RR := if tg h a = t ∧ 100 ≤ a then k (ms h a j v) else none
def rd (h : MM) (a t i : Int) (k : Int → RR) : RR := if tg h a = t ∧ 0 ≤ i ∧ i < ln h a then k (mv h a i) else none
def wt (h : MM) (a t i v : Int) (k : MM → RR) : RR := if tg h a = t ∧ 100 ≤ a ∧ 0 ≤ i ∧ i < ln h a then k (ms h a i v) else none
def al (h : MM) (a t : Int) (k : Int → RR) : RR := if tg h a = t then k (ln h a) else none
def nw (h : MM) (t n : Int) (k : Int → MM → RR) : RR := if nx h + 1 ≤ NM ∧ sl h + n ≤ SM then k (nx h) (mn h t n) else none
def na (h : MM) (t n : Int) (k : Int → MM → RR) : RR := if 0 ≤ n ∧ nx h + 1 ≤ NM ∧ sl h + n ≤ SM then k (nx h) (mn h t n) else none
def ck (b : Bool) (k : RR) : RR := if b = true then k else none
def bd (o : RR) (k : Int → MM → RR) : RR := match o with
  | some z => k z.1 z.2
  | none => none
theorem gf_s {h : MM} {a t j : Int} {k : Int → RR} {z : Int × MM} (q : gf h a t j k = some z) : tg h a = t ∧ k (mv h a j) = some z := by
  unfold gf at q; split at q
  · exact ⟨by assumption, q⟩
  · cases q
theorem pf_s {h : MM} {a t j v : Int} {k : MM → RR} {z : Int × MM} (q : pf h a t j v k = some z) : (tg h a = t ∧ 100 ≤ a) ∧ k (ms h a j v) = some z := by
  unfold pf at q; split at q
  · exact ⟨by assumption, q⟩
  · cases q
theorem rd_s {h : MM} {a t i : Int} {k : Int → RR} {z : Int × MM} (q : rd h a t i k = some z) : (tg h a = t ∧ 0 ≤ i ∧ i < ln h a) ∧ k (mv h a i) = some z := by
  unfold rd at q; split at q
  · exact ⟨by assumption, q⟩
  · cases q
theorem wt_s {h : MM} {a t i v : Int} {k : MM → RR} {z : Int × MM} (q : wt h a t i v k = some z) : (tg h a = t ∧ 100 ≤ a ∧ 0 ≤ i ∧ i < ln h a) ∧ k (ms h a i v) = some z := by
  unfold wt at q; split at q
  · exact ⟨by assumption, q⟩
  · cases q
theorem al_s {h : MM} {a t : Int} {k : Int → RR} {z : Int × MM} (q : al h a t k = some z) : tg h a = t ∧ k (ln h a) = some z := by
  unfold al at q; split at q
  · exact ⟨by assumption, q⟩
  · cases q
theorem nw_s {h : MM} {t n : Int} {k : Int → MM → RR} {z : Int × MM} (q : nw h t n k = some z) : (nx h + 1 ≤ NM ∧ sl h + n ≤ SM) ∧ k (nx h) (mn h t n) = some z := by
  unfold nw at q; split at q
  · exact ⟨by assumption, q⟩
  · cases q
theorem na_s {h : MM} {t n : Int} {k : Int → MM → RR} {z : Int × MM} (q : na h t n k = some z) : (0 ≤ n ∧ nx h + 1 ≤ NM ∧ sl h + n ≤ SM) ∧ k (nx h) (mn h t n) = some z := by
  unfold na at q; split at q
  · exact ⟨by assumption, q⟩
  · cases q
theorem ck_s {b : Bool} {k : RR} {z : Int × MM} (q : ck b k = some z) : b = true ∧ k = some z := by
  unfold ck at q; split at q
  · exact ⟨by assumption, q⟩
  · cases q
theorem bd_s {o : RR} {k : Int → MM → RR} {z : Int × MM} (q : bd o k = some z) : ∃ (v : Int) (h : MM), o = some (v, h) ∧ k v h = some z := by
  unfold bd at q; split at q
  · exact ⟨_, _, rfl, q⟩
  · cases q
/-! NUMBERS -/
def in32 (x : Int) : Prop := -2147483648 ≤ x ∧ x ≤ 2147483647
def in64 (x : Int) : Prop := -9223372036854775808 ≤ x ∧ x ≤ 9223372036854775807
def i32 (x : Int) : Int32 := Int32.ofInt x
def i64 (x : Int) : Int64 := Int64.ofInt x
def wr (x : Int) : Int := (i32 x).toInt
def wl (x : Int) : Int := (i64 x).toInt
def in32b (x : Int) : Bool := decide (-2147483648 ≤ x) && decide (x ≤ 2147483647)
def in64b (x : Int) : Bool := decide (-9223372036854775808 ≤ x) && decide (x ≤ 9223372036854775807)
theorem in32_of {x : Int} (h : in32b x = true) : in32 x := by
  simp only [in32b, Bool.and_eq_true, decide_eq_true_eq] at h; exact h
theorem in64_of {x : Int} (h : in64b x = true) : in64 x := by
  simp only [in64b, Bool.and_eq_true, decide_eq_true_eq] at h; exact h
theorem in32_t (u : Int32) : in32 u.toInt := ⟨Int32.le_toInt u, by have := Int32.toInt_lt u; omega⟩
theorem in64_t (u : Int64) : in64 u.toInt := ⟨Int64.le_toInt u, by have := Int64.toInt_lt u; omega⟩
theorem i32_t (u : Int32) : i32 u.toInt = u := Int32.ofInt_toInt u
theorem i64_t (u : Int64) : i64 u.toInt = u := Int64.ofInt_toInt u
theorem i32_i {x : Int} (h : in32 x) : (i32 x).toInt = x := Int32.toInt_ofInt_of_le h.1 (by have := h.2; omega)
theorem i64_i {x : Int} (h : in64 x) : (i64 x).toInt = x := Int64.toInt_ofInt_of_le h.1 (by have := h.2; omega)
theorem wr_id {x : Int} (h : in32 x) : wr x = x := i32_i h
theorem wl_id {x : Int} (h : in64 x) : wl x = x := i64_i h
theorem i32_wr (x : Int) : i32 (wr x) = i32 x := i32_t _
theorem i64_wl (x : Int) : i64 (wl x) = i64 x := i64_t _
theorem i32_lt {x y : Int} (hx : in32 x) (hy : in32 y) : i32 x < i32 y ↔ x < y := by rw [Int32.lt_iff_toInt_lt, i32_i hx, i32_i hy]
theorem i32_le {x y : Int} (hx : in32 x) (hy : in32 y) : i32 x ≤ i32 y ↔ x ≤ y := by rw [Int32.le_iff_toInt_le, i32_i hx, i32_i hy]
theorem i32_eq {x y : Int} (hx : in32 x) (hy : in32 y) : i32 x = i32 y ↔ x = y := ⟨fun h => by rw [← i32_i hx, ← i32_i hy, h], fun h => by rw [h]⟩
/-! CELLS -/
def ssum (b : Nat) (H : Heap) : Nat := ((List.range (H.size - b)).map fun k => ((H[b + k]?).map (fun c => c.slots.size)).getD 0).sum
theorem ssum_keep {b : Nat} {H H1 : Heap} (hz : H1.size = H.size) (hc : ∀ q : Nat, (H1[q]?).map (fun c => c.slots.size) = (H[q]?).map (fun c => c.slots.size)) : ssum b H1 = ssum b H := by
  unfold ssum
  rw [hz]
  congr 1
  apply List.map_congr_left
  intro k _
  rw [hc]
theorem ssum_push {b : Nat} {H H1 : Heap} {c1 : Cell} (hb : b ≤ H.size) (hz : H1.size = H.size + 1) (hn : H1[H.size]? = some c1) (hc : ∀ q : Nat, q < H.size → H1[q]? = H[q]?) : ssum b H1 = ssum b H + c1.slots.size := by
  unfold ssum
  rw [hz, show H.size + 1 - b = (H.size - b) + 1 by omega, List.range_succ, List.map_append, List.sum_append]
  congr 1
  · congr 1
    apply List.map_congr_left
    intro k hk
    rw [hc (b + k) (by have := List.mem_range.mp hk; omega)]
  · simp only [List.map_cons, List.map_nil, List.sum_cons, List.sum_nil]
    rw [show b + (H.size - b) = H.size by omega, hn]
    simp
theorem ssum_old {b z : Nat} {H0 H : Heap} (h0 : z = H0.size) (hb : b ≤ z) (hz : z ≤ H.size) (hc : ∀ (q : Nat) (c : Cell), H0[q]? = some c → ∃ c', H[q]? = some c' ∧ c'.slots.size = c.slots.size) : ssum b H = ssum b H0 + ((H.toList.drop z).map (fun c => c.slots.size)).sum := by
  subst h0
  unfold ssum
  rw [show H.size - b = (H0.size - b) + (H.size - H0.size) by omega, List.range_add, List.map_append, List.sum_append]
  congr 1
  · congr 1
    apply List.map_congr_left
    intro k hk
    have hlt : b + k < H0.size := by have := List.mem_range.mp hk; omega
    obtain ⟨c', h1, h2⟩ := hc (b + k) H0[b + k] (Array.getElem?_eq_getElem hlt)
    rw [h1, Array.getElem?_eq_getElem hlt]
    simp [h2]
  · congr 1
    apply List.ext_getElem?
    intro k
    rw [List.map_map, List.getElem?_map, List.getElem?_map, List.getElem?_drop]
    by_cases hk : k < H.size - H0.size
    · have hlt : H0.size + k < H.size := by omega
      rw [List.getElem?_range hk]
      simp only [Option.map_some, Function.comp]
      rw [show b + (H0.size - b + k) = H0.size + k by omega, Array.getElem?_eq_getElem hlt]
      simp [hlt]
    · rw [List.getElem?_eq_none (by simpa using hk), List.getElem?_eq_none (by simp; omega)]
      rfl
section TIGHT
variable {p : Program} {l : Launch} {e : Env} {R : Room} {s : State} {m : MethodId} {args : Array Value} {below : List Frame} {meth : Method} {c : Code} {H : Heap} {locs : List Loc} {cells slots : Nat} {Q : State → Prop}
theorem W_tight {b : Nat} {g : JFrame} (hb : b ≤ s.heap.size) (k : W p l e R s m args below meth c H locs (H.size - s.heap.size) (ssum b H - ssum b s.heap) Q g) : W p l e R s m args below meth c H locs cells slots Q g := by
  intro T hT X
  refine k T hT { X with same := ?_ }
  obtain ⟨h1, h2, h3, h4, h5, h6⟩ := X.same
  have hsz : s.heap.size ≤ T.heap.size := h2
  refine ⟨h1, h2, ?_, h4, ?_, h6⟩
  · show T.heap.size ≤ s.heap.size + (H.size - s.heap.size)
    rw [← hT]; omega
  · have q := ssum_old (b := b) (z := s.heap.size) (H0 := s.heap) (H := T.heap) rfl hb hsz (fun q c hq => by
      obtain ⟨c', g1, -, g2, -⟩ := h6 q c hq
      exact ⟨c', g1, g2⟩)
    show ((T.heap.toList.drop s.heap.size).map (fun c => c.slots.size)).sum ≤ _
    rw [← hT]; omega
end TIGHT
