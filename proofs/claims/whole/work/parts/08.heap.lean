theorem i32_nat {i : Int} (h0 : 0 ≤ i) (h1 : i ≤ 2147483647) : (i32 i).toNatClampNeg = i.toNat := by
  show (i32 i).toInt.toNat = i.toNat
  rw [i32_i ⟨by omega, h1⟩]
theorem i32_in {i : Int} {n : Nat} (h0 : 0 ≤ i) (h1 : i ≤ 2147483647) (h2 : i < (n : Int)) : ¬ (i32 i < 0 ∨ n ≤ (i32 i).toNatClampNeg) := by
  rw [i32_nat h0 h1, i32_lt0 ⟨by omega, h1⟩]; omega
theorem cv_ref {E : EV} {a : Int} (h : a ≠ 0) : cv E 2 a = .ref (ad E a) := by
  show (if a = 0 then Value.null else .ref (ad E a)) = _
  rw [if_neg h]
/-- an element of an array is read -/
theorem Rl.ald {E : EV} {h : MM} {H : Heap} (R : Rl E h H) {a i : Int} {t : Nat} (q : tg h a = (t : Int) ∧ 0 ≤ i ∧ i < ln h a) (h1 : 100 ≤ t) : ∃ cell : Cell, H[ad E a]? = some cell ∧ eS E t cell.cls ∧ cell.vm ≠ .unknown ∧ (∀ k, cell.vm ≠ .statics k) ∧ (100 ≤ a → cell.cls = eA E t ∧ cell.vm = .none ∧ cell.monitor = {} ∧ cell.hash = none) ∧ a ≠ 0 ∧ i ≤ 2147483647 ∧ ¬ (i32 i < 0 ∨ cell.slots.size ≤ (i32 i).toNatClampNeg) ∧ cell.slots[(i32 i).toNatClampNeg]? = some (cv E (ek t) (mv h a i)) ∧ cK (ek t) (mv h a i) ∧ t ≤ 107 := by
  obtain ⟨q1, q2, q3⟩ := q
  obtain ⟨b1, b2, b3, cell, e1, e2, e3, e4, e5, e6, e7, e8, e9⟩ := R.arr q1 h1
  have ht : (tg h a).toNat = t := by omega
  rw [ht] at e2 e5 e9
  have hi : i ≤ 2147483647 := by omega
  have e6' := e6.1
  obtain ⟨w1, w2⟩ := e9 i.toNat (by omega)
  rw [show ((i.toNat : Nat) : Int) = i by omega] at w1 w2
  refine ⟨cell, e1, e2, e3, e4, e5, by omega, hi, i32_in q2 hi (by omega), by rw [i32_nat q2 hi]; exact w1, w2, b1⟩
/-- an element of an own array is written -/
theorem Rl.ast {E : EV} {h : MM} {H H' : Heap} (R : Rl E h H) {a i x : Int} {t : Nat} {cell : Cell} (q : tg h a = (t : Int) ∧ 100 ≤ a ∧ 0 ≤ i ∧ i < ln h a) (h1 : 100 ≤ t) (hc : H[ad E a]? = some cell) (cx : cK (ek t) x) (e1 : H'[ad E a]? = some (cell.setSlot (i32 i).toNatClampNeg (cv E (ek t) x))) (z1 : H'.size = H.size) (o1 : ∀ p : Nat, p ≠ ad E a → H'[p]? = H[p]?) : Rl E (ms h a i x) H' := by
  obtain ⟨q1, q2, q3, q4⟩ := q
  obtain ⟨b1, b2, b3, cell', e1', e2, e3, e4, e5, e6, e7, e8, e9⟩ := R.arr q1 h1
  cases hc.symm.trans e1'
  have ht : (tg h a).toNat = t := by omega
  rw [i32_nat q3 (by omega)] at e1
  refine R.put q2 z1 o1 (by rw [e1, hc]; simp [k2_slotsz]) (Or.inr ⟨by rw [tg_ms]; omega, b2, b3, Or.inr (Or.inr ⟨by rw [tg_ms]; omega, by rw [tg_ms]; omega, _, e1, ?_⟩)⟩)
  simp only [tg_ms, ln_ms]
  refine ⟨e2, e3, e4, e5, by rw [k2_slotsz]; exact e6, e7, e8, fun j hj => ?_⟩
  obtain ⟨w1, w2⟩ := e9 j hj
  rw [ht] at w1 w2 ⊢
  by_cases hji : j = i.toNat
  · subst hji
    rw [mv_ms, if_pos ⟨rfl, by omega⟩, Cell.slots_setSlot_self _ (k2_hasslot w1)]
    exact ⟨rfl, cx⟩
  · rw [mv_ms, if_neg (by omega)]
    refine ⟨?_, w2⟩
    rw [← w1]
    simp [Cell.setSlot, Array.getElem?_setIfInBounds, Ne.symm hji]
section HEAP
variable {g : GT} {cc : ByteArray} {nL : Nat} {y : MethodName} {FR LO : Nat} {pc : Nat} {lv st : List (Nat × Int)} {h : MM}
theorem Cx.isA (C : Cx g cc nL y FR LO) {t : Nat} {cell : Cell} (h1 : 100 ≤ t) (h2 : t ≤ 107) (hS : eS (gE g) t cell.cls) (hv : ∀ k, cell.vm ≠ .statics k) : (gs g).isArrayOf cell (aty t) := C.hK.2.1 t cell h1 h2 hS hv
theorem r_iald (C : Cx g cc nL y FR LO) {a i t : Int} (d : decode cc pc = .ok (.iaload, 1)) (q : tg h a = t ∧ 0 ≤ i ∧ i < ln h a) (ht : t = ((100 : Nat) : Int)) (k : in32 (mv h a i) → G g (pc + 1) lv ((0, mv h a i) :: st) h) : G g pc lv ((0, i) :: (2, a) :: st) h := by
  intro ls H locs l R S
  subst ht
  obtain ⟨cell, e1, e2, e3, e4, e5, e6, e7, e8, e9, e10, e11⟩ := R.1.ald q (by decide)
  simp only [List.map_cons, cvp, cv_ref e6]
  exact W.iald (v := .int (i32 (mv h a i))) C.hx C.hb e1 (C.isA (by decide) e11 e2 e4) e3 e8 e9 rfl rfl d (k e10 ls H locs l R S)
theorem r_lald (C : Cx g cc nL y FR LO) {a i t : Int} (d : decode cc pc = .ok (.laload, 1)) (q : tg h a = t ∧ 0 ≤ i ∧ i < ln h a) (ht : t = ((101 : Nat) : Int)) (k : in64 (mv h a i) → G g (pc + 1) lv ((1, mv h a i) :: st) h) : G g pc lv ((0, i) :: (2, a) :: st) h := by
  intro ls H locs l R S
  subst ht
  obtain ⟨cell, e1, e2, e3, e4, e5, e6, e7, e8, e9, e10, e11⟩ := R.1.ald q (by decide)
  simp only [List.map_cons, cvp, cv_ref e6]
  exact W.lald (v := .long (i64 (mv h a i))) C.hx C.hb e1 (C.isA (by decide) e11 e2 e4) e3 e8 e9 rfl rfl d (k e10 ls H locs l R S)
theorem r_bald (C : Cx g cc nL y FR LO) {a i t : Int} (d : decode cc pc = .ok (.baload, 1)) (q : tg h a = t ∧ 0 ≤ i ∧ i < ln h a) (ht : t = ((102 : Nat) : Int)) (k : in32 (mv h a i) → G g (pc + 1) lv ((0, mv h a i) :: st) h) : G g pc lv ((0, i) :: (2, a) :: st) h := by
  intro ls H locs l R S
  subst ht
  obtain ⟨cell, e1, e2, e3, e4, e5, e6, e7, e8, e9, e10, e11⟩ := R.1.ald q (by decide)
  simp only [List.map_cons, cvp, cv_ref e6]
  exact W.bald (v := .int (i32 (mv h a i))) C.hx C.hb e1 (C.isA (by decide) e11 e2 e4) e3 e8 e9 rfl rfl d (k e10 ls H locs l R S)
theorem r_zald (C : Cx g cc nL y FR LO) {a i t : Int} (d : decode cc pc = .ok (.baload, 1)) (q : tg h a = t ∧ 0 ≤ i ∧ i < ln h a) (ht : t = ((103 : Nat) : Int)) (k : in32 (mv h a i) → G g (pc + 1) lv ((0, mv h a i) :: st) h) : G g pc lv ((0, i) :: (2, a) :: st) h := by
  intro ls H locs l R S
  subst ht
  obtain ⟨cell, e1, e2, e3, e4, e5, e6, e7, e8, e9, e10, e11⟩ := R.1.ald q (by decide)
  simp only [List.map_cons, cvp, cv_ref e6]
  exact W.zald (v := .int (i32 (mv h a i))) C.hx C.hb e1 (C.isA (by decide) e11 e2 e4) e3 e8 e9 rfl rfl d (k e10 ls H locs l R S)
theorem r_aald (C : Cx g cc nL y FR LO) {a i t : Int} {tn : Nat} (d : decode cc pc = .ok (.aaload, 1)) (q : tg h a = t ∧ 0 ≤ i ∧ i < ln h a) (ht : t = (tn : Int)) (h4 : 104 ≤ tn) (k : G g (pc + 1) lv ((2, mv h a i) :: st) h) : G g pc lv ((0, i) :: (2, a) :: st) h := by
  intro ls H locs l R S
  subst ht
  obtain ⟨cell, e1, e2, e3, e4, e5, e6, e7, e8, e9, e10, e11⟩ := R.1.ald q (by omega)
  simp only [List.map_cons, cvp, cv_ref e6]
  have hek : ek tn = 2 := by unfold ek; rw [if_neg (by omega), if_neg (by omega)]
  rw [hek] at e9
  have hty : (aty tn).isReference = true := by
    have : tn = 104 ∨ tn = 105 ∨ tn = 106 ∨ tn = 107 := by omega
    rcases this with rfl | rfl | rfl | rfl <;> rfl
  exact W.aald (v := cv (gE g) 2 (mv h a i)) C.hx C.hb e1 (C.isA (by omega) e11 e2 e4) hty e3 e8 e9 rfl rfl d (k ls H locs l R S)
theorem r_iast (C : Cx g cc nL y FR LO) {a i x t : Int} (d : decode cc pc = .ok (.iastore, 1)) (q : tg h a = t ∧ 100 ≤ a ∧ 0 ≤ i ∧ i < ln h a) (ht : t = ((100 : Nat) : Int)) (cx : in32 x) (k : G g (pc + 1) lv st (ms h a i x)) : G g pc lv ((0, x) :: (0, i) :: (2, a) :: st) h := by
  intro ls H locs l R S
  subst ht
  obtain ⟨cell, e1, e2, e3, e4, e5, e6, e7, e8, e9, e10, e11⟩ := R.1.ald ⟨q.1, q.2.2⟩ (by decide)
  simp only [List.map_cons, cvp, cv_ref e6]
  exact W.iast C.hx C.hb e1 (C.isA (by decide) e11 e2 e4) e3 e8 rfl rfl d (fun H' w1 w2 w3 => GW.tight C (k ls H' _ l ⟨R.1.ast q (by decide) e1 cx w1 w2 w3, R.2⟩ (S.put w2 w3 (ad_ge q.2.1))))
theorem r_last (C : Cx g cc nL y FR LO) {a i x t : Int} (d : decode cc pc = .ok (.lastore, 1)) (q : tg h a = t ∧ 100 ≤ a ∧ 0 ≤ i ∧ i < ln h a) (ht : t = ((101 : Nat) : Int)) (cx : in64 x) (k : G g (pc + 1) lv st (ms h a i x)) : G g pc lv ((1, x) :: (0, i) :: (2, a) :: st) h := by
  intro ls H locs l R S
  subst ht
  obtain ⟨cell, e1, e2, e3, e4, e5, e6, e7, e8, e9, e10, e11⟩ := R.1.ald ⟨q.1, q.2.2⟩ (by decide)
  simp only [List.map_cons, cvp, cv_ref e6]
  exact W.last C.hx C.hb e1 (C.isA (by decide) e11 e2 e4) e3 e8 rfl rfl d (fun H' w1 w2 w3 => GW.tight C (k ls H' _ l ⟨R.1.ast q (by decide) e1 cx w1 w2 w3, R.2⟩ (S.put w2 w3 (ad_ge q.2.1))))
theorem r_bast (C : Cx g cc nL y FR LO) {a i x t : Int} (d : decode cc pc = .ok (.bastore, 1)) (q : tg h a = t ∧ 100 ≤ a ∧ 0 ≤ i ∧ i < ln h a) (ht : t = ((102 : Nat) : Int)) (k : G g (pc + 1) lv st (ms h a i (b8 x))) : G g pc lv ((0, x) :: (0, i) :: (2, a) :: st) h := by
  intro ls H locs l R S
  subst ht
  obtain ⟨cell, e1, e2, e3, e4, e5, e6, e7, e8, e9, e10, e11⟩ := R.1.ald ⟨q.1, q.2.2⟩ (by decide)
  simp only [List.map_cons, cvp, cv_ref e6]
  exact W.bast C.hx C.hb e1 (C.isA (by decide) e11 e2 e4) e3 e8 rfl rfl d (fun H' w1 w2 w3 => GW.tight C (k ls H' _ l ⟨R.1.ast (x := b8 x) q (by decide) e1 (in32_t _) (by rw [w1]; show some (cell.setSlot _ (.int _)) = some (cell.setSlot _ (.int (i32 (b8 x)))); rw [b8, i32_t]) w2 w3, R.2⟩ (S.put w2 w3 (ad_ge q.2.1))))
theorem r_zast (C : Cx g cc nL y FR LO) {a i x t : Int} (d : decode cc pc = .ok (.bastore, 1)) (q : tg h a = t ∧ 100 ≤ a ∧ 0 ≤ i ∧ i < ln h a) (ht : t = ((103 : Nat) : Int)) (hx : x = 0 ∨ x = 1) (k : G g (pc + 1) lv st (ms h a i x)) : G g pc lv ((0, x) :: (0, i) :: (2, a) :: st) h := by
  intro ls H locs l R S
  subst ht
  obtain ⟨cell, e1, e2, e3, e4, e5, e6, e7, e8, e9, e10, e11⟩ := R.1.ald ⟨q.1, q.2.2⟩ (by decide)
  simp only [List.map_cons, cvp, cv_ref e6]
  refine W.zast C.hx C.hb e1 (C.isA (by decide) e11 e2 e4) e3 e8 rfl rfl d (fun H' w1 w2 w3 => GW.tight C (k ls H' _ l ⟨R.1.ast q (by decide) e1 (by rcases hx with rfl | rfl <;> exact in32_of rfl) (by rw [w1]; rcases hx with rfl | rfl <;> rfl) w2 w3, R.2⟩ (S.put w2 w3 (ad_ge q.2.1))))
theorem r_alen (C : Cx g cc nL y FR LO) {a t : Int} {tn : Nat} (d : decode cc pc = .ok (.arraylength, 1)) (q : tg h a = t) (ht : t = (tn : Int)) (h1 : 100 ≤ tn) (k : in32 (ln h a) → 0 ≤ ln h a → G g (pc + 1) lv ((0, ln h a) :: st) h) : G g pc lv ((2, a) :: st) h := by
  intro ls H locs l R S
  subst ht
  obtain ⟨b1, b2, b3, cell, e1, e2, e3, e4, e5, e6, e7, e8, e9⟩ := R.1.arr q h1
  have hn : (tg h a).toNat = tn := by omega
  rw [hn] at e2
  simp only [List.map_cons, cvp, cv_ref (show a ≠ 0 by omega)]
  have hs : cell.slots.size.toInt32 = i32 (ln h a) := e6.2.1
  exact W.alen C.hx C.hb e1 (C.isA h1 b1 e2 e4) hs rfl rfl d (k ⟨by omega, by omega⟩ e7 ls H locs l R S)
end HEAP
