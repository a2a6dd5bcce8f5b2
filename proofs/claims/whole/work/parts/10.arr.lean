def atyp : Nat → ArrayType
  | 101 => .long
  | 102 => .byte
  | 103 => .boolean
  | _ => .int
/-- an array is made -/
theorem Rl.anew {E : EV} {h : MM} {H H' : Heap} (R : Rl E h H) {t : Nat} {n : Int} {cell : Cell} (q : 0 ≤ n ∧ nx h + 1 ≤ NM ∧ sl h + n ≤ SM) (ht : 100 ≤ t) (ht' : t ≤ 107) (hn : n ≤ 2147483647) (hS : eS E t cell.cls) (hA : cell.cls = eA E t) (hv : cell.vm = .none) (hm : cell.monitor = {}) (hh : cell.hash = none) (hs : cell.slots = Array.replicate n.toNat (cv E (ek t) 0)) (w1 : H'[H.size]? = some cell) (w2 : H'.size = H.size + 1) (w3 : ∀ p : Nat, p < H.size → H'[p]? = H[p]?) : Rl E (mn h (t : Int) n) H' := by
  have had := ad_new (E := E) R.2.1 R.2.2.1
  refine R.push q.2.1 q.2.2 q.1 w2 w3 w1 (by rw [hs]; simp) (Or.inr ⟨by rw [tg_mn, if_pos rfl]; omega, by have := R.2.2.1; omega, by rw [nx_mn]; omega, Or.inr (Or.inr ⟨by rw [tg_mn, if_pos rfl]; omega, by rw [tg_mn, if_pos rfl]; omega, cell, by rw [had]; exact w1, ?_⟩)⟩)
  rw [tg_mn, if_pos rfl, Int.toNat_natCast, ln_mn, if_pos rfl]
  refine ⟨hS, (by rw [hv]; intro z; cases z), (fun k => by rw [hv]; intro z; cases z), fun _ => ⟨hA, hv, hm, hh⟩, szOK_e (by rw [hs]; simp) q.1, q.1, hn, fun j hj => ?_⟩
  rw [mv_mn, if_pos rfl]
  refine ⟨by rw [hs, Array.getElem?_replicate, if_pos (by omega)], ?_⟩
  generalize ek t = kk
  match kk with
  | 0 => exact in32_of rfl
  | 1 => exact in64_of rfl
  | _ + 2 => trivial
section ARR
variable {g : GT} {cc : ByteArray} {nL : Nat} {y : MethodName} {FR LO : Nat} {pc : Nat} {lv st : List (Nat × Int)} {h : MM}
theorem SM_le {h : MM} {H : Heap} {n : Int} (R : RG g h H) (q : sl h + n ≤ SM) : n ≤ 7302250 := by
  have := R.1.2.2.2.2.2.1
  unfold SM at q; omega
theorem r_na (C : Cx g cc nL y FR LO) {tn : Nat} {t n : Int} (d : decode cc pc = .ok (.newarray (atyp tn), 2)) (q : 0 ≤ n ∧ nx h + 1 ≤ NM ∧ sl h + n ≤ SM) (et : t = (tn : Int)) (ht : 100 ≤ tn) (ht' : tn ≤ 103) (hw : Cond.arrayClass (newarray.typeOf (atyp tn)) ∈ wG) (k : G g (pc + 2) lv ((2, nx h) :: st) (mn h t n)) : G g pc lv ((0, n) :: st) h := by
  intro ls H locs l R S
  subst et
  have hn := SM_le R q.2.2
  obtain ⟨r1, r2⟩ := C.cells R S q.1 q.2.1 q.2.2
  have had := ad_new (E := gE g) R.1.2.1 R.1.2.2.1
  have hnx : nx h ≠ 0 := by have := R.1.2.2.1; omega
  have hty : newarray.typeOf (atyp tn) = aty tn ∧ componentBytes (aty tn) ≤ 8 ∧ defaultValue (aty tn) = cv (gE g) (ek tn) 0 := by
    have : tn = 100 ∨ tn = 101 ∨ tn = 102 ∨ tn = 103 := by omega
    rcases this with rfl | rfl | rfl | rfl <;> exact ⟨rfl, by decide, rfl⟩
  have hc : (i32 n).toNatClampNeg = n.toNat := i32_nat q.1 (by omega)
  refine W.newa C.hx C.hb (C.hts _ hw) rfl d rfl (by rw [i32_lt0 ⟨by omega, by omega⟩]; omega) ?_ r1 (by rw [hc]; exact r2) (fun cA kA comp w1 w2 w3 => GW.tight C ?_)
  · rw [hc, hty.1]
    have h1 := Nat.mul_le_mul (show n.toNat ≤ 7302250 by omega) hty.2.1
    exact Nat.le_trans h1 (Nat.le_of_ble_eq_true rfl)
  · obtain ⟨a1, a2, kA', a3, -⟩ := C.hK.2.2.1 tn ht (by omega)
    rw [hty.1, a2] at w1
    cases w1
    have := k ls _ locs l ⟨R.1.anew (H' := H.push { cls := eA (gE g) tn, slots := Array.replicate (i32 n).toNatClampNeg (defaultValue (newarray.typeOf (atyp tn))), vm := .none }) q ht (by omega) (by omega) (cell := { cls := eA (gE g) tn, slots := Array.replicate (i32 n).toNatClampNeg (defaultValue (newarray.typeOf (atyp tn))), vm := .none }) a1 rfl rfl rfl rfl (by show Array.replicate _ _ = _; rw [hc, hty.1, hty.2.2]) (by simp) (by simp) (fun p hp => by rw [Array.getElem?_push, if_neg (by omega)]), by rw [sl_mn]; have := R.2; omega⟩ (S.grow (by simp) (fun p hp => by rw [Array.getElem?_push, if_neg (by omega)]))
    simp only [List.map_cons, cvp, cv_ref hnx, had] at this
    exact this
theorem r_ana (C : Cx g cc nL y FR LO) {tn ix : Nat} {t n : Int} {Cn : String} (d : decode cc pc = .ok (.anewarray ix, 3)) (q : 0 ≤ n ∧ nx h + 1 ≤ NM ∧ sl h + n ≤ SM) (et : t = (tn : Int)) (ht : 104 ≤ tn) (ht' : tn ≤ 106) (hC : aty tn = .object Cn) (hw : Cond.classLink y.cls ix Cn ∈ wG) (k : G g (pc + 3) lv ((2, nx h) :: st) (mn h t n)) : G g pc lv ((0, n) :: st) h := by
  intro ls H locs l R S
  subst et
  have hn := SM_le R q.2.2
  obtain ⟨r1, r2⟩ := C.cells R S q.1 q.2.1 q.2.2
  have had := ad_new (E := gE g) R.1.2.1 R.1.2.2.1
  have hnx : nx h ≠ 0 := by have := R.1.2.2.1; omega
  have hek : ek tn = 2 := by unfold ek; rw [if_neg (by omega), if_neg (by omega)]
  have hAO : (Cond.arrayOver (.object Cn)).before (ga g) (gs g) = true := by
    obtain ⟨-, -, -, -, -, -, n7, n8, n9, -⟩ := C.hK.2.2.2.2
    have : tn = 104 ∨ tn = 105 ∨ tn = 106 := by omega
    rcases this with rfl | rfl | rfl <;> cases hC
    · exact n7
    · exact n8
    · exact n9
  have hc : (i32 n).toNatClampNeg = n.toNat := i32_nat q.1 (by omega)
  refine W.anew C.hx C.hb C.hown (C.hts _ hw) hAO rfl d rfl (by rw [i32_lt0 ⟨by omega, by omega⟩]; omega) (by rw [hc]; omega) r1 (by rw [hc]; exact r2) (fun cA kA comp w1 w2 w3 w4 => GW.tight C ?_)
  obtain ⟨a1, a2, kA', a3, -⟩ := C.hK.2.2.1 tn (by omega) (by omega)
  rw [← hC, a2] at w1
  cases w1
  have := k ls _ locs l ⟨R.1.anew (H' := H.push { cls := eA (gE g) tn, slots := Array.replicate (i32 n).toNatClampNeg .null, vm := .none }) q (by omega) (by omega) (by omega) (cell := { cls := eA (gE g) tn, slots := Array.replicate (i32 n).toNatClampNeg .null, vm := .none }) a1 rfl rfl rfl rfl (by show Array.replicate _ _ = _; rw [hc, hek]; rfl) (by simp) (by simp) (fun p hp => by rw [Array.getElem?_push, if_neg (by omega)]), by rw [sl_mn]; have := R.2; omega⟩ (S.grow (by simp) (fun p hp => by rw [Array.getElem?_push, if_neg (by omega)]))
  simp only [List.map_cons, cvp, cv_ref hnx, had] at this
  exact this
theorem r_anaI (C : Cx g cc nL y FR LO) {ix : Nat} {t n : Int} (d : decode cc pc = .ok (.anewarray ix, 3)) (q : 0 ≤ n ∧ nx h + 1 ≤ NM ∧ sl h + n ≤ SM) (et : t = ((107 : Nat) : Int)) (hw : Cond.classLink y.cls ix "[I" ∈ wG) (k : G g (pc + 3) lv ((2, nx h) :: st) (mn h t n)) : G g pc lv ((0, n) :: st) h := by
  intro ls H locs l R S
  subst et
  have hn := SM_le R q.2.2
  obtain ⟨r1, r2⟩ := C.cells R S q.1 q.2.1 q.2.2
  have had := ad_new (E := gE g) R.1.2.1 R.1.2.2.1
  have hnx : nx h ≠ 0 := by have := R.1.2.2.1; omega
  have hc : (i32 n).toNatClampNeg = n.toNat := i32_nat q.1 (by omega)
  refine W.anewA (t := .int) C.hx C.hb C.hown (C.hts _ hw) (show (Cond.arrayOver (.array .int)).before (ga g) (gs g) = true from C.hK.2.2.2.2.2.2.2.2.2.2.2.2.2) rfl d rfl (by rw [i32_lt0 ⟨by omega, by omega⟩]; omega) (by rw [hc]; omega) r1 (by rw [hc]; exact r2) (fun cA kA comp w1 w2 w3 w4 => GW.tight C ?_)
  obtain ⟨a1, a2, kA', a3, -⟩ := C.hK.2.2.1 107 (by omega) (by omega)
  rw [show FieldType.array .int = aty 107 from rfl, a2] at w1
  cases w1
  have := k ls _ locs l ⟨R.1.anew (t := 107) (H' := H.push { cls := eA (gE g) 107, slots := Array.replicate (i32 n).toNatClampNeg .null, vm := .none }) q (by omega) (by omega) (by omega) (cell := { cls := eA (gE g) 107, slots := Array.replicate (i32 n).toNatClampNeg .null, vm := .none }) a1 rfl rfl rfl rfl (by show Array.replicate _ _ = _; rw [hc]; rfl) (by simp) (by simp) (fun p hp => by rw [Array.getElem?_push, if_neg (by omega)]), by rw [sl_mn]; have := R.2; omega⟩ (S.grow (by simp) (fun p hp => by rw [Array.getElem?_push, if_neg (by omega)]))
  simp only [List.map_cons, cvp, cv_ref hnx, had] at this
  exact this
/-- a reference is put into an array of objects of one class -/
theorem r_aast (C : Cx g cc nL y FR LO) {a i x t tx : Int} {tn tc : Nat} (d : decode cc pc = .ok (.aastore, 1)) (q : tg h a = t ∧ 100 ≤ a ∧ 0 ≤ i ∧ i < ln h a) (et : t = (tn : Int)) (ht : 104 ≤ tn) (ht' : tn ≤ 106) (qx : tg h x = tx) (ex : tx = (tc : Int)) (hc : ∃ (T : u_T) (N : Nat), vwCl[tc]? = some (cnm tn, T, N)) (h13 : tc < 13) (k : G g (pc + 1) lv st (ms h a i x)) : G g pc lv ((2, x) :: (0, i) :: (2, a) :: st) h := by
  intro ls H locs l R S
  subst et; subst ex
  obtain ⟨cell, e1, e2, e3, e4, e5, e6, e7, e8, e9, e10, e11⟩ := R.1.ald ⟨q.1, q.2.2⟩ (by omega)
  obtain ⟨b1, b2, ⟨cx, c1, c2, c3, c4⟩, b3⟩ := R.1.obj qx h13
  have hek : ek tn = 2 := by unfold ek; rw [if_neg (by omega), if_neg (by omega)]
  have htx : (tg h x).toNat = tc := by omega
  rw [htx] at c2
  obtain ⟨T, N, hcl⟩ := hc
  obtain ⟨hS, hfc, kC, hkC, hkind⟩ := C.hK.1.1 tc _ hcl
  obtain ⟨a1, a2, kA, a3, a4⟩ := C.hK.2.2.1 tn (by omega) (by omega)
  obtain ⟨comp, kc, a5, a6, a7⟩ := a4 ht
  cases hfc.symm.trans a6
  have href : (aty tn).isReference = true := by
    have : tn = 104 ∨ tn = 105 ∨ tn = 106 := by omega
    rcases this with rfl | rfl | rfl <;> rfl
  simp only [List.map_cons, cvp, cv_ref e6, cv_ref (show x ≠ 0 by omega)]
  refine W.aast C.hx C.hb e1 e4 e3 (by rw [(e5 q.2.1).1]; exact a3) a5 href a7 ⟨fun z => e8 (Or.inl z), Nat.not_le.mp fun z => e8 (Or.inr z)⟩ c1 (fun k => by rw [c3]; exact fun z => by cases z) (by rw [c2]; exact hkC) (by rw [c2]; exact va_asg _ _) rfl rfl d (fun H' w1 w2 w3 => GW.tight C (k ls H' _ l ⟨R.1.ast (x := x) q (by omega) e1 (by rw [hek]; trivial) (by rw [w1, hek, cv_ref (show x ≠ 0 by omega)]) w2 w3, R.2⟩ (S.put w2 w3 (ad_ge q.2.1))))
theorem r_aastI (C : Cx g cc nL y FR LO) {a i x t tx : Int} (d : decode cc pc = .ok (.aastore, 1)) (q : tg h a = t ∧ 100 ≤ a ∧ 0 ≤ i ∧ i < ln h a) (et : t = ((107 : Nat) : Int)) (qx : tg h x = tx ∧ 100 ≤ x) (ex : tx = ((100 : Nat) : Int)) (k : G g (pc + 1) lv st (ms h a i x)) : G g pc lv ((2, x) :: (0, i) :: (2, a) :: st) h := by
  intro ls H locs l R S
  subst et; subst ex
  obtain ⟨cell, e1, e2, e3, e4, e5, e6, e7, e8, e9, e10, e11⟩ := R.1.ald ⟨q.1, q.2.2⟩ (by decide)
  obtain ⟨b1, b2, b3, cx, c1, c2, c3, c4, c5, c6, c7, c8, c9⟩ := R.1.arr qx.1 (by decide)
  have htx : (tg h x).toNat = 100 := by omega
  rw [htx] at c5
  obtain ⟨a1, a2, kA, a3, a4⟩ := C.hK.2.2.1 107 (by omega) (by omega)
  obtain ⟨comp, kc, a5, a6, a7⟩ := a4 (by decide)
  obtain ⟨d1, d2, kI, d3, -⟩ := C.hK.2.2.1 100 (by omega) (by omega)
  have hcomp : eA (gE g) 100 = comp := Option.some.inj (d2.symm.trans a6)
  simp only [List.map_cons, cvp, cv_ref e6, cv_ref (show x ≠ 0 by omega)]
  refine W.aast C.hx C.hb e1 e4 e3 (by rw [(e5 q.2.1).1]; exact a3) a5 rfl a7 ⟨fun z => e8 (Or.inl z), Nat.not_le.mp fun z => e8 (Or.inr z)⟩ c1 c4 (by rw [(c5 qx.2).1]; exact d3) (by rw [(c5 qx.2).1, hcomp]; exact va_asg _ _) rfl rfl d (fun H' w1 w2 w3 => GW.tight C (k ls H' _ l ⟨R.1.ast (t := 107) (x := x) q (by decide) e1 trivial (by rw [w1]; show _ = some (cell.setSlot _ (cv (gE g) 2 x)); rw [cv_ref (show x ≠ 0 by omega)]) w2 w3, R.2⟩ (S.put w2 w3 (ad_ge q.2.1))))
theorem r_aastN (C : Cx g cc nL y FR LO) {a i t : Int} {tn : Nat} (d : decode cc pc = .ok (.aastore, 1)) (q : tg h a = t ∧ 100 ≤ a ∧ 0 ≤ i ∧ i < ln h a) (et : t = (tn : Int)) (ht : 104 ≤ tn) (ht' : tn ≤ 106) (k : G g (pc + 1) lv st (ms h a i 0)) : G g pc lv ((2, 0) :: (0, i) :: (2, a) :: st) h := by
  intro ls H locs l R S
  subst et
  obtain ⟨cell, e1, e2, e3, e4, e5, e6, e7, e8, e9, e10, e11⟩ := R.1.ald ⟨q.1, q.2.2⟩ (by omega)
  have hek : ek tn = 2 := by unfold ek; rw [if_neg (by omega), if_neg (by omega)]
  obtain ⟨Cn, hCn⟩ : ∃ Cn, aty tn = .object Cn := by
    have : tn = 104 ∨ tn = 105 ∨ tn = 106 := by omega
    rcases this with rfl | rfl | rfl <;> exact ⟨_, rfl⟩
  simp only [List.map_cons, cvp, cv_ref e6]
  exact va_WaastN C.hx C.hb e1 (by rw [← hCn]; exact C.isA (by omega) e11 e2 e4) e3 e8 rfl rfl d (fun H' w1 w2 w3 => GW.tight C (k ls H' _ l ⟨R.1.ast (x := 0) q (by omega) e1 (by rw [hek]; trivial) (by rw [w1, hek]; rfl) w2 w3, R.2⟩ (S.put w2 w3 (ad_ge q.2.1))))
end ARR
