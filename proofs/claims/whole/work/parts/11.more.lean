def mc (h : MM) (s sp a dp n : Int) : MM := (fun b j => if b = a ∧ dp ≤ j ∧ j < dp + n then h.1 s (sp + (j - dp)) else h.1 b j, h.2)
def acP (h : MM) (t s sp a dp n : Int) : Prop := tg h s = t ∧ 100 ≤ s ∧ tg h a = t ∧ 100 ≤ a ∧ 0 ≤ sp ∧ 0 ≤ dp ∧ 0 ≤ n ∧ sp + n ≤ ln h s ∧ dp + n ≤ ln h a ∧ (t = 102 → ∀ i : Int, 0 ≤ i → i < n → -128 ≤ mv h s (sp + i) ∧ mv h s (sp + i) ≤ 127)
/-- System.arraycopy -/
noncomputable def ac (h : MM) (t s sp a dp n : Int) (k : MM → RR) : RR := @ite _ (acP h t s sp a dp n) (Classical.propDecidable _) (k (mc h s sp a dp n)) none
theorem ac_s {h : MM} {t s sp a dp n : Int} {k : MM → RR} {z : Int × MM} (q : ac h t s sp a dp n k = some z) : acP h t s sp a dp n ∧ k (mc h s sp a dp n) = some z := by
  unfold ac at q
  by_cases c : acP h t s sp a dp n
  · rw [if_pos c] at q; exact ⟨c, q⟩
  · rw [if_neg c] at q; cases q
theorem ac_e {h : MM} {t s sp a dp n : Int} {k : MM → RR} (c : acP h t s sp a dp n) : ac h t s sp a dp n k = k (mc h s sp a dp n) := by
  unfold ac; rw [if_pos c]
/-- an array's clone -/
def cl (h : MM) (s : Int) : MM := (fun b j => if b = h.2.2.1 then (if 0 ≤ j ∧ j < (h.2.1 s).2 then h.1 s j else 0) else h.1 b j, fun b => if b = h.2.2.1 then h.2.1 s else h.2.1 b, h.2.2.1 + 1, h.2.2.2 + (h.2.1 s).2)
def clP (h : MM) (t s : Int) : Prop := tg h s = t ∧ 100 ≤ s ∧ nx h + 1 ≤ NM ∧ sl h + ln h s ≤ SM ∧ (t = 102 → ∀ i : Int, 0 ≤ i → i < ln h s → -128 ≤ mv h s i ∧ mv h s i ≤ 127)
noncomputable def cln (h : MM) (t s : Int) (k : Int → MM → RR) : RR := @ite _ (clP h t s) (Classical.propDecidable _) (k (nx h) (cl h s)) none
theorem cln_s {h : MM} {t s : Int} {k : Int → MM → RR} {z : Int × MM} (q : cln h t s k = some z) : clP h t s ∧ k (nx h) (cl h s) = some z := by
  unfold cln at q
  by_cases c : clP h t s
  · rw [if_pos c] at q; exact ⟨c, q⟩
  · rw [if_neg c] at q; cases q
theorem cln_e {h : MM} {t s : Int} {k : Int → MM → RR} (c : clP h t s) : cln h t s k = k (nx h) (cl h s) := by
  unfold cln; rw [if_pos c]
/-- an own array's cell, as a whole -/
theorem Rl.own {E : EV} {h : MM} {H : Heap} (R : Rl E h H) {a : Int} {t : Nat} (q : tg h a = (t : Int)) (h1 : 100 ≤ t) (ha : 100 ≤ a) : H[ad E a]? = some (arrV (eA E t) (ln h a).toNat (fun j => cv E (ek t) (mv h a (j : Int)))) ∧ eS E t (eA E t) ∧ t ≤ 107 ∧ 0 ≤ ln h a ∧ ln h a ≤ 2147483647 ∧ a < nx h ∧ (∀ j : Nat, (j : Int) < ln h a → cK (ek t) (mv h a (j : Int))) := by
  obtain ⟨b1, b2, b3, cell, e1, e2, e3, e4, e5, e6, e7, e8, e9⟩ := R.arr q h1
  have ht : (tg h a).toNat = t := by omega
  rw [ht] at e2 e5 e9
  obtain ⟨e5, e5', e5m, e5h⟩ := e5 ha
  replace e6 := e6.2.2 ha
  refine ⟨?_, by rw [← e5]; exact e2, b1, e7, e8, b3, fun j hj => (e9 j hj).2⟩
  rw [e1]
  congr 1
  obtain ⟨cls, slots, mo, hsh, vm⟩ := cell
  simp only at e5 e5' e5m e5h e6 e9
  subst e5; subst e5'; subst e5m; subst e5h
  show ({ cls := eA E t, slots := slots, vm := .none } : Cell) = { cls := eA E t, slots := Array.ofFn (n := (ln h a).toNat) fun j => cv E (ek t) (mv h a ((j.val : Nat) : Int)), vm := .none }
  congr 1
  apply Array.ext
  · simp [e6]
  · intro j h2 h3
    have h4 := (e9 j (by omega)).1
    rw [Array.getElem?_eq_getElem h2] at h4
    simp only [Array.getElem_ofFn]
    exact Option.some.inj h4
section W1
variable {p : Program} {l : Launch} {e : Env} {R : Room} {s : State} {m : MethodId} {args : Array Value} {below : List Frame} {meth : Method} {c : Code} {H : Heap} {locs : List Loc} {cells slots : Nat} {Q : State → Prop} {cc : ByteArray} {pc : Nat} {ls : Array Slot}
theorem W_acopy (hexec : p.tables.exec = Jvm.exec) (hb : c.code = cc) (hml : c.maxLocals = ls.size) {own : String} {index : Nat} (hown : s.vm.findClass own = some m.cls) (hlink : (Cond.methodLink own index arraycopyName).before args s = true) (hnat : (Cond.native arraycopyName).before args s = true) (hstat : (Cond.static arraycopyName).before args s = true) (hini : (Cond.initialized "java/lang/System").before args s = true)
    {a a0 : Nat} {c0 c1 : ClassId} {n0 n1 k : Nat} {f g : Nat → Int} {E : EV} {ty : FieldType} (hc0 : H[a0]? = some (arrV c0 n0 (fun j => cv E k (f j)))) (hc1 : H[a]? = some (arrV c1 n1 (fun j => cv E k (g j)))) (hA0 : s.isArrayOf (arrV c0 n0 (fun j => cv E k (f j))) ty) (hA1 : s.isArrayOf (arrV c1 n1 (fun j => cv E k (g j))) ty) (hprim : refKind ty = false) (hk : k < 2)
    {sp dp n : Int32} (h1 : ¬ sp < 0) (h2 : ¬ dp < 0) (h3 : ¬ n < 0) (h4 : sp.toNatClampNeg + n.toNatClampNeg ≤ n0) (h5 : dp.toNatClampNeg + n.toNatClampNeg ≤ n1) (hfit : ∀ i, i < n.toNatClampNeg → fits ty (cv E k (f (sp.toNatClampNeg + i))) = true)
    (hframes : 1 ≤ R.frames) (hlocals : nativeFrameWords "java/lang/System" "arraycopy" 5 + 11 ≤ R.locals) (hdg : decode cc pc = .ok (.invokestatic index, 3))
    (kk : ∀ (H1 : Heap) (L : List Loc), H1[a]? = some (arrV c1 n1 (fun j => cv E k (va_cpy f g sp.toNatClampNeg dp.toNatClampNeg n.toNatClampNeg j))) → H1.size = H.size → (∀ q : Nat, q ≠ a → H1[q]? = H[q]?) → (∀ q ∈ L, q.base = a) → W p l e R s m args below meth c H1 (locs ++ L) cells slots Q (F0 m (pc + 3) ls [])) : W p l e R s m args below meth c H locs cells slots Q (F0 m pc ls [.int n, .int dp, .ref a, .int sp, .ref a0]) := by
  have nn : ∀ z : Int32, ¬ z < 0 → z.toInt = (z.toNatClampNeg : Int) := by
    intro z hz
    have hz0 : (0 : Int) ≤ z.toInt := by
      have := Int32.not_lt.mp hz
      simpa using Int32.le_iff_toInt_le.mp this
    show z.toInt = ((z.toInt.toNat : Nat) : Int)
    omega
  intro T hT X
  obtain ⟨-, k0, hk0, cm0, hkk0⟩ := hA0
  obtain ⟨-, k1, hk1, cm1, hkk1⟩ := hA1
  obtain ⟨vm', X', step⟩ := X.arraycopy hexec hown hlink hnat hstat hini (src := a0) (dst := a) (cs := arrV c0 n0 (fun j => cv E k (f j))) (cd := arrV c1 n1 (fun j => cv E k (g j))) (srcPos := sp) (destPos := dp) (n := n) (by rw [hT]; exact hc0) (by rw [hT]; exact hc1)
    (fun _ h => by cases h) (fun _ h => by cases h) (fun h => by cases h) (fun h => by cases h) hk0 hk1 hkk0 hkk1 (by simp [hprim]) h1 h2 h3
    (by rw [nn sp h1, nn n h3, arrV_size]; omega)
    (by rw [nn dp h2, nn n h3, arrV_size]; omega)
    (fun vm₁ _ i hi => by
      have e : (arrV c0 n0 (fun j => cv E k (f j))).slots.getD (sp.toNatClampNeg + i) .null = cv E k (f (sp.toNatClampNeg + i)) := by
        rw [Array.getD_eq_getD_getElem?, arrV_read _ _ (by omega)]
        rfl
      refine ⟨?_, ?_⟩
      · rw [e]
        exact hfit i hi
      · rw [e]
        match k, hk with
        | 0, _ => exact trivial
        | 1, _ => exact trivial)
    (g := F0 m pc ls [.int n, .int dp, .ref a, .int sp, .ref a0]) rfl (by rw [hml]) (rest := []) rfl (by rw [hb]; exact hdg) hframes (by show 2 * 0 + 0 + _ ≤ _; omega)
  have e1 : copied (arrV c0 n0 (fun j => cv E k (f j))) (arrV c1 n1 (fun j => cv E k (g j))) sp dp n = arrV c1 n1 (fun j => cv E k (va_cpy f g sp.toNatClampNeg dp.toNatClampNeg n.toNatClampNeg j)) := va_copied (fun z => cv E k z) c0 c1 f g h4
  rw [e1] at X' step
  have hl : a < H.size := (Array.getElem?_eq_some_iff.mp hc1).1
  obtain ⟨t, a1, b1⟩ := kk (H.setIfInBounds a (arrV c1 n1 (fun j => cv E k (va_cpy f g sp.toNatClampNeg dp.toNatClampNeg n.toNatClampNeg j)))) _ (by simp [Array.getElem?_setIfInBounds, hl]) (by simp) (fun q hq => by simp [Array.getElem?_setIfInBounds, Ne.symm hq]) (fun q hq => by
      obtain ⟨z, -, hz⟩ := List.mem_map.mp hq
      rw [← hz]) _ (by rw [← hT]; rfl) X'
  exact ⟨t, step t a1, b1⟩
theorem W_aclone (hexec : p.tables.exec = Jvm.exec) (hb : c.code = cc) (hml : c.maxLocals = ls.size) {own ad : String} {index : Nat} (hown : s.vm.findClass own = some m.cls)
    (hlink : (Cond.methodLink own index ⟨ad, "clone", "()Ljava/lang/Object;"⟩).before args s = true) (hsame : (Cond.sameMethod ad "java/lang/Object" "clone" "()Ljava/lang/Object;").before args s = true)
    (hnat : (Cond.native ⟨"java/lang/Object", "clone", "()Ljava/lang/Object;"⟩).before args s = true) (hinst : (Cond.instanceMethod ⟨"java/lang/Object", "clone", "()Ljava/lang/Object;"⟩).before args s = true)
    (hsel : (Cond.selects ad ⟨ad, "clone", "()Ljava/lang/Object;"⟩ ⟨"java/lang/Object", "clone", "()Ljava/lang/Object;"⟩).before args s = true) (hcl : va_Nw (.castable ad "java/lang/Cloneable") s)
    {a : Nat} {cA : ClassId} {N : Nat} {f : Nat → Value} {ty : FieldType} (hc : H[a]? = some (arrV cA N f)) (hA : ∀ (n : Nat) (z : Nat → Value), s.isArrayOf (arrV cA n z) ty)
    (hnm : s.vm.findClass ad = some cA) (hfit : ∀ (i : Nat) (v : Value), (arrV cA N f).slots[i]? = some v → fits ty v = true)
    (hframes : 1 ≤ R.frames) (hlocals : 14 ≤ R.locals) (hcells : cells + 1 ≤ R.cells) (hslots : slots + N ≤ R.slots) (hdg : decode cc pc = .ok (.invokevirtual index, 3))
    (kk : ∀ (H1 : Heap), H1[H.size]? = some (arrV cA N f) → H1.size = H.size + 1 → (∀ q : Nat, q < H.size → H1[q]? = H[q]?) → W p l e R s m args below meth c H1 locs (cells + 1) (slots + N) Q (F0 m (pc + 3) ls [.ref H.size])) : W p l e R s m args below meth c H locs cells slots Q (F0 m pc ls [.ref a]) := by
  obtain ⟨c0, t0', f1, f2, f3⟩ := Cond.castable_spec (va_Nw.use (A := args) rfl hcl)
  cases hnm.symm.trans f1
  intro T hT X
  have hcellT : T.heap[a]? = some (arrV cA N f) := by rw [hT]; exact hc
  obtain ⟨-, kA, hkA, comp, hkind⟩ := State.isArrayOf_alike X.warmed.alike (hA 0 (fun _ => .null))
  obtain ⟨-, kS, hkS, compS, hkindS⟩ := hA 0 (fun _ => .null)
  obtain ⟨vm', X', st⟩ := X.cloneArray hexec hown hlink hsame hnat hinst hsel (a := a) (cell := arrV cA N f) hcellT (fun k h => by cases h) (fun h => by cases h) hnm f2 f3
    (fun i v hv => by
      have hk' : T.vm.classes[cA]? = some kA := hkA
      simpa [State.fitsSlot, State.slotType?, hk', hkind, arrV] using hfit i v hv)
    (g := F0 m pc ls [.ref a]) rfl (by rw [hml]) rfl (by rw [hb]; exact hdg) hframes (by show 2 * 0 + 0 + 14 ≤ _; omega) hcells (by rw [arrV_size]; exact hslots) (hloader := Vm.clonesLoader_of_array hkS hkindS)
  have hcellE : ({ cls := (arrV cA N f).cls, slots := (arrV cA N f).slots } : Cell) = arrV cA N f := rfl
  rw [hcellE, arrV_size] at X'
  obtain ⟨t, b1, b2⟩ := kk (H.push (arrV cA N f)) (by rw [Array.getElem?_push_size]) (by rw [Array.size_push]) (fun q hq => by rw [Array.getElem?_push, if_neg (Nat.ne_of_lt hq)])
    ((T.setVm vm').pushCell (arrV cA N f)) (by rw [← hT]; rfl) X'
  refine ⟨t, st t ?_, b2⟩
  rw [hcellE, hT]
  exact b1
end W1
