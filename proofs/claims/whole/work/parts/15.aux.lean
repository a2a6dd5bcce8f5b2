def lb (e : Int) (k : Int → RR) : RR := k e
theorem lb_s {e : Int} {k : Int → RR} {z : Int × MM} (q : lb e k = some z) : ∃ x : Int, x = e ∧ k x = some z := ⟨e, rfl, q⟩
def isb (x : Int) : Bool := decide (x = 0) || decide (x = 1)
theorem isb_s {x : Int} (h : isb x = true) : x = 0 ∨ x = 1 := by simpa [isb] using h
def maskL : List Bool → List (Nat × Int) → List (Nat × Int)
  | true :: bs, q :: l => q :: maskL bs l
  | false :: bs, _ :: l => (3, 0) :: maskL bs l
  | _, _ => []
theorem maskL_s : ∀ (bs : List Bool) (l : List (Nat × Int)), bs.length = l.length → lvL l (maskL bs l)
  | [], [], _ => trivial
  | [], _ :: _, h => by simp at h
  | _ :: _, [], h => by simp at h
  | true :: bs, q :: l, h => ⟨Or.inl rfl, maskL_s bs l (by simpa using h)⟩
  | false :: bs, q :: l, h => ⟨Or.inr (Nat.le_refl 3), maskL_s bs l (by simpa using h)⟩
theorem G.mask {g : GT} {pc : Nat} {lv lv' st : List (Nat × Int)} {h : MM} (bs : List Bool) (hl : bs.length = lv.length) (e : maskL bs lv = lv') (k : G g pc lv' st h) : G g pc lv st h := G.less (lv' := lv') (by rw [← e]; exact maskL_s bs lv hl) k
def un0 (F : MM → RR) : List Int → MM → RR := fun xs h => match xs with
  | [] => F  h
  | _ => none
theorem un0_e (F : MM → RR) (h : MM) : un0 F [] h = F  h := rfl
def un1 (F : Int → MM → RR) : List Int → MM → RR := fun xs h => match xs with
  | [a0] => F a0 h
  | _ => none
theorem un1_e (F : Int → MM → RR) (a0 : Int) (h : MM) : un1 F [a0] h = F a0 h := rfl
def un2 (F : Int → Int → MM → RR) : List Int → MM → RR := fun xs h => match xs with
  | [a0, a1] => F a0 a1 h
  | _ => none
theorem un2_e (F : Int → Int → MM → RR) (a0 a1 : Int) (h : MM) : un2 F [a0, a1] h = F a0 a1 h := rfl
def un3 (F : Int → Int → Int → MM → RR) : List Int → MM → RR := fun xs h => match xs with
  | [a0, a1, a2] => F a0 a1 a2 h
  | _ => none
theorem un3_e (F : Int → Int → Int → MM → RR) (a0 a1 a2 : Int) (h : MM) : un3 F [a0, a1, a2] h = F a0 a1 a2 h := rfl
def un4 (F : Int → Int → Int → Int → MM → RR) : List Int → MM → RR := fun xs h => match xs with
  | [a0, a1, a2, a3] => F a0 a1 a2 a3 h
  | _ => none
theorem un4_e (F : Int → Int → Int → Int → MM → RR) (a0 a1 a2 a3 : Int) (h : MM) : un4 F [a0, a1, a2, a3] h = F a0 a1 a2 a3 h := rfl
def un5 (F : Int → Int → Int → Int → Int → MM → RR) : List Int → MM → RR := fun xs h => match xs with
  | [a0, a1, a2, a3, a4] => F a0 a1 a2 a3 a4 h
  | _ => none
theorem un5_e (F : Int → Int → Int → Int → Int → MM → RR) (a0 a1 a2 a3 a4 : Int) (h : MM) : un5 F [a0, a1, a2, a3, a4] h = F a0 a1 a2 a3 a4 h := rfl
def un6 (F : Int → Int → Int → Int → Int → Int → MM → RR) : List Int → MM → RR := fun xs h => match xs with
  | [a0, a1, a2, a3, a4, a5] => F a0 a1 a2 a3 a4 a5 h
  | _ => none
theorem un6_e (F : Int → Int → Int → Int → Int → Int → MM → RR) (a0 a1 a2 a3 a4 a5 : Int) (h : MM) : un6 F [a0, a1, a2, a3, a4, a5] h = F a0 a1 a2 a3 a4 a5 h := rfl
def un7 (F : Int → Int → Int → Int → Int → Int → Int → MM → RR) : List Int → MM → RR := fun xs h => match xs with
  | [a0, a1, a2, a3, a4, a5, a6] => F a0 a1 a2 a3 a4 a5 a6 h
  | _ => none
theorem un7_e (F : Int → Int → Int → Int → Int → Int → Int → MM → RR) (a0 a1 a2 a3 a4 a5 a6 : Int) (h : MM) : un7 F [a0, a1, a2, a3, a4, a5, a6] h = F a0 a1 a2 a3 a4 a5 a6 h := rfl
def CM (y' : MethodName) (cc' : ByteArray) (maxL' : Nat) (ret' : Option FieldType) (n t : Nat) : Prop := Cond.instanceMethod y' ∈ wG ∧ Cond.selects y'.cls y' y' ∈ wG ∧ Cond.code y' cc' maxL' ret' ∈ wG ∧ Cond.initialized y'.cls ∈ wG ∧ clsOk y' n ∧ (∃ (T : u_T) (N : Nat), vwCl[t]? = some (y'.cls, T, N)) ∧ t < 13
def CMs (y' : MethodName) (cc' : ByteArray) (maxL' : Nat) (ret' : Option FieldType) (n : Nat) : Prop := Cond.static y' ∈ wG ∧ Cond.code y' cc' maxL' ret' ∈ wG ∧ Cond.initialized y'.cls ∈ wG ∧ clsOk y' n
def CMi (y' : MethodName) (cc' : ByteArray) (maxL' : Nat) (n : Nat) : Prop := Cond.instanceMethod y' ∈ wG ∧ Cond.code y' cc' maxL' none ∈ wG ∧ Cond.initialized y'.cls ∈ wG ∧ y'.name = "<init>" ∧ clsOk y' n
section AUX
variable {g : GT} {cc : ByteArray} {nL : Nat} {y : MethodName} {FR LO : Nat} {pc : Nat} {lv st : List (Nat × Int)} {h h1 : MM} {v : Int}
variable {y' : MethodName} {cc' : ByteArray} {maxL' : Nat} {ret' : Option FieldType} {FR' LO' rk : Nat}
theorem rsl_n {rk : Nat} (hk : rk < 3) (x : Int) (l : List (Nat × Int)) : (rk, x) :: l = rsl rk x ++ l := by unfold rsl; rw [if_neg (by omega)]; rfl
theorem r_istore_nL (C : Cx g cc nL y FR LO) {n : Fin 4} {x z : Int} (d : decode cc pc = .ok (.istore_n n, 1)) (e : z = x) (hn : (n : Nat) < lv.length) (ho : okst lv n = true) (k : G g (pc + 1) (lv.set n (0, z)) st h) : G g pc lv ((0, x) :: st) h := by subst e; exact r_istore_n C d hn ho k
theorem r_istoreL (C : Cx g cc nL y FR LO) {n : Nat} {x z : Int} (d : decode cc pc = .ok (.istore n, 2)) (e : z = x) (hn : n < lv.length) (ho : okst lv n = true) (k : G g (pc + 2) (lv.set n (0, z)) st h) : G g pc lv ((0, x) :: st) h := by subst e; exact r_istore C d hn ho k
theorem r_lstore_nL (C : Cx g cc nL y FR LO) {n : Fin 4} {x z : Int} (d : decode cc pc = .ok (.lstore_n n, 1)) (e : z = x) (hn : (n : Nat) + 1 < lv.length) (ho : okst lv n = true) (k : G g (pc + 1) ((lv.set n (1, z)).set ((n : Nat) + 1) (4, 0)) st h) : G g pc lv ((1, x) :: st) h := by subst e; exact r_lstore_n C d hn ho k
theorem r_lstoreL (C : Cx g cc nL y FR LO) {n : Nat} {x z : Int} (d : decode cc pc = .ok (.lstore n, 2)) (e : z = x) (hn : n + 1 < lv.length) (ho : okst lv n = true) (k : G g (pc + 2) ((lv.set n (1, z)).set (n + 1) (4, 0)) st h) : G g pc lv ((1, x) :: st) h := by subst e; exact r_lstore C d hn ho k
theorem r_iincL (C : Cx g cc nL y FR LO) {n : Nat} {i x z : Int} (d : decode cc pc = .ok (.iinc n i, 3)) (hl : lv[n]? = some (0, x)) (e : z = wr (x + i)) (hn : n < lv.length) (ho : okst lv n = true) (k : G g (pc + 3) (lv.set n (0, z)) st h) : G g pc lv st h := by subst e; exact r_iinc C d hl hn ho k
theorem r_zret (C : Cx g cc nL y FR LO) {x : Int} (hr : Rt g (some .boolean) 0 (x, h)) (d : decode cc pc = .ok (.ireturn, 1)) (hx : isb x = true) : G g pc lv [(0, x)] h := r_iret C hr d (by rcases isb_s hx with rfl | rfl <;> rfl) (by rcases isb_s hx with rfl | rfl <;> exact in32_of rfl)
theorem r_jret (C : Cx g cc nL y FR LO) {x : Int} (hr : Rt g (some .int) 0 (x, h)) (d : decode cc pc = .ok (.ireturn, 1)) (cx : in32 x) : G g pc lv [(0, x)] h := r_iret C hr d rfl cx
theorem r_cV0 (C : Cx g cc nL y FR LO) {F : Int → MM → RR} (hA : AM (gl g) y' cc' maxL' ret' FR' LO' [2] rk (un1 F)) {t : Nat} (hM : CM y' cc' maxL' ret' 0 t) {ix : Nat} (hw : Cond.methodLink y.cls ix y' ∈ wG) {a ti : Int} (d : decode cc pc = .ok (.invokevirtual ix, 3)) (hR : FR' + 1 ≤ FR ∧ 8 + (maxL' + 11) + LO' ≤ LO) (ht : tg h a = ti) (et : ti = (t : Int))  (hl : lv.length = nL) (hcat : catS st ≤ 8) (hf : F a  h = some (v, h1)) (hk : rk < 3) (k : cK rk v → G g (pc + 3) lv ((rk, v) :: st) h1) : G g pc lv ((2, a) :: st) h := by
  obtain ⟨m1, m2, m3, m4, m5, ⟨T, N, m6⟩, m7⟩ := hM
  exact r_cV C hA (ks := []) (xs := []) d hw m1 m2 m3 m4 m5 hR m6 m7 ht et trivial hl hcat rfl hf (rsl_n hk _ _) (fun q => k (q hk))
theorem r_cS0 (C : Cx g cc nL y FR LO) {F : MM → RR} (hA : AM (gl g) y' cc' maxL' ret' FR' LO' [] rk (un0 F)) (hM : CMs y' cc' maxL' ret' 0) {ix : Nat} (hw : Cond.methodLink y.cls ix y' ∈ wG) (d : decode cc pc = .ok (.invokestatic ix, 3)) (hR : FR' + 1 ≤ FR ∧ 8 + (maxL' + 11) + LO' ≤ LO)  (hl : lv.length = nL) (hcat : catS st ≤ 8) (hf : F  h = some (v, h1)) (hk : rk < 3) (k : cK rk v → G g (pc + 3) lv ((rk, v) :: st) h1) : G g pc lv (st) h := by
  obtain ⟨m1, m2, m3, m4⟩ := hM
  exact r_cS C hA (ks := []) (xs := []) d hw m1 m2 m3 m4 hR trivial hl hcat rfl hf (rsl_n hk _ _) (fun q => k (q hk))
theorem r_cV0v (C : Cx g cc nL y FR LO) {F : Int → MM → RR} (hA : AM (gl g) y' cc' maxL' ret' FR' LO' [2] 3 (un1 F)) {t : Nat} (hM : CM y' cc' maxL' ret' 0 t) {ix : Nat} (hw : Cond.methodLink y.cls ix y' ∈ wG) {a ti : Int} (d : decode cc pc = .ok (.invokevirtual ix, 3)) (hR : FR' + 1 ≤ FR ∧ 8 + (maxL' + 11) + LO' ≤ LO) (ht : tg h a = ti) (et : ti = (t : Int))  (hl : lv.length = nL) (hcat : catS st ≤ 8) (hf : F a  h = some (v, h1)) (k : G g (pc + 3) lv st h1) : G g pc lv ((2, a) :: st) h := by
  obtain ⟨m1, m2, m3, m4, m5, ⟨T, N, m6⟩, m7⟩ := hM
  exact r_cV C hA (ks := []) (xs := []) d hw m1 m2 m3 m4 m5 hR m6 m7 ht et trivial hl hcat rfl hf rfl (fun _ => k)
theorem r_cS0v (C : Cx g cc nL y FR LO) {F : MM → RR} (hA : AM (gl g) y' cc' maxL' ret' FR' LO' [] 3 (un0 F)) (hM : CMs y' cc' maxL' ret' 0) {ix : Nat} (hw : Cond.methodLink y.cls ix y' ∈ wG) (d : decode cc pc = .ok (.invokestatic ix, 3)) (hR : FR' + 1 ≤ FR ∧ 8 + (maxL' + 11) + LO' ≤ LO)  (hl : lv.length = nL) (hcat : catS st ≤ 8) (hf : F  h = some (v, h1)) (k : G g (pc + 3) lv st h1) : G g pc lv (st) h := by
  obtain ⟨m1, m2, m3, m4⟩ := hM
  exact r_cS C hA (ks := []) (xs := []) d hw m1 m2 m3 m4 hR trivial hl hcat rfl hf rfl (fun _ => k)
theorem r_cI0 (C : Cx g cc nL y FR LO) {F : Int → MM → RR} (hA : AM (gl g) y' cc' maxL' none FR' LO' [2] 3 (un1 F)) (hM : CMi y' cc' maxL' 0) {ix : Nat} (hw : Cond.methodLink y.cls ix y' ∈ wG) {a : Int} (d : decode cc pc = .ok (.invokespecial ix, 3)) (hR : FR' + 1 ≤ FR ∧ 8 + (maxL' + 11) + LO' ≤ LO) (ha0 : ¬ a = 0)  (hl : lv.length = nL) (hcat : catS st ≤ 8) (hf : F a  h = some (v, h1)) (k : G g (pc + 3) lv st h1) : G g pc lv ((2, a) :: st) h := by
  obtain ⟨m1, m2, m3, m4, m5⟩ := hM
  exact r_cI C hA (ks := []) (xs := []) d hw m1 m2 m3 m4 m5 hR ha0 trivial hl hcat rfl hf rfl (fun _ => k)
theorem r_cV1 (C : Cx g cc nL y FR LO) {k1 : Nat} {F : Int → Int → MM → RR} (hA : AM (gl g) y' cc' maxL' ret' FR' LO' [2, k1] rk (un2 F)) {t : Nat} (hM : CM y' cc' maxL' ret' 1 t) {ix : Nat} (hw : Cond.methodLink y.cls ix y' ∈ wG) {a ti : Int} {x1 : Int} (d : decode cc pc = .ok (.invokevirtual ix, 3)) (hR : FR' + 1 ≤ FR ∧ 8 + (maxL' + 11) + LO' ≤ LO) (ht : tg h a = ti) (et : ti = (t : Int)) (c1 : cK k1 x1) (hl : lv.length = nL) (hcat : catS st ≤ 8) (hf : F a x1 h = some (v, h1)) (hk : rk < 3) (k : cK rk v → G g (pc + 3) lv ((rk, v) :: st) h1) : G g pc lv ((k1, x1) :: (2, a) :: st) h := by
  obtain ⟨m1, m2, m3, m4, m5, ⟨T, N, m6⟩, m7⟩ := hM
  exact r_cV C hA (ks := [k1]) (xs := [x1]) d hw m1 m2 m3 m4 m5 hR m6 m7 ht et ⟨c1, trivial⟩ hl hcat rfl hf (rsl_n hk _ _) (fun q => k (q hk))
theorem r_cS1 (C : Cx g cc nL y FR LO) {k1 : Nat} {F : Int → MM → RR} (hA : AM (gl g) y' cc' maxL' ret' FR' LO' [k1] rk (un1 F)) (hM : CMs y' cc' maxL' ret' 1) {ix : Nat} (hw : Cond.methodLink y.cls ix y' ∈ wG) {x1 : Int} (d : decode cc pc = .ok (.invokestatic ix, 3)) (hR : FR' + 1 ≤ FR ∧ 8 + (maxL' + 11) + LO' ≤ LO) (c1 : cK k1 x1) (hl : lv.length = nL) (hcat : catS st ≤ 8) (hf : F x1 h = some (v, h1)) (hk : rk < 3) (k : cK rk v → G g (pc + 3) lv ((rk, v) :: st) h1) : G g pc lv ((k1, x1) :: st) h := by
  obtain ⟨m1, m2, m3, m4⟩ := hM
  exact r_cS C hA (ks := [k1]) (xs := [x1]) d hw m1 m2 m3 m4 hR ⟨c1, trivial⟩ hl hcat rfl hf (rsl_n hk _ _) (fun q => k (q hk))
theorem r_cV1v (C : Cx g cc nL y FR LO) {k1 : Nat} {F : Int → Int → MM → RR} (hA : AM (gl g) y' cc' maxL' ret' FR' LO' [2, k1] 3 (un2 F)) {t : Nat} (hM : CM y' cc' maxL' ret' 1 t) {ix : Nat} (hw : Cond.methodLink y.cls ix y' ∈ wG) {a ti : Int} {x1 : Int} (d : decode cc pc = .ok (.invokevirtual ix, 3)) (hR : FR' + 1 ≤ FR ∧ 8 + (maxL' + 11) + LO' ≤ LO) (ht : tg h a = ti) (et : ti = (t : Int)) (c1 : cK k1 x1) (hl : lv.length = nL) (hcat : catS st ≤ 8) (hf : F a x1 h = some (v, h1)) (k : G g (pc + 3) lv st h1) : G g pc lv ((k1, x1) :: (2, a) :: st) h := by
  obtain ⟨m1, m2, m3, m4, m5, ⟨T, N, m6⟩, m7⟩ := hM
  exact r_cV C hA (ks := [k1]) (xs := [x1]) d hw m1 m2 m3 m4 m5 hR m6 m7 ht et ⟨c1, trivial⟩ hl hcat rfl hf rfl (fun _ => k)
theorem r_cS1v (C : Cx g cc nL y FR LO) {k1 : Nat} {F : Int → MM → RR} (hA : AM (gl g) y' cc' maxL' ret' FR' LO' [k1] 3 (un1 F)) (hM : CMs y' cc' maxL' ret' 1) {ix : Nat} (hw : Cond.methodLink y.cls ix y' ∈ wG) {x1 : Int} (d : decode cc pc = .ok (.invokestatic ix, 3)) (hR : FR' + 1 ≤ FR ∧ 8 + (maxL' + 11) + LO' ≤ LO) (c1 : cK k1 x1) (hl : lv.length = nL) (hcat : catS st ≤ 8) (hf : F x1 h = some (v, h1)) (k : G g (pc + 3) lv st h1) : G g pc lv ((k1, x1) :: st) h := by
  obtain ⟨m1, m2, m3, m4⟩ := hM
  exact r_cS C hA (ks := [k1]) (xs := [x1]) d hw m1 m2 m3 m4 hR ⟨c1, trivial⟩ hl hcat rfl hf rfl (fun _ => k)
theorem r_cI1 (C : Cx g cc nL y FR LO) {k1 : Nat} {F : Int → Int → MM → RR} (hA : AM (gl g) y' cc' maxL' none FR' LO' [2, k1] 3 (un2 F)) (hM : CMi y' cc' maxL' 1) {ix : Nat} (hw : Cond.methodLink y.cls ix y' ∈ wG) {a : Int} {x1 : Int} (d : decode cc pc = .ok (.invokespecial ix, 3)) (hR : FR' + 1 ≤ FR ∧ 8 + (maxL' + 11) + LO' ≤ LO) (ha0 : ¬ a = 0) (c1 : cK k1 x1) (hl : lv.length = nL) (hcat : catS st ≤ 8) (hf : F a x1 h = some (v, h1)) (k : G g (pc + 3) lv st h1) : G g pc lv ((k1, x1) :: (2, a) :: st) h := by
  obtain ⟨m1, m2, m3, m4, m5⟩ := hM
  exact r_cI C hA (ks := [k1]) (xs := [x1]) d hw m1 m2 m3 m4 m5 hR ha0 ⟨c1, trivial⟩ hl hcat rfl hf rfl (fun _ => k)
theorem r_cV2 (C : Cx g cc nL y FR LO) {k1 k2 : Nat} {F : Int → Int → Int → MM → RR} (hA : AM (gl g) y' cc' maxL' ret' FR' LO' [2, k1, k2] rk (un3 F)) {t : Nat} (hM : CM y' cc' maxL' ret' 2 t) {ix : Nat} (hw : Cond.methodLink y.cls ix y' ∈ wG) {a ti : Int} {x1 x2 : Int} (d : decode cc pc = .ok (.invokevirtual ix, 3)) (hR : FR' + 1 ≤ FR ∧ 8 + (maxL' + 11) + LO' ≤ LO) (ht : tg h a = ti) (et : ti = (t : Int)) (c1 : cK k1 x1) (c2 : cK k2 x2) (hl : lv.length = nL) (hcat : catS st ≤ 8) (hf : F a x1 x2 h = some (v, h1)) (hk : rk < 3) (k : cK rk v → G g (pc + 3) lv ((rk, v) :: st) h1) : G g pc lv ((k2, x2) :: (k1, x1) :: (2, a) :: st) h := by
  obtain ⟨m1, m2, m3, m4, m5, ⟨T, N, m6⟩, m7⟩ := hM
  exact r_cV C hA (ks := [k1, k2]) (xs := [x1, x2]) d hw m1 m2 m3 m4 m5 hR m6 m7 ht et ⟨c1, c2, trivial⟩ hl hcat rfl hf (rsl_n hk _ _) (fun q => k (q hk))
theorem r_cS2 (C : Cx g cc nL y FR LO) {k1 k2 : Nat} {F : Int → Int → MM → RR} (hA : AM (gl g) y' cc' maxL' ret' FR' LO' [k1, k2] rk (un2 F)) (hM : CMs y' cc' maxL' ret' 2) {ix : Nat} (hw : Cond.methodLink y.cls ix y' ∈ wG) {x1 x2 : Int} (d : decode cc pc = .ok (.invokestatic ix, 3)) (hR : FR' + 1 ≤ FR ∧ 8 + (maxL' + 11) + LO' ≤ LO) (c1 : cK k1 x1) (c2 : cK k2 x2) (hl : lv.length = nL) (hcat : catS st ≤ 8) (hf : F x1 x2 h = some (v, h1)) (hk : rk < 3) (k : cK rk v → G g (pc + 3) lv ((rk, v) :: st) h1) : G g pc lv ((k2, x2) :: (k1, x1) :: st) h := by
  obtain ⟨m1, m2, m3, m4⟩ := hM
  exact r_cS C hA (ks := [k1, k2]) (xs := [x1, x2]) d hw m1 m2 m3 m4 hR ⟨c1, c2, trivial⟩ hl hcat rfl hf (rsl_n hk _ _) (fun q => k (q hk))
theorem r_cV2v (C : Cx g cc nL y FR LO) {k1 k2 : Nat} {F : Int → Int → Int → MM → RR} (hA : AM (gl g) y' cc' maxL' ret' FR' LO' [2, k1, k2] 3 (un3 F)) {t : Nat} (hM : CM y' cc' maxL' ret' 2 t) {ix : Nat} (hw : Cond.methodLink y.cls ix y' ∈ wG) {a ti : Int} {x1 x2 : Int} (d : decode cc pc = .ok (.invokevirtual ix, 3)) (hR : FR' + 1 ≤ FR ∧ 8 + (maxL' + 11) + LO' ≤ LO) (ht : tg h a = ti) (et : ti = (t : Int)) (c1 : cK k1 x1) (c2 : cK k2 x2) (hl : lv.length = nL) (hcat : catS st ≤ 8) (hf : F a x1 x2 h = some (v, h1)) (k : G g (pc + 3) lv st h1) : G g pc lv ((k2, x2) :: (k1, x1) :: (2, a) :: st) h := by
  obtain ⟨m1, m2, m3, m4, m5, ⟨T, N, m6⟩, m7⟩ := hM
  exact r_cV C hA (ks := [k1, k2]) (xs := [x1, x2]) d hw m1 m2 m3 m4 m5 hR m6 m7 ht et ⟨c1, c2, trivial⟩ hl hcat rfl hf rfl (fun _ => k)
theorem r_cS2v (C : Cx g cc nL y FR LO) {k1 k2 : Nat} {F : Int → Int → MM → RR} (hA : AM (gl g) y' cc' maxL' ret' FR' LO' [k1, k2] 3 (un2 F)) (hM : CMs y' cc' maxL' ret' 2) {ix : Nat} (hw : Cond.methodLink y.cls ix y' ∈ wG) {x1 x2 : Int} (d : decode cc pc = .ok (.invokestatic ix, 3)) (hR : FR' + 1 ≤ FR ∧ 8 + (maxL' + 11) + LO' ≤ LO) (c1 : cK k1 x1) (c2 : cK k2 x2) (hl : lv.length = nL) (hcat : catS st ≤ 8) (hf : F x1 x2 h = some (v, h1)) (k : G g (pc + 3) lv st h1) : G g pc lv ((k2, x2) :: (k1, x1) :: st) h := by
  obtain ⟨m1, m2, m3, m4⟩ := hM
  exact r_cS C hA (ks := [k1, k2]) (xs := [x1, x2]) d hw m1 m2 m3 m4 hR ⟨c1, c2, trivial⟩ hl hcat rfl hf rfl (fun _ => k)
theorem r_cI2 (C : Cx g cc nL y FR LO) {k1 k2 : Nat} {F : Int → Int → Int → MM → RR} (hA : AM (gl g) y' cc' maxL' none FR' LO' [2, k1, k2] 3 (un3 F)) (hM : CMi y' cc' maxL' 2) {ix : Nat} (hw : Cond.methodLink y.cls ix y' ∈ wG) {a : Int} {x1 x2 : Int} (d : decode cc pc = .ok (.invokespecial ix, 3)) (hR : FR' + 1 ≤ FR ∧ 8 + (maxL' + 11) + LO' ≤ LO) (ha0 : ¬ a = 0) (c1 : cK k1 x1) (c2 : cK k2 x2) (hl : lv.length = nL) (hcat : catS st ≤ 8) (hf : F a x1 x2 h = some (v, h1)) (k : G g (pc + 3) lv st h1) : G g pc lv ((k2, x2) :: (k1, x1) :: (2, a) :: st) h := by
  obtain ⟨m1, m2, m3, m4, m5⟩ := hM
  exact r_cI C hA (ks := [k1, k2]) (xs := [x1, x2]) d hw m1 m2 m3 m4 m5 hR ha0 ⟨c1, c2, trivial⟩ hl hcat rfl hf rfl (fun _ => k)
theorem r_cV3 (C : Cx g cc nL y FR LO) {k1 k2 k3 : Nat} {F : Int → Int → Int → Int → MM → RR} (hA : AM (gl g) y' cc' maxL' ret' FR' LO' [2, k1, k2, k3] rk (un4 F)) {t : Nat} (hM : CM y' cc' maxL' ret' 3 t) {ix : Nat} (hw : Cond.methodLink y.cls ix y' ∈ wG) {a ti : Int} {x1 x2 x3 : Int} (d : decode cc pc = .ok (.invokevirtual ix, 3)) (hR : FR' + 1 ≤ FR ∧ 8 + (maxL' + 11) + LO' ≤ LO) (ht : tg h a = ti) (et : ti = (t : Int)) (c1 : cK k1 x1) (c2 : cK k2 x2) (c3 : cK k3 x3) (hl : lv.length = nL) (hcat : catS st ≤ 8) (hf : F a x1 x2 x3 h = some (v, h1)) (hk : rk < 3) (k : cK rk v → G g (pc + 3) lv ((rk, v) :: st) h1) : G g pc lv ((k3, x3) :: (k2, x2) :: (k1, x1) :: (2, a) :: st) h := by
  obtain ⟨m1, m2, m3, m4, m5, ⟨T, N, m6⟩, m7⟩ := hM
  exact r_cV C hA (ks := [k1, k2, k3]) (xs := [x1, x2, x3]) d hw m1 m2 m3 m4 m5 hR m6 m7 ht et ⟨c1, c2, c3, trivial⟩ hl hcat rfl hf (rsl_n hk _ _) (fun q => k (q hk))
theorem r_cS3 (C : Cx g cc nL y FR LO) {k1 k2 k3 : Nat} {F : Int → Int → Int → MM → RR} (hA : AM (gl g) y' cc' maxL' ret' FR' LO' [k1, k2, k3] rk (un3 F)) (hM : CMs y' cc' maxL' ret' 3) {ix : Nat} (hw : Cond.methodLink y.cls ix y' ∈ wG) {x1 x2 x3 : Int} (d : decode cc pc = .ok (.invokestatic ix, 3)) (hR : FR' + 1 ≤ FR ∧ 8 + (maxL' + 11) + LO' ≤ LO) (c1 : cK k1 x1) (c2 : cK k2 x2) (c3 : cK k3 x3) (hl : lv.length = nL) (hcat : catS st ≤ 8) (hf : F x1 x2 x3 h = some (v, h1)) (hk : rk < 3) (k : cK rk v → G g (pc + 3) lv ((rk, v) :: st) h1) : G g pc lv ((k3, x3) :: (k2, x2) :: (k1, x1) :: st) h := by
  obtain ⟨m1, m2, m3, m4⟩ := hM
  exact r_cS C hA (ks := [k1, k2, k3]) (xs := [x1, x2, x3]) d hw m1 m2 m3 m4 hR ⟨c1, c2, c3, trivial⟩ hl hcat rfl hf (rsl_n hk _ _) (fun q => k (q hk))
theorem r_cV3v (C : Cx g cc nL y FR LO) {k1 k2 k3 : Nat} {F : Int → Int → Int → Int → MM → RR} (hA : AM (gl g) y' cc' maxL' ret' FR' LO' [2, k1, k2, k3] 3 (un4 F)) {t : Nat} (hM : CM y' cc' maxL' ret' 3 t) {ix : Nat} (hw : Cond.methodLink y.cls ix y' ∈ wG) {a ti : Int} {x1 x2 x3 : Int} (d : decode cc pc = .ok (.invokevirtual ix, 3)) (hR : FR' + 1 ≤ FR ∧ 8 + (maxL' + 11) + LO' ≤ LO) (ht : tg h a = ti) (et : ti = (t : Int)) (c1 : cK k1 x1) (c2 : cK k2 x2) (c3 : cK k3 x3) (hl : lv.length = nL) (hcat : catS st ≤ 8) (hf : F a x1 x2 x3 h = some (v, h1)) (k : G g (pc + 3) lv st h1) : G g pc lv ((k3, x3) :: (k2, x2) :: (k1, x1) :: (2, a) :: st) h := by
  obtain ⟨m1, m2, m3, m4, m5, ⟨T, N, m6⟩, m7⟩ := hM
  exact r_cV C hA (ks := [k1, k2, k3]) (xs := [x1, x2, x3]) d hw m1 m2 m3 m4 m5 hR m6 m7 ht et ⟨c1, c2, c3, trivial⟩ hl hcat rfl hf rfl (fun _ => k)
theorem r_cS3v (C : Cx g cc nL y FR LO) {k1 k2 k3 : Nat} {F : Int → Int → Int → MM → RR} (hA : AM (gl g) y' cc' maxL' ret' FR' LO' [k1, k2, k3] 3 (un3 F)) (hM : CMs y' cc' maxL' ret' 3) {ix : Nat} (hw : Cond.methodLink y.cls ix y' ∈ wG) {x1 x2 x3 : Int} (d : decode cc pc = .ok (.invokestatic ix, 3)) (hR : FR' + 1 ≤ FR ∧ 8 + (maxL' + 11) + LO' ≤ LO) (c1 : cK k1 x1) (c2 : cK k2 x2) (c3 : cK k3 x3) (hl : lv.length = nL) (hcat : catS st ≤ 8) (hf : F x1 x2 x3 h = some (v, h1)) (k : G g (pc + 3) lv st h1) : G g pc lv ((k3, x3) :: (k2, x2) :: (k1, x1) :: st) h := by
  obtain ⟨m1, m2, m3, m4⟩ := hM
  exact r_cS C hA (ks := [k1, k2, k3]) (xs := [x1, x2, x3]) d hw m1 m2 m3 m4 hR ⟨c1, c2, c3, trivial⟩ hl hcat rfl hf rfl (fun _ => k)
theorem r_cI3 (C : Cx g cc nL y FR LO) {k1 k2 k3 : Nat} {F : Int → Int → Int → Int → MM → RR} (hA : AM (gl g) y' cc' maxL' none FR' LO' [2, k1, k2, k3] 3 (un4 F)) (hM : CMi y' cc' maxL' 3) {ix : Nat} (hw : Cond.methodLink y.cls ix y' ∈ wG) {a : Int} {x1 x2 x3 : Int} (d : decode cc pc = .ok (.invokespecial ix, 3)) (hR : FR' + 1 ≤ FR ∧ 8 + (maxL' + 11) + LO' ≤ LO) (ha0 : ¬ a = 0) (c1 : cK k1 x1) (c2 : cK k2 x2) (c3 : cK k3 x3) (hl : lv.length = nL) (hcat : catS st ≤ 8) (hf : F a x1 x2 x3 h = some (v, h1)) (k : G g (pc + 3) lv st h1) : G g pc lv ((k3, x3) :: (k2, x2) :: (k1, x1) :: (2, a) :: st) h := by
  obtain ⟨m1, m2, m3, m4, m5⟩ := hM
  exact r_cI C hA (ks := [k1, k2, k3]) (xs := [x1, x2, x3]) d hw m1 m2 m3 m4 m5 hR ha0 ⟨c1, c2, c3, trivial⟩ hl hcat rfl hf rfl (fun _ => k)
theorem r_cV4 (C : Cx g cc nL y FR LO) {k1 k2 k3 k4 : Nat} {F : Int → Int → Int → Int → Int → MM → RR} (hA : AM (gl g) y' cc' maxL' ret' FR' LO' [2, k1, k2, k3, k4] rk (un5 F)) {t : Nat} (hM : CM y' cc' maxL' ret' 4 t) {ix : Nat} (hw : Cond.methodLink y.cls ix y' ∈ wG) {a ti : Int} {x1 x2 x3 x4 : Int} (d : decode cc pc = .ok (.invokevirtual ix, 3)) (hR : FR' + 1 ≤ FR ∧ 8 + (maxL' + 11) + LO' ≤ LO) (ht : tg h a = ti) (et : ti = (t : Int)) (c1 : cK k1 x1) (c2 : cK k2 x2) (c3 : cK k3 x3) (c4 : cK k4 x4) (hl : lv.length = nL) (hcat : catS st ≤ 8) (hf : F a x1 x2 x3 x4 h = some (v, h1)) (hk : rk < 3) (k : cK rk v → G g (pc + 3) lv ((rk, v) :: st) h1) : G g pc lv ((k4, x4) :: (k3, x3) :: (k2, x2) :: (k1, x1) :: (2, a) :: st) h := by
  obtain ⟨m1, m2, m3, m4, m5, ⟨T, N, m6⟩, m7⟩ := hM
  exact r_cV C hA (ks := [k1, k2, k3, k4]) (xs := [x1, x2, x3, x4]) d hw m1 m2 m3 m4 m5 hR m6 m7 ht et ⟨c1, c2, c3, c4, trivial⟩ hl hcat rfl hf (rsl_n hk _ _) (fun q => k (q hk))
theorem r_cS4 (C : Cx g cc nL y FR LO) {k1 k2 k3 k4 : Nat} {F : Int → Int → Int → Int → MM → RR} (hA : AM (gl g) y' cc' maxL' ret' FR' LO' [k1, k2, k3, k4] rk (un4 F)) (hM : CMs y' cc' maxL' ret' 4) {ix : Nat} (hw : Cond.methodLink y.cls ix y' ∈ wG) {x1 x2 x3 x4 : Int} (d : decode cc pc = .ok (.invokestatic ix, 3)) (hR : FR' + 1 ≤ FR ∧ 8 + (maxL' + 11) + LO' ≤ LO) (c1 : cK k1 x1) (c2 : cK k2 x2) (c3 : cK k3 x3) (c4 : cK k4 x4) (hl : lv.length = nL) (hcat : catS st ≤ 8) (hf : F x1 x2 x3 x4 h = some (v, h1)) (hk : rk < 3) (k : cK rk v → G g (pc + 3) lv ((rk, v) :: st) h1) : G g pc lv ((k4, x4) :: (k3, x3) :: (k2, x2) :: (k1, x1) :: st) h := by
  obtain ⟨m1, m2, m3, m4⟩ := hM
  exact r_cS C hA (ks := [k1, k2, k3, k4]) (xs := [x1, x2, x3, x4]) d hw m1 m2 m3 m4 hR ⟨c1, c2, c3, c4, trivial⟩ hl hcat rfl hf (rsl_n hk _ _) (fun q => k (q hk))
theorem r_cV4v (C : Cx g cc nL y FR LO) {k1 k2 k3 k4 : Nat} {F : Int → Int → Int → Int → Int → MM → RR} (hA : AM (gl g) y' cc' maxL' ret' FR' LO' [2, k1, k2, k3, k4] 3 (un5 F)) {t : Nat} (hM : CM y' cc' maxL' ret' 4 t) {ix : Nat} (hw : Cond.methodLink y.cls ix y' ∈ wG) {a ti : Int} {x1 x2 x3 x4 : Int} (d : decode cc pc = .ok (.invokevirtual ix, 3)) (hR : FR' + 1 ≤ FR ∧ 8 + (maxL' + 11) + LO' ≤ LO) (ht : tg h a = ti) (et : ti = (t : Int)) (c1 : cK k1 x1) (c2 : cK k2 x2) (c3 : cK k3 x3) (c4 : cK k4 x4) (hl : lv.length = nL) (hcat : catS st ≤ 8) (hf : F a x1 x2 x3 x4 h = some (v, h1)) (k : G g (pc + 3) lv st h1) : G g pc lv ((k4, x4) :: (k3, x3) :: (k2, x2) :: (k1, x1) :: (2, a) :: st) h := by
  obtain ⟨m1, m2, m3, m4, m5, ⟨T, N, m6⟩, m7⟩ := hM
  exact r_cV C hA (ks := [k1, k2, k3, k4]) (xs := [x1, x2, x3, x4]) d hw m1 m2 m3 m4 m5 hR m6 m7 ht et ⟨c1, c2, c3, c4, trivial⟩ hl hcat rfl hf rfl (fun _ => k)
theorem r_cS4v (C : Cx g cc nL y FR LO) {k1 k2 k3 k4 : Nat} {F : Int → Int → Int → Int → MM → RR} (hA : AM (gl g) y' cc' maxL' ret' FR' LO' [k1, k2, k3, k4] 3 (un4 F)) (hM : CMs y' cc' maxL' ret' 4) {ix : Nat} (hw : Cond.methodLink y.cls ix y' ∈ wG) {x1 x2 x3 x4 : Int} (d : decode cc pc = .ok (.invokestatic ix, 3)) (hR : FR' + 1 ≤ FR ∧ 8 + (maxL' + 11) + LO' ≤ LO) (c1 : cK k1 x1) (c2 : cK k2 x2) (c3 : cK k3 x3) (c4 : cK k4 x4) (hl : lv.length = nL) (hcat : catS st ≤ 8) (hf : F x1 x2 x3 x4 h = some (v, h1)) (k : G g (pc + 3) lv st h1) : G g pc lv ((k4, x4) :: (k3, x3) :: (k2, x2) :: (k1, x1) :: st) h := by
  obtain ⟨m1, m2, m3, m4⟩ := hM
  exact r_cS C hA (ks := [k1, k2, k3, k4]) (xs := [x1, x2, x3, x4]) d hw m1 m2 m3 m4 hR ⟨c1, c2, c3, c4, trivial⟩ hl hcat rfl hf rfl (fun _ => k)
theorem r_cI4 (C : Cx g cc nL y FR LO) {k1 k2 k3 k4 : Nat} {F : Int → Int → Int → Int → Int → MM → RR} (hA : AM (gl g) y' cc' maxL' none FR' LO' [2, k1, k2, k3, k4] 3 (un5 F)) (hM : CMi y' cc' maxL' 4) {ix : Nat} (hw : Cond.methodLink y.cls ix y' ∈ wG) {a : Int} {x1 x2 x3 x4 : Int} (d : decode cc pc = .ok (.invokespecial ix, 3)) (hR : FR' + 1 ≤ FR ∧ 8 + (maxL' + 11) + LO' ≤ LO) (ha0 : ¬ a = 0) (c1 : cK k1 x1) (c2 : cK k2 x2) (c3 : cK k3 x3) (c4 : cK k4 x4) (hl : lv.length = nL) (hcat : catS st ≤ 8) (hf : F a x1 x2 x3 x4 h = some (v, h1)) (k : G g (pc + 3) lv st h1) : G g pc lv ((k4, x4) :: (k3, x3) :: (k2, x2) :: (k1, x1) :: (2, a) :: st) h := by
  obtain ⟨m1, m2, m3, m4, m5⟩ := hM
  exact r_cI C hA (ks := [k1, k2, k3, k4]) (xs := [x1, x2, x3, x4]) d hw m1 m2 m3 m4 m5 hR ha0 ⟨c1, c2, c3, c4, trivial⟩ hl hcat rfl hf rfl (fun _ => k)
theorem r_cV5 (C : Cx g cc nL y FR LO) {k1 k2 k3 k4 k5 : Nat} {F : Int → Int → Int → Int → Int → Int → MM → RR} (hA : AM (gl g) y' cc' maxL' ret' FR' LO' [2, k1, k2, k3, k4, k5] rk (un6 F)) {t : Nat} (hM : CM y' cc' maxL' ret' 5 t) {ix : Nat} (hw : Cond.methodLink y.cls ix y' ∈ wG) {a ti : Int} {x1 x2 x3 x4 x5 : Int} (d : decode cc pc = .ok (.invokevirtual ix, 3)) (hR : FR' + 1 ≤ FR ∧ 8 + (maxL' + 11) + LO' ≤ LO) (ht : tg h a = ti) (et : ti = (t : Int)) (c1 : cK k1 x1) (c2 : cK k2 x2) (c3 : cK k3 x3) (c4 : cK k4 x4) (c5 : cK k5 x5) (hl : lv.length = nL) (hcat : catS st ≤ 8) (hf : F a x1 x2 x3 x4 x5 h = some (v, h1)) (hk : rk < 3) (k : cK rk v → G g (pc + 3) lv ((rk, v) :: st) h1) : G g pc lv ((k5, x5) :: (k4, x4) :: (k3, x3) :: (k2, x2) :: (k1, x1) :: (2, a) :: st) h := by
  obtain ⟨m1, m2, m3, m4, m5, ⟨T, N, m6⟩, m7⟩ := hM
  exact r_cV C hA (ks := [k1, k2, k3, k4, k5]) (xs := [x1, x2, x3, x4, x5]) d hw m1 m2 m3 m4 m5 hR m6 m7 ht et ⟨c1, c2, c3, c4, c5, trivial⟩ hl hcat rfl hf (rsl_n hk _ _) (fun q => k (q hk))
theorem r_cS5 (C : Cx g cc nL y FR LO) {k1 k2 k3 k4 k5 : Nat} {F : Int → Int → Int → Int → Int → MM → RR} (hA : AM (gl g) y' cc' maxL' ret' FR' LO' [k1, k2, k3, k4, k5] rk (un5 F)) (hM : CMs y' cc' maxL' ret' 5) {ix : Nat} (hw : Cond.methodLink y.cls ix y' ∈ wG) {x1 x2 x3 x4 x5 : Int} (d : decode cc pc = .ok (.invokestatic ix, 3)) (hR : FR' + 1 ≤ FR ∧ 8 + (maxL' + 11) + LO' ≤ LO) (c1 : cK k1 x1) (c2 : cK k2 x2) (c3 : cK k3 x3) (c4 : cK k4 x4) (c5 : cK k5 x5) (hl : lv.length = nL) (hcat : catS st ≤ 8) (hf : F x1 x2 x3 x4 x5 h = some (v, h1)) (hk : rk < 3) (k : cK rk v → G g (pc + 3) lv ((rk, v) :: st) h1) : G g pc lv ((k5, x5) :: (k4, x4) :: (k3, x3) :: (k2, x2) :: (k1, x1) :: st) h := by
  obtain ⟨m1, m2, m3, m4⟩ := hM
  exact r_cS C hA (ks := [k1, k2, k3, k4, k5]) (xs := [x1, x2, x3, x4, x5]) d hw m1 m2 m3 m4 hR ⟨c1, c2, c3, c4, c5, trivial⟩ hl hcat rfl hf (rsl_n hk _ _) (fun q => k (q hk))
theorem r_cV5v (C : Cx g cc nL y FR LO) {k1 k2 k3 k4 k5 : Nat} {F : Int → Int → Int → Int → Int → Int → MM → RR} (hA : AM (gl g) y' cc' maxL' ret' FR' LO' [2, k1, k2, k3, k4, k5] 3 (un6 F)) {t : Nat} (hM : CM y' cc' maxL' ret' 5 t) {ix : Nat} (hw : Cond.methodLink y.cls ix y' ∈ wG) {a ti : Int} {x1 x2 x3 x4 x5 : Int} (d : decode cc pc = .ok (.invokevirtual ix, 3)) (hR : FR' + 1 ≤ FR ∧ 8 + (maxL' + 11) + LO' ≤ LO) (ht : tg h a = ti) (et : ti = (t : Int)) (c1 : cK k1 x1) (c2 : cK k2 x2) (c3 : cK k3 x3) (c4 : cK k4 x4) (c5 : cK k5 x5) (hl : lv.length = nL) (hcat : catS st ≤ 8) (hf : F a x1 x2 x3 x4 x5 h = some (v, h1)) (k : G g (pc + 3) lv st h1) : G g pc lv ((k5, x5) :: (k4, x4) :: (k3, x3) :: (k2, x2) :: (k1, x1) :: (2, a) :: st) h := by
  obtain ⟨m1, m2, m3, m4, m5, ⟨T, N, m6⟩, m7⟩ := hM
  exact r_cV C hA (ks := [k1, k2, k3, k4, k5]) (xs := [x1, x2, x3, x4, x5]) d hw m1 m2 m3 m4 m5 hR m6 m7 ht et ⟨c1, c2, c3, c4, c5, trivial⟩ hl hcat rfl hf rfl (fun _ => k)
theorem r_cS5v (C : Cx g cc nL y FR LO) {k1 k2 k3 k4 k5 : Nat} {F : Int → Int → Int → Int → Int → MM → RR} (hA : AM (gl g) y' cc' maxL' ret' FR' LO' [k1, k2, k3, k4, k5] 3 (un5 F)) (hM : CMs y' cc' maxL' ret' 5) {ix : Nat} (hw : Cond.methodLink y.cls ix y' ∈ wG) {x1 x2 x3 x4 x5 : Int} (d : decode cc pc = .ok (.invokestatic ix, 3)) (hR : FR' + 1 ≤ FR ∧ 8 + (maxL' + 11) + LO' ≤ LO) (c1 : cK k1 x1) (c2 : cK k2 x2) (c3 : cK k3 x3) (c4 : cK k4 x4) (c5 : cK k5 x5) (hl : lv.length = nL) (hcat : catS st ≤ 8) (hf : F x1 x2 x3 x4 x5 h = some (v, h1)) (k : G g (pc + 3) lv st h1) : G g pc lv ((k5, x5) :: (k4, x4) :: (k3, x3) :: (k2, x2) :: (k1, x1) :: st) h := by
  obtain ⟨m1, m2, m3, m4⟩ := hM
  exact r_cS C hA (ks := [k1, k2, k3, k4, k5]) (xs := [x1, x2, x3, x4, x5]) d hw m1 m2 m3 m4 hR ⟨c1, c2, c3, c4, c5, trivial⟩ hl hcat rfl hf rfl (fun _ => k)
theorem r_cI5 (C : Cx g cc nL y FR LO) {k1 k2 k3 k4 k5 : Nat} {F : Int → Int → Int → Int → Int → Int → MM → RR} (hA : AM (gl g) y' cc' maxL' none FR' LO' [2, k1, k2, k3, k4, k5] 3 (un6 F)) (hM : CMi y' cc' maxL' 5) {ix : Nat} (hw : Cond.methodLink y.cls ix y' ∈ wG) {a : Int} {x1 x2 x3 x4 x5 : Int} (d : decode cc pc = .ok (.invokespecial ix, 3)) (hR : FR' + 1 ≤ FR ∧ 8 + (maxL' + 11) + LO' ≤ LO) (ha0 : ¬ a = 0) (c1 : cK k1 x1) (c2 : cK k2 x2) (c3 : cK k3 x3) (c4 : cK k4 x4) (c5 : cK k5 x5) (hl : lv.length = nL) (hcat : catS st ≤ 8) (hf : F a x1 x2 x3 x4 x5 h = some (v, h1)) (k : G g (pc + 3) lv st h1) : G g pc lv ((k5, x5) :: (k4, x4) :: (k3, x3) :: (k2, x2) :: (k1, x1) :: (2, a) :: st) h := by
  obtain ⟨m1, m2, m3, m4, m5⟩ := hM
  exact r_cI C hA (ks := [k1, k2, k3, k4, k5]) (xs := [x1, x2, x3, x4, x5]) d hw m1 m2 m3 m4 m5 hR ha0 ⟨c1, c2, c3, c4, c5, trivial⟩ hl hcat rfl hf rfl (fun _ => k)
theorem r_cV6 (C : Cx g cc nL y FR LO) {k1 k2 k3 k4 k5 k6 : Nat} {F : Int → Int → Int → Int → Int → Int → Int → MM → RR} (hA : AM (gl g) y' cc' maxL' ret' FR' LO' [2, k1, k2, k3, k4, k5, k6] rk (un7 F)) {t : Nat} (hM : CM y' cc' maxL' ret' 6 t) {ix : Nat} (hw : Cond.methodLink y.cls ix y' ∈ wG) {a ti : Int} {x1 x2 x3 x4 x5 x6 : Int} (d : decode cc pc = .ok (.invokevirtual ix, 3)) (hR : FR' + 1 ≤ FR ∧ 8 + (maxL' + 11) + LO' ≤ LO) (ht : tg h a = ti) (et : ti = (t : Int)) (c1 : cK k1 x1) (c2 : cK k2 x2) (c3 : cK k3 x3) (c4 : cK k4 x4) (c5 : cK k5 x5) (c6 : cK k6 x6) (hl : lv.length = nL) (hcat : catS st ≤ 8) (hf : F a x1 x2 x3 x4 x5 x6 h = some (v, h1)) (hk : rk < 3) (k : cK rk v → G g (pc + 3) lv ((rk, v) :: st) h1) : G g pc lv ((k6, x6) :: (k5, x5) :: (k4, x4) :: (k3, x3) :: (k2, x2) :: (k1, x1) :: (2, a) :: st) h := by
  obtain ⟨m1, m2, m3, m4, m5, ⟨T, N, m6⟩, m7⟩ := hM
  exact r_cV C hA (ks := [k1, k2, k3, k4, k5, k6]) (xs := [x1, x2, x3, x4, x5, x6]) d hw m1 m2 m3 m4 m5 hR m6 m7 ht et ⟨c1, c2, c3, c4, c5, c6, trivial⟩ hl hcat rfl hf (rsl_n hk _ _) (fun q => k (q hk))
theorem r_cS6 (C : Cx g cc nL y FR LO) {k1 k2 k3 k4 k5 k6 : Nat} {F : Int → Int → Int → Int → Int → Int → MM → RR} (hA : AM (gl g) y' cc' maxL' ret' FR' LO' [k1, k2, k3, k4, k5, k6] rk (un6 F)) (hM : CMs y' cc' maxL' ret' 6) {ix : Nat} (hw : Cond.methodLink y.cls ix y' ∈ wG) {x1 x2 x3 x4 x5 x6 : Int} (d : decode cc pc = .ok (.invokestatic ix, 3)) (hR : FR' + 1 ≤ FR ∧ 8 + (maxL' + 11) + LO' ≤ LO) (c1 : cK k1 x1) (c2 : cK k2 x2) (c3 : cK k3 x3) (c4 : cK k4 x4) (c5 : cK k5 x5) (c6 : cK k6 x6) (hl : lv.length = nL) (hcat : catS st ≤ 8) (hf : F x1 x2 x3 x4 x5 x6 h = some (v, h1)) (hk : rk < 3) (k : cK rk v → G g (pc + 3) lv ((rk, v) :: st) h1) : G g pc lv ((k6, x6) :: (k5, x5) :: (k4, x4) :: (k3, x3) :: (k2, x2) :: (k1, x1) :: st) h := by
  obtain ⟨m1, m2, m3, m4⟩ := hM
  exact r_cS C hA (ks := [k1, k2, k3, k4, k5, k6]) (xs := [x1, x2, x3, x4, x5, x6]) d hw m1 m2 m3 m4 hR ⟨c1, c2, c3, c4, c5, c6, trivial⟩ hl hcat rfl hf (rsl_n hk _ _) (fun q => k (q hk))
theorem r_cV6v (C : Cx g cc nL y FR LO) {k1 k2 k3 k4 k5 k6 : Nat} {F : Int → Int → Int → Int → Int → Int → Int → MM → RR} (hA : AM (gl g) y' cc' maxL' ret' FR' LO' [2, k1, k2, k3, k4, k5, k6] 3 (un7 F)) {t : Nat} (hM : CM y' cc' maxL' ret' 6 t) {ix : Nat} (hw : Cond.methodLink y.cls ix y' ∈ wG) {a ti : Int} {x1 x2 x3 x4 x5 x6 : Int} (d : decode cc pc = .ok (.invokevirtual ix, 3)) (hR : FR' + 1 ≤ FR ∧ 8 + (maxL' + 11) + LO' ≤ LO) (ht : tg h a = ti) (et : ti = (t : Int)) (c1 : cK k1 x1) (c2 : cK k2 x2) (c3 : cK k3 x3) (c4 : cK k4 x4) (c5 : cK k5 x5) (c6 : cK k6 x6) (hl : lv.length = nL) (hcat : catS st ≤ 8) (hf : F a x1 x2 x3 x4 x5 x6 h = some (v, h1)) (k : G g (pc + 3) lv st h1) : G g pc lv ((k6, x6) :: (k5, x5) :: (k4, x4) :: (k3, x3) :: (k2, x2) :: (k1, x1) :: (2, a) :: st) h := by
  obtain ⟨m1, m2, m3, m4, m5, ⟨T, N, m6⟩, m7⟩ := hM
  exact r_cV C hA (ks := [k1, k2, k3, k4, k5, k6]) (xs := [x1, x2, x3, x4, x5, x6]) d hw m1 m2 m3 m4 m5 hR m6 m7 ht et ⟨c1, c2, c3, c4, c5, c6, trivial⟩ hl hcat rfl hf rfl (fun _ => k)
theorem r_cS6v (C : Cx g cc nL y FR LO) {k1 k2 k3 k4 k5 k6 : Nat} {F : Int → Int → Int → Int → Int → Int → MM → RR} (hA : AM (gl g) y' cc' maxL' ret' FR' LO' [k1, k2, k3, k4, k5, k6] 3 (un6 F)) (hM : CMs y' cc' maxL' ret' 6) {ix : Nat} (hw : Cond.methodLink y.cls ix y' ∈ wG) {x1 x2 x3 x4 x5 x6 : Int} (d : decode cc pc = .ok (.invokestatic ix, 3)) (hR : FR' + 1 ≤ FR ∧ 8 + (maxL' + 11) + LO' ≤ LO) (c1 : cK k1 x1) (c2 : cK k2 x2) (c3 : cK k3 x3) (c4 : cK k4 x4) (c5 : cK k5 x5) (c6 : cK k6 x6) (hl : lv.length = nL) (hcat : catS st ≤ 8) (hf : F x1 x2 x3 x4 x5 x6 h = some (v, h1)) (k : G g (pc + 3) lv st h1) : G g pc lv ((k6, x6) :: (k5, x5) :: (k4, x4) :: (k3, x3) :: (k2, x2) :: (k1, x1) :: st) h := by
  obtain ⟨m1, m2, m3, m4⟩ := hM
  exact r_cS C hA (ks := [k1, k2, k3, k4, k5, k6]) (xs := [x1, x2, x3, x4, x5, x6]) d hw m1 m2 m3 m4 hR ⟨c1, c2, c3, c4, c5, c6, trivial⟩ hl hcat rfl hf rfl (fun _ => k)
theorem r_cI6 (C : Cx g cc nL y FR LO) {k1 k2 k3 k4 k5 k6 : Nat} {F : Int → Int → Int → Int → Int → Int → Int → MM → RR} (hA : AM (gl g) y' cc' maxL' none FR' LO' [2, k1, k2, k3, k4, k5, k6] 3 (un7 F)) (hM : CMi y' cc' maxL' 6) {ix : Nat} (hw : Cond.methodLink y.cls ix y' ∈ wG) {a : Int} {x1 x2 x3 x4 x5 x6 : Int} (d : decode cc pc = .ok (.invokespecial ix, 3)) (hR : FR' + 1 ≤ FR ∧ 8 + (maxL' + 11) + LO' ≤ LO) (ha0 : ¬ a = 0) (c1 : cK k1 x1) (c2 : cK k2 x2) (c3 : cK k3 x3) (c4 : cK k4 x4) (c5 : cK k5 x5) (c6 : cK k6 x6) (hl : lv.length = nL) (hcat : catS st ≤ 8) (hf : F a x1 x2 x3 x4 x5 x6 h = some (v, h1)) (k : G g (pc + 3) lv st h1) : G g pc lv ((k6, x6) :: (k5, x5) :: (k4, x4) :: (k3, x3) :: (k2, x2) :: (k1, x1) :: (2, a) :: st) h := by
  obtain ⟨m1, m2, m3, m4, m5⟩ := hM
  exact r_cI C hA (ks := [k1, k2, k3, k4, k5, k6]) (xs := [x1, x2, x3, x4, x5, x6]) d hw m1 m2 m3 m4 m5 hR ha0 ⟨c1, c2, c3, c4, c5, c6, trivial⟩ hl hcat rfl hf rfl (fun _ => k)
theorem r_cN3 (C : Cx g cc nL y FR LO) {k1 k2 k3 : Nat} {F : Int → Int → Int → MM → RR} (hA : AM (gl g) y' cc' maxL' ret' FR' LO' [k1, k2, k3] rk (un3 F)) (hM : CMs y' cc' maxL' ret' 3) {ix : Nat} {host : String} (hw : va_Nw (.methodLinkNest y.cls ix y' host) (gs g)) {x1 x2 x3 : Int} (d : decode cc pc = .ok (.invokestatic ix, 3)) (hR : FR' + 1 ≤ FR ∧ 8 + (maxL' + 11) + LO' ≤ LO) (c1 : cK k1 x1) (c2 : cK k2 x2) (c3 : cK k3 x3) (hl : lv.length = nL) (hcat : catS st ≤ 8) (hf : F x1 x2 x3 h = some (v, h1)) (hk : rk < 3) (k : cK rk v → G g (pc + 3) lv ((rk, v) :: st) h1) : G g pc lv ((k3, x3) :: (k2, x2) :: (k1, x1) :: st) h := by
  obtain ⟨m1, m2, m3, m4⟩ := hM
  exact r_cN C hA (ks := [k1, k2, k3]) (xs := [x1, x2, x3]) d hw m1 m2 m3 m4 hR ⟨c1, c2, c3, trivial⟩ hl hcat rfl hf (rsl_n hk _ _) (fun q => k (q hk))
end AUX

theorem canL_0 {xs : List Int} (h : canL [] xs) : xs = [] := by
  rcases xs with _ | ⟨b, xs⟩
  · rfl
  · exact absurd h (by simp [canL])
theorem canL_1 {k0 : Nat} {xs : List Int} (h : canL [k0] xs) : ∃ a0 : Int, xs = [a0] ∧ cK k0 a0 := by
  rcases xs with _ | ⟨b0, xs⟩
  · exact absurd h (by simp [canL])
  obtain ⟨c0, h⟩ := h
  rcases xs with _ | ⟨b, xs⟩
  · exact ⟨b0, rfl, c0⟩
  · exact absurd h (by simp [canL])
theorem canL_2 {k0 k1 : Nat} {xs : List Int} (h : canL [k0, k1] xs) : ∃ a0 a1 : Int, xs = [a0, a1] ∧ cK k0 a0 ∧ cK k1 a1 := by
  rcases xs with _ | ⟨b0, xs⟩
  · exact absurd h (by simp [canL])
  obtain ⟨c0, h⟩ := h
  rcases xs with _ | ⟨b1, xs⟩
  · exact absurd h (by simp [canL])
  obtain ⟨c1, h⟩ := h
  rcases xs with _ | ⟨b, xs⟩
  · exact ⟨b0, b1, rfl, c0, c1⟩
  · exact absurd h (by simp [canL])
theorem canL_3 {k0 k1 k2 : Nat} {xs : List Int} (h : canL [k0, k1, k2] xs) : ∃ a0 a1 a2 : Int, xs = [a0, a1, a2] ∧ cK k0 a0 ∧ cK k1 a1 ∧ cK k2 a2 := by
  rcases xs with _ | ⟨b0, xs⟩
  · exact absurd h (by simp [canL])
  obtain ⟨c0, h⟩ := h
  rcases xs with _ | ⟨b1, xs⟩
  · exact absurd h (by simp [canL])
  obtain ⟨c1, h⟩ := h
  rcases xs with _ | ⟨b2, xs⟩
  · exact absurd h (by simp [canL])
  obtain ⟨c2, h⟩ := h
  rcases xs with _ | ⟨b, xs⟩
  · exact ⟨b0, b1, b2, rfl, c0, c1, c2⟩
  · exact absurd h (by simp [canL])
theorem canL_4 {k0 k1 k2 k3 : Nat} {xs : List Int} (h : canL [k0, k1, k2, k3] xs) : ∃ a0 a1 a2 a3 : Int, xs = [a0, a1, a2, a3] ∧ cK k0 a0 ∧ cK k1 a1 ∧ cK k2 a2 ∧ cK k3 a3 := by
  rcases xs with _ | ⟨b0, xs⟩
  · exact absurd h (by simp [canL])
  obtain ⟨c0, h⟩ := h
  rcases xs with _ | ⟨b1, xs⟩
  · exact absurd h (by simp [canL])
  obtain ⟨c1, h⟩ := h
  rcases xs with _ | ⟨b2, xs⟩
  · exact absurd h (by simp [canL])
  obtain ⟨c2, h⟩ := h
  rcases xs with _ | ⟨b3, xs⟩
  · exact absurd h (by simp [canL])
  obtain ⟨c3, h⟩ := h
  rcases xs with _ | ⟨b, xs⟩
  · exact ⟨b0, b1, b2, b3, rfl, c0, c1, c2, c3⟩
  · exact absurd h (by simp [canL])
theorem canL_5 {k0 k1 k2 k3 k4 : Nat} {xs : List Int} (h : canL [k0, k1, k2, k3, k4] xs) : ∃ a0 a1 a2 a3 a4 : Int, xs = [a0, a1, a2, a3, a4] ∧ cK k0 a0 ∧ cK k1 a1 ∧ cK k2 a2 ∧ cK k3 a3 ∧ cK k4 a4 := by
  rcases xs with _ | ⟨b0, xs⟩
  · exact absurd h (by simp [canL])
  obtain ⟨c0, h⟩ := h
  rcases xs with _ | ⟨b1, xs⟩
  · exact absurd h (by simp [canL])
  obtain ⟨c1, h⟩ := h
  rcases xs with _ | ⟨b2, xs⟩
  · exact absurd h (by simp [canL])
  obtain ⟨c2, h⟩ := h
  rcases xs with _ | ⟨b3, xs⟩
  · exact absurd h (by simp [canL])
  obtain ⟨c3, h⟩ := h
  rcases xs with _ | ⟨b4, xs⟩
  · exact absurd h (by simp [canL])
  obtain ⟨c4, h⟩ := h
  rcases xs with _ | ⟨b, xs⟩
  · exact ⟨b0, b1, b2, b3, b4, rfl, c0, c1, c2, c3, c4⟩
  · exact absurd h (by simp [canL])
theorem canL_6 {k0 k1 k2 k3 k4 k5 : Nat} {xs : List Int} (h : canL [k0, k1, k2, k3, k4, k5] xs) : ∃ a0 a1 a2 a3 a4 a5 : Int, xs = [a0, a1, a2, a3, a4, a5] ∧ cK k0 a0 ∧ cK k1 a1 ∧ cK k2 a2 ∧ cK k3 a3 ∧ cK k4 a4 ∧ cK k5 a5 := by
  rcases xs with _ | ⟨b0, xs⟩
  · exact absurd h (by simp [canL])
  obtain ⟨c0, h⟩ := h
  rcases xs with _ | ⟨b1, xs⟩
  · exact absurd h (by simp [canL])
  obtain ⟨c1, h⟩ := h
  rcases xs with _ | ⟨b2, xs⟩
  · exact absurd h (by simp [canL])
  obtain ⟨c2, h⟩ := h
  rcases xs with _ | ⟨b3, xs⟩
  · exact absurd h (by simp [canL])
  obtain ⟨c3, h⟩ := h
  rcases xs with _ | ⟨b4, xs⟩
  · exact absurd h (by simp [canL])
  obtain ⟨c4, h⟩ := h
  rcases xs with _ | ⟨b5, xs⟩
  · exact absurd h (by simp [canL])
  obtain ⟨c5, h⟩ := h
  rcases xs with _ | ⟨b, xs⟩
  · exact ⟨b0, b1, b2, b3, b4, b5, rfl, c0, c1, c2, c3, c4, c5⟩
  · exact absurd h (by simp [canL])
theorem canL_7 {k0 k1 k2 k3 k4 k5 k6 : Nat} {xs : List Int} (h : canL [k0, k1, k2, k3, k4, k5, k6] xs) : ∃ a0 a1 a2 a3 a4 a5 a6 : Int, xs = [a0, a1, a2, a3, a4, a5, a6] ∧ cK k0 a0 ∧ cK k1 a1 ∧ cK k2 a2 ∧ cK k3 a3 ∧ cK k4 a4 ∧ cK k5 a5 ∧ cK k6 a6 := by
  rcases xs with _ | ⟨b0, xs⟩
  · exact absurd h (by simp [canL])
  obtain ⟨c0, h⟩ := h
  rcases xs with _ | ⟨b1, xs⟩
  · exact absurd h (by simp [canL])
  obtain ⟨c1, h⟩ := h
  rcases xs with _ | ⟨b2, xs⟩
  · exact absurd h (by simp [canL])
  obtain ⟨c2, h⟩ := h
  rcases xs with _ | ⟨b3, xs⟩
  · exact absurd h (by simp [canL])
  obtain ⟨c3, h⟩ := h
  rcases xs with _ | ⟨b4, xs⟩
  · exact absurd h (by simp [canL])
  obtain ⟨c4, h⟩ := h
  rcases xs with _ | ⟨b5, xs⟩
  · exact absurd h (by simp [canL])
  obtain ⟨c5, h⟩ := h
  rcases xs with _ | ⟨b6, xs⟩
  · exact absurd h (by simp [canL])
  obtain ⟨c6, h⟩ := h
  rcases xs with _ | ⟨b, xs⟩
  · exact ⟨b0, b1, b2, b3, b4, b5, b6, rfl, c0, c1, c2, c3, c4, c5, c6⟩
  · exact absurd h (by simp [canL])
def gk (h : MM) (a t : Int) (k : RR) : RR := if tg h a = t then k else none
theorem gk_s {h : MM} {a t : Int} {k : RR} {w : Int × MM} (q : gk h a t k = some w) : tg h a = t ∧ k = some w := by
  unfold gk at q
  by_cases c : tg h a = t
  · rw [if_pos c] at q; exact ⟨c, q⟩
  · rw [if_neg c] at q; cases q
def gk2 (h : MM) (a t : Int) (k : RR) : RR := if tg h a = t ∧ 100 ≤ a then k else none
theorem gk2_s {h : MM} {a t : Int} {k : RR} {w : Int × MM} (q : gk2 h a t k = some w) : (tg h a = t ∧ 100 ≤ a) ∧ k = some w := by
  unfold gk2 at q
  by_cases c : tg h a = t ∧ 100 ≤ a
  · rw [if_pos c] at q; exact ⟨c, q⟩
  · rw [if_neg c] at q; cases q
def nz (z : Int) (k : RR) : RR := if z = 0 then none else k
theorem nz_s {z : Int} {k : RR} {w : Int × MM} (q : nz z k = some w) : ¬ z = 0 ∧ k = some w := by
  unfold nz at q
  by_cases c : z = 0
  · rw [if_pos c] at q; cases q
  · rw [if_neg c] at q; exact ⟨c, q⟩
theorem in_pl {ws : List Cond} (ps : List Nat) (hp : ws = ps.filterMap (fun i => lw_tbl[i]?)) (hg : ws.all goodWord = true) : ∀ w ∈ ws, w ∈ wG := by
  intro w hw
  have h1 := List.all_eq_true.mp hg w hw
  rw [hp] at hw
  obtain ⟨i, -, hi⟩ := List.mem_filterMap.mp hw
  exact List.mem_filter.mpr ⟨List.mem_of_getElem? hi, h1⟩
theorem AM.none {l : Launch} {y : MethodName} {cc : ByteArray} {maxL : Nat} {ret : Option FieldType} {FR LO : Nat} {ks : List Nat} {rk : Nat} {f : List Int → MM → RR} (hf : ∀ xs h Z, canL ks xs → f xs h = some Z → False) : AM l y cc maxL ret FR LO ks rk f := fun _ xs h Z hx q => (hf xs h Z hx q).elim
theorem ite_s {P : Prop} {i : Decidable P} {a b : RR} {z : Int × MM} (q : @ite _ P i a b = some z) : (P ∧ a = some z) ∨ (¬ P ∧ b = some z) := by
  by_cases c : P
  · rw [if_pos c] at q; exact Or.inl ⟨c, q⟩
  · rw [if_neg c] at q; exact Or.inr ⟨c, q⟩
theorem ite_p {P : Prop} {i : Decidable P} {a b : RR} {z : Int × MM} (c : P) (q : @ite _ P i a b = some z) : a = some z := by rw [if_pos c] at q; exact q
theorem ite_n {P : Prop} {i : Decidable P} {a b : RR} {z : Int × MM} (c : ¬ P) (q : @ite _ P i a b = some z) : b = some z := by rw [if_neg c] at q; exact q
def dz (z : Int) (k : RR) : RR := if z = 0 then none else k
theorem dz_s {z : Int} {k : RR} {w : Int × MM} (q : dz z k = some w) : ¬ z = 0 ∧ k = some w := by
  unfold dz at q
  by_cases c : z = 0
  · rw [if_pos c] at q; cases q
  · rw [if_neg c] at q; exact ⟨c, q⟩
