section CALL
variable {g : GT} {cc : ByteArray} {nL : Nat} {y : MethodName} {FR LO : Nat} {pc : Nat} {lv st : List (Nat × Int)} {h : MM}
variable {y' : MethodName} {cc' : ByteArray} {maxL' : Nat} {ret' : Option FieldType} {FR' LO' rk : Nat} {ks : List Nat} {f : List Int → MM → RR} {xs : List Int} {Z : Int × MM} {st0 st1 : List (Nat × Int)}
def clsOk (y' : MethodName) (n : Nat) : Prop := y'.cls ≠ "java/lang/invoke/MethodHandle" ∧ y'.cls ≠ "java/lang/invoke/VarHandle" ∧ (parseMethodDescriptor y'.desc).map (fun d => d.parameters.length) = some n
theorem Cx.callB (C : Cx g cc nL y FR LO) {ix n : Nat} (hl : Cond.methodLink y.cls ix y' ∈ wG) (hc : Cond.code y' cc' maxL' ret' ∈ wG) (hi : Cond.initialized y'.cls ∈ wG) (hd : clsOk y' n) (hR : FR' + 1 ≤ FR ∧ 8 + (maxL' + 11) + LO' ≤ LO) : CallB (gR g) (gs g) (ga g) y.cls ix y' cc' maxL' ret' (Cond.code y' cc' maxL' ret' :: wG) { frames := FR', cells := (NM - nx h).toNat, slots := (SM - sl h).toNat, locals := LO' } (NM - nx h).toNat (SM - sl h).toNat n :=
  callB_of n C.hts (wG_sub hc) rfl rfl rfl (C.hts _ hi) (C.hts _ hl) hd (by rw [C.hrm]; exact hR)
theorem r_cV (C : Cx g cc nL y FR LO) (hA : AM (gl g) y' cc' maxL' ret' FR' LO' (2 :: ks) rk f) {ix t N : Nat} {T : u_T} {a ti : Int} (d : decode cc pc = .ok (.invokevirtual ix, 3)) (hw1 : Cond.methodLink y.cls ix y' ∈ wG) (hw2 : Cond.instanceMethod y' ∈ wG) (hw3 : Cond.selects y'.cls y' y' ∈ wG) (hw4 : Cond.code y' cc' maxL' ret' ∈ wG) (hw5 : Cond.initialized y'.cls ∈ wG) (hd : clsOk y' ks.length) (hR : FR' + 1 ≤ FR ∧ 8 + (maxL' + 11) + LO' ≤ LO) (hc : vwCl[t]? = some (y'.cls, T, N)) (h13 : t < 13) (ht : tg h a = ti) (et : ti = (t : Int)) (hx : canL ks xs) (hl : lv.length = nL) (hcat : catS st ≤ 8) (hs : st0 = (List.zip ks xs).reverse ++ (2, a) :: st) (hf : f (a :: xs) h = some Z) (hst : st1 = rsl rk Z.1 ++ st) (k : (rk < 3 → cK rk Z.1) → G g (pc + 3) lv st1 Z.2) : G g pc lv st0 h := by
  refine G_run C (a := (cvL (gE g) (2 :: ks) (a :: xs)).toArray) hst (fun ls H locs l R S => ?_) k
  subst et
  obtain ⟨b1, b2, ⟨cell, c1, c2, c3, c4⟩, b3⟩ := R.1.obj ht h13
  have htn : (tg h a).toNat = t := by omega
  rw [htn] at c2
  obtain ⟨hS, hfc, kC, hkC, hkind⟩ := C.hK.1.1 t _ hc
  have ha : cv (gE g) 2 a = .ref (ad (gE g) a) := cv_ref (by omega)
  have hcv : cvL (gE g) (2 :: ks) (a :: xs) = .ref (ad (gE g) a) :: cvL (gE g) ks xs := by
    show cv (gE g) 2 a :: cvL (gE g) ks xs = _
    rw [ha]
  rw [hcv]
  refine va_runV (As := cvL (gE g) ks xs) ⟨C.hx, C.hb, C.hml, C.hown, C.hts⟩ (hA (gE g) (a :: xs) h Z ⟨trivial, hx⟩ hf) ⟨C.callB hw1 hw4 hw5 hd hR, C.hts _ hw2, C.hts _ hw3⟩ ⟨Cx.blind, ⟨cell, c1, by rw [c3]; rfl, by rw [c2]; exact hfc⟩, ?_⟩ rfl (cvL_len hx) (by rw [← hl]; exact l.1) ?_ (lv_room (by rw [catS_s]; exact hcat)) d (C.fit R S)
  · have := C.pre (xs := cvL (gE g) (2 :: ks) (a :: xs)) R S
    rw [hcv] at this ⊢
    exact this
  · show st0.map (cvp (gE g)) = _
    rw [hs, List.map_append, List.map_reverse, cvL_zip, List.map_cons]
    show _ ++ cv (gE g) 2 a :: _ = _
    rw [ha]
theorem r_cI (C : Cx g cc nL y FR LO) (hA : AM (gl g) y' cc' maxL' none FR' LO' (2 :: ks) rk f) {ix : Nat} {a : Int} (d : decode cc pc = .ok (.invokespecial ix, 3)) (hw1 : Cond.methodLink y.cls ix y' ∈ wG) (hw2 : Cond.instanceMethod y' ∈ wG) (hw4 : Cond.code y' cc' maxL' none ∈ wG) (hw5 : Cond.initialized y'.cls ∈ wG) (hin : y'.name = "<init>") (hd : clsOk y' ks.length) (hR : FR' + 1 ≤ FR ∧ 8 + (maxL' + 11) + LO' ≤ LO) (ha0 : ¬ a = 0) (hx : canL ks xs) (hl : lv.length = nL) (hcat : catS st ≤ 8) (hs : st0 = (List.zip ks xs).reverse ++ (2, a) :: st) (hf : f (a :: xs) h = some Z) (hst : st1 = rsl rk Z.1 ++ st) (k : (rk < 3 → cK rk Z.1) → G g (pc + 3) lv st1 Z.2) : G g pc lv st0 h := by
  refine G_run C (a := (cvL (gE g) (2 :: ks) (a :: xs)).toArray) hst (fun ls H locs l R S => ?_) k
  have ha : cv (gE g) 2 a = .ref (ad (gE g) a) := cv_ref ha0
  have hcv : cvL (gE g) (2 :: ks) (a :: xs) = .ref (ad (gE g) a) :: cvL (gE g) ks xs := by
    show cv (gE g) 2 a :: cvL (gE g) ks xs = _
    rw [ha]
  rw [hcv]
  refine va_runI (As := cvL (gE g) ks xs) ⟨C.hx, C.hb, C.hml, C.hown, C.hts⟩ (hA (gE g) (a :: xs) h Z ⟨trivial, hx⟩ hf) ⟨C.callB hw1 hw4 hw5 hd hR, hin, C.hts _ hw2⟩ ⟨Cx.blind, ?_⟩ rfl (cvL_len hx) (by rw [← hl]; exact l.1) ?_ (lv_room (by rw [catS_s]; exact hcat)) d (C.fit R S)
  · have := C.pre (xs := cvL (gE g) (2 :: ks) (a :: xs)) R S
    rw [hcv] at this ⊢
    exact this
  · show st0.map (cvp (gE g)) = _
    rw [hs, List.map_append, List.map_reverse, cvL_zip, List.map_cons]
    show _ ++ cv (gE g) 2 a :: _ = _
    rw [ha]
theorem r_cS (C : Cx g cc nL y FR LO) (hA : AM (gl g) y' cc' maxL' ret' FR' LO' ks rk f) {ix : Nat} (d : decode cc pc = .ok (.invokestatic ix, 3)) (hw1 : Cond.methodLink y.cls ix y' ∈ wG) (hw2 : Cond.static y' ∈ wG) (hw4 : Cond.code y' cc' maxL' ret' ∈ wG) (hw5 : Cond.initialized y'.cls ∈ wG) (hd : clsOk y' ks.length) (hR : FR' + 1 ≤ FR ∧ 8 + (maxL' + 11) + LO' ≤ LO) (hx : canL ks xs) (hl : lv.length = nL) (hcat : catS st ≤ 8) (hs : st0 = (List.zip ks xs).reverse ++ st) (hf : f xs h = some Z) (hst : st1 = rsl rk Z.1 ++ st) (k : (rk < 3 → cK rk Z.1) → G g (pc + 3) lv st1 Z.2) : G g pc lv st0 h := by
  refine G_run C (a := (cvL (gE g) ks xs).toArray) hst (fun ls H locs l R S => ?_) k
  refine va_runS (As := cvL (gE g) ks xs) ⟨C.hx, C.hb, C.hml, C.hown, C.hts⟩ (hA (gE g) xs h Z hx hf) ⟨C.callB hw1 hw4 hw5 hd hR, C.hts _ hw2⟩ ⟨Cx.blind, C.pre R S⟩ rfl (cvL_len hx) (by rw [← hl]; exact l.1) ?_ (lv_room (by rw [catS_s]; exact hcat)) d (C.fit R S)
  show st0.map (cvp (gE g)) = _
  rw [hs, List.map_append, List.map_reverse, cvL_zip]
/-- a private static method of the nest's host -/
theorem r_cN (C : Cx g cc nL y FR LO) (hA : AM (gl g) y' cc' maxL' ret' FR' LO' ks rk f) {ix : Nat} {host : String} (d : decode cc pc = .ok (.invokestatic ix, 3)) (hw1 : va_Nw (.methodLinkNest y.cls ix y' host) (gs g)) (hw2 : Cond.static y' ∈ wG) (hw4 : Cond.code y' cc' maxL' ret' ∈ wG) (hw5 : Cond.initialized y'.cls ∈ wG) (hd : clsOk y' ks.length) (hR : FR' + 1 ≤ FR ∧ 8 + (maxL' + 11) + LO' ≤ LO) (hx : canL ks xs) (hl : lv.length = nL) (hcat : catS st ≤ 8) (hs : st0 = (List.zip ks xs).reverse ++ st) (hf : f xs h = some Z) (hst : st1 = rsl rk Z.1 ++ st) (k : (rk < 3 → cK rk Z.1) → G g (pc + 3) lv st1 Z.2) : G g pc lv st0 h := by
  refine G_run C (a := (cvL (gE g) ks xs).toArray) hst (fun ls H locs l R S => ?_) k
  refine va_runSN (As := cvL (gE g) ks xs) ⟨C.hx, C.hb, C.hml, C.hown, C.hts⟩ (hA (gE g) xs h Z hx hf) ⟨va_cnB ks.length C.hts (wG_sub hw4) rfl rfl rfl hw1 (C.hts _ hw5) hd (by rw [C.hrm]; exact hR), C.hts _ hw2, trivial⟩ ⟨Cx.blind, C.pre R S⟩ rfl (cvL_len hx) (by rw [← hl]; exact l.1) ?_ (lv_room (by rw [catS_s]; exact hcat)) d (C.fit R S)
  show st0.map (cvp (gE g)) = _
  rw [hs, List.map_append, List.map_reverse, cvL_zip]
theorem r_obj (C : Cx g cc nL y FR LO) {ix : Nat} {a : Int} (d : decode cc pc = .ok (.invokespecial ix, 3)) (hw1 : Cond.methodLink y.cls ix Lib.objectInit ∈ wG) (hw2 : Cond.instanceMethod Lib.objectInit ∈ wG) (hw3 : Cond.code Lib.objectInit ⟨#[0xb1]⟩ 1 none ∈ wG) (hR : 1 ≤ FR ∧ catS st + 12 ≤ LO) (ha0 : ¬ a = 0) (hl : lv.length = nL) (k : G g (pc + 3) lv st h) : G g pc lv ((2, a) :: st) h := by
  intro ls H locs l R S
  simp only [List.map_cons, cvp, cv_ref ha0]
  exact W.objInit C.hx C.hb C.hown (C.hts _ hw1) (C.hts _ hw2) (C.hts _ hw3) rfl (by rw [C.hml, ← hl]; exact l.1) rfl d (by rw [C.hrm]; exact hR.1) (by rw [C.hrm, catS_s]; show 2 * 0 + catS st + 12 ≤ LO; omega) (k ls H locs l R S)
end CALL
/-- A CONTRACT OUT OF A WALK -/
theorem AM.intro {l : Launch} {y : MethodName} {cc : ByteArray} {maxL : Nat} {ret : Option FieldType} {FR LO : Nat} {ks : List Nat} {rk : Nat} {f : List Int → MM → RR} (hp : plainName y.cls = true) (hlen : ∀ xs : List Int, canL ks xs → (lvA ks xs).length ≤ maxL) (b : ∀ (g : GT) (xs : List Int) (h : MM) (Z : Int × MM), gl g = l → Cx g cc maxL y FR LO → Rt g ret rk Z → canL ks xs → f xs h = some Z → G g 0 (lvE ks xs maxL) [] h) : AM l y cc maxL ret FR LO ks rk f := by
  intro E xs h Z hx hf
  refine Met.ofW (cc := cc) (maxL := maxL) (ret := ret) hp rfl ?_
  intro p e s m args below meth c s₁ B hml hv
  obtain ⟨rfl, hR, hK⟩ := hv
  have hts := atoms_spec (ws := Cond.code y cc maxL ret :: wG) B.pre
  have hn := hlen xs hx
  rw [lvA_len ks xs hx E] at hn
  have hl := lv_entry (cvL E ks xs) (n := maxL) hn
  rw [lg_entry_eq]
  generalize hg : ((E, h, p, l, e, (headSpec (Cond.code y cc maxL ret :: wG) { frames := FR, cells := (NM - nx h).toNat, slots := (SM - sl h).toNat, locals := LO }).room, s, m, (cvL E ks xs).toArray, below, meth, c, MQ below (Qm E (sl h) rk Z) (cvL E ks xs).toArray s (NM - nx h).toNat (SM - sl h).toNat (fun q => eb E ≤ q)) : GT) = g
  have C : Cx g cc maxL y FR LO := by
    subst hg
    exact ⟨B.exec, B.bytes, hml, findClass_of_methodNamed B.named, fun w hw => hts w (List.mem_cons_of_mem _ hw), B.notSynchronized, hK, hR, rfl, fun _ => (name_of_methodNamed B.named B.method).1⟩
  have q := b g xs h Z (by subst hg; rfl) C (by subst hg; exact ⟨B.returns, rfl⟩) hx hf _ s.heap [] (⟨by rw [hl.1]; simp [lvE, lvA_len ks xs hx E]; omega, hl.2.1, fun i k x hi hk => ?_⟩ : lvK (gE g) ((lg_sl (cvL E ks xs) ++ List.replicate (maxL - (lg_sl (cvL E ks xs)).length) Slot.unset).toArray) (lvE ks xs maxL)) (by subst hg; exact ⟨hR, Int.le_refl _⟩) (by subst hg; exact va_S.rf)
  · have := GW.tight C (ce := 0) (sn := 0) q
    subst hg
    exact this
  · have hi' : (lvA ks xs)[i]? = some (k, x) := by
      by_cases hc : i < (lvA ks xs).length
      · unfold lvE at hi; rw [List.getElem?_append_left hc] at hi; exact hi
      · unfold lvE at hi; rw [List.getElem?_append_right (by omega), List.getElem?_replicate] at hi
        split at hi
        · cases hi; omega
        · cases hi
    have := hl.2.2 _ (lvA_s (E := E) ks xs 0 i k x hi' hk)
    rw [Nat.zero_add] at this
    subst hg
    exact this
