theorem tg_mc (h : MM) (s sp a dp n b : Int) : tg (mc h s sp a dp n) b = tg h b := rfl
theorem ln_mc (h : MM) (s sp a dp n b : Int) : ln (mc h s sp a dp n) b = ln h b := rfl
theorem nx_mc (h : MM) (s sp a dp n : Int) : nx (mc h s sp a dp n) = nx h := rfl
theorem sl_mc (h : MM) (s sp a dp n : Int) : sl (mc h s sp a dp n) = sl h := rfl
theorem mv_mc (h : MM) (s sp a dp n b j : Int) : mv (mc h s sp a dp n) b j = if b = a ∧ dp ≤ j ∧ j < dp + n then mv h s (sp + (j - dp)) else mv h b j := rfl
theorem mv_mcne {h : MM} {s sp a dp n b : Int} (hb : b ≠ a) (j : Int) : mv (mc h s sp a dp n) b j = mv h b j := by rw [mv_mc, if_neg (fun q => hb q.1)]
theorem cOK.mc_ne {E : EV} {h : MM} {H : Heap} {s sp a dp n b : Int} (hb : b ≠ a) (q : cOK E h b H) : cOK E (mc h s sp a dp n) b H := by
  unfold cOK oOK aOK sOK at q ⊢
  simp only [tg_mc, ln_mc, nx_mc, mv_mcne hb] at q ⊢
  exact q
theorem arrV_aOK {E : EV} {h : MM} {H : Heap} {a : Int} {t : Nat} (q : tg h a = (t : Int)) (hS : eS E t (eA E t)) (h0 : 0 ≤ ln h a) (h1 : ln h a ≤ 2147483647) (e : H[ad E a]? = some (arrV (eA E t) (ln h a).toNat (fun j => cv E (ek t) (mv h a (j : Int))))) (hc : ∀ j : Nat, (j : Int) < ln h a → cK (ek t) (mv h a (j : Int))) : aOK E h a H := by
  have ht : (tg h a).toNat = t := by omega
  unfold aOK
  rw [ht]
  exact ⟨_, e, hS, (fun z => by cases z), (fun k z => by cases z), fun _ => ⟨rfl, rfl, rfl, rfl⟩, szOK_e (arrV_size _ _ _) h0, h0, h1, fun j hj => ⟨arrV_read _ _ (by omega), hc j hj⟩⟩
theorem Rl.acopy {E : EV} {h : MM} {H H1 : Heap} (R : Rl E h H) {t : Nat} {s sp a dp n : Int} (q : acP h (t : Int) s sp a dp n) (h1 : 100 ≤ t) (e : H1[ad E a]? = some (arrV (eA E t) (ln h a).toNat (fun j => cv E (ek t) (va_cpy (fun j => mv h s (j : Int)) (fun j => mv h a (j : Int)) sp.toNat dp.toNat n.toNat j)))) (z1 : H1.size = H.size) (o1 : ∀ p : Nat, p ≠ ad E a → H1[p]? = H[p]?) : Rl E (mc h s sp a dp n) H1 := by
  obtain ⟨q1, q2, q3, q4, q5, q6, q7, q8, q9, q10⟩ := q
  obtain ⟨u1, u2, u3, u4, u5, u6, u7⟩ := R.own q3 h1 q4
  obtain ⟨v1, v2, v3, v4, v5, v6, v7⟩ := R.own q1 h1 q2
  obtain ⟨r1, r2, r3, r4, r5, r6, r7, r8⟩ := R
  have hval : ∀ j : Nat, va_cpy (fun j => mv h s (j : Int)) (fun j => mv h a (j : Int)) sp.toNat dp.toNat n.toNat j = mv (mc h s sp a dp n) a (j : Int) := by
    intro j
    unfold va_cpy
    rw [mv_mc]
    by_cases hj : dp.toNat ≤ j ∧ j < dp.toNat + n.toNat
    · rw [if_pos hj, if_pos ⟨rfl, by omega, by omega⟩]
      show mv h s ((sp.toNat + (j - dp.toNat) : Nat) : Int) = _
      congr 1; omega
    · rw [if_neg hj, if_neg (by omega)]
  refine ⟨fun b => ?_, by rw [z1]; exact r2, r3, r4, ?_, r6, r7, r8⟩
  · by_cases hb : b = a
    · subst hb
      refine Or.inr ⟨by rw [tg_mc]; omega, by omega, u6, Or.inr (Or.inr ⟨by rw [tg_mc]; omega, by rw [tg_mc]; omega, arrV_aOK (t := t) (by rw [tg_mc]; exact q3) u2 u4 u5 ?_ (fun j hj => ?_)⟩)⟩
      · rw [e, ln_mc]
        congr 1
        unfold arrV
        congr 1
        congr 1
        funext j
        exact congrArg (cv E (ek t)) (hval _)
      · rw [mv_mc]
        split
        · have := v7 (sp + ((j : Int) - dp)).toNat (by omega)
          rw [show (((sp + ((j : Int) - dp)).toNat : Nat) : Int) = sp + ((j : Int) - dp) by omega] at this
          exact this
        · exact u7 j hj
    · exact ((r1 b).kept (o1 _ (ad_ne r8 q4 hb))).mc_ne hb
  · rw [← show ssum (eb E) H = (sl (mc h s sp a dp n)).toNat from r5]
    refine ssum_keep z1 (fun p => ?_)
    by_cases hq : p = ad E a
    · subst hq; rw [e, u1, Option.map_some, Option.map_some, arrV_size, arrV_size]
    · rw [o1 p hq]
theorem tg_cl (h : MM) (s b : Int) : tg (cl h s) b = if b = nx h then tg h s else tg h b := by
  show (if b = h.2.2.1 then h.2.1 s else h.2.1 b).1 = if b = h.2.2.1 then (h.2.1 s).1 else (h.2.1 b).1
  split <;> rfl
theorem ln_cl (h : MM) (s b : Int) : ln (cl h s) b = if b = nx h then ln h s else ln h b := by
  show (if b = h.2.2.1 then h.2.1 s else h.2.1 b).2 = if b = h.2.2.1 then (h.2.1 s).2 else (h.2.1 b).2
  split <;> rfl
theorem mv_cl (h : MM) (s b j : Int) : mv (cl h s) b j = if b = nx h then (if 0 ≤ j ∧ j < ln h s then mv h s j else 0) else mv h b j := rfl
theorem nx_cl (h : MM) (s : Int) : nx (cl h s) = nx h + 1 := rfl
theorem sl_cl (h : MM) (s : Int) : sl (cl h s) = sl h + ln h s := rfl
theorem Rl.aclone {E : EV} {h : MM} {H H1 : Heap} (R : Rl E h H) {t : Nat} {s : Int} (q : clP h (t : Int) s) (h1 : 100 ≤ t) (e : H1[H.size]? = some (arrV (eA E t) (ln h s).toNat (fun j => cv E (ek t) (mv h s (j : Int))))) (z1 : H1.size = H.size + 1) (o1 : ∀ p : Nat, p < H.size → H1[p]? = H[p]?) : Rl E (cl h s) H1 := by
  obtain ⟨q1, q2, q3, q4, q5⟩ := q
  obtain ⟨u1, u2, u3, u4, u5, u6, u7⟩ := R.own q1 h1 q2
  have had := ad_new (E := E) R.2.1 R.2.2.1
  obtain ⟨r1, r2, r3, r4, r5, r6, r7, r8⟩ := R
  refine ⟨fun b => ?_, by rw [z1, r2, nx_cl]; omega, by rw [nx_cl]; omega, by rw [nx_cl]; exact q3, ?_, by rw [sl_cl]; omega, by rw [sl_cl]; exact q4, r8⟩
  · by_cases hb : b = nx h
    · subst hb
      have e1 : tg (cl h s) (nx h) = (t : Int) := by rw [tg_cl, if_pos rfl]; exact q1
      have e2 : ln (cl h s) (nx h) = ln h s := by rw [ln_cl, if_pos rfl]
      have e3 : ∀ j : Nat, (j : Int) < ln h s → mv (cl h s) (nx h) (j : Int) = mv h s (j : Int) := fun j hj => by rw [mv_cl, if_pos rfl, if_pos ⟨by omega, hj⟩]
      refine Or.inr ⟨by omega, by omega, by rw [nx_cl]; omega, Or.inr (Or.inr ⟨by omega, by omega, arrV_aOK (t := t) e1 u2 (by omega) (by omega) ?_ (fun j hj => ?_)⟩)⟩
      · rw [had, e, e2]
        congr 1
        unfold arrV
        congr 1
        apply Array.ext
        · simp
        · intro j w1 w2
          simp only [Array.getElem_ofFn]
          rw [e3 j (by simp at w1; omega)]
      · rw [e2] at hj
        rw [e3 j hj]; exact u7 j hj
    · have hc : cOK E h b H1 := by
        rcases r1 b with q | ⟨w0, w1, w2, w3⟩
        · exact Or.inl q
        · refine cOK.kept (Or.inr ⟨w0, w1, w2, w3⟩) (o1 _ ?_)
          by_cases hb1 : 100 ≤ b
          · unfold ad; rw [if_pos hb1]; omega
          · have := ad_lt r8 (a := b) (by omega)
            omega
      unfold cOK oOK aOK sOK at hc ⊢
      simp only [tg_cl, ln_cl, mv_cl, nx_cl, if_neg hb] at hc ⊢
      rcases hc with w | ⟨w0, w1, w2, w3⟩
      · exact Or.inl w
      · exact Or.inr ⟨w0, w1, by omega, w3⟩
  · rw [ssum_push (by omega) z1 e o1, r5, arrV_size, sl_cl]; omega
theorem ek_lt {t : Nat} (h1 : 100 ≤ t) (h2 : t ≤ 102) : ek t < 2 ∧ refKind (aty t) = false := by
  have : t = 100 ∨ t = 101 ∨ t = 102 := by omega
  rcases this with rfl | rfl | rfl <;> exact ⟨by decide, rfl⟩
theorem fit_arr {E : EV} {t : Nat} {x : Int} (h1 : 100 ≤ t) (h2 : t ≤ 102) (hb : t = 102 → -128 ≤ x ∧ x ≤ 127) : fits (aty t) (cv E (ek t) x) = true := by
  have : t = 100 ∨ t = 101 ∨ t = 102 := by omega
  rcases this with rfl | rfl | rfl
  · rfl
  · rfl
  · obtain ⟨b1, b2⟩ := hb rfl
    show (decide (-128 ≤ i32 x) && decide (i32 x ≤ 127)) = true
    have e1 : (-128 : Int32) ≤ i32 x := (i32_le (x := -128) (y := x) (in32_of rfl) ⟨by omega, by omega⟩).mpr b1
    have e2 : i32 x ≤ (127 : Int32) := (i32_le (x := x) (y := 127) ⟨by omega, by omega⟩ (in32_of rfl)).mpr b2
    simp [e1, e2]
section NAT
variable {g : GT} {cc : ByteArray} {nL : Nat} {y : MethodName} {FR LO : Nat} {pc : Nat} {lv st : List (Nat × Int)} {h : MM}
theorem va_S.putL {A : Nat → Prop} {H0 H H1 : Heap} {locs L : List Loc} {a : Nat} (S : va_S A H0 H locs) (z : H1.size = H.size) (oq : ∀ q : Nat, q ≠ a → H1[q]? = H[q]?) (ha : A a) (hL : ∀ q ∈ L, q.base = a) : va_S A H0 H1 (locs ++ L) := by
  refine ⟨by rw [z]; exact S.1, fun q h1 h2 => ?_, fun q hq => ?_⟩
  · rw [oq q (fun e => h2 (by rw [e]; exact ha))]
    exact S.2.1 q h1 h2
  · rcases List.mem_append.mp hq with w | w
    · exact S.2.2 q w
    · rw [hL q w]; exact ha
theorem r_acopy (C : Cx g cc nL y FR LO) {ix t : Nat} {ti s sp a dp n : Int} (d : decode cc pc = .ok (.invokestatic ix, 3)) (q : acP h ti s sp a dp n) (et : ti = (t : Int)) (h1 : 100 ≤ t) (h2 : t ≤ 102) (hw1 : Cond.methodLink y.cls ix arraycopyName ∈ wG) (hw2 : Cond.native arraycopyName ∈ wG) (hw3 : Cond.static arraycopyName ∈ wG) (hw4 : Cond.initialized "java/lang/System" ∈ wG) (hR : 1 ≤ FR ∧ nativeFrameWords "java/lang/System" "arraycopy" 5 + 11 ≤ LO) (hl : lv.length = nL) (k : G g (pc + 3) lv [] (mc h s sp a dp n)) : G g pc lv [(0, n), (0, dp), (2, a), (0, sp), (2, s)] h := by
  intro ls H locs l R S
  subst et
  obtain ⟨q1, q2, q3, q4, q5, q6, q7, q8, q9, q10⟩ := id q
  obtain ⟨u1, u2, u3, u4, u5, u6, u7⟩ := R.1.own q3 h1 q4
  obtain ⟨v1, v2, v3, v4, v5, v6, v7⟩ := R.1.own q1 h1 q2
  obtain ⟨e1, e2⟩ := ek_lt h1 h2
  have n1 : (i32 sp).toNatClampNeg = sp.toNat := i32_nat q5 (by omega)
  have n2 : (i32 dp).toNatClampNeg = dp.toNat := i32_nat q6 (by omega)
  have n3 : (i32 n).toNatClampNeg = n.toNat := i32_nat q7 (by omega)
  have isA : ∀ (N : Nat) (F : Nat → Value), (gs g).isArrayOf (arrV (eA (gE g) t) N F) (aty t) := fun N F => C.isA h1 (by omega) u2 (fun k z => by cases z)
  have ca : cv (gE g) 2 a = .ref (ad (gE g) a) := cv_ref (by omega)
  have cs : cv (gE g) 2 s = .ref (ad (gE g) s) := cv_ref (by omega)
  simp only [List.map_cons, List.map_nil, cvp, ca, cs]
  refine W_acopy C.hx C.hb (by rw [C.hml, ← hl]; exact l.1.symm) C.hown (C.hts _ hw1) (C.hts _ hw2) (C.hts _ hw3) (C.hts _ hw4) (f := fun j => mv h s (j : Int)) (g := fun j => mv h a (j : Int)) v1 u1 (isA _ _) (isA _ _) e2 e1 (sp := i32 sp) (dp := i32 dp) (n := i32 n) (by rw [i32_lt0 ⟨by omega, by omega⟩]; omega) (by rw [i32_lt0 ⟨by omega, by omega⟩]; omega) (by rw [i32_lt0 ⟨by omega, by omega⟩]; omega) (by rw [n1, n3]; omega) (by rw [n2, n3]; omega) (fun i hi => ?_) (by rw [C.hrm]; exact hR.1) (by rw [C.hrm]; exact hR.2) d (fun H1 L w1 w2 w3 w4 => GW.tight C ?_)
  · rw [n1]
    rw [n3] at hi
    refine fit_arr h1 h2 (fun h102 => ?_)
    have := q10 (by rw [h102]; rfl) (i : Int) (by omega) (by omega)
    rw [show ((sp.toNat + i : Nat) : Int) = sp + (i : Int) by omega]
    exact this
  · rw [n1, n2, n3] at w1
    exact k ls H1 _ l ⟨R.1.acopy q h1 w1 w2 w3, R.2⟩ (S.putL w2 w3 (ad_ge q4) w4)
theorem r_aclone (C : Cx g cc nL y FR LO) {ix t : Nat} {ti s : Int} {nm : String} (d : decode cc pc = .ok (.invokevirtual ix, 3)) (q : clP h ti s) (et : ti = (t : Int)) (h1 : 100 ≤ t) (h2 : t ≤ 102) (hnm : nm = "[" ++ (aty t).toString) (hw1 : Cond.methodLink y.cls ix ⟨nm, "clone", "()Ljava/lang/Object;"⟩ ∈ wG) (hw2 : Cond.sameMethod nm "java/lang/Object" "clone" "()Ljava/lang/Object;" ∈ wG) (hw3 : Cond.native ⟨"java/lang/Object", "clone", "()Ljava/lang/Object;"⟩ ∈ wG) (hw4 : Cond.instanceMethod ⟨"java/lang/Object", "clone", "()Ljava/lang/Object;"⟩ ∈ wG) (hw5 : Cond.selects nm ⟨nm, "clone", "()Ljava/lang/Object;"⟩ ⟨"java/lang/Object", "clone", "()Ljava/lang/Object;"⟩ ∈ wG) (hw6 : va_Nw (.castable nm "java/lang/Cloneable") (gs g)) (hR : 1 ≤ FR ∧ 14 ≤ LO) (hl : lv.length = nL) (k : G g (pc + 3) lv [(2, nx h)] (cl h s)) : G g pc lv [(2, s)] h := by
  intro ls H locs l R S
  subst et
  obtain ⟨q1, q2, q3, q4, q5⟩ := id q
  obtain ⟨u1, u2, u3, u4, u5, u6, u7⟩ := R.1.own q1 h1 q2
  have isA : ∀ (N : Nat) (F : Nat → Value), (gs g).isArrayOf (arrV (eA (gE g) t) N F) (aty t) := fun N F => C.isA h1 (by omega) u2 (fun k z => by cases z)
  have had := ad_new (E := gE g) R.1.2.1 R.1.2.2.1
  have hnx : nx h ≠ 0 := by have := R.1.2.2.1; omega
  obtain ⟨r1, r2⟩ := C.cells R S u4 q3 q4
  obtain ⟨-, a2, -⟩ := C.hK.2.2.1 t h1 (by omega)
  simp only [List.map_cons, List.map_nil, cvp, cv_ref (show s ≠ 0 by omega)]
  refine W_aclone C.hx C.hb (by rw [C.hml, ← hl]; exact l.1.symm) C.hown (C.hts _ hw1) (C.hts _ hw2) (C.hts _ hw3) (C.hts _ hw4) (C.hts _ hw5) hw6 u1 isA (by rw [hnm]; exact a2) (fun i v hv => ?_) (by rw [C.hrm]; exact hR.1) (by rw [C.hrm]; exact hR.2) r1 r2 d (fun H1 w1 w2 w3 => GW.tight C ?_)
  · by_cases hi : i < (ln h s).toNat
    · rw [arrV_read _ _ hi] at hv
      cases hv
      exact fit_arr h1 h2 (fun h102 => q5 (by rw [h102]; rfl) (i : Int) (by omega) (by omega))
    · rw [Array.getElem?_eq_none (by rw [arrV_size]; omega)] at hv; cases hv
  · have := k ls H1 locs l ⟨R.1.aclone q h1 w1 w2 w3, by rw [sl_cl]; have := R.2; omega⟩ (S.grow w2 w3)
    simp only [List.map_cons, List.map_nil, cvp, cv_ref hnx, had] at this
    exact this
/-- a static field that holds one old array of ints -/
theorem r_gsU (C : Cx g cc nL y FR LO) {ix : Nat} (d : decode cc pc = .ok (.getstatic ix, 3)) (hw : va_Nw (.fieldLinkNest y.cls ix "LinesPromised" "UNDER" "[I" "LinesPromised") (gs g)) (k : G g (pc + 3) lv ((2, 2) :: st) h) : G g pc lv st h := by
  intro ls H locs l R S
  have q := k ls H locs l R S
  exact va_getsN C.hx C.hb C.hK.2.2.2.1.1 S C.hown (va_Nw.use rfl hw) (fun _ q => q) d q
theorem r_gsS (C : Cx g cc nL y FR LO) {ix : Nat} (d : decode cc pc = .ok (.getstatic ix, 3)) (hw : va_Nw (.fieldLinkNest y.cls ix "LinesPromised" "USUAL" "[I" "LinesPromised") (gs g)) (k : G g (pc + 3) lv ((2, 4) :: st) h) : G g pc lv st h := by
  intro ls H locs l R S
  have q := k ls H locs l R S
  exact va_getsN C.hx C.hb C.hK.2.2.2.1.2.2.1 S C.hown (va_Nw.use rfl hw) (fun _ q => q) d q
theorem r_gsN (C : Cx g cc nL y FR LO) {ix : Nat} (d : decode cc pc = .ok (.getstatic ix, 3)) (hw : Cond.fieldLink y.cls ix "LinesPromised" "NO_CELLS" "[I" ∈ wG) (k : G g (pc + 3) lv ((2, 3) :: st) h) : G g pc lv st h := by
  intro ls H locs l R S
  have q := k ls H locs l R S
  exact va_gets C.hx C.hb C.hK.2.2.2.1.2.1 S C.hown (C.hts _ hw) (fun _ q => q) d q
theorem r_gsC (C : Cx g cc nL y FR LO) {ix : Nat} (d : decode cc pc = .ok (.getstatic ix, 3)) (hw : Cond.fieldLink y.cls ix "java/lang/String" "COMPACT_STRINGS" "Z" ∈ wG) (k : G g (pc + 3) lv ((0, 1) :: st) h) : G g pc lv st h := by
  intro ls H locs l R S
  have q := k ls H locs l R S
  exact va_gets C.hx C.hb C.hK.2.2.2.1.2.2.2.1 S C.hown (C.hts _ hw) (fun _ q => q) d q
theorem r_ldcO (C : Cx g cc nL y FR LO) {ix i : Nat} {v : Int} (d : decode cc pc = .ok (.ldc ix, 2)) (hy : y.cls = "LinesPromised$Order") (hi : i < 7) (hx : wdO.getD i 0 = ix) (hv : v = 10 + (i : Int)) (k : G g (pc + 2) lv ((2, v) :: st) h) : G g pc lv st h := by
  intro ls H locs l R S
  have q := k ls H locs l R S
  have hZ := C.hK.2.2.2.1.2.2.2.2.2.2.1 i hi
  rw [hx, ← hy] at hZ
  have e : cv (gE g) 2 v = .ref (er (gE g) (10 + i)) := by
    rw [cv_ref (by omega)]; unfold ad; rw [if_neg (by omega)]; congr 1; congr 1; omega
  simp only [List.map_cons, cvp, e] at q
  exact va_ldcS C.hx C.hb C.hown hZ d q
theorem r_ldcM (C : Cx g cc nL y FR LO) {ix i : Nat} {v : Int} (d : decode cc pc = .ok (.ldc ix, 2)) (hy : y.cls = "LinesPromisedModel") (hi : i < 7) (hx : wdM.getD i 0 = ix) (hv : v = 10 + (i : Int)) (k : G g (pc + 2) lv ((2, v) :: st) h) : G g pc lv st h := by
  intro ls H locs l R S
  have q := k ls H locs l R S
  have hZ := C.hK.2.2.2.1.2.2.2.2.2.2.2 i hi
  rw [hx, ← hy] at hZ
  have e : cv (gE g) 2 v = .ref (er (gE g) (10 + i)) := by
    rw [cv_ref (by omega)]; unfold ad; rw [if_neg (by omega)]; congr 1; congr 1; omega
  simp only [List.map_cons, cvp, e] at q
  exact va_ldcS C.hx C.hb C.hown hZ d q
end NAT
