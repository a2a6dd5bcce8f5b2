def kdOf : FieldType → Nat
  | .long => 1
  | .object _ => 2
  | .array _ => 2
  | _ => 0
/-- a class of ours, by its number -/
def CT (t : Nat) (Cn : String) (T : u_T) (N : Nat) (ty : Nat → FieldType) : Prop :=
  vwCl[t]? = some (Cn, T, N) ∧ (∀ w ∈ u_ws Cn T N, w ∈ wG) ∧ (∀ k, k < N → parseFieldDescriptor (T k).2.2.1 = some (ty k)) ∧ (∀ a, a < N → ∀ b, b < N → a ≠ b → (T a).2.1 ≠ (T b).2.1) ∧ nf t = N ∧ t < 13 ∧ (∀ k, k < N → kdOf (ty k) = fk t k)
theorem nar_int {E : EV} {x : Int} : narrow .int (cv E 0 x) = cv E 0 x ∧ fits .int (cv E 0 x) = true := ⟨rfl, rfl⟩
theorem nar_bool {E : EV} {x : Int} (h : x = 0 ∨ x = 1) : narrow .boolean (cv E 0 x) = cv E 0 x ∧ fits .boolean (cv E 0 x) = true := by rcases h with rfl | rfl <;> exact ⟨rfl, rfl⟩
theorem nar_long {E : EV} {x : Int} : narrow .long (cv E 1 x) = cv E 1 x ∧ fits .long (cv E 1 x) = true := ⟨rfl, rfl⟩
theorem nar_obj {E : EV} {x : Int} {n : String} : narrow (.object n) (cv E 2 x) = cv E 2 x ∧ fits (.object n) (cv E 2 x) = true := by
  show narrow (.object n) (if x = 0 then Value.null else .ref (ad E x)) = (if x = 0 then Value.null else .ref (ad E x)) ∧ fits (.object n) (if x = 0 then Value.null else .ref (ad E x)) = true
  split <;> exact ⟨rfl, rfl⟩
theorem nar_arr {E : EV} {x : Int} {n : FieldType} : narrow (.array n) (cv E 2 x) = cv E 2 x ∧ fits (.array n) (cv E 2 x) = true := by
  show narrow (.array n) (if x = 0 then Value.null else .ref (ad E x)) = (if x = 0 then Value.null else .ref (ad E x)) ∧ fits (.array n) (if x = 0 then Value.null else .ref (ad E x)) = true
  split <;> exact ⟨rfl, rfl⟩
/-- a field of an own object is written -/
theorem Rl.ost {E : EV} {h : MM} {H H' : Heap} (R : Rl E h H) {a x : Int} {t j : Nat} {cell : Cell} (q : tg h a = (t : Int) ∧ 100 ≤ a) (h13 : t < 13) (hj : j < nf t) (hap : ∀ x y, x < nf t → y < nf t → x ≠ y → (eD E).2 t x ≠ (eD E).2 t y) (hc : H[ad E a]? = some cell) (cx : cK (fk t j) x) (e1 : H'[ad E a]? = some (cell.setSlot ((eD E).2 t j) (cv E (fk t j) x))) (z1 : H'.size = H.size) (o1 : ∀ p : Nat, p ≠ ad E a → H'[p]? = H[p]?) : Rl E (ms h a (j : Int) x) H' := by
  obtain ⟨q1, q2⟩ := q
  obtain ⟨b1, b2, ⟨cell', c1, c2, c3, c4⟩, b3⟩ := R.obj q1 h13
  cases hc.symm.trans c1
  have ht : (tg h a).toNat = t := by omega
  rw [ht] at c2 c4 b3
  refine R.put q2 z1 o1 (by rw [e1, hc]; simp [k2_slotsz]) (Or.inr ⟨by rw [tg_ms]; omega, by omega, b2, Or.inl ⟨by rw [tg_ms]; omega, q2, ?_⟩⟩)
  unfold oOK
  simp only [tg_ms, ht]
  refine ⟨⟨_, e1, c2, c3, fun k hk => ?_⟩, fun k hk => ?_⟩
  · rw [t_set c4 hap hj _ k hk]
    unfold updV
    by_cases hkj : k = j
    · subst hkj; rw [if_pos rfl]; show _ = some (cv E (fk t k) (mv (ms h a (k : Int) x) a (k : Int))); rw [mv_ms, if_pos ⟨rfl, rfl⟩]
    · rw [if_neg hkj]; show _ = some (cv E (fk t k) (mv (ms h a (j : Int) x) a (k : Int))); rw [mv_ms, if_neg (by omega)]
  · by_cases hkj : k = j
    · subst hkj; rw [mv_ms, if_pos ⟨rfl, rfl⟩]; exact cx
    · rw [mv_ms, if_neg (by omega)]; exact b3 k hk
section OBJ
variable {g : GT} {cc : ByteArray} {nL : Nat} {y : MethodName} {FR LO : Nat} {pc : Nat} {lv st : List (Nat × Int)} {h : MM} {t N : Nat} {Cn : String} {T : u_T} {ty : Nat → FieldType}
theorem r_gf (C : Cx g cc nL y FR LO) (hC : CT t Cn T N ty) {a ti ji : Int} {j ix kd : Nat} (d : decode cc pc = .ok (.getfield ix, 3)) (q : tg h a = ti) (et : ti = (t : Int)) (ej : ji = (j : Int)) (hj : j < N) (hw : Cond.fieldLink y.cls ix (T j).1 (T j).2.1 (T j).2.2.1 ∈ wG) (ek : fk t j = kd) (k : cK kd (mv h a ji) → G g (pc + 3) lv ((kd, mv h a ji) :: st) h) : G g pc lv ((2, a) :: st) h := by
  intro ls H locs l R S
  subst et; subst ej; subst ek
  obtain ⟨hc, hin, hty, hnm, hN, h13, hkd⟩ := hC
  obtain ⟨b1, b2, ⟨cell, c1, c2, c3, c4⟩, b3⟩ := R.1.obj q h13
  have ht : (tg h a).toNat = t := by omega
  rw [ht, hN] at c4 b3
  obtain ⟨hS, hfc, kC, hkC, hkind⟩ := C.hK.1.1 t _ hc
  obtain ⟨cf, kf, fi, f, hi, hsl⟩ := hS j hj
  simp only [List.map_cons, cvp, cv_ref (show a ≠ 0 by omega)]
  refine W.getf C.hx C.hb C.hown (C.hts _ hw) hi (u_facts hfc hkC (u_lays C.hts hin hj) hi).1 c1 (by rw [c3]; exact fun h => by cases h) (v := cv (gE g) (fk t j) (mv h a (j : Int))) ?_ rfl rfl d (k (b3 j hj) ls H locs l R S)
  rw [hsl]; exact c4 j hj
theorem r_pf (C : Cx g cc nL y FR LO) (hC : CT t Cn T N ty) {a x ti ji : Int} {j ix kd : Nat} (d : decode cc pc = .ok (.putfield ix, 3)) (q : tg h a = ti ∧ 100 ≤ a) (et : ti = (t : Int)) (ej : ji = (j : Int)) (hj : j < N) (hw : Cond.fieldLink y.cls ix (T j).1 (T j).2.1 (T j).2.2.1 ∈ wG) (ek : fk t j = kd) (hfin : (T j).2.2.2 = false ∨ ((T j).2.2.2 = true ∧ y.name = "<init>" ∧ (T j).1 = y.cls)) (hn : narrow (ty j) (cv (gE g) kd x) = cv (gE g) kd x ∧ fits (ty j) (cv (gE g) kd x) = true) (cx : cK kd x) (k : G g (pc + 3) lv st (ms h a ji x)) : G g pc lv ((kd, x) :: (2, a) :: st) h := by
  intro ls H locs l R S
  subst et; subst ej; subst ek
  obtain ⟨hc, hin, hty, hnm, hN, h13, hkd⟩ := hC
  obtain ⟨b1, b2, ⟨cell, c1, c2, c3, c4⟩, b3⟩ := R.1.obj q.1 h13
  have ht : (tg h a).toNat = t := by omega
  rw [ht, hN] at c4 b3
  rw [ht] at c2
  have hap := va_apart (own := y.cls) C.hts hin ty hty hnm C.hK.1 hc
  obtain ⟨hS, hfc, kC, hkC, hkind⟩ := C.hK.1.1 t _ hc
  obtain ⟨cf, kf, fi, f, hi, hsl⟩ := hS j hj
  have hlay := C.hts _ (hin _ (u_in_lay hj))
  have hst := (u_facts hfc hkC (u_lays C.hts hin hj) hi).1
  have hslot : f.slot < cell.slots.size := by rw [hsl]; exact k2_hasslot (c4 j hj)
  simp only [List.map_cons, cvp, cv_ref (show a ≠ 0 by omega)]
  have fin : ∀ H' : Heap, H'[ad (gE g) a]? = some (cell.setSlot f.slot (cv (gE g) (fk t j) x)) → H'.size = H.size → (∀ p, p ≠ ad (gE g) a → H'[p]? = H[p]?) → GW g H' (locs ++ [⟨ad (gE g) a, f.slot⟩]) (F0 (gm g) (pc + 3) ls (st.map (cvp (gE g)))) := by
    intro H' w1 w2 w3
    rw [hsl] at w1 ⊢
    exact k ls H' _ l ⟨R.1.ost q h13 (by omega) (by rw [hN]; exact hap) c1 cx w1 w2 w3, R.2⟩ (S.put w2 w3 (ad_ge q.2))
  rcases hfin with hf | ⟨hf, hini, hdecl⟩
  · unfold u_lay at hlay
    rw [if_neg (by rw [hf]; decide)] at hlay
    have h6 := u_store hfc hkC hkind hlay hi (hty j hj) hn.1 hn.2
    exact W.putK C.hx C.hb (f := f) ⟨C.hown, C.hts _ hw, ⟨_, _, _, hi⟩, hst⟩ (by rw [c2]; exact h6) c1 c3 hslot rfl rfl d (fun H' w1 w2 w3 => GW.tight C (fin H' w1 w2 w3))
  · unfold u_lay at hlay
    rw [if_pos hf] at hlay
    have hcf : (gm g).cls = cf := by
      obtain ⟨_, _, c', _, _, _, -, -, hf', -, -, -, hown2, -⟩ := Cond.laysFinal_spec hlay
      have e1 : c' = cf := by have := hi.symm.trans hf'; simp at this; exact this.1.symm
      rw [hdecl] at hown2
      rw [← e1]; exact Option.some.inj (C.hown.symm.trans hown2)
    have h6 := u_fits hfc hkC hkind (Or.inr hlay) hi (hty j hj) hn.1 hn.2
    exact W.putFinK C.hx C.hb C.hown (C.hts _ hw) hi hst hcf (by rw [C.hnm hini, hini]) (by rw [c2]; exact h6) c1 c3 hslot rfl rfl d (fun H' w1 w2 w3 => GW.tight C (fin H' w1 w2 w3))
theorem Cx.cells (C : Cx g cc nL y FR LO) {H : Heap} {locs : List Loc} (R : RG g h H) (S : va_S (fun q => eb (gE g) ≤ q) (gs g).heap H locs) {n : Int} (hn : 0 ≤ n) (h1 : nx h + 1 ≤ NM) (h2 : sl h + n ≤ SM) : H.size - (gs g).heap.size + 1 ≤ (gR g).cells ∧ ssum (eb (gE g)) H - ssum (eb (gE g)) (gs g).heap + n.toNat ≤ (gR g).slots := by
  rw [C.hrm]
  have a1 := R.1.2.1
  have a2 := C.hR.2.1
  have a3 := R.1.2.2.1
  have a4 := C.hR.2.2.1
  have a5 := R.1.2.2.2.2.1
  have a6 := C.hR.2.2.2.2.1
  have a7 := C.hR.2.2.2.2.2.1
  have a8 := R.2
  have a9 := S.1
  constructor
  · show _ ≤ (NM - nx (gh g)).toNat; omega
  · show _ ≤ (SM - sl (gh g)).toNat; omega
theorem va_S.grow {A : Nat → Prop} {H0 H H1 : Heap} {locs : List Loc} (S : va_S A H0 H locs) (z : H1.size = H.size + 1) (o : ∀ q : Nat, q < H.size → H1[q]? = H[q]?) : va_S A H0 H1 locs :=
  ⟨Nat.le_trans S.1 (by omega), fun q h1 h2 => (o q (Nat.lt_of_lt_of_le h1 S.1)).trans (S.2.1 q h1 h2), S.2.2⟩
theorem def_kd (ty : FieldType) (h : ty ≠ .float) (h' : ty ≠ .double) (E : EV) : defaultValue ty = cv E (kdOf ty) 0 := by
  cases ty <;> first | rfl | (exact absurd rfl h) | (exact absurd rfl h') | (show Value.null = (if (0 : Int) = 0 then Value.null else .ref (ad E 0)); rw [if_pos rfl])
theorem r_new (C : Cx g cc nL y FR LO) (hC : CT t Cn T N ty) (hfl : ∀ k, k < N → ty k ≠ .float ∧ ty k ≠ .double) {ti ni : Int} {ix : Nat} (d : decode cc pc = .ok (.new ix, 3)) (q : nx h + 1 ≤ NM ∧ sl h + ni ≤ SM) (et : ti = (t : Int)) (en : ni = (N : Int)) (hl : Cond.classLink y.cls ix Cn ∈ wG) (hi : Cond.instantiable Cn N ∈ wG) (hn : Cond.initialized Cn ∈ wG) (k : G g (pc + 3) lv ((2, nx h) :: st) (mn h ti ni)) : G g pc lv st h := by
  intro ls H locs l R S
  subst et; subst en
  obtain ⟨hc, hin, hty, hnm, hN, h13, hkd⟩ := hC
  obtain ⟨hS, hfc, kC0, hkC0, hkind0⟩ := C.hK.1.1 t _ hc
  obtain ⟨r1, r2⟩ := C.cells R S (n := (N : Int)) (by omega) q.1 q.2
  rw [Int.toNat_natCast] at r2
  obtain ⟨cI, kI, i1, i2, -, i4⟩ := Cond.instantiable_spec (C.hts _ hi)
  have had := ad_new (E := gE g) R.1.2.1 R.1.2.2.1
  have hnx : nx h ≠ 0 := by have := R.1.2.2.1; omega
  refine W.newcK C.hx C.hb C.hown (C.hts _ hl) (C.hts _ hi) (C.hts _ hn) rfl d r1 r2 hfc rfl (fun H' kC w1 w2 w3 w4 => GW.tight C ?_)
  cases hkC0.symm.trans w1
  cases hfc.symm.trans i1
  cases hkC0.symm.trans i2
  have hsz : (blank ((eD (gE g)).1 t) kC0).slots.size = N := by simp [blank, i4]
  have hB : t_OB (ad (gE g) (nx h)) ((eD (gE g)).1 t) N ((eD (gE g)).2 t) H' (fun k => defaultValue (ty k)) := u_born ty C.hts hin ⟨hS, hfc, kC0, hkC0, hkind0⟩ hkC0 (by rw [had]; exact w2) hty
  have := k ls H' locs l ⟨R.1.push q.1 q.2 (by omega) w3 w4 w2 (by rw [hsz]; omega) (Or.inr ⟨by rw [tg_mn, if_pos rfl]; omega, by have := R.1.2.2.1; omega, by rw [nx_mn]; omega, Or.inl ⟨by rw [tg_mn, if_pos rfl]; omega, R.1.2.2.1, ?_⟩⟩), by rw [sl_mn]; have := R.2; omega⟩ (S.grow w3 w4)
  · simp only [List.map_cons, cvp, cv_ref hnx, had] at this
    exact this
  · unfold oOK
    rw [tg_mn, if_pos rfl, Int.toNat_natCast, hN]
    refine ⟨hB.to (fun j hj => ?_), fun j hj => ?_⟩
    · show defaultValue (ty j) = cv _ _ (mv (mn h (t : Int) (N : Int)) (nx h) (j : Int))
      rw [mv_mn, if_pos rfl, def_kd (ty j) (hfl j hj).1 (hfl j hj).2 (gE g), hkd j hj]
    · rw [mv_mn, if_pos rfl]
      generalize fk t j = kk
      match kk with
      | 0 => exact in32_of rfl
      | 1 => exact in64_of rfl
      | _ + 2 => trivial
end OBJ
