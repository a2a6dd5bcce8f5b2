/-! TWO STATES: the class's cells at C, the model's at G -/
def mx (C G : MM) : MM := (fun a j => if 197 ≤ a ∧ a ≤ 211 then G.1 a j else C.1 a j, C.2)
section MX
variable {k : Int} {h C G C' G' : MM} {a j : Int} {P : Int → Int → Prop}
theorem mx_m (q : 197 ≤ a ∧ a ≤ 211) : mv (mx C G) a j = mv G a j := if_pos q
theorem mx_c (q : ¬ (197 ≤ a ∧ a ≤ 211)) : mv (mx C G) a j = mv C a j := if_neg q
theorem mx_e (e : G.2 = C.2) (o : ∀ a j : Int, ¬ (197 ≤ a ∧ a ≤ 211) → mv G a j = mv C a j) : mx C G = G := by
  refine MM_ext (fun a j => ?_) e.symm
  show mv (mx C G) a j = mv G a j
  by_cases q : 197 ≤ a ∧ a ≤ 211
  · exact mx_m q
  · rw [mx_c q, o a j q]
theorem mx_i (o : ∀ a j : Int, 197 ≤ a ∧ a ≤ 211 → mv G a j = mv C a j) : mx C G = C := by
  refine MM_ext (fun a j => ?_) rfl
  show mv (mx C G) a j = mv C a j
  by_cases q : 197 ≤ a ∧ a ≤ 211
  · rw [mx_m q, o a j q]
  · exact mx_c q
theorem mx_dc (R : Rd (mx C G)) (S : Sh C) : Dc C (mx C G) := by
  refine ⟨R, S, rfl, fun a j g0 g1 => (mx_c (by omega)).symm, Int.le_refl _, fun _ _ => ⟨rfl, rfl⟩, fun a i ha _ _ => (mx_c (by omega)).symm⟩
theorem mx_dm (R : Rd (mx C G)) (S : Sh G) : Dm G (mx C G) := ⟨R, S, fun j => (mx_m (by omega)).symm⟩
theorem mx_st (T : StI C) : StI (mx C G) := by
  obtain ⟨s1, s2, s3, s4⟩ := T
  refine ⟨fun w g0 g1 => ?_, ?_, ?_, ?_⟩
  · simp (disch := omega) only [mx_c]; exact s1 w g0 g1
  · simp (disch := omega) only [mx_c]; exact s2
  · exact s3
  · simp (disch := omega) only [mx_c]; exact s4
theorem mx_st' (T : StI (mx C G)) : StI C := by
  obtain ⟨s1, s2, s3, s4⟩ := T
  refine ⟨fun w g0 g1 => ?_, ?_, ?_, ?_⟩
  · have z := s1 w g0 g1; simp (disch := omega) only [mx_c] at z; exact z
  · simp (disch := omega) only [mx_c] at s2; exact s2
  · exact s3
  · simp (disch := omega) only [mx_c] at s4; exact s4
/-- what the class writes and what the model writes -/
theorem mx_fr (F : FrN P C C') (H : FrN P G G') : FrN P (mx C G) (mx C' G') := by
  refine ⟨F.1, fun a j q => ?_⟩
  by_cases z : 197 ≤ a ∧ a ≤ 211
  · rw [mx_m z, mx_m z]; exact H.2 a j q
  · rw [mx_c z, mx_c z]; exact F.2 a j q
/-- the model leaves the class's cells, the class the model's -/
def Oc (C C' : MM) : Prop := ∀ a j : Int, 197 ≤ a ∧ a ≤ 211 → mv C' a j = mv C a j
def Om (G G' : MM) : Prop := G'.2 = G.2 ∧ ∀ a j : Int, ¬ (197 ≤ a ∧ a ≤ 211) → mv G' a j = mv G a j
theorem Oc.refl (C : MM) : Oc C C := fun _ _ _ => rfl
theorem Om.refl (G : MM) : Om G G := ⟨rfl, fun _ _ _ => rfl⟩
theorem Oc.trans (A : Oc h C) (B : Oc C C') : Oc h C' := fun a j q => (B a j q).trans (A a j q)
theorem Om.trans (A : Om h G) (B : Om G G') : Om h G' := ⟨B.1.trans A.1, fun a j q => (B.2 a j q).trans (A.2 a j q)⟩
theorem Oc.w {i v : Int} (A : Oc h C) (q : ¬ (197 ≤ a ∧ a ≤ 211)) : Oc h (ms C a i v) := fun b j z => by rw [mv_o (by omega)]; exact A b j z
theorem Om.w {i v : Int} (A : Om h G) (q : 197 ≤ a ∧ a ≤ 211) : Om h (ms G a i v) := ⟨A.1, fun b j z => by rw [mv_o (by omega)]; exact A.2 b j z⟩
theorem Oc.ar {f : Int → Int} (A : Oc h C) (q : ¬ (197 ≤ a ∧ a ≤ 211)) : Oc h (ma C a f) := fun b j z => by rw [mv_ma_ne (by omega)]; exact A b j z
theorem Om.ar {f : Int → Int} (A : Om h G) (q : 197 ≤ a ∧ a ≤ 211) : Om h (ma G a f) := ⟨A.1, fun b j z => by rw [mv_ma_ne (by omega)]; exact A.2 b j z⟩
theorem FrN.oc (F : FrN P h C) (q : ∀ a j, P a j → ¬ (197 ≤ a ∧ a ≤ 211)) : Oc h C := fun a j z => F.2 a j (fun y => q a j y z)
theorem FrN.om (F : FrN P h G) (q : ∀ a j, P a j → 197 ≤ a ∧ a ≤ 211) : Om h G := ⟨F.1, fun a j z => F.2 a j (fun y => z (q a j y))⟩
def Od (C C' : MM) : Prop := C'.2 = C.2 ∧ Oc C C'
theorem Od.refl (C : MM) : Od C C := ⟨rfl, Oc.refl C⟩
theorem Od.trans (A : Od h C) (B : Od C C') : Od h C' := ⟨B.1.trans A.1, A.2.trans B.2⟩
theorem Od.w {i v : Int} (A : Od h C) (q : ¬ (197 ≤ a ∧ a ≤ 211)) : Od h (ms C a i v) := ⟨A.1, A.2.w q⟩
theorem Od.ar {f : Int → Int} (A : Od h C) (q : ¬ (197 ≤ a ∧ a ≤ 211)) : Od h (ma C a f) := ⟨A.1, A.2.ar q⟩
theorem FrN.od (F : FrN P h C) (q : ∀ a j, P a j → ¬ (197 ≤ a ∧ a ≤ 211)) : Od h C := ⟨F.1, F.oc q⟩
theorem Sim.two {X Y : MM → RR} (I : Inv k h) (J : ∀ G : MM, Sh G → (∀ a j : Int, 197 ≤ a ∧ a ≤ 211 → mv G a j = mv h a j) → ∃ r C' G', X h = some (r, C') ∧ Y G = some (r, G') ∧ Inv (k + 1) (mx C' G') ∧ Sh C' ∧ Oc h C' ∧ Om G G') : Sim k h X Y := by
  obtain ⟨r, C, G, x1, y1, i1, s1, c1, m1⟩ := J h I.1 (fun _ _ _ => rfl)
  obtain ⟨r2, C2, G2, x2, y2, i2, s2, c2, m2⟩ := J C s1 c1
  rw [x1] at x2
  injection x2 with x2
  injection x2 with e1 e2
  subst e1; subst e2
  rw [mx_e m2.1 m2.2] at i2
  exact ⟨r, C, G2, x1, y2, i2⟩
/-- the invariant without its room -/
def InB (k : Int) (h : MM) : Prop := Sh h ∧ OInv h ∧ PastI h ∧ StI h ∧ RW (100000 * k) 0 198 h ∧ (mv h 197 3 = mv h 100 2 ∧ (mv h 100 2 = 0 ∨ (mv h 100 2 = 1 ∧ RW (100000 * k) 39 199 h ∧ mv h 199 0 ≤ mv h 198 0 ∧ mv h 199 3 ≤ 8))) ∧ mv h 198 3 ≤ 8
theorem Inv.b (I : Inv k h) : InB k h := ⟨I.1, I.2.1, I.2.2.1, I.2.2.2.1, I.2.2.2.2.1, I.2.2.2.2.2.1, I.2.2.2.2.2.2.2.2⟩
theorem InB.i (B : InB k h) (n1 : nx h ≤ 300 + 100 * k) (n2 : sl h ≤ 200000 + 5000 * k) : Inv k h := ⟨B.1, B.2.1, B.2.2.1, B.2.2.2.1, B.2.2.2.2.1, B.2.2.2.2.2.1, n1, n2, B.2.2.2.2.2.2⟩
theorem Inv.mxd (I : Inv k h) (B : InB k (mx C G)) (A : Od h C) : Inv (k + 1) (mx C G) := by
  have n1 : nx (mx C G) = nx h := congrArg (fun z : (Int → Int × Int) × Int × Int => z.2.1) A.1
  have n2 : sl (mx C G) = sl h := congrArg (fun z : (Int → Int × Int) × Int × Int => z.2.2) A.1
  exact (B.i (by rw [n1]; exact I.2.2.2.2.2.2.1) (by rw [n2]; exact I.2.2.2.2.2.2.2.1)).up
theorem InB.rd (I : InB k h) : Rd h := ⟨I.1, ⟨_, I.2.2.2.2.1⟩, I.2.1⟩
theorem InB.m {h' : MM} (I : InB k h) (hS : Sh h') (K : Keep h h') (V : OInv h') (ht : mv h 198 0 ≤ mv h' 198 0) (h3 : mv h' 198 3 ≤ 8) (R : RW (100000 * k) 0 198 h') : InB k h' := by
  obtain ⟨i1, i2, i3, i4, i5, ⟨i6, i7⟩, i10⟩ := I
  have hz : 200 ≤ nx h := by have := i1.2.2; omega
  have P := i3.keep K hz
  refine ⟨hS, V, P.1, i4.keep K.imm hz, R, ⟨?_, ?_⟩, h3⟩
  · rw [K.2.2.2.1, K.2.2.2.2]; exact i6
  · rw [K.2.2.2.1]
    rcases i7 with q | ⟨q1, q2, q3, q4⟩
    · exact Or.inl q
    · have W : SameW 39 199 h h' := ⟨fun a j h1 h2 => K.2.2.1 a j (by omega) (by omega) (by omega), fun j => K.2.2.1 199 j (by omega) (by omega) (by omega)⟩
      refine Or.inr ⟨q1, q2.fr i2 W K.imm (fun rp => ?_), by rw [W.2]; omega, by rw [W.2]; omega⟩
      have b0 : mv h 199 0 ≤ 999 := q2.1.2.1.1.2
      exact rp.fr W.2 (fun d _ _ => P.2.1 d) (fun d h0 h1 => P.2.2 d h0 (by omega) (rp d h0 h1).1)
theorem InB.fr {h1 : MM} (I : InB k h) (F : FrN P h h1) (ok : ∀ a j, P a j → Wok a j) (t : mv h 198 0 ≤ mv h1 198 0) (h3 : mv h1 198 3 ≤ 8) (R : RW (100000 * k) 0 198 h1) : InB k h1 :=
  I.m (F.sh ok I.1) (F.keep ok) (I.2.1.keep (F.keep ok) (fun a g1 g2 => by rw [F.nx] at g2; omega)) t h3 R
end MX
