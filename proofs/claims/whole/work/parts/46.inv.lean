/-! THE INVARIANT of a run after k calls -/
def Keep (h h' : MM) : Prop := nx h ≤ nx h' ∧ (∀ a : Int, a < nx h → tg h' a = tg h a ∧ ln h' a = ln h a) ∧ (∀ a j : Int, a < nx h → (a < 100 ∨ (140 ≤ a ∧ a ≤ 179) ∨ a = 199 ∨ 212 ≤ a) → ¬ (212 ≤ a ∧ ((tg h a = 3 ∧ j = 5) ∨ (tg h a = 100 ∧ tg h (a - 3) = 3))) → mv h' a j = mv h a j) ∧ mv h' 100 2 = mv h 100 2 ∧ mv h' 197 3 = mv h 197 3
theorem Keep.refl (h : MM) : Keep h h := ⟨Int.le_refl _, fun _ _ => ⟨rfl, rfl⟩, fun _ _ _ _ _ => rfl, rfl, rfl⟩
theorem Keep.trans {h h1 h2 : MM} (A : Keep h h1) (B : Keep h1 h2) : Keep h h2 := by
  obtain ⟨a1, a2, a3, a4, a5⟩ := A
  obtain ⟨b1, b2, b3, b4, b5⟩ := B
  refine ⟨by omega, fun a ha => ?_, fun a j ha hb hm => ?_, b4.trans a4, b5.trans a5⟩
  · have x := a2 a ha
    have y := b2 a (by omega)
    exact ⟨y.1.trans x.1, y.2.trans x.2⟩
  · rw [b3 a j (by omega) hb ?_, a3 a j ha hb hm]
    rintro ⟨q, q2⟩
    rw [(a2 a ha).1, (a2 (a - 3) (by omega)).1] at q2
    exact hm ⟨q, q2⟩
theorem Keep.w {h h1 : MM} {a i v : Int} (A : Keep h h1) (hz : 200 ≤ nx h) (q : (100 ≤ a ∧ a < 140 ∧ (a ≠ 100 ∨ i ≠ 2)) ∨ (180 ≤ a ∧ a < 199 ∧ (a ≠ 197 ∨ i ≠ 3)) ∨ (200 ≤ a ∧ a < 212) ∨ nx h ≤ a) : Keep h (ms h1 a i v) := by
  obtain ⟨a1, a2, a3, a4, a5⟩ := A
  refine ⟨a1, a2, fun b j hb hn hm => ?_, ?_, ?_⟩
  · rw [mv_o (by omega)]; exact a3 b j hb hn hm
  · rw [mv_o (by omega)]; exact a4
  · rw [mv_o (by omega)]; exact a5
theorem Keep.wd {h h1 : MM} {a i v : Int} (A : Keep h h1) (h0 : 212 ≤ a) (hm : (tg h a = 3 ∧ i = 5) ∨ (tg h a = 100 ∧ tg h (a - 3) = 3)) : Keep h (ms h1 a i v) := by
  obtain ⟨a1, a2, a3, a4, a5⟩ := A
  refine ⟨a1, a2, fun b j hb hn hm' => ?_, ?_, ?_⟩
  · by_cases c : b = a
    · by_cases d : j = i
      · subst c; subst d; exact absurd ⟨h0, hm⟩ hm'
      · rw [mv_o (Or.inr d)]; exact a3 b j hb hn hm'
    · rw [mv_o (Or.inl c)]; exact a3 b j hb hn hm'
  · rw [mv_o (by omega)]; exact a4
  · rw [mv_o (by omega)]; exact a5
theorem Keep.wa {h h1 : MM} {a : Int} {f : Int → Int} (A : Keep h h1) (hz : 200 ≤ nx h) (q : (100 < a ∧ a < 140) ∨ (180 ≤ a ∧ a < 199 ∧ a ≠ 197) ∨ (200 ≤ a ∧ a < 212) ∨ nx h ≤ a) : Keep h (ma h1 a f) := by
  obtain ⟨a1, a2, a3, a4, a5⟩ := A
  refine ⟨a1, a2, fun b j hb hn hm => ?_, ?_, ?_⟩
  · rw [mv_ma_ne (by omega)]; exact a3 b j hb hn hm
  · rw [mv_ma_ne (by omega)]; exact a4
  · rw [mv_ma_ne (by omega)]; exact a5
theorem Keep.nw {h h1 : MM} {t n : Int} (A : Keep h h1) (hz : 200 ≤ nx h) : Keep h (mn h1 t n) := by
  obtain ⟨a1, a2, a3, a4, a5⟩ := A
  refine ⟨by rw [nx_mn]; omega, fun a ha => ?_, fun b j hb hn hm => ?_, ?_, ?_⟩
  · rw [tg_mn, ln_mn, if_neg (by omega), if_neg (by omega)]; exact a2 a ha
  · rw [mv_mn, if_neg (by omega)]; exact a3 b j hb hn hm
  · rw [mv_mn, if_neg (by omega)]; exact a4
  · rw [mv_mn, if_neg (by omega)]; exact a5
theorem Keep.imm {h h' : MM} (K : Keep h h') : Imm h h' := by
  obtain ⟨a1, a2, a3, a4, a5⟩ := K
  refine ⟨a1, a2, fun a i ha hn hm => a3 a i hn (by omega) ?_⟩
  rintro ⟨m1, m2⟩
  exact hm ⟨m1, m2.elim Or.inl (fun m => Or.inr ⟨m.1, Or.inl m.2⟩)⟩
theorem OInv.keep {h h' : MM} (V : OInv h) (K : Keep h h') (q : ∀ a : Int, nx h ≤ a → a < nx h' → tg h' a ≠ 3) : OInv h' := by
  obtain ⟨a1, a2, -, -, -⟩ := K
  intro a h0 h1 h2
  by_cases c : a < nx h
  · rw [(a2 a c).1] at h2
    have v := V a h0 c h2
    rw [(a2 _ (by omega)).1, (a2 _ (by omega)).1, (a2 _ (by omega)).1, (a2 _ (by omega)).2, (a2 _ (by omega)).1]
    exact ⟨by omega, v.2⟩
  · exact absurd h2 (q a (by omega) h1)
theorem PastI.keep {h h' : MM} (P : PastI h) (K : Keep h h') (hz : 200 ≤ nx h) : PastI h' ∧ (∀ d : Int, mv h' 179 d = mv h 179 d) ∧ ∀ d : Int, 0 ≤ d → d < 1000 → mv h 179 d ≠ 0 → ∀ j, mv h' (mv h 179 d) j = mv h (mv h 179 d) j := by
  obtain ⟨a1, a2, a3, -, -⟩ := K
  have e : ∀ d, mv h' 179 d = mv h 179 d := fun d => a3 179 d (by omega) (by omega) (by omega)
  obtain ⟨p1, p2⟩ := P
  refine ⟨⟨fun d h0 h1 => ?_, fun d f h0 h1 h2 => by rw [e, e]; exact p2 d f h0 h1 h2⟩, e, fun d h0 h1 hn j => ?_⟩
  · rw [e]
    rcases p1 d h0 h1 with q | ⟨q1, q2, q3, q4, q5⟩
    · exact Or.inl q
    · refine Or.inr ⟨q1, by omega, ?_, ?_, ?_⟩
      · rw [(a2 _ q2).1]; exact q3
      · rw [(a2 _ q2).2]; exact q4
      · rw [(a2 _ (by omega)).1]; exact q5
  · rcases p1 d h0 h1 with q | ⟨q1, q2, q3, q4, q5⟩
    · exact absurd q hn
    · refine a3 _ j q2 (by omega) ?_
      rintro ⟨m1, m2 | m2⟩
      · omega
      · exact q5 m2.2
theorem RPast.fr {s : Int} {h h' : MM} (R : RPast s h) (e1 : ∀ j : Int, mv h' s j = mv h s j) (e2 : ∀ d : Int, 0 ≤ d → d < mv h s 0 → mv h' 179 d = mv h 179 d) (e3 : ∀ d : Int, 0 ≤ d → d < mv h s 0 → ∀ j, mv h' (mv h 179 d) j = mv h (mv h 179 d) j) : RPast s h' := by
  intro d h0 h1
  rw [e1] at h1
  have r := R d h0 h1
  unfold past1 at r ⊢
  simp only [e1, e2 d h0 h1, e3 d h0 h1]
  exact r
/-- what lies below 100: the constants of the classes -/
def StI (h : MM) : Prop := (∀ w : Int, 0 ≤ w → w < 7 → tg h (10 + w) = 13 ∧ mv h (10 + w) 0 = 30 + w ∧ mv h (10 + w) 1 = 0 ∧ tg h (30 + w) = 102 ∧ ln h (30 + w) = ((wrdL.getD w.toNat []).length : Int) ∧ ∀ j : Int, 0 ≤ j → j < ((wrdL.getD w.toNat []).length : Int) → mv h (30 + w) j = (wrdL.getD w.toNat []).getD j.toNat 0) ∧ (tg h 2 = 100 ∧ ln h 2 = 7 ∧ mv h 2 0 = -1 ∧ mv h 2 1 = 0 ∧ mv h 2 2 = 1 ∧ mv h 2 3 = 1 ∧ mv h 2 4 = 0 ∧ mv h 2 5 = 4 ∧ mv h 2 6 = 0) ∧ (tg h 3 = 100 ∧ ln h 3 = 0) ∧ (tg h 4 = 100 ∧ ln h 4 = 7 ∧ mv h 4 0 = 99 ∧ mv h 4 1 = 2 ∧ mv h 4 2 = 999 ∧ mv h 4 3 = 50 ∧ mv h 4 4 = 10 ∧ mv h 4 5 = 1 ∧ mv h 4 6 = 0)
theorem StI.keep {h h' : MM} (S : StI h) (I : Imm h h') (hz : 200 ≤ nx h) : StI h' := by
  obtain ⟨i1, i2, i3⟩ := I
  have t : ∀ a, a < 100 → tg h' a = tg h a := fun a ha => (i2 a (by omega)).1
  have l : ∀ a, a < 100 → ln h' a = ln h a := fun a ha => (i2 a (by omega)).2
  have m : ∀ a j, a < 100 → mv h' a j = mv h a j := fun a j ha => i3 a j (Or.inl ha) (by omega) (fun q => by have := q.1; omega)
  obtain ⟨s1, s2, s3, s4⟩ := S
  refine ⟨fun w h0 h1 => ?_, ?_, ?_, ?_⟩
  · simp (disch := omega) only [t, l, m]; exact s1 w h0 h1
  · simp (disch := omega) only [t, l, m]; exact s2
  · simp (disch := omega) only [t, l, m]; exact s3
  · simp (disch := omega) only [t, l, m]; exact s4
def Inv (k : Int) (h : MM) : Prop := Sh h ∧ OInv h ∧ PastI h ∧ StI h ∧ RW (100000 * k) 0 198 h ∧ (mv h 197 3 = mv h 100 2 ∧ (mv h 100 2 = 0 ∨ (mv h 100 2 = 1 ∧ RW (100000 * k) 39 199 h ∧ mv h 199 0 ≤ mv h 198 0 ∧ mv h 199 3 ≤ 8))) ∧ nx h ≤ 300 + 100 * k ∧ sl h ≤ 200000 + 5000 * k ∧ mv h 198 3 ≤ 8
theorem RW.mono {M M' b s : Int} {h : MM} (R : RW M b s h) (q : M ≤ M') : RW M' b s h := by
  obtain ⟨r1, r2, r3, r4, ⟨c1, c2, c3⟩, r5⟩ := R
  exact ⟨r1, r2, r3, r4, ⟨c1, c2, by omega⟩, r5⟩
theorem Inv.m {k : Int} {h h' : MM} (I : Inv k h) (hS : Sh h') (K : Keep h h') (V : OInv h') (hn : nx h' ≤ nx h + 100) (hs : sl h' ≤ sl h + 5000) (ht : mv h 198 0 ≤ mv h' 198 0) (h3 : mv h' 198 3 ≤ 8) (R : RW (100000 * (k + 1)) 0 198 h') : Inv (k + 1) h' := by
  obtain ⟨i1, i2, i3, i4, i5, ⟨i6, i7⟩, i8, i9, i10⟩ := I
  have hz : 200 ≤ nx h := by have := i1.2.2; omega
  have P := i3.keep K hz
  refine ⟨hS, V, P.1, i4.keep K.imm hz, R, ⟨?_, ?_⟩, by omega, by omega, h3⟩
  · rw [K.2.2.2.1, K.2.2.2.2]; exact i6
  · rw [K.2.2.2.1]
    rcases i7 with q | ⟨q1, q2, q3, q4⟩
    · exact Or.inl q
    · have W : SameW 39 199 h h' := ⟨fun a j h1 h2 => K.2.2.1 a j (by omega) (by omega) (by omega), fun j => K.2.2.1 199 j (by omega) (by omega) (by omega)⟩
      refine Or.inr ⟨q1, (q2.fr i2 W K.imm (fun rp => ?_)).mono (by omega), by rw [W.2]; omega, by rw [W.2]; omega⟩
      have b0 : mv h 199 0 ≤ 999 := q2.1.2.1.1.2
      exact rp.fr W.2 (fun d _ _ => P.2.1 d) (fun d h0 h1 => P.2.2 d h0 (by omega) (rp d h0 h1).1)
theorem Inv.q {k : Int} {h h' : MM} (I : Inv k h) (hS : Sh h') (K : Keep h h') (hn : nx h' = nx h) (hs : sl h' = sl h) (W : SameW 0 198 h h') : Inv (k + 1) h' := by
  have hz : 200 ≤ nx h := by have := I.1.2.2; omega
  have P := I.2.2.1.keep K hz
  have b0 : mv h 198 0 ≤ 999 := I.2.2.2.2.1.1.2.1.1.2
  refine I.m hS K (I.2.1.keep K (fun a h1 h2 => by omega)) (by omega) (by omega) (by rw [W.2]; omega) (by rw [W.2]; exact I.2.2.2.2.2.2.2.2) ((I.2.2.2.2.1.fr I.2.1 W K.imm (fun rp => ?_)).mono (by omega))
  exact rp.fr W.2 (fun d _ _ => P.2.1 d) (fun d h0 h1 => P.2.2 d h0 (by omega) (rp d h0 h1).1)
