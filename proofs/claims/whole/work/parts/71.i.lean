/-! THE IMAGE: one world becomes the other -/
def rln (c j : Int) : Prop := 0 ≤ j ∧ ((c = 103 ∧ j < 80) ∨ (c = 104 ∧ j < 80) ∨ (c = 105 ∧ j < 80) ∨ (c = 106 ∧ j < 6) ∨ (c = 107 ∧ j < 6) ∨ (c = 109 ∧ j < 60) ∨ (c = 110 ∧ j < 60) ∨ (c = 111 ∧ j < 60) ∨ (c = 112 ∧ j < 60) ∨ (c = 113 ∧ j < 60) ∨ (c = 114 ∧ j < 60) ∨ (c = 116 ∧ j < 20) ∨ (c = 117 ∧ j < 108) ∨ (c = 118 ∧ j < 12) ∨ (c = 119 ∧ j < 40) ∨ (c = 120 ∧ j < 40) ∨ (c = 121 ∧ j < 40) ∨ (c = 122 ∧ j < 40) ∨ (c = 123 ∧ j < 40) ∨ (c = 125 ∧ j < 7) ∨ (c = 126 ∧ j < 7) ∨ (c = 130 ∧ j < 140) ∨ (c = 131 ∧ j < 9) ∨ (c = 133 ∧ j < 40) ∨ (c = 135 ∧ j < 40) ∨ (c = 137 ∧ j < 40) ∨ (c = 139 ∧ j < 40) ∨ (c = 101 ∧ 7 ≤ j ∧ j ≤ 10) ∨ (c = 102 ∧ j = 5) ∨ (c = 108 ∧ 6 ≤ j ∧ j ≤ 9) ∨ (c = 115 ∧ j = 8) ∨ (c = 124 ∧ j = 2) ∨ (c = 132 ∧ 1 ≤ j ∧ j ≤ 2) ∨ (c = 134 ∧ 1 ≤ j ∧ j ≤ 2) ∨ (c = 136 ∧ 1 ≤ j ∧ j ≤ 2) ∨ (c = 138 ∧ 1 ≤ j ∧ j ≤ 2))
theorem sumI_c {f g : Int → Int} {k : Nat} (q : ∀ i : Int, 0 ≤ i → i < (k : Int) → f i = g i) : sumI f k = sumI g k := sumI_congr q
section CPY
variable {M s d ss ds : Int} {h h' : MM}
theorem RW.cp0 (R : RW M s ss h) (V : OInv h) (I : Imm h h') (x : ∀ c j : Int, rln c j → mv h' (c + d) j = mv h (c + s) j) (es : ∀ j : Int, mv h' ds j = mv h ss j) (hp : RPast ds h') : RW M d ds h' := by
  obtain ⟨⟨a1, a2, a3, a4, a5, a6, a7, a8, a9, a10⟩, a11, a12, a13, a14, a15, a16, a17, a18, a19⟩ := R
  obtain ⟨b0, b1, b2, b3, b4, b5, b6, b7, b8, b9⟩ := id a2
  have xx : ∀ c j : Int, rln c j → mv h' (c + d) j = mv h (c + s) j := x
  have r : ∀ c j n : Int, 0 ≤ j → j < n → ((c = 103 ∧ n = 80) ∨ (c = 104 ∧ n = 80) ∨ (c = 105 ∧ n = 80) ∨ (c = 106 ∧ n = 6) ∨ (c = 107 ∧ n = 6) ∨ (c = 109 ∧ n = 60) ∨ (c = 110 ∧ n = 60) ∨ (c = 111 ∧ n = 60) ∨ (c = 112 ∧ n = 60) ∨ (c = 113 ∧ n = 60) ∨ (c = 114 ∧ n = 60) ∨ (c = 116 ∧ n = 20) ∨ (c = 117 ∧ n = 108) ∨ (c = 118 ∧ n = 12) ∨ (c = 119 ∧ n = 40) ∨ (c = 120 ∧ n = 40) ∨ (c = 121 ∧ n = 40) ∨ (c = 122 ∧ n = 40) ∨ (c = 123 ∧ n = 40) ∨ (c = 125 ∧ n = 7) ∨ (c = 126 ∧ n = 7) ∨ (c = 130 ∧ n = 140) ∨ (c = 131 ∧ n = 9)) → mv h' (c + d) j = mv h (c + s) j := fun c j n j0 j1 q => x c j (by unfold rln; omega)
  refine ⟨⟨?_, ?_, ?_, ?_, ?_, ?_, ?_, ?_, ?_, ?_⟩, ?_, ?_, ?_, ?_, ?_, ?_, ?_, ?_, hp⟩
  · unfold RSc at a1 ⊢
    rw [x 101 9 (by unfold rln; omega), x 102 5 (by unfold rln; omega), x 108 7 (by unfold rln; omega), x 101 8 (by unfold rln; omega), x 101 7 (by unfold rln; omega), x 101 10 (by unfold rln; omega), x 108 9 (by unfold rln; omega), x 124 2 (by unfold rln; omega), x 115 8 (by unfold rln; omega), x 108 8 (by unfold rln; omega)]
    simp only [es]; exact a1
  · unfold RBd at a2 ⊢; simp only [es]; exact a2
  · intro c c0 c1
    rw [r 103 c 80 c0 c1 (by omega), r 104 c 80 c0 c1 (by omega)]
    simp only [es]; exact a3 c c0 c1
  · refine ⟨fun t t0 t1 => ?_, fun t u t0 t1 t2 => ?_⟩
    · rw [es] at t1
      rw [r 106 t 6 t0 (by omega) (by omega), r 107 t 6 t0 (by omega) (by omega)]
      simp only [es]; exact a4.1 t t0 t1
    · rw [es] at t2; simp only [es]; exact a4.2 t u t0 t1 t2
  · intro c c0 c1
    rw [r 105 c 80 c0 c1 (by omega)]
    have : clm ds h' c = clm ss h c := by unfold clm; simp only [es]
    rw [this]; exact a5 c c0 c1
  · intro p p0 p1
    rw [es] at p1
    obtain ⟨r1, r2, r3, r4, r5, r6, r7, r8⟩ := a6 p p0 p1
    obtain ⟨k1, k2, k3, k4, k5, k6, k7, k8, k9, k10, k11, k12⟩ := r6
    have O := obj_imm I k1 k2 k3 (by decide)
    have f : ∀ i, mv h' (mv h (109 + s) p) i = mv h (mv h (109 + s) p) i := fun i => O.2 i (Or.inr (by decide))
    have A3 := k7.imm I
    have A4 := k8.imm I
    rw [r 109 p 60 p0 (by omega) (by omega)]
    refine ⟨?_, ?_, ?_, ?_, ?_, ⟨k1, by have := I.1; omega, O.1, ?_, ?_, ?_, ?_, ?_, ?_, ?_, ?_, ?_⟩, ?_, ?_⟩
    · unfold KOk at r1 ⊢; simp only [es]; exact r1
    · unfold EOk at r2 ⊢; simp only [es]; exact r2
    · unfold WOk at r3 ⊢; simp only [es]; exact r3
    · simp only [es]; exact r4
    · simp only [es]; exact r5
    · rw [f, es]; exact k4
    · rw [f, es]; exact k5
    · rw [f, es]; exact k6
    · rw [f]; exact A3.1
    · rw [f]; exact A4.1
    · rw [f, es]; exact k9
    · rw [f, es]; exact k10
    · rw [f, es]; exact k11
    · rw [f, es]; exact k12
    · unfold SlOk at r7 ⊢; simp only [es, f]; exact r7
    · unfold PlOk CLk at r8 ⊢; simp only [es, f, A3.2.1, A3.2.2, A4.2.1, A4.2.2]; exact r8
  · unfold RDay at a7 ⊢; simp only [es]; exact a7
  · unfold RMark at a8 ⊢
    rw [x 108 6 (by unfold rln; omega)]
    simp only [es]; exact a8
  · refine ⟨?_, fun p q p0 p1 q0 q1 => ?_⟩
    · have := a9.1
      simp only [es]; exact this
    · rw [es] at p1
      rw [r 110 p 60 p0 (by omega) (by omega)]
      simp only [es]; exact a9.2 p q p0 p1 q0 q1
  · intro p p0 p1
    rw [es] at p1
    rw [r 111 p 60 p0 (by omega) (by omega), r 112 p 60 p0 (by omega) (by omega)]
    simp only [es]; exact a10 p p0 p1
  · refine ⟨?_, fun p p0 p1 => ?_⟩
    · have := a11.1
      simp only [es]; exact this
    · rw [es] at p1
      rw [r 113 p 60 p0 (by omega) (by omega), r 114 p 60 p0 (by omega) (by omega)]
      have v : ∀ y, vts ds h' p y = vts ss h p y := fun y => by unfold vts; simp only [es]
      rw [v, v]; exact a11.2 p p0 p1
  · intro j j0 j1
    rw [es] at j1
    rw [r 125 j 7 j0 (by omega) (by omega), r 126 j 7 j0 (by omega) (by omega)]
    simp only [es]; exact a12 j j0 j1
  · refine ⟨fun i i0 i1 => ?_, ?_⟩
    · rw [es] at i1
      obtain ⟨y1, y2, y3, y4, y5, y6, y7⟩ := a13.1 i i0 i1
      rw [r 116 (8 + i) 20 (by omega) (by omega) (by omega), r 118 i 12 (by omega) (by omega) (by omega)]
      simp only [es]
      refine ⟨y1, y2, y3, y4, y5, fun k k0 k1 => ?_, y7⟩
      rw [r 117 (9 * i + k) 108 (by omega) (by omega) (by omega)]
      exact y6 k k0 k1
    · have := a13.2
      simp only [es]; exact this
  · obtain ⟨c1, c2, c3⟩ := a14
    refine ⟨fun k k0 k1 => ?_, fun k k0 k1 => ?_, ?_⟩
    · rw [r 116 k 20 (by omega) (by omega) (by omega), es]; exact c1 k k0 k1
    · rw [r 116 k 20 (by omega) (by omega) (by omega)]; exact c2 k k0 k1
    · rw [sumI_c (f := mv h' (116 + d)) (g := mv h (116 + s)) (k := 20) (fun i i0 i1 => r 116 i 20 i0 (by omega) (by omega))]; exact c3
  · intro f f0 f1
    rw [es] at f1
    rw [r 119 f 40 f0 (by omega) (by omega), r 120 f 40 f0 (by omega) (by omega), r 121 f 40 f0 (by omega) (by omega), r 122 f 40 f0 (by omega) (by omega), r 123 f 40 f0 (by omega) (by omega)]
    simp only [es]; exact a15 f f0 f1
  · intro k k0 k1
    have z := a16 k k0 k1
    have y1 : ∀ j : Int, (j = 1 ∨ j = 2) → mv h' (132 + d + 2 * k) j = mv h (132 + s + 2 * k) j := fun j hj => by
      rw [show 132 + d + 2 * k = 132 + 2 * k + d by omega, show 132 + s + 2 * k = 132 + 2 * k + s by omega]
      exact x _ j (by unfold rln; omega)
    have y2 : ∀ j : Int, 0 ≤ j → j < 40 → mv h' (133 + d + 2 * k) j = mv h (133 + s + 2 * k) j := fun j j0 j1 => by
      rw [show 133 + d + 2 * k = 133 + 2 * k + d by omega, show 133 + s + 2 * k = 133 + 2 * k + s by omega]
      exact x _ j (by unfold rln; omega)
    rw [y1 1 (by omega), y1 2 (by omega)]
    simp only [es]
    refine ⟨z.1, z.2.1, z.2.2.1, z.2.2.2.1, z.2.2.2.2.1, z.2.2.2.2.2.1, fun i i0 i1 => ?_⟩
    rw [y2 i i0 i1]; exact z.2.2.2.2.2.2 i i0 i1
  · obtain ⟨t1, t2, t3, t4⟩ := a17
    have i1 := I.1
    have i2 := I.2.1
    refine ⟨fun i i0 i1 => ?_, fun i i0 i1 => ?_, fun p p0 p1 => ?_, fun a a0 a1 => ?_⟩
    · rw [es] at i1
      rw [r 130 i 140 i0 (by omega) (by omega)]
      simp only [es]; exact t1 i i0 i1
    · rw [r 130 i 140 i0 i1 (by omega)]; exact t2 i i0 i1
    · rw [r 109 p 60 p0 p1 (by omega)]
      rcases t3 p p0 p1 with q | ⟨q1, q2, q3⟩
      · exact Or.inl q
      · exact Or.inr ⟨q1, by omega, (i2 _ q2).1.trans q3⟩
    · rw [r 131 a 9 a0 a1 (by omega)]
      rcases t4 a a0 a1 with q | ⟨q1, q2, q3⟩
      · exact Or.inl q
      · exact Or.inr ⟨q1, by omega, (i2 _ q2).1.trans q3⟩
  · intro a a0 a1
    rw [es] at a1
    obtain ⟨r1, r2, r3, r4⟩ := a18 a a0 a1
    have O := r2.imm V I
    rw [r 131 a 9 a0 (by omega) (by omega)]
    refine ⟨?_, O.1, ?_, ?_⟩
    · have : oB ds h' a = oB ss h a := by unfold oB; simp only [es]
      unfold OClk at r1 ⊢; simp only [es, this]; exact r1
    · unfold OTx at r3 ⊢; simp only [es, O.2.1 0 (by decide), O.2.2.2.2.1, O.2.2.2.2.2]; exact r3
    · have lc : ∀ w, ∀ k, lcI ds h' a w k = lcI ss h a w k := by
        intro w k
        induction k with
        | zero => rfl
        | succ k ih => unfold lcI; rw [ih, es]
      have la : ∀ w, lastc ds h' a w = lastc ss h a w := fun w => by unfold lastc; rw [lc, es]
      unfold OWd at r4 ⊢; simp only [es, la, O.2.2.1, O.2.2.2.1]; exact r4
/-- the same cells of the class, σ the same where there is any -/
theorem RW.cp1 (R : RW M d ds h) (V : OInv h) (hd : d = 0 ∨ d = 39) (hs : ds = 198 ∨ ds = 199) (I : Imm h h') (w : ∀ a j : Int, a ≠ ds → mv h' a j = mv h a j) (e : ∀ j : Int, 0 ≤ j → j < 83840 → mv h' ds j = mv h ds j) (hp : RPast ds h') : RW M d ds h' := by
  obtain ⟨⟨a1, a2, a3, a4, a5, a6, a7, a8, a9, a10⟩, a11, a12, a13, a14, a15, a16, a17, a18, a19⟩ := R
  have W : ∀ c j : Int, 101 ≤ c → c ≤ 139 → mv h' (c + d) j = mv h (c + d) j := fun c j c0 c1 => w _ j (by omega)
  have Q : ∀ i : Int, (0 ≤ i ∧ i < 83840) → mv h' ds i = mv h ds i := fun i hi => e i hi.1 hi.2
  refine ⟨⟨?_, a2.f (fun i hi => Q i (by omega)), a3.f (fun j => W _ _ (by omega) (by omega)) (fun j => W _ _ (by omega) (by omega)) (fun i hi => Q i (by omega)), a4.f (fun j => W _ _ (by omega) (by omega)) (fun j => W _ _ (by omega) (by omega)) a2 (fun i hi => Q i (by omega)), a5.f (fun j => W _ _ (by omega) (by omega)) a2 (fun i hi => Q i (by omega)), a6.f a2 (fun j _ _ => W _ _ (by omega) (by omega)) (Q 2 (by omega)) (Int.le_of_eq (Q 0 (by omega)).symm) I (fun i hi => Q i (by omega)), a7.f a2 (fun i hi => Q i (by omega)), a8.f (W _ _ (by omega) (by omega)) a2 (fun i hi => Q i (by omega)), a9.f (fun j => W _ _ (by omega) (by omega)) a2 (fun i hi => Q i (by omega)), a10.f (fun j => W _ _ (by omega) (by omega)) (fun j => W _ _ (by omega) (by omega)) a2 (fun i hi => Q i (by omega))⟩, a11.f (fun j => W _ _ (by omega) (by omega)) (fun j => W _ _ (by omega) (by omega)) a2 (fun i hi => Q i (by omega)), a12.f (fun j => W _ _ (by omega) (by omega)) (fun j => W _ _ (by omega) (by omega)) a2 (fun i hi => Q i (by omega)), a13.f (fun j _ _ => W _ _ (by omega) (by omega)) (fun j => W _ _ (by omega) (by omega)) (fun j => W _ _ (by omega) (by omega)) a2 (fun i hi => Q i (by omega)), a14.f (fun j => W _ _ (by omega) (by omega)) (fun i hi => Q i (by omega)), a15.f (fun j => W _ _ (by omega) (by omega)) (fun j => W _ _ (by omega) (by omega)) (fun j => W _ _ (by omega) (by omega)) (fun j => W _ _ (by omega) (by omega)) (fun j => W _ _ (by omega) (by omega)) a2 (fun i hi => Q i (by omega)), a16.f (fun a j ha => w _ _ (by omega)) (fun i hi => Q i (by omega)), a17.f (fun j => W _ _ (by omega) (by omega)) (fun j => W _ _ (by omega) (by omega)) (fun j => W _ _ (by omega) (by omega)) I a2 (fun i hi => Q i (by omega)), a18.f a2 V (fun j _ _ => W _ _ (by omega) (by omega)) (Q 3 (by omega)) I (fun i hi => Q i (by omega)), hp⟩
  unfold RSc at a1 ⊢
  rw [W 101 9 (by omega) (by omega), W 102 5 (by omega) (by omega), W 108 7 (by omega) (by omega), W 101 8 (by omega) (by omega), W 101 7 (by omega) (by omega), W 101 10 (by omega) (by omega), W 108 9 (by omega) (by omega), W 124 2 (by omega) (by omega), W 115 8 (by omega) (by omega), W 108 8 (by omega) (by omega), Q 0 (by omega), Q 1 (by omega), Q 2 (by omega), Q 3 (by omega), Q 4 (by omega), Q 5 (by omega), Q 6 (by omega), Q 7 (by omega), Q 8 (by omega), Q 9 (by omega)]
  exact a1
end CPY
