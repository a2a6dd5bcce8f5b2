/-! WHAT A CALL LEAVES AS IT WAS -/
def Mut (h : MM) (a i : Int) : Prop := 212 ≤ a ∧ ((tg h a = 3 ∧ i = 5) ∨ (tg h a = 100 ∧ (tg h (a - 3) = 3 ∨ ln h a = 60)))
def Imm (h h' : MM) : Prop := nx h ≤ nx h' ∧ (∀ a : Int, a < nx h → tg h' a = tg h a ∧ ln h' a = ln h a) ∧ ∀ a i : Int, (a < 100 ∨ 212 ≤ a) → a < nx h → ¬ Mut h a i → mv h' a i = mv h a i
theorem Imm.refl (h : MM) : Imm h h := ⟨Int.le_refl _, fun _ _ => ⟨rfl, rfl⟩, fun _ _ _ _ _ => rfl⟩
theorem Imm.trans {h h1 h2 : MM} (A : Imm h h1) (B : Imm h1 h2) : Imm h h2 := by
  obtain ⟨a1, a2, a3⟩ := A
  obtain ⟨b1, b2, b3⟩ := B
  refine ⟨by omega, fun a ha => ?_, fun a i ha hn hm => ?_⟩
  · have x := a2 a ha
    have y := b2 a (by omega)
    exact ⟨y.1.trans x.1, y.2.trans x.2⟩
  · rw [b3 a i ha (by omega) ?_, a3 a i ha hn hm]
    intro q
    apply hm
    unfold Mut at q ⊢
    rw [(a2 a hn).1, (a2 a hn).2] at q
    by_cases c : 212 ≤ a
    · rw [(a2 (a - 3) (by omega)).1] at q; exact q
    · exact absurd q.1 c
theorem Imm.ms {h h1 : MM} {a i v : Int} (A : Imm h h1) (q : (100 ≤ a ∧ a < 212) ∨ nx h ≤ a ∨ Mut h a i) : Imm h (ms h1 a i v) := by
  obtain ⟨a1, a2, a3⟩ := A
  refine ⟨a1, a2, fun b j hb hn hm => ?_⟩
  rw [mv_o ?_, a3 b j hb hn hm]
  by_cases c : b = a
  · by_cases d : j = i
    · subst c; subst d
      rcases q with q | q | q
      · omega
      · omega
      · exact absurd q hm
    · exact Or.inr d
  · exact Or.inl c
theorem Imm.ma {h h1 : MM} {a : Int} {f : Int → Int} (A : Imm h h1) (q : (100 ≤ a ∧ a < 212) ∨ nx h ≤ a ∨ ∀ i, Mut h a i) : Imm h (ma h1 a f) := by
  obtain ⟨a1, a2, a3⟩ := A
  refine ⟨a1, a2, fun b j hb hn hm => ?_⟩
  rw [mv_ma_ne ?_ j, a3 b j hb hn hm]
  intro c
  subst c
  rcases q with q | q | q
  · omega
  · omega
  · exact hm (q j)
theorem Imm.mn {h h1 : MM} {t n : Int} (A : Imm h h1) : Imm h (mn h1 t n) := by
  obtain ⟨a1, a2, a3⟩ := A
  refine ⟨by rw [nx_mn]; omega, fun a ha => ?_, fun b j hb hn hm => ?_⟩
  · rw [tg_mn, ln_mn, if_neg (by omega), if_neg (by omega)]; exact a2 a ha
  · rw [mv_mn, if_neg (by omega)]; exact a3 b j hb hn hm
theorem AArr.imm {h h' : MM} {a : Int} (q : AArr h a) (I : Imm h h') : AArr h' a ∧ (∀ i, mv h' a i = mv h a i) ∧ ln h' a = ln h a := by
  obtain ⟨i1, i2, i3⟩ := I
  obtain ⟨q1, q2, q3, q4, q5⟩ := q
  refine ⟨⟨?_, by omega, by rw [(i2 a q2).1]; exact q3, by rw [(i2 a q2).2]; exact q4, by rw [(i2 a q2).2]; exact q5⟩, fun i => ?_, (i2 a q2).2⟩
  · rcases q1 with q1 | q1
    · exact Or.inl q1
    · exact Or.inr ⟨q1.1, by rw [(i2 (a - 3) (by omega)).1]; exact q1.2⟩
  · refine i3 a i (by omega) q2 ?_
    rintro ⟨m1, m2⟩
    rcases m2 with m2 | ⟨m2, m3 | m3⟩
    · rw [q3] at m2; exact absurd m2.1 (by decide)
    · rcases q1 with q1 | q1
      · omega
      · exact q1.2 m3
    · omega
theorem obj_imm {h h' : MM} {r t : Int} (I : Imm h h') (h1 : 212 ≤ r) (h2 : r < nx h) (h3 : tg h r = t) (h4 : t < 100) : tg h' r = t ∧ (∀ i, i ≠ 5 ∨ t ≠ 3 → mv h' r i = mv h r i) := by
  obtain ⟨i1, i2, i3⟩ := I
  refine ⟨(i2 r h2).1.trans h3, fun i hi => i3 r i (Or.inr h1) h2 ?_⟩
  rintro ⟨m1, m2⟩
  rcases m2 with m2 | ⟨m2, m3⟩
  · rcases hi with hi | hi
    · exact hi m2.2
    · exact hi (h3.symm.trans m2.1)
  · omega
theorem OObj.imm {h h' : MM} {o : Int} (q : OObj h o) (V : OInv h) (I : Imm h h') : OObj h' o ∧ (∀ i, i ≠ 5 → mv h' o i = mv h o i) ∧ (∀ i, mv h' (o + 1) i = mv h (o + 1) i) ∧ (∀ i, mv h' (o + 2) i = mv h (o + 2) i) ∧ (∀ i, mv h' (o + 4) i = mv h (o + 4) i) ∧ ln h' (o + 4) = ln h (o + 4) := by
  obtain ⟨q1, q2, q3, q4, q5, q6, q7, q8, q9, q10, q11, q12, q13, q14⟩ := q
  have O := obj_imm I q1 (by omega) q3 (by decide)
  obtain ⟨i1, i2, i3⟩ := I
  have e : ∀ k, k ≠ 5 → mv h' o k = mv h o k := fun k hk => O.2 k (Or.inl hk)
  refine ⟨⟨q1, by omega, O.1, ?_, ?_, ?_, ?_, ?_, ?_, ?_, ?_, ?_, ?_, ?_⟩, e, fun i => ?_, fun i => ?_, fun i => ?_, ?_⟩
  · rw [e 1 (by decide)]; exact q4
  · rw [e 2 (by decide)]; exact q5
  · rw [e 3 (by decide)]; exact q6
  · rw [e 4 (by decide)]; exact q7
  · rw [(i2 _ (by omega)).1]; exact q8
  · rw [(i2 _ (by omega)).2]; exact q9
  · rw [(i2 _ (by omega)).1]; exact q10
  · rw [(i2 _ (by omega)).2]; exact q11
  · rw [(i2 _ (by omega)).1]; exact q12
  · rw [(i2 _ (by omega)).2]; exact q13
  · rw [(i2 _ (by omega)).1]; exact q14
  · refine i3 _ i (by omega) (by omega) ?_
    rintro ⟨m1, m2⟩
    rcases m2 with m2 | ⟨m2, m3 | m3⟩
    · omega
    · have := V (o + 1 - 3) (by omega) (by omega) m3
      rw [show o + 1 - 3 + 2 = o by omega] at this
      omega
    · omega
  · refine i3 _ i (by omega) (by omega) ?_
    rintro ⟨m1, m2⟩
    rcases m2 with m2 | ⟨m2, m3 | m3⟩
    · omega
    · have := V (o + 2 - 3) (by omega) (by omega) m3
      rw [show o + 2 - 3 + 1 = o by omega] at this
      omega
    · omega
  · refine i3 _ i (by omega) (by omega) ?_
    rintro ⟨m1, m2⟩
    omega
  · exact (i2 _ (by omega)).2
/-- the world at b and the array s are as they were -/
def SameW (b s : Int) (h h' : MM) : Prop := (∀ a j : Int, 101 + b ≤ a → a ≤ 139 + b → mv h' a j = mv h a j) ∧ ∀ j : Int, mv h' s j = mv h s j
section FR
variable {M b s : Int} {h h' : MM}
theorem row_eq (W : ∀ j : Int, mv h' s j = mv h s j) : mv h' s = mv h s := funext W
theorem RPap.fr (R : RPap b s h) (e1 : ∀ j : Int, mv h' (109 + b) j = mv h (109 + b) j) (e2 : ∀ j : Int, mv h' s j = mv h s j) (I : Imm h h') : RPap b s h' := by
  intro p h0 h1
  rw [e2] at h1
  obtain ⟨r1, r2, r3, r4, r5, r6, r7, r8⟩ := R p h0 h1
  obtain ⟨k1, k2, k3, k4, k5, k6, k7, k8, k9, k10, k11, k12⟩ := r6
  have O := obj_imm I k1 k2 k3 (by decide)
  have f : ∀ i, mv h' (mv h (109 + b) p) i = mv h (mv h (109 + b) p) i := fun i => O.2 i (Or.inr (by decide))
  have A3 := k7.imm I
  have A4 := k8.imm I
  rw [e1]
  refine ⟨?_, ?_, ?_, ?_, ?_, ⟨k1, by have := I.1; omega, O.1, ?_, ?_, ?_, ?_, ?_, ?_, ?_, ?_, ?_⟩, ?_, ?_⟩
  · unfold KOk at r1 ⊢; simp only [e2]; exact r1
  · unfold EOk at r2 ⊢; simp only [e2]; exact r2
  · unfold WOk at r3 ⊢; simp only [e2]; exact r3
  · simp only [e2]; exact r4
  · simp only [e2]; exact r5
  · rw [f, e2]; exact k4
  · rw [f, e2]; exact k5
  · rw [f, e2]; exact k6
  · rw [f]; exact A3.1
  · rw [f]; exact A4.1
  · rw [f, e2]; exact k9
  · rw [f, e2]; exact k10
  · rw [f, e2]; exact k11
  · rw [f, e2]; exact k12
  · unfold SlOk at r7 ⊢; simp only [e2, f]; exact r7
  · unfold PlOk CLk at r8 ⊢; simp only [e2, f, A3.2.1, A3.2.2, A4.2.1, A4.2.2]; exact r8
theorem ROrd.fr (R : ROrd b s h) (V : OInv h) (e1 : ∀ j : Int, mv h' (131 + b) j = mv h (131 + b) j) (e2 : ∀ j : Int, mv h' s j = mv h s j) (I : Imm h h') : ROrd b s h' := by
  intro a h0 h1
  rw [e2] at h1
  obtain ⟨r1, r2, r3, r4⟩ := R a h0 h1
  have O := r2.imm V I
  have ee : mv h' s = mv h s := funext e2
  rw [e1]
  refine ⟨?_, O.1, ?_, ?_⟩
  · have : oB s h' a = oB s h a := by unfold oB; simp only [e2]
    unfold OClk at r1 ⊢; simp only [e2, this]; exact r1
  · unfold OTx at r3 ⊢; simp only [e2, O.2.1 0 (by decide), O.2.2.2.2.1, O.2.2.2.2.2]; exact r3
  · have lc : ∀ w, ∀ k, lcI s h' a w k = lcI s h a w k := by
      intro w k
      induction k with
      | zero => rfl
      | succ k ih => unfold lcI; rw [ih, e2]
    have la : ∀ w, lastc s h' a w = lastc s h a w := fun w => by unfold lastc; rw [lc, e2]
    unfold OWd at r4 ⊢; simp only [e2, la, O.2.2.1, O.2.2.2.1]; exact r4
theorem RFil.f (R : RFil b h) (w1 : ∀ j : Int, mv h' (109 + b) j = mv h (109 + b) j) (w2 : ∀ j : Int, mv h' (131 + b) j = mv h (131 + b) j) (I : Imm h h') : RFil b h' := by
  obtain ⟨r1, r2⟩ := R
  have i1 := I.1
  have i2 := I.2.1
  refine ⟨fun p p0 p1 => ?_, fun a a0 a1 => ?_⟩
  · rw [w1]
    rcases r1 p p0 p1 with q | ⟨q1, q2, q3⟩
    · exact Or.inl q
    · exact Or.inr ⟨q1, by omega, (i2 _ q2).1.trans q3⟩
  · rw [w2]
    rcases r2 a a0 a1 with q | ⟨q1, q2, q3⟩
    · exact Or.inl q
    · exact Or.inr ⟨q1, by omega, (i2 _ q2).1.trans q3⟩
theorem RW.fr (R : RW M b s h) (V : OInv h) (W : SameW b s h h') (I : Imm h h') (hp : RPast s h → RPast s h') : RW M b s h' := by
  obtain ⟨w1, w2⟩ := W
  obtain ⟨⟨a1, a2, a3, a4, a5, a6, a7, a8, a9, a10⟩, a11, a12, a13, a14, a15, a16, a17, a18, a19⟩ := R
  have x : ∀ c j : Int, 101 ≤ c ∧ c ≤ 139 → mv h' (c + b) j = mv h (c + b) j := fun c j hc => w1 _ j (by omega) (by omega)
  have sI : ∀ f : Int → Int → Int, True := fun _ => trivial
  refine ⟨⟨?_, ?_, ?_, ?_, ?_, a6.fr (fun j => x 109 j (by omega)) w2 I, ?_, ?_, ?_, ?_⟩, ?_, ?_, ?_, ?_, ?_, ?_, ?_, a18.fr V (fun j => x 131 j (by omega)) w2 I, hp a19⟩
  · unfold RSc at a1 ⊢; simp (disch := omega) only [x, w2]; exact a1
  · unfold RBd at a2 ⊢; simp only [w2]; exact a2
  · unfold RLand at a3 ⊢; simp (disch := omega) only [x, w2]; exact a3
  · unfold RTown at a4 ⊢; simp (disch := omega) only [x, w2]; exact a4
  · unfold RClaim clm at a5 ⊢; simp (disch := omega) only [x, w2]; exact a5
  · unfold RDay at a7 ⊢; simp only [w2]; exact a7
  · unfold RMark at a8 ⊢; simp (disch := omega) only [x, w2]; exact a8
  · unfold RBar at a9 ⊢; simp (disch := omega) only [x, w2]; exact a9
  · unfold RLeft at a10 ⊢; simp (disch := omega) only [x, w2]; exact a10
  · unfold RVote vts at a11 ⊢; simp (disch := omega) only [x, w2]; exact a11
  · unfold RPress at a12 ⊢; simp (disch := omega) only [x, w2]; exact a12
  · unfold RSch at a13 ⊢; simp (disch := omega) only [x, w2]; exact a13
  · have : mv h' (116 + b) = mv h (116 + b) := funext fun j => x 116 j (by omega)
    unfold RCoin at a14 ⊢; rw [this]; simp only [w2]; exact a14
  · unfold ROff at a15 ⊢; simp (disch := omega) only [x, w2]; exact a15
  · intro k k0 k1
    have z := a16 k k0 k1
    have y1 : ∀ j, mv h' (132 + b + 2 * k) j = mv h (132 + b + 2 * k) j := fun j => w1 _ j (by omega) (by omega)
    have y2 : ∀ j, mv h' (133 + b + 2 * k) j = mv h (133 + b + 2 * k) j := fun j => w1 _ j (by omega) (by omega)
    simp only [y1, y2, w2]; exact z
  · obtain ⟨t1, t2, t3⟩ := a17
    refine ⟨fun i i0 i1 => ?_, fun i i0 i1 => ?_, t3.f (fun j => x 109 j (by omega)) (fun j => x 131 j (by omega)) I⟩
    · rw [w2] at i1
      rw [x 130 i (by omega), w2]; exact t1 i i0 i1
    · rw [x 130 i (by omega)]; exact t2 i i0 i1
end FR
