/-! AN ORDER TAKEN: the relation; text -/
section ORI
variable {n : Nat} {k : Int} {h h' : MM} {o a : Int}
def PT (a x i : Int) : Prop := (x = 101 ∧ (i = 7 ∨ i = 8)) ∨ (x = 131 ∧ i = a) ∨ (x = 197 ∧ 4 ≤ i ∧ i ≤ 7) ∨ (x = 198 ∧ (i = 3 ∨ i = 4 ∨ RO a i))
theorem PT_ok {x i : Int} (z : PT a x i) : Wok x i := by
  rcases z with ⟨rfl, z⟩ | ⟨rfl, z⟩ | ⟨rfl, z⟩ | ⟨rfl, z⟩
  · unfold Wok; omega
  · simp [Wok]
  · unfold Wok; omega
  · simp [Wok]
theorem ord_old {x r : Int} (R : OClk 198 h x ∧ OObj h r ∧ OTx 198 h r x ∧ OWd 198 h r x) (V : OInv h) (I : Imm h h') (x0 : 0 ≤ x) (x1 : x < a) (a8 : a ≤ 8) (e : ∀ i : Int, 9620 ≤ i → i < 11150 → ¬ RO a i → mv h' 198 i = mv h 198 i) : OClk 198 h' x ∧ OObj h' r ∧ OTx 198 h' r x ∧ OWd 198 h' r x := by
  obtain ⟨r1, r2, r3, r4⟩ := R
  have O := r2.imm V I
  obtain ⟨q1, q2, q3, q4, q5⟩ := id r1
  have E : ∀ i : Int, RO x i → 9620 ≤ i → i < 11150 → mv h' 198 i = mv h 198 i := fun i z i0 i1 => e i i0 i1 (by unfold RO at z ⊢; omega)
  have E1 : ∀ j : Int, 0 ≤ j → j < 140 → mv h' 198 (9640 + 140 * x + j) = mv h 198 (9640 + 140 * x + j) := fun j j0 j1 => E _ (by unfold RO; omega) (by omega) (by omega)
  have E2 : mv h' 198 (9620 + x) = mv h 198 (9620 + x) := E _ (by unfold RO; omega) (by omega) (by omega)
  have E3 : mv h' 198 (9630 + x) = mv h 198 (9630 + x) := E _ (by unfold RO; omega) (by omega) (by omega)
  have E4 : mv h' 198 (10900 + x) = mv h 198 (10900 + x) := E _ (by unfold RO; omega) (by omega) (by omega)
  have E5 : ∀ j : Int, 0 ≤ j → j < 8 → mv h' 198 (10910 + 8 * x + j) = mv h 198 (10910 + 8 * x + j) ∧ mv h' 198 (10990 + 8 * x + j) = mv h 198 (10990 + 8 * x + j) ∧ mv h' 198 (11070 + 8 * x + j) = mv h 198 (11070 + 8 * x + j) := fun j j0 j1 => ⟨E _ (by unfold RO; omega) (by omega) (by omega), E _ (by unfold RO; omega) (by omega) (by omega), E _ (by unfold RO; omega) (by omega) (by omega)⟩
  have oBe : oB 198 h' x = oB 198 h x := by
    funext j
    unfold oB
    rw [E3]
    by_cases c : 0 ≤ j ∧ j < mv h 198 (9630 + x)
    · rw [if_pos c, if_pos c, E1 j c.1 (by omega)]
    · rw [if_neg c, if_neg c]
  have lce : ∀ w, lastc 198 h' x w = lastc 198 h x w := fun w => by
    unfold lastc
    rw [E4]
    exact lcI_fr (c := mv h 198 (10900 + x)) (fun k k0 k1 => (E5 k k0 (by omega)).1) _ (by omega)
  refine ⟨⟨by rw [E2]; exact q1, by rw [E3]; exact q2, fun j j0 j1 => ?_, by rw [E4]; exact q4, fun k k0 k1 => ?_⟩, O.1, ⟨?_, ?_, fun j j0 j1 => ?_⟩, fun w w0 w1 => ?_⟩
  · rw [E3] at j1
    rw [E1 j j0 (by omega)]; exact q3 j j0 j1
  · rw [E4] at k1
    obtain ⟨z1, z2, z3⟩ := E5 k k0 (by omega)
    rw [z1, z2, z3, oBe, E3]; exact q5 k k0 k1
  · rw [O.2.1 0 (by decide), E2]; exact r3.1
  · rw [O.2.2.2.2.2, E3]; exact r3.2.1
  · rw [E3] at j1
    rw [O.2.2.2.2.1, E1 j j0 (by omega)]; exact r3.2.2 j j0 j1
  · have q := r4 w w0 w1
    have lt := lcI_lt (s := 198) (h := h) (a := x) (w := w) (mv h 198 (10900 + x)).toNat
    have ll : lastc 198 h x w = lcI 198 h x w (mv h 198 (10900 + x)).toNat := rfl
    rw [lce, O.2.2.1, O.2.2.2.1]
    refine ⟨q.1, fun c => ?_⟩
    obtain ⟨z1, z2, z3⟩ := E5 (lastc 198 h x w) (by omega) (by omega)
    rw [z2, z3]
    exact q.2 c
theorem rw_ord (I : Inv k h) (ea : mv h 198 3 = a) (n5 : nx h' = nx h + 5) (F : FrK (PT a) h h') (tt : ∀ x, x < nx h → tg h' x = tg h x ∧ ln h' x = ln h x) (g0 : tg h' (nx h) = 3 ∧ tg h' (nx h + 1) = 100 ∧ tg h' (nx h + 2) = 100 ∧ tg h' (nx h + 3) = 100 ∧ ln h' (nx h + 3) = 6 ∧ tg h' (nx h + 4) = 102) (e4 : mv h' 101 7 = 0 ∧ mv h' 198 4 = 0) (e8 : mv h' 101 8 = mv h' 198 3) (hc : (mv h' 198 3 = a ∧ (mv h' 131 a = mv h 131 a ∨ mv h' 131 a = 0)) ∨ (mv h' 198 3 = a + 1 ∧ mv h' 131 a = nx h ∧ NO h' (nx h) a)) : Sh h' ∧ Keep h h' ∧ OInv h' ∧ RW (100000 * k) 0 198 h' := by
  have S := I.1
  have hz : 212 ≤ nx h := S.2.2
  have Kp : Keep h h' := F.keep (fun x j => PT_ok) (by omega) tt hz
  have Sh' : Sh h' := F.sh (fun x j => PT_ok) (by omega) tt S
  obtain ⟨⟨a1, a2, a3, a4, a5, a6, a7, a8, a9, a10⟩, a11, a12, a13, a14, a15, a16, a17, a18, a19⟩ := I.2.2.2.2.1
  obtain ⟨b0, b1, b2, b3, b4, b5, b6, b7, b8, b9⟩ := id a2
  have a8' : mv h 198 3 ≤ 8 := I.2.2.2.2.2.2.2.2
  have Pk := (I.2.2.1.keep Kp (by omega)).2
  have Q : ∀ i : Int, (i < 3 ∨ (5 ≤ i ∧ i < 9620) ∨ 11150 ≤ i) → mv h' 198 i = mv h 198 i := fun i z => F 198 i (by omega) (by unfold PT RO; omega)
  have Wr : ∀ x j : Int, (x < nx h ∧ x ≠ 101 ∧ x ≠ 131 ∧ x ≠ 197 ∧ x ≠ 198) ∨ (x = 101 ∧ j ≠ 7 ∧ j ≠ 8) ∨ (x = 131 ∧ j ≠ a) ∨ (x = 198 ∧ (j < 3 ∨ (5 ≤ j ∧ j < 9620) ∨ 11150 ≤ j)) → mv h' x j = mv h x j := fun x j z => by
    refine F x j (by omega) (fun y => ?_)
    unfold PT RO at y
    omega
  have n3 : mv h' 198 3 = a ∨ mv h' 198 3 = a + 1 := hc.elim (fun z => Or.inl z.1) (fun z => Or.inr z.1)
  have V' : OInv h' := by
    intro x x0 x1 x2
    by_cases c : x < nx h
    · rw [(tt x c).1] at x2
      have v := I.2.1 x x0 c x2
      rw [(tt _ (by omega)).1, (tt _ (by omega)).1, (tt _ (by omega)).1, (tt _ (by omega)).2, (tt _ (by omega)).1]
      exact ⟨by omega, v.2⟩
    · rcases (show x = nx h ∨ x = nx h + 1 ∨ x = nx h + 2 ∨ x = nx h + 3 ∨ x = nx h + 4 by omega) with rfl | rfl | rfl | rfl | rfl
      · exact ⟨by omega, hz, g0.2.1, g0.2.2.1, g0.2.2.2.1, g0.2.2.2.2.1, g0.2.2.2.2.2⟩
      · rw [g0.2.1] at x2; omega
      · rw [g0.2.2.1] at x2; omega
      · rw [g0.2.2.2.1] at x2; omega
      · rw [g0.2.2.2.2.2] at x2; omega
  have old : ∀ x : Int, 0 ≤ x → x < a → OClk 198 h' x ∧ OObj h' (mv h' (131 + 0) x) ∧ OTx 198 h' (mv h' (131 + 0) x) x ∧ OWd 198 h' (mv h' (131 + 0) x) x := fun x x0 x1 => by
    simp only [Int.add_zero]
    rw [Wr 131 x (by omega)]
    have z := a18 x x0 (by omega)
    simp only [Int.add_zero] at z
    exact ord_old (a := a) z I.2.1 Kp.imm x0 x1 (by omega) (fun i i0 i1 i2 => F 198 i (by omega) (fun y => by
      rcases y with ⟨y, -⟩ | ⟨y, -⟩ | ⟨y, -⟩ | ⟨-, y | y | y⟩
      · omega
      · omega
      · omega
      · omega
      · omega
      · exact i2 y))
  have fil : RFil 0 h' := by
    obtain ⟨t1, t2, f1, f2⟩ := a17
    simp only [Int.add_zero] at f1 f2
    refine ⟨fun p p0 p1 => ?_, fun x x0 x1 => ?_⟩
    · simp only [Int.add_zero]
      rw [Wr 109 p (by omega)]
      rcases f1 p p0 p1 with q | ⟨q1, q2, q3⟩
      · exact Or.inl q
      · exact Or.inr ⟨q1, by omega, (tt _ q2).1.trans q3⟩
    · simp only [Int.add_zero]
      by_cases c : x = a
      · subst c
        rcases hc with ⟨-, z | z⟩ | ⟨-, z, -⟩
        · rw [z]
          rcases f2 x x0 x1 with q | ⟨q1, q2, q3⟩
          · exact Or.inl q
          · exact Or.inr ⟨q1, by omega, (tt _ q2).1.trans q3⟩
        · exact Or.inl z
        · rw [z]; exact Or.inr ⟨hz, by omega, g0.1⟩
      · rw [Wr 131 x (by omega)]
        rcases f2 x x0 x1 with q | ⟨q1, q2, q3⟩
        · exact Or.inl q
        · exact Or.inr ⟨q1, by omega, (tt _ q2).1.trans q3⟩
  refine ⟨Sh', Kp, V', ?_⟩
  refine ⟨⟨?_,
    ?_,
    (a3.f (by intros; exact Wr _ _ (by omega)) (by intros; exact Wr _ _ (by omega)) (by intros; exact Wr _ _ (by omega))),
    (a4.f (by intros; exact Wr _ _ (by omega)) (by intros; exact Wr _ _ (by omega)) a2 (by intros; exact Wr _ _ (by omega))),
    (a5.f (by intros; exact Wr _ _ (by omega)) a2 (by intros; exact Wr _ _ (by omega))),
    (a6.f a2 (by intros; exact Wr _ _ (by omega)) (by intros; exact Wr _ _ (by omega)) (Int.le_of_eq (Wr _ _ (by omega)).symm) Kp.imm (by intros; exact Wr _ _ (by omega))),
    (a7.f a2 (by intros; exact Wr _ _ (by omega))),
    (a8.f (by intros; exact Wr _ _ (by omega)) a2 (by intros; exact Wr _ _ (by omega))),
    (a9.f (by intros; exact Wr _ _ (by omega)) a2 (by intros; exact Wr _ _ (by omega))),
    (a10.f (by intros; exact Wr _ _ (by omega)) (by intros; exact Wr _ _ (by omega)) a2 (by intros; exact Wr _ _ (by omega)))⟩,
    (a11.f (by intros; exact Wr _ _ (by omega)) (by intros; exact Wr _ _ (by omega)) a2 (by intros; exact Wr _ _ (by omega))),
    (a12.f (by intros; exact Wr _ _ (by omega)) (by intros; exact Wr _ _ (by omega)) a2 (by intros; exact Wr _ _ (by omega))),
    (a13.f (by intros; exact Wr _ _ (by omega)) (by intros; exact Wr _ _ (by omega)) (by intros; exact Wr _ _ (by omega)) a2 (by intros; exact Wr _ _ (by omega))),
    ((a14.f (by intros; exact Wr _ _ (by omega)) (by intros; exact Wr _ _ (by omega))).mono (by omega)),
    (a15.f (by intros; exact Wr _ _ (by omega)) (by intros; exact Wr _ _ (by omega)) (by intros; exact Wr _ _ (by omega)) (by intros; exact Wr _ _ (by omega)) (by intros; exact Wr _ _ (by omega)) a2 (by intros; exact Wr _ _ (by omega))),
    (a16.f (by intros; exact Wr _ _ (by omega)) (by intros; exact Wr _ _ (by omega))),
    ?_,
    ?_,
    (a19.f a2 (by intros; exact Wr _ _ (by omega)) (by intros; exact Wr _ _ (by omega)) (by intros; exact Wr _ _ (by omega)) (by intros; exact Wr _ _ (by omega)) Pk.1 Pk.2)⟩
  · obtain ⟨e0, e1, e2, e3, e5, e6, e7, e9, e10, e11⟩ := sc0 a1
    refine ⟨?_, ?_, ?_, e8, e4.1.trans e4.2.symm, ?_, ?_, ?_, ?_, ?_⟩
    · rw [Q 0 (by omega)]; exact (Wr 101 9 (by omega)).trans e0
    · rw [Q 1 (by omega)]; exact (Wr 102 5 (by omega)).trans e1
    · rw [Q 2 (by omega)]; exact (Wr 108 7 (by omega)).trans e2
    · rw [Q 5 (by omega)]; exact (Wr 101 10 (by omega)).trans e6
    · rw [Q 6 (by omega)]; exact (Wr 108 9 (by omega)).trans e7
    · rw [Q 7 (by omega)]; exact (Wr 124 2 (by omega)).trans e9
    · rw [Q 8 (by omega)]; exact (Wr 115 8 (by omega)).trans e10
    · rw [Q 9 (by omega)]; exact (Wr 108 8 (by omega)).trans e11
  · unfold RBd
    rw [Q 0 (by omega), Q 1 (by omega), Q 2 (by omega), e4.2, Q 5 (by omega), Q 6 (by omega), Q 7 (by omega), Q 8 (by omega), Q 9 (by omega)]
    exact ⟨b0, b1, b2, by omega, by omega, b5, b6, b7, b8, b9⟩
  · obtain ⟨t1, t2, t3⟩ := a17
    refine ⟨fun i i0 i1 => by rw [e4.2] at i1; omega, fun i i0 i1 => ?_, fil⟩
    rw [Wr (130 + 0) i (by omega)]; exact t2 i i0 i1
  · intro x x0 x1
    rcases hc with ⟨z, -⟩ | ⟨z, z2, z3⟩
    · rw [z] at x1
      exact old x x0 x1
    · rw [z] at x1
      by_cases c : x = a
      · subst c
        simp only [Int.add_zero]
        rw [z2]; exact z3
      · exact old x x0 (by omega)
theorem inv_ord (I : Inv k h) (ea : mv h 198 3 = a) (n5 : nx h' = nx h + 5) (s5 : sl h' ≤ sl h + 5000) (F : FrK (PT a) h h') (tt : ∀ x, x < nx h → tg h' x = tg h x ∧ ln h' x = ln h x) (g0 : tg h' (nx h) = 3 ∧ tg h' (nx h + 1) = 100 ∧ tg h' (nx h + 2) = 100 ∧ tg h' (nx h + 3) = 100 ∧ ln h' (nx h + 3) = 6 ∧ tg h' (nx h + 4) = 102) (e4 : mv h' 101 7 = 0 ∧ mv h' 198 4 = 0) (e8 : mv h' 101 8 = mv h' 198 3) (hc : (mv h' 198 3 = a ∧ (mv h' 131 a = mv h 131 a ∨ mv h' 131 a = 0)) ∨ (mv h' 198 3 = a + 1 ∧ mv h' 131 a = nx h ∧ NO h' (nx h) a)) (a8 : mv h' 198 3 ≤ 8) : Inv (k + 1) h' := by
  obtain ⟨S', Kp, V', W⟩ := rw_ord I ea n5 F tt g0 e4 e8 hc
  have hz : 212 ≤ nx h := I.1.2.2
  refine I.m S' Kp V' (by omega) s5 ?_ a8 (W.mono (by omega))
  rw [F 198 0 (by omega) (by unfold PT RO; have := (rbd I.rd).2.2.2.1; omega)]
  exact Int.le_refl _
theorem NO.cp {H H' : MM} (N : NO H o a) (hz : 0 ≤ a ∧ a ≤ 8 ∧ 212 ≤ o) (t : ∀ x, tg H' x = tg H x ∧ ln H' x = ln H x) (n1 : nx H' = nx H) (q : ∀ r j : Int, 212 ≤ r → mv H' r j = mv H r j) (s : ∀ j : Int, j ≠ 3 → mv H' 198 j = mv H 198 j) : NO H' o a := by
  obtain ⟨⟨q1, q2, q3, q4, q5⟩, ⟨o1, o2, o3, o4, o5, o6, o7, o8, o9, o10, o11, o12, o13, o14⟩, ⟨t1, t2, t3⟩, w1⟩ := N
  have E : ∀ i : Int, 9620 ≤ i → mv H' 198 i = mv H 198 i := fun i i0 => s i (by omega)
  have oBe : oB 198 H' a = oB 198 H a := by
    funext j
    unfold oB
    rw [E (9630 + a) (by omega)]
    by_cases c : 0 ≤ j ∧ j < mv H 198 (9630 + a)
    · rw [if_pos c, if_pos c, E _ (by omega)]
    · rw [if_neg c, if_neg c]
  have lce : ∀ w, lastc 198 H' a w = lastc 198 H a w := fun w => by
    unfold lastc
    rw [E (10900 + a) (by omega)]
    exact lcI_fr (c := mv H 198 (10900 + a)) (fun k k0 k1 => E _ (by omega)) _ (by omega)
  refine ⟨⟨by rw [E _ (by omega)]; exact q1, by rw [E _ (by omega)]; exact q2, fun j j0 j1 => ?_, by rw [E _ (by omega)]; exact q4, fun k k0 k1 => ?_⟩, ⟨o1, by rw [n1]; exact o2, by rw [(t _).1]; exact o3, by rw [q _ _ (by omega)]; exact o4, by rw [q _ _ (by omega)]; exact o5, by rw [q _ _ (by omega)]; exact o6, by rw [q _ _ (by omega)]; exact o7, by rw [(t _).1]; exact o8, by rw [(t _).2]; exact o9, by rw [(t _).1]; exact o10, by rw [(t _).2]; exact o11, by rw [(t _).1]; exact o12, by rw [(t _).2]; exact o13, by rw [(t _).1]; exact o14⟩, ⟨?_, ?_, fun j j0 j1 => ?_⟩, fun w w0 w1' => ?_⟩
  · rw [E (9630 + a) (by omega)] at j1
    rw [E _ (by omega)]; exact q3 j j0 j1
  · rw [E (10900 + a) (by omega)] at k1
    rw [E (10910 + 8 * a + k) (by omega), E (10990 + 8 * a + k) (by omega), E (11070 + 8 * a + k) (by omega), oBe, E (9630 + a) (by omega)]; exact q5 k k0 k1
  · rw [q _ _ (by omega), E _ (by omega)]; exact t1
  · rw [(t _).2, E _ (by omega)]; exact t2
  · rw [E (9630 + a) (by omega)] at j1
    rw [q _ _ (by omega), E _ (by omega)]; exact t3 j j0 j1
  · have z := w1 w w0 w1'
    have lt := lcI_lt (s := 198) (h := H) (a := a) (w := w) (mv H 198 (10900 + a)).toNat
    have ll : lastc 198 H a w = lcI 198 H a w (mv H 198 (10900 + a)).toNat := rfl
    rw [lce, q _ _ (by omega), q _ _ (by omega)]
    refine ⟨z.1, fun c => ?_⟩
    rw [E (11070 + 8 * a + lastc 198 H a w) (by omega), E (10990 + 8 * a + lastc 198 H a w) (by omega)]
    exact z.2 c
end ORI
theorem sim_text {k : Int} {h : MM} (n : Nat) (hn : 10000000 ≤ n) (hk : k ≤ 1000) (I : Inv k h) {d : Int} (jd : J d) : Sim k h (f_X11_text n 100 d) (f_X12_text n 197 d) := by
  have jd' : -2147483648 ≤ d ∧ d ≤ 2147483647 := jd
  have S := I.1
  have D := I.dc
  have E := I.dm
  obtain ⟨⟨a1, a2, a3, a4, a5, a6, a7, a8, a9, a10⟩, a11, a12, a13, a14, a15, a16, a17, a18, a19⟩ := I.2.2.2.2.1
  obtain ⟨e0, e1, e2, e3, e4, e5, e6, e7, e8, e9⟩ := sc0 a1
  obtain ⟨b0, b1, b2, b3, b4, b5, b6, b7, b8, b9⟩ := id a2
  by_cases hd : ¬ (0 ≤ d ∧ d ≤ 999)
  · refine Sim.same I (-2) ?_ ?_
    · simp (disch := first | assumption | (with_reducible show Sh _; simp only [S100_2, S101_7, S101_8, S101_9, S101_10, S102_5, S103, M103, S104, M104, S105, M105, S106, M106, S107, M107, S108_6, S108_7, S108_8, S108_9, S109, M109, S110, M110, S111, M111, S112, M112, S113, M113, S114, M114, S115_8, S116, M116, S117, M117, S118, M118, S119, M119, S120, M120, S121, M121, S122, M122, S123, M123, S124_2, S125, M125, S126, M126, S127, M127, S128, M128, S130, M130, S131, M131, S132_1, S132_2, S133, M133, S134_1, S134_2, S135, M135, S136_1, S136_2, S137, M137, S138_1, S138_2, S139, M139, S140_7, S140_8, S140_9, S140_10, S141_5, S142, M142, S143, M143, S144, M144, S145, M145, S146, M146, S147_6, S147_7, S147_8, S147_9, S148, M148, S149, M149, S150, M150, S151, M151, S152, M152, S153, M153, S154_8, S155, M155, S156, M156, S157, M157, S158, M158, S159, M159, S160, M160, S161, M161, S162, M162, S163_2, S164, M164, S165, M165, S166, M166, S167, M167, S169, M169, S170, M170, S171_1, S171_2, S172, M172, S173_1, S173_2, S174, M174, S175_1, S175_2, S176, M176, S177_1, S177_2, S178, M178, S179, M179, S180_1, S180_2, S180_5, S180_6, S180_7, S180_8, S181, M181, S182, M182, S183, M183, S184_6, S185, M185, S186, M186, S187, M187, S188, M188, S189, M189, S190, M190, S191_5, S191_6, S192, M192, S193, M193, S194, M194, S195, M195, S196, M196, S197_0, S197_3, S197_4, S197_5, S197_6, S197_7, S197_13, S198, M198, S199, M199, S200, M200, S201, M201, S202, M202, S203, M203, S204, M204, S205, M205, S206, M206, S207, M207, S208, M208, S209, M209, S210, M210, S211, M211] <;> assumption) | (with_reducible show tg _ _ = _; simp only [tg_ms, tg_ma]; assumption) | (with_reducible show ln _ _ = _; simp only [ln_ms, ln_ma]; assumption) | (with_reducible show J64 _; unfold J64; omega) | (with_reducible show J _; unfold J; omega) | omega) only [↓f_X11_text, ↓f_X11_text_59, ↓bd_i, ↓lb_i, ↓rd_i, ↓wt_i, ↓pf_i, bdi_e, lbi_e, ↓ck_t, isb_0, isb_1, ↓reduceIte, ↓if_pos, ↓if_neg, Int.reduceEq, Int.reduceLT, Int.reduceLE, Int.reduceNe, Int.reduceNeg, Int.reduceAdd, Int.reduceSub, Int.reduceMul, Int.add_sub_cancel, tg_ms, ln_ms, nx_ms, tg_ma, ln_ma, nx_ma, mv_s, mv_o, mv_ma_eq, mv_ma_ne, wrk, within_t, within_f, in_t, in_f, isCell_t, isCell_f, isHolder_t, isHolder_f, isHolderm_t, isHolderm_f, isDay_t, isDay_f, isDaym_t, isDaym_f, isSheet_t, isSheet_f, isSheetm_t, isSheetm_f,  ↓gk100, ↓g100_0, ↓g100_1, ↓g100_2, pi100_2, S100_2, ↓g100_3, ↓g100_4, ↓g100_5, ↓g100_6, ↓gk101, ↓g101_0, ↓g101_1, ↓g101_2, ↓g101_3, ↓g101_4, ↓g101_5, ↓g101_6, ↓g101_7, pi101_7, S101_7, ↓g101_8, pi101_8, S101_8, ↓g101_9, pi101_9, S101_9, ↓g101_10, pi101_10, S101_10, ↓gk102, ↓g102_0, ↓g102_1, ↓g102_2, ↓g102_3, ↓g102_4, ↓g102_5, pi102_5, S102_5, ↓al103, ri103, wi103, S103, M103, ↓al104, ri104, wi104, S104, M104, ↓al105, ri105, wi105, S105, M105, ↓al106, ri106, wi106, S106, M106, ↓al107, ri107, wi107, S107, M107, ↓gk108, ↓g108_0, ↓g108_1, ↓g108_2, ↓g108_3, ↓g108_4, ↓g108_5, ↓g108_6, pi108_6, S108_6, ↓g108_7, pi108_7, S108_7, ↓g108_8, pi108_8, S108_8, ↓g108_9, pi108_9, S108_9, ↓al109, ri109, wi109, S109, M109, ↓al110, ri110, wi110, S110, M110, ↓al111, ri111, wi111, S111, M111, ↓al112, ri112, wi112, S112, M112, ↓al113, ri113, wi113, S113, M113, ↓al114, ri114, wi114, S114, M114, ↓gk115, ↓g115_0, ↓g115_1, ↓g115_2, ↓g115_3, ↓g115_4, ↓g115_5, ↓g115_6, ↓g115_7, ↓g115_8, pi115_8, S115_8, ↓al116, ri116, wi116, S116, M116, ↓al117, ri117, wi117, S117, M117, ↓al118, ri118, wi118, S118, M118, ↓al119, ri119, wi119, S119, M119, ↓al120, ri120, wi120, S120, M120, ↓al121, ri121, wi121, S121, M121, ↓al122, ri122, wi122, S122, M122, ↓al123, ri123, wi123, S123, M123, ↓gk124, ↓g124_0, ↓g124_1, ↓g124_2, pi124_2, S124_2, ↓g124_3, ↓g124_4, ↓al125, ri125, wi125, S125, M125, ↓al126, ri126, wi126, S126, M126, ↓al127, ri127, wi127, S127, M127, ↓al128, ri128, wi128, S128, M128, ↓al129, ri129, ↓al130, ri130, wi130, S130, M130, ↓al131, ri131, wi131, S131, M131, ↓gk132, ↓g132_0, ↓g132_1, pi132_1, S132_1, ↓g132_2, pi132_2, S132_2, ↓al133, ri133, wi133, S133, M133, ↓gk134, ↓g134_0, ↓g134_1, pi134_1, S134_1, ↓g134_2, pi134_2, S134_2, ↓al135, ri135, wi135, S135, M135, ↓gk136, ↓g136_0, ↓g136_1, pi136_1, S136_1, ↓g136_2, pi136_2, S136_2, ↓al137, ri137, wi137, S137, M137, ↓gk138, ↓g138_0, ↓g138_1, pi138_1, S138_1, ↓g138_2, pi138_2, S138_2, ↓al139, ri139, wi139, S139, M139, ↓al179, ri179, wi179, S179, M179, ↓gk180, ↓g180_0, ↓g180_1, pi180_1, S180_1, ↓g180_2, pi180_2, S180_2, ↓g180_3, ↓g180_4, ↓g180_5, pi180_5, S180_5, ↓g180_6, pi180_6, S180_6, ↓g180_7, pi180_7, S180_7, ↓g180_8, pi180_8, S180_8, ↓al181, ri181, wi181, S181, M181, ↓al182, ri182, wi182, S182, M182, ↓al183, ri183, wi183, S183, M183, ↓gk184, ↓g184_0, ↓g184_1, ↓g184_2, ↓g184_3, ↓g184_4, ↓g184_5, ↓g184_6, pi184_6, S184_6, ↓al185, ri185, wi185, S185, M185, ↓al186, ri186, wi186, S186, M186, ↓al187, ri187, wi187, S187, M187, ↓al188, ri188, wi188, S188, M188, ↓al189, ri189, wi189, S189, M189, ↓al190, ri190, wi190, S190, M190, ↓gk191, ↓g191_0, ↓g191_1, ↓g191_2, ↓g191_3, ↓g191_4, ↓g191_5, pi191_5, S191_5, ↓g191_6, pi191_6, S191_6, ↓al192, ri192, wi192, S192, M192, ↓al193, ri193, wi193, S193, M193, ↓al194, ri194, wi194, S194, M194, ↓al195, ri195, wi195, S195, M195, ↓al196, ri196, wi196, S196, M196]
    · simp (disch := first | assumption | (with_reducible show Sh _; simp only [S100_2, S101_7, S101_8, S101_9, S101_10, S102_5, S103, M103, S104, M104, S105, M105, S106, M106, S107, M107, S108_6, S108_7, S108_8, S108_9, S109, M109, S110, M110, S111, M111, S112, M112, S113, M113, S114, M114, S115_8, S116, M116, S117, M117, S118, M118, S119, M119, S120, M120, S121, M121, S122, M122, S123, M123, S124_2, S125, M125, S126, M126, S127, M127, S128, M128, S130, M130, S131, M131, S132_1, S132_2, S133, M133, S134_1, S134_2, S135, M135, S136_1, S136_2, S137, M137, S138_1, S138_2, S139, M139, S140_7, S140_8, S140_9, S140_10, S141_5, S142, M142, S143, M143, S144, M144, S145, M145, S146, M146, S147_6, S147_7, S147_8, S147_9, S148, M148, S149, M149, S150, M150, S151, M151, S152, M152, S153, M153, S154_8, S155, M155, S156, M156, S157, M157, S158, M158, S159, M159, S160, M160, S161, M161, S162, M162, S163_2, S164, M164, S165, M165, S166, M166, S167, M167, S169, M169, S170, M170, S171_1, S171_2, S172, M172, S173_1, S173_2, S174, M174, S175_1, S175_2, S176, M176, S177_1, S177_2, S178, M178, S179, M179, S180_1, S180_2, S180_5, S180_6, S180_7, S180_8, S181, M181, S182, M182, S183, M183, S184_6, S185, M185, S186, M186, S187, M187, S188, M188, S189, M189, S190, M190, S191_5, S191_6, S192, M192, S193, M193, S194, M194, S195, M195, S196, M196, S197_0, S197_3, S197_4, S197_5, S197_6, S197_7, S197_13, S198, M198, S199, M199, S200, M200, S201, M201, S202, M202, S203, M203, S204, M204, S205, M205, S206, M206, S207, M207, S208, M208, S209, M209, S210, M210, S211, M211] <;> assumption) | (with_reducible show tg _ _ = _; simp only [tg_ms, tg_ma]; assumption) | (with_reducible show ln _ _ = _; simp only [ln_ms, ln_ma]; assumption) | (with_reducible show J64 _; unfold J64; omega) | (with_reducible show J _; unfold J; omega) | omega) only [↓f_X12_text, ↓bd_i, ↓lb_i, ↓rd_i, ↓wt_i, ↓pf_i, bdi_e, lbi_e, ↓ck_t, isb_0, isb_1, ↓reduceIte, ↓if_pos, ↓if_neg, Int.reduceEq, Int.reduceLT, Int.reduceLE, Int.reduceNe, Int.reduceNeg, Int.reduceAdd, Int.reduceSub, Int.reduceMul, Int.add_sub_cancel, tg_ms, ln_ms, nx_ms, tg_ma, ln_ma, nx_ma, mv_s, mv_o, mv_ma_eq, mv_ma_ne, wrk, within_t, within_f, in_t, in_f, isCell_t, isCell_f, isHolder_t, isHolder_f, isHolderm_t, isHolderm_f, isDay_t, isDay_f, isDaym_t, isDaym_f, isSheet_t, isSheet_f, isSheetm_t, isSheetm_f,  ↓gk197, ↓g197_0, pi197_0, S197_0, ↓g197_1, ↓g197_2, ↓g197_3, pi197_3, S197_3, ↓g197_4, pi197_4, S197_4, ↓g197_5, pi197_5, S197_5, ↓g197_6, pi197_6, S197_6, ↓g197_7, pi197_7, S197_7, ↓g197_8, ↓g197_9, ↓g197_10, ↓g197_11, ↓g197_12, ↓g197_13, pi197_13, S197_13, ↓g197_14, ↓g197_15, ↓g197_16, ↓g197_17, ↓g197_18, ↓g197_19, ↓g197_20, ↓al198, ri198, wi198, S198, M198, ↓al199, ri199, wi199, S199, M199, ↓al200, ri200, wi200, S200, M200, ↓al201, ri201, wi201, S201, M201, ↓al202, ri202, wi202, S202, M202, ↓al203, ri203, wi203, S203, M203, ↓al204, ri204, wi204, S204, M204, ↓al205, ri205, wi205, S205, M205, ↓al206, ri206, wi206, S206, M206, ↓al207, ri207, wi207, S207, M207, ↓al208, ri208, wi208, S208, M208, ↓al209, ri209, wi209, S209, M209, ↓al210, ri210, wi210, S210, M210, ↓al211, ri211, wi211, S211, M211]
  have hd' : 0 ≤ d ∧ d ≤ 999 := by omega
  clear hd
  by_cases hf : mv h 198 3 = 8
  · refine Sim.same I (-4) ?_ ?_
    · simp (disch := first | assumption | (with_reducible show Sh _; simp only [S100_2, S101_7, S101_8, S101_9, S101_10, S102_5, S103, M103, S104, M104, S105, M105, S106, M106, S107, M107, S108_6, S108_7, S108_8, S108_9, S109, M109, S110, M110, S111, M111, S112, M112, S113, M113, S114, M114, S115_8, S116, M116, S117, M117, S118, M118, S119, M119, S120, M120, S121, M121, S122, M122, S123, M123, S124_2, S125, M125, S126, M126, S127, M127, S128, M128, S130, M130, S131, M131, S132_1, S132_2, S133, M133, S134_1, S134_2, S135, M135, S136_1, S136_2, S137, M137, S138_1, S138_2, S139, M139, S140_7, S140_8, S140_9, S140_10, S141_5, S142, M142, S143, M143, S144, M144, S145, M145, S146, M146, S147_6, S147_7, S147_8, S147_9, S148, M148, S149, M149, S150, M150, S151, M151, S152, M152, S153, M153, S154_8, S155, M155, S156, M156, S157, M157, S158, M158, S159, M159, S160, M160, S161, M161, S162, M162, S163_2, S164, M164, S165, M165, S166, M166, S167, M167, S169, M169, S170, M170, S171_1, S171_2, S172, M172, S173_1, S173_2, S174, M174, S175_1, S175_2, S176, M176, S177_1, S177_2, S178, M178, S179, M179, S180_1, S180_2, S180_5, S180_6, S180_7, S180_8, S181, M181, S182, M182, S183, M183, S184_6, S185, M185, S186, M186, S187, M187, S188, M188, S189, M189, S190, M190, S191_5, S191_6, S192, M192, S193, M193, S194, M194, S195, M195, S196, M196, S197_0, S197_3, S197_4, S197_5, S197_6, S197_7, S197_13, S198, M198, S199, M199, S200, M200, S201, M201, S202, M202, S203, M203, S204, M204, S205, M205, S206, M206, S207, M207, S208, M208, S209, M209, S210, M210, S211, M211] <;> assumption) | (with_reducible show tg _ _ = _; simp only [tg_ms, tg_ma]; assumption) | (with_reducible show ln _ _ = _; simp only [ln_ms, ln_ma]; assumption) | (with_reducible show J64 _; unfold J64; omega) | (with_reducible show J _; unfold J; omega) | omega) only [↓f_X11_text, ↓f_X11_text_59, ↓e3, ↓bd_i, ↓lb_i, ↓rd_i, ↓wt_i, ↓pf_i, bdi_e, lbi_e, ↓ck_t, isb_0, isb_1, ↓reduceIte, ↓if_pos, ↓if_neg, Int.reduceEq, Int.reduceLT, Int.reduceLE, Int.reduceNe, Int.reduceNeg, Int.reduceAdd, Int.reduceSub, Int.reduceMul, Int.add_sub_cancel, tg_ms, ln_ms, nx_ms, tg_ma, ln_ma, nx_ma, mv_s, mv_o, mv_ma_eq, mv_ma_ne, wrk, within_t, within_f, in_t, in_f, isCell_t, isCell_f, isHolder_t, isHolder_f, isHolderm_t, isHolderm_f, isDay_t, isDay_f, isDaym_t, isDaym_f, isSheet_t, isSheet_f, isSheetm_t, isSheetm_f,  ↓gk100, ↓g100_0, ↓g100_1, ↓g100_2, pi100_2, S100_2, ↓g100_3, ↓g100_4, ↓g100_5, ↓g100_6, ↓gk101, ↓g101_0, ↓g101_1, ↓g101_2, ↓g101_3, ↓g101_4, ↓g101_5, ↓g101_6, ↓g101_7, pi101_7, S101_7, ↓g101_8, pi101_8, S101_8, ↓g101_9, pi101_9, S101_9, ↓g101_10, pi101_10, S101_10, ↓gk102, ↓g102_0, ↓g102_1, ↓g102_2, ↓g102_3, ↓g102_4, ↓g102_5, pi102_5, S102_5, ↓al103, ri103, wi103, S103, M103, ↓al104, ri104, wi104, S104, M104, ↓al105, ri105, wi105, S105, M105, ↓al106, ri106, wi106, S106, M106, ↓al107, ri107, wi107, S107, M107, ↓gk108, ↓g108_0, ↓g108_1, ↓g108_2, ↓g108_3, ↓g108_4, ↓g108_5, ↓g108_6, pi108_6, S108_6, ↓g108_7, pi108_7, S108_7, ↓g108_8, pi108_8, S108_8, ↓g108_9, pi108_9, S108_9, ↓al109, ri109, wi109, S109, M109, ↓al110, ri110, wi110, S110, M110, ↓al111, ri111, wi111, S111, M111, ↓al112, ri112, wi112, S112, M112, ↓al113, ri113, wi113, S113, M113, ↓al114, ri114, wi114, S114, M114, ↓gk115, ↓g115_0, ↓g115_1, ↓g115_2, ↓g115_3, ↓g115_4, ↓g115_5, ↓g115_6, ↓g115_7, ↓g115_8, pi115_8, S115_8, ↓al116, ri116, wi116, S116, M116, ↓al117, ri117, wi117, S117, M117, ↓al118, ri118, wi118, S118, M118, ↓al119, ri119, wi119, S119, M119, ↓al120, ri120, wi120, S120, M120, ↓al121, ri121, wi121, S121, M121, ↓al122, ri122, wi122, S122, M122, ↓al123, ri123, wi123, S123, M123, ↓gk124, ↓g124_0, ↓g124_1, ↓g124_2, pi124_2, S124_2, ↓g124_3, ↓g124_4, ↓al125, ri125, wi125, S125, M125, ↓al126, ri126, wi126, S126, M126, ↓al127, ri127, wi127, S127, M127, ↓al128, ri128, wi128, S128, M128, ↓al129, ri129, ↓al130, ri130, wi130, S130, M130, ↓al131, ri131, wi131, S131, M131, ↓gk132, ↓g132_0, ↓g132_1, pi132_1, S132_1, ↓g132_2, pi132_2, S132_2, ↓al133, ri133, wi133, S133, M133, ↓gk134, ↓g134_0, ↓g134_1, pi134_1, S134_1, ↓g134_2, pi134_2, S134_2, ↓al135, ri135, wi135, S135, M135, ↓gk136, ↓g136_0, ↓g136_1, pi136_1, S136_1, ↓g136_2, pi136_2, S136_2, ↓al137, ri137, wi137, S137, M137, ↓gk138, ↓g138_0, ↓g138_1, pi138_1, S138_1, ↓g138_2, pi138_2, S138_2, ↓al139, ri139, wi139, S139, M139, ↓al179, ri179, wi179, S179, M179, ↓gk180, ↓g180_0, ↓g180_1, pi180_1, S180_1, ↓g180_2, pi180_2, S180_2, ↓g180_3, ↓g180_4, ↓g180_5, pi180_5, S180_5, ↓g180_6, pi180_6, S180_6, ↓g180_7, pi180_7, S180_7, ↓g180_8, pi180_8, S180_8, ↓al181, ri181, wi181, S181, M181, ↓al182, ri182, wi182, S182, M182, ↓al183, ri183, wi183, S183, M183, ↓gk184, ↓g184_0, ↓g184_1, ↓g184_2, ↓g184_3, ↓g184_4, ↓g184_5, ↓g184_6, pi184_6, S184_6, ↓al185, ri185, wi185, S185, M185, ↓al186, ri186, wi186, S186, M186, ↓al187, ri187, wi187, S187, M187, ↓al188, ri188, wi188, S188, M188, ↓al189, ri189, wi189, S189, M189, ↓al190, ri190, wi190, S190, M190, ↓gk191, ↓g191_0, ↓g191_1, ↓g191_2, ↓g191_3, ↓g191_4, ↓g191_5, pi191_5, S191_5, ↓g191_6, pi191_6, S191_6, ↓al192, ri192, wi192, S192, M192, ↓al193, ri193, wi193, S193, M193, ↓al194, ri194, wi194, S194, M194, ↓al195, ri195, wi195, S195, M195, ↓al196, ri196, wi196, S196, M196]
    · simp (disch := first | assumption | (with_reducible show Sh _; simp only [S100_2, S101_7, S101_8, S101_9, S101_10, S102_5, S103, M103, S104, M104, S105, M105, S106, M106, S107, M107, S108_6, S108_7, S108_8, S108_9, S109, M109, S110, M110, S111, M111, S112, M112, S113, M113, S114, M114, S115_8, S116, M116, S117, M117, S118, M118, S119, M119, S120, M120, S121, M121, S122, M122, S123, M123, S124_2, S125, M125, S126, M126, S127, M127, S128, M128, S130, M130, S131, M131, S132_1, S132_2, S133, M133, S134_1, S134_2, S135, M135, S136_1, S136_2, S137, M137, S138_1, S138_2, S139, M139, S140_7, S140_8, S140_9, S140_10, S141_5, S142, M142, S143, M143, S144, M144, S145, M145, S146, M146, S147_6, S147_7, S147_8, S147_9, S148, M148, S149, M149, S150, M150, S151, M151, S152, M152, S153, M153, S154_8, S155, M155, S156, M156, S157, M157, S158, M158, S159, M159, S160, M160, S161, M161, S162, M162, S163_2, S164, M164, S165, M165, S166, M166, S167, M167, S169, M169, S170, M170, S171_1, S171_2, S172, M172, S173_1, S173_2, S174, M174, S175_1, S175_2, S176, M176, S177_1, S177_2, S178, M178, S179, M179, S180_1, S180_2, S180_5, S180_6, S180_7, S180_8, S181, M181, S182, M182, S183, M183, S184_6, S185, M185, S186, M186, S187, M187, S188, M188, S189, M189, S190, M190, S191_5, S191_6, S192, M192, S193, M193, S194, M194, S195, M195, S196, M196, S197_0, S197_3, S197_4, S197_5, S197_6, S197_7, S197_13, S198, M198, S199, M199, S200, M200, S201, M201, S202, M202, S203, M203, S204, M204, S205, M205, S206, M206, S207, M207, S208, M208, S209, M209, S210, M210, S211, M211] <;> assumption) | (with_reducible show tg _ _ = _; simp only [tg_ms, tg_ma]; assumption) | (with_reducible show ln _ _ = _; simp only [ln_ms, ln_ma]; assumption) | (with_reducible show J64 _; unfold J64; omega) | (with_reducible show J _; unfold J; omega) | omega) only [↓f_X12_text, ↓e3, ↓bd_i, ↓lb_i, ↓rd_i, ↓wt_i, ↓pf_i, bdi_e, lbi_e, ↓ck_t, isb_0, isb_1, ↓reduceIte, ↓if_pos, ↓if_neg, Int.reduceEq, Int.reduceLT, Int.reduceLE, Int.reduceNe, Int.reduceNeg, Int.reduceAdd, Int.reduceSub, Int.reduceMul, Int.add_sub_cancel, tg_ms, ln_ms, nx_ms, tg_ma, ln_ma, nx_ma, mv_s, mv_o, mv_ma_eq, mv_ma_ne, wrk, within_t, within_f, in_t, in_f, isCell_t, isCell_f, isHolder_t, isHolder_f, isHolderm_t, isHolderm_f, isDay_t, isDay_f, isDaym_t, isDaym_f, isSheet_t, isSheet_f, isSheetm_t, isSheetm_f,  ↓gk197, ↓g197_0, pi197_0, S197_0, ↓g197_1, ↓g197_2, ↓g197_3, pi197_3, S197_3, ↓g197_4, pi197_4, S197_4, ↓g197_5, pi197_5, S197_5, ↓g197_6, pi197_6, S197_6, ↓g197_7, pi197_7, S197_7, ↓g197_8, ↓g197_9, ↓g197_10, ↓g197_11, ↓g197_12, ↓g197_13, pi197_13, S197_13, ↓g197_14, ↓g197_15, ↓g197_16, ↓g197_17, ↓g197_18, ↓g197_19, ↓g197_20, ↓al198, ri198, wi198, S198, M198, ↓al199, ri199, wi199, S199, M199, ↓al200, ri200, wi200, S200, M200, ↓al201, ri201, wi201, S201, M201, ↓al202, ri202, wi202, S202, M202, ↓al203, ri203, wi203, S203, M203, ↓al204, ri204, wi204, S204, M204, ↓al205, ri205, wi205, S205, M205, ↓al206, ri206, wi206, S206, M206, ↓al207, ri207, wi207, S207, M207, ↓al208, ri208, wi208, S208, M208, ↓al209, ri209, wi209, S209, M209, ↓al210, ri210, wi210, S210, M210, ↓al211, ri211, wi211, S211, M211]
  have h8 : mv h 198 3 ≤ 8 := I.2.2.2.2.2.2.2.2
  have n8 := I.2.2.2.2.2.2.1
  have s9 := I.2.2.2.2.2.2.2.1
  have TT := I.2.2.2.1
  have hz : 212 ≤ nx h := S.2.2
  obtain ⟨a, ea⟩ : ∃ a, mv h 198 3 = a := ⟨_, rfl⟩
  obtain ⟨o, ho⟩ : ∃ o, nx h = o := ⟨_, rfl⟩
  rw [ea] at b3 hf h8 e3
  refine Sim.twoS I (fun G SG TG oG => ?_)
  have zi : mx h G = h := mx_i oG
  have g198 : ∀ j, mv G 198 j = mv h 198 j := fun j => oG 198 j (by omega)
  have eg3 : mv G 198 3 = a := (g198 3).trans ea
  obtain ⟨C1, C2, G2, p, ok, x1, x2, x3, x4, x5, x6, x7, ⟨⟨y1, y2⟩, y3, y4, y5, y6⟩, x9, x10, x11⟩ := order_e (n := n) (C := h) (G := G) (a := a) (d := d) hn (by rw [zi]; exact I.rd) S SG TT TG ho hd' eg3 (by omega) (by omega) (by omega)
  rw [g198] at y2
  have ZC : ∀ x y : Int, x < o → ¬ PT a x y → mv C2 x y = mv h x y := fun x y hx hp => y4 x y hx (by unfold PT at hp; omega)
  have ZG : ∀ x y : Int, 197 ≤ x ∧ x ≤ 211 → ¬ PT a x y → mv G2 x y = mv h x y := fun x y hx hp => by
    rw [x9.2 x y (fun z => hp (z.elim (fun z => Or.inr (Or.inr (Or.inl z))) (fun z => Or.inr (Or.inr (Or.inr ⟨z.1, Or.inr z.2⟩)))))]; exact oG x y hx
  have SC2 : Sh C2 := S.up (by omega) (fun x hx => y3 x (by omega)) (fun x j hx h1 _ => y4 x j (by omega) (by omega))
  have TC2 : StI C2 := TT.up (fun x hx => y3 x (by omega)) (fun x j hx => y4 x j (by omega) (by omega))
  have SG2 : Sh G2 := x9.sh (fun x i z => PT_ok (a := a) (z.elim (fun z => Or.inr (Or.inr (Or.inl z))) (fun z => Or.inr (Or.inr (Or.inr ⟨z.1, Or.inr z.2⟩))))) SG
  have c8 : mv C2 101 8 = a := (y4 101 8 (by omega) (by omega)).trans e3
  have g3 : mv G2 198 3 = a := by rw [x9.2 198 3 (by unfold PMo RO; omega)]; exact eg3
  have oc2 : Oc h C2 := fun x j q => y4 x j (by omega) (by omega)
  have om2 : Om G G2 := ⟨x9.1, fun x j q => x9.2 x j (by unfold PMo; omega)⟩
  have gk1 : ∀ kk : RR, gk C1 o 3 kk = kk := fun kk => gk_e x2
  have gk2' : ∀ kk : RR, gk C2 o 3 kk = kk := fun kk => gk_e y6.1
  have Sm := SG
  cases ok with
  | false =>
    have x3' : f_X3_faultOf n o C1 = some (p, C2) := x3
    have x4' : f_X12_readsOrder n 197 a d G = some (0, G2) := x4
    refine ⟨-10 - p, C2, G2, ?_, ?_, inv_ord (a := a) I ea (by rw [ho]; exact y1) (by show sl C2 ≤ _; omega) (fun x i hx hp => ?_) (fun x hx => y3 x (by omega)) (by rw [ho]; exact y6) ⟨?_, ?_⟩ ?_ (Or.inl ⟨?_, Or.inl ?_⟩) ?_, SC2, TC2, oc2, om2⟩
    · simp (disch := first | assumption | (with_reducible show Sh _; simp only [S100_2, S101_7, S101_8, S101_9, S101_10, S102_5, S103, M103, S104, M104, S105, M105, S106, M106, S107, M107, S108_6, S108_7, S108_8, S108_9, S109, M109, S110, M110, S111, M111, S112, M112, S113, M113, S114, M114, S115_8, S116, M116, S117, M117, S118, M118, S119, M119, S120, M120, S121, M121, S122, M122, S123, M123, S124_2, S125, M125, S126, M126, S127, M127, S128, M128, S130, M130, S131, M131, S132_1, S132_2, S133, M133, S134_1, S134_2, S135, M135, S136_1, S136_2, S137, M137, S138_1, S138_2, S139, M139, S140_7, S140_8, S140_9, S140_10, S141_5, S142, M142, S143, M143, S144, M144, S145, M145, S146, M146, S147_6, S147_7, S147_8, S147_9, S148, M148, S149, M149, S150, M150, S151, M151, S152, M152, S153, M153, S154_8, S155, M155, S156, M156, S157, M157, S158, M158, S159, M159, S160, M160, S161, M161, S162, M162, S163_2, S164, M164, S165, M165, S166, M166, S167, M167, S169, M169, S170, M170, S171_1, S171_2, S172, M172, S173_1, S173_2, S174, M174, S175_1, S175_2, S176, M176, S177_1, S177_2, S178, M178, S179, M179, S180_1, S180_2, S180_5, S180_6, S180_7, S180_8, S181, M181, S182, M182, S183, M183, S184_6, S185, M185, S186, M186, S187, M187, S188, M188, S189, M189, S190, M190, S191_5, S191_6, S192, M192, S193, M193, S194, M194, S195, M195, S196, M196, S197_0, S197_3, S197_4, S197_5, S197_6, S197_7, S197_13, S198, M198, S199, M199, S200, M200, S201, M201, S202, M202, S203, M203, S204, M204, S205, M205, S206, M206, S207, M207, S208, M208, S209, M209, S210, M210, S211, M211] <;> assumption) | (with_reducible show tg _ _ = _; simp only [tg_ms, tg_ma]; assumption) | (with_reducible show ln _ _ = _; simp only [ln_ms, ln_ma]; assumption) | (with_reducible show J64 _; unfold J64; omega) | (with_reducible show J _; unfold J; omega) | omega) only [↓f_X11_text, ↓f_X11_text_59, ↓e3, ↓x1, ↓gk1, ↓x3', ↓bd_i, ↓lb_i, ↓rd_i, ↓wt_i, ↓pf_i, bdi_e, lbi_e, ↓ck_t, isb_0, isb_1, ↓reduceIte, ↓if_pos, ↓if_neg, Int.reduceEq, Int.reduceLT, Int.reduceLE, Int.reduceNe, Int.reduceNeg, Int.reduceAdd, Int.reduceSub, Int.reduceMul, Int.add_sub_cancel, tg_ms, ln_ms, nx_ms, tg_ma, ln_ma, nx_ma, mv_s, mv_o, mv_ma_eq, mv_ma_ne, wrk, within_t, within_f, in_t, in_f, isCell_t, isCell_f, isHolder_t, isHolder_f, isHolderm_t, isHolderm_f, isDay_t, isDay_f, isDaym_t, isDaym_f, isSheet_t, isSheet_f, isSheetm_t, isSheetm_f,  ↓gk100, ↓g100_0, ↓g100_1, ↓g100_2, pi100_2, S100_2, ↓g100_3, ↓g100_4, ↓g100_5, ↓g100_6, ↓gk101, ↓g101_0, ↓g101_1, ↓g101_2, ↓g101_3, ↓g101_4, ↓g101_5, ↓g101_6, ↓g101_7, pi101_7, S101_7, ↓g101_8, pi101_8, S101_8, ↓g101_9, pi101_9, S101_9, ↓g101_10, pi101_10, S101_10, ↓gk102, ↓g102_0, ↓g102_1, ↓g102_2, ↓g102_3, ↓g102_4, ↓g102_5, pi102_5, S102_5, ↓al103, ri103, wi103, S103, M103, ↓al104, ri104, wi104, S104, M104, ↓al105, ri105, wi105, S105, M105, ↓al106, ri106, wi106, S106, M106, ↓al107, ri107, wi107, S107, M107, ↓gk108, ↓g108_0, ↓g108_1, ↓g108_2, ↓g108_3, ↓g108_4, ↓g108_5, ↓g108_6, pi108_6, S108_6, ↓g108_7, pi108_7, S108_7, ↓g108_8, pi108_8, S108_8, ↓g108_9, pi108_9, S108_9, ↓al109, ri109, wi109, S109, M109, ↓al110, ri110, wi110, S110, M110, ↓al111, ri111, wi111, S111, M111, ↓al112, ri112, wi112, S112, M112, ↓al113, ri113, wi113, S113, M113, ↓al114, ri114, wi114, S114, M114, ↓gk115, ↓g115_0, ↓g115_1, ↓g115_2, ↓g115_3, ↓g115_4, ↓g115_5, ↓g115_6, ↓g115_7, ↓g115_8, pi115_8, S115_8, ↓al116, ri116, wi116, S116, M116, ↓al117, ri117, wi117, S117, M117, ↓al118, ri118, wi118, S118, M118, ↓al119, ri119, wi119, S119, M119, ↓al120, ri120, wi120, S120, M120, ↓al121, ri121, wi121, S121, M121, ↓al122, ri122, wi122, S122, M122, ↓al123, ri123, wi123, S123, M123, ↓gk124, ↓g124_0, ↓g124_1, ↓g124_2, pi124_2, S124_2, ↓g124_3, ↓g124_4, ↓al125, ri125, wi125, S125, M125, ↓al126, ri126, wi126, S126, M126, ↓al127, ri127, wi127, S127, M127, ↓al128, ri128, wi128, S128, M128, ↓al129, ri129, ↓al130, ri130, wi130, S130, M130, ↓al131, ri131, wi131, S131, M131, ↓gk132, ↓g132_0, ↓g132_1, pi132_1, S132_1, ↓g132_2, pi132_2, S132_2, ↓al133, ri133, wi133, S133, M133, ↓gk134, ↓g134_0, ↓g134_1, pi134_1, S134_1, ↓g134_2, pi134_2, S134_2, ↓al135, ri135, wi135, S135, M135, ↓gk136, ↓g136_0, ↓g136_1, pi136_1, S136_1, ↓g136_2, pi136_2, S136_2, ↓al137, ri137, wi137, S137, M137, ↓gk138, ↓g138_0, ↓g138_1, pi138_1, S138_1, ↓g138_2, pi138_2, S138_2, ↓al139, ri139, wi139, S139, M139, ↓al179, ri179, wi179, S179, M179, ↓gk180, ↓g180_0, ↓g180_1, pi180_1, S180_1, ↓g180_2, pi180_2, S180_2, ↓g180_3, ↓g180_4, ↓g180_5, pi180_5, S180_5, ↓g180_6, pi180_6, S180_6, ↓g180_7, pi180_7, S180_7, ↓g180_8, pi180_8, S180_8, ↓al181, ri181, wi181, S181, M181, ↓al182, ri182, wi182, S182, M182, ↓al183, ri183, wi183, S183, M183, ↓gk184, ↓g184_0, ↓g184_1, ↓g184_2, ↓g184_3, ↓g184_4, ↓g184_5, ↓g184_6, pi184_6, S184_6, ↓al185, ri185, wi185, S185, M185, ↓al186, ri186, wi186, S186, M186, ↓al187, ri187, wi187, S187, M187, ↓al188, ri188, wi188, S188, M188, ↓al189, ri189, wi189, S189, M189, ↓al190, ri190, wi190, S190, M190, ↓gk191, ↓g191_0, ↓g191_1, ↓g191_2, ↓g191_3, ↓g191_4, ↓g191_5, pi191_5, S191_5, ↓g191_6, pi191_6, S191_6, ↓al192, ri192, wi192, S192, M192, ↓al193, ri193, wi193, S193, M193, ↓al194, ri194, wi194, S194, M194, ↓al195, ri195, wi195, S195, M195, ↓al196, ri196, wi196, S196, M196]
    · simp (disch := first | assumption | (with_reducible show Sh _; simp only [S100_2, S101_7, S101_8, S101_9, S101_10, S102_5, S103, M103, S104, M104, S105, M105, S106, M106, S107, M107, S108_6, S108_7, S108_8, S108_9, S109, M109, S110, M110, S111, M111, S112, M112, S113, M113, S114, M114, S115_8, S116, M116, S117, M117, S118, M118, S119, M119, S120, M120, S121, M121, S122, M122, S123, M123, S124_2, S125, M125, S126, M126, S127, M127, S128, M128, S130, M130, S131, M131, S132_1, S132_2, S133, M133, S134_1, S134_2, S135, M135, S136_1, S136_2, S137, M137, S138_1, S138_2, S139, M139, S140_7, S140_8, S140_9, S140_10, S141_5, S142, M142, S143, M143, S144, M144, S145, M145, S146, M146, S147_6, S147_7, S147_8, S147_9, S148, M148, S149, M149, S150, M150, S151, M151, S152, M152, S153, M153, S154_8, S155, M155, S156, M156, S157, M157, S158, M158, S159, M159, S160, M160, S161, M161, S162, M162, S163_2, S164, M164, S165, M165, S166, M166, S167, M167, S169, M169, S170, M170, S171_1, S171_2, S172, M172, S173_1, S173_2, S174, M174, S175_1, S175_2, S176, M176, S177_1, S177_2, S178, M178, S179, M179, S180_1, S180_2, S180_5, S180_6, S180_7, S180_8, S181, M181, S182, M182, S183, M183, S184_6, S185, M185, S186, M186, S187, M187, S188, M188, S189, M189, S190, M190, S191_5, S191_6, S192, M192, S193, M193, S194, M194, S195, M195, S196, M196, S197_0, S197_3, S197_4, S197_5, S197_6, S197_7, S197_13, S198, M198, S199, M199, S200, M200, S201, M201, S202, M202, S203, M203, S204, M204, S205, M205, S206, M206, S207, M207, S208, M208, S209, M209, S210, M210, S211, M211] <;> assumption) | (with_reducible show tg _ _ = _; simp only [tg_ms, tg_ma]; assumption) | (with_reducible show ln _ _ = _; simp only [ln_ms, ln_ma]; assumption) | (with_reducible show J64 _; unfold J64; omega) | (with_reducible show J _; unfold J; omega) | omega) only [↓f_X12_text, ↓eg3, ↓x4', ↓x5, ↓bd_i, ↓lb_i, ↓rd_i, ↓wt_i, ↓pf_i, bdi_e, lbi_e, ↓ck_t, isb_0, isb_1, ↓reduceIte, ↓if_pos, ↓if_neg, Int.reduceEq, Int.reduceLT, Int.reduceLE, Int.reduceNe, Int.reduceNeg, Int.reduceAdd, Int.reduceSub, Int.reduceMul, Int.add_sub_cancel, tg_ms, ln_ms, nx_ms, tg_ma, ln_ma, nx_ma, mv_s, mv_o, mv_ma_eq, mv_ma_ne, wrk, within_t, within_f, in_t, in_f, isCell_t, isCell_f, isHolder_t, isHolder_f, isHolderm_t, isHolderm_f, isDay_t, isDay_f, isDaym_t, isDaym_f, isSheet_t, isSheet_f, isSheetm_t, isSheetm_f,  ↓gk197, ↓g197_0, pi197_0, S197_0, ↓g197_1, ↓g197_2, ↓g197_3, pi197_3, S197_3, ↓g197_4, pi197_4, S197_4, ↓g197_5, pi197_5, S197_5, ↓g197_6, pi197_6, S197_6, ↓g197_7, pi197_7, S197_7, ↓g197_8, ↓g197_9, ↓g197_10, ↓g197_11, ↓g197_12, ↓g197_13, pi197_13, S197_13, ↓g197_14, ↓g197_15, ↓g197_16, ↓g197_17, ↓g197_18, ↓g197_19, ↓g197_20, ↓al198, ri198, wi198, S198, M198, ↓al199, ri199, wi199, S199, M199, ↓al200, ri200, wi200, S200, M200, ↓al201, ri201, wi201, S201, M201, ↓al202, ri202, wi202, S202, M202, ↓al203, ri203, wi203, S203, M203, ↓al204, ri204, wi204, S204, M204, ↓al205, ri205, wi205, S205, M205, ↓al206, ri206, wi206, S206, M206, ↓al207, ri207, wi207, S207, M207, ↓al208, ri208, wi208, S208, M208, ↓al209, ri209, wi209, S209, M209, ↓al210, ri210, wi210, S210, M210, ↓al211, ri211, wi211, S211, M211]
    · by_cases q : 197 ≤ x ∧ x ≤ 211
      · rw [mx_m q]; exact ZG x i q hp
      · rw [mx_c q]; exact ZC x i (by omega) hp
    · rw [mx_c (by omega)]; exact y5
    · rw [mx_m (by omega)]; exact x10
    · rw [mx_c (by omega), mx_m (by omega), c8, g3]
    · rw [mx_m (by omega)]; exact g3
    · rw [mx_c (by omega)]; exact y4 _ _ (by omega) (by omega)
    · rw [mx_m (by omega), g3]; omega
  | true =>
    have x3' : f_X3_faultOf n o C1 = some (-1, C2) := x3
    have x4' : f_X12_readsOrder n 197 a d G = some (1, G2) := x4
    obtain ⟨C3, hC3⟩ : ∃ C3, C3 = ms (ms C2 131 a o) 101 8 (a + 1) := ⟨_, rfl⟩
    obtain ⟨G3, hG3⟩ : ∃ G3, G3 = ms G2 198 3 (a + 1) := ⟨_, rfl⟩
    have c3o : ∀ x y : Int, (x ≠ 101 ∨ y ≠ 8) → (x ≠ 131 ∨ y ≠ a) → mv C3 x y = mv C2 x y := fun x y h1 h2 => by rw [hC3, mv_o (by omega), mv_o (by omega)]
    have g3o : ∀ x y : Int, (x ≠ 198 ∨ y ≠ 3) → mv G3 x y = mv G2 x y := fun x y h1 => by rw [hG3, mv_o (by omega)]
    have t3 : ∀ x, tg C3 x = tg C2 x ∧ ln C3 x = ln C2 x := fun x => by rw [hC3]; exact ⟨rfl, rfl⟩
    have n3 : nx C3 = nx C2 := by rw [hC3]; rfl
    have SC3 : Sh C3 := by rw [hC3]; simp only [S100_2, S101_7, S101_8, S101_9, S101_10, S102_5, S103, M103, S104, M104, S105, M105, S106, M106, S107, M107, S108_6, S108_7, S108_8, S108_9, S109, M109, S110, M110, S111, M111, S112, M112, S113, M113, S114, M114, S115_8, S116, M116, S117, M117, S118, M118, S119, M119, S120, M120, S121, M121, S122, M122, S123, M123, S124_2, S125, M125, S126, M126, S127, M127, S128, M128, S130, M130, S131, M131, S132_1, S132_2, S133, M133, S134_1, S134_2, S135, M135, S136_1, S136_2, S137, M137, S138_1, S138_2, S139, M139, S140_7, S140_8, S140_9, S140_10, S141_5, S142, M142, S143, M143, S144, M144, S145, M145, S146, M146, S147_6, S147_7, S147_8, S147_9, S148, M148, S149, M149, S150, M150, S151, M151, S152, M152, S153, M153, S154_8, S155, M155, S156, M156, S157, M157, S158, M158, S159, M159, S160, M160, S161, M161, S162, M162, S163_2, S164, M164, S165, M165, S166, M166, S167, M167, S169, M169, S170, M170, S171_1, S171_2, S172, M172, S173_1, S173_2, S174, M174, S175_1, S175_2, S176, M176, S177_1, S177_2, S178, M178, S179, M179, S180_1, S180_2, S180_5, S180_6, S180_7, S180_8, S181, M181, S182, M182, S183, M183, S184_6, S185, M185, S186, M186, S187, M187, S188, M188, S189, M189, S190, M190, S191_5, S191_6, S192, M192, S193, M193, S194, M194, S195, M195, S196, M196, S197_0, S197_3, S197_4, S197_5, S197_6, S197_7, S197_13, S198, M198, S199, M199, S200, M200, S201, M201, S202, M202, S203, M203, S204, M204, S205, M205, S206, M206, S207, M207, S208, M208, S209, M209, S210, M210, S211, M211]; exact SC2
    have TC3 : StI C3 := TC2.up (fun x hx => t3 x) (fun x j hx => c3o x j (by omega) (by omega))
    have N := x11 rfl
    have N3 : NO (mx C3 G3) o a := by
      have e131 : ∀ r j : Int, 212 ≤ r → mv (mx C3 G3) r j = mv (mx C2 G2) r j := fun r j hr => by rw [mx_c (by omega), mx_c (by omega)]; exact c3o _ _ (by omega) (by omega)
      have e198 : ∀ j : Int, j ≠ 3 → mv (mx C3 G3) 198 j = mv (mx C2 G2) 198 j := fun j hj => by rw [mx_m (by omega), mx_m (by omega)]; exact g3o _ _ (by omega)
      exact N.cp (by omega) (fun x => t3 x) n3 e131 e198
    refine ⟨a, C3, G3, ?_, ?_, inv_ord (a := a) I ea (by rw [ho]; show nx C3 = _; rw [n3]; exact y1) (by show sl C3 ≤ _; rw [hC3]; show sl C2 ≤ _; omega) (fun x i hx hp => ?_) (fun x hx => by show tg C3 x = _ ∧ ln C3 x = _; rw [(t3 x).1, (t3 x).2]; exact y3 x (by omega)) (by rw [ho]; show tg C3 _ = _ ∧ tg C3 _ = _ ∧ tg C3 _ = _ ∧ tg C3 _ = _ ∧ ln C3 _ = _ ∧ tg C3 _ = _; rw [(t3 _).1, (t3 _).1, (t3 _).1, (t3 _).1, (t3 _).2, (t3 _).1]; exact y6) ⟨?_, ?_⟩ ?_ (Or.inr ⟨?_, ?_, ?_⟩) ?_, SC3, TC3, oc2.trans (fun x j q => c3o x j (by omega) (by omega)), om2.trans ⟨by rw [hG3]; rfl, fun x j q => g3o x j (by omega)⟩⟩
    · rw [hC3]
      simp (disch := first | assumption | (with_reducible show Sh _; simp only [S100_2, S101_7, S101_8, S101_9, S101_10, S102_5, S103, M103, S104, M104, S105, M105, S106, M106, S107, M107, S108_6, S108_7, S108_8, S108_9, S109, M109, S110, M110, S111, M111, S112, M112, S113, M113, S114, M114, S115_8, S116, M116, S117, M117, S118, M118, S119, M119, S120, M120, S121, M121, S122, M122, S123, M123, S124_2, S125, M125, S126, M126, S127, M127, S128, M128, S130, M130, S131, M131, S132_1, S132_2, S133, M133, S134_1, S134_2, S135, M135, S136_1, S136_2, S137, M137, S138_1, S138_2, S139, M139, S140_7, S140_8, S140_9, S140_10, S141_5, S142, M142, S143, M143, S144, M144, S145, M145, S146, M146, S147_6, S147_7, S147_8, S147_9, S148, M148, S149, M149, S150, M150, S151, M151, S152, M152, S153, M153, S154_8, S155, M155, S156, M156, S157, M157, S158, M158, S159, M159, S160, M160, S161, M161, S162, M162, S163_2, S164, M164, S165, M165, S166, M166, S167, M167, S169, M169, S170, M170, S171_1, S171_2, S172, M172, S173_1, S173_2, S174, M174, S175_1, S175_2, S176, M176, S177_1, S177_2, S178, M178, S179, M179, S180_1, S180_2, S180_5, S180_6, S180_7, S180_8, S181, M181, S182, M182, S183, M183, S184_6, S185, M185, S186, M186, S187, M187, S188, M188, S189, M189, S190, M190, S191_5, S191_6, S192, M192, S193, M193, S194, M194, S195, M195, S196, M196, S197_0, S197_3, S197_4, S197_5, S197_6, S197_7, S197_13, S198, M198, S199, M199, S200, M200, S201, M201, S202, M202, S203, M203, S204, M204, S205, M205, S206, M206, S207, M207, S208, M208, S209, M209, S210, M210, S211, M211] <;> assumption) | (with_reducible show tg _ _ = _; simp only [tg_ms, tg_ma]; assumption) | (with_reducible show ln _ _ = _; simp only [ln_ms, ln_ma]; assumption) | (with_reducible show J64 _; unfold J64; omega) | (with_reducible show J _; unfold J; omega) | omega) only [↓f_X11_text, ↓f_X11_text_59, ↓f_X10_enforce, ↓e3, ↓x1, ↓gk1, ↓gk2', ↓x3', ↓c8, ↓bd_i, ↓lb_i, ↓rd_i, ↓wt_i, ↓pf_i, bdi_e, lbi_e, ↓ck_t, isb_0, isb_1, ↓reduceIte, ↓if_pos, ↓if_neg, Int.reduceEq, Int.reduceLT, Int.reduceLE, Int.reduceNe, Int.reduceNeg, Int.reduceAdd, Int.reduceSub, Int.reduceMul, Int.add_sub_cancel, tg_ms, ln_ms, nx_ms, tg_ma, ln_ma, nx_ma, mv_s, mv_o, mv_ma_eq, mv_ma_ne, wrk, within_t, within_f, in_t, in_f, isCell_t, isCell_f, isHolder_t, isHolder_f, isHolderm_t, isHolderm_f, isDay_t, isDay_f, isDaym_t, isDaym_f, isSheet_t, isSheet_f, isSheetm_t, isSheetm_f,  ↓gk100, ↓g100_0, ↓g100_1, ↓g100_2, pi100_2, S100_2, ↓g100_3, ↓g100_4, ↓g100_5, ↓g100_6, ↓gk101, ↓g101_0, ↓g101_1, ↓g101_2, ↓g101_3, ↓g101_4, ↓g101_5, ↓g101_6, ↓g101_7, pi101_7, S101_7, ↓g101_8, pi101_8, S101_8, ↓g101_9, pi101_9, S101_9, ↓g101_10, pi101_10, S101_10, ↓gk102, ↓g102_0, ↓g102_1, ↓g102_2, ↓g102_3, ↓g102_4, ↓g102_5, pi102_5, S102_5, ↓al103, ri103, wi103, S103, M103, ↓al104, ri104, wi104, S104, M104, ↓al105, ri105, wi105, S105, M105, ↓al106, ri106, wi106, S106, M106, ↓al107, ri107, wi107, S107, M107, ↓gk108, ↓g108_0, ↓g108_1, ↓g108_2, ↓g108_3, ↓g108_4, ↓g108_5, ↓g108_6, pi108_6, S108_6, ↓g108_7, pi108_7, S108_7, ↓g108_8, pi108_8, S108_8, ↓g108_9, pi108_9, S108_9, ↓al109, ri109, wi109, S109, M109, ↓al110, ri110, wi110, S110, M110, ↓al111, ri111, wi111, S111, M111, ↓al112, ri112, wi112, S112, M112, ↓al113, ri113, wi113, S113, M113, ↓al114, ri114, wi114, S114, M114, ↓gk115, ↓g115_0, ↓g115_1, ↓g115_2, ↓g115_3, ↓g115_4, ↓g115_5, ↓g115_6, ↓g115_7, ↓g115_8, pi115_8, S115_8, ↓al116, ri116, wi116, S116, M116, ↓al117, ri117, wi117, S117, M117, ↓al118, ri118, wi118, S118, M118, ↓al119, ri119, wi119, S119, M119, ↓al120, ri120, wi120, S120, M120, ↓al121, ri121, wi121, S121, M121, ↓al122, ri122, wi122, S122, M122, ↓al123, ri123, wi123, S123, M123, ↓gk124, ↓g124_0, ↓g124_1, ↓g124_2, pi124_2, S124_2, ↓g124_3, ↓g124_4, ↓al125, ri125, wi125, S125, M125, ↓al126, ri126, wi126, S126, M126, ↓al127, ri127, wi127, S127, M127, ↓al128, ri128, wi128, S128, M128, ↓al129, ri129, ↓al130, ri130, wi130, S130, M130, ↓al131, ri131, wi131, S131, M131, ↓gk132, ↓g132_0, ↓g132_1, pi132_1, S132_1, ↓g132_2, pi132_2, S132_2, ↓al133, ri133, wi133, S133, M133, ↓gk134, ↓g134_0, ↓g134_1, pi134_1, S134_1, ↓g134_2, pi134_2, S134_2, ↓al135, ri135, wi135, S135, M135, ↓gk136, ↓g136_0, ↓g136_1, pi136_1, S136_1, ↓g136_2, pi136_2, S136_2, ↓al137, ri137, wi137, S137, M137, ↓gk138, ↓g138_0, ↓g138_1, pi138_1, S138_1, ↓g138_2, pi138_2, S138_2, ↓al139, ri139, wi139, S139, M139, ↓al179, ri179, wi179, S179, M179, ↓gk180, ↓g180_0, ↓g180_1, pi180_1, S180_1, ↓g180_2, pi180_2, S180_2, ↓g180_3, ↓g180_4, ↓g180_5, pi180_5, S180_5, ↓g180_6, pi180_6, S180_6, ↓g180_7, pi180_7, S180_7, ↓g180_8, pi180_8, S180_8, ↓al181, ri181, wi181, S181, M181, ↓al182, ri182, wi182, S182, M182, ↓al183, ri183, wi183, S183, M183, ↓gk184, ↓g184_0, ↓g184_1, ↓g184_2, ↓g184_3, ↓g184_4, ↓g184_5, ↓g184_6, pi184_6, S184_6, ↓al185, ri185, wi185, S185, M185, ↓al186, ri186, wi186, S186, M186, ↓al187, ri187, wi187, S187, M187, ↓al188, ri188, wi188, S188, M188, ↓al189, ri189, wi189, S189, M189, ↓al190, ri190, wi190, S190, M190, ↓gk191, ↓g191_0, ↓g191_1, ↓g191_2, ↓g191_3, ↓g191_4, ↓g191_5, pi191_5, S191_5, ↓g191_6, pi191_6, S191_6, ↓al192, ri192, wi192, S192, M192, ↓al193, ri193, wi193, S193, M193, ↓al194, ri194, wi194, S194, M194, ↓al195, ri195, wi195, S195, M195, ↓al196, ri196, wi196, S196, M196]
    · rw [hG3]
      simp (disch := first | assumption | (with_reducible show Sh _; simp only [S100_2, S101_7, S101_8, S101_9, S101_10, S102_5, S103, M103, S104, M104, S105, M105, S106, M106, S107, M107, S108_6, S108_7, S108_8, S108_9, S109, M109, S110, M110, S111, M111, S112, M112, S113, M113, S114, M114, S115_8, S116, M116, S117, M117, S118, M118, S119, M119, S120, M120, S121, M121, S122, M122, S123, M123, S124_2, S125, M125, S126, M126, S127, M127, S128, M128, S130, M130, S131, M131, S132_1, S132_2, S133, M133, S134_1, S134_2, S135, M135, S136_1, S136_2, S137, M137, S138_1, S138_2, S139, M139, S140_7, S140_8, S140_9, S140_10, S141_5, S142, M142, S143, M143, S144, M144, S145, M145, S146, M146, S147_6, S147_7, S147_8, S147_9, S148, M148, S149, M149, S150, M150, S151, M151, S152, M152, S153, M153, S154_8, S155, M155, S156, M156, S157, M157, S158, M158, S159, M159, S160, M160, S161, M161, S162, M162, S163_2, S164, M164, S165, M165, S166, M166, S167, M167, S169, M169, S170, M170, S171_1, S171_2, S172, M172, S173_1, S173_2, S174, M174, S175_1, S175_2, S176, M176, S177_1, S177_2, S178, M178, S179, M179, S180_1, S180_2, S180_5, S180_6, S180_7, S180_8, S181, M181, S182, M182, S183, M183, S184_6, S185, M185, S186, M186, S187, M187, S188, M188, S189, M189, S190, M190, S191_5, S191_6, S192, M192, S193, M193, S194, M194, S195, M195, S196, M196, S197_0, S197_3, S197_4, S197_5, S197_6, S197_7, S197_13, S198, M198, S199, M199, S200, M200, S201, M201, S202, M202, S203, M203, S204, M204, S205, M205, S206, M206, S207, M207, S208, M208, S209, M209, S210, M210, S211, M211] <;> assumption) | (with_reducible show tg _ _ = _; simp only [tg_ms, tg_ma]; assumption) | (with_reducible show ln _ _ = _; simp only [ln_ms, ln_ma]; assumption) | (with_reducible show J64 _; unfold J64; omega) | (with_reducible show J _; unfold J; omega) | omega) only [↓f_X12_text, ↓eg3, ↓x4', ↓g3, ↓bd_i, ↓lb_i, ↓rd_i, ↓wt_i, ↓pf_i, bdi_e, lbi_e, ↓ck_t, isb_0, isb_1, ↓reduceIte, ↓if_pos, ↓if_neg, Int.reduceEq, Int.reduceLT, Int.reduceLE, Int.reduceNe, Int.reduceNeg, Int.reduceAdd, Int.reduceSub, Int.reduceMul, Int.add_sub_cancel, tg_ms, ln_ms, nx_ms, tg_ma, ln_ma, nx_ma, mv_s, mv_o, mv_ma_eq, mv_ma_ne, wrk, within_t, within_f, in_t, in_f, isCell_t, isCell_f, isHolder_t, isHolder_f, isHolderm_t, isHolderm_f, isDay_t, isDay_f, isDaym_t, isDaym_f, isSheet_t, isSheet_f, isSheetm_t, isSheetm_f,  ↓gk197, ↓g197_0, pi197_0, S197_0, ↓g197_1, ↓g197_2, ↓g197_3, pi197_3, S197_3, ↓g197_4, pi197_4, S197_4, ↓g197_5, pi197_5, S197_5, ↓g197_6, pi197_6, S197_6, ↓g197_7, pi197_7, S197_7, ↓g197_8, ↓g197_9, ↓g197_10, ↓g197_11, ↓g197_12, ↓g197_13, pi197_13, S197_13, ↓g197_14, ↓g197_15, ↓g197_16, ↓g197_17, ↓g197_18, ↓g197_19, ↓g197_20, ↓al198, ri198, wi198, S198, M198, ↓al199, ri199, wi199, S199, M199, ↓al200, ri200, wi200, S200, M200, ↓al201, ri201, wi201, S201, M201, ↓al202, ri202, wi202, S202, M202, ↓al203, ri203, wi203, S203, M203, ↓al204, ri204, wi204, S204, M204, ↓al205, ri205, wi205, S205, M205, ↓al206, ri206, wi206, S206, M206, ↓al207, ri207, wi207, S207, M207, ↓al208, ri208, wi208, S208, M208, ↓al209, ri209, wi209, S209, M209, ↓al210, ri210, wi210, S210, M210, ↓al211, ri211, wi211, S211, M211]
    · by_cases q : 197 ≤ x ∧ x ≤ 211
      · rw [mx_m q, g3o x i (by unfold PT at hp; omega)]; exact ZG x i q hp
      · rw [mx_c q, c3o x i (by unfold PT at hp; omega) (by unfold PT at hp; omega)]; exact ZC x i (by omega) hp
    · rw [mx_c (by omega), c3o _ _ (by omega) (by omega)]; exact y5
    · rw [mx_m (by omega), g3o _ _ (by omega)]; exact x10
    · rw [mx_c (by omega), mx_m (by omega), hC3, hG3, mv_s rfl, mv_s rfl]
    · rw [mx_m (by omega), hG3, mv_s rfl]
    · rw [mx_c (by omega), hC3, mv_o (by omega), mv_s rfl]; exact ho.symm
    · rw [ho]; exact N3
    · rw [mx_m (by omega), hG3, mv_s rfl]; omega
