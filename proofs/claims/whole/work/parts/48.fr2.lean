theorem mv_mn_lt {h : MM} {t n b : Int} {j : Int} (q : b ≠ nx h) : mv (mn h t n) b j = mv h b j := by rw [mv_mn, if_neg q]
theorem RCoin.mono {M M' b s : Int} {h : MM} (R : RCoin M b s h) (q : M ≤ M') : RCoin M' b s h := ⟨R.1, R.2.1, by have := R.2.2; omega⟩
section FRD
variable {b s : Int} {h h' : MM}
theorem pap1 (R : RPap b s h) (B : RBd s h) (w1 : ∀ j : Int, 0 ≤ j → j < mv h s 2 → mv h' (109 + b) j = mv h (109 + b) j) (t : mv h s 0 ≤ mv h' s 0) (t1 : mv h s 1 ≤ mv h' s 1) (t9 : mv h s 9 ≤ mv h' s 9) (I : Imm h h') (dn : ∀ p : Int, 0 ≤ p → p < mv h s 2 → mv h' s (790 + p) = mv h s (790 + p) ∨ (mv h s (370 + p) ≠ 2 ∧ mv h s (370 + p) ≠ 6 ∧ mv h' s (790 + p) = 1)) (e : ∀ i : Int, (370 ≤ i ∧ i < 370 + mv h s 2) ∨ (430 ≤ i ∧ i < 430 + mv h s 2) ∨ (490 ≤ i ∧ i < 490 + mv h s 2) ∨ (550 ≤ i ∧ i < 550 + mv h s 2) ∨ (610 ≤ i ∧ i < 610 + mv h s 2) ∨ (670 ≤ i ∧ i < 670 + mv h s 2) ∨ (730 ≤ i ∧ i < 730 + mv h s 2) ∨ (850 ≤ i ∧ i < 850 + mv h s 2) ∨ (910 ≤ i ∧ i < 910 + mv h s 2) ∨ (4700 ≤ i ∧ i < 4700 + 41 * mv h s 2) ∨ (7160 ≤ i ∧ i < 7160 + 41 * mv h s 2) ∨ (11490 ≤ i ∧ i < 11490 + mv h s 9) → mv h' s i = mv h s i) : ∀ p : Int, 0 ≤ p → p < mv h s 2 → KOk s h' p ∧ EOk s h' p ∧ WOk s h' p ∧ 0 ≤ mv h' s (490 + p) ∧ mv h' s (490 + p) ≤ mv h' s 0 ∧ POk s h' (mv h' (109 + b) p) p ∧ SlOk s h' (mv h' (109 + b) p) p ∧ PlOk s h' (mv h' (109 + b) p) p := by
  have b2 := B.2.2.1
  have b9 := B.2.2.2.2.2.2.2.2.2
  intro p h0 h1
  obtain ⟨r1, r2, r3, r4, r5, r6, r7, r8⟩ := R p h0 h1
  obtain ⟨k1, k2, k3, k4, k5, k6, k7, k8, k9, k10, k11, k12⟩ := r6
  have O := obj_imm I k1 k2 k3 (by decide)
  have f : ∀ i, mv h' (mv h (109 + b) p) i = mv h (mv h (109 + b) p) i := fun i => O.2 i (Or.inr (by decide))
  have A3 := k7.imm I
  have A4 := k8.imm I
  have eK : mv h' s (370 + p) = mv h s (370 + p) := e _ (by omega)
  have eO : mv h' s (430 + p) = mv h s (430 + p) := e _ (by omega)
  have oR : mv h s (370 + p) = 2 ∨ mv h s (370 + p) = 3 → 0 ≤ mv h s (430 + p) ∧ mv h s (430 + p) < p := by
    intro c
    rcases r1 with q | q | q | q | q | q <;> omega
  rw [w1 p h0 h1]
  refine ⟨?_, ?_, ?_, ?_, ?_, ⟨k1, by have := I.1; omega, O.1, ?_, ?_, ?_, ?_, ?_, ?_, ?_, ?_, ?_⟩, ?_, ?_⟩
  · have e1 : mv h' s (730 + p) = mv h s (730 + p) := e _ (by omega)
    have e3 : mv h' s (550 + p) = mv h s (550 + p) := e _ (by omega)
    have e2 := dn p h0 h1
    unfold KOk at r1 ⊢
    rw [eK, eO, e1, e3]
    rcases r1 with q | q | q | q | q | q
    · exact Or.inl ⟨q.1, q.2.1, q.2.2.1, q.2.2.2.1, by omega, by omega⟩
    · rw [e (370 + mv h s (430 + p)) (by omega)]; exact Or.inr (Or.inl ⟨q.1, q.2.1, q.2.2.1, q.2.2.2.1, q.2.2.2.2.1, by omega⟩)
    · rw [e (370 + mv h s (430 + p)) (by omega), e (910 + mv h s (430 + p)) (by omega)]; exact Or.inr (Or.inr (Or.inl ⟨q.1, q.2.1, q.2.2.1, q.2.2.2.1, q.2.2.2.2.1, by omega, by omega, q.2.2.2.2.2.2.2⟩))
    · rw [e (370 + mv h s (430 + p)) (by omega)]; exact Or.inr (Or.inr (Or.inr (Or.inl ⟨q.1, q.2.1, q.2.2.1, q.2.2.2.1, q.2.2.2.2.1, q.2.2.2.2.2.1, by omega, by omega⟩)))
    · rw [e (370 + mv h s (430 + p)) (by omega)]; exact Or.inr (Or.inr (Or.inr (Or.inr (Or.inl ⟨q.1, q.2.1, q.2.2.1, q.2.2.2.1, q.2.2.2.2.1, q.2.2.2.2.2.1, q.2.2.2.2.2.2.1, q.2.2.2.2.2.2.2.1, by omega, by omega⟩))))
    · exact Or.inr (Or.inr (Or.inr (Or.inr (Or.inr ⟨q.1, q.2.1, q.2.2.1, q.2.2.2.1, q.2.2.2.2.1, q.2.2.2.2.2.1, by omega⟩))))
  · unfold EOk at r2 ⊢
    rw [eK, e (550 + p) (by omega), e (610 + p) (by omega), e (670 + p) (by omega)]
    intro z
    have y := r2 z
    exact ⟨⟨y.1.1, by omega⟩, ⟨y.2.1.1, by omega⟩, y.2.2⟩
  · unfold WOk at r3 ⊢
    intro k0
    rw [eK] at k0
    obtain ⟨q1, q2, q3, q4, q5, q6⟩ := r3 k0
    rw [e (850 + p) (by omega), e (910 + p) (by omega)]
    refine ⟨q1, q2, fun k g0 g1 => ?_, fun k m g0 g1 g2 => ?_, q5, q6⟩
    · rw [e _ (by omega)]; exact q3 k g0 g1
    · rw [e _ (by omega), e _ (by omega)]; exact q4 k m g0 g1 g2
  · rw [e (490 + p) (by omega)]; exact r4
  · rw [e (490 + p) (by omega)]; omega
  · rw [f, eK]; exact k4
  · rw [f, eO]; exact k5
  · rw [f, e (490 + p) (by omega)]; exact k6
  · rw [f]; exact A3.1
  · rw [f]; exact A4.1
  · rw [f, e _ (by omega)]; exact k9
  · rw [f, e _ (by omega)]; exact k10
  · rw [f, e _ (by omega)]; exact k11
  · rw [f, e _ (by omega)]; exact k12
  · obtain ⟨q1, q2, q3⟩ := r7
    unfold SlOk
    rw [eK, f]
    refine ⟨fun c => ?_, fun c => ?_, fun c => ?_⟩
    · have z := q1 c
      rw [e (11490 + mv h (mv h (109 + b) p) 9) (by omega)]; exact ⟨z.1, by omega, z.2.2⟩
    · have z := q2 c
      rw [e (11490 + mv h (mv h (109 + b) p) 9) (by omega), eO]; exact ⟨z.1, by omega, z.2.2⟩
    · have z := q3 c
      have := oR (Or.inr c)
      rw [e (11490 + mv h (mv h (109 + b) p) 9) (by omega), eO, e (430 + mv h s (430 + p)) (by omega)]; exact ⟨z.1, by omega, z.2.2⟩
  · have cl : ∀ q : Int, 0 ≤ q → q < mv h s 2 → mv h s (850 + q) ≤ 40 → CLk s h (mv h (109 + b) p) q → CLk s h' (mv h (109 + b) p) q := by
      intro q g0 g1 g3 g
      obtain ⟨c1, c2, c3, c4, c5⟩ := g
      have hl := k8.2.2.2.1
      unfold CLk
      rw [f, f, A3.2.2, A4.2.2, e (850 + q) (by omega)]
      refine ⟨c1, c2, fun k m0 m1 => ?_, fun k m0 m1 => ?_, fun k m0 m1 => ?_⟩
      · rw [A3.2.1, e _ (by omega)]; exact c3 k m0 m1
      · rw [A4.2.1, e _ (by omega)]; exact c4 k m0 m1
      · rw [e _ (by omega)]; exact c5 k m0 m1
    have wl : ∀ q : Int, 0 ≤ q → q < mv h s 2 → mv h s (370 + q) = 2 → mv h s (850 + q) ≤ 40 := by
      intro q g0 g1 g2
      have := (R q g0 g1).2.2.1 g2
      exact this.2.1
    refine ⟨fun c => ?_, fun c => ?_⟩
    · rw [eK] at c
      have z := r8.1 c
      rw [f, e (910 + p) (by omega)]
      exact ⟨cl p h0 h1 (wl p h0 h1 c) z.1, z.2⟩
    · rw [eK] at c
      have z := r8.2 c
      have o := oR (Or.inr c)
      rw [eO]
      refine cl _ o.1 (by omega) (wl _ o.1 (by omega) ?_) z
      rcases r1 with q | q | q | q | q | q <;> omega
theorem RPap.f (R : RPap b s h) (B : RBd s h) (w1 : ∀ j : Int, 0 ≤ j → j < mv h s 2 → mv h' (109 + b) j = mv h (109 + b) j) (h2 : mv h' s 2 = mv h s 2) (t : mv h s 0 ≤ mv h' s 0) (I : Imm h h') (e : ∀ i : Int, i = 1 ∨ i = 9 ∨ (370 ≤ i ∧ i < 970) ∨ (4700 ≤ i ∧ i < 9620) ∨ (11490 ≤ i ∧ i < 11502) → mv h' s i = mv h s i) : RPap b s h' := by
  have b2 := B.2.2.1
  have b9 := B.2.2.2.2.2.2.2.2.2
  intro p h0 h1
  rw [h2] at h1
  exact pap1 R B w1 t (by rw [e 1 (by omega)]; omega) (by rw [e 9 (by omega)]; omega) I (fun p p0 p1 => Or.inl (e _ (by omega))) (fun i hi => e i (by omega)) p h0 h1
theorem oB_f {a : Int} (ha : 0 ≤ a) (ha2 : a < 9) (L : mv h s (9630 + a) ≤ 140) (e : ∀ i : Int, 9620 ≤ i ∧ i < 11150 → mv h' s i = mv h s i) : oB s h' a = oB s h a := by
  funext j
  unfold oB
  rw [e (9630 + a) (by omega)]
  by_cases c : 0 ≤ j ∧ j < mv h s (9630 + a)
  · rw [if_pos c, if_pos c, e _ (by omega)]
  · rw [if_neg c, if_neg c]
theorem lastc_f {a w : Int} (ha : 0 ≤ a) (ha2 : a < 9) (L : 0 ≤ mv h s (10900 + a) ∧ mv h s (10900 + a) ≤ 8) (e : ∀ i : Int, 9620 ≤ i ∧ i < 11150 → mv h' s i = mv h s i) : lastc s h' a w = lastc s h a w := by
  have g : ∀ k : Nat, (k : Int) ≤ 8 → lcI s h' a w k = lcI s h a w k := by
    intro k
    induction k with
    | zero => intro _; rfl
    | succ k ih => intro hk; unfold lcI; rw [ih (by omega), e _ (by omega)]
  unfold lastc
  rw [e (10900 + a) (by omega), g _ (by omega)]
theorem lcI_lt {a w : Int} : ∀ k : Nat, lcI s h a w k < (k : Int) ∧ -1 ≤ lcI s h a w k
  | 0 => by unfold lcI; omega
  | k + 1 => by
    have := lcI_lt (a := a) (w := w) k
    unfold lcI
    split <;> omega
theorem OClk.f {a : Int} (ha : 0 ≤ a) (ha2 : a < 9) (R : OClk s h a) (e : ∀ i : Int, 9620 ≤ i ∧ i < 11150 → mv h' s i = mv h s i) : OClk s h' a := by
  obtain ⟨q1, q2, q3, q4, q5⟩ := R
  unfold OClk
  rw [e (9620 + a) (by omega), e (9630 + a) (by omega), e (10900 + a) (by omega), oB_f ha ha2 q2.2 e]
  refine ⟨q1, q2, fun j j0 j1 => ?_, q4, fun k k0 k1 => ?_⟩
  · rw [e _ (by omega)]; exact q3 j j0 j1
  · rw [e (10910 + 8 * a + k) (by omega), e (10990 + 8 * a + k) (by omega), e (11070 + 8 * a + k) (by omega)]; exact q5 k k0 k1
theorem ROrd.f (R : ROrd b s h) (B : RBd s h) (V : OInv h) (w1 : ∀ j : Int, 0 ≤ j → j < mv h s 3 → mv h' (131 + b) j = mv h (131 + b) j) (h3 : mv h' s 3 = mv h s 3) (I : Imm h h') (e : ∀ i : Int, 9620 ≤ i ∧ i < 11150 → mv h' s i = mv h s i) : ROrd b s h' := by
  have b3 := B.2.2.2.1
  intro a h0 h1
  rw [h3] at h1
  obtain ⟨r1, r2, r3, r4⟩ := R a h0 h1
  have O := r2.imm V I
  have L1 := r1.2.1
  have L2 := r1.2.2.2.1
  rw [w1 a h0 h1]
  refine ⟨r1.f h0 (by omega) e, O.1, ?_, ?_⟩
  · obtain ⟨q1, q2, q3⟩ := r3
    unfold OTx
    rw [O.2.1 0 (by decide), O.2.2.2.2.2, e (9620 + a) (by omega), e (9630 + a) (by omega)]
    refine ⟨q1, q2, fun j j0 j1 => ?_⟩
    rw [O.2.2.2.2.1, e _ (by omega)]; exact q3 j j0 j1
  · intro w w0 w1
    have q := r4 w w0 w1
    have lt := lcI_lt (s := s) (h := h) (a := a) (w := w) (mv h s (10900 + a)).toNat
    have ll : lastc s h a w = lcI s h a w (mv h s (10900 + a)).toNat := rfl
    rw [lastc_f h0 (by omega) L2 e, O.2.2.1, O.2.2.2.1]
    refine ⟨q.1, fun c => ?_⟩
    have z := q.2 c
    rw [e (11070 + 8 * a + lastc s h a w) (by omega), e (10990 + 8 * a + lastc s h a w) (by omega)]; exact z
theorem RPast.f (R : RPast s h) (B : RBd s h) (h0' : mv h' s 0 = mv h s 0) (h2' : mv h' s 2 = mv h s 2) (h9' : mv h' s 9 = mv h s 9) (e : ∀ i : Int, (370 ≤ i ∧ i < 430) ∨ (11490 ≤ i ∧ i < 11502) ∨ (11840 ≤ i ∧ i < 83840) → mv h' s i = mv h s i) (e2 : ∀ d : Int, mv h' 179 d = mv h 179 d) (e3 : ∀ d : Int, 0 ≤ d → d < 1000 → mv h 179 d ≠ 0 → ∀ j, mv h' (mv h 179 d) j = mv h (mv h 179 d) j) : RPast s h' := by
  have b0 := B.1
  have b2 := B.2.2.1
  have b9 := B.2.2.2.2.2.2.2.2.2
  intro d h0 h1
  rw [h0'] at h1
  obtain ⟨r1, r2, r3, r4⟩ := R d h0 h1
  rw [e2, h2', h9']
  refine ⟨r1, fun p p0 p1 => ?_, fun p p0 p1 => ?_, fun i i0 i1 => ?_⟩
  · obtain ⟨z1, z2, z3⟩ := r2 p p0 p1
    unfold past1
    rw [e3 d h0 (by omega) r1, h9', e (370 + p) (by omega)]
    refine ⟨fun c i i0 i1 => ?_, fun c => ?_, z3⟩
    · rw [e _ (by omega), e _ (by omega)]; exact z1 c i i0 i1
    · rw [e _ (by omega)]; exact z2 c
  · rw [e3 d h0 (by omega) r1, e _ (by omega)]; exact r3 p p0 p1
  · rw [e _ (by omega)]; exact r4 i i0 i1
end FRD
