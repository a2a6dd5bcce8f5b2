/-! A PAPER IS FILED -/
def FrK (P : Int → Int → Prop) (h h' : MM) : Prop := ∀ a j : Int, a < nx h → ¬ P a j → mv h' a j = mv h a j
section FRK
variable {P : Int → Int → Prop} {h h1 : MM} {a i v t m : Int} {f : Int → Int}
theorem FrK.refl (h : MM) : FrK P h h := fun _ _ _ _ => rfl
theorem FrK.w (F : FrK P h h1) (q : P a i ∨ nx h ≤ a) : FrK P h (ms h1 a i v) := by
  intro b j hb hn
  rw [mv_o ?_]
  · exact F b j hb hn
  · by_cases c : b = a
    · by_cases d : j = i
      · subst c; subst d
        exact q.elim (fun z => absurd z hn) (fun z => by omega)
      · exact Or.inr d
    · exact Or.inl c
theorem FrK.ar (F : FrK P h h1) (q : (∀ j, P a j) ∨ nx h ≤ a) : FrK P h (ma h1 a f) := by
  intro b j hb hn
  rw [mv_ma_ne ?_]
  · exact F b j hb hn
  · intro c; subst c
    exact q.elim (fun z => hn (z j)) (fun z => by omega)
theorem FrK.nw (F : FrK P h h1) (q : nx h ≤ nx h1) : FrK P h (mn h1 t m) := by
  intro b j hb hn
  rw [mv_mn, if_neg (by omega)]
  exact F b j hb hn
theorem FrK.keep (F : FrK P h h1) (ok : ∀ a j, P a j → Wok a j) (hn : nx h ≤ nx h1) (ht : ∀ a : Int, a < nx h → tg h1 a = tg h a ∧ ln h1 a = ln h a) (hz : 212 ≤ nx h) : Keep h h1 := by
  refine ⟨hn, ht, fun a j ha hb _ => F a j ha (fun z => ?_), F _ _ (by omega) (fun z => ?_), F _ _ (by omega) (fun z => ?_)⟩
  · have := ok _ _ z; unfold Wok at this; omega
  · have := ok _ _ z; unfold Wok at this; omega
  · have := ok _ _ z; unfold Wok at this; omega
theorem FrK.sh (F : FrK P h h1) (ok : ∀ a j, P a j → Wok a j) (hn : nx h ≤ nx h1) (ht : ∀ a : Int, a < nx h → tg h1 a = tg h a ∧ ln h1 a = ln h a) (S : Sh h) : Sh h1 := by
  have z := S.2.2
  refine ⟨fun k hk => ?_, fun p hp => ?_, by omega⟩
  · rw [(ht _ (by omega)).1, (ht _ (by omega)).2]; exact S.1 k hk
  · have := rL_lt p hp
    rw [F _ _ (by omega) (fun z => Wok_ref p hp (ok _ _ z))]; exact S.2.1 p hp
end FRK
/-- what filing may write: N papers, s schemes -/
def PF (N s a j : Int) : Prop := a = 105 ∨ (a = 108 ∧ (j = 7 ∨ j = 8)) ∨ ((a = 109 ∨ a = 110 ∨ a = 111 ∨ a = 112 ∨ a = 113 ∨ a = 114) ∧ j = N) ∨ a = 116 ∨ a = 117 ∨ a = 118 ∨ (a = 198 ∧ (j = 2 ∨ j = 9 ∨ (192 ≤ j ∧ j < 200) ∨ j = 370 + N ∨ j = 430 + N ∨ j = 490 + N ∨ j = 550 + N ∨ j = 610 + N ∨ j = 670 + N ∨ j = 730 + N ∨ j = 790 + N ∨ j = 850 + N ∨ j = 910 + N ∨ (4700 + 41 * N ≤ j ∧ j < 4741 + 41 * N) ∨ (7160 + 41 * N ≤ j ∧ j < 7201 + 41 * N) ∨ (11490 + s ≤ j ∧ j < 11502) ∨ (11502 ≤ j ∧ j < 11640)))
theorem PF_ok {N s a j : Int} (z : PF N s a j) : Wok a j := by
  unfold PF at z
  rcases z with rfl | ⟨rfl, z | z⟩ | ⟨rfl | rfl | rfl | rfl | rfl | rfl, z⟩ | rfl | rfl | rfl | ⟨rfl, z⟩
  · simp [Wok]
  · simp [Wok, z]
  · simp [Wok, z]
  · simp [Wok]
  · simp [Wok]
  · simp [Wok]
  · simp [Wok]
  · simp [Wok]
  · simp [Wok]
  · simp [Wok]
  · simp [Wok]
  · simp [Wok]
  · simp [Wok]
theorem orI_z {f : Int → Int} : ∀ {k : Nat}, (∀ i : Int, 0 ≤ i → i < (k : Int) → f i = 0) → orI f k = 0
  | 0, _ => rfl
  | k + 1, q => by
    rw [orI_s, orI_z (fun i i0 i1 => q i i0 (by omega)), q (k : Int) (by omega) (by omega)]
    exact bor_0 ⟨by omega, by omega⟩
theorem inv_paper {k : Int} {h h' : MM} {r : Int} (I : Inv k h) (hf : mv h 198 2 < 60) (hnx : nx h ≤ nx h') (hnx2 : nx h' ≤ nx h + 100) (hsl : sl h' ≤ sl h + 5000) (ht : ∀ a : Int, a < nx h → tg h' a = tg h a ∧ ln h' a = ln h a) (hv : ∀ a : Int, nx h ≤ a → a < nx h' → tg h' a ≠ 3) (F : FrK (PF (mv h 198 2) (mv h 198 9)) h h') (v108 : mv h' 108 7 = mv h 198 2 + 1) (vN : mv h' 198 2 = mv h 198 2 + 1) (v109 : mv h' 109 (mv h 198 2) = r) (v110 : mv h' 110 (mv h 198 2) = 0) (v112 : mv h' 112 (mv h 198 2) = -5) (v113 : mv h' 113 (mv h 198 2) = 0) (v114 : mv h' 114 (mv h 198 2) = 0) (vday : mv h' 198 (490 + mv h 198 2) = mv h 198 0) (vdone : mv h' 198 (790 + mv h 198 2) = 0) (e9 : mv h' 108 8 = mv h' 198 9) (s9 : mv h' 198 9 = mv h 198 9 ∨ (mv h' 198 9 = mv h 198 9 + 1 ∧ mv h' 198 (11490 + mv h 198 9) = mv h 198 2)) (s9b : mv h' 198 9 ≤ 12) (new : KOk 198 h' (mv h 198 2) ∧ EOk 198 h' (mv h 198 2) ∧ WOk 198 h' (mv h 198 2) ∧ POk 198 h' r (mv h 198 2) ∧ SlOk 198 h' r (mv h 198 2) ∧ PlOk 198 h' r (mv h 198 2)) (hClaim : RClaim 0 198 h') (hSch : RSch 0 198 h') (hCoin : RCoin (100000 * (k + 1)) 0 198 h') : Inv (k + 1) h' := by
  have S := I.1
  have hz : 212 ≤ nx h := S.2.2
  have Kp : Keep h h' := F.keep (fun a j => PF_ok) hnx ht hz
  have Sh' : Sh h' := F.sh (fun a j => PF_ok) hnx ht S
  obtain ⟨⟨a1, a2, a3, a4, a5, a6, a7, a8, a9, a10⟩, a11, a12, a13, a14, a15, a16, a17, a18, a19⟩ := I.2.2.2.2.1
  obtain ⟨b0, b1, b2, b3, b4, b5, b6, b7, b8, b9⟩ := id a2
  have Pk := (I.2.2.1.keep Kp (by omega)).2
  have Wr : ∀ a j : Int, a < nx h ∧ ¬ PF (mv h 198 2) (mv h 198 9) a j → mv h' a j = mv h a j := fun a j z => F a j z.1 z.2
  have Q : ∀ i : Int, ¬ (i = 2 ∨ i = 9 ∨ (192 ≤ i ∧ i < 200) ∨ i = 370 + mv h 198 2 ∨ i = 430 + mv h 198 2 ∨ i = 490 + mv h 198 2 ∨ i = 550 + mv h 198 2 ∨ i = 610 + mv h 198 2 ∨ i = 670 + mv h 198 2 ∨ i = 730 + mv h 198 2 ∨ i = 790 + mv h 198 2 ∨ i = 850 + mv h 198 2 ∨ i = 910 + mv h 198 2 ∨ (4700 + 41 * mv h 198 2 ≤ i ∧ i < 4741 + 41 * mv h 198 2) ∨ (7160 + 41 * mv h 198 2 ≤ i ∧ i < 7201 + 41 * mv h 198 2) ∨ (11490 + mv h 198 9 ≤ i ∧ i < 11502) ∨ (11502 ≤ i ∧ i < 11640)) → mv h' 198 i = mv h 198 i := by
    intro i z
    refine Wr 198 i ⟨by omega, fun y => z ?_⟩
    unfold PF at y
    rcases y with y | ⟨y, -⟩ | ⟨y, -⟩ | y | y | y | ⟨-, y⟩
    · omega
    · omega
    · omega
    · omega
    · omega
    · omega
    · exact y
  have C : ∀ a j : Int, 101 ≤ a ∧ a ≤ 139 ∧ a ≠ 105 ∧ ¬ (a = 108 ∧ (j = 7 ∨ j = 8)) ∧ ¬ (109 ≤ a ∧ a ≤ 114 ∧ j = mv h 198 2) ∧ a ≠ 116 ∧ a ≠ 117 ∧ a ≠ 118 → mv h' a j = mv h a j := by
    intro a j z
    refine Wr a j ⟨by omega, fun y => ?_⟩
    unfold PF at y
    rcases y with y | ⟨y, y2⟩ | ⟨y, y2⟩ | y | y | y | ⟨y, y2⟩
    · omega
    · exact z.2.2.2.1 ⟨y, y2⟩
    · exact z.2.2.2.2.1 ⟨by omega, by omega, y2⟩
    · omega
    · omega
    · omega
    · omega
  have q0 := Q 0 (by omega)
  refine I.m Sh' Kp (I.2.1.keep Kp hv) hnx2 hsl (by omega) (by rw [Q 3 (by omega)]; exact I.2.2.2.2.2.2.2.2) ?_
  refine ⟨⟨?_, ?_, a3.f (fun j => C _ _ (by omega)) (fun j => C _ _ (by omega)) (fun i hi => Q _ (by omega)), a4.f (fun j => C _ _ (by omega)) (fun j => C _ _ (by omega)) a2 (fun i hi => Q _ (by omega)), hClaim, ?_, ?_, ?_, ?_, ?_⟩, ?_, a12.f (fun j => C _ _ (by omega)) (fun j => C _ _ (by omega)) a2 (fun i hi => Q _ (by omega)), hSch, hCoin, ?_, a16.f (fun a j ha => C _ _ (by omega)) (fun i hi => Q _ (by omega)), ?_, a18.f a2 I.2.1 (fun j _ _ => C _ _ (by omega)) (Q 3 (by omega)) Kp.imm (fun i hi => Q _ (by omega)), ?_⟩
  · obtain ⟨e0, e1, e2, e3, e4, e5, e6, e7, e8, e9'⟩ := sc0 a1
    refine ⟨?_, ?_, ?_, ?_, ?_, ?_, ?_, ?_, ?_, e9⟩
    · rw [q0]; exact (C 101 9 (by omega)).trans e0
    · rw [Q 1 (by omega)]; exact (C 102 5 (by omega)).trans e1
    · rw [vN]; exact v108
    · rw [Q 3 (by omega)]; exact (C 101 8 (by omega)).trans e3
    · rw [Q 4 (by omega)]; exact (C 101 7 (by omega)).trans e4
    · rw [Q 5 (by omega)]; exact (C 101 10 (by omega)).trans e5
    · rw [Q 6 (by omega)]; exact (C 108 9 (by omega)).trans e6
    · rw [Q 7 (by omega)]; exact (C 124 2 (by omega)).trans e7
    · rw [Q 8 (by omega)]; exact (C 115 8 (by omega)).trans e8
  · unfold RBd
    rw [q0, vN, Q 1 (by omega), Q 3 (by omega), Q 4 (by omega), Q 5 (by omega), Q 6 (by omega), Q 7 (by omega), Q 8 (by omega)]
    exact ⟨b0, b1, by omega, b3, b4, b5, b6, b7, b8, by omega, s9b⟩
  · intro p p0 p1
    rw [vN] at p1
    by_cases e : p = mv h 198 2
    · subst e
      simp only [Int.add_zero]
      rw [v109, vday, q0]
      exact ⟨new.1, new.2.1, new.2.2.1, b0.1, by omega, new.2.2.2.1, new.2.2.2.2.1, new.2.2.2.2.2⟩
    · exact pap1 a6 a2 (fun j j0 j1 => C _ _ (by omega)) (by omega) (by rw [Q 1 (by omega)]; omega) (by omega) Kp.imm (fun q g0 g1 => Or.inl (Q _ (by omega))) (fun i hi => Q _ (by omega)) p p0 (by omega)
  · intro p q p0 p1 q1
    rw [vN] at q1
    by_cases e : q = mv h 198 2
    · subst e
      rw [vday, Q _ (by omega)]
      exact (a6 p p0 p1).2.2.2.2.1
    · rw [Q _ (by omega), Q _ (by omega)]
      exact a7 p q p0 p1 (by omega)
  · have e6 := C 108 6 (by omega)
    refine ⟨by simp only [Int.add_zero]; rw [e6]; exact a8.1, fun p p0 p1 => ?_⟩
    have z := a8.2 p p0 p1
    simp only [Int.add_zero] at z ⊢
    rw [e6, vN, z]
    by_cases e : p = mv h 198 2
    · subst e
      rw [vdone]
      constructor
      · intro y; omega
      · intro y; omega
    · by_cases c : p < mv h 198 2
      · rw [Q _ (by omega)]
        exact ⟨fun y => ⟨by omega, y.2⟩, fun y => ⟨c, y.2⟩⟩
      · exact ⟨fun y => absurd y.1 c, fun y => by omega⟩
  · refine ⟨fun p q p0 p1 q0 q1 => ?_, fun p q p0 p1 q0 q1 => ?_⟩
    · have z := a9.1 p q p0 p1 q0 q1
      rw [Q (1100 + 60 * p + q) (by omega), Q (1100 + 60 * q + p) (by omega), vN]
      refine ⟨z.1, z.2.1, fun y => ?_⟩
      have x := z.2.2 y
      rw [Q _ (by omega), Q _ (by omega)]
      exact ⟨by omega, by omega, x.2.2.1, x.2.2.2⟩
    · rw [vN] at p1
      by_cases e : p = mv h 198 2
      · subst e
        simp only [Int.add_zero]
        rw [v110, bt_zero]
        constructor
        · intro y; cases y
        · rintro ⟨y1, y2⟩
          rw [Q _ (by omega)] at y2
          have x := (a9.1 (mv h 198 2) q p0 (by omega) q0 y1).2.2 y2
          omega
      · have z := a9.2 p q p0 (by omega) q0 q1
        simp only [Int.add_zero] at z ⊢
        rw [C 110 p (by omega), z]
        constructor
        · rintro ⟨y1, y2⟩
          exact ⟨y1, by rw [Q _ (by omega)]; exact y2⟩
        · rintro ⟨y1, y2⟩
          rw [Q _ (by omega)] at y2
          exact ⟨y1, y2⟩
  · intro p p0 p1
    rw [vN] at p1
    by_cases e : p = mv h 198 2
    · subst e
      simp only [Int.add_zero]
      rw [v112, vdone]
      exact ⟨fun _ => rfl, fun y => by omega⟩
    · have z := a10 p p0 (by omega)
      simp only [Int.add_zero] at z ⊢
      rw [C 111 p (by omega), C 112 p (by omega), Q (370 + p) (by omega), Q (790 + p) (by omega), Q (970 + p) (by omega), Q (1030 + p) (by omega)]
      exact z
  · refine ⟨fun v j0 j1 => ?_, fun p p0 p1 => ?_⟩
    · rw [Q 6 (by omega)] at j1
      have z := a11.1 v j0 j1
      rw [Q (11290 + v) (by omega), Q (11350 + v) (by omega), Q (11410 + v) (by omega), vN]
      exact ⟨z.1, z.2.1, z.2.2.1, by omega, z.2.2.2.2⟩
    · rw [vN] at p1
      rw [vts_f a2 (fun i hi => Q _ (by omega)), vts_f a2 (fun i hi => Q _ (by omega))]
      by_cases e : p = mv h 198 2
      · subst e
        simp only [Int.add_zero]
        have vz : ∀ y : Int, vts 198 h (mv h 198 2) y = 0 := fun y => orI_z (fun i i0 i1 => if_neg (fun w => by
          have z := a11.1 i i0 (by omega)
          omega))
        rw [v113, v114, vz, vz]
        exact ⟨rfl, rfl⟩
      · have z := a11.2 p p0 (by omega)
        simp only [Int.add_zero] at z ⊢
        rw [C 113 p (by omega), C 114 p (by omega)]
        exact z
  · intro f f0 f1
    rw [Q 8 (by omega)] at f1
    have z := a15 f f0 f1
    simp only [Int.add_zero] at z ⊢
    rw [C 119 f (by omega), C 120 f (by omega), C 121 f (by omega), C 122 f (by omega), C 123 f (by omega), Q (11640 + f) (by omega), Q (11680 + f) (by omega), Q (11720 + f) (by omega), Q (11760 + f) (by omega), Q (11800 + f) (by omega), Q (11490 + mv h 119 f) (by omega)]
    exact ⟨z.1, by omega, z.2.2⟩
  · obtain ⟨t1, t2, t3, t4⟩ := a17
    simp only [Int.add_zero] at t1 t2 t3 t4
    refine ⟨fun i i0 i1 => ?_, fun i i0 i1 => ?_, fun p p0 p1 => ?_, fun a a0 a1 => ?_⟩
    · simp only [Int.add_zero]
      rw [Q 4 (by omega)] at i1
      rw [C 130 i (by omega), Q (11150 + i) (by omega)]; exact t1 i i0 i1
    · simp only [Int.add_zero]
      rw [C 130 i (by omega)]; exact t2 i i0 i1
    · simp only [Int.add_zero]
      by_cases e : p = mv h 198 2
      · subst e
        rw [v109]
        have z := new.2.2.2.1
        exact Or.inr ⟨z.1, z.2.1, z.2.2.1⟩
      · rw [C 109 p (by omega)]
        rcases t3 p p0 p1 with q | ⟨q1, q2, q3⟩
        · exact Or.inl q
        · exact Or.inr ⟨q1, by omega, (ht _ q2).1.trans q3⟩
    · simp only [Int.add_zero]
      rw [C 131 a (by omega)]
      rcases t4 a a0 a1 with q | ⟨q1, q2, q3⟩
      · exact Or.inl q
      · exact Or.inr ⟨q1, by omega, (ht _ q2).1.trans q3⟩
  · intro d d0 d1
    rw [q0] at d1
    obtain ⟨r1, r2, r3, r4⟩ := a19 d d0 d1
    have row : ∀ j, mv h' (mv h 179 d) j = mv h (mv h 179 d) j := Pk.2 d d0 (by omega) r1
    rw [Pk.1]
    refine ⟨r1, fun p p0 p1 => ?_, fun p p0 p1 => ?_, fun i i0 i1 => ?_⟩
    · rw [vN] at p1
      unfold past1
      rw [row]
      by_cases e : p = mv h 198 2
      · subst e
        have z := r3 (mv h 198 2) (by omega) (by omega)
        rw [z.1]
        refine ⟨fun _ i i0 i1 i2 => ?_, fun _ => ?_, fun _ _ => rfl⟩
        · by_cases c : i < mv h 198 9
          · have y := (a13.1 i i0 c).2.1
            rw [Q (11490 + i) (by omega)] at i2
            omega
          · rw [Q _ (by omega)]
            exact (r4 i (by omega) (by omega)).symm
        · rw [Q _ (by omega)]; exact z.2.symm
      · have z := r2 p p0 (by omega)
        unfold past1 at z
        rw [Q (370 + p) (by omega)]
        refine ⟨fun c i i0 i1 i2 => ?_, fun c => ?_, z.2.2⟩
        · by_cases c2 : i < mv h 198 9
          · rw [Q (11490 + i) (by omega)] at i2
            rw [Q _ (by omega)]
            exact z.1 c i i0 c2 i2
          · have ei : i = mv h 198 9 := by omega
            subst ei
            omega
        · rw [Q _ (by omega)]; exact z.2.1 c
    · rw [vN] at p0
      rw [row, Q _ (by omega)]
      exact r3 p (by omega) p1
    · rw [Q _ (by omega)]
      exact r4 i (by omega) i1
