/-! EACH COMPONENT rests on few rows and on few ranges of the model's array -/
section FRC
variable {M b s : Int} {h h' : MM}
theorem RBd.f (R : RBd s h) (e : ∀ i : Int, 0 ≤ i ∧ i < 10 → mv h' s i = mv h s i) : RBd s h' := by
  unfold RBd at R ⊢; simp (disch := omega) only [e]; exact R
theorem RLand.f (R : RLand b s h) (w1 : ∀ j, mv h' (103 + b) j = mv h (103 + b) j) (w2 : ∀ j, mv h' (104 + b) j = mv h (104 + b) j) (e : ∀ i : Int, 20 ≤ i ∧ i < 180 → mv h' s i = mv h s i) : RLand b s h' := by
  intro c h0 h1
  have r := R c h0 h1
  simp (disch := omega) only [w1, w2, e]; exact r
theorem RTown.f (R : RTown b s h) (w1 : ∀ j, mv h' (106 + b) j = mv h (106 + b) j) (w2 : ∀ j, mv h' (107 + b) j = mv h (107 + b) j) (B : RBd s h) (e : ∀ i : Int, i = 1 ∨ (180 ≤ i ∧ i < 192) → mv h' s i = mv h s i) : RTown b s h' := by
  have b1 := B.2.1
  refine ⟨fun t h0 h1 => ?_, fun t u h0 h1 h2 => ?_⟩
  · rw [e 1 (by omega)] at h1
    have r := R.1 t h0 h1
    simp (disch := omega) only [w1, w2, e]; exact r
  · rw [e 1 (by omega)] at h2
    have r := R.2 t u h0 h1 h2
    simp (disch := omega) only [e]; exact r
theorem clm_f {c : Int} (B : RBd s h) (e : ∀ i : Int, i = 2 ∨ (370 ≤ i ∧ i < 430) ∨ (550 ≤ i ∧ i < 610) ∨ (730 ≤ i ∧ i < 790) → mv h' s i = mv h s i) : clm s h' c = clm s h c := by
  have b1 := B.2.2.1
  unfold clm
  rw [e 2 (by omega)]
  refine sumI_congr (fun p h0 h1 => ?_)
  simp (disch := omega) only [e]
theorem RClaim.f (R : RClaim b s h) (w1 : ∀ j, mv h' (105 + b) j = mv h (105 + b) j) (B : RBd s h) (e : ∀ i : Int, i = 2 ∨ (370 ≤ i ∧ i < 430) ∨ (550 ≤ i ∧ i < 610) ∨ (730 ≤ i ∧ i < 790) → mv h' s i = mv h s i) : RClaim b s h' := by
  intro c h0 h1
  rw [w1, clm_f B e]; exact R c h0 h1
theorem RDay.f (R : RDay s h) (B : RBd s h) (e : ∀ i : Int, i = 2 ∨ (490 ≤ i ∧ i < 550) → mv h' s i = mv h s i) : RDay s h' := by
  have b1 := B.2.2.1
  intro p q h0 h1 h2
  rw [e 2 (by omega)] at h2
  have r := R p q h0 h1 h2
  simp (disch := omega) only [e]; exact r
theorem RMark.f (R : RMark b s h) (w1 : mv h' (108 + b) 6 = mv h (108 + b) 6) (B : RBd s h) (e : ∀ i : Int, i = 2 ∨ (790 ≤ i ∧ i < 850) → mv h' s i = mv h s i) : RMark b s h' := by
  have b1 := B.2.2.1
  refine ⟨by rw [w1]; exact R.1, fun p h0 h1 => ?_⟩
  have r := R.2 p h0 h1
  rw [w1, e 2 (by omega)]
  by_cases c : p < mv h s 2
  · rw [e (790 + p) (by omega)]; exact r
  · rw [r]; constructor <;> intro q <;> exact absurd q.1 c
theorem RBar.f (R : RBar b s h) (w1 : ∀ j, mv h' (110 + b) j = mv h (110 + b) j) (B : RBd s h) (e : ∀ i : Int, i = 2 ∨ (370 ≤ i ∧ i < 430) ∨ (1100 ≤ i ∧ i < 4700) → mv h' s i = mv h s i) : RBar b s h' := by
  have b1 := B.2.2.1
  refine ⟨fun p q h0 h1 h2 h3 => ?_, fun p q h0 h1 h2 h3 => ?_⟩
  · have r := R.1 p q h0 h1 h2 h3
    simp (disch := omega) only [e]; exact r
  · rw [e 2 (by omega)] at h1
    have r := R.2 p q h0 h1 h2 h3
    rw [w1]
    by_cases c : q < 60
    · rw [e (1100 + 60 * p + q) (by omega)]; exact r
    · rw [r]; constructor <;> intro z <;> exact absurd z.1 c
theorem RLeft.f (R : RLeft b s h) (w1 : ∀ j, mv h' (111 + b) j = mv h (111 + b) j) (w2 : ∀ j, mv h' (112 + b) j = mv h (112 + b) j) (B : RBd s h) (e : ∀ i : Int, i = 2 ∨ (370 ≤ i ∧ i < 430) ∨ (790 ≤ i ∧ i < 850) ∨ (970 ≤ i ∧ i < 1090) → mv h' s i = mv h s i) : RLeft b s h' := by
  have b1 := B.2.2.1
  intro p h0 h1
  rw [e 2 (by omega)] at h1
  have r := R p h0 h1
  simp (disch := omega) only [w1, w2, e]; exact r
theorem orI_congr {f g : Int → Int} : ∀ {k : Nat}, (∀ i : Int, 0 ≤ i → i < (k : Int) → f i = g i) → orI f k = orI g k
  | 0, _ => rfl
  | k + 1, q => by
    unfold orI
    rw [orI_congr (k := k) (fun i h0 h1 => q i h0 (by omega)), q (k : Int) (by omega) (by omega)]
theorem vts_f {p y : Int} (B : RBd s h) (e : ∀ i : Int, i = 6 ∨ (11290 ≤ i ∧ i < 11470) → mv h' s i = mv h s i) : vts s h' p y = vts s h p y := by
  have b1 := B.2.2.2.2.2.2.1
  unfold vts
  rw [e 6 (by omega)]
  refine orI_congr (fun v h0 h1 => ?_)
  simp (disch := omega) only [e]
theorem RVote.f (R : RVote b s h) (w1 : ∀ j, mv h' (113 + b) j = mv h (113 + b) j) (w2 : ∀ j, mv h' (114 + b) j = mv h (114 + b) j) (B : RBd s h) (e : ∀ i : Int, i = 2 ∨ i = 6 ∨ (11290 ≤ i ∧ i < 11470) → mv h' s i = mv h s i) : RVote b s h' := by
  have b1 := B.2.2.2.2.2.2.1
  refine ⟨fun v h0 h1 => ?_, fun p h0 h1 => ?_⟩
  · rw [e 6 (by omega)] at h1
    have r := R.1 v h0 h1
    simp (disch := omega) only [e]; exact r
  · rw [e 2 (by omega)] at h1
    rw [w1, w2, vts_f B (fun i hi => e i (by omega)), vts_f B (fun i hi => e i (by omega))]; exact R.2 p h0 h1
theorem RPress.f (R : RPress b s h) (w1 : ∀ j, mv h' (125 + b) j = mv h (125 + b) j) (w2 : ∀ j, mv h' (126 + b) j = mv h (126 + b) j) (B : RBd s h) (e : ∀ i : Int, i = 7 ∨ (11470 ≤ i ∧ i < 11490) → mv h' s i = mv h s i) : RPress b s h' := by
  have b1 := B.2.2.2.2.2.2.2.1
  intro j h0 h1
  rw [e 7 (by omega)] at h1
  have r := R j h0 h1
  simp (disch := omega) only [w1, w2, e]; exact r
theorem RSch.f (R : RSch b s h) (w1 : ∀ j : Int, 8 ≤ j → j < 20 → mv h' (116 + b) j = mv h (116 + b) j) (w2 : ∀ j, mv h' (117 + b) j = mv h (117 + b) j) (w3 : ∀ j, mv h' (118 + b) j = mv h (118 + b) j) (B : RBd s h) (e : ∀ i : Int, i = 2 ∨ i = 9 ∨ (370 ≤ i ∧ i < 430) ∨ (730 ≤ i ∧ i < 790) ∨ (11490 ≤ i ∧ i < 11640) → mv h' s i = mv h s i) : RSch b s h' := by
  have b1 := B.2.2.1
  have b2 := B.2.2.2.2.2.2.2.2.2
  refine ⟨fun i h0 h1 => ?_, fun i k h0 h1 h2 => ?_⟩
  · rw [e 9 (by omega)] at h1
    obtain ⟨r1, r2, r3, r4, r5, r6, r7⟩ := R.1 i h0 h1
    have e1 : mv h' s (11490 + i) = mv h s (11490 + i) := e _ (by omega)
    refine ⟨by rw [e1]; exact r1, by rw [e1, e 2 (by omega)]; exact r2, by rw [e1, e _ (by omega)]; exact r3, by rw [w1 _ (by omega) (by omega), e _ (by omega)]; exact r4, by rw [w3, e _ (by omega)]; exact r5, fun k k0 k1 => ?_, ?_⟩
    · rw [w2, e _ (by omega)]; exact r6 k k0 k1
    · rw [e1, e (730 + mv h s (11490 + i)) (by omega), ← r7]
      refine sumI_congr (fun k k0 k1 => e _ (by omega))
  · rw [e 9 (by omega)] at h2
    rw [e _ (by omega), e _ (by omega)]; exact R.2 i k h0 h1 h2
theorem RCoin.f (R : RCoin M b s h) (w1 : ∀ j, mv h' (116 + b) j = mv h (116 + b) j) (e : ∀ i : Int, 192 ≤ i ∧ i < 200 → mv h' s i = mv h s i) : RCoin M b s h' := by
  have : mv h' (116 + b) = mv h (116 + b) := funext w1
  refine ⟨fun k k0 k1 => ?_, by rw [this]; exact R.2.1, by rw [this]; exact R.2.2⟩
  rw [this, e _ (by omega)]; exact R.1 k k0 k1
theorem ROff.f (R : ROff b s h) (w1 : ∀ j, mv h' (119 + b) j = mv h (119 + b) j) (w2 : ∀ j, mv h' (120 + b) j = mv h (120 + b) j) (w3 : ∀ j, mv h' (121 + b) j = mv h (121 + b) j) (w4 : ∀ j, mv h' (122 + b) j = mv h (122 + b) j) (w5 : ∀ j, mv h' (123 + b) j = mv h (123 + b) j) (B : RBd s h) (e : ∀ i : Int, i = 8 ∨ i = 9 ∨ (11490 ≤ i ∧ i < 11502) ∨ (11640 ≤ i ∧ i < 11840) → mv h' s i = mv h s i) : ROff b s h' := by
  have b1 := B.2.2.2.2.2.2.2.2.1
  have b2 := B.2.2.2.2.2.2.2.2.2
  intro f h0 h1
  rw [e 8 (by omega)] at h1
  have r := R f h0 h1
  simp (disch := omega) only [w1, w2, w3, w4, w5, e]; exact r
theorem RSheet.f (R : RSheet b s h) (w : ∀ a j : Int, 132 + b ≤ a ∧ a ≤ 139 + b → mv h' a j = mv h a j) (e : ∀ i : Int, 200 ≤ i ∧ i < 370 → mv h' s i = mv h s i) : RSheet b s h' := by
  intro k k0 k1
  obtain ⟨r1, r2, r3, r4, r5, r6, r7⟩ := R k k0 k1
  rw [w _ 1 (by omega), w _ 2 (by omega), e (200 + k) (by omega), e (204 + k) (by omega)]
  refine ⟨r1, r2, r3, r4, r5, r6, fun i i0 i1 => ?_⟩
  rw [w _ i (by omega), e _ (by omega)]; exact r7 i i0 i1
theorem RTape.f (R : RTape b s h) (w1 : ∀ j, mv h' (130 + b) j = mv h (130 + b) j) (w2 : ∀ j, mv h' (109 + b) j = mv h (109 + b) j) (w3 : ∀ j, mv h' (131 + b) j = mv h (131 + b) j) (I : Imm h h') (B : RBd s h) (e : ∀ i : Int, i = 4 ∨ (11150 ≤ i ∧ i < 11290) → mv h' s i = mv h s i) : RTape b s h' := by
  have b1 := B.2.2.2.2.1
  refine ⟨fun i h0 h1 => ?_, fun i h0 h1 => by rw [w1]; exact R.2.1 i h0 h1, R.2.2.f w2 w3 I⟩
  rw [e 4 (by omega)] at h1
  have r := R.1 i h0 h1
  simp (disch := omega) only [w1, e]; exact r
end FRC
