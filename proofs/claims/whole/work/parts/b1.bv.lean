/-! SETTLE -/
section SE
variable {k : Int} {h h' : MM}
theorem RLeft.s {b s : Int} (R : RLeft b s h) (w1 : ∀ j, mv h' (111 + b) j = mv h (111 + b) j) (w2 : ∀ j, mv h' (112 + b) j = mv h (112 + b) j) (B : RBd s h) (e : ∀ i : Int, i = 2 ∨ (370 ≤ i ∧ i < 430) ∨ (970 ≤ i ∧ i < 1090) → mv h' s i = mv h s i) (e3 : ∀ p : Int, 0 ≤ p → p < mv h s 2 → mv h s (370 + p) = 3 → mv h' s (790 + p) = mv h s (790 + p)) : RLeft b s h' := by
  have b2 := B.2.2.1
  intro t t0 t1
  rw [e 2 (by omega)] at t1
  have r := R t t0 t1
  rw [e (370 + t) (by omega), w2, w1, e (970 + t) (by omega), e (1030 + t) (by omega)]
  by_cases c : mv h s (370 + t) = 3
  · rw [e3 t t0 t1 c]; exact r
  · exact ⟨fun _ => r.1 (fun y => c y.1), fun y => absurd y.1 c⟩
theorem inv_settle (I : Inv k h) (F : FrN (fun a j => (a = 108 ∧ j = 6) ∨ a = 116 ∨ a = 117 ∨ (a = 184 ∧ j = 6) ∨ (185 ≤ a ∧ a ≤ 190) ∨ (205 ≤ a ∧ a ≤ 209) ∨ (a = 198 ∧ ((192 ≤ j ∧ j < 200) ∨ (790 ≤ j ∧ j < 850) ∨ (11502 ≤ j ∧ j < 11514) ∨ (11530 ≤ j ∧ j < 11640)))) h h') (co : ∀ q : Int, 0 ≤ q → q < 8 → mv h' 116 q = mv h' 198 (192 + q)) (co2 : ∀ a : Int, 0 ≤ a → a < 20 → 0 ≤ mv h' 116 a) (co3 : sumI (mv h' 116) 20 = sumI (mv h 116) 20) (sc : ∀ i : Int, 0 ≤ i → i < mv h 198 9 → mv h' 116 (8 + i) = mv h' 198 (11502 + i)) (sh : ∀ i q : Int, 0 ≤ i → i < mv h 198 9 → 0 ≤ q → q < 9 → mv h' 117 (9 * i + q) = mv h' 198 (11530 + 9 * i + q) ∧ 0 ≤ mv h' 198 (11530 + 9 * i + q)) (sh2 : ∀ i : Int, 0 ≤ i → i < mv h 198 9 → sumI (fun k => mv h' 198 (11530 + 9 * i + k)) 9 = sumI (fun k => mv h 198 (11530 + 9 * i + k)) 9) (dn : ∀ p : Int, 0 ≤ p → p < mv h 198 2 → mv h' 198 (790 + p) = mv h 198 (790 + p) ∨ (mv h 198 (370 + p) ≠ 2 ∧ mv h 198 (370 + p) ≠ 6 ∧ mv h 198 (370 + p) ≠ 3 ∧ mv h' 198 (790 + p) = 1)) (mk : in64 (mv h' 108 6) ∧ ∀ p : Int, 0 ≤ p → p < 64 → (bt (mv h' 108 6) p = true ↔ p < mv h 198 2 ∧ mv h' 198 (790 + p) = 1)) : Inv (k + 1) h' := by
  obtain ⟨⟨a1, a2, a3, a4, a5, a6, a7, a8, a9, a10⟩, a11, a12, a13, a14, a15, a16, a17, a18, a19⟩ := I.2.2.2.2.1
  obtain ⟨b0, b1, b2, b3, b4, b5, b6, b7, b8, b9⟩ := id a2
  have Wr : ∀ a j : Int, ¬ ((a = 108 ∧ j = 6) ∨ a = 116 ∨ a = 117 ∨ (a = 184 ∧ j = 6) ∨ (185 ≤ a ∧ a ≤ 190) ∨ (205 ≤ a ∧ a ≤ 209) ∨ (a = 198 ∧ ((192 ≤ j ∧ j < 200) ∨ (790 ≤ j ∧ j < 850) ∨ (11502 ≤ j ∧ j < 11514) ∨ (11530 ≤ j ∧ j < 11640)))) → mv h' a j = mv h a j := F.2
  have ok : ∀ a j : Int, ((a = 108 ∧ j = 6) ∨ a = 116 ∨ a = 117 ∨ (a = 184 ∧ j = 6) ∨ (185 ≤ a ∧ a ≤ 190) ∨ (205 ≤ a ∧ a ≤ 209) ∨ (a = 198 ∧ ((192 ≤ j ∧ j < 200) ∨ (790 ≤ j ∧ j < 850) ∨ (11502 ≤ j ∧ j < 11514) ∨ (11530 ≤ j ∧ j < 11640)))) → Wok a j := fun a j z => by
    rcases z with ⟨rfl, rfl⟩ | rfl | rfl | ⟨rfl, rfl⟩ | z | z | ⟨rfl, z⟩
    · simp [Wok]
    · simp [Wok]
    · simp [Wok]
    · simp [Wok]
    · have y : a = 185 ∨ a = 186 ∨ a = 187 ∨ a = 188 ∨ a = 189 ∨ a = 190 := by omega
      rcases y with rfl | rfl | rfl | rfl | rfl | rfl <;> simp [Wok]
    · have y : a = 205 ∨ a = 206 ∨ a = 207 ∨ a = 208 ∨ a = 209 := by omega
      rcases y with rfl | rfl | rfl | rfl | rfl <;> simp [Wok]
    · simp [Wok]
  have Kp := F.keep ok
  have hz : 200 ≤ nx h := by have := I.1.2.2; omega
  have Pk := (I.2.2.1.keep Kp hz).2
  refine I.fr F ok (Int.le_of_eq (Wr _ _ (by omega)).symm) ?_ ?_
  · rw [Wr 198 3 (by omega)]; exact I.2.2.2.2.2.2.2.2
  refine ⟨⟨(by unfold RSc at a1 ⊢; simp (disch := omega) only [Wr]; exact a1),
    (a2.f (by intros; exact Wr _ _ (by omega))),
    (a3.f (by intros; exact Wr _ _ (by omega)) (by intros; exact Wr _ _ (by omega)) (by intros; exact Wr _ _ (by omega))),
    (a4.f (by intros; exact Wr _ _ (by omega)) (by intros; exact Wr _ _ (by omega)) a2 (by intros; exact Wr _ _ (by omega))),
    (a5.f (by intros; exact Wr _ _ (by omega)) a2 (by intros; exact Wr _ _ (by omega))),
    ?_,
    (a7.f a2 (by intros; exact Wr _ _ (by omega))),
    ?_,
    (a9.f (by intros; exact Wr _ _ (by omega)) a2 (by intros; exact Wr _ _ (by omega))),
    (a10.s (fun j => Wr _ _ (by omega)) (fun j => Wr _ _ (by omega)) a2 (fun i z => Wr _ _ (by omega)) (fun p p0 p1 z => by have w := dn p p0 p1; omega))⟩,
    (a11.f (by intros; exact Wr _ _ (by omega)) (by intros; exact Wr _ _ (by omega)) a2 (by intros; exact Wr _ _ (by omega))),
    (a12.f (by intros; exact Wr _ _ (by omega)) (by intros; exact Wr _ _ (by omega)) a2 (by intros; exact Wr _ _ (by omega))),
    ?_,
    ?_,
    (a15.f (by intros; exact Wr _ _ (by omega)) (by intros; exact Wr _ _ (by omega)) (by intros; exact Wr _ _ (by omega)) (by intros; exact Wr _ _ (by omega)) (by intros; exact Wr _ _ (by omega)) a2 (by intros; exact Wr _ _ (by omega))),
    (a16.f (by intros; exact Wr _ _ (by omega)) (by intros; exact Wr _ _ (by omega))),
    (a17.f (by intros; exact Wr _ _ (by omega)) (by intros; exact Wr _ _ (by omega)) (by intros; exact Wr _ _ (by omega)) Kp.imm a2 (by intros; exact Wr _ _ (by omega))),
    (a18.f a2 I.2.1 (by intros; exact Wr _ _ (by omega)) (by intros; exact Wr _ _ (by omega)) Kp.imm (by intros; exact Wr _ _ (by omega))),
    (a19.f a2 (by intros; exact Wr _ _ (by omega)) (by intros; exact Wr _ _ (by omega)) (by intros; exact Wr _ _ (by omega)) (by intros; exact Wr _ _ (by omega)) Pk.1 Pk.2)⟩
  · intro t t0 t1
    rw [Wr 198 2 (by omega)] at t1
    refine pap1 a6 a2 (fun j j0 j1 => Wr _ _ (by omega)) (Int.le_of_eq (Wr _ _ (by omega)).symm) (Int.le_of_eq (Wr _ _ (by omega)).symm) (Int.le_of_eq (Wr _ _ (by omega)).symm) Kp.imm (fun x x0 x1 => ?_) (fun i hi => Wr _ _ (by omega)) t t0 t1
    rcases dn x x0 x1 with w | w
    · exact Or.inl w
    · exact Or.inr ⟨w.1, w.2.1, w.2.2.2⟩
  · refine ⟨by rw [show (108 : Int) + 0 = 108 from rfl]; exact mk.1, fun t t0 t1 => ?_⟩
    rw [show (108 : Int) + 0 = 108 from rfl, mk.2 t t0 t1, Wr 198 2 (by omega)]
  · refine ⟨fun i i0 i1 => ?_, fun i q i0 i1 i2 => ?_⟩
    · rw [Wr 198 9 (by omega)] at i1
      obtain ⟨r1, r2, r3, r4, r5, r6, r7⟩ := a13.1 i i0 i1
      simp only [Int.add_zero] at r4 r5 r6 ⊢
      rw [Wr 198 (11490 + i) (by omega), Wr 198 2 (by omega), Wr 198 (370 + mv h 198 (11490 + i)) (by omega), Wr 118 _ (by omega), Wr 198 (11514 + i) (by omega), Wr 198 (730 + mv h 198 (11490 + i)) (by omega)]
      exact ⟨r1, r2, r3, sc i i0 i1, r5, fun q q0 q1 => sh i q i0 i1 q0 q1, (sh2 i i0 i1).trans r7⟩
    · rw [Wr 198 9 (by omega)] at i2
      rw [Wr 198 (11490 + i) (by omega), Wr 198 (11490 + q) (by omega)]
      exact a13.2 i q i0 i1 i2
  · refine ⟨fun q q0 q1 => co q q0 q1, fun q q0 q1 => ?_, ?_⟩
    · simp only [Int.add_zero]
      exact co2 q q0 q1
    · simp only [Int.add_zero]
      rw [co3]
      have z := a14.2.2
      simp only [Int.add_zero] at z
      omega
abbrev kdS (h : MM) (p : Int) : Int := mv h 198 (370 + p)
abbrev stS (h : MM) (p : Int) : Int := mv h (mv h 109 p) 9
theorem settle_a (n : Nat) (hn : 10000000 ≤ n) (hk : k ≤ 1000) (I : Inv k h) : ∃ (O P : Int → Int → Int) (C1 C2 C4 G2 : MM), OBq O (mv h 198 9) ∧ PZ P O (mv h 198 9) ∧ (∀ a : Int, 0 ≤ a → a < 20 → sumI (P a) 20 ≤ hS h a + sumI (fun b => P b a) 20) ∧ f_X0_reckon n 184 108 115 h = some (0, C1) ∧ Sh C1 ∧ f_X0_payOut n 184 115 C1 = some (0, C2) ∧ Sh C2 ∧ f_X0_fell n 184 108 115 C2 = some (fbS O P 20, C4) ∧ Sh C4 ∧ f_X12_settles n 197 C4 = some (0, G2) ∧ FrN PDb h C1 ∧ FrN (fun a j => a = 116 ∨ a = 117 ∨ (a = 108 ∧ j = 6)) C1 C4 ∧ FrN PMd C4 G2 ∧ MRR G2 O P (hS h) ∧ (∀ a : Int, 0 ≤ a → a < 8 + mv h 198 9 → mv h 116 a = hS h a) ∧ (∀ a : Int, 0 ≤ a → a < 20 → mv C4 116 a = mv h 116 a - sumI (P a) 20 + sumI (fun b => P b a) 20) ∧ (∀ s k : Int, 0 ≤ s → s < 12 → 0 ≤ k → k < 9 → mv C4 117 (9 * s + k) = shG (dF O P) (mv h 117) s k) ∧ in64 (mv C4 108 6) ∧ ∀ q : Int, 0 ≤ q → q < 64 → (bt (mv C4 108 6) q = true ↔ bt (mv h 108 6) q = true ∨ (q < mv h 198 2 ∧ ndE (fbS O P 20) (kdS h) (stS h) q)) := by
  have D := I.dc
  have hH := hS_bd I hk
  obtain ⟨O, hO⟩ : ∃ O, O = oS h (mv h 198 2).toNat := ⟨_, rfl⟩
  have hOk : OBq O (mv h 198 9) := by rw [hO]; exact oS_ok I.rd
  obtain ⟨R, C1, G1, x1, x2, x3, x4, x5, x6, x7⟩ := reck_e hn I.dc I.dm hO hH
  have bN := (rbd I.rd).2.2.1
  have bS := (rbd I.rd).2.2.2.2.2.2.2.2.2
  obtain ⟨⟨a1, -, -, -, -, -, -, a8, -, -⟩, -⟩ := I.2.2.2.2.1
  have mk : in64 (mv h 108 6) ∧ ∀ p : Int, 0 ≤ p → p < 64 → (bt (mv h 108 6) p = true ↔ p < mv h 198 2 ∧ mv h 198 (790 + p) = 1) := a8
  have lo : ∀ a j : Int, ¬ ((a = 184 ∧ j = 6) ∨ (185 ≤ a ∧ a ≤ 190)) → mv C1 a j = mv h a j := fun a j z => x4.2 a j z
  have pa : PAq C1 (mv h 198 2) (kdS h) (stS h) := fun p p0 p1 => by
    obtain ⟨k1, k2, k3, k4, -⟩ := pob D p0 p1
    rw [lo 109 _ (by omega), x4.tg, lo _ _ (by omega), lo _ _ (by omega)]
    refine ⟨k1, k3, k4, fun z => ?_⟩
    have w := psl D p0 p1 z
    exact ⟨rfl, w.1, Int.lt_of_lt_of_le w.2.1 (by omega)⟩
  have e7 : mv C1 108 7 = mv h 198 2 := by
    rw [lo _ _ (by omega)]
    exact (sc0 a1).2.2.1
  have e116 : ∀ a : Int, mv C1 116 a = mv h 116 a := fun a => lo _ _ (by omega)
  have e117 : ∀ a : Int, mv C1 117 a = mv h 117 a := fun a => lo _ _ (by omega)
  have ce := fun (P : Int → Int → Int) (hP : PZ P O (mv h 198 9)) (cr : CRE C1 O P (hS h) (mv h 198 9)) => cend hn hOk hP cr.1 cr.2.1 cr.2.2.2.1 cr.2.2.2.2.2 (fun a a0 a1 => by
    have := coin_bd I a0 a1
    rw [e116]; omega) (fun s k s0 s1 k0 k1 => by
    rw [e117, ((schf D s0 s1).2.2.2.2.2.1 k k0 k1).1]
    exact share_bd D s0 s1 k0 k1) (x := mv h 198 2) ⟨bN.1, bN.2⟩ pa e7 (by rw [lo _ _ (by omega)]; exact mk.1)
  obtain ⟨C2, C4, y1, y2, y3, y4, -⟩ := ce _ (PZ_PY hOk hH R) x6
  have S4 : Sh C4 := y4.sh (fun a j z => by unfold Wok; omega) x6.1
  have E4 : Dm C4 h := ⟨I.rd, S4, fun j => by rw [y4.2 _ _ (by omega), lo _ _ (by omega)]⟩
  obtain ⟨R2, C1', G2, r1, z1, z2, z3, z4, z5, z6⟩ := reck_e hn I.dc E4 hO hH
  have q1 : C1 = C1' := by
    rw [x2] at z1
    injection z1 with z; injection z with z1 z2
  subst q1
  have hP2 := PZ_PY hOk hH R2
  have pl := fun a a0 a1 => PY_left hOk (fun a a0 a1 => (hH a a0 a1).1) R2 r1 (a := a) a0 a1
  generalize PY O (hS h) R2 = P at z5 z6 hP2 pl
  obtain ⟨C2', C4', w1, w2, w3, w4, w5, w6, w7, w8⟩ := ce _ hP2 z5
  have q2 : C2 = C2' := by
    rw [y1] at w1
    injection w1 with z; injection z with z1 z2
  subst q2
  have q3 : C4 = C4' := by
    rw [y3] at w3
    injection w3 with z; injection z with z1 z2
  subst q3
  refine ⟨O, P, C1, C2, C4, G2, hOk, hP2, pl, x2, x6.1, y1, y2, w3, S4, z2, x4, w4, z4, z6, fun a a0 a1 => ?_, fun a a0 a1 => ?_, fun s k s0 s1 k0 k1 => ?_, w7, fun q q0 q1 => ?_⟩
  · rw [← e116]; exact z5.2.2.2.2.1 a a0 a1
  · rw [w5 a a0 a1, e116]
  · rw [w6 s k s0 s1 k0 k1, show mv C1 117 = mv h 117 from funext e117]
  · rw [w8 q q0 q1, lo 108 _ (by omega)]
theorem settle_b (n : Nat) (hn : 10000000 ≤ n) (hk : k ≤ 1000) (I : Inv k h) {O P : Int → Int → Int} {C1 C4 G2 : MM} (hOk : OBq O (mv h 198 9)) (hP : PZ P O (mv h 198 9)) (pl : ∀ a : Int, 0 ≤ a → a < 20 → sumI (P a) 20 ≤ hS h a + sumI (fun b => P b a) 20) (F1 : FrN PDb h C1) (F2 : FrN (fun a j => a = 116 ∨ a = 117 ∨ (a = 108 ∧ j = 6)) C1 C4) (F3 : FrN PMd C4 G2) (M : MRR G2 O P (hS h)) (h116 : ∀ a : Int, 0 ≤ a → a < 8 + mv h 198 9 → mv h 116 a = hS h a) (w5 : ∀ a : Int, 0 ≤ a → a < 20 → mv C4 116 a = mv h 116 a - sumI (P a) 20 + sumI (fun b => P b a) 20) (w6 : ∀ s k : Int, 0 ≤ s → s < 12 → 0 ≤ k → k < 9 → mv C4 117 (9 * s + k) = shG (dF O P) (mv h 117) s k) (w7 : in64 (mv C4 108 6)) (w8 : ∀ q : Int, 0 ≤ q → q < 64 → (bt (mv C4 108 6) q = true ↔ bt (mv h 108 6) q = true ∨ (q < mv h 198 2 ∧ ndE (fbS O P 20) (kdS h) (stS h) q))) : ∃ G4, f_X12_settle_8 n 197 n 0 0 G2 = some (fbS O P 20, G4) ∧ Inv (k + 1) G4 := by
  have D := I.dc
  have hH := hS_bd I hk
  have bN := (rbd I.rd).2.2.1
  have bS := (rbd I.rd).2.2.2.2.2.2.2.2.2
  obtain ⟨⟨-, -, -, -, -, -, -, a8, -, -⟩, -, -, a13, -⟩ := I.2.2.2.2.1
  have mk : in64 (mv h 108 6) ∧ ∀ p : Int, 0 ≤ p → p < 64 → (bt (mv h 108 6) p = true ↔ p < mv h 198 2 ∧ mv h 198 (790 + p) = 1) := a8
  have lo : ∀ a j : Int, ¬ ((a = 184 ∧ j = 6) ∨ (185 ≤ a ∧ a ≤ 190)) → mv C1 a j = mv h a j := fun a j z => F1.2 a j z
  have l3 : ∀ a j : Int, ¬ (205 ≤ a ∧ a ≤ 209) → mv G2 a j = mv C4 a j := fun a j z => F3.2 a j z
  have sch := fun (s : Int) (s0 : 0 ≤ s) (s1 : s < mv h 198 9) => schf D s0 s1
  have stq : ∀ s : Int, 0 ≤ s → s < mv h 198 9 → stS h (mv h 198 (11490 + s)) = s := fun s s0 s1 => by
    obtain ⟨f1, f2, f3, -⟩ := sch s s0 s1
    obtain ⟨g1, g2, g3⟩ := psl D f1 f2 f3
    have g1' : 0 ≤ stS h (mv h 198 (11490 + s)) := g1
    have g2' : stS h (mv h 198 (11490 + s)) < mv h 198 9 := g2
    have g3' : mv h 198 (11490 + stS h (mv h 198 (11490 + s))) = mv h 198 (11490 + s) := g3
    generalize stS h (mv h 198 (11490 + s)) = t at g1' g2' g3' ⊢
    by_cases l : t < s
    · exact absurd g3' (a13.2 _ _ g1' l s1)
    · by_cases l2 : s < t
      · exact absurd g3'.symm (a13.2 _ _ s0 l2 g2')
      · omega
  have Eg : ∀ j : Int, mv G2 198 j = mv h 198 j := fun j => by
    rw [l3 _ _ (by omega), F2.2 _ _ (by omega), lo _ _ (by omega)]
  have shq : ∀ s k : Int, 0 ≤ s → s < mv h 198 9 → 0 ≤ k → k < 9 → mv h 117 (9 * s + k) = mv h 198 (11530 + 9 * s + k) := fun s k s0 s1 k0 k1 => ((sch s s0 s1).2.2.2.2.2.1 k k0 k1).1
  obtain ⟨G4, m1, m2, m3, m4, m5, m6⟩ := mend hn hOk hP hH M (x := mv h 198 2) (kd := kdS h) (st := stS h) (q := fun s => mv h 198 (11490 + s)) (sh := mv h 117) (Eg 9) (Eg 2) ⟨bN.1, bN.2⟩ (fun p p0 p1 => Eg _) (fun s s0 s1 => Eg _) (fun s k s0 s1 k0 k1 => by
    have w := share_bd D s0 s1 k0 k1
    rw [Eg, shq s k s0 s1 k0 k1]
    exact ⟨rfl, w⟩) (fun s s0 s1 => ⟨(sch s s0 s1).1, (sch s s0 s1).2.1, (sch s s0 s1).2.2.1, stq s s0 s1⟩) (fun p p0 p1 z => psl D p0 p1 z)
  have g116 : ∀ a : Int, mv G4 116 a = mv C4 116 a := fun a => by
    rw [m2.2 _ _ (by omega), l3 _ _ (by omega)]
  have v116 : ∀ a : Int, 0 ≤ a → a < 8 + mv h 198 9 → mv G4 116 a = nwC P (hS h) a := fun a a0 a1 => by
    rw [g116, w5 a a0 (by omega), h116 a a0 a1]
    rfl
  have u116 : ∀ a : Int, 8 + mv h 198 9 ≤ a → a < 20 → mv G4 116 a = mv h 116 a := fun a a0 a1 => by
    rw [g116, w5 a (by omega) a1, sumI_zero (fun b b0 b1 => hP.2 a b (by omega)), sumI_zero (f := fun b => P b a) (fun b b0 b1 => hP.2 b a (by omega))]
    omega
  have Fa : FrN (fun a j => (a = 108 ∧ j = 6) ∨ a = 116 ∨ a = 117 ∨ (a = 184 ∧ j = 6) ∨ (185 ≤ a ∧ a ≤ 190) ∨ (205 ≤ a ∧ a ≤ 209) ∨ (a = 198 ∧ ((192 ≤ j ∧ j < 200) ∨ (790 ≤ j ∧ j < 850) ∨ (11502 ≤ j ∧ j < 11514) ∨ (11530 ≤ j ∧ j < 11640)))) h G4 := by
    refine (F1.mono (fun a j z => ?_)).trans ((F2.mono (fun a j z => ?_)).trans ((F3.mono (fun a j z => ?_)).trans (m2.mono (fun a j z => ?_))))
    · unfold PDb at z; omega
    · omega
    · unfold PMd at z; omega
    · omega
  refine ⟨G4, m1, inv_settle I Fa (fun a a0 a1 => ?_) (fun a a0 a1 => ?_) ?_ (fun i i0 i1 => ?_) (fun i q i0 i1 q0 q1 => ?_) (fun i i0 i1 => ?_) (fun p p0 p1 => ?_) ⟨?_, fun p p0 p1 => ?_⟩⟩
  · rw [v116 a a0 (by omega), m3 a a0 a1]
  · by_cases c : a < 8 + mv h 198 9
    · rw [v116 a a0 c]
      have w := pl a a0 a1
      unfold nwC; omega
    · rw [u116 a (by omega) a1]
      exact (coin_bd I a0 a1).1
  · have e : sumI (mv G4 116) 20 = sumI (fun a => (mv h 116 a - sumI (P a) 20) + sumI (fun b => P b a) 20) 20 := sumI_congr (fun a a0 a1 => by
      rw [g116, w5 a a0 (by omega)])
    have sw := sumI_swap P 20 20
    have s1 := sumI_add (f := fun a => mv h 116 a - sumI (P a) 20) (g := fun a => sumI (fun b => P b a) 20) 20
    have s2 := sumI_sub (f := mv h 116) (g := fun a => sumI (P a) 20) 20
    omega
  · have w := m4 (8 + i) (by omega) (by omega)
    rw [show 11502 + (8 + i) - 8 = 11502 + i by omega] at w
    rw [v116 _ (by omega) (by omega), w]
  · have w := shG_nn (D := dF O P) (sh := mv h 117) (s := i) (x := q) (fun k k0 k1 => by rw [shq i k i0 i1 k0 k1]; exact share_bd D i0 i1 k0 k1) q0 q1
    rw [m5 i q i0 i1 q0 q1, m2.2 _ _ (by omega), l3 _ _ (by omega), w6 i q i0 (by omega) q0 q1]
    exact ⟨rfl, w.1⟩
  · have e : sumI (fun k => mv G4 198 (11530 + 9 * i + k)) 9 = sumI (shG (dF O P) (mv h 117) i) 9 := sumI_congr (fun k k0 k1 => m5 i k i0 i1 k0 (by omega))
    rw [e, shG_sum]
    exact sumI_congr (fun k k0 k1 => shq i k i0 i1 k0 (by omega))
  · rw [m6 p p0 p1]
    by_cases z : ndE (fbS O P 20) (kdS h) (stS h) p
    · rw [if_pos z]
      have z' : mv h 198 (370 + p) = 4 ∨ mv h 198 (370 + p) = 5 ∨ mv h 198 (370 + p) = 1 := by
        rcases z with z | z | z
        · exact Or.inl z
        · exact Or.inr (Or.inl z)
        · exact Or.inr (Or.inr z.1)
      exact Or.inr ⟨by omega, by omega, by omega, rfl⟩
    · rw [if_neg z, Eg]
      exact Or.inl rfl
  · rw [m2.2 _ _ (by omega), l3 _ _ (by omega)]; exact w7
  · rw [m2.2 108 _ (by omega), l3 108 _ (by omega), w8 p p0 p1, mk.2 p p0 p1]
    by_cases l : p < mv h 198 2
    · rw [m6 p p0 l]
      by_cases z : ndE (fbS O P 20) (kdS h) (stS h) p
      · rw [if_pos z]
        exact ⟨fun _ => ⟨l, rfl⟩, fun _ => Or.inr ⟨l, z⟩⟩
      · rw [if_neg z, Eg]
        exact ⟨fun y => y.elim id (fun y => absurd y.2 z), Or.inl⟩
    · exact ⟨fun y => y.elim (fun y => absurd y.1 l) (fun y => absurd y.1 l), fun y => absurd y.1 l⟩
end SE
theorem sim_settle {k : Int} {h : MM} (n : Nat) (hn : 10000000 ≤ n) (hk : k ≤ 1000) (I : Inv k h) : Sim k h (f_X11_settle n 100) (f_X12_settle n 197) := by
  obtain ⟨O, P, C1, C2, C4, G2, hOk, hP, pl, x1, S1, x2, S2, x3, S4, x4, F1, F2, F3, M, h116, w5, w6, w7, w8⟩ := settle_a n hn hk I
  obtain ⟨G4, m1, m2⟩ := settle_b n hn hk I hOk hP pl F1 F2 F3 M h116 w5 w6 w7 w8
  have S := I.1
  have S3 := M.1
  refine ⟨fbS O P 20, C4, G4, ?_, ?_, m2⟩
  · simp (disch := first | assumption | (with_reducible show Sh _; simp only [S100_2, S101_7, S101_8, S101_9, S101_10, S102_5, S103, M103, S104, M104, S105, M105, S106, M106, S107, M107, S108_6, S108_7, S108_8, S108_9, S109, M109, S110, M110, S111, M111, S112, M112, S113, M113, S114, M114, S115_8, S116, M116, S117, M117, S118, M118, S119, M119, S120, M120, S121, M121, S122, M122, S123, M123, S124_2, S125, M125, S126, M126, S127, M127, S128, M128, S130, M130, S131, M131, S132_1, S132_2, S133, M133, S134_1, S134_2, S135, M135, S136_1, S136_2, S137, M137, S138_1, S138_2, S139, M139, S140_7, S140_8, S140_9, S140_10, S141_5, S142, M142, S143, M143, S144, M144, S145, M145, S146, M146, S147_6, S147_7, S147_8, S147_9, S148, M148, S149, M149, S150, M150, S151, M151, S152, M152, S153, M153, S154_8, S155, M155, S156, M156, S157, M157, S158, M158, S159, M159, S160, M160, S161, M161, S162, M162, S163_2, S164, M164, S165, M165, S166, M166, S167, M167, S169, M169, S170, M170, S171_1, S171_2, S172, M172, S173_1, S173_2, S174, M174, S175_1, S175_2, S176, M176, S177_1, S177_2, S178, M178, S179, M179, S180_1, S180_2, S180_5, S180_6, S180_7, S180_8, S181, M181, S182, M182, S183, M183, S184_6, S185, M185, S186, M186, S187, M187, S188, M188, S189, M189, S190, M190, S191_5, S191_6, S192, M192, S193, M193, S194, M194, S195, M195, S196, M196, S197_0, S197_3, S197_4, S197_5, S197_6, S197_7, S197_13, S198, M198, S199, M199, S200, M200, S201, M201, S202, M202, S203, M203, S204, M204, S205, M205, S206, M206, S207, M207, S208, M208, S209, M209, S210, M210, S211, M211] <;> assumption) | (with_reducible show tg _ _ = _; simp only [tg_ms, tg_ma]; assumption) | (with_reducible show ln _ _ = _; simp only [ln_ms, ln_ma]; assumption) | (with_reducible show J64 _; unfold J64; omega) | (with_reducible show J _; unfold J; omega) | omega) only [↓f_X11_settle, ↓x1, ↓x2, ↓x3, ↓bd_i, ↓lb_i, ↓rd_i, ↓wt_i, ↓pf_i, bdi_e, lbi_e, ↓ck_t, isb_0, isb_1, ↓reduceIte, ↓if_pos, ↓if_neg, Int.reduceEq, Int.reduceLT, Int.reduceLE, Int.reduceNe, Int.reduceNeg, Int.reduceAdd, Int.reduceSub, Int.reduceMul, Int.add_sub_cancel, tg_ms, ln_ms, nx_ms, tg_ma, ln_ma, nx_ma, mv_s, mv_o, mv_ma_eq, mv_ma_ne, wrk, within_t, within_f, in_t, in_f, isCell_t, isCell_f, isHolder_t, isHolder_f, isHolderm_t, isHolderm_f, isDay_t, isDay_f, isDaym_t, isDaym_f, isSheet_t, isSheet_f, isSheetm_t, isSheetm_f,  ↓gk100, ↓g100_0, ↓g100_1, ↓g100_2, pi100_2, S100_2, ↓g100_3, ↓g100_4, ↓g100_5, ↓g100_6, ↓gk101, ↓g101_0, ↓g101_1, ↓g101_2, ↓g101_3, ↓g101_4, ↓g101_5, ↓g101_6, ↓g101_7, pi101_7, S101_7, ↓g101_8, pi101_8, S101_8, ↓g101_9, pi101_9, S101_9, ↓g101_10, pi101_10, S101_10, ↓gk102, ↓g102_0, ↓g102_1, ↓g102_2, ↓g102_3, ↓g102_4, ↓g102_5, pi102_5, S102_5, ↓al103, ri103, wi103, S103, M103, ↓al104, ri104, wi104, S104, M104, ↓al105, ri105, wi105, S105, M105, ↓al106, ri106, wi106, S106, M106, ↓al107, ri107, wi107, S107, M107, ↓gk108, ↓g108_0, ↓g108_1, ↓g108_2, ↓g108_3, ↓g108_4, ↓g108_5, ↓g108_6, pi108_6, S108_6, ↓g108_7, pi108_7, S108_7, ↓g108_8, pi108_8, S108_8, ↓g108_9, pi108_9, S108_9, ↓al109, ri109, wi109, S109, M109, ↓al110, ri110, wi110, S110, M110, ↓al111, ri111, wi111, S111, M111, ↓al112, ri112, wi112, S112, M112, ↓al113, ri113, wi113, S113, M113, ↓al114, ri114, wi114, S114, M114, ↓gk115, ↓g115_0, ↓g115_1, ↓g115_2, ↓g115_3, ↓g115_4, ↓g115_5, ↓g115_6, ↓g115_7, ↓g115_8, pi115_8, S115_8, ↓al116, ri116, wi116, S116, M116, ↓al117, ri117, wi117, S117, M117, ↓al118, ri118, wi118, S118, M118, ↓al119, ri119, wi119, S119, M119, ↓al120, ri120, wi120, S120, M120, ↓al121, ri121, wi121, S121, M121, ↓al122, ri122, wi122, S122, M122, ↓al123, ri123, wi123, S123, M123, ↓gk124, ↓g124_0, ↓g124_1, ↓g124_2, pi124_2, S124_2, ↓g124_3, ↓g124_4, ↓al125, ri125, wi125, S125, M125, ↓al126, ri126, wi126, S126, M126, ↓al127, ri127, wi127, S127, M127, ↓al128, ri128, wi128, S128, M128, ↓al129, ri129, ↓al130, ri130, wi130, S130, M130, ↓al131, ri131, wi131, S131, M131, ↓gk132, ↓g132_0, ↓g132_1, pi132_1, S132_1, ↓g132_2, pi132_2, S132_2, ↓al133, ri133, wi133, S133, M133, ↓gk134, ↓g134_0, ↓g134_1, pi134_1, S134_1, ↓g134_2, pi134_2, S134_2, ↓al135, ri135, wi135, S135, M135, ↓gk136, ↓g136_0, ↓g136_1, pi136_1, S136_1, ↓g136_2, pi136_2, S136_2, ↓al137, ri137, wi137, S137, M137, ↓gk138, ↓g138_0, ↓g138_1, pi138_1, S138_1, ↓g138_2, pi138_2, S138_2, ↓al139, ri139, wi139, S139, M139, ↓al179, ri179, wi179, S179, M179, ↓gk180, ↓g180_0, ↓g180_1, pi180_1, S180_1, ↓g180_2, pi180_2, S180_2, ↓g180_3, ↓g180_4, ↓g180_5, pi180_5, S180_5, ↓g180_6, pi180_6, S180_6, ↓g180_7, pi180_7, S180_7, ↓g180_8, pi180_8, S180_8, ↓al181, ri181, wi181, S181, M181, ↓al182, ri182, wi182, S182, M182, ↓al183, ri183, wi183, S183, M183, ↓gk184, ↓g184_0, ↓g184_1, ↓g184_2, ↓g184_3, ↓g184_4, ↓g184_5, ↓g184_6, pi184_6, S184_6, ↓al185, ri185, wi185, S185, M185, ↓al186, ri186, wi186, S186, M186, ↓al187, ri187, wi187, S187, M187, ↓al188, ri188, wi188, S188, M188, ↓al189, ri189, wi189, S189, M189, ↓al190, ri190, wi190, S190, M190, ↓gk191, ↓g191_0, ↓g191_1, ↓g191_2, ↓g191_3, ↓g191_4, ↓g191_5, pi191_5, S191_5, ↓g191_6, pi191_6, S191_6, ↓al192, ri192, wi192, S192, M192, ↓al193, ri193, wi193, S193, M193, ↓al194, ri194, wi194, S194, M194, ↓al195, ri195, wi195, S195, M195, ↓al196, ri196, wi196, S196, M196]
  · simp (disch := first | assumption | (with_reducible show Sh _; simp only [S100_2, S101_7, S101_8, S101_9, S101_10, S102_5, S103, M103, S104, M104, S105, M105, S106, M106, S107, M107, S108_6, S108_7, S108_8, S108_9, S109, M109, S110, M110, S111, M111, S112, M112, S113, M113, S114, M114, S115_8, S116, M116, S117, M117, S118, M118, S119, M119, S120, M120, S121, M121, S122, M122, S123, M123, S124_2, S125, M125, S126, M126, S127, M127, S128, M128, S130, M130, S131, M131, S132_1, S132_2, S133, M133, S134_1, S134_2, S135, M135, S136_1, S136_2, S137, M137, S138_1, S138_2, S139, M139, S140_7, S140_8, S140_9, S140_10, S141_5, S142, M142, S143, M143, S144, M144, S145, M145, S146, M146, S147_6, S147_7, S147_8, S147_9, S148, M148, S149, M149, S150, M150, S151, M151, S152, M152, S153, M153, S154_8, S155, M155, S156, M156, S157, M157, S158, M158, S159, M159, S160, M160, S161, M161, S162, M162, S163_2, S164, M164, S165, M165, S166, M166, S167, M167, S169, M169, S170, M170, S171_1, S171_2, S172, M172, S173_1, S173_2, S174, M174, S175_1, S175_2, S176, M176, S177_1, S177_2, S178, M178, S179, M179, S180_1, S180_2, S180_5, S180_6, S180_7, S180_8, S181, M181, S182, M182, S183, M183, S184_6, S185, M185, S186, M186, S187, M187, S188, M188, S189, M189, S190, M190, S191_5, S191_6, S192, M192, S193, M193, S194, M194, S195, M195, S196, M196, S197_0, S197_3, S197_4, S197_5, S197_6, S197_7, S197_13, S198, M198, S199, M199, S200, M200, S201, M201, S202, M202, S203, M203, S204, M204, S205, M205, S206, M206, S207, M207, S208, M208, S209, M209, S210, M210, S211, M211] <;> assumption) | (with_reducible show tg _ _ = _; simp only [tg_ms, tg_ma]; assumption) | (with_reducible show ln _ _ = _; simp only [ln_ms, ln_ma]; assumption) | (with_reducible show J64 _; unfold J64; omega) | (with_reducible show J _; unfold J; omega) | omega) only [↓f_X12_settle, ↓x4, ↓m1, ↓bd_i, ↓lb_i, ↓rd_i, ↓wt_i, ↓pf_i, bdi_e, lbi_e, ↓ck_t, isb_0, isb_1, ↓reduceIte, ↓if_pos, ↓if_neg, Int.reduceEq, Int.reduceLT, Int.reduceLE, Int.reduceNe, Int.reduceNeg, Int.reduceAdd, Int.reduceSub, Int.reduceMul, Int.add_sub_cancel, tg_ms, ln_ms, nx_ms, tg_ma, ln_ma, nx_ma, mv_s, mv_o, mv_ma_eq, mv_ma_ne, wrk, within_t, within_f, in_t, in_f, isCell_t, isCell_f, isHolder_t, isHolder_f, isHolderm_t, isHolderm_f, isDay_t, isDay_f, isDaym_t, isDaym_f, isSheet_t, isSheet_f, isSheetm_t, isSheetm_f,  ↓gk197, ↓g197_0, pi197_0, S197_0, ↓g197_1, ↓g197_2, ↓g197_3, pi197_3, S197_3, ↓g197_4, pi197_4, S197_4, ↓g197_5, pi197_5, S197_5, ↓g197_6, pi197_6, S197_6, ↓g197_7, pi197_7, S197_7, ↓g197_8, ↓g197_9, ↓g197_10, ↓g197_11, ↓g197_12, ↓g197_13, pi197_13, S197_13, ↓g197_14, ↓g197_15, ↓g197_16, ↓g197_17, ↓g197_18, ↓g197_19, ↓g197_20, ↓al198, ri198, wi198, S198, M198, ↓al199, ri199, wi199, S199, M199, ↓al200, ri200, wi200, S200, M200, ↓al201, ri201, wi201, S201, M201, ↓al202, ri202, wi202, S202, M202, ↓al203, ri203, wi203, S203, M203, ↓al204, ri204, wi204, S204, M204, ↓al205, ri205, wi205, S205, M205, ↓al206, ri206, wi206, S206, M206, ↓al207, ri207, wi207, S207, M207, ↓al208, ri208, wi208, S208, M208, ↓al209, ri209, wi209, S209, M209, ↓al210, ri210, wi210, S210, M210, ↓al211, ri211, wi211, S211, M211]
