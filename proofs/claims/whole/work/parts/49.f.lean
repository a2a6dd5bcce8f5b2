/-! WRITES KEPT TO A SET OF CELLS, without a new cell -/
def FrN (P : Int → Int → Prop) (h h' : MM) : Prop := h'.2 = h.2 ∧ ∀ a j : Int, ¬ P a j → mv h' a j = mv h a j
section FRN
variable {P Q : Int → Int → Prop} {h h1 h2 : MM} {a i v : Int} {f : Int → Int}
theorem FrN.refl (h : MM) : FrN P h h := ⟨rfl, fun _ _ _ => rfl⟩
theorem FrN.w (F : FrN P h h1) (q : P a i) : FrN P h (ms h1 a i v) := by
  refine ⟨F.1, fun b j hb => ?_⟩
  rw [mv_o ?_]
  · exact F.2 b j hb
  · by_cases c : b = a
    · by_cases d : j = i
      · subst c; subst d; exact absurd q hb
      · exact Or.inr d
    · exact Or.inl c
theorem FrN.ar (F : FrN P h h1) (q : ∀ j, P a j) : FrN P h (ma h1 a f) := by
  refine ⟨F.1, fun b j hb => ?_⟩
  rw [mv_ma_ne ?_]
  · exact F.2 b j hb
  · intro c; subst c; exact hb (q j)
theorem FrN.trans (F : FrN P h h1) (G : FrN P h1 h2) : FrN P h h2 := ⟨G.1.trans F.1, fun b j hb => (G.2 b j hb).trans (F.2 b j hb)⟩
theorem FrN.mono (F : FrN P h h1) (q : ∀ a j, P a j → Q a j) : FrN Q h h1 := ⟨F.1, fun b j hb => F.2 b j (fun z => hb (q b j z))⟩
theorem FrN.tg (F : FrN P h h1) : tg h1 a = tg h a := congrArg (fun z : (Int → Int × Int) × Int × Int => (z.1 a).1) F.1
theorem FrN.ln (F : FrN P h h1) : ln h1 a = ln h a := congrArg (fun z : (Int → Int × Int) × Int × Int => (z.1 a).2) F.1
theorem FrN.nx (F : FrN P h h1) : nx h1 = nx h := congrArg (fun z : (Int → Int × Int) × Int × Int => z.2.1) F.1
theorem FrN.sl (F : FrN P h h1) : sl h1 = sl h := congrArg (fun z : (Int → Int × Int) × Int × Int => z.2.2) F.1
/-- what may be written: no reference, no kept world, no image -/
def Wok (a j : Int) : Prop := (a = 101 ∧ 7 ≤ j) ∨ (a = 102 ∧ j = 5) ∨ (103 ≤ a ∧ a ≤ 107) ∨ (a = 108 ∧ 6 ≤ j) ∨ (109 ≤ a ∧ a ≤ 114) ∨ (a = 115 ∧ 8 ≤ j) ∨ (116 ≤ a ∧ a ≤ 123) ∨ (a = 124 ∧ j = 2) ∨ (125 ≤ a ∧ a ≤ 128) ∨ a = 130 ∨ a = 131 ∨ a = 133 ∨ a = 135 ∨ a = 137 ∨ a = 139 ∨ ((a = 132 ∨ a = 134 ∨ a = 136 ∨ a = 138) ∧ 1 ≤ j) ∨ (a = 180 ∧ (j = 1 ∨ j = 2 ∨ 5 ≤ j)) ∨ (181 ≤ a ∧ a ≤ 183) ∨ (a = 184 ∧ j = 6) ∨ (185 ≤ a ∧ a ≤ 190) ∨ (a = 191 ∧ 5 ≤ j) ∨ (192 ≤ a ∧ a ≤ 196) ∨ (a = 197 ∧ (j = 0 ∨ (4 ≤ j ∧ j ≤ 7) ∨ j = 13)) ∨ a = 198 ∨ (200 ≤ a ∧ a ≤ 211)
theorem Wok_ref : ∀ p ∈ rL, ¬ Wok p.1 p.2.1 := by
  intro p hp
  simp only [rL, List.mem_cons, List.not_mem_nil, or_false] at hp
  unfold Wok
  rcases hp with rfl | rfl | rfl | rfl | rfl | rfl | rfl | rfl | rfl | rfl | rfl | rfl | rfl | rfl | rfl | rfl | rfl | rfl | rfl | rfl | rfl | rfl | rfl | rfl | rfl | rfl | rfl | rfl | rfl | rfl | rfl | rfl | rfl | rfl | rfl | rfl | rfl | rfl | rfl | rfl | rfl | rfl | rfl | rfl | rfl | rfl | rfl | rfl | rfl | rfl | rfl | rfl | rfl | rfl | rfl | rfl | rfl | rfl | rfl | rfl | rfl | rfl | rfl | rfl | rfl | rfl | rfl | rfl | rfl | rfl | rfl | rfl | rfl | rfl | rfl | rfl | rfl | rfl | rfl | rfl | rfl | rfl | rfl | rfl | rfl | rfl | rfl | rfl | rfl | rfl | rfl | rfl | rfl | rfl | rfl | rfl | rfl | rfl | rfl | rfl | rfl | rfl | rfl | rfl | rfl | rfl | rfl | rfl | rfl | rfl | rfl | rfl | rfl | rfl | rfl | rfl <;> (dsimp only; decide)
theorem FrN.sh (F : FrN P h h1) (ok : ∀ a j, P a j → Wok a j) (S : Sh h) : Sh h1 := by
  refine ⟨fun k hk => ?_, fun p hp => ?_, by rw [F.nx]; exact S.2.2⟩
  · rw [F.tg, F.ln]; exact S.1 k hk
  · rw [F.2 _ _ (fun z => Wok_ref p hp (ok _ _ z))]; exact S.2.1 p hp
theorem FrN.keep (F : FrN P h h1) (ok : ∀ a j, P a j → Wok a j) : Keep h h1 := by
  refine ⟨by rw [F.nx]; omega, fun a _ => ⟨F.tg, F.ln⟩, fun a j _ hb _ => F.2 a j (fun z => ?_), F.2 _ _ (fun z => ?_), F.2 _ _ (fun z => ?_)⟩
  · have := ok _ _ z; unfold Wok at this; omega
  · have := ok _ _ z; unfold Wok at this; omega
  · have := ok _ _ z; unfold Wok at this; omega
theorem Inv.fr {k : Int} (I : Inv k h) (F : FrN P h h1) (ok : ∀ a j, P a j → Wok a j) (t : mv h 198 0 ≤ mv h1 198 0) (h3 : mv h1 198 3 ≤ 8) (R : RW (100000 * (k + 1)) 0 198 h1) : Inv (k + 1) h1 :=
  I.m (F.sh ok I.1) (F.keep ok) (I.2.1.keep (F.keep ok) (fun a g1 g2 => by rw [F.nx] at g2; omega)) (by rw [F.nx]; omega) (by rw [F.sl]; omega) t h3 R
def Scr (a j : Int) : Prop := Wok a j ∧ 180 ≤ a ∧ a ≠ 198
theorem Inv.sc {k : Int} (I : Inv k h) (F : FrN P h h1) (ok : ∀ a j, P a j → Scr a j) : Inv (k + 1) h1 := by
  refine I.q (F.sh (fun a j z => (ok a j z).1) I.1) (F.keep (fun a j z => (ok a j z).1)) F.nx F.sl ⟨fun a j g1 g2 => F.2 a j (fun z => ?_), fun j => F.2 198 j (fun z => ?_)⟩
  · have := (ok a j z).2; omega
  · have := (ok 198 j z).2; omega
end FRN
