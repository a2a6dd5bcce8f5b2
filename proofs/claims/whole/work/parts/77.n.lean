/-! PLACES, FUEL, TERMS -/
section POS
variable {F : Nat} {L : Int} {B fc : Int → Int} {S : Int → PR}
theorem rn_pos (hb : ∀ j : Int, 0 ≤ j → (B j = -1 ↔ L ≤ j)) {j : Int} (q : 0 ≤ j ∧ j ≤ L) : j ≤ (rnS B j).2 ∧ (rnS B j).2 ≤ L ∧ ((rnS B j).1 ≠ none → j < (rnS B j).2) := by
  have z0 := hb j q.1
  have z1 := hb (j + 1) (by omega)
  have z2 := hb (j + 2) (by omega)
  unfold rnS
  by_cases c0 : 48 ≤ B j ∧ B j ≤ 57
  · rw [if_pos c0]
    by_cases c1 : B j ≠ 48 ∧ 48 ≤ B (j + 1) ∧ B (j + 1) ≤ 57
    · rw [if_pos c1]
      by_cases c2 : 48 ≤ B (j + 2) ∧ B (j + 2) ≤ 57
      · rw [if_pos c2]
        exact ⟨by dsimp only; omega, by dsimp only; omega, fun _ => by dsimp only; omega⟩
      · rw [if_neg c2]
        exact ⟨by dsimp only; omega, by dsimp only; omega, fun _ => by dsimp only; omega⟩
    · rw [if_neg c1]
      exact ⟨by dsimp only; omega, by dsimp only; omega, fun _ => by dsimp only; omega⟩
  · rw [if_neg c0]
    exact ⟨by dsimp only; omega, q.2, fun z => absurd rfl z⟩
theorem cmp_pos (hb : ∀ j : Int, 0 ≤ j → (B j = -1 ↔ L ≤ j)) {j : Int} (q : 0 ≤ j ∧ j ≤ L) : pos L (cmpS B fc j) j := by
  have z0 := hb j q.1
  have z1 := hb (j + 1) (by omega)
  have z2 := hb (j + 2) (by omega)
  unfold cmpS
  by_cases c0 : facS (B j) = -1
  · rw [if_pos c0]; exact ⟨Int.le_refl _, q.2, fun y => absurd rfl y⟩
  · rw [if_neg c0]
    have jl : j < L := by have := facS_in c0; omega
    by_cases c5 : facS (B j) = 5
    · rw [if_pos c5]
      by_cases ce : B (j + 1) = 61
      · rw [if_pos ce]
        by_cases c2 : B (j + 2) = 48 ∨ B (j + 2) = 49
        · rw [if_pos c2]
          exact ⟨by dsimp only; omega, by dsimp only; omega, fun _ => by dsimp only; omega⟩
        · rw [if_neg c2]
          exact ⟨by dsimp only; omega, by dsimp only; omega, fun y => absurd rfl y⟩
      · rw [if_neg ce]
        exact ⟨by dsimp only; omega, by dsimp only; omega, fun y => absurd rfl y⟩
    · rw [if_neg c5]
      by_cases cs : B (j + 1) = 60 ∨ B (j + 1) = 62
      · rw [if_pos cs]
        obtain ⟨r1, r2, r3⟩ := rn_pos hb (j := j + 2) (by omega)
        generalize rnS B (j + 2) = R at r1 r2 r3
        obtain ⟨w, p⟩ := R
        cases w with
        | none => exact ⟨by dsimp only at r1 ⊢; omega, r2, fun y => absurd rfl y⟩
        | some v => exact ⟨by dsimp only at r1 ⊢; omega, r2, fun _ => by dsimp only at r1 ⊢; omega⟩
      · rw [if_neg cs]
        exact ⟨by dsimp only; omega, by dsimp only; omega, fun y => absurd rfl y⟩
theorem eit_pos (hb : ∀ j : Int, 0 ≤ j → (B j = -1 ↔ L ≤ j)) (hS : ∀ j : Int, 0 ≤ j ∧ j ≤ L → pos L (S j) j) : ∀ (f : Nat) (any all : Bool) (j : Int), 0 ≤ j ∧ j ≤ L → pos L (eitS B S f any all j) j
  | 0, any, all, j, q => ⟨Int.le_refl _, q.2, fun y => absurd rfl y⟩
  | f + 1, any, all, j, q => by
    have s := hS j q
    rw [eitS_s]
    generalize S j = R at s
    obtain ⟨w, p⟩ := R
    obtain ⟨s1, s2, s3⟩ := s
    dsimp only at s1 s2 s3
    have z := hb p (by omega)
    cases w with
    | none => exact ⟨s1, s2, fun y => absurd rfl y⟩
    | some v =>
      have s4 := s3 (by intro y; cases y)
      dsimp only
      by_cases c1 : B p = 38
      · rw [if_pos c1]
        obtain ⟨i1, i2, i3⟩ := eit_pos hb hS f any (all && v) (p + 1) (by omega)
        exact ⟨by omega, i2, fun y => by have := i3 y; omega⟩
      · rw [if_neg c1]
        by_cases c2 : B p = 124
        · rw [if_pos c2]
          obtain ⟨i1, i2, i3⟩ := eit_pos hb hS f (any || (all && v)) true (p + 1) (by omega)
          exact ⟨by omega, i2, fun y => by have := i3 y; omega⟩
        · rw [if_neg c2]
          exact ⟨s1, s2, fun _ => s4⟩
theorem sin_pos (hb : ∀ j : Int, 0 ≤ j → (B j = -1 ↔ L ≤ j)) : ∀ (r : Nat) (j : Int), 0 ≤ j ∧ j ≤ L → pos L (sinS B fc F r j) j
  | 0, j, q => by
    rw [sinS_0]
    by_cases c : B j = 33 ∨ B j = 40
    · rw [if_pos c]; exact ⟨Int.le_refl _, q.2, fun y => absurd rfl y⟩
    · rw [if_neg c]; exact cmp_pos hb q
  | r + 1, j, q => by
    have z := hb j q.1
    rw [sinS_s]
    by_cases c : B j = 33
    · rw [if_pos c]
      obtain ⟨s1, s2, s3⟩ := sin_pos hb r (j + 1) (by omega)
      generalize sinS B fc F r (j + 1) = R at s1 s2 s3
      obtain ⟨w, p⟩ := R
      dsimp only at s1 s2 s3
      cases w with
      | none => exact ⟨by dsimp only; omega, s2, fun y => absurd rfl y⟩
      | some v => exact ⟨by dsimp only; omega, s2, fun _ => by dsimp only; omega⟩
    · rw [if_neg c]
      by_cases c2 : B j = 40
      · rw [if_pos c2]
        obtain ⟨s1, s2, s3⟩ := eit_pos hb (fun j q => sin_pos hb r j q) F false true (j + 1) (by omega)
        have e : exF B fc F r (j + 1) = eitS B (sinS B fc F r) F false true (j + 1) := rfl
        rw [← e] at s1 s2 s3
        generalize exF B fc F r (j + 1) = R at s1 s2 s3
        obtain ⟨w, p⟩ := R
        dsimp only at s1 s2 s3
        cases w with
        | none => exact ⟨by dsimp only; omega, s2, fun y => absurd rfl y⟩
        | some v =>
          dsimp only
          have zp := hb p (by omega)
          by_cases c3 : B p = 41
          · rw [if_pos c3]; exact ⟨by dsimp only; omega, by dsimp only; omega, fun _ => by dsimp only; omega⟩
          · rw [if_neg c3]; exact ⟨by dsimp only; omega, s2, fun y => absurd rfl y⟩
      · rw [if_neg c2]; exact cmp_pos hb q
/-- the fuel doesn't matter -/
theorem eit_fuel (hb : ∀ j : Int, 0 ≤ j → (B j = -1 ↔ L ≤ j)) (hS : ∀ j : Int, 0 ≤ j ∧ j ≤ L → pos L (S j) j) : ∀ (f f' : Nat) (any all : Bool) (j : Int), 0 ≤ j ∧ j ≤ L → L - j < 2 * (f : Int) → L - j < 2 * (f' : Int) → eitS B S f any all j = eitS B S f' any all j
  | 0, f', any, all, j, q, q1, q2 => by omega
  | f + 1, 0, any, all, j, q, q1, q2 => by omega
  | f + 1, f' + 1, any, all, j, q, q1, q2 => by
    have s := hS j q
    rw [eitS_s, eitS_s]
    generalize S j = R at s
    obtain ⟨w, p⟩ := R
    obtain ⟨s1, s2, s3⟩ := s
    dsimp only at s1 s2 s3
    have z := hb p (by omega)
    cases w with
    | none => rfl
    | some v =>
      have s4 := s3 (by intro y; cases y)
      dsimp only
      by_cases c1 : B p = 38
      · rw [if_pos c1, if_pos c1]
        exact eit_fuel hb hS f f' any (all && v) (p + 1) (by omega) (by omega) (by omega)
      · rw [if_neg c1, if_neg c1]
        by_cases c2 : B p = 124
        · rw [if_pos c2, if_pos c2]
          exact eit_fuel hb hS f f' (any || (all && v)) true (p + 1) (by omega) (by omega) (by omega)
        · rw [if_neg c2, if_neg c2]
/-- a term: factors with & -/
def trS (B : Int → Int) (S : Int → PR) : Nat → Bool → Int → PR
  | 0, _, j => (none, j)
  | f + 1, all, j => match S j with
    | (none, p) => (none, p)
    | (some v, p) => if B p = 38 then trS B S f (all && v) (p + 1) else (some (all && v), p)
theorem trS_s {f : Nat} {all : Bool} {j : Int} : trS B S (f + 1) all j = match S j with
    | (none, p) => (none, p)
    | (some v, p) => if B p = 38 then trS B S f (all && v) (p + 1) else (some (all && v), p) := rfl
theorem tr_pos (hb : ∀ j : Int, 0 ≤ j → (B j = -1 ↔ L ≤ j)) (hS : ∀ j : Int, 0 ≤ j ∧ j ≤ L → pos L (S j) j) : ∀ (f : Nat) (all : Bool) (j : Int), 0 ≤ j ∧ j ≤ L → pos L (trS B S f all j) j ∧ ((trS B S f all j).1 ≠ none → B (trS B S f all j).2 ≠ 38)
  | 0, all, j, q => ⟨⟨Int.le_refl _, q.2, fun y => absurd rfl y⟩, fun y => absurd rfl y⟩
  | f + 1, all, j, q => by
    have s := hS j q
    rw [trS_s]
    generalize S j = R at s
    obtain ⟨w, p⟩ := R
    obtain ⟨s1, s2, s3⟩ := s
    dsimp only at s1 s2 s3
    have z := hb p (by omega)
    cases w with
    | none => exact ⟨⟨s1, s2, fun y => absurd rfl y⟩, fun y => absurd rfl y⟩
    | some v =>
      have s4 := s3 (by intro y; cases y)
      dsimp only
      by_cases c1 : B p = 38
      · rw [if_pos c1]
        obtain ⟨⟨i1, i2, i3⟩, i4⟩ := tr_pos hb hS f (all && v) (p + 1) (by omega)
        exact ⟨⟨by omega, i2, fun y => by have := i3 y; omega⟩, i4⟩
      · rw [if_neg c1]
        exact ⟨⟨s1, s2, fun _ => s4⟩, fun _ => c1⟩
theorem eit_tr (hb : ∀ j : Int, 0 ≤ j → (B j = -1 ↔ L ≤ j)) (hS : ∀ j : Int, 0 ≤ j ∧ j ≤ L → pos L (S j) j) : ∀ (f f2 f3 : Nat) (any all : Bool) (j : Int), 0 ≤ j ∧ j ≤ L → L - j < 2 * (f : Int) → L - j < 2 * (f2 : Int) → L - j < 2 * (f3 : Int) + 2 → eitS B S f any all j = match trS B S f2 all j with
    | (none, p) => (none, p)
    | (some t, p) => if B p = 124 then eitS B S f3 (any || t) true (p + 1) else (some (any || t), p)
  | 0, f2, f3, any, all, j, q, q1, q2, q3 => by omega
  | f + 1, 0, f3, any, all, j, q, q1, q2, q3 => by omega
  | f + 1, f2 + 1, f3, any, all, j, q, q1, q2, q3 => by
    have s := hS j q
    rw [eitS_s, trS_s]
    generalize S j = R at s
    obtain ⟨w, p⟩ := R
    obtain ⟨s1, s2, s3⟩ := s
    dsimp only at s1 s2 s3
    have z := hb p (by omega)
    cases w with
    | none => rfl
    | some v =>
      have s4 := s3 (by intro y; cases y)
      dsimp only
      by_cases c1 : B p = 38
      · rw [if_pos c1, if_pos c1]
        exact eit_tr hb hS f f2 f3 any (all && v) (p + 1) (by omega) (by omega) (by omega) (by omega)
      · rw [if_neg c1, if_neg c1]
        dsimp only
        by_cases c2 : B p = 124
        · rw [if_pos c2, if_pos c2]
          exact eit_fuel hb hS f f3 (any || (all && v)) true (p + 1) (by omega) (by omega) (by omega)
        · rw [if_neg c2, if_neg c2]
end POS
