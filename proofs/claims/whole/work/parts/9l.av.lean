/-! MIDNIGHT: orders of jobs, as pure numbers -/
def rmv (f : Int → Bool) (j : Int) : Int → Bool := fun i => f i && !decide (i = j)
def szF (f : Int → Bool) : Int := sumI (fun i => if f i = true then 1 else 0) 7
def smF (A : Int → Int) (f : Int → Bool) : Int := sumI (fun i => if f i = true then A i else 0) 7
def j7 (j : Int) : Prop := 0 ≤ j ∧ j < 7
def PFk (A B : Int → Int) : Nat → Int → Int → (Int → Bool) → Int → Prop
  | 0, _, p, _, h => p ≤ h
  | k + 1, s, p, f, h => ∃ j, j7 j ∧ f j = true ∧ PFk A B k (s + A j) (jmax (s + A j) p + B j) (rmv f j) h
def PBk (A B : Int → Int) : Nat → Int → Int → (Int → Bool) → Int → Prop
  | 0, _, p, _, h => p ≤ h
  | k + 1, s, p, f, h => ∃ j, j7 j ∧ f j = true ∧ s + smF A f + B j ≤ h ∧ PBk A B k s p (rmv f j) (h - B j)
section MID
variable {A B : Int → Int} {f F : Int → Bool} {i j s p h v w : Int}
theorem jmax_l (x y : Int) : x ≤ jmax x y ∧ y ≤ jmax x y ∧ (jmax x y = x ∨ jmax x y = y) := by unfold jmax; split <;> omega
theorem rmv_o (q : i ≠ j) : rmv f j i = f i := by unfold rmv; rw [decide_eq_false q]; cases f i <;> rfl
theorem rmv_s : rmv f j j = false := by unfold rmv; rw [decide_eq_true rfl]; cases f j <;> rfl
theorem rmv_t (q : rmv f j i = true) : f i = true ∧ i ≠ j := by
  by_cases c : i = j
  · subst c; rw [rmv_s] at q; exact absurd q (by decide)
  · rw [rmv_o c] at q; exact ⟨q, c⟩
theorem rmv_sw : rmv (rmv f i) j = rmv (rmv f j) i := by
  funext x
  unfold rmv
  cases f x <;> cases decide (x = i) <;> cases decide (x = j) <;> rfl
theorem szF_r (j0 : j7 j) (q : f j = true) : szF (rmv f j) = szF f - 1 := by
  have z := sumI_upd (f := fun i => if f i = true then 1 else 0) (g := fun i => if rmv f j i = true then 1 else 0) (a := j) (k := 7) j0.1 (by have := j0.2; omega) (fun i _ _ n => by
    show (if rmv f j i = true then (1 : Int) else 0) = _
    rw [rmv_o n])
  rw [rmv_s, if_pos q, if_neg (by decide)] at z
  unfold szF
  omega
theorem smF_r (j0 : j7 j) (q : f j = true) : smF A (rmv f j) = smF A f - A j := by
  have z := sumI_upd (f := fun i => if f i = true then A i else 0) (g := fun i => if rmv f j i = true then A i else 0) (a := j) (k := 7) j0.1 (by have := j0.2; omega) (fun i _ _ n => by
    show (if rmv f j i = true then A i else 0) = _
    rw [rmv_o n])
  rw [rmv_s, if_pos q, if_neg (by decide)] at z
  unfold smF
  omega
theorem szF_0 (q : szF f = 0) (j0 : j7 j) : f j = false := by
  cases c : f j with
  | false => rfl
  | true =>
    have z := szF_r j0 c
    have y : 0 ≤ szF (rmv f j) := sumI_nn (fun i _ _ => by
      show 0 ≤ (if rmv f j i = true then (1 : Int) else 0)
      split <;> omega)
    omega
theorem smF_0 (q : szF f = 0) : smF A f = 0 := sumI_zero (fun i i0 i1 => by
  show (if f i = true then A i else 0) = 0
  rw [szF_0 q (j := i) ⟨i0, i1⟩]; rfl)
theorem szF_nn : 0 ≤ szF f := sumI_nn (fun i _ _ => by
  show 0 ≤ (if f i = true then (1 : Int) else 0)
  split <;> omega)
theorem PFB : ∀ k : Nat, (∀ (s p h : Int) (f : Int → Bool), szF f = (k : Int) → (PFk A B k s p f h ↔ PBk A B k s p f h)) ∧ ∀ (s p h : Int) (f : Int → Bool), szF f = ((k + 1 : Nat) : Int) → (PFk A B (k + 1) s p f h ↔ PBk A B (k + 1) s p f h)
  | 0 => by
    refine ⟨fun _ _ _ _ _ => Iff.rfl, fun s p h f z => ⟨fun q => ?_, fun q => ?_⟩⟩
    · obtain ⟨j, j0, fj, e⟩ := q
      have e' : jmax (s + A j) p + B j ≤ h := e
      have sm := smF_r (A := A) j0 fj
      rw [smF_0 (by rw [szF_r j0 fj]; omega)] at sm
      have jm := jmax_l (s + A j) p
      refine ⟨j, j0, fj, by omega, ?_⟩
      show p ≤ h - B j
      omega
    · obtain ⟨j, j0, fj, e, e2⟩ := q
      have e2' : p ≤ h - B j := e2
      have sm := smF_r (A := A) j0 fj
      rw [smF_0 (by rw [szF_r j0 fj]; omega)] at sm
      have jm := jmax_l (s + A j) p
      refine ⟨j, j0, fj, ?_⟩
      show jmax (s + A j) p + B j ≤ h
      omega
  | k + 1 => by
    obtain ⟨ih0, ih1⟩ := PFB k
    refine ⟨ih1, fun s p h f z => ⟨fun q => ?_, fun q => ?_⟩⟩
    · obtain ⟨i, i0, fi, e⟩ := q
      have zi := szF_r i0 fi
      obtain ⟨j, j0, fj, e1, e2⟩ := (ih1 _ _ _ _ (by omega)).mp e
      have zj := szF_r j0 fj
      have e3 := (ih0 _ _ _ _ (by omega)).mpr e2
      obtain ⟨fj1, ji⟩ := rmv_t fj
      have si := smF_r (A := A) i0 fi
      refine ⟨j, j0, fj1, by omega, (ih1 _ _ _ _ (by rw [szF_r j0 fj1]; omega)).mp ⟨i, i0, by rw [rmv_o (fun y => ji y.symm)]; exact fi, ?_⟩⟩
      rw [rmv_sw]; exact e3
    · obtain ⟨j, j0, fj, e1, e2⟩ := q
      have zj := szF_r j0 fj
      obtain ⟨i, i0, fi, e3⟩ := (ih1 _ _ _ _ (by omega)).mpr e2
      have zi := szF_r i0 fi
      have e4 := (ih0 _ _ _ _ (by omega)).mp e3
      obtain ⟨fi1, ij⟩ := rmv_t fi
      have si := smF_r (A := A) i0 fi1
      refine ⟨i, i0, fi1, (ih1 _ _ _ _ (by rw [szF_r i0 fi1]; omega)).mpr ⟨j, j0, by rw [rmv_o (fun y => ij y.symm)]; exact fj, by omega, ?_⟩⟩
      rw [rmv_sw]; exact e4
def sbF (f F : Int → Bool) : Prop := ∀ i : Int, j7 i → f i = true → F i = true
/-- the most that can still be printed -/
def IsM (A B : Int → Int) (h : Int) (F : Int → Bool) (s p v : Int) : Prop := (∃ (k : Nat) (f : Int → Bool), (k : Int) = v ∧ sbF f F ∧ szF f = (k : Int) ∧ PFk A B k s p f h) ∧ ∀ (k : Nat) (f : Int → Bool), sbF f F → szF f = (k : Int) → PFk A B k s p f h → (k : Int) ≤ v
theorem IsM.nn (M : IsM A B h F s p v) : 0 ≤ v := by
  obtain ⟨k, f, e, -⟩ := M.1
  omega
theorem IsM.u (M : IsM A B h F s p v) (M' : IsM A B h F s p w) : v = w := by
  obtain ⟨k, f, e, a, b, c⟩ := M.1
  obtain ⟨k', f', e', a', b', c'⟩ := M'.1
  have x := M.2 k' f' a' b' c'
  have y := M'.2 k f a b c
  omega
theorem PFk_ge (hB : ∀ j : Int, j7 j → F j = true → 0 ≤ B j) : ∀ (k : Nat) (s p : Int) (f : Int → Bool), sbF f F → PFk A B k s p f h → p ≤ h
  | 0, s, p, f, sb, q => q
  | k + 1, s, p, f, sb, q => by
    obtain ⟨j, j0, fj, e⟩ := q
    have z := PFk_ge hB k _ _ (rmv f j) (fun i i0 q => sb i i0 (rmv_t q).1) e
    have jm := jmax_l (s + A j) p
    have := hB j j0 (sb j j0 fj)
    omega
theorem IsM.ge (hB : ∀ j : Int, j7 j → F j = true → 0 ≤ B j) (M : IsM A B h F s p v) : p ≤ h := by
  obtain ⟨k, f, e, a, b, c⟩ := M.1
  exact PFk_ge hB k s p f a c
def eoj (A B : Int → Int) (s p j : Int) : Int := jmax (s + A j) p + B j
/-- the most over the jobs before t as the next -/
def MJ (A B : Int → Int) (h : Int) (F : Int → Bool) (s p t v : Int) : Prop := (v = 0 ∨ ∃ j, j7 j ∧ j < t ∧ F j = true ∧ IsM A B h (rmv F j) (s + A j) (eoj A B s p j) (v - 1)) ∧ ∀ j w : Int, j7 j → j < t → F j = true → IsM A B h (rmv F j) (s + A j) (eoj A B s p j) w → w + 1 ≤ v
def emF : Int → Bool := fun _ => false
theorem szF_e : szF emF = 0 := sumI_zero (fun i _ _ => if_neg (fun q => Bool.noConfusion (show false = true from q)))
/-- putting a job in -/
def ins (f : Int → Bool) (j : Int) : Int → Bool := fun i => f i || decide (i = j)
theorem ins_r (q : f j = false) : rmv (ins f j) j = f := by
  funext x
  unfold rmv ins
  by_cases c : x = j
  · subst c; rw [q, decide_eq_true rfl]; rfl
  · rw [decide_eq_false c]; cases f x <;> rfl
theorem ins_s : ins f j j = true := by unfold ins; rw [decide_eq_true rfl]; cases f j <;> rfl
theorem IsM_MJ (hB : ∀ j : Int, j7 j → F j = true → 0 ≤ B j) (hp : p ≤ h) (ex : ∀ j : Int, j7 j → F j = true → eoj A B s p j ≤ h → ∃ w, IsM A B h (rmv F j) (s + A j) (eoj A B s p j) w) {t : Int} (ht : ∀ j : Int, j7 j → F j = true → j < t) (M : MJ A B h F s p t v) (v0 : 0 ≤ v) : IsM A B h F s p v := by
  refine ⟨?_, fun k f sb sz q => ?_⟩
  · rcases M.1 with e | ⟨j, j0, jt, Fj, W⟩
    · exact ⟨0, emF, by omega, (fun i _ q => Bool.noConfusion (show false = true from q)), szF_e, hp⟩
    · obtain ⟨k, f, e, sb, sz, q⟩ := W.1
      have fj : f j = false := by
        cases c : f j with
        | false => rfl
        | true => have := (rmv_t (sb j j0 c)).2; exact absurd rfl this
      have e1 : szF (ins f j) = (k : Int) + 1 := by
        have z := szF_r (f := ins f j) j0 ins_s
        rw [ins_r fj] at z; omega
      refine ⟨k + 1, ins f j, by omega, fun i i0 q' => ?_, by rw [e1]; omega, ⟨j, j0, ins_s, by rw [ins_r fj]; exact q⟩⟩
      by_cases c : i = j
      · subst c; exact Fj
      · have : f i = true := by
          unfold ins at q'; rw [decide_eq_false c] at q'
          cases d : f i with
          | false => rw [d] at q'; exact absurd q' (by decide)
          | true => rfl
        exact (rmv_t (sb i i0 this)).1
  · cases k with
    | zero => omega
    | succ k =>
      obtain ⟨j, j0, fj, q'⟩ := q
      have Fj := sb j j0 fj
      have sb' : sbF (rmv f j) (rmv F j) := fun i i0 r => by
        have := rmv_t r
        rw [rmv_o this.2]; exact sb i i0 this.1
      have ge := PFk_ge (F := rmv F j) (fun i i0 r => hB i i0 (rmv_t r).1) k _ _ _ sb' q'
      obtain ⟨w, W⟩ := ex j j0 Fj ge
      have z := M.2 j w j0 (ht j j0 Fj) Fj W
      have y := W.2 k (rmv f j) sb' (by rw [szF_r j0 fj]; omega) q'
      omega
/-- the least order of v jobs from o on in W -/
def OptW (A B : Int → Int) (h : Int) : Nat → (Int → Bool) → Int → Int → (Int → Int) → Int → Prop
  | 0, _, _, _, _, _ => True
  | v + 1, F, s, p, W, o => j7 (W o) ∧ F (W o) = true ∧ IsM A B h (rmv F (W o)) (s + A (W o)) (eoj A B s p (W o)) (v : Int) ∧ (∀ i w : Int, j7 i → i < W o → F i = true → IsM A B h (rmv F i) (s + A i) (eoj A B s p i) w → w < (v : Int)) ∧ OptW A B h v (rmv F (W o)) (s + A (W o)) (eoj A B s p (W o)) W (o + 1)
theorem OptW_u : ∀ (v : Nat) (F : Int → Bool) (s p : Int) (W W' : Int → Int) (o o' : Int), OptW A B h v F s p W o → OptW A B h v F s p W' o' → ∀ i : Int, 0 ≤ i → i < (v : Int) → W (o + i) = W' (o' + i)
  | 0, F, s, p, W, W', o, o', a, b, i, i0, i1 => by omega
  | v + 1, F, s, p, W, W', o, o', a, b, i, i0, i1 => by
    obtain ⟨a1, a2, a3, a4, a5⟩ := a
    obtain ⟨b1, b2, b3, b4, b5⟩ := b
    have e : W o = W' o' := by
      by_cases c : W o < W' o'
      · have := b4 (W o) (v : Int) a1 c a2 a3; omega
      · by_cases d : W' o' < W o
        · have := a4 (W' o') (v : Int) b1 d b2 b3; omega
        · omega
    by_cases c : i = 0
    · subst c
      rw [Int.add_zero, Int.add_zero]; exact e
    · rw [← e] at b5
      have z := OptW_u v _ _ _ W W' (o + 1) (o' + 1) a5 b5 (i - 1) (by omega) (by omega)
      rw [show o + 1 + (i - 1) = o + i by omega, show o' + 1 + (i - 1) = o' + i by omega] at z
      exact z
theorem OptW_c : ∀ (v : Nat) (F : Int → Bool) (s p : Int) (W W' : Int → Int) (o : Int), (∀ i : Int, o ≤ i → i < o + v → W' i = W i) → OptW A B h v F s p W o → OptW A B h v F s p W' o
  | 0, F, s, p, W, W', o, q, a => trivial
  | v + 1, F, s, p, W, W', o, q, a => by
    obtain ⟨a1, a2, a3, a4, a5⟩ := a
    have e := q o (Int.le_refl _) (by omega)
    unfold OptW
    rw [e]
    exact ⟨a1, a2, a3, a4, OptW_c v _ _ _ W W' (o + 1) (fun i i0 i1 => q i (by omega) (by omega)) a5⟩
end MID
