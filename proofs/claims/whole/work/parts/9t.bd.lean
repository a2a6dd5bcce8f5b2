/-! WORDS OF ORDERS: the model reads a word -/
section OWD
variable {n : Nat} {g : MM} {w j o L a i M x : Int} {B fc : Int → Int}
theorem ow_s (hn : 10000000 ≤ n) (T : StI g) (b : MB g a L B fc) (q : 0 ≤ j ∧ j ≤ L) (hM : 0 ≤ M ∧ M ≤ 127) (hi : 0 ≤ i ∧ i ≤ 7) (m : Nat) : f_X12_oneWord_5 n 197 (m + 1) M i (WW g j 0 o) = if lfS M i (B j) 7 0 0 = 0 then some (0, WW g j 1 o) else if ohS (lfS M i (B j) 7 0 0) (i + 1) 7 0 = -1 then f_X12_oneWord_5 n 197 m (lfS M i (B j) 7 0 0) (i + 1) (WW g (j + 1) 0 o) else some (ohS (lfS M i (B j) 7 0 0) (i + 1) 7 0, WW g (j + 1) 0 o) := by
  have e : f_X12_oneWord_5 n 197 (m + 1) M i (WW g j 0 o) = f_X12_oneWord_10 n (f_X12_oneWord_5 n 197 m) 197 M i n 0 0 (WW g j 0 o) := rfl
  have t := ten_l (n := n) (o := o) (Q := f_X12_oneWord_5 n 197 m) T b q hM (i := i) ⟨hi.1, by omega⟩ n 7 0 0 rfl (by omega)
  have T' : StI (WW g (j + 1) 0 o) := WWi b.1 T
  have u := oh_l (n := n) (g := WW g (j + 1) 0 o) (Q := f_X12_oneWord_5 n 197 m) (M := lfS M i (B j) 7 0 0) (i := i + 1) T' n 7 0 rfl (by omega)
  rw [e]
  refine t.trans ?_
  by_cases c : lfS M i (B j) 7 0 0 = 0
  · rw [if_pos c, if_pos c]
  · rw [if_neg c, if_neg c]
    exact u
theorem one_l (hn : 10000000 ≤ n) (T : StI g) (hw : 0 ≤ w ∧ w < 7) (b : MB g a L B fc) : ∀ (r m i : Nat) (j : Int), 0 ≤ j ∧ j ≤ L → (i : Int) + (r : Int) = wln w → 1 ≤ r → r ≤ m → f_X12_oneWord_5 n 197 m (shl 1 w) (i : Int) (WW g j 0 o) = if (i : Int) + fit B ((wrdL.getD w.toNat []).drop i) j = wln w then some (w, WW g (j + fit B ((wrdL.getD w.toNat []).drop i) j) 0 o) else some (0, WW g (j + fit B ((wrdL.getD w.toNat []).drop i) j) 1 o)
  | 0, m, i, j, q, e, r1, r2 => by omega
  | r + 1, 0, i, j, q, e, r1, r2 => by omega
  | r + 1, m + 1, i, j, q, e, r1, r2 => by
    have wb := wln_bd hw
    have z := b.bd q.1
    have sb := shl_bd hw
    have dr := fit_drop (B := B) (j := j) (wrdL.getD w.toNat []) i (by have : wln w = ((wrdL.getD w.toNat []).length : Int) := rfl; omega)
    have wd : wch w (i : Int) = (wrdL.getD w.toNat []).getD i 0 := by unfold wch; rw [Int.toNat_natCast]
    rw [← wd] at dr
    rw [ow_s hn T b q (by omega) (by omega) m, lf_1' hw (by omega) ⟨z.1, z.2.1⟩]
    by_cases c : B j = wch w (i : Int)
    · rw [if_pos c] at dr
      have cb := wch_bd hw (j := (i : Int)) (by omega)
      rw [if_pos c, if_neg (by omega), oh_1' hw (by omega)]
      by_cases d : wln w = (i : Int) + 1
      · have dn : (wrdL.getD w.toNat []).drop (i + 1) = [] := List.drop_of_length_le (by have : wln w = ((wrdL.getD w.toNat []).length : Int) := rfl; omega)
        rw [dn, fit_nil] at dr
        rw [if_pos d, if_neg (by omega), dr, if_pos (by omega), show j + (0 + 1) = j + 1 by omega]
      · rw [if_neg d, if_pos rfl]
        have ih := one_l hn T hw b r m (i + 1) (j + 1) (by omega) (by omega) (by omega) (by omega)
        rw [show ((i + 1 : Nat) : Int) = (i : Int) + 1 by omega] at ih
        rw [ih, dr]
        generalize fit B ((wrdL.getD w.toNat []).drop (i + 1)) (j + 1) = f
        rw [show (i : Int) + 1 + f = (i : Int) + (f + 1) by omega, show j + 1 + f = j + (f + 1) by omega]
    · rw [if_neg c] at dr
      rw [if_neg c, if_pos rfl, dr, if_neg (by omega), show j + 0 = j by omega]
def OWR (g : MM) (o : Int) (R : Int × Int) : RR := if R.1 = -1 then some (0, WW g R.2 1 o) else some (R.1, WW g R.2 0 o)
theorem owr_one {R : Int × Int} {f : Int} (hw : 0 ≤ w ∧ w < 7) (q : R = if f = wln w then (w, j + f) else (-1, j + f)) : OWR g o R = if f = wln w then some (w, WW g (j + f) 0 o) else some (0, WW g (j + f) 1 o) := by
  subst q
  unfold OWR
  by_cases c : f = wln w
  · rw [if_pos c, if_pos c]
    rw [if_neg (by dsimp only; omega)]
  · rw [if_neg c, if_neg c]
    rw [if_pos rfl]
theorem fit_0 {j : Int} : fit B (wrdL.getD 0 []) j = (if B j = 115 then (if B (j + 1) = 108 then fit B ((wrdL.getD 0 []).drop 2) (j + 1 + 1) + 1 else 0) + 1 else 0) := rfl
theorem fit_1 {j : Int} : fit B (wrdL.getD 1 []) j = (if B j = 99 then (if B (j + 1) = 108 then fit B ((wrdL.getD 1 []).drop 2) (j + 1 + 1) + 1 else 0) + 1 else 0) := rfl
theorem fit_2 {j : Int} : fit B (wrdL.getD 2 []) j = (if B j = 115 then (if B (j + 1) = 116 then fit B ((wrdL.getD 2 []).drop 2) (j + 1 + 1) + 1 else 0) + 1 else 0) := rfl
theorem fit_3 {j : Int} : fit B (wrdL.getD 3 []) j = (if B j = 99 then (if B (j + 1) = 97 then fit B ((wrdL.getD 3 []).drop 2) (j + 1 + 1) + 1 else 0) + 1 else 0) := rfl
theorem fit_4 {j : Int} : fit B (wrdL.getD 4 []) j = (if B j = 103 then fit B ((wrdL.getD 4 []).drop 1) (j + 1) + 1 else 0) := rfl
theorem fit_5 {j : Int} : fit B (wrdL.getD 5 []) j = (if B j = 112 then fit B ((wrdL.getD 5 []).drop 1) (j + 1) + 1 else 0) := rfl
theorem fit_6 {j : Int} : fit B (wrdL.getD 6 []) j = (if B j = 108 then fit B ((wrdL.getD 6 []).drop 1) (j + 1) + 1 else 0) := rfl
theorem w7_n {a0 a1 a2 a3 a4 a5 a6 m : Int} (h : 0 ≤ a0 ∧ 0 ≤ a1 ∧ 0 ≤ a2 ∧ 0 ≤ a3 ∧ 0 ≤ a4 ∧ 0 ≤ a5 ∧ 0 ≤ a6) (k : a0 ≤ m ∧ a1 ≤ m ∧ a2 ≤ m ∧ a3 ≤ m ∧ a4 ≤ m ∧ a5 ≤ m ∧ a6 ≤ m) (e : a0 = m ∨ a1 = m ∨ a2 = m ∨ a3 = m ∨ a4 = m ∨ a5 = m ∨ a6 = m) : jmax (jmax (jmax (jmax (jmax (jmax (jmax 0 a0) a1) a2) a3) a4) a5) a6 = m := by
  obtain ⟨x1, h1⟩ : ∃ x, x = jmax 0 a0 := ⟨_, rfl⟩
  obtain ⟨x2, h2⟩ : ∃ x, x = jmax x1 a1 := ⟨_, rfl⟩
  obtain ⟨x3, h3⟩ : ∃ x, x = jmax x2 a2 := ⟨_, rfl⟩
  obtain ⟨x4, h4⟩ : ∃ x, x = jmax x3 a3 := ⟨_, rfl⟩
  obtain ⟨x5, h5⟩ : ∃ x, x = jmax x4 a4 := ⟨_, rfl⟩
  obtain ⟨x6, h6⟩ : ∃ x, x = jmax x5 a5 := ⟨_, rfl⟩
  obtain ⟨x7, h7⟩ : ∃ x, x = jmax x6 a6 := ⟨_, rfl⟩
  rw [← h1, ← h2, ← h3, ← h4, ← h5, ← h6, ← h7]
  have l1 := jmax_l 0 a0
  have l2 := jmax_l x1 a1
  have l3 := jmax_l x2 a2
  have l4 := jmax_l x3 a3
  have l5 := jmax_l x4 a4
  have l6 := jmax_l x5 a5
  have l7 := jmax_l x6 a6
  rw [← h1] at l1
  rw [← h2] at l2
  rw [← h3] at l3
  rw [← h4] at l4
  rw [← h5] at l5
  rw [← h6] at l6
  rw [← h7] at l7
  omega
/-- all the words that don't fit -/
theorem W7_z {a0 a1 a2 a3 a4 a5 a6 f : Int} (w : Nat) (hw : w < 7) (k : 0 ≤ f ∧ f ≤ wln (w : Int)) (h : ∀ i : Nat, i < 7 → i ≠ w → 0 ≤ [a0, a1, a2, a3, a4, a5, a6].getD i 0 ∧ [a0, a1, a2, a3, a4, a5, a6].getD i 0 ≤ 1 ∧ [a0, a1, a2, a3, a4, a5, a6].getD i 0 ≤ f) (e : [a0, a1, a2, a3, a4, a5, a6].getD w 0 = f) : W7 j a0 a1 a2 a3 a4 a5 a6 = if f = wln (w : Int) then ((w : Int), j + f) else (-1, j + f) := by
  have v0 : wln (((0 : Nat) : Int)) = 6 := by decide
  have v1 : wln (((1 : Nat) : Int)) = 6 := by decide
  have v2 : wln (((2 : Nat) : Int)) = 7 := by decide
  have v3 : wln (((3 : Nat) : Int)) = 5 := by decide
  have v4 : wln (((4 : Nat) : Int)) = 4 := by decide
  have v5 : wln (((5 : Nat) : Int)) = 5 := by decide
  have v6 : wln (((6 : Nat) : Int)) = 4 := by decide
  have h0 := h 0 (by omega)
  have h1 := h 1 (by omega)
  have h2 := h 2 (by omega)
  have h3 := h 3 (by omega)
  have h4 := h 4 (by omega)
  have h5 := h 5 (by omega)
  have h6 := h 6 (by omega)
  simp only [List.getD_cons_zero, List.getD_cons_succ] at h0 h1 h2 h3 h4 h5 h6
  clear h
  have wb := wln_bd (w := (w : Int)) (by omega)
  unfold W7
  rcases (show w = 0 ∨ w = 1 ∨ w = 2 ∨ w = 3 ∨ w = 4 ∨ w = 5 ∨ w = 6 by omega) with rfl | rfl | rfl | rfl | rfl | rfl | rfl
  · simp only [List.getD_cons_zero, List.getD_cons_succ] at e
    rw [v0] at k wb ⊢
    have h1 := h1 (by decide); have h2 := h2 (by decide); have h3 := h3 (by decide); have h4 := h4 (by decide); have h5 := h5 (by decide); have h6 := h6 (by decide)
    clear h0
    by_cases c : f = 6
    · rw [if_pos (by omega), if_pos c, e]; rfl
    · rw [if_neg (by omega), if_neg (by omega), if_neg (by omega), if_neg (by omega), if_neg (by omega), if_neg (by omega), if_neg (by omega), if_neg c, w7_n (m := f) (by omega) (by omega) (by omega)]
  · simp only [List.getD_cons_zero, List.getD_cons_succ] at e
    rw [v1] at k wb ⊢
    have h0 := h0 (by decide); have h2 := h2 (by decide); have h3 := h3 (by decide); have h4 := h4 (by decide); have h5 := h5 (by decide); have h6 := h6 (by decide)
    clear h1
    by_cases c : f = 6
    · rw [if_neg (by omega), if_pos (by omega), if_pos c, e]; rfl
    · rw [if_neg (by omega), if_neg (by omega), if_neg (by omega), if_neg (by omega), if_neg (by omega), if_neg (by omega), if_neg (by omega), if_neg c, w7_n (m := f) (by omega) (by omega) (by omega)]
  · simp only [List.getD_cons_zero, List.getD_cons_succ] at e
    rw [v2] at k wb ⊢
    have h0 := h0 (by decide); have h1 := h1 (by decide); have h3 := h3 (by decide); have h4 := h4 (by decide); have h5 := h5 (by decide); have h6 := h6 (by decide)
    clear h2
    by_cases c : f = 7
    · rw [if_neg (by omega), if_neg (by omega), if_pos (by omega), if_pos c, e]; rfl
    · rw [if_neg (by omega), if_neg (by omega), if_neg (by omega), if_neg (by omega), if_neg (by omega), if_neg (by omega), if_neg (by omega), if_neg c, w7_n (m := f) (by omega) (by omega) (by omega)]
  · simp only [List.getD_cons_zero, List.getD_cons_succ] at e
    rw [v3] at k wb ⊢
    have h0 := h0 (by decide); have h1 := h1 (by decide); have h2 := h2 (by decide); have h4 := h4 (by decide); have h5 := h5 (by decide); have h6 := h6 (by decide)
    clear h3
    by_cases c : f = 5
    · rw [if_neg (by omega), if_neg (by omega), if_neg (by omega), if_pos (by omega), if_pos c, e]; rfl
    · rw [if_neg (by omega), if_neg (by omega), if_neg (by omega), if_neg (by omega), if_neg (by omega), if_neg (by omega), if_neg (by omega), if_neg c, w7_n (m := f) (by omega) (by omega) (by omega)]
  · simp only [List.getD_cons_zero, List.getD_cons_succ] at e
    rw [v4] at k wb ⊢
    have h0 := h0 (by decide); have h1 := h1 (by decide); have h2 := h2 (by decide); have h3 := h3 (by decide); have h5 := h5 (by decide); have h6 := h6 (by decide)
    clear h4
    by_cases c : f = 4
    · rw [if_neg (by omega), if_neg (by omega), if_neg (by omega), if_neg (by omega), if_pos (by omega), if_pos c, e]; rfl
    · rw [if_neg (by omega), if_neg (by omega), if_neg (by omega), if_neg (by omega), if_neg (by omega), if_neg (by omega), if_neg (by omega), if_neg c, w7_n (m := f) (by omega) (by omega) (by omega)]
  · simp only [List.getD_cons_zero, List.getD_cons_succ] at e
    rw [v5] at k wb ⊢
    have h0 := h0 (by decide); have h1 := h1 (by decide); have h2 := h2 (by decide); have h3 := h3 (by decide); have h4 := h4 (by decide); have h6 := h6 (by decide)
    clear h5
    by_cases c : f = 5
    · rw [if_neg (by omega), if_neg (by omega), if_neg (by omega), if_neg (by omega), if_neg (by omega), if_pos (by omega), if_pos c, e]; rfl
    · rw [if_neg (by omega), if_neg (by omega), if_neg (by omega), if_neg (by omega), if_neg (by omega), if_neg (by omega), if_neg (by omega), if_neg c, w7_n (m := f) (by omega) (by omega) (by omega)]
  · simp only [List.getD_cons_zero, List.getD_cons_succ] at e
    rw [v6] at k wb ⊢
    have h0 := h0 (by decide); have h1 := h1 (by decide); have h2 := h2 (by decide); have h3 := h3 (by decide); have h4 := h4 (by decide); have h5 := h5 (by decide)
    clear h6
    by_cases c : f = 4
    · rw [if_neg (by omega), if_neg (by omega), if_neg (by omega), if_neg (by omega), if_neg (by omega), if_neg (by omega), if_pos (by omega), if_pos c, e]; rfl
    · rw [if_neg (by omega), if_neg (by omega), if_neg (by omega), if_neg (by omega), if_neg (by omega), if_neg (by omega), if_neg (by omega), if_neg c, w7_n (m := f) (by omega) (by omega) (by omega)]
theorem fin_w {X : RR} {a0 a1 a2 a3 a4 a5 a6 f : Int} (w : Nat) (hw : w < 7) (i : Int) (x : X = if i + f = wln (w : Int) then some ((w : Int), WW g (j + i + f) 0 o) else some (0, WW g (j + i + f) 1 o)) (k : 0 ≤ i + f ∧ i + f ≤ wln (w : Int)) (h : ∀ i' : Nat, i' < 7 → i' ≠ w → 0 ≤ [a0, a1, a2, a3, a4, a5, a6].getD i' 0 ∧ [a0, a1, a2, a3, a4, a5, a6].getD i' 0 ≤ 1 ∧ [a0, a1, a2, a3, a4, a5, a6].getD i' 0 ≤ i + f) (e : [a0, a1, a2, a3, a4, a5, a6].getD w 0 = i + f) : X = OWR g o (W7 j a0 a1 a2 a3 a4 a5 a6) := by
  rw [x, owr_one (w := (w : Int)) (j := j) (f := i + f) (by omega) (W7_z w hw k h e), show j + i + f = j + (i + f) by omega]
theorem fin_f {X : RR} {a0 a1 a2 a3 a4 a5 a6 m : Int} (hm : 0 ≤ m ∧ m ≤ 1) (x : X = some (0, WW g (j + m) 1 o)) (h : (0 ≤ a0 ∧ a0 ≤ m) ∧ (0 ≤ a1 ∧ a1 ≤ m) ∧ (0 ≤ a2 ∧ a2 ≤ m) ∧ (0 ≤ a3 ∧ a3 ≤ m) ∧ (0 ≤ a4 ∧ a4 ≤ m) ∧ (0 ≤ a5 ∧ a5 ≤ m) ∧ (0 ≤ a6 ∧ a6 ≤ m)) (e : a0 = m ∨ a1 = m) : X = OWR g o (W7 j a0 a1 a2 a3 a4 a5 a6) := by
  obtain ⟨h0, h1, h2, h3, h4, h5, h6⟩ := h
  unfold W7
  rw [if_neg (by omega), if_neg (by omega), if_neg (by omega), if_neg (by omega), if_neg (by omega), if_neg (by omega), if_neg (by omega), w7_n (m := m) (by omega) (by omega) (by omega), x]
  unfold OWR
  rw [if_pos rfl]
theorem ow_all (hn : 10000000 ≤ n) (T : StI g) (b : MB g a L B fc) (q : 0 ≤ j ∧ j ≤ L) (m : Nat) (hm : 100 ≤ m) : f_X12_oneWord_5 n 197 (m + 1 + 1) 127 0 (WW g j 0 o) = OWR g o (wdS B j wrdL 0 0) := by
  have z := b.bd q.1
  have z1 := b.bd (j := j + 1) (by omega)
  have w0 : wln (((0 : Nat) : Int)) = 6 := by decide
  have w1 : wln (((1 : Nat) : Int)) = 6 := by decide
  have w2 : wln (((2 : Nat) : Int)) = 7 := by decide
  have w3 : wln (((3 : Nat) : Int)) = 5 := by decide
  have w4 : wln (((4 : Nat) : Int)) = 4 := by decide
  have w5 : wln (((5 : Nat) : Int)) = 5 := by decide
  have w6 : wln (((6 : Nat) : Int)) = 4 := by decide
  rw [wd7]
  obtain ⟨a0, h0⟩ : ∃ x, x = fit B (wrdL.getD 0 []) j := ⟨_, rfl⟩
  obtain ⟨a1, h1⟩ : ∃ x, x = fit B (wrdL.getD 1 []) j := ⟨_, rfl⟩
  obtain ⟨a2, h2⟩ : ∃ x, x = fit B (wrdL.getD 2 []) j := ⟨_, rfl⟩
  obtain ⟨a3, h3⟩ : ∃ x, x = fit B (wrdL.getD 3 []) j := ⟨_, rfl⟩
  obtain ⟨a4, h4⟩ : ∃ x, x = fit B (wrdL.getD 4 []) j := ⟨_, rfl⟩
  obtain ⟨a5, h5⟩ : ∃ x, x = fit B (wrdL.getD 5 []) j := ⟨_, rfl⟩
  obtain ⟨a6, h6⟩ : ∃ x, x = fit B (wrdL.getD 6 []) j := ⟨_, rfl⟩
  rw [← h0, ← h1, ← h2, ← h3, ← h4, ← h5, ← h6]
  rw [fit_0] at h0
  rw [fit_1] at h1
  rw [fit_2] at h2
  rw [fit_3] at h3
  rw [fit_4] at h4
  rw [fit_5] at h5
  rw [fit_6] at h6
  obtain ⟨f0, e0⟩ : ∃ x, x = fit B ((wrdL.getD 0 []).drop 2) (j + 1 + 1) := ⟨_, rfl⟩
  obtain ⟨f1, e1⟩ : ∃ x, x = fit B ((wrdL.getD 1 []).drop 2) (j + 1 + 1) := ⟨_, rfl⟩
  obtain ⟨f2, e2⟩ : ∃ x, x = fit B ((wrdL.getD 2 []).drop 2) (j + 1 + 1) := ⟨_, rfl⟩
  obtain ⟨f3, e3⟩ : ∃ x, x = fit B ((wrdL.getD 3 []).drop 2) (j + 1 + 1) := ⟨_, rfl⟩
  obtain ⟨f4, e4⟩ : ∃ x, x = fit B ((wrdL.getD 4 []).drop 1) (j + 1) := ⟨_, rfl⟩
  obtain ⟨f5, e5⟩ : ∃ x, x = fit B ((wrdL.getD 5 []).drop 1) (j + 1) := ⟨_, rfl⟩
  obtain ⟨f6, e6⟩ : ∃ x, x = fit B ((wrdL.getD 6 []).drop 1) (j + 1) := ⟨_, rfl⟩
  have b0 : 0 ≤ f0 ∧ f0 ≤ 4 := by
    have y := fit_bd (B := B) ((wrdL.getD 0 []).drop 2) (j + 1 + 1)
    rw [← e0, show ((wrdL.getD 0 []).drop 2).length = 4 from rfl] at y; exact ⟨y.1, by omega⟩
  have b1 : 0 ≤ f1 ∧ f1 ≤ 4 := by
    have y := fit_bd (B := B) ((wrdL.getD 1 []).drop 2) (j + 1 + 1)
    rw [← e1, show ((wrdL.getD 1 []).drop 2).length = 4 from rfl] at y; exact ⟨y.1, by omega⟩
  have b2 : 0 ≤ f2 ∧ f2 ≤ 5 := by
    have y := fit_bd (B := B) ((wrdL.getD 2 []).drop 2) (j + 1 + 1)
    rw [← e2, show ((wrdL.getD 2 []).drop 2).length = 5 from rfl] at y; exact ⟨y.1, by omega⟩
  have b3 : 0 ≤ f3 ∧ f3 ≤ 3 := by
    have y := fit_bd (B := B) ((wrdL.getD 3 []).drop 2) (j + 1 + 1)
    rw [← e3, show ((wrdL.getD 3 []).drop 2).length = 3 from rfl] at y; exact ⟨y.1, by omega⟩
  have b4 : 0 ≤ f4 ∧ f4 ≤ 3 := by
    have y := fit_bd (B := B) ((wrdL.getD 4 []).drop 1) (j + 1)
    rw [← e4, show ((wrdL.getD 4 []).drop 1).length = 3 from rfl] at y; exact ⟨y.1, by omega⟩
  have b5 : 0 ≤ f5 ∧ f5 ≤ 4 := by
    have y := fit_bd (B := B) ((wrdL.getD 5 []).drop 1) (j + 1)
    rw [← e5, show ((wrdL.getD 5 []).drop 1).length = 4 from rfl] at y; exact ⟨y.1, by omega⟩
  have b6 : 0 ≤ f6 ∧ f6 ≤ 3 := by
    have y := fit_bd (B := B) ((wrdL.getD 6 []).drop 1) (j + 1)
    rw [← e6, show ((wrdL.getD 6 []).drop 1).length = 3 from rfl] at y; exact ⟨y.1, by omega⟩
  have y0 := fun (m i : Nat) (p : Int) => one_l (n := n) (g := g) (a := a) (L := L) (B := B) (fc := fc) (o := o) (w := ((0 : Nat) : Int)) hn T (by omega) b 4 m i p
  have y1 := fun (m i : Nat) (p : Int) => one_l (n := n) (g := g) (a := a) (L := L) (B := B) (fc := fc) (o := o) (w := ((1 : Nat) : Int)) hn T (by omega) b 4 m i p
  have y2 := fun (m i : Nat) (p : Int) => one_l (n := n) (g := g) (a := a) (L := L) (B := B) (fc := fc) (o := o) (w := ((2 : Nat) : Int)) hn T (by omega) b 5 m i p
  have y3 := fun (m i : Nat) (p : Int) => one_l (n := n) (g := g) (a := a) (L := L) (B := B) (fc := fc) (o := o) (w := ((3 : Nat) : Int)) hn T (by omega) b 3 m i p
  have y4 := fun (m i : Nat) (p : Int) => one_l (n := n) (g := g) (a := a) (L := L) (B := B) (fc := fc) (o := o) (w := ((4 : Nat) : Int)) hn T (by omega) b 3 m i p
  have y5 := fun (m i : Nat) (p : Int) => one_l (n := n) (g := g) (a := a) (L := L) (B := B) (fc := fc) (o := o) (w := ((5 : Nat) : Int)) hn T (by omega) b 4 m i p
  have y6 := fun (m i : Nat) (p : Int) => one_l (n := n) (g := g) (a := a) (L := L) (B := B) (fc := fc) (o := o) (w := ((6 : Nat) : Int)) hn T (by omega) b 3 m i p
  rw [ow_s hn T b q (by omega) (by omega) (m + 1), lf_0' ⟨z.1, z.2.1⟩]
  by_cases c1 : B j = 115
  · rw [if_pos c1] at h0 h2
    rw [if_neg (by omega)] at h1 h3 h4 h5 h6
    rw [if_pos c1, if_neg (by decide), show ohS 5 (0 + 1) 7 0 = -1 from oh_5, if_pos rfl, show (0 : Int) + 1 = 1 from rfl, ow_s hn T b (by omega) (by omega) (by omega) m, lf_5' ⟨z1.1, z1.2.1⟩]
    by_cases c2 : B (j + 1) = 108
    · rw [if_pos c2] at h0
      rw [if_neg (by omega)] at h2
      have oh := oh_1' (w := ((0 : Nat) : Int)) (i := 1 + 1) (by omega) (by omega)
      have s1 : shl 1 ((0 : Nat) : Int) = 1 := by decide +kernel
      have y := y0 m 2 (j + 1 + 1) (by omega) (by rw [w0]; rfl) (by omega) (by omega)
      rw [s1] at oh y
      rw [if_neg (by rw [w0]; decide)] at oh
      rw [if_pos c2, if_neg (by decide), oh, if_pos rfl]
      refine fin_w 0 (by decide) 2 (f := f0) ?_ (by rw [w0]; omega) (fun i hi hne => ?_) ?_
      · rw [e0, show j + 2 = j + 1 + 1 by omega]; exact y
      · rcases (show i = 0 ∨ i = 1 ∨ i = 2 ∨ i = 3 ∨ i = 4 ∨ i = 5 ∨ i = 6 by omega) with rfl | rfl | rfl | rfl | rfl | rfl | rfl <;> simp only [List.getD_cons_zero, List.getD_cons_succ] <;> omega
      · simp only [List.getD_cons_zero]; omega
    · rw [if_neg c2] at h0
      by_cases c3 : B (j + 1) = 116
      · rw [if_pos c3] at h2
        have oh := oh_1' (w := ((2 : Nat) : Int)) (i := 1 + 1) (by omega) (by omega)
        have s1 : shl 1 ((2 : Nat) : Int) = 4 := by decide +kernel
        have y := y2 m 2 (j + 1 + 1) (by omega) (by rw [w2]; rfl) (by omega) (by omega)
        rw [s1] at oh y
        rw [if_neg (by rw [w2]; decide)] at oh
        rw [if_neg c2, if_pos c3, if_neg (by decide), oh, if_pos rfl]
        refine fin_w 2 (by decide) 2 (f := f2) ?_ (by rw [w2]; omega) (fun i hi hne => ?_) ?_
        · rw [e2, show j + 2 = j + 1 + 1 by omega]; exact y
        · rcases (show i = 0 ∨ i = 1 ∨ i = 2 ∨ i = 3 ∨ i = 4 ∨ i = 5 ∨ i = 6 by omega) with rfl | rfl | rfl | rfl | rfl | rfl | rfl <;> simp only [List.getD_cons_zero, List.getD_cons_succ] <;> omega
        · simp only [List.getD_cons_zero, List.getD_cons_succ]; omega
      · rw [if_neg c3] at h2
        rw [if_neg c2, if_neg c3, if_pos rfl]
        exact fin_f (m := 1) (by omega) rfl (by omega) (by omega)
  rw [if_neg c1] at h0 h2
  by_cases c2 : B j = 99
  · rw [if_pos c2] at h1 h3
    rw [if_neg (by omega)] at h4 h5 h6
    rw [if_neg c1, if_pos c2, if_neg (by decide), show ohS 10 (0 + 1) 7 0 = -1 from oh_10, if_pos rfl, show (0 : Int) + 1 = 1 from rfl, ow_s hn T b (by omega) (by omega) (by omega) m, lf_10' ⟨z1.1, z1.2.1⟩]
    by_cases c3 : B (j + 1) = 108
    · rw [if_pos c3] at h1
      rw [if_neg (by omega)] at h3
      have oh := oh_1' (w := ((1 : Nat) : Int)) (i := 1 + 1) (by omega) (by omega)
      have s1 : shl 1 ((1 : Nat) : Int) = 2 := by decide +kernel
      have y := y1 m 2 (j + 1 + 1) (by omega) (by rw [w1]; rfl) (by omega) (by omega)
      rw [s1] at oh y
      rw [if_neg (by rw [w1]; decide)] at oh
      rw [if_pos c3, if_neg (by decide), oh, if_pos rfl]
      refine fin_w 1 (by decide) 2 (f := f1) ?_ (by rw [w1]; omega) (fun i hi hne => ?_) ?_
      · rw [e1, show j + 2 = j + 1 + 1 by omega]; exact y
      · rcases (show i = 0 ∨ i = 1 ∨ i = 2 ∨ i = 3 ∨ i = 4 ∨ i = 5 ∨ i = 6 by omega) with rfl | rfl | rfl | rfl | rfl | rfl | rfl <;> simp only [List.getD_cons_zero, List.getD_cons_succ] <;> omega
      · simp only [List.getD_cons_zero, List.getD_cons_succ]; omega
    · rw [if_neg c3] at h1
      by_cases c4 : B (j + 1) = 97
      · rw [if_pos c4] at h3
        have oh := oh_1' (w := ((3 : Nat) : Int)) (i := 1 + 1) (by omega) (by omega)
        have s1 : shl 1 ((3 : Nat) : Int) = 8 := by decide +kernel
        have y := y3 m 2 (j + 1 + 1) (by omega) (by rw [w3]; rfl) (by omega) (by omega)
        rw [s1] at oh y
        rw [if_neg (by rw [w3]; decide)] at oh
        rw [if_neg c3, if_pos c4, if_neg (by decide), oh, if_pos rfl]
        refine fin_w 3 (by decide) 2 (f := f3) ?_ (by rw [w3]; omega) (fun i hi hne => ?_) ?_
        · rw [e3, show j + 2 = j + 1 + 1 by omega]; exact y
        · rcases (show i = 0 ∨ i = 1 ∨ i = 2 ∨ i = 3 ∨ i = 4 ∨ i = 5 ∨ i = 6 by omega) with rfl | rfl | rfl | rfl | rfl | rfl | rfl <;> simp only [List.getD_cons_zero, List.getD_cons_succ] <;> omega
        · simp only [List.getD_cons_zero, List.getD_cons_succ]; omega
      · rw [if_neg c4] at h3
        rw [if_neg c3, if_neg c4, if_pos rfl]
        exact fin_f (m := 1) (by omega) rfl (by omega) (by omega)
  rw [if_neg c2] at h1 h3
  rw [if_neg c1, if_neg c2]
  by_cases c3 : B j = 103
  · rw [if_pos c3] at h4
    rw [if_neg (by omega)] at h5 h6
    have oh := oh_1' (w := ((4 : Nat) : Int)) (i := 0 + 1) (by omega) (by omega)
    have s1 : shl 1 ((4 : Nat) : Int) = 16 := by decide +kernel
    have y := y4 (m + 1) 1 (j + 1) (by omega) (by rw [w4]; rfl) (by omega) (by omega)
    rw [s1] at oh y
    rw [if_neg (by rw [w4]; decide)] at oh
    rw [if_pos c3, if_neg (by decide), oh, if_pos rfl]
    refine fin_w 4 (by decide) 1 (f := f4) ?_ (by rw [w4]; omega) (fun i hi hne => ?_) ?_
    · rw [e4]; exact y
    · rcases (show i = 0 ∨ i = 1 ∨ i = 2 ∨ i = 3 ∨ i = 4 ∨ i = 5 ∨ i = 6 by omega) with rfl | rfl | rfl | rfl | rfl | rfl | rfl <;> simp only [List.getD_cons_zero, List.getD_cons_succ] <;> omega
    · simp only [List.getD_cons_zero, List.getD_cons_succ]; omega
  rw [if_neg c3] at h4
  rw [if_neg c3]
  by_cases c4 : B j = 112
  · rw [if_pos c4] at h5
    rw [if_neg (by omega)] at h6
    have oh := oh_1' (w := ((5 : Nat) : Int)) (i := 0 + 1) (by omega) (by omega)
    have s1 : shl 1 ((5 : Nat) : Int) = 32 := by decide +kernel
    have y := y5 (m + 1) 1 (j + 1) (by omega) (by rw [w5]; rfl) (by omega) (by omega)
    rw [s1] at oh y
    rw [if_neg (by rw [w5]; decide)] at oh
    rw [if_pos c4, if_neg (by decide), oh, if_pos rfl]
    refine fin_w 5 (by decide) 1 (f := f5) ?_ (by rw [w5]; omega) (fun i hi hne => ?_) ?_
    · rw [e5]; exact y
    · rcases (show i = 0 ∨ i = 1 ∨ i = 2 ∨ i = 3 ∨ i = 4 ∨ i = 5 ∨ i = 6 by omega) with rfl | rfl | rfl | rfl | rfl | rfl | rfl <;> simp only [List.getD_cons_zero, List.getD_cons_succ] <;> omega
    · simp only [List.getD_cons_zero, List.getD_cons_succ]; omega
  rw [if_neg c4] at h5
  rw [if_neg c4]
  by_cases c5 : B j = 108
  · rw [if_pos c5] at h6
    have oh := oh_1' (w := ((6 : Nat) : Int)) (i := 0 + 1) (by omega) (by omega)
    have s1 : shl 1 ((6 : Nat) : Int) = 64 := by decide +kernel
    have y := y6 (m + 1) 1 (j + 1) (by omega) (by rw [w6]; rfl) (by omega) (by omega)
    rw [s1] at oh y
    rw [if_neg (by rw [w6]; decide)] at oh
    rw [if_pos c5, if_neg (by decide), oh, if_pos rfl]
    refine fin_w 6 (by decide) 1 (f := f6) ?_ (by rw [w6]; omega) (fun i hi hne => ?_) ?_
    · rw [e6]; exact y
    · rcases (show i = 0 ∨ i = 1 ∨ i = 2 ∨ i = 3 ∨ i = 4 ∨ i = 5 ∨ i = 6 by omega) with rfl | rfl | rfl | rfl | rfl | rfl | rfl <;> simp only [List.getD_cons_zero, List.getD_cons_succ] <;> omega
    · simp only [List.getD_cons_zero, List.getD_cons_succ]; omega
  rw [if_neg c5] at h6
  rw [if_neg c5, if_pos rfl]
  exact fin_f (m := 0) (by omega) (by rw [show j + 0 = j by omega]) (by omega) (by omega)
theorem oneWord_e (hn : 10000000 ≤ n) (T : StI g) (b : MB g a L B fc) (q : 0 ≤ j ∧ j ≤ L) : f_X12_oneWord n 197 (WW g j 0 o) = OWR g o (wdS B j wrdL 0 0) := by
  have z := ow_all (n := n) (o := o) hn T b q (n - 2) (by omega)
  rw [show n - 2 + 1 + 1 = n by omega] at z
  exact z
theorem jm7 {a0 a1 a2 a3 a4 a5 a6 K : Int} (k : a0 ≤ K ∧ a1 ≤ K ∧ a2 ≤ K ∧ a3 ≤ K ∧ a4 ≤ K ∧ a5 ≤ K ∧ a6 ≤ K) (hK : 0 ≤ K) : 0 ≤ jmax (jmax (jmax (jmax (jmax (jmax (jmax 0 a0) a1) a2) a3) a4) a5) a6 ∧ jmax (jmax (jmax (jmax (jmax (jmax (jmax 0 a0) a1) a2) a3) a4) a5) a6 ≤ K := by
  obtain ⟨x1, h1⟩ : ∃ x, x = jmax 0 a0 := ⟨_, rfl⟩
  obtain ⟨x2, h2⟩ : ∃ x, x = jmax x1 a1 := ⟨_, rfl⟩
  obtain ⟨x3, h3⟩ : ∃ x, x = jmax x2 a2 := ⟨_, rfl⟩
  obtain ⟨x4, h4⟩ : ∃ x, x = jmax x3 a3 := ⟨_, rfl⟩
  obtain ⟨x5, h5⟩ : ∃ x, x = jmax x4 a4 := ⟨_, rfl⟩
  obtain ⟨x6, h6⟩ : ∃ x, x = jmax x5 a5 := ⟨_, rfl⟩
  obtain ⟨x7, h7⟩ : ∃ x, x = jmax x6 a6 := ⟨_, rfl⟩
  rw [← h1, ← h2, ← h3, ← h4, ← h5, ← h6, ← h7]
  have l1 := jmax_l 0 a0
  have l2 := jmax_l x1 a1
  have l3 := jmax_l x2 a2
  have l4 := jmax_l x3 a3
  have l5 := jmax_l x4 a4
  have l6 := jmax_l x5 a5
  have l7 := jmax_l x6 a6
  rw [← h1] at l1
  rw [← h2] at l2
  rw [← h3] at l3
  rw [← h4] at l4
  rw [← h5] at l5
  rw [← h6] at l6
  rw [← h7] at l7
  omega
theorem wd_bd (hb : ∀ j : Int, 0 ≤ j → (B j = -1 ↔ L ≤ j)) (q : 0 ≤ j ∧ j ≤ L) : -1 ≤ (wdS B j wrdL 0 0).1 ∧ (wdS B j wrdL 0 0).1 ≤ 6 ∧ j ≤ (wdS B j wrdL 0 0).2 ∧ (wdS B j wrdL 0 0).2 ≤ L ∧ ((wdS B j wrdL 0 0).1 ≠ -1 → j < (wdS B j wrdL 0 0).2) := by
  have f0 := fit_le hb (w := ((0 : Nat) : Int)) (by omega) q
  have f1 := fit_le hb (w := ((1 : Nat) : Int)) (by omega) q
  have f2 := fit_le hb (w := ((2 : Nat) : Int)) (by omega) q
  have f3 := fit_le hb (w := ((3 : Nat) : Int)) (by omega) q
  have f4 := fit_le hb (w := ((4 : Nat) : Int)) (by omega) q
  have f5 := fit_le hb (w := ((5 : Nat) : Int)) (by omega) q
  have f6 := fit_le hb (w := ((6 : Nat) : Int)) (by omega) q
  rw [Int.toNat_natCast] at f0 f1 f2 f3 f4 f5 f6
  rw [wd7]
  generalize fit B (wrdL.getD 0 []) j = a0 at f0 ⊢
  generalize fit B (wrdL.getD 1 []) j = a1 at f1 ⊢
  generalize fit B (wrdL.getD 2 []) j = a2 at f2 ⊢
  generalize fit B (wrdL.getD 3 []) j = a3 at f3 ⊢
  generalize fit B (wrdL.getD 4 []) j = a4 at f4 ⊢
  generalize fit B (wrdL.getD 5 []) j = a5 at f5 ⊢
  generalize fit B (wrdL.getD 6 []) j = a6 at f6 ⊢
  have M := jm7 (a0 := a0) (a1 := a1) (a2 := a2) (a3 := a3) (a4 := a4) (a5 := a5) (a6 := a6) (K := L - j) (by omega) (by omega)
  unfold W7
  by_cases c0 : a0 = 6
  · rw [if_pos c0]; dsimp only; omega
  rw [if_neg c0]
  by_cases c1 : a1 = 6
  · rw [if_pos c1]; dsimp only; omega
  rw [if_neg c1]
  by_cases c2 : a2 = 7
  · rw [if_pos c2]; dsimp only; omega
  rw [if_neg c2]
  by_cases c3 : a3 = 5
  · rw [if_pos c3]; dsimp only; omega
  rw [if_neg c3]
  by_cases c4 : a4 = 4
  · rw [if_pos c4]; dsimp only; omega
  rw [if_neg c4]
  by_cases c5 : a5 = 5
  · rw [if_pos c5]; dsimp only; omega
  rw [if_neg c5]
  by_cases c6 : a6 = 4
  · rw [if_pos c6]; dsimp only; omega
  rw [if_neg c6]; dsimp only; omega
end OWD
