/-! START: the old memory -/
section STO
variable {s : State} {D : va_G} {A : Nat → ClassId} {aU aN aS aF b L : Nat} {K V : Nat → Nat} {xs : Nat → Int32} {E : EV} {h : MM} {a : Int}
def erS (aU aN aS aF b : Nat) (K V : Nat → Nat) (k : Nat) : Nat := if k = 2 then aU else if k = 3 then aN else if k = 4 then aS else if 10 ≤ k ∧ k < 17 then K (k - 10) else if 30 ≤ k ∧ k < 37 then V (k - 30) else if k = 50 then aF else b
def ES (s : State) (D : va_G) (A : Nat → ClassId) (er : Nat → Nat) : EV := (D, A, fun t c => ∀ cell : Cell, cell.cls = c → (∀ k, cell.vm ≠ .statics k) → s.isArrayOf cell (aty t), s.heap.size, er)
def tgS (L : Nat) (a : Int) : Int × Int := if a = 2 then (100, 7) else if a = 3 then (100, 0) else if a = 4 then (100, 7) else if 10 ≤ a ∧ a < 17 then (13, 0) else if 30 ≤ a ∧ a < 37 then (102, (wdN.getD (a - 30).toNat 0 : Int)) else if a = 60 then (100, (L : Int)) else (-1, 0)
def vlS (xs : Nat → Int32) (a j : Int) : Int := if a = 2 then (unL.getD j.toNat 0).toInt else if a = 4 then (usL.getD j.toNat 0).toInt else if 10 ≤ a ∧ a < 17 then (if j = 0 then a + 20 else 0) else if 30 ≤ a ∧ a < 37 then ((wdB.getD (a - 30).toNat []).getD j.toNat 0).toInt else if a = 60 then (xs j.toNat).toInt else 0
def hS0 (L : Nat) (xs : Nat → Int32) : MM := (vlS xs, tgS L, 100, 0)
theorem i32_ti (x : Int32) : i32 x.toInt = x := Int32.ofInt_toInt x
theorem aOK_old {t N : Nat} {f : Nat → Int32} {er : Nat → Nat} (ha : a < 100) (ht : tg h a = (t : Int)) (h0 : ek t = 0) (hl : ln h a = (N : Int)) (hN : N ≤ 2147483647) (T : va_T (aty t) (er a.toNat) N (fun j => .int (f j)) (Ao s) s s.heap) (q : ∀ j : Nat, j < N → mv h a (j : Int) = (f j).toInt) : aOK (ES s D A er) h a s.heap := by
  obtain ⟨cell, c1, c2, c3, c4, c5, c6, c7⟩ := T
  have e1 : (tg h a).toNat = t := by omega
  refine ⟨cell, ?_, ?_, c3, c2.1, fun z => by omega, ⟨by rw [hl]; exact c4, ?_, fun z => by omega⟩, by omega, by omega, fun j hj => ?_⟩
  · unfold ad
    rw [if_neg (by omega)]
    exact c1
  · rw [e1]
    show ∀ cell' : Cell, cell'.cls = cell.cls → (∀ k, cell'.vm ≠ .statics k) → s.isArrayOf cell' (aty t)
    intro cell' z1 z2
    exact ⟨z2, by rw [z1]; exact c2.2⟩
  · rw [c5, hl]
    show Int32.ofNat N = Int32.ofInt (N : Int)
    exact (Int32.ofInt_eq_ofNat).symm
  · rw [e1, h0, q j (by omega)]
    refine ⟨?_, in32_t _⟩
    rw [c6 j (by omega)]
    show some (Value.int (f j)) = some (Value.int (i32 (f j).toInt))
    rw [i32_ti]
theorem st_Rl (hb : b < s.heap.size) (tU : va_T .int aU 7 (fun j => .int (unL.getD j 0)) (Ao s) s s.heap) (tN : va_T .int aN 0 (fun _ => .int 0) (Ao s) s s.heap) (tS : va_T .int aS 7 (fun j => .int (usL.getD j 0)) (Ao s) s s.heap) (hF : aF < s.heap.size) (S : vk_S 7 wdN wdB K V (Ao s) s s.heap) (X : va_X b L xs s s.heap) (hL : L ≤ 384) : Rl (ES s D A (erS aU aN aS aF b K V)) (hS0 L xs) s.heap := by
  have lt : ∀ t : Nat, ¬ Ao s t → t < s.heap.size := fun t z => by unfold Ao at z; omega
  have lU : aU < s.heap.size := by obtain ⟨cell, -, -, -, -, -, -, z⟩ := tU; exact lt _ z
  have lN : aN < s.heap.size := by obtain ⟨cell, -, -, -, -, -, -, z⟩ := tN; exact lt _ z
  have lS : aS < s.heap.size := by obtain ⟨cell, -, -, -, -, -, -, z⟩ := tS; exact lt _ z
  have lK : ∀ i : Nat, i < 7 → K i < s.heap.size := fun i hi => by obtain ⟨cell, -, -, -, z⟩ := (S.1 i hi).1; exact lt _ z
  have lV : ∀ i : Nat, i < 7 → V i < s.heap.size := fun i hi => by obtain ⟨cell, -, -, -, -, -, -, z⟩ := (S.1 i hi).2.2.2; exact lt _ z
  refine ⟨fun a => ?_, ?_, Int.le_refl _, (by show (100 : Int) ≤ 600100; decide), ?_, Int.le_refl _, (by show (0 : Int) ≤ 7302250; decide), fun k => ?_⟩
  · have tge : tg (hS0 L xs) a = (tgS L a).1 := rfl
    have lne : ln (hS0 L xs) a = (tgS L a).2 := rfl
    have mve : ∀ j, mv (hS0 L xs) a j = vlS xs a j := fun _ => rfl
    have nxe : nx (hS0 L xs) = 100 := rfl
    unfold cOK
    by_cases c2 : a = 2
    · subst c2
      have e1 : tg (hS0 L xs) 2 = 100 := rfl
      refine Or.inr ⟨by omega, by decide, by omega, Or.inr (Or.inr ⟨by omega, by omega, ?_⟩)⟩
      exact aOK_old (t := 100) (N := 7) (f := fun j => unL.getD j 0) (by decide) rfl rfl rfl (by decide) tU (fun j hj => by rw [mve]; rfl)
    by_cases c3 : a = 3
    · subst c3
      have e1 : tg (hS0 L xs) 3 = 100 := rfl
      refine Or.inr ⟨by omega, by decide, by omega, Or.inr (Or.inr ⟨by omega, by omega, ?_⟩)⟩
      exact aOK_old (t := 100) (N := 0) (f := fun j => 0) (by decide) rfl rfl rfl (by decide) tN (fun j hj => by omega)
    by_cases c4 : a = 4
    · subst c4
      have e1 : tg (hS0 L xs) 4 = 100 := rfl
      refine Or.inr ⟨by omega, by decide, by omega, Or.inr (Or.inr ⟨by omega, by omega, ?_⟩)⟩
      exact aOK_old (t := 100) (N := 7) (f := fun j => usL.getD j 0) (by decide) rfl rfl rfl (by decide) tS (fun j hj => by rw [mve]; rfl)
    by_cases c5 : 10 ≤ a ∧ a < 17
    · have e1 : tg (hS0 L xs) a = 13 := by
        rw [tge]; unfold tgS
        rw [if_neg c2, if_neg c3, if_neg c4, if_pos c5]
      have e2 : ∀ j, mv (hS0 L xs) a j = if j = 0 then a + 20 else 0 := fun j => by
        rw [mve]; unfold vlS
        rw [if_neg c2, if_neg c4, if_pos c5]
      refine Or.inr ⟨by omega, by omega, by omega, Or.inr (Or.inl ⟨e1, by omega, (a - 10).toNat, by omega, by omega, ?_, ?_⟩)⟩
      · rw [e2, if_pos rfl]; omega
      · rw [e2, if_neg (by decide)]
    by_cases c6 : 30 ≤ a ∧ a < 37
    · have e1 : tgS L a = (102, (wdN.getD (a - 30).toNat 0 : Int)) := by
        unfold tgS
        rw [if_neg c2, if_neg c3, if_neg c4, if_neg c5, if_pos c6]
      have e2 : ∀ j, mv (hS0 L xs) a j = ((wdB.getD (a - 30).toNat []).getD j.toNat 0).toInt := fun j => by
        rw [mve]; unfold vlS
        rw [if_neg c2, if_neg c4, if_neg c5, if_pos c6]
      have e3 : tg (hS0 L xs) a = 102 := by rw [tge, e1]
      have nb : ∀ i : Nat, i < 7 → wdN.getD i 0 ≤ 2147483647 := by decide
      have er : erS aU aN aS aF b K V a.toNat = V (a - 30).toNat := by
        unfold erS
        rw [if_neg (by omega), if_neg (by omega), if_neg (by omega), if_neg (by omega), if_pos (by omega), show a.toNat - 30 = (a - 30).toNat by omega]
      refine Or.inr ⟨by omega, by omega, by omega, Or.inr (Or.inr ⟨by omega, by omega, ?_⟩)⟩
      exact aOK_old (t := 102) (N := wdN.getD (a - 30).toNat 0) (f := fun j => (wdB.getD (a - 30).toNat []).getD j 0) (by omega) e3 rfl (by rw [lne, e1]) (nb _ (by omega)) (by rw [er]; exact (S.1 _ (by omega)).2.2.2) (fun j hj => by rw [e2]; rfl)
    by_cases c7 : a = 60
    · subst c7
      have e1 : tg (hS0 L xs) 60 = 100 := rfl
      refine Or.inr ⟨by omega, by decide, by omega, Or.inr (Or.inr ⟨by omega, by omega, ?_⟩)⟩
      obtain ⟨scr, x1, x2, x3, x4, x5⟩ := X
      exact aOK_old (t := 100) (N := L) (f := xs) (by decide) rfl rfl rfl (by omega) ⟨scr, x1, x2, x3, by rw [x4]; exact Nat.le_refl _, by rw [x4], x5, fun z => by unfold Ao at z; have e : erS aU aN aS aF b K V (60 : Int).toNat = b := rfl; rw [e] at z; omega⟩ (fun j hj => by rw [mve]; rfl)
    · refine Or.inl ?_
      rw [tge]; unfold tgS
      rw [if_neg c2, if_neg c3, if_neg c4, if_neg c5, if_neg c6, if_neg c7]
  · show s.heap.size = s.heap.size + (100 - 100 : Int).toNat
    rfl
  · show ssum s.heap.size s.heap = (0 : Int).toNat
    unfold ssum
    rw [Nat.sub_self]; rfl
  · show erS aU aN aS aF b K V k < s.heap.size
    unfold erS
    split
    · exact lU
    split
    · exact lN
    split
    · exact lS
    split
    · exact lK _ (by omega)
    split
    · exact lV _ (by omega)
    split
    · exact hF
    · exact hb
end STO
