/-! START: the end -/
section STE
variable {b : Nat}
/-- the end: the law's walk at the entry -/
theorem st_end {g : GT} {h' : MM} (C : Cx g code 4 x 2048 84000) (hr : LRt g (1, h')) (ha : ga g = #[.ref b]) (hv : er (gE g) 60 = b) (hf : f_L_law 10000000 60 (gh g) = some (1, h')) : W (gp g) (gl g) (ge g) (gR g) (gs g) (gm g) (ga g) (gb g) (gM g) (gc g) (gs g).heap [] 0 0 (gQ g) (entryFrame (gm g) ([Value.ref b] : List Value).toArray 4) := by
  have e := e_L_law (n := 10000000) C hr (v0 := 60) trivial hf
  have hl := lv_entry ([.ref b]) (n := 4) (Nat.le_of_ble_eq_true rfl)
  rw [lg_entry_eq]
  generalize (lg_sl ([.ref b]) ++ List.replicate (4 - (lg_sl ([.ref b])).length) Slot.unset).toArray = ls at hl ⊢
  have hl : lv_has ls 4 [(0, .ref b)] := hl
  have w := e ls (gs g).heap [] ⟨hl.1, hl.2.1, fun i k x hi hk => ?_⟩ ⟨C.hR, Int.le_refl _⟩ va_S.rf
  · unfold GW at w
    rw [Nat.sub_self, Nat.sub_self] at w
    exact w
  · match i, hi with
    | 0, hi =>
      cases hi
      have z := lv_at hl 0 (i := 0) (v := .ref b) rfl
      rw [z]
      have e1 : cv (gE g) 2 60 = .ref b := by
        show (if (60 : Int) = 0 then Value.null else Value.ref (ad (gE g) 60)) = _
        rw [if_neg (by decide)]
        unfold ad
        rw [if_neg (by decide)]
        exact congrArg Value.ref hv
      rw [e1]
    | 1, hi => cases hi; omega
    | 2, hi => cases hi; omega
    | 3, hi => cases hi; omega
    | k + 4, hi => cases hi
end STE
