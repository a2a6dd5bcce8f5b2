/-! START: whole_start -/
section WST
theorem st_sti (L : Nat) (xs : Nat → Int32) : StI (hS0 L xs) := by
  have t : ∀ a, tg (hS0 L xs) a = (tgS L a).1 := fun _ => rfl
  have l : ∀ a, ln (hS0 L xs) a = (tgS L a).2 := fun _ => rfl
  have m : ∀ a j, mv (hS0 L xs) a j = vlS xs a j := fun _ _ => rfl
  have g1 : ∀ w : Int, 0 ≤ w → w < 7 → tgS L (10 + w) = (13, 0) := fun w w0 w1 => by
    unfold tgS
    rw [if_neg (by omega), if_neg (by omega), if_neg (by omega), if_pos (by omega)]
  have g2 : ∀ w : Int, 0 ≤ w → w < 7 → tgS L (30 + w) = (102, (wdN.getD w.toNat 0 : Int)) := fun w w0 w1 => by
    unfold tgS
    rw [if_neg (by omega), if_neg (by omega), if_neg (by omega), if_neg (by omega), if_pos (by omega), show (30 + w - 30).toNat = w.toNat by omega]
  have v1 : ∀ w j : Int, 0 ≤ w → w < 7 → vlS xs (10 + w) j = if j = 0 then 10 + w + 20 else 0 := fun w j w0 w1 => by
    unfold vlS
    rw [if_neg (by omega), if_neg (by omega), if_pos (by omega)]
  have v2 : ∀ w j : Int, 0 ≤ w → w < 7 → vlS xs (30 + w) j = ((wdB.getD w.toNat []).getD j.toNat 0).toInt := fun w j w0 w1 => by
    unfold vlS
    rw [if_neg (by omega), if_neg (by omega), if_neg (by omega), if_pos (by omega), show (30 + w - 30).toNat = w.toNat by omega]
  have k1 : ∀ i : Nat, i < 7 → wdN.getD i 0 = (wrdL.getD i []).length := by decide
  have k2 : ∀ i : Nat, i < 7 → ∀ j : Nat, j < 8 → ((wdB.getD i []).getD j 0).toInt = (wrdL.getD i []).getD j 0 := by decide +kernel
  have k3 : ∀ i : Nat, i < 7 → (wrdL.getD i []).length < 8 := by decide
  refine ⟨fun w w0 w1 => ⟨by rw [t, g1 w w0 w1], by rw [m, v1 w 0 w0 w1, if_pos rfl]; omega, by rw [m, v1 w 1 w0 w1, if_neg (by decide)], by rw [t, g2 w w0 w1], by rw [l, g2 w w0 w1, k1 _ (by omega)], fun j j0 j1 => ?_⟩, ⟨rfl, rfl, rfl, rfl, rfl, rfl, rfl, rfl, rfl⟩, ⟨rfl, rfl⟩, ⟨rfl, rfl, rfl, rfl, rfl, rfl, rfl, rfl, rfl⟩⟩
  have y := k3 w.toNat (by omega)
  rw [m, v2 w j w0 w1, k2 _ (by omega) _ (by omega)]
theorem st_t3 (L : Nat) (xs : Nat → Int32) (a : Int) : tg (hS0 L xs) a ≠ 3 := by
  show (tgS L a).1 ≠ 3
  unfold tgS
  split
  · show (100 : Int) ≠ 3; decide
  split
  · show (100 : Int) ≠ 3; decide
  split
  · show (100 : Int) ≠ 3; decide
  split
  · show (13 : Int) ≠ 3; decide
  split
  · show (102 : Int) ≠ 3; decide
  split
  · show (100 : Int) ≠ 3; decide
  · show (-1 : Int) ≠ 3; decide
theorem whole_start {p : Program} {e : Env} {s : State} {m : MethodId} {below : List Frame} {meth : Method} {c : Code} (l : Launch) (hflags : l.flags = flags0) {b L : Nat} {xs : Nat → Int32} (hL : L ≤ 384) (C0 : lw_At p s m meth c b L xs) : W p l e room_1 s m #[Value.ref b] below meth c s.heap [] 0 0 (lw_Z below #[Value.ref b] s) (entryFrame m ([Value.ref b] : List Value).toArray 4) := by
  obtain ⟨hx, hb, hr, hml, hown, hts, hX, hbl, hlocks, hgv⟩ := id C0
  obtain ⟨E, hKF, hRl, hE, h60⟩ := st_all hts (flat_of_before _ hgv) hbl hX hL
  obtain ⟨h', hf⟩ := law_pure (h0 := hS0 L xs) (v0 := 60) (L := (L : Int)) (sc := fun j => (xs j.toNat).toInt) 10000000 (Nat.le_refl _) rfl (by show (0 : Int) ≤ 20000; decide) (st_sti L xs) (fun a _ _ => st_t3 L xs a) ⟨by decide, rfl, rfl, fun j => rfl⟩ (fun j => in32_t _) (by omega) (by omega)
  have C : Cx (E, hS0 L xs, p, l, e, room_1, s, m, #[Value.ref b], below, meth, c, lw_Z below #[Value.ref b] s) code 4 x 2048 84000 := ⟨hx, hb, hml, hown, fun w h => hts w (List.mem_filter.mp h).1, hlocks, hKF, hRl, rfl, fun z => absurd z (by decide)⟩
  exact st_end (g := (E, hS0 L xs, p, l, e, room_1, s, m, #[Value.ref b], below, meth, c, lw_Z below #[Value.ref b] s)) C ⟨⟨b, rfl⟩, rfl, ⟨hE, rfl, hr⟩, rfl⟩ rfl h60 hf
end WST
