/-! START: what is known of the tables -/
section STK
variable {s : State} {args : Array Value}
theorem er_K {aU aN aS aF b : Nat} {K V : Nat → Nat} {i : Nat} (hi : i < 7) : erS aU aN aS aF b K V (10 + i) = K i := by
  unfold erS
  rw [if_neg (by omega), if_neg (by omega), if_neg (by omega), if_pos (by omega), show 10 + i - 10 = i by omega]
theorem er_V {aU aN aS aF b : Nat} {K V : Nat → Nat} {i : Nat} (hi : i < 7) : erS aU aN aS aF b K V (30 + i) = V i := by
  unfold erS
  rw [if_neg (by omega), if_neg (by omega), if_neg (by omega), if_neg (by omega), if_pos (by omega), show 30 + i - 30 = i by omega]
theorem st_KF {D : va_G} {A : Nat → ClassId} {aU aN aS aF b : Nat} {K V : Nat → Nat} (hD : va_K D vwCl [] s) (hA : ∀ t : Nat, 100 ≤ t → t ≤ 107 → KAs s t (A t)) (hU : va_Z "LinesPromised" "UNDER" "[I" (.ref aU) (Ao s) s s.heap) (hN : va_Z "LinesPromised" "NO_CELLS" "[I" (.ref aN) (Ao s) s s.heap) (hS : va_Z "LinesPromised" "USUAL" "[I" (.ref aS) (Ao s) s s.heap) (hC : va_Z "java/lang/String" "COMPACT_STRINGS" "Z" (.int 1) (Ao s) s s.heap) (hF : va_Z "jdk/internal/util/Preconditions" "SIOOBE_FORMATTER" "Ljava/util/function/BiFunction;" .null (Ao s) s s.heap ∨ ∃ v : Int, v ≠ 0 ∧ va_Z "jdk/internal/util/Preconditions" "SIOOBE_FORMATTER" "Ljava/util/function/BiFunction;" (.ref (ad (ES s D A (erS aU aN aS aF b K V)) v)) (Ao s) s s.heap) (hK : vk_S 7 wdN wdB K V (Ao s) s s.heap) (hR : ∀ i : Nat, i < 7 → vk_R "LinesPromised$Order" (wdO.getD i 0) (wdL.getD i "") (K i) s) (hM : ∀ i : Nat, i < 7 → vk_R "LinesPromisedModel" (wdM.getD i 0) (wdL.getD i "") (K i) s) (hKN : KN s) : KF (ES s D A (erS aU aN aS aF b K V)) s := by
  refine ⟨hD, fun t cell t0 t1 h1 h2 => h1 cell rfl h2, fun t t0 t1 => ⟨?_, (hA t t0 t1).2⟩, ⟨hU, hN, hS, hC, hF, ⟨fun i hi => ?_, fun i j hi hj e => ?_⟩, fun i hi => ?_, fun i hi => ?_⟩, hKN⟩
  · show ∀ cell : Cell, cell.cls = A t → (∀ k, cell.vm ≠ .statics k) → s.isArrayOf cell (aty t)
    intro cell e z
    refine ⟨z, ?_⟩
    rw [e]
    exact (hA t t0 t1).1
  · show va_O "java/lang/String" (erS aU aN aS aF b K V (10 + i)) (Ao s) s s.heap ∧ va_OF "java/lang/String" "coder" "B" (.int 0) (erS aU aN aS aF b K V (10 + i)) (Ao s) s s.heap ∧ va_OF "java/lang/String" "value" "[B" (.ref (erS aU aN aS aF b K V (30 + i))) (erS aU aN aS aF b K V (10 + i)) (Ao s) s s.heap ∧ va_T .byte (erS aU aN aS aF b K V (30 + i)) (wdN.getD i 0) (fun j => .int ((wdB.getD i []).getD j 0)) (Ao s) s s.heap
    rw [er_K hi, er_V hi]
    exact hK.1 i hi
  · have e' : erS aU aN aS aF b K V (10 + i) = erS aU aN aS aF b K V (10 + j) := e
    rw [er_K hi, er_K hj] at e'
    exact hK.2 i j hi hj e'
  · show vk_R "LinesPromised$Order" (wdO.getD i 0) (wdL.getD i "") (erS aU aN aS aF b K V (10 + i)) s
    rw [er_K hi]; exact hR i hi
  · show vk_R "LinesPromisedModel" (wdM.getD i 0) (wdL.getD i "") (erS aU aN aS aF b K V (10 + i)) s
    rw [er_K hi]; exact hM i hi
/-- all of the start: the world, the old memory -/
theorem st_all {b L : Nat} {xs : Nat → Int32} (hts : ∀ w ∈ lw_tbl, w.before args s = true) (hs : ∀ c ∈ flatC stL, c.before args s = true) (hb : b < s.heap.size) (X : va_X b L xs s s.heap) (hL : L ≤ 384) : ∃ E : EV, KF E s ∧ Rl E (hS0 L xs) s.heap ∧ eb E = s.heap.size ∧ er E 60 = b := by
  obtain ⟨D, hD⟩ := st_K hts
  obtain ⟨A, hA⟩ := st_A hts
  obtain ⟨aS, zS, tS⟩ := st_T1 hs hts
  obtain ⟨aU, zU, tU⟩ := st_T2 hs hts
  obtain ⟨aN, zN, tN⟩ := st_T3 hs hts
  obtain ⟨zC, zF⟩ := st_Z hs hts
  obtain ⟨K, V, S, hR, hM⟩ := st_S hs hts
  have hKN := st_N hts
  rcases zF with z | ⟨aF, z⟩
  · exact ⟨ES s D A (erS aU aN aS b b K V), st_KF hD hA zU zN zS zC (Or.inl z) S hR hM hKN, st_Rl hb tU tN tS hb S X hL, rfl, rfl⟩
  · by_cases l : aF < s.heap.size
    · refine ⟨ES s D A (erS aU aN aS aF b K V), st_KF hD hA zU zN zS zC (Or.inr ⟨50, by decide, ?_⟩) S hR hM hKN, st_Rl hb tU tN tS l S X hL, rfl, rfl⟩
      exact z
    · refine ⟨ES s D A (erS aU aN aS b b K V), st_KF hD hA zU zN zS zC (Or.inr ⟨100 + ((aF - s.heap.size : Nat) : Int), by omega, ?_⟩) S hR hM hKN, st_Rl hb tU tN tS hb S X hL, rfl, rfl⟩
      have e : ad (ES s D A (erS aU aN aS b b K V)) (100 + ((aF - s.heap.size : Nat) : Int)) = aF := by
        unfold ad
        rw [if_pos (by omega)]
        show s.heap.size + (100 + ((aF - s.heap.size : Nat) : Int) - 100).toNat = aF
        omega
      rw [e]
      exact z
end STK
