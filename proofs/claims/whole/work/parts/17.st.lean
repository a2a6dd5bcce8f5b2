/-! START: what the entry gives -/
section STA
variable {p : Program} {s : State} {m : MethodId} {meth : Method} {c : Code} {b L : Nat} {xs : Nat → Int32} {args : Array Value}
theorem st_K (hts : ∀ w ∈ lw_tbl, w.before args s = true) : ∃ D : va_G, va_K D vwCl [] s := by
  have hw : ∀ w ∈ wG, w.before args s = true := fun w h => hts w (List.mem_filter.mp h).1
  obtain ⟨c0, i0, k0⟩ := u_known (C := RX0) (T := TX0) (N := 7) (n := 7) hw ct0w (hts (.instantiable RX0 7) (by decide +kernel))
  obtain ⟨c1, i1, k1⟩ := u_known (C := RX1) (T := TX1) (N := 6) (n := 6) hw ct1w (hts (.instantiable RX1 6) (by decide +kernel))
  obtain ⟨c2, i2, k2⟩ := u_known (C := RX2) (T := TX2) (N := 7) (n := 7) hw ct2w (hts (.instantiable RX2 7) (by decide +kernel))
  obtain ⟨c3, i3, k3⟩ := u_known (C := RX3) (T := TX3) (N := 6) (n := 6) hw ct3w (hts (.instantiable RX3 6) (by decide +kernel))
  obtain ⟨c4, i4, k4⟩ := u_known (C := RX4) (T := TX4) (N := 11) (n := 11) hw ct4w (hts (.instantiable RX4 11) (by decide +kernel))
  obtain ⟨c5, i5, k5⟩ := u_known (C := RX5) (T := TX5) (N := 10) (n := 10) hw ct5w (hts (.instantiable RX5 10) (by decide +kernel))
  obtain ⟨c6, i6, k6⟩ := u_known (C := RX6) (T := TX6) (N := 5) (n := 5) hw ct6w (hts (.instantiable RX6 5) (by decide +kernel))
  obtain ⟨c7, i7, k7⟩ := u_known (C := RX7) (T := TX7) (N := 9) (n := 9) hw ct7w (hts (.instantiable RX7 9) (by decide +kernel))
  obtain ⟨c8, i8, k8⟩ := u_known (C := RX8) (T := TX8) (N := 9) (n := 9) hw ct8w (hts (.instantiable RX8 9) (by decide +kernel))
  obtain ⟨c9, i9, k9⟩ := u_known (C := RX9) (T := TX9) (N := 3) (n := 3) hw ct9w (hts (.instantiable RX9 3) (by decide +kernel))
  obtain ⟨c10, i10, k10⟩ := u_known (C := RX10) (T := TX10) (N := 11) (n := 11) hw ct10w (hts (.instantiable RX10 11) (by decide +kernel))
  obtain ⟨c11, i11, k11⟩ := u_known (C := RX11) (T := TX11) (N := 7) (n := 7) hw ct11w (hts (.instantiable RX11 7) (by decide +kernel))
  obtain ⟨c12, i12, k12⟩ := u_known (C := RX12) (T := TX12) (N := 21) (n := 21) hw ct12w (hts (.instantiable RX12 21) (by decide +kernel))
  refine ⟨(fun k => [c0, c1, c2, c3, c4, c5, c6, c7, c8, c9, c10, c11, c12].getD k c0, fun k => [i0, i1, i2, i3, i4, i5, i6, i7, i8, i9, i10, i11, i12].getD k i0), ⟨fun k q hq => ?_, fun k q h => by simp at h⟩⟩
  match k, hq with
  | 0, hq => cases hq; exact k0
  | 1, hq => cases hq; exact k1
  | 2, hq => cases hq; exact k2
  | 3, hq => cases hq; exact k3
  | 4, hq => cases hq; exact k4
  | 5, hq => cases hq; exact k5
  | 6, hq => cases hq; exact k6
  | 7, hq => cases hq; exact k7
  | 8, hq => cases hq; exact k8
  | 9, hq => cases hq; exact k9
  | 10, hq => cases hq; exact k10
  | 11, hq => cases hq; exact k11
  | 12, hq => cases hq; exact k12
  | k + 13, hq => simp [vwCl] at hq
/-- the classes of arrays -/
def KAs (s : State) (t : Nat) (a : ClassId) : Prop := (∃ k : Class, s.vm.classes[a]? = some k ∧ ∃ comp, k.kind = .array comp (aty t)) ∧ s.vm.findClass ("[" ++ (aty t).toString) = some a ∧ ∃ kA : Class, s.vm.classes[a]? = some kA ∧ (104 ≤ t → ∃ (comp : ClassId) (kc : Class), kA.kind = .array comp (aty t) ∧ s.vm.findClass (cnm t) = some comp ∧ s.vm.classes[comp]? = some kc)
theorem st_A0 {t : Nat} (q : t < 104) (h : (Cond.arrayClass (aty t)).before args s = true) : ∃ a, KAs s t a := by
  obtain ⟨c, k, comp, h1, h2, h3⟩ := Cond.arrayClass_spec (args := args) (first := s) (o := none) (idx := []) h
  exact ⟨c, ⟨k, h2, comp, h3⟩, h1, k, h2, fun z => by omega⟩
theorem st_A4 {t : Nat} {nm : String} {n : Nat} (q : aty t = .object nm) (q2 : cnm t = nm) (hi : (Cond.instantiable nm n).before args s = true) (h : (Cond.arrayOver (.object nm)).before args s = true) : ∃ a, KAs s t a := by
  obtain ⟨comp, c, k, h1, h2, h3, h4, h5⟩ := Cond.arrayOver_spec (args := args) (first := s) (o := none) (idx := []) h
  obtain ⟨cC, kC, g1, g2, -, -⟩ := Cond.instantiable_spec hi
  rw [g1] at h1
  injection h1 with e1
  subst e1
  refine ⟨c, ⟨k, h3, cC, by rw [q]; exact h4⟩, by rw [q]; exact h5, k, h3, fun _ => ⟨cC, kC, by rw [q]; exact h4, by rw [q2]; exact g1, g2⟩⟩
theorem st_A7 (hi : (Cond.arrayClass .int).before args s = true) (h : (Cond.arrayOver (.array .int)).before args s = true) : ∃ a, KAs s 107 a := by
  obtain ⟨comp, c, k, h1, h2, h3, h4, h5⟩ := arrayOverA_spec (args := args) (first := s) (o := none) (idx := []) h
  obtain ⟨cI, kI, cc, g1, g2, -⟩ := Cond.arrayClass_spec (args := args) (first := s) (o := none) (idx := []) hi
  have e : (FieldType.array .int).toString = "[" ++ FieldType.int.toString := rfl
  rw [e, g1] at h1
  injection h1 with e1
  subst e1
  exact ⟨c, ⟨k, h3, cI, h4⟩, h5, k, h3, fun _ => ⟨cI, kI, h4, g1, g2⟩⟩
theorem st_A (hts : ∀ w ∈ lw_tbl, w.before args s = true) : ∃ A : Nat → ClassId, ∀ t : Nat, 100 ≤ t → t ≤ 107 → KAs s t (A t) := by
  obtain ⟨a0, x0⟩ := st_A0 (args := args) (s := s) (t := 100) (by decide) (hts (.arrayClass .int) (by decide +kernel))
  obtain ⟨a1, x1⟩ := st_A0 (args := args) (s := s) (t := 101) (by decide) (hts (.arrayClass .long) (by decide +kernel))
  obtain ⟨a2, x2⟩ := st_A0 (args := args) (s := s) (t := 102) (by decide) (hts (.arrayClass .byte) (by decide +kernel))
  obtain ⟨a3, x3⟩ := st_A0 (args := args) (s := s) (t := 103) (by decide) (hts (.arrayClass .boolean) (by decide +kernel))
  obtain ⟨a4, x4⟩ := st_A4 (args := args) (s := s) (t := 104) (nm := "LinesPromised$Order") (n := 6) rfl rfl (hts (.instantiable RX3 6) (by decide +kernel)) (hts (.arrayOver (.object "LinesPromised$Order")) (by decide +kernel))
  obtain ⟨a5, x5⟩ := st_A4 (args := args) (s := s) (t := 105) (nm := "LinesPromised$Paper") (n := 11) rfl rfl (hts (.instantiable RX4 11) (by decide +kernel)) (hts (.arrayOver (.object "LinesPromised$Paper")) (by decide +kernel))
  obtain ⟨a6, x6⟩ := st_A4 (args := args) (s := s) (t := 106) (nm := "LinesPromised$Sheet") (n := 3) rfl rfl (hts (.instantiable RX9 3) (by decide +kernel)) (hts (.arrayOver (.object "LinesPromised$Sheet")) (by decide +kernel))
  obtain ⟨a7, x7⟩ := st_A7 (args := args) (s := s) (hts (.arrayClass .int) (by decide +kernel)) (hts (.arrayOver (.array .int)) (by decide +kernel))
  refine ⟨fun t => [a0, a1, a2, a3, a4, a5, a6, a7].getD (t - 100) a0, fun t t0 t1 => ?_⟩
  have e : t = 100 ∨ t = 101 ∨ t = 102 ∨ t = 103 ∨ t = 104 ∨ t = 105 ∨ t = 106 ∨ t = 107 := by omega
  rcases e with rfl | rfl | rfl | rfl | rfl | rfl | rfl | rfl
  · exact x0
  · exact x1
  · exact x2
  · exact x3
  · exact x4
  · exact x5
  · exact x6
  · exact x7
theorem st_N (hts : ∀ w ∈ lw_tbl, w.before args s = true) : KN s := by
  refine ⟨va_Nw.of rfl (hts _ (by decide +kernel)), va_Nw.of rfl (hts _ (by decide +kernel)), va_Nw.of rfl (hts _ (by decide +kernel)), va_Nw.of rfl (hts _ (by decide +kernel)), va_Nw.of rfl (hts _ (by decide +kernel)), va_Nw.of rfl (hts _ (by decide +kernel)), va_AO.of (hts _ (by decide +kernel)), va_AO.of (hts _ (by decide +kernel)), va_AO.of (hts _ (by decide +kernel)), ?_⟩
  exact hts (.arrayOver (.array .int)) (by decide +kernel)
abbrev stL : Jvm.Cond := Jvm.Cond.and given_1 narrow_1
def Ao (s : State) : Nat → Prop := fun q => s.heap.size ≤ q
theorem Ao_no : ∀ a : Nat, a < s.heap.size → ¬ Ao s a := fun a h q => by unfold Ao at q; omega
def usL : List Int32 := [99, 2, 999, 50, 10, 1, 0]
def unL : List Int32 := [-1, 0, 1, 1, 0, 4, 0]
theorem st_T1 (hs : ∀ c ∈ flatC stL, c.before args s = true) (hts : ∀ w ∈ lw_tbl, w.before args s = true) : ∃ t, va_Z "LinesPromised" "USUAL" "[I" (.ref t) (Ao s) s s.heap ∧ va_T .int t 7 (fun j => .int (usL.getD j 0)) (Ao s) s s.heap := by
  have hl : (Term.length (.static "LinesPromised" "USUAL" "[I")).eval args s none [] s = some (.int 7) := va_eqt (hs (.eq (.length (.static "LinesPromised" "USUAL" "[I")) (.int 7)) (by decide +kernel))
  obtain ⟨t, e, T⟩ := va_Tof (f := fun j => .int (usL.getD j 0)) (N := 7) (A := Ao s) (by decide) (hs (.arrayOf (.static "LinesPromised" "USUAL" "[I") .int) (by decide +kernel)) hl (fun j hj => by
    match j, hj with
    | 0, _ => exact va_eqt (hs (.eq (.elem (.static "LinesPromised" "USUAL" "[I") (.int 0)) (.int 99)) (by decide +kernel))
    | 1, _ => exact va_eqt (hs (.eq (.elem (.static "LinesPromised" "USUAL" "[I") (.int 1)) (.int 2)) (by decide +kernel))
    | 2, _ => exact va_eqt (hs (.eq (.elem (.static "LinesPromised" "USUAL" "[I") (.int 2)) (.int 999)) (by decide +kernel))
    | 3, _ => exact va_eqt (hs (.eq (.elem (.static "LinesPromised" "USUAL" "[I") (.int 3)) (.int 50)) (by decide +kernel))
    | 4, _ => exact va_eqt (hs (.eq (.elem (.static "LinesPromised" "USUAL" "[I") (.int 4)) (.int 10)) (by decide +kernel))
    | 5, _ => exact va_eqt (hs (.eq (.elem (.static "LinesPromised" "USUAL" "[I") (.int 5)) (.int 1)) (by decide +kernel))
    | 6, _ => exact va_eqt (hs (.eq (.elem (.static "LinesPromised" "USUAL" "[I") (.int 6)) (.int 0)) (by decide +kernel))
    | k + 7, hj => omega) Ao_no
  exact ⟨t, va_Zof (hts (.laysStatic "LinesPromised" "USUAL" "[I") (by decide +kernel)) (hts (.initialized "LinesPromised") (by decide +kernel)) e Ao_no, T⟩
theorem st_T2 (hs : ∀ c ∈ flatC stL, c.before args s = true) (hts : ∀ w ∈ lw_tbl, w.before args s = true) : ∃ t, va_Z "LinesPromised" "UNDER" "[I" (.ref t) (Ao s) s s.heap ∧ va_T .int t 7 (fun j => .int (unL.getD j 0)) (Ao s) s s.heap := by
  have hl : (Term.length (.static "LinesPromised" "UNDER" "[I")).eval args s none [] s = some (.int 7) := va_eqt (hs (.eq (.length (.static "LinesPromised" "UNDER" "[I")) (.int 7)) (by decide +kernel))
  obtain ⟨t, e, T⟩ := va_Tof (f := fun j => .int (unL.getD j 0)) (N := 7) (A := Ao s) (by decide) (hs (.arrayOf (.static "LinesPromised" "UNDER" "[I") .int) (by decide +kernel)) hl (fun j hj => by
    match j, hj with
    | 0, _ => exact va_eqt (hs (.eq (.elem (.static "LinesPromised" "UNDER" "[I") (.int 0)) (.int (-1))) (by decide +kernel))
    | 1, _ => exact va_eqt (hs (.eq (.elem (.static "LinesPromised" "UNDER" "[I") (.int 1)) (.int 0)) (by decide +kernel))
    | 2, _ => exact va_eqt (hs (.eq (.elem (.static "LinesPromised" "UNDER" "[I") (.int 2)) (.int 1)) (by decide +kernel))
    | 3, _ => exact va_eqt (hs (.eq (.elem (.static "LinesPromised" "UNDER" "[I") (.int 3)) (.int 1)) (by decide +kernel))
    | 4, _ => exact va_eqt (hs (.eq (.elem (.static "LinesPromised" "UNDER" "[I") (.int 4)) (.int 0)) (by decide +kernel))
    | 5, _ => exact va_eqt (hs (.eq (.elem (.static "LinesPromised" "UNDER" "[I") (.int 5)) (.int 4)) (by decide +kernel))
    | 6, _ => exact va_eqt (hs (.eq (.elem (.static "LinesPromised" "UNDER" "[I") (.int 6)) (.int 0)) (by decide +kernel))
    | k + 7, hj => omega) Ao_no
  exact ⟨t, va_Zof (hts (.laysStatic "LinesPromised" "UNDER" "[I") (by decide +kernel)) (hts (.initialized "LinesPromised") (by decide +kernel)) e Ao_no, T⟩
theorem st_T3 (hs : ∀ c ∈ flatC stL, c.before args s = true) (hts : ∀ w ∈ lw_tbl, w.before args s = true) : ∃ t, va_Z "LinesPromised" "NO_CELLS" "[I" (.ref t) (Ao s) s s.heap ∧ va_T .int t 0 (fun _ => .int 0) (Ao s) s s.heap := by
  have hl : (Term.length (.static "LinesPromised" "NO_CELLS" "[I")).eval args s none [] s = some (.int 0) := va_eqt (hs (.eq (.length (.static "LinesPromised" "NO_CELLS" "[I")) (.int 0)) (by decide +kernel))
  obtain ⟨t, e, T⟩ := va_Tof (f := fun _ => .int 0) (N := 0) (A := Ao s) (by decide) (hs (.arrayOf (.static "LinesPromised" "NO_CELLS" "[I") .int) (by decide +kernel)) hl (fun j hj => by omega) Ao_no
  exact ⟨t, va_Zof (hts (.laysStatic "LinesPromised" "NO_CELLS" "[I") (by decide +kernel)) (hts (.initialized "LinesPromised") (by decide +kernel)) e Ao_no, T⟩
theorem st_Z (hs : ∀ c ∈ flatC stL, c.before args s = true) (hts : ∀ w ∈ lw_tbl, w.before args s = true) : va_Z "java/lang/String" "COMPACT_STRINGS" "Z" (.int 1) (Ao s) s s.heap ∧ va_Zq "jdk/internal/util/Preconditions" "SIOOBE_FORMATTER" "Ljava/util/function/BiFunction;" (Ao s) s s.heap :=
  ⟨va_Zof (hts (.laysStatic "java/lang/String" "COMPACT_STRINGS" "Z") (by decide +kernel)) (hts (.initialized "java/lang/String") (by decide +kernel)) (va_eqi (hs (.eq (.static "java/lang/String" "COMPACT_STRINGS" "Z") (.int 1)) (by decide +kernel))) Ao_no,
   va_Zqof (hts (.laysStatic "jdk/internal/util/Preconditions" "SIOOBE_FORMATTER" "Ljava/util/function/BiFunction;") (by decide +kernel)) (hts (.initialized "jdk/internal/util/Preconditions") (by decide +kernel)) (hs (.isRef (.static "jdk/internal/util/Preconditions" "SIOOBE_FORMATTER" "Ljava/util/function/BiFunction;")) (by decide +kernel)) Ao_no⟩
def tmO (i : Nat) : Term := .string "LinesPromised$Order" (wdO.getD i 0)
def tmM (i : Nat) : Term := .string "LinesPromisedModel" (wdM.getD i 0)
theorem st_S1 : ∀ i : Nat, i < 7 → (Cond.exactly (tmO i) "java/lang/String") ∈ flatC stL ∧ (Cond.eq (.field (tmO i) "java/lang/String" "coder" "B") (.int 0)) ∈ flatC stL ∧ (Cond.arrayOf (.field (tmO i) "java/lang/String" "value" "[B") .byte) ∈ flatC stL ∧ (Cond.eq (.length (.field (tmO i) "java/lang/String" "value" "[B")) (.int (Int32.ofNat (wdN.getD i 0)))) ∈ flatC stL ∧ (Cond.eq (tmO i) (tmM i)) ∈ flatC stL := by decide +kernel
theorem st_S2 : ∀ i : Nat, i < 7 → ∀ j : Nat, j < wdN.getD i 0 → (Cond.eq (.elem (.field (tmO i) "java/lang/String" "value" "[B") (.int (Int32.ofNat j))) (.int ((wdB.getD i []).getD j 0))) ∈ flatC stL := by decide +kernel
theorem st_S3 : ∀ i : Nat, i < 7 → ∀ j : Nat, j < 7 → i ≠ j → (Cond.not (Cond.eq (tmO i) (tmO j))) ∈ flatC stL ∨ (Cond.not (Cond.eq (tmO j) (tmO i))) ∈ flatC stL := by decide +kernel
theorem st_S4 : ∀ i : Nat, i < 7 → (Cond.stringRef "LinesPromised$Order" (wdO.getD i 0) (wdL.getD i "")) ∈ lw_tbl ∧ (Cond.stringRef "LinesPromisedModel" (wdM.getD i 0) (wdL.getD i "")) ∈ lw_tbl := by decide +kernel
theorem st_S (hs : ∀ c ∈ flatC stL, c.before args s = true) (hts : ∀ w ∈ lw_tbl, w.before args s = true) : ∃ K V : Nat → Nat, vk_S 7 wdN wdB K V (Ao s) s s.heap ∧ (∀ i : Nat, i < 7 → vk_R "LinesPromised$Order" (wdO.getD i 0) (wdL.getD i "") (K i) s) ∧ ∀ i : Nat, i < 7 → vk_R "LinesPromisedModel" (wdM.getD i 0) (wdL.getD i "") (K i) s := by
  obtain ⟨K, V, S, e⟩ := vk_Sof (tm := tmO) (len := wdN) (byt := wdB) (N := 7) (A := Ao s) (by decide) (fun i hi => hs _ (st_S1 i hi).1) (fun i hi => hs _ (st_S1 i hi).2.1) (fun i hi => hs _ (st_S1 i hi).2.2.1) (fun i hi => hs _ (st_S1 i hi).2.2.2.1) (fun i hi j hj => hs _ (st_S2 i hi j hj)) (fun i j hi hj n => (st_S3 i hi j hj n).imp (hs _) (hs _)) Ao_no
  exact ⟨K, V, S, fun i hi => vk_R.of (hts _ (st_S4 i hi).1) (e i hi), fun i hi => vk_R.of (hts _ (st_S4 i hi).2) (va_eqR (hs _ (st_S1 i hi).2.2.2.2) (e i hi))⟩
end STA
