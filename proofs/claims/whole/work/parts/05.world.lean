/-! THE WORLD BEHIND THE MEMORY: class numbers, array classes, the base, where the old cells are -/
abbrev EV : Type := va_G × (Nat → ClassId) × (Nat → ClassId → Prop) × Nat × (Nat → Nat)
abbrev eD (E : EV) : va_G := E.1
abbrev eA (E : EV) : Nat → ClassId := E.2.1
abbrev eS (E : EV) : Nat → ClassId → Prop := E.2.2.1
abbrev eb (E : EV) : Nat := E.2.2.2.1
abbrev er (E : EV) : Nat → Nat := E.2.2.2.2
def ad (E : EV) (a : Int) : Nat := if 100 ≤ a then eb E + (a - 100).toNat else er E a.toNat
def cv (E : EV) : Nat → Int → Value
  | 0, x => .int (i32 x)
  | 1, x => .long (i64 x)
  | _ + 2, x => if x = 0 then .null else .ref (ad E x)
def cvp (E : EV) (q : Nat × Int) : Value := cv E q.1 q.2
def cK : Nat → Int → Prop
  | 0, x => in32 x
  | 1, x => in64 x
  | _ + 2, _ => True
def fkL : List (List Nat) := [[2, 2, 2, 2, 2, 2, 0], [2, 2, 2, 2, 2, 0], [2, 2, 2, 2, 2, 0, 0], [0, 2, 2, 2, 2, 0], [0, 0, 0, 2, 2, 0, 0, 0, 0, 0, 0], [2, 2, 2, 2, 2, 2, 1, 0, 0, 0], [2, 2, 0, 2, 2], [2, 0, 0, 2, 2, 0, 0, 0, 0], [2, 2, 2, 2, 2, 2, 2, 2, 0], [2, 0, 0], [2, 2, 2, 2, 2, 2, 2, 0, 0, 0, 0], [2, 2, 0, 2, 2, 2, 2], [0, 2, 2, 0, 0, 0, 0, 0, 2, 2, 2, 2, 2, 0, 2, 2, 2, 2, 2, 2, 2]]
def fk (c j : Nat) : Nat := (fkL.getD c []).getD j 0
def nf (c : Nat) : Nat := (fkL.getD c []).length
def aty : Nat → FieldType
  | 100 => .int
  | 101 => .long
  | 102 => .byte
  | 103 => .boolean
  | 104 => .object "LinesPromised$Order"
  | 105 => .object "LinesPromised$Paper"
  | 106 => .object "LinesPromised$Sheet"
  | _ => .array .int
def ek (t : Nat) : Nat := if t = 101 then 1 else if t < 104 then 0 else 2
def oOK (E : EV) (h : MM) (a : Int) (H : Heap) : Prop :=
  t_OB (ad E a) ((eD E).1 (tg h a).toNat) (nf (tg h a).toNat) ((eD E).2 (tg h a).toNat) H (fun j => cv E (fk (tg h a).toNat j) (mv h a (j : Int))) ∧ ∀ j : Nat, j < nf (tg h a).toNat → cK (fk (tg h a).toNat j) (mv h a (j : Int))
/-- an array's real size: for an old one, all that Java can tell of it -/
def szOK (a n : Int) (z : Nat) : Prop := n.toNat ≤ z ∧ z.toInt32 = i32 n ∧ (100 ≤ a → z = n.toNat)
theorem szOK_e {a n : Int} {z : Nat} (e : z = n.toNat) (h0 : 0 ≤ n) : szOK a n z := by
  refine ⟨by omega, ?_, fun _ => e⟩
  rw [e]
  show Int32.ofNat n.toNat = Int32.ofInt n
  rw [← Int32.ofInt_eq_ofNat, show ((n.toNat : Nat) : Int) = n by omega]
def aOK (E : EV) (h : MM) (a : Int) (H : Heap) : Prop :=
  ∃ cell : Cell, H[ad E a]? = some cell ∧ eS E (tg h a).toNat cell.cls ∧ cell.vm ≠ .unknown ∧ (∀ k, cell.vm ≠ .statics k) ∧ (100 ≤ a → cell.cls = eA E (tg h a).toNat ∧ cell.vm = .none ∧ cell.monitor = {} ∧ cell.hash = none) ∧ szOK a (ln h a) cell.slots.size ∧ 0 ≤ ln h a ∧ ln h a ≤ 2147483647 ∧
    ∀ j : Nat, (j : Int) < ln h a → cell.slots[j]? = some (cv E (ek (tg h a).toNat) (mv h a (j : Int))) ∧ cK (ek (tg h a).toNat) (mv h a (j : Int))
def sOK (h : MM) (a : Int) : Prop := ∃ i : Nat, i < 7 ∧ a = 10 + (i : Int) ∧ mv h a 0 = 30 + (i : Int) ∧ mv h a 1 = 0
def cOK (E : EV) (h : MM) (a : Int) (H : Heap) : Prop :=
  tg h a = -1 ∨ (0 ≤ tg h a ∧ 1 ≤ a ∧ a < nx h ∧ ((tg h a < 13 ∧ 100 ≤ a ∧ oOK E h a H) ∨ (tg h a = 13 ∧ a < 100 ∧ sOK h a) ∨ (100 ≤ tg h a ∧ tg h a ≤ 107 ∧ aOK E h a H)))
def Rl (E : EV) (h : MM) (H : Heap) : Prop :=
  (∀ a : Int, cOK E h a H) ∧ H.size = eb E + (nx h - 100).toNat ∧ 100 ≤ nx h ∧ nx h ≤ NM ∧ ssum (eb E) H = (sl h).toNat ∧ 0 ≤ sl h ∧ sl h ≤ SM ∧ (∀ k : Nat, er E k < eb E)
theorem ad_lt {E : EV} (hr : ∀ k : Nat, er E k < eb E) {a : Int} (h : a < 100) : ad E a < eb E := by
  unfold ad; rw [if_neg (by omega)]; exact hr _
theorem ad_ge {E : EV} {a : Int} (h : 100 ≤ a) : eb E ≤ ad E a := by
  unfold ad; rw [if_pos h]; omega
theorem ad_ne {E : EV} (hr : ∀ k : Nat, er E k < eb E) {a a' : Int} (h : 100 ≤ a) (hn : a' ≠ a) : ad E a' ≠ ad E a := by
  by_cases h' : 100 ≤ a'
  · unfold ad; rw [if_pos h, if_pos h']; omega
  · have h1 := ad_lt hr (a := a') (by omega)
    have h2 := ad_ge (E := E) h
    omega
theorem ad_new {E : EV} {h : MM} {H : Heap} (hz : H.size = eb E + (nx h - 100).toNat) (h1 : 100 ≤ nx h) : ad E (nx h) = H.size := by
  unfold ad; rw [if_pos h1, hz]
theorem Rl.cell {E : EV} {h : MM} {H : Heap} (R : Rl E h H) (a : Int) : cOK E h a H := R.1 a
theorem Rl.obj {E : EV} {h : MM} {H : Heap} (R : Rl E h H) {a : Int} {t : Nat} (ht : tg h a = (t : Int)) (h13 : t < 13) : 100 ≤ a ∧ a < nx h ∧ oOK E h a H := by
  rcases R.1 a with q | ⟨_, _, q1, q⟩
  · omega
  · rcases q with q | q | q
    · exact ⟨q.2.1, q1, q.2.2⟩
    · omega
    · omega
theorem Rl.arr {E : EV} {h : MM} {H : Heap} (R : Rl E h H) {a : Int} {t : Nat} (ht : tg h a = (t : Int)) (h1 : 100 ≤ t) : t ≤ 107 ∧ 1 ≤ a ∧ a < nx h ∧ aOK E h a H := by
  rcases R.1 a with q | ⟨_, q0, q1, q⟩
  · omega
  · rcases q with q | q | q
    · omega
    · omega
    · exact ⟨by omega, q0, q1, q.2.2⟩
theorem Rl.lt {E : EV} {h : MM} {H : Heap} (R : Rl E h H) {a : Int} (ha : 100 ≤ a) (hn : a < nx h) : ad E a < H.size := by
  have := R.2.1
  unfold ad; rw [if_pos ha]; omega
theorem cOK.kept {E : EV} {h : MM} {H H1 : Heap} {a : Int} (q : cOK E h a H) (hq : H1[ad E a]? = H[ad E a]?) : cOK E h a H1 := by
  rcases q with q | ⟨q0, q1, q2, q3⟩
  · exact Or.inl q
  · refine Or.inr ⟨q0, q1, q2, ?_⟩
    rcases q3 with ⟨a1, a2, a3, a4⟩ | a1 | ⟨a1, a2, cell, a3, a4⟩
    · exact Or.inl ⟨a1, a2, a3.kept hq, a4⟩
    · exact Or.inr (Or.inl a1)
    · exact Or.inr (Or.inr ⟨a1, a2, cell, by rw [hq]; exact a3, a4⟩)
theorem tg_ms (h : MM) (a i v b : Int) : tg (ms h a i v) b = tg h b := rfl
theorem ln_ms (h : MM) (a i v b : Int) : ln (ms h a i v) b = ln h b := rfl
theorem nx_ms (h : MM) (a i v : Int) : nx (ms h a i v) = nx h := rfl
theorem sl_ms (h : MM) (a i v : Int) : sl (ms h a i v) = sl h := rfl
theorem mv_ms (h : MM) (a i v b j : Int) : mv (ms h a i v) b j = if b = a ∧ j = i then v else mv h b j := rfl
theorem mv_ne {h : MM} {a i v b : Int} (hb : b ≠ a) (j : Int) : mv (ms h a i v) b j = mv h b j := by rw [mv_ms, if_neg (fun q => hb q.1)]
theorem cOK.ms_ne {E : EV} {h : MM} {H : Heap} {a i v b : Int} (hb : b ≠ a) (q : cOK E h b H) : cOK E (ms h a i v) b H := by
  unfold cOK oOK aOK sOK at q ⊢
  simp only [tg_ms, ln_ms, nx_ms, mv_ne hb] at q ⊢
  exact q
/-- one own cell is written -/
theorem Rl.put {E : EV} {h : MM} {H H1 : Heap} {a i v : Int} (R : Rl E h H) (ha : 100 ≤ a) (hz : H1.size = H.size) (ho : ∀ q : Nat, q ≠ ad E a → H1[q]? = H[q]?) (hs : (H1[ad E a]?).map (fun c => c.slots.size) = (H[ad E a]?).map (fun c => c.slots.size)) (hc : cOK E (ms h a i v) a H1) : Rl E (ms h a i v) H1 := by
  obtain ⟨r1, r2, r3, r4, r5, r6, r7, r8⟩ := R
  refine ⟨fun b => ?_, by rw [hz]; exact r2, r3, r4, ?_, r6, r7, r8⟩
  · by_cases hb : b = a
    · subst hb; exact hc
    · exact ((r1 b).kept (ho _ (ad_ne r8 ha hb))).ms_ne hb
  · rw [← show ssum (eb E) H = (sl (ms h a i v)).toNat from r5]
    refine ssum_keep hz (fun q => ?_)
    by_cases hq : q = ad E a
    · subst hq; exact hs
    · rw [ho q hq]
theorem tg_mn (h : MM) (t n b : Int) : tg (mn h t n) b = if b = nx h then t else tg h b := by
  show (if b = h.2.2.1 then (t, n) else h.2.1 b).1 = if b = h.2.2.1 then t else (h.2.1 b).1
  split <;> rfl
theorem ln_mn (h : MM) (t n b : Int) : ln (mn h t n) b = if b = nx h then n else ln h b := by
  show (if b = h.2.2.1 then (t, n) else h.2.1 b).2 = if b = h.2.2.1 then n else (h.2.1 b).2
  split <;> rfl
theorem mv_mn (h : MM) (t n b j : Int) : mv (mn h t n) b j = if b = nx h then 0 else mv h b j := rfl
theorem nx_mn (h : MM) (t n : Int) : nx (mn h t n) = nx h + 1 := rfl
theorem sl_mn (h : MM) (t n : Int) : sl (mn h t n) = sl h + n := rfl
theorem cOK.mn_ne {E : EV} {h : MM} {H : Heap} {t n b : Int} (hb : b ≠ nx h) (q : cOK E h b H) : cOK E (mn h t n) b H := by
  unfold cOK oOK aOK sOK at q ⊢
  simp only [tg_mn, ln_mn, mv_mn, nx_mn, if_neg hb] at q ⊢
  rcases q with q | ⟨q0, q1, q2, q3⟩
  · exact Or.inl q
  · exact Or.inr ⟨q0, q1, by omega, q3⟩
/-- a cell is made -/
theorem Rl.push {E : EV} {h : MM} {H H1 : Heap} {t n : Int} {c1 : Cell} (R : Rl E h H) (hN : nx h + 1 ≤ NM) (hS : sl h + n ≤ SM) (hn : 0 ≤ n) (hz : H1.size = H.size + 1) (ho : ∀ q : Nat, q < H.size → H1[q]? = H[q]?) (h1 : H1[H.size]? = some c1) (hs : c1.slots.size = n.toNat) (hc : cOK E (mn h t n) (nx h) H1) : Rl E (mn h t n) H1 := by
  obtain ⟨r1, r2, r3, r4, r5, r6, r7, r8⟩ := R
  refine ⟨fun b => ?_, by rw [hz, r2, nx_mn]; omega, by rw [nx_mn]; omega, by rw [nx_mn]; exact hN, ?_, by rw [sl_mn]; omega, by rw [sl_mn]; exact hS, r8⟩
  · by_cases hb : b = nx h
    · subst hb; exact hc
    · refine cOK.mn_ne hb ?_
      rcases r1 b with q | ⟨q0, q1, q2, q3⟩
      · exact Or.inl q
      · refine cOK.kept (Or.inr ⟨q0, q1, q2, q3⟩) (ho _ ?_)
        by_cases hb1 : 100 ≤ b
        · unfold ad; rw [if_pos hb1]; omega
        · have := ad_lt r8 (a := b) (by omega)
          omega
  · rw [ssum_push (by omega) hz h1 ho, r5, hs, sl_mn]; omega
/-! what is known of the tables, and of the old heap -/
def wdL : List String := ["slope ", "close ", "stroke ", "call ", "gap ", "park ", "let "]
def wdN : List Nat := [6, 6, 7, 5, 4, 5, 4]
def wdB : List (List Int32) := [[115, 108, 111, 112, 101, 32], [99, 108, 111, 115, 101, 32], [115, 116, 114, 111, 107, 101, 32], [99, 97, 108, 108, 32], [103, 97, 112, 32], [112, 97, 114, 107, 32], [108, 101, 116, 32]]
def wdO : List Nat := [50, 52, 54, 56, 58, 60, 62]
def wdM : List Nat := [89, 91, 93, 95, 97, 99, 101]
def KS (E : EV) (U : State) : Prop :=
  va_Z "LinesPromised" "UNDER" "[I" (.ref (er E 2)) (fun q => eb E ≤ q) U U.heap ∧ va_Z "LinesPromised" "NO_CELLS" "[I" (.ref (er E 3)) (fun q => eb E ≤ q) U U.heap ∧ va_Z "LinesPromised" "USUAL" "[I" (.ref (er E 4)) (fun q => eb E ≤ q) U U.heap ∧
  va_Z "java/lang/String" "COMPACT_STRINGS" "Z" (.int 1) (fun q => eb E ≤ q) U U.heap ∧ (va_Z "jdk/internal/util/Preconditions" "SIOOBE_FORMATTER" "Ljava/util/function/BiFunction;" .null (fun q => eb E ≤ q) U U.heap ∨ ∃ v : Int, v ≠ 0 ∧ va_Z "jdk/internal/util/Preconditions" "SIOOBE_FORMATTER" "Ljava/util/function/BiFunction;" (.ref (ad E v)) (fun q => eb E ≤ q) U U.heap) ∧
  vk_S 7 wdN wdB (fun i => er E (10 + i)) (fun i => er E (30 + i)) (fun q => eb E ≤ q) U U.heap ∧
  (∀ i : Nat, i < 7 → vk_R "LinesPromised$Order" (wdO.getD i 0) (wdL.getD i "") (er E (10 + i)) U) ∧ (∀ i : Nat, i < 7 → vk_R "LinesPromisedModel" (wdM.getD i 0) (wdL.getD i "") (er E (10 + i)) U)
def cnm : Nat → String
  | 104 => "LinesPromised$Order"
  | 105 => "LinesPromised$Paper"
  | 106 => "LinesPromised$Sheet"
  | _ => "[I"
/-- the class of the arrays that are made, and of those of references the component -/
def KA (E : EV) (U : State) (t : Nat) : Prop := U.vm.findClass ("[" ++ (aty t).toString) = some (eA E t) ∧ ∃ kA : Class, U.vm.classes[eA E t]? = some kA ∧ (104 ≤ t → ∃ (comp : ClassId) (kc : Class), kA.kind = .array comp (aty t) ∧ U.vm.findClass (cnm t) = some comp ∧ U.vm.classes[comp]? = some kc)
theorem KA.moved {E : EV} {u U : State} {t : Nat} (hvm : u.vm.Alike U.vm) (h : KA E u t) : KA E U t := by
  obtain ⟨h1, kA, h2, h3⟩ := h
  obtain ⟨k', hk', he⟩ := hvm.2.2 _ _ h2
  refine ⟨by rw [hvm.findClass]; exact h1, k', hk', fun ht => ?_⟩
  obtain ⟨comp, kc, a1, a2, a3⟩ := h3 ht
  obtain ⟨kc', hkc', -⟩ := hvm.2.2 _ _ a3
  exact ⟨comp, kc', by rw [he]; exact a1, by rw [hvm.findClass]; exact a2, hkc'⟩
def va_AI (U : State) : Prop := (Cond.arrayOver (.array .int)).before #[] U = true
theorem va_AI.moved {u U : State} (hvm : u.vm.Alike U.vm) (h : va_AI u) : va_AI U := by
  obtain ⟨comp, c, k, h1, h2, h3, h4, h5⟩ := arrayOverA_spec h
  obtain ⟨k', hk', he⟩ := hvm.2.2 _ _ h3
  have hi : (U.vm.classes.findIdx? fun (x : Class) => match x.kind with | .array component _ => component == comp | _ => false) = some c := by
    rw [hvm.findIdx?_eq _ (fun _ => rfl)]; exact h2
  have hkind : k'.kind = .array comp (.array .int) := by rw [he]; exact h4
  have f1 : U.vm.findClass (FieldType.array .int).toString = some comp := by rw [hvm.findClass]; exact h1
  have f2 : U.vm.findClass ("[" ++ (FieldType.array .int).toString) = some c := by rw [hvm.findClass]; exact h5
  unfold va_AI Cond.before Cond.holds
  simp only [Cond.value]
  rw [f1, Option.bind_some]
  refine (congrArg (fun o : Option Nat => (o.bind (fun c => (U.vm.classes[c]?).map fun (k : Class) => match k.kind with | .array _ ty => decide (ty = FieldType.array .int) && decide (U.vm.findClass ("[" ++ (FieldType.array .int).toString) = some c) | _ => false) == some true)) hi).trans ?_
  simp [hk', hkind, f2]
/-- words that want a care of their own -/
def KN (U : State) : Prop :=
  va_Nw (.fieldLinkNest "LinesPromised$World" 109 "LinesPromised" "USUAL" "[I" "LinesPromised") U ∧ va_Nw (.fieldLinkNest "LinesPromised$Paper" 46 "LinesPromised" "UNDER" "[I" "LinesPromised") U ∧
  va_Nw (.methodLinkNest "LinesPromised$Papers" 61 ⟨"LinesPromised", "within", "(JII)Z"⟩ "LinesPromised") U ∧ va_Nw (.methodLinkNest "LinesPromised$Land" 53 ⟨"LinesPromised", "within", "(JII)Z"⟩ "LinesPromised") U ∧
  va_Nw (.castable "[B" "java/lang/Cloneable") U ∧ va_Nw (.castable "[I" "java/lang/Cloneable") U ∧
  va_AO "LinesPromised$Order" U ∧ va_AO "LinesPromised$Paper" U ∧ va_AO "LinesPromised$Sheet" U ∧ va_AI U
theorem KN.moved {u U : State} (hW : u.WarmedH U.vm) (h : KN u) : KN U := by
  obtain ⟨h1, h2, h3, h4, h5, h6, h7, h8, h9, h10⟩ := h
  exact ⟨h1.warmF hW, h2.warmF hW, h3.warmM hW, h4.warmM hW, h5.warmC hW, h6.warmC hW, h7.moved hW.alike, h8.moved hW.alike, h9.moved hW.alike, h10.moved hW.alike⟩
theorem KN.same {u U : State} (hv : U.vm = u.vm) (h : KN u) : KN U := by
  obtain ⟨h1, h2, h3, h4, h5, h6, h7, h8, h9, h10⟩ := h
  have hvm : u.vm.Alike U.vm := by rw [hv]; exact Vm.Alike.refl _
  exact ⟨h1.same rfl hv.symm, h2.same rfl hv.symm, h3.same rfl hv.symm, h4.same rfl hv.symm, h5.same rfl hv.symm, h6.same rfl hv.symm, h7.moved hvm, h8.moved hvm, h9.moved hvm, h10.moved hvm⟩
def KF (E : EV) (U : State) : Prop :=
  va_K (eD E) vwCl [] U ∧ (∀ (t : Nat) (cell : Cell), 100 ≤ t → t ≤ 107 → eS E t cell.cls → (∀ k, cell.vm ≠ .statics k) → U.isArrayOf cell (aty t)) ∧ (∀ t : Nat, 100 ≤ t → t ≤ 107 → eS E t (eA E t) ∧ KA E U t) ∧ KS E U ∧ KN U
theorem KS.moved {E : EV} {u U : State} (hW : u.WarmedH U.vm) (hz : ∀ a : Nat, a < u.heap.size → ¬ eb E ≤ a → U.heap[a]? = u.heap[a]?) (h : KS E u) : KS E U := by
  obtain ⟨h1, h2, h3, h4, h5, h6, h7, h8⟩ := h
  have hvm : u.vm.Alike U.vm := hW.alike
  exact ⟨(h1.kept hz).moved hvm, (h2.kept hz).moved hvm, (h3.kept hz).moved hvm, (h4.kept hz).moved hvm, h5.imp (fun q => (q.kept hz).moved hvm) (fun ⟨v, v0, q⟩ => ⟨v, v0, (q.kept hz).moved hvm⟩), (h6.kept hz).moved hvm, fun i hi => vk_R.warm hW (h7 i hi), fun i hi => vk_R.warm hW (h8 i hi)⟩
theorem KS.same {E : EV} {u U : State} (hv : U.vm = u.vm) (hh : U.heap = u.heap) (h : KS E u) : KS E U := by
  obtain ⟨h1, h2, h3, h4, h5, h6, h7, h8⟩ := h
  have hvm : u.vm.Alike U.vm := by rw [hv]; exact Vm.Alike.refl _
  exact ⟨by rw [hh]; exact h1.moved hvm, by rw [hh]; exact h2.moved hvm, by rw [hh]; exact h3.moved hvm, by rw [hh]; exact h4.moved hvm, by rw [hh]; exact h5.imp (fun q => q.moved hvm) (fun ⟨v, v0, q⟩ => ⟨v, v0, q.moved hvm⟩), by rw [hh]; exact h6.moved hvm, fun i hi => vk_R.same hv (h7 i hi), fun i hi => vk_R.same hv (h8 i hi)⟩
theorem KF.moved {E : EV} {u U : State} (hW : u.WarmedH U.vm) (hz : ∀ a : Nat, a < u.heap.size → ¬ eb E ≤ a → U.heap[a]? = u.heap[a]?) (h : KF E u) : KF E U :=
  ⟨va_K.moved hW.alike h.1, fun t cell a b c d => State.isArrayOf_alike hW.alike (h.2.1 t cell a b c d), fun t a b => ⟨(h.2.2.1 t a b).1, (h.2.2.1 t a b).2.moved hW.alike⟩, h.2.2.2.1.moved hW hz, h.2.2.2.2.moved hW⟩
theorem KF.same {E : EV} {u U : State} (hv : U.vm = u.vm) (hh : U.heap = u.heap) (h : KF E u) : KF E U := by
  have hvm : u.vm.Alike U.vm := by rw [hv]; exact Vm.Alike.refl _
  exact ⟨va_K.moved hvm h.1, fun t cell a b c d => State.isArrayOf_alike hvm (h.2.1 t cell a b c d), fun t a b => ⟨(h.2.2.1 t a b).1, (h.2.2.1 t a b).2.moved hvm⟩, h.2.2.2.1.same hv hh, h.2.2.2.2.same hv⟩
