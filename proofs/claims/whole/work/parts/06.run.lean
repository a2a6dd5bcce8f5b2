/-! A RUN: everything that a walk carries along, as one value; the walk of the machine at an abstract state -/
abbrev GT : Type := EV × MM × Program × Launch × Env × Room × State × MethodId × Array Value × List Frame × Method × Code × (State → Prop)
abbrev gE (g : GT) : EV := g.1
abbrev gh (g : GT) : MM := g.2.1
abbrev gp (g : GT) : Program := g.2.2.1
abbrev gl (g : GT) : Launch := g.2.2.2.1
abbrev ge (g : GT) : Env := g.2.2.2.2.1
abbrev gR (g : GT) : Room := g.2.2.2.2.2.1
abbrev gs (g : GT) : State := g.2.2.2.2.2.2.1
abbrev gm (g : GT) : MethodId := g.2.2.2.2.2.2.2.1
abbrev ga (g : GT) : Array Value := g.2.2.2.2.2.2.2.2.1
abbrev gb (g : GT) : List Frame := g.2.2.2.2.2.2.2.2.2.1
abbrev gM (g : GT) : Method := g.2.2.2.2.2.2.2.2.2.2.1
abbrev gc (g : GT) : Code := g.2.2.2.2.2.2.2.2.2.2.2.1
abbrev gQ (g : GT) : State → Prop := g.2.2.2.2.2.2.2.2.2.2.2.2
def lvK (E : EV) (ls : Array Slot) (lv : List (Nat × Int)) : Prop := ls.size = lv.length ∧ lv_wf ls ∧ ∀ (i k : Nat) (x : Int), lv[i]? = some (k, x) → k < 3 → ls[i]? = some (.val (cv E k x))
def GW (g : GT) (H : Heap) (locs : List Loc) (f : JFrame) : Prop :=
  W (gp g) (gl g) (ge g) (gR g) (gs g) (gm g) (ga g) (gb g) (gM g) (gc g) H locs (H.size - (gs g).heap.size) (ssum (eb (gE g)) H - ssum (eb (gE g)) (gs g).heap) (gQ g) f
def RG (g : GT) (h : MM) (H : Heap) : Prop := Rl (gE g) h H ∧ sl (gh g) ≤ sl h
def G (g : GT) (pc : Nat) (lv st : List (Nat × Int)) (h : MM) : Prop :=
  ∀ (ls : Array Slot) (H : Heap) (locs : List Loc), lvK (gE g) ls lv → RG g h H → va_S (fun q => eb (gE g) ≤ q) (gs g).heap H locs → GW g H locs (F0 (gm g) pc ls (st.map (cvp (gE g))))
def Cx (g : GT) (cc : ByteArray) (nL : Nat) (y : MethodName) (FR LO : Nat) : Prop :=
  (gp g).tables.exec = Jvm.exec ∧ (gc g).code = cc ∧ (gc g).maxLocals = nL ∧ (gs g).vm.findClass y.cls = some (gm g).cls ∧ (∀ w ∈ wG, w.before (ga g) (gs g) = true) ∧ (gM g).locks = false ∧ KF (gE g) (gs g) ∧ Rl (gE g) (gh g) (gs g).heap ∧
  gR g = { frames := FR, cells := (NM - nx (gh g)).toNat, slots := (SM - sl (gh g)).toNat, locals := LO } ∧ (y.name = "<init>" → (gM g).name = y.name)
section CXP
variable {g : GT} {cc : ByteArray} {nL : Nat} {y : MethodName} {FR LO : Nat}
theorem Cx.hx (C : Cx g cc nL y FR LO) : (gp g).tables.exec = Jvm.exec := C.1
theorem Cx.hb (C : Cx g cc nL y FR LO) : (gc g).code = cc := C.2.1
theorem Cx.hml (C : Cx g cc nL y FR LO) : (gc g).maxLocals = nL := C.2.2.1
theorem Cx.hown (C : Cx g cc nL y FR LO) : (gs g).vm.findClass y.cls = some (gm g).cls := C.2.2.2.1
theorem Cx.hts (C : Cx g cc nL y FR LO) : ∀ w ∈ wG, w.before (ga g) (gs g) = true := C.2.2.2.2.1
theorem Cx.hlk (C : Cx g cc nL y FR LO) : (gM g).locks = false := C.2.2.2.2.2.1
theorem Cx.hK (C : Cx g cc nL y FR LO) : KF (gE g) (gs g) := C.2.2.2.2.2.2.1
theorem Cx.hR (C : Cx g cc nL y FR LO) : Rl (gE g) (gh g) (gs g).heap := C.2.2.2.2.2.2.2.1
theorem Cx.hrm (C : Cx g cc nL y FR LO) : gR g = { frames := FR, cells := (NM - nx (gh g)).toNat, slots := (SM - sl (gh g)).toNat, locals := LO } := C.2.2.2.2.2.2.2.2.1
theorem Cx.hnm (C : Cx g cc nL y FR LO) : y.name = "<init>" → (gM g).name = y.name := C.2.2.2.2.2.2.2.2.2
theorem Cx.eb_le (C : Cx g cc nL y FR LO) : eb (gE g) ≤ (gs g).heap.size := by have := C.hR.2.1; omega
/-- the sums are tight again -/
theorem GW.tight (C : Cx g cc nL y FR LO) {H : Heap} {locs : List Loc} {f : JFrame} {ce sn : Nat} (k : GW g H locs f) : W (gp g) (gl g) (ge g) (gR g) (gs g) (gm g) (ga g) (gb g) (gM g) (gc g) H locs ce sn (gQ g) f := W_tight C.eb_le k
end CXP
/-! the locals -/
def lvList (E : EV) : Nat → List (Nat × Int) → List (Nat × Value)
  | _, [] => []
  | i, q :: l => if q.1 < 3 then (i, cv E q.1 q.2) :: lvList E (i + 1) l else lvList E (i + 1) l
theorem lvList_mem {E : EV} : ∀ (l : List (Nat × Int)) (i j : Nat) (v : Value), (j, v) ∈ lvList E i l → ∃ (n k : Nat) (x : Int), j = i + n ∧ l[n]? = some (k, x) ∧ k < 3 ∧ v = cv E k x
  | [], i, j, v, h => by cases h
  | q :: l, i, j, v, h => by
    unfold lvList at h
    split at h
    · rcases List.mem_cons.mp h with h | h
      · cases h; exact ⟨0, q.1, q.2, rfl, rfl, by assumption, rfl⟩
      · obtain ⟨n, k, x, a1, a2, a3, a4⟩ := lvList_mem l (i + 1) j v h
        exact ⟨n + 1, k, x, by omega, a2, a3, a4⟩
    · obtain ⟨n, k, x, a1, a2, a3, a4⟩ := lvList_mem l (i + 1) j v h
      exact ⟨n + 1, k, x, by omega, a2, a3, a4⟩
theorem lvList_of {E : EV} : ∀ (l : List (Nat × Int)) (i n k : Nat) (x : Int), l[n]? = some (k, x) → k < 3 → (i + n, cv E k x) ∈ lvList E i l
  | [], i, n, k, x, h, _ => by simp at h
  | q :: l, i, n, k, x, h, hk => by
    unfold lvList
    cases n with
    | zero =>
      simp at h; subst h
      rw [if_pos hk]; exact List.mem_cons_self
    | succ n =>
      have h2 := lvList_of (E := E) l (i + 1) n k x (by simpa using h) hk
      rw [show i + (n + 1) = i + 1 + n by omega]
      split
      · exact List.mem_cons_of_mem _ h2
      · exact h2
theorem lvK.has {E : EV} {ls : Array Slot} {lv : List (Nat × Int)} (h : lvK E ls lv) : lv_has ls lv.length (lvList E 0 lv) :=
  ⟨h.1, h.2.1, fun q hq => by
    obtain ⟨n, k, x, a1, a2, a3, a4⟩ := lvList_mem lv 0 q.1 q.2 hq
    rw [a1, a4, Nat.zero_add]; exact h.2.2 n k x a2 a3⟩
theorem lvK.at {E : EV} {ls : Array Slot} {lv : List (Nat × Int)} (h : lvK E ls lv) {i k : Nat} {x : Int} (hi : lv[i]? = some (k, x)) (hk : k < 3) : ls[i]? = some (.val (cv E k x)) := h.2.2 i k x hi hk
theorem cv_cat1 (E : EV) {k : Nat} (hk : k ≠ 1) (x : Int) : (cv E k x).category = 1 := by
  match k, hk with
  | 0, _ => rfl
  | _ + 2, _ =>
    show (if x = 0 then Value.null else Value.ref (ad E x)).category = 1
    split <;> rfl
def okst : List (Nat × Int) → Nat → Bool
  | _, 0 => true
  | lv, i + 1 => match lv[i]? with
    | some (k, _) => k != 1
    | none => true
theorem okst_s {lv : List (Nat × Int)} {i j k : Nat} {x : Int} (h : okst lv i = true) (hj : j + 1 = i) (hk : lv[j]? = some (k, x)) : k ≠ 1 := by
  subst hj
  simp only [okst, hk] at h
  simpa using h
theorem lvK.st1 {E : EV} {ls' : Array Slot} {lv : List (Nat × Int)} {i k : Nat} {x : Int} (hi : i < lv.length) (ho : okst lv i = true) (h : lv_has ls' lv.length ((i, cv E k x) :: (lvList E 0 lv).filter (fun q => !(q.1 == i) && !(q.1 + 1 == i && q.2.category == 2)))) : lvK E ls' (lv.set i (k, x)) := by
  refine ⟨by rw [List.length_set]; exact h.1, h.2.1, fun j k' x' hj hk' => ?_⟩
  by_cases hij : j = i
  · subst hij
    rw [List.getElem?_set_self hi] at hj
    cases hj
    exact h.2.2 (j, cv E k x) List.mem_cons_self
  · rw [List.getElem?_set_ne (Ne.symm hij)] at hj
    have hm := lvList_of (E := E) lv 0 j k' x' hj hk'
    rw [Nat.zero_add] at hm
    refine h.2.2 (j, cv E k' x') (List.mem_cons_of_mem _ (List.mem_filter.mpr ⟨hm, ?_⟩))
    simp only [Bool.and_eq_true, Bool.not_eq_true', beq_eq_false_iff_ne, Bool.and_eq_false_iff]
    refine ⟨hij, ?_⟩
    by_cases hji : j + 1 = i
    · right
      rw [cv_cat1 E (okst_s ho hji hj)]; decide
    · left; exact hji
theorem lvK.st2 {E : EV} {ls' : Array Slot} {lv : List (Nat × Int)} {i : Nat} {x : Int} (hi : i + 1 < lv.length) (ho : okst lv i = true) (h : lv_has ls' lv.length ((i, cv E 1 x) :: (lvList E 0 lv).filter (fun q => !(q.1 == i) && (!(q.1 == i + 1) && !(q.1 + 1 == i && q.2.category == 2))))) : lvK E ls' ((lv.set i (1, x)).set (i + 1) (4, 0)) := by
  refine ⟨by rw [List.length_set, List.length_set]; exact h.1, h.2.1, fun j k' x' hj hk' => ?_⟩
  by_cases hij1 : j = i + 1
  · subst hij1
    rw [List.getElem?_set_self (by rw [List.length_set]; exact hi)] at hj
    cases hj
    omega
  rw [List.getElem?_set_ne (Ne.symm hij1)] at hj
  by_cases hij : j = i
  · subst hij
    rw [List.getElem?_set_self (by omega)] at hj
    cases hj
    exact h.2.2 (j, cv E 1 x) List.mem_cons_self
  · rw [List.getElem?_set_ne (Ne.symm hij)] at hj
    have hm := lvList_of (E := E) lv 0 j k' x' hj hk'
    rw [Nat.zero_add] at hm
    refine h.2.2 (j, cv E k' x') (List.mem_cons_of_mem _ (List.mem_filter.mpr ⟨hm, ?_⟩))
    simp only [Bool.and_eq_true, Bool.not_eq_true', beq_eq_false_iff_ne, Bool.and_eq_false_iff]
    refine ⟨hij, hij1, ?_⟩
    by_cases hji : j + 1 = i
    · right
      rw [cv_cat1 E (okst_s ho hji hj)]; decide
    · left; exact hji
/-- fewer locals are known -/
def lvL : List (Nat × Int) → List (Nat × Int) → Prop
  | [], [] => True
  | a :: l, b :: l' => (a = b ∨ 3 ≤ b.1) ∧ lvL l l'
  | _, _ => False
theorem lvL_s : ∀ {l l' : List (Nat × Int)}, lvL l l' → l.length = l'.length ∧ ∀ (i k : Nat) (x : Int), l'[i]? = some (k, x) → k < 3 → l[i]? = some (k, x)
  | [], [], _ => ⟨rfl, fun i k x h _ => h⟩
  | a :: l, b :: l', h => by
    obtain ⟨h1, h2⟩ := lvL_s h.2
    refine ⟨by simp [h1], fun i k x hi hk => ?_⟩
    cases i with
    | zero =>
      simp at hi ⊢; subst hi
      rcases h.1 with q | q
      · exact q
      · simp only at q; omega
    | succ i => simp at hi ⊢; exact h2 i k x hi hk
theorem lvK.less {E : EV} {ls : Array Slot} {l l' : List (Nat × Int)} (h : lvK E ls l) (hl : lvL l l') : lvK E ls l' := by
  obtain ⟨h1, h2⟩ := lvL_s hl
  exact ⟨h.1.trans h1, h.2.1, fun i k x hi hk => h.2.2 i k x (h2 i k x hi hk) hk⟩
theorem G.less {g : GT} {pc : Nat} {lv lv' st : List (Nat × Int)} {h : MM} (hl : lvL lv lv') (k : G g pc lv' st h) : G g pc lv st h := fun ls H locs a b c => k ls H locs (a.less hl) b c
