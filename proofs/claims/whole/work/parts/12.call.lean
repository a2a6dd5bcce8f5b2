def rv (E : EV) (rk : Nat) (x : Int) : Option Value := if rk = 3 then none else some (cv E rk x)
def rsl (rk : Nat) (x : Int) : List (Nat × Int) := if rk = 3 then [] else [(rk, x)]
def Qm (E : EV) (s0 : Int) (rk : Nat) (Z : Int × MM) : Array Value → State → Outcome → State → Prop := fun _ st oc t => oc = .returned (rv E rk Z.1) ∧ (rk < 3 → cK rk Z.1) ∧ Rl E Z.2 t.heap ∧ s0 ≤ sl Z.2 ∧ va_F (fun q => eb E ≤ q) st t
def Rt (g : GT) (ret : Option FieldType) (rk : Nat) (Z : Int × MM) : Prop := (gM g).sig.returnType = ret ∧ gQ g = MQ (gb g) (Qm (gE g) (sl (gh g)) rk Z) (ga g) (gs g) (gR g).cells (gR g).slots (fun q => eb (gE g) ≤ q)
def canL : List Nat → List Int → Prop
  | [], [] => True
  | k :: ks, x :: xs => cK k x ∧ canL ks xs
  | _, _ => False
def cvL (E : EV) : List Nat → List Int → List Value
  | k :: ks, x :: xs => cv E k x :: cvL E ks xs
  | _, _ => []
/-- A METHOD'S CONTRACT: where its partial run comes to an end, the machine comes to the same end -/
def AM (l : Launch) (y : MethodName) (cc : ByteArray) (maxL : Nat) (ret : Option FieldType) (FR LO : Nat) (ks : List Nat) (rk : Nat) (f : List Int → MM → RR) : Prop :=
  ∀ (E : EV) (xs : List Int) (h : MM) (Z : Int × MM), canL ks xs → f xs h = some Z →
    Met l y (Cond.code y cc maxL ret :: wG) { frames := FR, cells := (NM - nx h).toNat, slots := (SM - sl h).toNat, locals := LO } (va_Pc (cvL E ks xs) (fun U => Rl E h U.heap ∧ KF E U)) (Qm E (sl h) rk Z) (NM - nx h).toNat (SM - sl h).toNat (fun q => eb E ≤ q)
def lvA : List Nat → List Int → List (Nat × Int)
  | 1 :: ks, x :: xs => (1, x) :: (4, 0) :: lvA ks xs
  | k :: ks, x :: xs => (k, x) :: lvA ks xs
  | _, _ => []
def lvE (ks : List Nat) (xs : List Int) (n : Nat) : List (Nat × Int) := lvA ks xs ++ List.replicate (n - (lvA ks xs).length) (3, 0)
theorem lvA_s {E : EV} : ∀ (ks : List Nat) (xs : List Int) (i n k : Nat) (x : Int), (lvA ks xs)[n]? = some (k, x) → k < 3 → (i + n, cv E k x) ∈ lv_args i (cvL E ks xs)
  | [], xs, i, n, k, x, h, hk => by simp [lvA] at h
  | k0 :: ks, [], i, n, k, x, h, hk => by
    have : lvA (k0 :: ks) [] = [] := by
      match k0 with
      | 0 => rfl
      | 1 => rfl
      | _ + 2 => rfl
    rw [this] at h; simp at h
  | k0 :: ks, x0 :: xs, i, n, k, x, h, hk => by
    by_cases h1 : k0 = 1
    · subst h1
      have e : lv_args i (cvL E (1 :: ks) (x0 :: xs)) = (i, cv E 1 x0) :: lv_args (i + 2) (cvL E ks xs) := rfl
      rw [e]
      have e2 : lvA (1 :: ks) (x0 :: xs) = (1, x0) :: (4, 0) :: lvA ks xs := rfl
      rw [e2] at h
      match n with
      | 0 => simp at h; obtain ⟨rfl, rfl⟩ := h; exact List.mem_cons_self
      | 1 => simp at h; omega
      | n + 2 =>
        have q := lvA_s (E := E) ks xs (i + 2) n k x (by simpa using h) hk
        rw [show i + (n + 2) = i + 2 + n by omega]
        exact List.mem_cons_of_mem _ q
    · have e : lv_args i (cvL E (k0 :: ks) (x0 :: xs)) = (i, cv E k0 x0) :: lv_args (i + 1) (cvL E ks xs) := by
        show lv_args i (cv E k0 x0 :: cvL E ks xs) = _
        have hc := cv_cat1 E h1 x0
        simp only [lv_args, hc]
        rfl
      rw [e]
      have e2 : lvA (k0 :: ks) (x0 :: xs) = (k0, x0) :: lvA ks xs := by
        match k0, h1 with
        | 0, _ => rfl
        | _ + 2, _ => rfl
      rw [e2] at h
      match n with
      | 0 => simp at h; obtain ⟨rfl, rfl⟩ := h; exact List.mem_cons_self
      | n + 1 =>
        have q := lvA_s (E := E) ks xs (i + 1) n k x (by simpa using h) hk
        rw [show i + (n + 1) = i + 1 + n by omega]
        exact List.mem_cons_of_mem _ q
theorem canL_len : ∀ {ks : List Nat} {xs : List Int}, canL ks xs → ks.length = xs.length
  | [], [], _ => rfl
  | [], _ :: _, h => by cases h
  | _ :: _, [], h => by cases h
  | k :: ks, x :: xs, h => by simp [canL_len h.2]
theorem cvL_len {E : EV} : ∀ {ks : List Nat} {xs : List Int}, canL ks xs → (cvL E ks xs).length = ks.length
  | [], [], _ => rfl
  | [], _ :: _, h => by cases h
  | _ :: _, [], h => by cases h
  | k :: ks, x :: xs, h => by
    have e : cvL E (k :: ks) (x :: xs) = cv E k x :: cvL E ks xs := rfl
    rw [e]; simp [cvL_len h.2]
theorem cvL_zip {E : EV} : ∀ (ks : List Nat) (xs : List Int), (List.zip ks xs).map (cvp E) = cvL E ks xs
  | [], xs => by
    have : cvL E [] xs = [] := by cases xs <;> rfl
    rw [this]; rfl
  | k :: ks, [] => rfl
  | k :: ks, x :: xs => by
    have e : cvL E (k :: ks) (x :: xs) = cv E k x :: cvL E ks xs := rfl
    rw [e, ← cvL_zip ks xs]; rfl
theorem lvA_len : ∀ (ks : List Nat) (xs : List Int), canL ks xs → ∀ E : EV, (lvA ks xs).length = (lg_sl (cvL E ks xs)).length
  | [], [], _, _ => rfl
  | [], _ :: _, h, _ => by cases h
  | _ :: _, [], h, _ => by cases h
  | k0 :: ks, x0 :: xs, h, E => by
    have q := lvA_len ks xs h.2 E
    by_cases h1 : k0 = 1
    · subst h1
      have e2 : lvA (1 :: ks) (x0 :: xs) = (1, x0) :: (4, 0) :: lvA ks xs := rfl
      have e3 : lg_sl (cvL E (1 :: ks) (x0 :: xs)) = .val (cv E 1 x0) :: .second :: lg_sl (cvL E ks xs) := rfl
      rw [e2, e3]; simp [q]
    · have e2 : lvA (k0 :: ks) (x0 :: xs) = (k0, x0) :: lvA ks xs := by
        match k0, h1 with
        | 0, _ => rfl
        | _ + 2, _ => rfl
      have e3 : lg_sl (cvL E (k0 :: ks) (x0 :: xs)) = .val (cv E k0 x0) :: lg_sl (cvL E ks xs) := by
        show lg_sl (cv E k0 x0 :: cvL E ks xs) = _
        have hc := cv_cat1 E h1 x0
        simp [lg_sl, hc]
      rw [e2, e3]; simp [q]
def catS : List (Nat × Int) → Nat
  | [] => 0
  | q :: l => (if q.1 = 1 then 2 else 1) + catS l
theorem catS_s {E : EV} : ∀ (l : List (Nat × Int)), ((l.map (cvp E)).map fun v => v.category).sum = catS l
  | [] => rfl
  | (k, x) :: l => by
    have q := catS_s (E := E) l
    simp only [List.map_cons, List.sum_cons]
    rw [q]
    show (cv E k x).category + catS l = (if k = 1 then 2 else 1) + catS l
    by_cases h1 : k = 1
    · subst h1; rfl
    · rw [if_neg h1, cv_cat1 E h1]
section RET
variable {g : GT} {cc : ByteArray} {nL : Nat} {y : MethodName} {FR LO : Nat} {pc : Nat} {lv st : List (Nat × Int)} {h : MM}
theorem Cx.fit (C : Cx g cc nL y FR LO) {H : Heap} {locs : List Loc} (R : RG g h H) (S : va_S (fun q => eb (gE g) ≤ q) (gs g).heap H locs) : H.size - (gs g).heap.size + (NM - nx h).toNat ≤ (gR g).cells ∧ ssum (eb (gE g)) H - ssum (eb (gE g)) (gs g).heap + (SM - sl h).toNat ≤ (gR g).slots := by
  rw [C.hrm]
  have a1 := R.1.2.1
  have a2 := C.hR.2.1
  have a3 := R.1.2.2.1
  have a4 := C.hR.2.2.1
  have a5 := R.1.2.2.2.2.1
  have a6 := C.hR.2.2.2.2.1
  have a7 := C.hR.2.2.2.2.2.1
  have a8 := R.2
  have a9 := S.1
  have b1 := R.1.2.2.2.1
  have b2 := R.1.2.2.2.2.2.2.1
  constructor
  · show _ ≤ (NM - nx (gh g)).toNat; omega
  · show _ ≤ (SM - sl (gh g)).toNat; omega
theorem r_iret (C : Cx g cc nL y FR LO) {x : Int} {ty : FieldType} (hr : Rt g (some ty) 0 (x, h)) (d : decode cc pc = .ok (.ireturn, 1)) (hn : narrow ty (.int (i32 x)) = .int (i32 x)) (cx : in32 x) : G g pc lv [(0, x)] h := by
  intro ls H locs l R S
  have hf := C.fit R S
  have hlk := C.hlk
  unfold GW
  rw [hr.2]
  refine W.widen (k := (gR g).cells) (n := (gR g).slots) (by omega) (by omega) ?_
  exact W.zret C.hx C.hb hr.1 hn (fun t ht hW => ⟨rfl, fun _ => cx, by rw [ht]; exact R.1, R.2, S.F ht⟩) S.2.2 d
theorem r_lret (C : Cx g cc nL y FR LO) {x : Int} (hr : Rt g (some .long) 1 (x, h)) (d : decode cc pc = .ok (.lreturn, 1)) (cx : in64 x) : G g pc lv [(1, x)] h := by
  intro ls H locs l R S
  have hf := C.fit R S
  have hlk := C.hlk
  unfold GW
  rw [hr.2]
  refine W.widen (k := (gR g).cells) (n := (gR g).slots) (by omega) (by omega) ?_
  exact W.lret C.hx C.hb hr.1 (fun t ht hW => ⟨rfl, fun _ => cx, by rw [ht]; exact R.1, R.2, S.F ht⟩) S.2.2 d
theorem r_aret (C : Cx g cc nL y FR LO) {x : Int} {ty : FieldType} (hr : Rt g (some ty) 2 (x, h)) (d : decode cc pc = .ok (.areturn, 1)) (hty : (∃ n, ty = .object n) ∨ ∃ t, ty = .array t) : G g pc lv [(2, x)] h := by
  intro ls H locs l R S
  have hf := C.fit R S
  have hlk := C.hlk
  unfold GW
  rw [hr.2]
  refine W.widen (k := (gR g).cells) (n := (gR g).slots) (by omega) (by omega) ?_
  exact W.aret C.hx C.hb hr.1 hty (v := cv (gE g) 2 x) (by
    by_cases hx : x = 0
    · subst hx; exact Or.inl rfl
    · exact Or.inr ⟨_, cv_ref hx⟩) (fun t ht hW => ⟨rfl, fun _ => trivial, by rw [ht]; exact R.1, R.2, S.F ht⟩) S.2.2 d
theorem r_vret (C : Cx g cc nL y FR LO) (hr : Rt g none 3 (0, h)) (d : decode cc pc = .ok (.return_, 1)) : G g pc lv [] h := by
  intro ls H locs l R S
  have hf := C.fit R S
  have hlk := C.hlk
  unfold GW
  rw [hr.2]
  refine W.widen (k := (gR g).cells) (n := (gR g).slots) (by omega) (by omega) ?_
  exact W.vret C.hx C.hb hr.1 (fun t ht hW => ⟨rfl, fun q => absurd q (by decide), by rw [ht]; exact R.1, R.2, S.F ht⟩) S.2.2 d
/-- what a callee asks at its start stands at the call -/
theorem Cx.blind {E : EV} {xs : List Value} : FrameBlind (va_Pc xs (fun U => Rl E h U.heap ∧ KF E U)) := fun _ U gg mk q => ⟨q.1, q.2.1, q.2.2.same (U := U.calling gg mk _) rfl rfl⟩
theorem Cx.pre (C : Cx g cc nL y FR LO) {H : Heap} {locs : List Loc} {xs : List Value} (R : RG g h H) (S : va_S (fun q => eb (gE g) ≤ q) (gs g).heap H locs) : ∀ U : State, U.heap = H → (gs g).WarmedH U.vm → va_Pc xs (fun U => Rl (gE g) h U.heap ∧ KF (gE g) U) xs.toArray U :=
  fun U hU hW => ⟨rfl, by rw [hU]; exact R.1, C.hK.moved hW (fun a h1 h2 => by rw [hU]; exact S.2.1 a h1 h2)⟩
theorem wG_sub {y' : MethodName} {cc' : ByteArray} {n' : Nat} {ret' : Option FieldType} (h : Cond.code y' cc' n' ret' ∈ wG) : GoodIn wG (Cond.code y' cc' n' ret' :: wG) := fun w hw => by
  have : w ∈ wG := by
    rcases List.mem_cons.mp hw with e | e
    · rw [e]; exact h
    · exact e
  exact ⟨this, good_of_word (List.mem_filter.mp this).2⟩
/-- behind a call -/
theorem G_run (C : Cx g cc nL y FR LO) {rk : Nat} {Z : Int × MM} {st0 st1 : List (Nat × Int)} {a : Array Value} (hst : st1 = rsl rk Z.1 ++ st) (hr : ∀ (ls : Array Slot) (H : Heap) (locs : List Loc), lvK (gE g) ls lv → RG g h H → va_S (fun q => eb (gE g) ≤ q) (gs g).heap H locs → va_Run (gp g) (gl g) (ge g) (gR g) (gs g) (gm g) (ga g) (gb g) (gM g) (gc g) H locs (H.size - (gs g).heap.size) (ssum (eb (gE g)) H - ssum (eb (gE g)) (gs g).heap) (NM - nx h).toNat (SM - sl h).toNat (F0 (gm g) pc ls (st0.map (cvp (gE g)))) (st.map (cvp (gE g))) (Qm (gE g) (sl h) rk Z a) (fun q => eb (gE g) ≤ q)) (k : (rk < 3 → cK rk Z.1) → G g (pc + 3) lv st1 Z.2) : G g pc lv st0 h := by
  intro ls H locs l R S T hT X
  obtain ⟨v, s0, t, T', L, h0, X', hL, e1, e2, ⟨ho, hcK, hRl, hsl, hF⟩, stp⟩ := hr ls H locs l R S T hT X
  have hv : v = rv (gE g) rk Z.1 := Outcome.returned.inj ho
  obtain ⟨hz, hk⟩ := hF
  rw [h0] at hz hk
  rw [← e1] at hz hk hRl
  have S' : va_S (fun q => eb (gE g) ≤ q) (gs g).heap T'.heap (locs ++ L) := ⟨Nat.le_trans S.1 hz, fun q q1 q2 => (hk q (Nat.lt_of_lt_of_le q1 S.1) q2).trans (S.2.1 q q1 q2), fun q hq => by
    rcases List.mem_append.mp hq with w | w
    · exact S.2.2 q w
    · exact hL q w⟩
  have hh0 := R.2
  obtain ⟨t2, a1, b1⟩ := (GW.tight C (k hcK ls T'.heap (locs ++ L) l ⟨hRl, Int.le_trans hh0 hsl⟩ S')) T' rfl X'
  refine ⟨t2, stp t2 ?_, b1⟩
  have e : st1.map (cvp (gE g)) = v.toList ++ st.map (cvp (gE g)) := by
    rw [hst, hv]
    unfold rsl rv
    split <;> rfl
  rw [e] at a1
  exact a1
end RET
