/-! SHORTEST WAYS, as pure numbers -/
def ce (a : Int) : Prop := 0 ≤ a ∧ a ≤ 79
def SP (e : Int → Int → Prop) (st : Int → Int → Int) (o : Int → Prop) (t : Int) (d : Int → Int) : Prop :=
  (∀ a b : Int, ce a → ce b → e a b → 0 ≤ d b → 0 ≤ d a ∧ d a ≤ st a b + d b) ∧
  (∀ a : Int, ce a → o a → 0 ≤ d a → a ≠ t → ∃ b, ce b ∧ e a b ∧ o b ∧ 0 ≤ d b ∧ d a = st a b + d b) ∧ d t = 0 ∧ ∀ a : Int, ce a → -1 ≤ d a
section SPP
variable {e : Int → Int → Prop} {st : Int → Int → Int} {o : Int → Prop} {t c k : Int} {d d' R R' U U' L : Int → Int}
theorem SP.le (S : SP e st o t d) (S' : SP e st o t d') (hs : ∀ a b : Int, ce a → ce b → e a b → 1 ≤ st a b) : ∀ (N : Nat) (a : Int), ce a → o a → 0 ≤ d a → d a ≤ (N : Int) → 0 ≤ d' a ∧ d' a ≤ d a
  | N, a, ca, oa, h0, h1 => by
    by_cases c : a = t
    · subst c
      have := S'.2.2.1
      omega
    · obtain ⟨b, cb, eb, ob, b0, be⟩ := S.2.1 a ca oa h0 c
      have s1 := hs a b ca cb eb
      cases N with
      | zero => omega
      | succ N =>
        have ih := SP.le S S' hs N b cb ob b0 (by omega)
        have z := S'.1 a b ca cb eb ih.1
        omega
theorem SP.eq (S : SP e st o t d) (S' : SP e st o t d') (hs : ∀ a b : Int, ce a → ce b → e a b → 1 ≤ st a b) {a : Int} (ca : ce a) (oa : o a) : d a = d' a := by
  have x := S.2.2.2 a ca
  have y := S'.2.2.2 a ca
  by_cases z : 0 ≤ d a
  · have u := SP.le S S' hs (d a).toNat a ca oa z (by omega)
    have v := SP.le S' S hs (d' a).toNat a ca oa u.1 (by omega)
    omega
  · by_cases w : 0 ≤ d' a
    · have v := SP.le S' S hs (d' a).toNat a ca oa w (by omega)
      omega
    · omega
theorem sumI_full {f : Int → Int} : ∀ {k : Nat}, (∀ i : Int, 0 ≤ i → i < (k : Int) → f i ≤ 1) → sumI f k = (k : Int) → ∀ i : Int, 0 ≤ i → i < (k : Int) → f i = 1
  | 0, _, _, i, i0, i1 => by omega
  | k + 1, q, s, i, i0, i1 => by
    have s' : sumI f k + f (k : Int) = ((k + 1 : Nat) : Int) := s
    have z := q (k : Int) (by omega) (by omega)
    have y : sumI f k ≤ (k : Int) := by
      have : ∀ m : Nat, (m : Int) ≤ (k : Int) → sumI f m ≤ (m : Int) := by
        intro m
        induction m with
        | zero => intro _; exact Int.le_refl _
        | succ m ih =>
          intro hm
          have a := ih (by omega)
          have b := q (m : Int) (by omega) (by omega)
          show sumI f m + f (m : Int) ≤ _
          omega
      exact this k (Int.le_refl _)
    by_cases c : i = (k : Int)
    · subst c; omega
    · exact sumI_full (k := k) (fun i a b => q i a (by omega)) (by omega) i i0 (by omega)
/-- the class's search: R what is known, U what is sure, after k rounds -/
def DI (e : Int → Int → Prop) (st : Int → Int → Int) (t k : Int) (R U : Int → Int) : Prop :=
  R t = 0 ∧ (∀ s : Int, ce s → U s = 0 ∨ U s = 1) ∧ sumI U 80 = k ∧ (∀ s a : Int, ce s → ce a → U s = 1 → e a s → R a ≤ R s + st a s) ∧ (∀ s u : Int, ce s → ce u → U s = 1 → U u = 0 → R s ≤ R u) ∧ (∀ x : Int, ce x → x ≠ t → R x < 1000000 → ∃ b, ce b ∧ e x b ∧ U b = 1 ∧ R x = st x b + R b) ∧ (∀ x : Int, ce x → 0 ≤ R x ∧ (R x = 1000000 ∨ R x ≤ 327 * k)) ∧ (∀ s : Int, ce s → U s = 1 → R s < 1000000)
theorem DI.step (D : DI e st t k R U) (ct : ce t) (hc : ce c) (uc : U c = 0) (rc : R c < 1000000) (mn : ∀ u : Int, ce u → U u = 0 → R c ≤ R u) (hs : ∀ a b : Int, ce a → ce b → e a b → 1 ≤ st a b ∧ st a b ≤ 327) (nl : ¬ e c c) (RX : ∀ x : Int, ce x → (R' x = R x ∧ (e x c → R x ≤ R c + st x c)) ∨ (e x c ∧ R' x = R c + st x c ∧ R c + st x c < R x)) (u1 : U' c = 1) (u2 : ∀ x : Int, x ≠ c → U' x = U x) (hk : 0 ≤ k ∧ k ≤ 79) : DI e st t (k + 1) R' U' := by
  obtain ⟨d1, d2, d3, d4, d5, d6, d7, d8⟩ := D
  have le : ∀ x, ce x → R' x ≤ R x := fun x cx => by
    rcases RX x cx with q | q <;> omega
  have su : ∀ s, ce s → U s = 1 → R' s = R s := fun s cs us => by
    rcases RX s cs with q | q
    · exact q.1
    · have a := d5 s c cs hc us uc
      have b := hs s c cs hc q.1
      omega
  have sc : R' c = R c := by
    rcases RX c hc with q | q
    · exact q.1
    · exact absurd q.1 nl
  have ge : ∀ u, ce u → U u = 0 → R c ≤ R' u := fun u cu uu => by
    rcases RX u cu with q | q
    · rw [q.1]; exact mn u cu uu
    · have b := hs u c cu hc q.1
      omega
  have c7 := d7 c hc
  refine ⟨?_, fun s cs => ?_, ?_, fun s a cs ca us es => ?_, fun s u cs cu us uu => ?_, fun x cx xt hx => ?_, fun x cx => ?_, fun s cs us => ?_⟩
  · rcases RX t ct with q | q
    · rw [q.1]; exact d1
    · have b := hs t c ct hc q.1
      omega
  · by_cases x : s = c
    · subst x; exact Or.inr u1
    · rw [u2 s x]; exact d2 s cs
  · have z := sumI_upd (f := U) (g := U') (a := c) (k := 80) hc.1 (by have := hc.2; omega) (fun i _ _ q => u2 i q)
    rw [z, d3, uc, u1]; omega
  · by_cases x : s = c
    · subst x
      rw [sc]
      rcases RX a ca with q | q
      · rw [q.1]; exact q.2 es
      · omega
    · rw [u2 s x] at us
      rw [su s cs us]
      have a1 := le a ca
      have a2 := d4 s a cs ca us es
      omega
  · have uc' : u ≠ c := fun y => by subst y; omega
    rw [u2 u uc'] at uu
    by_cases x : s = c
    · subst x
      rw [sc]; exact ge u cu uu
    · rw [u2 s x] at us
      rw [su s cs us]
      rcases RX u cu with q | q
      · rw [q.1]; exact d5 s u cs cu us uu
      · have a := d5 s c cs hc us uc
        have b := hs u c cu hc q.1
        omega
  · rcases RX x cx with q | q
    · rw [q.1] at hx ⊢
      obtain ⟨b, cb, eb, ub, be⟩ := d6 x cx xt hx
      have bc : b ≠ c := fun y => by subst y; omega
      exact ⟨b, cb, eb, by rw [u2 b bc]; exact ub, by rw [su b cb ub]; exact be⟩
    · exact ⟨c, hc, q.1, u1, by rw [sc]; omega⟩
  · rcases RX x cx with q | q
    · rw [q.1]
      have := d7 x cx
      omega
    · have b := hs x c cx hc q.1
      omega
  · by_cases x : s = c
    · subst x; omega
    · rw [u2 s x] at us
      rw [su s cs us]; exact d8 s cs us
theorem DI.fin (D : DI e st t k R U) (ct : ce t) (hk : 0 ≤ k ∧ k ≤ 80) (hs : ∀ a b : Int, ce a → ce b → e a b → 1 ≤ st a b ∧ st a b ≤ 327) (he : ∀ a b : Int, e a b → o a ∧ o b) (q : ∀ u : Int, ce u → U u = 0 → 1000000 ≤ R u) : SP e st o t (fun x => if R x < 1000000 then R x else -1) := by
  obtain ⟨d1, d2, d3, d4, d5, d6, d7, d8⟩ := D
  refine ⟨fun a b ca cb eb hb => ?_, fun a ca oa ha at' => ?_, ?_, fun a ca => ?_⟩
  · have b1 : R b < 1000000 := by
      by_cases z : R b < 1000000
      · exact z
      · simp only [if_neg z] at hb; omega
    have ub : U b = 1 := by
      rcases d2 b cb with z | z
      · have := q b cb z; omega
      · exact z
    have z := d4 b a cb ca ub eb
    have y := hs a b ca cb eb
    have x := d7 b cb
    have w := d7 a ca
    simp only [if_pos b1, if_pos (show R a < 1000000 by omega)]
    omega
  · have a1 : R a < 1000000 := by
      by_cases z : R a < 1000000
      · exact z
      · simp only [if_neg z] at ha; omega
    obtain ⟨b, cb, eb, ub, be⟩ := d6 a ca at' a1
    have b1 := d8 b cb ub
    have b7 := d7 b cb
    refine ⟨b, cb, eb, (he a b eb).2, ?_, ?_⟩
    · simp only [if_pos b1]; omega
    · simp only [if_pos b1, if_pos a1]; exact be
  · simp only [d1]; rfl
  · have := d7 a ca
    show -1 ≤ (if R a < 1000000 then R a else -1)
    split <;> omega
/-- the model's search: L what is known; every value has a way behind it -/
def fin1 (L : Int → Int) (x : Int) : Int := if L x = -1 then 0 else 1
def pot (L : Int → Int) (x : Int) : Int := if L x = -1 then 30000 else L x
def BF (e : Int → Int → Prop) (st : Int → Int → Int) (o : Int → Prop) (t : Int) (L : Int → Int) : Prop :=
  L t = 0 ∧ (∀ x : Int, ce x → L x = -1 ∨ (0 ≤ L x ∧ L x ≤ 327 * (sumI (fin1 L) 80 - 1))) ∧ (∀ x : Int, ce x → o x → 0 ≤ L x → x ≠ t → ∃ b, ce b ∧ e x b ∧ o b ∧ 0 ≤ L b ∧ st x b + L b ≤ L x)
theorem fin1_bd (L : Int → Int) (x : Int) : 0 ≤ fin1 L x ∧ fin1 L x ≤ 1 := by unfold fin1; split <;> omega
theorem fin1_sum (L : Int → Int) : 0 ≤ sumI (fin1 L) 80 ∧ sumI (fin1 L) 80 ≤ 80 := by
  have := sumI_bd (f := fin1 L) (B := 1) (k := 80) (fun i _ _ => fin1_bd L i)
  omega
theorem BF.bd (B : BF e st o t L) {x : Int} (cx : ce x) : L x = -1 ∨ (0 ≤ L x ∧ L x ≤ 25833) := by
  have a := fin1_sum L
  have b := B.2.1 x cx
  omega
theorem pot_bd (B : BF e st o t L) : 0 ≤ sumI (pot L) 80 ∧ sumI (pot L) 80 ≤ 2400000 := by
  have := sumI_bd (f := pot L) (B := 30000) (k := 80) (fun i i0 i1 => by
    have z := B.bd (x := i) ⟨i0, by omega⟩
    unfold pot; split <;> omega)
  omega
/-- one improvement: a gets v through b -/
theorem BF.up (B : BF e st o t L) {a b v : Int} {L' : Int → Int} (ca : ce a) (cb : ce b) (bf : 0 ≤ L b) (ve : v = st a b + L b) (eb : o a → e a b) (he : ∀ x y : Int, e x y → o x ∧ o y) (s1 : 1 ≤ st a b ∧ st a b ≤ 327) (lt : L a = -1 ∨ v < L a) (l1 : L' a = v) (l2 : ∀ x : Int, x ≠ a → L' x = L x) : BF e st o t L' ∧ sumI (pot L') 80 < sumI (pot L) 80 := by
  obtain ⟨b1, b2, b3⟩ := B
  have at' : a ≠ t := fun y => by subst y; omega
  have ab : a ≠ b := fun y => by subst y; omega
  have fa := sumI_upd (f := fin1 L) (g := fin1 L') (a := a) (k := 80) ca.1 (by have := ca.2; omega) (fun i _ _ q => by unfold fin1; rw [l2 i q])
  have pa := sumI_upd (f := pot L) (g := pot L') (a := a) (k := 80) ca.1 (by have := ca.2; omega) (fun i _ _ q => by unfold pot; rw [l2 i q])
  have f1 : fin1 L' a = 1 := by unfold fin1; rw [l1, if_neg (by omega)]
  have p1 : pot L' a = v := by unfold pot; rw [l1, if_neg (by omega)]
  have bb := b2 b cb
  have ba := b2 a ca
  have su := fin1_sum L
  have f0 := fin1_bd L a
  have fv : L a = -1 → fin1 L a = 0 := fun z => by unfold fin1; rw [if_pos z]
  have pv : pot L a = if L a = -1 then 30000 else L a := rfl
  refine ⟨⟨by rw [l2 t (fun y => at' y.symm)]; exact b1, fun x cx => ?_, fun x cx ox hx xt => ?_⟩, ?_⟩
  · rw [fa, f1]
    by_cases c : x = a
    · subst c
      rw [l1]
      rcases lt with z | z
      · have := fv z; omega
      · omega
    · rw [l2 x c]
      have := b2 x cx
      omega
  · by_cases c : x = a
    · subst c
      have ee := eb ox
      exact ⟨b, cb, ee, (he _ _ ee).2, by rw [l2 b (fun y => ab y.symm)]; exact bf, by rw [l2 b (fun y => ab y.symm), l1]; omega⟩
    · rw [l2 x c] at hx ⊢
      obtain ⟨y, cy, ey, oy, hy, le⟩ := b3 x cx ox hx xt
      by_cases c2 : y = a
      · subst c2
        exact ⟨y, cy, ey, oy, by rw [l1]; omega, by rw [l1]; omega⟩
      · exact ⟨y, cy, ey, oy, by rw [l2 y c2]; exact hy, by rw [l2 y c2]; exact le⟩
  · rw [pa, p1, pv]
    split <;> omega
theorem BF.fin (B : BF e st o t L) (ct : ce t) (q : ∀ a b : Int, ce a → ce b → e a b → 0 ≤ L b → L a ≠ -1 ∧ L a ≤ st a b + L b) : SP e st o t L := by
  obtain ⟨b1, b2, b3⟩ := B
  refine ⟨fun a b ca cb eb hb => ?_, fun a ca oa ha at' => ?_, b1, fun a ca => ?_⟩
  · have := q a b ca cb eb hb
    have := b2 a ca
    omega
  · obtain ⟨y, cy, ey, oy, hy, le⟩ := b3 a ca oa ha at'
    have := q a y ca cy ey hy
    exact ⟨y, cy, ey, oy, hy, by omega⟩
  · have := b2 a ca; omega
end SPP
