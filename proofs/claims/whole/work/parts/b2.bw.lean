/-! NO MIRROR WRITES BELOW 100. Made by gen/genlo.py of the mirrors. -/
def Lo (h h' : MM) : Prop := 100 ≤ nx h' ∧ 100 ≤ nx h ∧ nx h ≤ nx h' ∧ (∀ a : Int, a < nx h → h'.2.1 a = h.2.1 a) ∧ ∀ a : Int, a < 100 → ∀ j : Int, mv h' a j = mv h a j
def Lq (h : MM) (X : RR) : Prop := ∀ (r : Int) (h' : MM), X = some (r, h') → Lo h h'
section LOW
variable {h0 h : MM} {a t i j v s sp dp m : Int} {X Y : RR}
theorem Lo.refl (z : 100 ≤ nx h) : Lo h h := ⟨z, z, Int.le_refl _, fun _ _ => rfl, fun _ _ _ => rfl⟩
theorem Lo.trans {h1 h2 : MM} (A : Lo h h1) (B : Lo h1 h2) : Lo h h2 := ⟨B.1, A.2.1, Int.le_trans A.2.2.1 B.2.2.1, fun a q => (B.2.2.2.1 a (Int.lt_of_lt_of_le q A.2.2.1)).trans (A.2.2.2.1 a q), fun a q j => (B.2.2.2.2 a q j).trans (A.2.2.2.2 a q j)⟩
theorem Lo.xms (L : Lo h0 h) (q : 100 ≤ a) : Lo h0 (ms h a i v) := ⟨L.1, L.2.1, L.2.2.1, L.2.2.2.1, fun b q2 j => by rw [mv_o (by omega)]; exact L.2.2.2.2 b q2 j⟩
theorem Lo.xmn (L : Lo h0 h) : Lo h0 (mn h t m) := by
  obtain ⟨l1, l2, l3, l4, l5⟩ := L
  have n1 : nx h = h.2.2.1 := rfl
  refine ⟨by rw [nx_mn]; omega, l2, by rw [nx_mn]; omega, fun b q2 => ?_, fun b q2 j => ?_⟩
  · have e : (mn h t m).2.1 b = if b = h.2.2.1 then (t, m) else h.2.1 b := rfl
    rw [e, if_neg (by omega)]
    exact l4 b q2
  · rw [mv_mn, if_neg (by omega)]; exact l5 b q2 j
theorem Lo.xmc (L : Lo h0 h) (q : 100 ≤ a) : Lo h0 (mc h s sp a dp m) := ⟨L.1, L.2.1, L.2.2.1, L.2.2.2.1, fun b q2 j => by
  have e : mv (mc h s sp a dp m) b j = if b = a ∧ dp ≤ j ∧ j < dp + m then h.1 s (sp + (j - dp)) else h.1 b j := rfl
  rw [e, if_neg (by omega)]; exact L.2.2.2.2 b q2 j⟩
theorem Lo.xcl (L : Lo h0 h) : Lo h0 (cl h s) := by
  obtain ⟨l1, l2, l3, l4, l5⟩ := L
  have n1 : nx h = h.2.2.1 := rfl
  have n2 : nx (cl h s) = h.2.2.1 + 1 := rfl
  refine ⟨by omega, l2, by omega, fun b q2 => ?_, fun b q2 j => ?_⟩
  · have e : (cl h s).2.1 b = if b = h.2.2.1 then h.2.1 s else h.2.1 b := rfl
    rw [e, if_neg (by omega)]
    exact l4 b q2
  · have e : mv (cl h s) b j = if b = h.2.2.1 then (if 0 ≤ j ∧ j < (h.2.1 s).2 then h.1 s j else 0) else h.1 b j := rfl
    rw [e, if_neg (by omega)]; exact l5 b q2 j
theorem Lq.none : Lq h none := fun _ _ q => by cases q
theorem Lq.some {h1 : MM} (L : Lo h h1) : Lq h (some (v, h1)) := fun r h' q => by
  injection q with z; injection z with z1 z2; rw [← z2]; exact L
theorem Lq.tr (L : Lo h0 h) (Q : Lq h X) : Lq h0 X := fun r h' q => L.trans (Q r h' q)
theorem Lq.ite {P : Prop} {d : Decidable P} (A : Lq h0 X) (B : Lq h0 Y) : Lq h0 (@ite _ P d X Y) := by
  by_cases c : P
  · rw [if_pos c]; exact A
  · rw [if_neg c]; exact B
theorem Lq.xgf {k : Int → RR} (K : ∀ r, Lq h0 (k r)) : Lq h0 (gf h a t j k) := Lq.ite (K _) Lq.none
theorem Lq.xrd {k : Int → RR} (K : ∀ r, Lq h0 (k r)) : Lq h0 (rd h a t i k) := Lq.ite (K _) Lq.none
theorem Lq.xal {k : Int → RR} (K : ∀ r, Lq h0 (k r)) : Lq h0 (al h a t k) := Lq.ite (K _) Lq.none
theorem Lq.xlb {k : Int → RR} (K : ∀ r, Lq h0 (k r)) : Lq h0 (lb v k) := K v
theorem Lq.xpf {k : MM → RR} (L : Lo h0 h) (K : ∀ h1, Lo h0 h1 → Lq h0 (k h1)) : Lq h0 (pf h a t j v k) := by
  unfold pf
  by_cases c : tg h a = t ∧ 100 ≤ a
  · rw [if_pos c]; exact K _ (L.xms c.2)
  · rw [if_neg c]; exact Lq.none
theorem Lq.xwt {k : MM → RR} (L : Lo h0 h) (K : ∀ h1, Lo h0 h1 → Lq h0 (k h1)) : Lq h0 (wt h a t i v k) := by
  unfold wt
  by_cases c : tg h a = t ∧ 100 ≤ a ∧ 0 ≤ i ∧ i < ln h a
  · rw [if_pos c]; exact K _ (L.xms c.2.1)
  · rw [if_neg c]; exact Lq.none
theorem Lq.xnw {k : Int → MM → RR} (L : Lo h0 h) (K : ∀ r h1, Lo h0 h1 → Lq h0 (k r h1)) : Lq h0 (nw h t m k) := Lq.ite (K _ _ L.xmn) Lq.none
theorem Lq.xna {k : Int → MM → RR} (L : Lo h0 h) (K : ∀ r h1, Lo h0 h1 → Lq h0 (k r h1)) : Lq h0 (na h t m k) := Lq.ite (K _ _ L.xmn) Lq.none
theorem Lq.xcln {k : Int → MM → RR} (L : Lo h0 h) (K : ∀ r h1, Lo h0 h1 → Lq h0 (k r h1)) : Lq h0 (cln h t s k) := Lq.ite (K _ _ L.xcl) Lq.none
theorem Lq.xac {k : MM → RR} (L : Lo h0 h) (K : ∀ h1, Lo h0 h1 → Lq h0 (k h1)) : Lq h0 (ac h t s sp a dp m k) := by
  unfold ac
  by_cases c : acP h t s sp a dp m
  · rw [if_pos c]; exact K _ (L.xmc c.2.2.2.1)
  · rw [if_neg c]; exact Lq.none
theorem Lq.xck {b : Bool} (K : Lq h0 X) : Lq h0 (ck b X) := Lq.ite K Lq.none
theorem Lq.xgk (K : Lq h0 X) : Lq h0 (gk h a t X) := Lq.ite K Lq.none
theorem Lq.xgk2 (K : Lq h0 X) : Lq h0 (gk2 h a t X) := Lq.ite K Lq.none
theorem Lq.xgkz (K : Lq h0 X) : Lq h0 (gkz h a t X) := Lq.ite K Lq.none
theorem Lq.xnz (K : Lq h0 X) : Lq h0 (nz v X) := Lq.ite Lq.none K
theorem Lq.xdz (K : Lq h0 X) : Lq h0 (dz v X) := Lq.ite Lq.none K
theorem Lq.xbd {k : Int → MM → RR} (L : Lo h0 h) (Q : Lq h X) (K : ∀ r h1, Lo h0 h1 → Lq h0 (k r h1)) : Lq h0 (bd X k) := fun r h' q => by
  obtain ⟨v, h1, q1, q2⟩ := bd_s q
  exact K v h1 (L.trans (Q v h1 q1)) r h' q2
end LOW
theorem lo_f_X1_init {n : Nat} {v0 : Int} (h : MM) (z : 100 ≤ nx h) : Lq h (f_X1_init n v0 h) := by
  have L_h := Lo.refl z
  delta f_X1_init
  refine Lq.xnz ?_
  refine Lq.xna L_h fun _ h2 L_h2 => ?_
  refine Lq.xpf L_h2 fun h3 L_h3 => ?_
  refine Lq.xna L_h3 fun _ h4 L_h4 => ?_
  refine Lq.xpf L_h4 fun h5 L_h5 => ?_
  refine Lq.xna L_h5 fun _ h6 L_h6 => ?_
  refine Lq.xpf L_h6 fun h7 L_h7 => ?_
  refine Lq.xna L_h7 fun _ h8 L_h8 => ?_
  refine Lq.xpf L_h8 fun h9 L_h9 => ?_
  refine Lq.xna L_h9 fun _ h10 L_h10 => ?_
  refine Lq.xpf L_h10 fun h11 L_h11 => ?_
  exact Lq.some L_h11
theorem lo_f_X5_init {n : Nat} {v0 : Int} (h : MM) (z : 100 ≤ nx h) : Lq h (f_X5_init n v0 h) := by
  have L_h := Lo.refl z
  delta f_X5_init
  refine Lq.xnz ?_
  refine Lq.xna L_h fun _ h2 L_h2 => ?_
  refine Lq.xpf L_h2 fun h3 L_h3 => ?_
  refine Lq.xna L_h3 fun _ h4 L_h4 => ?_
  refine Lq.xpf L_h4 fun h5 L_h5 => ?_
  refine Lq.xna L_h5 fun _ h6 L_h6 => ?_
  refine Lq.xpf L_h6 fun h7 L_h7 => ?_
  refine Lq.xna L_h7 fun _ h8 L_h8 => ?_
  refine Lq.xpf L_h8 fun h9 L_h9 => ?_
  refine Lq.xna L_h9 fun _ h10 L_h10 => ?_
  refine Lq.xpf L_h10 fun h11 L_h11 => ?_
  refine Lq.xna L_h11 fun _ h12 L_h12 => ?_
  refine Lq.xpf L_h12 fun h13 L_h13 => ?_
  exact Lq.some L_h13
theorem lo_f_X8_init {n : Nat} {v0 : Int} (h : MM) (z : 100 ≤ nx h) : Lq h (f_X8_init n v0 h) := by
  have L_h := Lo.refl z
  delta f_X8_init
  refine Lq.xnz ?_
  refine Lq.xna L_h fun _ h2 L_h2 => ?_
  refine Lq.xpf L_h2 fun h3 L_h3 => ?_
  refine Lq.xna L_h3 fun _ h4 L_h4 => ?_
  refine Lq.xpf L_h4 fun h5 L_h5 => ?_
  refine Lq.xna L_h5 fun _ h6 L_h6 => ?_
  refine Lq.xpf L_h6 fun h7 L_h7 => ?_
  refine Lq.xna L_h7 fun _ h8 L_h8 => ?_
  refine Lq.xpf L_h8 fun h9 L_h9 => ?_
  refine Lq.xna L_h9 fun _ h10 L_h10 => ?_
  refine Lq.xpf L_h10 fun h11 L_h11 => ?_
  refine Lq.xna L_h11 fun _ h12 L_h12 => ?_
  refine Lq.xpf L_h12 fun h13 L_h13 => ?_
  refine Lq.xna L_h13 fun _ h14 L_h14 => ?_
  refine Lq.xpf L_h14 fun h15 L_h15 => ?_
  refine Lq.xna L_h15 fun _ h16 L_h16 => ?_
  refine Lq.xpf L_h16 fun h17 L_h17 => ?_
  exact Lq.some L_h17
theorem lo_f_X6_init {n : Nat} {v0 : Int} (h : MM) (z : 100 ≤ nx h) : Lq h (f_X6_init n v0 h) := by
  have L_h := Lo.refl z
  delta f_X6_init
  refine Lq.xnz ?_
  refine Lq.xna L_h fun _ h2 L_h2 => ?_
  refine Lq.xpf L_h2 fun h3 L_h3 => ?_
  refine Lq.xna L_h3 fun _ h4 L_h4 => ?_
  refine Lq.xpf L_h4 fun h5 L_h5 => ?_
  refine Lq.xna L_h5 fun _ h6 L_h6 => ?_
  refine Lq.xpf L_h6 fun h7 L_h7 => ?_
  refine Lq.xna L_h7 fun _ h8 L_h8 => ?_
  refine Lq.xpf L_h8 fun h9 L_h9 => ?_
  exact Lq.some L_h9
theorem lo_f_X9_init {n : Nat} {v0 : Int} (h : MM) (z : 100 ≤ nx h) : Lq h (f_X9_init n v0 h) := by
  have L_h := Lo.refl z
  delta f_X9_init
  refine Lq.xnz ?_
  refine Lq.xna L_h fun _ h2 L_h2 => ?_
  refine Lq.xpf L_h2 fun h3 L_h3 => ?_
  refine Lq.xpf L_h3 fun h4 L_h4 => ?_
  exact Lq.some L_h4
theorem lo_f_X10_init_76b {n : Nat} {rec76 : Int → MM → RR} {v0 : Int} {v1 : Int} (q_rec76 : ∀ (a0 : Int) (h : MM), 100 ≤ nx h → Lq h (rec76 a0 h)) (h : MM) (z : 100 ≤ nx h) : Lq h (f_X10_init_76b n rec76 v0 v1 h) := by
  have L_h := Lo.refl z
  delta f_X10_init_76b
  refine Lq.ite ?_ ?_
  exact Lq.some L_h
  refine Lq.xgf fun _ => ?_
  refine Lq.xnw L_h fun _ h3 L_h3 => ?_
  refine Lq.xnz ?_
  refine Lq.xbd L_h3 (lo_f_X9_init h3 L_h3.1) fun _ h4 L_h4 => ?_
  refine Lq.xgk ?_
  refine Lq.xwt L_h4 fun h5 L_h5 => ?_
  refine Lq.xlb fun _ => ?_
  exact Lq.tr L_h5 (q_rec76 _ h5 L_h5.1)
theorem lo_f_X10_init_76 {n : Nat} {v0 : Int} : ∀ (k : Nat) (v1 : Int) (h : MM), 100 ≤ nx h → Lq h (f_X10_init_76 n v0 k v1 h)
  | 0, _, _, _ => Lq.none
  | k + 1, v1, h, z => lo_f_X10_init_76b (fun b0 h z => lo_f_X10_init_76 k b0 h z) h z
theorem lo_f_X10_init {n : Nat} {v0 : Int} (h : MM) (z : 100 ≤ nx h) : Lq h (f_X10_init n v0 h) := by
  have L_h := Lo.refl z
  delta f_X10_init
  refine Lq.xnz ?_
  refine Lq.xnw L_h fun _ h2 L_h2 => ?_
  refine Lq.xnz ?_
  refine Lq.xbd L_h2 (lo_f_X1_init h2 L_h2.1) fun _ h3 L_h3 => ?_
  refine Lq.xpf L_h3 fun h4 L_h4 => ?_
  refine Lq.xnw L_h4 fun _ h5 L_h5 => ?_
  refine Lq.xnz ?_
  refine Lq.xbd L_h5 (lo_f_X5_init h5 L_h5.1) fun _ h6 L_h6 => ?_
  refine Lq.xpf L_h6 fun h7 L_h7 => ?_
  refine Lq.xnw L_h7 fun _ h8 L_h8 => ?_
  refine Lq.xnz ?_
  refine Lq.xbd L_h8 (lo_f_X8_init h8 L_h8.1) fun _ h9 L_h9 => ?_
  refine Lq.xpf L_h9 fun h10 L_h10 => ?_
  refine Lq.xnw L_h10 fun _ h11 L_h11 => ?_
  refine Lq.xnz ?_
  refine Lq.xbd L_h11 (lo_f_X6_init h11 L_h11.1) fun _ h12 L_h12 => ?_
  refine Lq.xpf L_h12 fun h13 L_h13 => ?_
  refine Lq.xna L_h13 fun _ h14 L_h14 => ?_
  refine Lq.xpf L_h14 fun h15 L_h15 => ?_
  refine Lq.xna L_h15 fun _ h16 L_h16 => ?_
  refine Lq.xpf L_h16 fun h17 L_h17 => ?_
  refine Lq.xna L_h17 fun _ h18 L_h18 => ?_
  refine Lq.xpf L_h18 fun h19 L_h19 => ?_
  exact Lq.tr L_h19 (lo_f_X10_init_76 _ _ h19 L_h19.1)
theorem lo_f_X7_init {n : Nat} {v0 : Int} (h : MM) (z : 100 ≤ nx h) : Lq h (f_X7_init n v0 h) := by
  have L_h := Lo.refl z
  delta f_X7_init
  refine Lq.xnz ?_
  refine Lq.xna L_h fun _ h2 L_h2 => ?_
  refine Lq.xpf L_h2 fun h3 L_h3 => ?_
  refine Lq.xna L_h3 fun _ h4 L_h4 => ?_
  refine Lq.xpf L_h4 fun h5 L_h5 => ?_
  refine Lq.xna L_h5 fun _ h6 L_h6 => ?_
  refine Lq.xpf L_h6 fun h7 L_h7 => ?_
  exact Lq.some L_h7
theorem lo_f_X0_init {n : Nat} {v0 : Int} (h : MM) (z : 100 ≤ nx h) : Lq h (f_X0_init n v0 h) := by
  have L_h := Lo.refl z
  delta f_X0_init
  refine Lq.xnz ?_
  refine Lq.xna L_h fun _ h2 L_h2 => ?_
  refine Lq.xpf L_h2 fun h3 L_h3 => ?_
  refine Lq.xna L_h3 fun _ h4 L_h4 => ?_
  refine Lq.xpf L_h4 fun h5 L_h5 => ?_
  refine Lq.xna L_h5 fun _ h6 L_h6 => ?_
  refine Lq.xpf L_h6 fun h7 L_h7 => ?_
  refine Lq.xna L_h7 fun _ h8 L_h8 => ?_
  refine Lq.xpf L_h8 fun h9 L_h9 => ?_
  refine Lq.xna L_h9 fun _ h10 L_h10 => ?_
  refine Lq.xpf L_h10 fun h11 L_h11 => ?_
  refine Lq.xna L_h11 fun _ h12 L_h12 => ?_
  refine Lq.xpf L_h12 fun h13 L_h13 => ?_
  exact Lq.some L_h13
theorem lo_f_X2_init {n : Nat} {v0 : Int} (h : MM) (z : 100 ≤ nx h) : Lq h (f_X2_init n v0 h) := by
  have L_h := Lo.refl z
  delta f_X2_init
  refine Lq.xnz ?_
  refine Lq.xna L_h fun _ h2 L_h2 => ?_
  refine Lq.xpf L_h2 fun h3 L_h3 => ?_
  refine Lq.xna L_h3 fun _ h4 L_h4 => ?_
  refine Lq.xpf L_h4 fun h5 L_h5 => ?_
  refine Lq.xna L_h5 fun _ h6 L_h6 => ?_
  refine Lq.xpf L_h6 fun h7 L_h7 => ?_
  refine Lq.xna L_h7 fun _ h8 L_h8 => ?_
  refine Lq.xpf L_h8 fun h9 L_h9 => ?_
  refine Lq.xna L_h9 fun _ h10 L_h10 => ?_
  refine Lq.xpf L_h10 fun h11 L_h11 => ?_
  exact Lq.some L_h11
theorem lo_f_X11_init {n : Nat} {v0 : Int} (h : MM) (z : 100 ≤ nx h) : Lq h (f_X11_init n v0 h) := by
  have L_h := Lo.refl z
  delta f_X11_init
  refine Lq.xnz ?_
  refine Lq.xnw L_h fun _ h2 L_h2 => ?_
  refine Lq.xnz ?_
  refine Lq.xbd L_h2 (lo_f_X10_init h2 L_h2.1) fun _ h3 L_h3 => ?_
  refine Lq.xpf L_h3 fun h4 L_h4 => ?_
  refine Lq.xnw L_h4 fun _ h5 L_h5 => ?_
  refine Lq.xnz ?_
  refine Lq.xbd L_h5 (lo_f_X10_init h5 L_h5.1) fun _ h6 L_h6 => ?_
  refine Lq.xpf L_h6 fun h7 L_h7 => ?_
  refine Lq.xna L_h7 fun _ h8 L_h8 => ?_
  refine Lq.xpf L_h8 fun h9 L_h9 => ?_
  refine Lq.xnw L_h9 fun _ h10 L_h10 => ?_
  refine Lq.xnz ?_
  refine Lq.xbd L_h10 (lo_f_X7_init h10 L_h10.1) fun _ h11 L_h11 => ?_
  refine Lq.xpf L_h11 fun h12 L_h12 => ?_
  refine Lq.xnw L_h12 fun _ h13 L_h13 => ?_
  refine Lq.xnz ?_
  refine Lq.xbd L_h13 (lo_f_X0_init h13 L_h13.1) fun _ h14 L_h14 => ?_
  refine Lq.xpf L_h14 fun h15 L_h15 => ?_
  refine Lq.xnw L_h15 fun _ h16 L_h16 => ?_
  refine Lq.xnz ?_
  refine Lq.xbd L_h16 (lo_f_X2_init h16 L_h16.1) fun _ h17 L_h17 => ?_
  refine Lq.xpf L_h17 fun h18 L_h18 => ?_
  exact Lq.some L_h18
theorem lo_f_X12_init_121b {n : Nat} {rec121 : Int → MM → RR} {v0 : Int} {v1 : Int} (q_rec121 : ∀ (a0 : Int) (h : MM), 100 ≤ nx h → Lq h (rec121 a0 h)) (h : MM) (z : 100 ≤ nx h) : Lq h (f_X12_init_121b n rec121 v0 v1 h) := by
  have L_h := Lo.refl z
  delta f_X12_init_121b
  refine Lq.ite ?_ ?_
  exact Lq.some L_h
  refine Lq.xgf fun _ => ?_
  refine Lq.xwt L_h fun h3 L_h3 => ?_
  refine Lq.xlb fun _ => ?_
  exact Lq.tr L_h3 (q_rec121 _ h3 L_h3.1)
theorem lo_f_X12_init_121 {n : Nat} {v0 : Int} : ∀ (k : Nat) (v1 : Int) (h : MM), 100 ≤ nx h → Lq h (f_X12_init_121 n v0 k v1 h)
  | 0, _, _, _ => Lq.none
  | k + 1, v1, h, z => lo_f_X12_init_121b (fun b0 h z => lo_f_X12_init_121 k b0 h z) h z
theorem lo_f_X12_init {n : Nat} {v0 : Int} (h : MM) (z : 100 ≤ nx h) : Lq h (f_X12_init n v0 h) := by
  have L_h := Lo.refl z
  delta f_X12_init
  refine Lq.xnz ?_
  refine Lq.xna L_h fun _ h2 L_h2 => ?_
  refine Lq.xpf L_h2 fun h3 L_h3 => ?_
  refine Lq.xna L_h3 fun _ h4 L_h4 => ?_
  refine Lq.xpf L_h4 fun h5 L_h5 => ?_
  refine Lq.xna L_h5 fun _ h6 L_h6 => ?_
  refine Lq.xpf L_h6 fun h7 L_h7 => ?_
  refine Lq.xna L_h7 fun _ h8 L_h8 => ?_
  refine Lq.xpf L_h8 fun h9 L_h9 => ?_
  refine Lq.xna L_h9 fun _ h10 L_h10 => ?_
  refine Lq.xpf L_h10 fun h11 L_h11 => ?_
  refine Lq.xna L_h11 fun _ h12 L_h12 => ?_
  refine Lq.xpf L_h12 fun h13 L_h13 => ?_
  refine Lq.xna L_h13 fun _ h14 L_h14 => ?_
  refine Lq.xpf L_h14 fun h15 L_h15 => ?_
  refine Lq.xna L_h15 fun _ h16 L_h16 => ?_
  refine Lq.xpf L_h16 fun h17 L_h17 => ?_
  refine Lq.xna L_h17 fun _ h18 L_h18 => ?_
  refine Lq.xpf L_h18 fun h19 L_h19 => ?_
  refine Lq.xna L_h19 fun _ h20 L_h20 => ?_
  refine Lq.xpf L_h20 fun h21 L_h21 => ?_
  refine Lq.xna L_h21 fun _ h22 L_h22 => ?_
  refine Lq.xpf L_h22 fun h23 L_h23 => ?_
  refine Lq.xna L_h23 fun _ h24 L_h24 => ?_
  refine Lq.xpf L_h24 fun h25 L_h25 => ?_
  refine Lq.xna L_h25 fun _ h26 L_h26 => ?_
  refine Lq.xpf L_h26 fun h27 L_h27 => ?_
  refine Lq.xna L_h27 fun _ h28 L_h28 => ?_
  refine Lq.xpf L_h28 fun h29 L_h29 => ?_
  exact Lq.tr L_h29 (lo_f_X12_init_121 _ _ h29 L_h29.1)
theorem lo_f_X11_within_19 {n : Nat} {s0 : Int} (h : MM) (z : 100 ≤ nx h) : Lq h (f_X11_within_19 n s0 h) := by
  have L_h := Lo.refl z
  delta f_X11_within_19
  refine Lq.xck ?_
  exact Lq.some L_h
theorem lo_f_X11_within_18 {n : Nat} (h : MM) (z : 100 ≤ nx h) : Lq h (f_X11_within_18 n h) := by
  have L_h := Lo.refl z
  delta f_X11_within_18
  exact Lq.tr L_h (lo_f_X11_within_19 h L_h.1)
theorem lo_f_X11_within {n : Nat} {v0 : Int} {v2 : Int} {v3 : Int} (h : MM) (z : 100 ≤ nx h) : Lq h (f_X11_within n v0 v2 v3 h) := by
  have L_h := Lo.refl z
  delta f_X11_within
  refine Lq.ite ?_ ?_
  exact Lq.tr L_h (lo_f_X11_within_18 h L_h.1)
  refine Lq.ite ?_ ?_
  exact Lq.tr L_h (lo_f_X11_within_18 h L_h.1)
  exact Lq.tr L_h (lo_f_X11_within_19 h L_h.1)
theorem lo_f_X11_land_21 {n : Nat} (h : MM) (z : 100 ≤ nx h) : Lq h (f_X11_land_21 n h) := by
  have L_h := Lo.refl z
  delta f_X11_land_21
  exact Lq.some L_h
theorem lo_f_X11_land_72 {n : Nat} {v1 : Int} {v3 : Int} {s0 : Int} (h : MM) (z : 100 ≤ nx h) : Lq h (f_X11_land_72 n v1 v3 s0 h) := by
  have L_h := Lo.refl z
  delta f_X11_land_72
  refine Lq.xrd fun _ => ?_
  refine Lq.xwt L_h fun h2 L_h2 => ?_
  exact Lq.some L_h2
theorem lo_f_X11_land_36 {n : Nat} {v0 : Int} {v1 : Int} {v2 : Int} {v3 : Int} {s0 : Int} {s1 : Int} {s2 : Int} (h : MM) (z : 100 ≤ nx h) : Lq h (f_X11_land_36 n v0 v1 v2 v3 s0 s1 s2 h) := by
  have L_h := Lo.refl z
  delta f_X11_land_36
  refine Lq.xbd L_h (lo_f_X11_within h L_h.1) fun _ h1 L_h1 => ?_
  refine Lq.ite ?_ ?_
  exact Lq.some L_h1
  refine Lq.ite ?_ ?_
  refine Lq.xgf fun _ => ?_
  refine Lq.xgf fun _ => ?_
  refine Lq.xgf fun _ => ?_
  exact Lq.tr L_h1 (lo_f_X11_land_72 h1 L_h1.1)
  refine Lq.xgf fun _ => ?_
  refine Lq.xgf fun _ => ?_
  refine Lq.xgf fun _ => ?_
  exact Lq.tr L_h1 (lo_f_X11_land_72 h1 L_h1.1)
theorem lo_f_X11_land {n : Nat} {v0 : Int} {v1 : Int} {v2 : Int} {v3 : Int} (h : MM) (z : 100 ≤ nx h) : Lq h (f_X11_land n v0 v1 v2 v3 h) := by
  have L_h := Lo.refl z
  delta f_X11_land
  refine Lq.xbd L_h (lo_f_X11_within h L_h.1) fun _ h1 L_h1 => ?_
  refine Lq.ite ?_ ?_
  exact Lq.tr L_h1 (lo_f_X11_land_21 h1 L_h1.1)
  refine Lq.xbd L_h1 (lo_f_X11_within h1 L_h1.1) fun _ h3 L_h3 => ?_
  refine Lq.ite ?_ ?_
  exact Lq.tr L_h3 (lo_f_X11_land_21 h3 L_h3.1)
  refine Lq.ite ?_ ?_
  exact Lq.tr L_h3 (lo_f_X11_land_36 h3 L_h3.1)
  exact Lq.tr L_h3 (lo_f_X11_land_36 h3 L_h3.1)
theorem lo_f_X1_isTaken_2b {n : Nat} {rec2 : Int → MM → RR} {v0 : Int} {v1 : Int} {v2 : Int} (q_rec2 : ∀ (a0 : Int) (h : MM), 100 ≤ nx h → Lq h (rec2 a0 h)) (h : MM) (z : 100 ≤ nx h) : Lq h (f_X1_isTaken_2b n rec2 v0 v1 v2 h) := by
  have L_h := Lo.refl z
  delta f_X1_isTaken_2b
  refine Lq.xgf fun _ => ?_
  refine Lq.ite ?_ ?_
  refine Lq.xck ?_
  exact Lq.some L_h
  refine Lq.xgf fun _ => ?_
  refine Lq.xrd fun _ => ?_
  refine Lq.ite ?_ ?_
  refine Lq.xck ?_
  exact Lq.some L_h
  refine Lq.xlb fun _ => ?_
  exact Lq.tr L_h (q_rec2 _ h L_h.1)
theorem lo_f_X1_isTaken_2 {n : Nat} {v0 : Int} {v1 : Int} : ∀ (k : Nat) (v2 : Int) (h : MM), 100 ≤ nx h → Lq h (f_X1_isTaken_2 n v0 v1 k v2 h)
  | 0, _, _, _ => Lq.none
  | k + 1, v2, h, z => lo_f_X1_isTaken_2b (fun b0 h z => lo_f_X1_isTaken_2 k b0 h z) h z
theorem lo_f_X1_isTaken {n : Nat} {v0 : Int} {v1 : Int} (h : MM) (z : 100 ≤ nx h) : Lq h (f_X1_isTaken n v0 v1 h) := by
  have L_h := Lo.refl z
  delta f_X1_isTaken
  exact Lq.tr L_h (lo_f_X1_isTaken_2 _ _ h L_h.1)
theorem lo_f_X1_found {n : Nat} {v0 : Int} {v1 : Int} {v2 : Int} (h : MM) (z : 100 ≤ nx h) : Lq h (f_X1_found n v0 v1 v2 h) := by
  have L_h := Lo.refl z
  delta f_X1_found
  refine Lq.xgf fun _ => ?_
  refine Lq.xgf fun _ => ?_
  refine Lq.xwt L_h fun h3 L_h3 => ?_
  refine Lq.xgf fun _ => ?_
  refine Lq.xgf fun _ => ?_
  refine Lq.xwt L_h3 fun h6 L_h6 => ?_
  refine Lq.xgf fun _ => ?_
  refine Lq.xpf L_h6 fun h8 L_h8 => ?_
  refine Lq.xgf fun _ => ?_
  exact Lq.some L_h8
theorem lo_f_X11_town {n : Nat} {v0 : Int} {v1 : Int} {v2 : Int} (h : MM) (z : 100 ≤ nx h) : Lq h (f_X11_town n v0 v1 v2 h) := by
  have L_h := Lo.refl z
  delta f_X11_town
  refine Lq.xbd L_h (lo_f_X11_within h L_h.1) fun _ h1 L_h1 => ?_
  refine Lq.ite ?_ ?_
  exact Lq.some L_h1
  refine Lq.xbd L_h1 (lo_f_X11_within h1 L_h1.1) fun _ h3 L_h3 => ?_
  refine Lq.ite ?_ ?_
  exact Lq.some L_h3
  refine Lq.xgf fun _ => ?_
  refine Lq.xgf fun _ => ?_
  refine Lq.xgk ?_
  refine Lq.xbd L_h3 (lo_f_X1_isTaken h3 L_h3.1) fun _ h7 L_h7 => ?_
  refine Lq.ite ?_ ?_
  refine Lq.xgf fun _ => ?_
  refine Lq.xgf fun _ => ?_
  refine Lq.xgf fun _ => ?_
  refine Lq.ite ?_ ?_
  refine Lq.xgf fun _ => ?_
  refine Lq.xgf fun _ => ?_
  refine Lq.xgk ?_
  refine Lq.xbd L_h7 (lo_f_X1_found h7 L_h7.1) fun _ h15 L_h15 => ?_
  exact Lq.some L_h15
  exact Lq.some L_h7
  exact Lq.some L_h7
theorem lo_f_X11_isHolder {n : Nat} {v0 : Int} (h : MM) (z : 100 ≤ nx h) : Lq h (f_X11_isHolder n v0 h) := by
  have L_h := Lo.refl z
  delta f_X11_isHolder
  refine Lq.xbd L_h (lo_f_X11_within h L_h.1) fun _ h1 L_h1 => ?_
  refine Lq.xck ?_
  exact Lq.some L_h1
theorem lo_f_X11_coin {n : Nat} {v0 : Int} {v1 : Int} {v2 : Int} (h : MM) (z : 100 ≤ nx h) : Lq h (f_X11_coin n v0 v1 v2 h) := by
  have L_h := Lo.refl z
  delta f_X11_coin
  refine Lq.xbd L_h (lo_f_X11_isHolder h L_h.1) fun _ h1 L_h1 => ?_
  refine Lq.ite ?_ ?_
  exact Lq.some L_h1
  refine Lq.xbd L_h1 (lo_f_X11_within h1 L_h1.1) fun _ h3 L_h3 => ?_
  refine Lq.ite ?_ ?_
  exact Lq.some L_h3
  refine Lq.xgf fun _ => ?_
  refine Lq.xgf fun _ => ?_
  refine Lq.xgf fun _ => ?_
  refine Lq.xrd fun _ => ?_
  refine Lq.xgf fun _ => ?_
  refine Lq.xgf fun _ => ?_
  refine Lq.xgf fun _ => ?_
  refine Lq.xwt L_h3 fun h12 L_h12 => ?_
  exact Lq.some L_h12
theorem lo_f_X11_man {n : Nat} {v0 : Int} {v1 : Int} (h : MM) (z : 100 ≤ nx h) : Lq h (f_X11_man n v0 v1 h) := by
  have L_h := Lo.refl z
  delta f_X11_man
  refine Lq.xbd L_h (lo_f_X11_within h L_h.1) fun _ h1 L_h1 => ?_
  refine Lq.ite ?_ ?_
  exact Lq.some L_h1
  refine Lq.xgf fun _ => ?_
  refine Lq.xgf fun _ => ?_
  refine Lq.xgf fun _ => ?_
  refine Lq.xpf L_h1 fun h6 L_h6 => ?_
  exact Lq.some L_h6
theorem lo_f_X11_feed_37b {n : Nat} {rec37 : Int → MM → RR} {v0 : Int} {v1 : Int} {v4 : Int} (q_rec37 : ∀ (a0 : Int) (h : MM), 100 ≤ nx h → Lq h (rec37 a0 h)) (h : MM) (z : 100 ≤ nx h) : Lq h (f_X11_feed_37b n rec37 v0 v1 v4 h) := by
  have L_h := Lo.refl z
  delta f_X11_feed_37b
  refine Lq.ite ?_ ?_
  refine Lq.xgf fun _ => ?_
  refine Lq.xgf fun _ => ?_
  exact Lq.some L_h
  refine Lq.xgf fun _ => ?_
  refine Lq.xgf fun _ => ?_
  refine Lq.xgf fun _ => ?_
  refine Lq.xgf fun _ => ?_
  refine Lq.xwt L_h fun h8 L_h8 => ?_
  refine Lq.xgf fun _ => ?_
  refine Lq.xgf fun _ => ?_
  refine Lq.xpf L_h8 fun h11 L_h11 => ?_
  refine Lq.xlb fun _ => ?_
  exact Lq.tr L_h11 (q_rec37 _ h11 L_h11.1)
theorem lo_f_X11_feed_37 {n : Nat} {v0 : Int} {v1 : Int} : ∀ (k : Nat) (v4 : Int) (h : MM), 100 ≤ nx h → Lq h (f_X11_feed_37 n v0 v1 k v4 h)
  | 0, _, _, _ => Lq.none
  | k + 1, v4, h, z => lo_f_X11_feed_37b (fun b0 h z => lo_f_X11_feed_37 k b0 h z) h z
theorem lo_f_X11_feed {n : Nat} {v0 : Int} {v1 : Int} {v3 : Int} (h : MM) (z : 100 ≤ nx h) : Lq h (f_X11_feed n v0 v1 v3 h) := by
  have L_h := Lo.refl z
  delta f_X11_feed
  refine Lq.xbd L_h (lo_f_X11_within h L_h.1) fun _ h1 L_h1 => ?_
  refine Lq.ite ?_ ?_
  exact Lq.some L_h1
  refine Lq.xgf fun _ => ?_
  refine Lq.xgf fun _ => ?_
  refine Lq.ite ?_ ?_
  refine Lq.xlb fun _ => ?_
  exact Lq.tr L_h1 (lo_f_X11_feed_37 _ _ h1 L_h1.1)
  exact Lq.some L_h1
theorem lo_f_X11_isDay {n : Nat} {v0 : Int} (h : MM) (z : 100 ≤ nx h) : Lq h (f_X11_isDay n v0 h) := by
  have L_h := Lo.refl z
  delta f_X11_isDay
  refine Lq.xbd L_h (lo_f_X11_within h L_h.1) fun _ h1 L_h1 => ?_
  refine Lq.xck ?_
  exact Lq.some L_h1
theorem lo_f_J7_copyOf_9075b {n : Nat} {v0 : Int} {v1 : Int} (h : MM) (z : 100 ≤ nx h) : Lq h (f_J7_copyOf_9075b n v0 v1 h) := by
  have L_h := Lo.refl z
  delta f_J7_copyOf_9075b
  refine Lq.xal fun _ => ?_
  refine Lq.ite ?_ ?_
  refine Lq.xcln L_h fun _ h6 L_h6 => ?_
  refine Lq.xgk2 ?_
  exact Lq.some L_h6
  refine Lq.xna L_h fun _ h3 L_h3 => ?_
  refine Lq.xal fun _ => ?_
  refine Lq.xac L_h3 fun h5 L_h5 => ?_
  exact Lq.some L_h5
theorem lo_f_J7_fill_53178_5b {n : Nat} {rec5 : Int → MM → RR} {v0 : Int} {v1 : Int} {v2 : Int} {v3 : Int} (q_rec5 : ∀ (a0 : Int) (h : MM), 100 ≤ nx h → Lq h (rec5 a0 h)) (h : MM) (z : 100 ≤ nx h) : Lq h (f_J7_fill_53178_5b n rec5 v0 v1 v2 v3 h) := by
  have L_h := Lo.refl z
  delta f_J7_fill_53178_5b
  refine Lq.ite ?_ ?_
  exact Lq.some L_h
  refine Lq.xwt L_h fun h2 L_h2 => ?_
  refine Lq.xlb fun _ => ?_
  exact Lq.tr L_h2 (q_rec5 _ h2 L_h2.1)
theorem lo_f_J7_fill_53178_5 {n : Nat} {v0 : Int} {v1 : Int} {v3 : Int} : ∀ (k : Nat) (v2 : Int) (h : MM), 100 ≤ nx h → Lq h (f_J7_fill_53178_5 n v0 v1 v3 k v2 h)
  | 0, _, _, _ => Lq.none
  | k + 1, v2, h, z => lo_f_J7_fill_53178_5b (fun b0 h z => lo_f_J7_fill_53178_5 k b0 h z) h z
theorem lo_f_J7_fill_53178 {n : Nat} {v0 : Int} {v1 : Int} (h : MM) (z : 100 ≤ nx h) : Lq h (f_J7_fill_53178 n v0 v1 h) := by
  have L_h := Lo.refl z
  delta f_J7_fill_53178
  refine Lq.xal fun _ => ?_
  exact Lq.tr L_h (lo_f_J7_fill_53178_5 _ _ h L_h.1)
theorem lo_f_X3_init {n : Nat} {v0 : Int} {v1 : Int} {v2 : Int} {v3 : Int} (h : MM) (z : 100 ≤ nx h) : Lq h (f_X3_init n v0 v1 v2 v3 h) := by
  have L_h := Lo.refl z
  delta f_X3_init
  refine Lq.xnz ?_
  refine Lq.xna L_h fun _ h2 L_h2 => ?_
  refine Lq.xpf L_h2 fun h3 L_h3 => ?_
  refine Lq.xna L_h3 fun _ h4 L_h4 => ?_
  refine Lq.xpf L_h4 fun h5 L_h5 => ?_
  refine Lq.xna L_h5 fun _ h6 L_h6 => ?_
  refine Lq.xpf L_h6 fun h7 L_h7 => ?_
  refine Lq.xpf L_h7 fun h8 L_h8 => ?_
  refine Lq.xbd L_h8 (lo_f_J7_copyOf_9075b h8 L_h8.1) fun _ h9 L_h9 => ?_
  refine Lq.xpf L_h9 fun h10 L_h10 => ?_
  refine Lq.xgf fun _ => ?_
  refine Lq.xbd L_h10 (lo_f_J7_fill_53178 h10 L_h10.1) fun _ h12 L_h12 => ?_
  exact Lq.some L_h12
theorem lo_f_X10_takeTape {n : Nat} {v0 : Int} {v1 : Int} (h : MM) (z : 100 ≤ nx h) : Lq h (f_X10_takeTape n v0 v1 h) := by
  have L_h := Lo.refl z
  delta f_X10_takeTape
  refine Lq.xnw L_h fun _ h1 L_h1 => ?_
  refine Lq.xgf fun _ => ?_
  refine Lq.xgf fun _ => ?_
  refine Lq.xnz ?_
  refine Lq.xbd L_h1 (lo_f_X3_init h1 L_h1.1) fun _ h4 L_h4 => ?_
  refine Lq.xpf L_h4 fun h5 L_h5 => ?_
  exact Lq.some L_h5
theorem lo_f_X3_nameOf {n : Nat} {v0 : Int} (h : MM) (z : 100 ≤ nx h) : Lq h (f_X3_nameOf n v0 h) := by
  have L_h := Lo.refl z
  delta f_X3_nameOf
  refine Lq.ite ?_ ?_
  exact Lq.some L_h
  refine Lq.ite ?_ ?_
  exact Lq.some L_h
  refine Lq.ite ?_ ?_
  exact Lq.some L_h
  refine Lq.ite ?_ ?_
  exact Lq.some L_h
  refine Lq.ite ?_ ?_
  exact Lq.some L_h
  refine Lq.ite ?_ ?_
  exact Lq.some L_h
  exact Lq.some L_h
theorem lo_f_J0_coder_7d493_14 {n : Nat} {s0 : Int} (h : MM) (z : 100 ≤ nx h) : Lq h (f_J0_coder_7d493_14 n s0 h) := by
  have L_h := Lo.refl z
  delta f_J0_coder_7d493_14
  refine Lq.xck ?_
  exact Lq.some L_h
theorem lo_f_J0_coder_7d493 {n : Nat} {v0 : Int} (h : MM) (z : 100 ≤ nx h) : Lq h (f_J0_coder_7d493 n v0 h) := by
  have L_h := Lo.refl z
  delta f_J0_coder_7d493
  refine Lq.xgf fun _ => ?_
  exact Lq.tr L_h (lo_f_J0_coder_7d493_14 h L_h.1)
theorem lo_f_J0_length_8abf5 {n : Nat} {v0 : Int} (h : MM) (z : 100 ≤ nx h) : Lq h (f_J0_length_8abf5 n v0 h) := by
  have L_h := Lo.refl z
  delta f_J0_length_8abf5
  refine Lq.xgf fun _ => ?_
  refine Lq.xal fun _ => ?_
  refine Lq.xgk ?_
  refine Lq.xbd L_h (lo_f_J0_coder_7d493 h L_h.1) fun _ h3 L_h3 => ?_
  exact Lq.some L_h3
theorem lo_f_J0_isLatin1_aae02_18 {n : Nat} {s0 : Int} (h : MM) (z : 100 ≤ nx h) : Lq h (f_J0_isLatin1_aae02_18 n s0 h) := by
  have L_h := Lo.refl z
  delta f_J0_isLatin1_aae02_18
  refine Lq.xck ?_
  exact Lq.some L_h
theorem lo_f_J0_isLatin1_aae02_17 {n : Nat} (h : MM) (z : 100 ≤ nx h) : Lq h (f_J0_isLatin1_aae02_17 n h) := by
  have L_h := Lo.refl z
  delta f_J0_isLatin1_aae02_17
  exact Lq.tr L_h (lo_f_J0_isLatin1_aae02_18 h L_h.1)
theorem lo_f_J0_isLatin1_aae02 {n : Nat} {v0 : Int} (h : MM) (z : 100 ≤ nx h) : Lq h (f_J0_isLatin1_aae02 n v0 h) := by
  have L_h := Lo.refl z
  delta f_J0_isLatin1_aae02
  refine Lq.xgf fun _ => ?_
  refine Lq.ite ?_ ?_
  exact Lq.tr L_h (lo_f_J0_isLatin1_aae02_18 h L_h.1)
  exact Lq.tr L_h (lo_f_J0_isLatin1_aae02_17 h L_h.1)
theorem lo_f_J3_checkIndex_8e157_9 {n : Nat} {v2 : Int} (h : MM) (z : 100 ≤ nx h) : Lq h (f_J3_checkIndex_8e157_9 n v2 h) := by
  have L_h := Lo.refl z
  delta f_J3_checkIndex_8e157_9
  exact Lq.none
theorem lo_f_J3_checkIndex_8e157 {n : Nat} {v0 : Int} {v1 : Int} {v2 : Int} (h : MM) (z : 100 ≤ nx h) : Lq h (f_J3_checkIndex_8e157 n v0 v1 v2 h) := by
  have L_h := Lo.refl z
  delta f_J3_checkIndex_8e157
  refine Lq.ite ?_ ?_
  exact Lq.tr L_h (lo_f_J3_checkIndex_8e157_9 h L_h.1)
  refine Lq.ite ?_ ?_
  exact Lq.some L_h
  exact Lq.tr L_h (lo_f_J3_checkIndex_8e157_9 h L_h.1)
theorem lo_f_J0_checkIndex_df160 {n : Nat} {v0 : Int} {v1 : Int} (h : MM) (z : 100 ≤ nx h) : Lq h (f_J0_checkIndex_df160 n v0 v1 h) := by
  have L_h := Lo.refl z
  delta f_J0_checkIndex_df160
  refine Lq.xbd L_h (lo_f_J3_checkIndex_8e157 h L_h.1) fun _ h2 L_h2 => ?_
  exact Lq.some L_h2
theorem lo_f_J1_charAt_3b067 {n : Nat} {v0 : Int} {v1 : Int} (h : MM) (z : 100 ≤ nx h) : Lq h (f_J1_charAt_3b067 n v0 v1 h) := by
  have L_h := Lo.refl z
  delta f_J1_charAt_3b067
  refine Lq.xal fun _ => ?_
  refine Lq.xbd L_h (lo_f_J0_checkIndex_df160 h L_h.1) fun _ h2 L_h2 => ?_
  refine Lq.xrd fun _ => ?_
  refine Lq.xck ?_
  exact Lq.some L_h2
theorem lo_f_J0_charAt_5068e {n : Nat} {v0 : Int} {v1 : Int} (h : MM) (z : 100 ≤ nx h) : Lq h (f_J0_charAt_5068e n v0 v1 h) := by
  have L_h := Lo.refl z
  delta f_J0_charAt_5068e
  refine Lq.xgk ?_
  refine Lq.xbd L_h (lo_f_J0_isLatin1_aae02 h L_h.1) fun _ h1 L_h1 => ?_
  refine Lq.ite ?_ ?_
  exact Lq.none
  refine Lq.xgf fun _ => ?_
  refine Lq.xbd L_h1 (lo_f_J1_charAt_3b067 h1 L_h1.1) fun _ h4 L_h4 => ?_
  refine Lq.xck ?_
  exact Lq.some L_h4
theorem lo_f_X3_fitting_49 {n : Nat} {v2 : Int} (h : MM) (z : 100 ≤ nx h) : Lq h (f_X3_fitting_49 n v2 h) := by
  have L_h := Lo.refl z
  delta f_X3_fitting_49
  exact Lq.some L_h
theorem lo_f_X3_fitting_2b {n : Nat} {rec2 : Int → MM → RR} {v0 : Int} {v1 : Int} {v2 : Int} (q_rec2 : ∀ (a0 : Int) (h : MM), 100 ≤ nx h → Lq h (rec2 a0 h)) (h : MM) (z : 100 ≤ nx h) : Lq h (f_X3_fitting_2b n rec2 v0 v1 v2 h) := by
  have L_h := Lo.refl z
  delta f_X3_fitting_2b
  refine Lq.xgk ?_
  refine Lq.xbd L_h (lo_f_J0_length_8abf5 h L_h.1) fun _ h1 L_h1 => ?_
  refine Lq.ite ?_ ?_
  exact Lq.tr L_h1 (lo_f_X3_fitting_49 h1 L_h1.1)
  refine Lq.xgf fun _ => ?_
  refine Lq.xgf fun _ => ?_
  refine Lq.xal fun _ => ?_
  refine Lq.ite ?_ ?_
  exact Lq.tr L_h1 (lo_f_X3_fitting_49 h1 L_h1.1)
  refine Lq.xgf fun _ => ?_
  refine Lq.xgf fun _ => ?_
  refine Lq.xrd fun _ => ?_
  refine Lq.xgk ?_
  refine Lq.xbd L_h1 (lo_f_J0_charAt_5068e h1 L_h1.1) fun _ h10 L_h10 => ?_
  refine Lq.ite ?_ ?_
  refine Lq.xlb fun _ => ?_
  exact Lq.tr L_h10 (q_rec2 _ h10 L_h10.1)
  exact Lq.tr L_h10 (lo_f_X3_fitting_49 h10 L_h10.1)
theorem lo_f_X3_fitting_2 {n : Nat} {v0 : Int} {v1 : Int} : ∀ (k : Nat) (v2 : Int) (h : MM), 100 ≤ nx h → Lq h (f_X3_fitting_2 n v0 v1 k v2 h)
  | 0, _, _, _ => Lq.none
  | k + 1, v2, h, z => lo_f_X3_fitting_2b (fun b0 h z => lo_f_X3_fitting_2 k b0 h z) h z
theorem lo_f_X3_fitting {n : Nat} {v0 : Int} {v1 : Int} (h : MM) (z : 100 ≤ nx h) : Lq h (f_X3_fitting n v0 v1 h) := by
  have L_h := Lo.refl z
  delta f_X3_fitting
  exact Lq.tr L_h (lo_f_X3_fitting_2 _ _ h L_h.1)
theorem lo_f_X3_readWord_4b {n : Nat} {rec4 : Int → Int → MM → RR} {v0 : Int} {v1 : Int} {v2 : Int} (q_rec4 : ∀ (a0 a1 : Int) (h : MM), 100 ≤ nx h → Lq h (rec4 a0 a1 h)) (h : MM) (z : 100 ≤ nx h) : Lq h (f_X3_readWord_4b n rec4 v0 v1 v2 h) := by
  have L_h := Lo.refl z
  delta f_X3_readWord_4b
  refine Lq.ite ?_ ?_
  refine Lq.xgf fun _ => ?_
  refine Lq.xpf L_h fun h3 L_h3 => ?_
  exact Lq.some L_h3
  refine Lq.xbd L_h (lo_f_X3_nameOf h L_h.1) fun _ h4 L_h4 => ?_
  refine Lq.xgk ?_
  refine Lq.xbd L_h4 (lo_f_X3_fitting h4 L_h4.1) fun _ h5 L_h5 => ?_
  refine Lq.xgk ?_
  refine Lq.xbd L_h5 (lo_f_J0_length_8abf5 h5 L_h5.1) fun _ h6 L_h6 => ?_
  refine Lq.ite ?_ ?_
  refine Lq.xgf fun _ => ?_
  refine Lq.xpf L_h6 fun h11 L_h11 => ?_
  exact Lq.some L_h11
  refine Lq.xlb fun _ => ?_
  refine Lq.xlb fun _ => ?_
  exact Lq.tr L_h6 (q_rec4 _ _ h6 L_h6.1)
theorem lo_f_X3_readWord_4 {n : Nat} {v0 : Int} : ∀ (k : Nat) (v1 v2 : Int) (h : MM), 100 ≤ nx h → Lq h (f_X3_readWord_4 n v0 k v1 v2 h)
  | 0, _, _, _, _ => Lq.none
  | k + 1, v1, v2, h, z => lo_f_X3_readWord_4b (fun b0 b1 h z => lo_f_X3_readWord_4 k b0 b1 h z) h z
theorem lo_f_X3_readWord {n : Nat} {v0 : Int} (h : MM) (z : 100 ≤ nx h) : Lq h (f_X3_readWord n v0 h) := by
  have L_h := Lo.refl z
  delta f_X3_readWord
  exact Lq.tr L_h (lo_f_X3_readWord_4 _ _ _ h L_h.1)
theorem lo_f_X3_peek_25 {n : Nat} {s0 : Int} (h : MM) (z : 100 ≤ nx h) : Lq h (f_X3_peek_25 n s0 h) := by
  have L_h := Lo.refl z
  delta f_X3_peek_25
  exact Lq.some L_h
theorem lo_f_X3_peek {n : Nat} {v0 : Int} (h : MM) (z : 100 ≤ nx h) : Lq h (f_X3_peek n v0 h) := by
  have L_h := Lo.refl z
  delta f_X3_peek
  refine Lq.xgf fun _ => ?_
  refine Lq.xgf fun _ => ?_
  refine Lq.xal fun _ => ?_
  refine Lq.ite ?_ ?_
  exact Lq.tr L_h (lo_f_X3_peek_25 h L_h.1)
  refine Lq.xgf fun _ => ?_
  refine Lq.xgf fun _ => ?_
  refine Lq.xrd fun _ => ?_
  exact Lq.tr L_h (lo_f_X3_peek_25 h L_h.1)
theorem lo_f_X3_factOf {n : Nat} {v0 : Int} (h : MM) (z : 100 ≤ nx h) : Lq h (f_X3_factOf n v0 h) := by
  have L_h := Lo.refl z
  delta f_X3_factOf
  refine Lq.ite ?_ ?_
  exact Lq.some L_h
  refine Lq.ite ?_ ?_
  exact Lq.some L_h
  refine Lq.ite ?_ ?_
  exact Lq.some L_h
  refine Lq.ite ?_ ?_
  exact Lq.some L_h
  refine Lq.ite ?_ ?_
  exact Lq.some L_h
  refine Lq.ite ?_ ?_
  exact Lq.some L_h
  exact Lq.some L_h
theorem lo_f_X3_comparedGauge_42 {n : Nat} {s0 : Int} (h : MM) (z : 100 ≤ nx h) : Lq h (f_X3_comparedGauge_42 n s0 h) := by
  have L_h := Lo.refl z
  delta f_X3_comparedGauge_42
  exact Lq.some L_h
theorem lo_f_X3_comparedGauge_14 {n : Nat} {v0 : Int} {v1 : Int} (h : MM) (z : 100 ≤ nx h) : Lq h (f_X3_comparedGauge_14 n v0 v1 h) := by
  have L_h := Lo.refl z
  delta f_X3_comparedGauge_14
  refine Lq.xgf fun _ => ?_
  refine Lq.xpf L_h fun h2 L_h2 => ?_
  refine Lq.xgf fun _ => ?_
  refine Lq.xrd fun _ => ?_
  refine Lq.ite ?_ ?_
  exact Lq.tr L_h2 (lo_f_X3_comparedGauge_42 h2 L_h2.1)
  exact Lq.tr L_h2 (lo_f_X3_comparedGauge_42 h2 L_h2.1)
theorem lo_f_X3_comparedGauge {n : Nat} {v0 : Int} {v1 : Int} (h : MM) (z : 100 ≤ nx h) : Lq h (f_X3_comparedGauge n v0 v1 h) := by
  have L_h := Lo.refl z
  delta f_X3_comparedGauge
  refine Lq.ite ?_ ?_
  exact Lq.tr L_h (lo_f_X3_comparedGauge_14 h L_h.1)
  refine Lq.ite ?_ ?_
  exact Lq.tr L_h (lo_f_X3_comparedGauge_14 h L_h.1)
  exact Lq.some L_h
theorem lo_f_X3_readNumber_82 {n : Nat} {v1 : Int} (h : MM) (z : 100 ≤ nx h) : Lq h (f_X3_readNumber_82 n v1 h) := by
  have L_h := Lo.refl z
  delta f_X3_readNumber_82
  exact Lq.some L_h
theorem lo_f_X3_readNumber_48 {n : Nat} {v1 : Int} (h : MM) (z : 100 ≤ nx h) : Lq h (f_X3_readNumber_48 n v1 h) := by
  have L_h := Lo.refl z
  delta f_X3_readNumber_48
  exact Lq.some L_h
theorem lo_f_X3_readNumber_65 {n : Nat} {rec4 : Int → Int → MM → RR} {v0 : Int} {v2 : Int} {s0 : Int} (q_rec4 : ∀ (a0 a1 : Int) (h : MM), 100 ≤ nx h → Lq h (rec4 a0 a1 h)) (h : MM) (z : 100 ≤ nx h) : Lq h (f_X3_readNumber_65 n rec4 v0 v2 s0 h) := by
  have L_h := Lo.refl z
  delta f_X3_readNumber_65
  refine Lq.xgf fun _ => ?_
  refine Lq.xpf L_h fun h2 L_h2 => ?_
  refine Lq.xlb fun _ => ?_
  exact Lq.tr L_h2 (q_rec4 _ _ h2 L_h2.1)
theorem lo_f_X3_readNumber_4b {n : Nat} {rec4 : Int → Int → MM → RR} {v0 : Int} {v1 : Int} {v2 : Int} (q_rec4 : ∀ (a0 a1 : Int) (h : MM), 100 ≤ nx h → Lq h (rec4 a0 a1 h)) (h : MM) (z : 100 ≤ nx h) : Lq h (f_X3_readNumber_4b n rec4 v0 v1 v2 h) := by
  have L_h := Lo.refl z
  delta f_X3_readNumber_4b
  refine Lq.ite ?_ ?_
  exact Lq.tr L_h (lo_f_X3_readNumber_82 h L_h.1)
  refine Lq.ite ?_ ?_
  exact Lq.tr L_h (lo_f_X3_readNumber_82 h L_h.1)
  refine Lq.xgf fun _ => ?_
  refine Lq.xgf fun _ => ?_
  refine Lq.xal fun _ => ?_
  refine Lq.ite ?_ ?_
  exact Lq.tr L_h (lo_f_X3_readNumber_82 h L_h.1)
  refine Lq.xgf fun _ => ?_
  refine Lq.xgf fun _ => ?_
  refine Lq.xrd fun _ => ?_
  refine Lq.xlb fun _ => ?_
  refine Lq.ite ?_ ?_
  exact Lq.tr L_h (lo_f_X3_readNumber_48 h L_h.1)
  refine Lq.ite ?_ ?_
  refine Lq.ite ?_ ?_
  exact Lq.tr L_h (lo_f_X3_readNumber_65 q_rec4 h L_h.1)
  exact Lq.tr L_h (lo_f_X3_readNumber_65 q_rec4 h L_h.1)
  exact Lq.tr L_h (lo_f_X3_readNumber_48 h L_h.1)
theorem lo_f_X3_readNumber_4 {n : Nat} {v0 : Int} : ∀ (k : Nat) (v1 v2 : Int) (h : MM), 100 ≤ nx h → Lq h (f_X3_readNumber_4 n v0 k v1 v2 h)
  | 0, _, _, _, _ => Lq.none
  | k + 1, v1, v2, h, z => lo_f_X3_readNumber_4b (fun b0 b1 h z => lo_f_X3_readNumber_4 k b0 b1 h z) h z
theorem lo_f_X3_readNumber {n : Nat} {v0 : Int} (h : MM) (z : 100 ≤ nx h) : Lq h (f_X3_readNumber n v0 h) := by
  have L_h := Lo.refl z
  delta f_X3_readNumber
  exact Lq.tr L_h (lo_f_X3_readNumber_4 _ _ _ h L_h.1)
theorem lo_f_X3_compared_129 {n : Nat} {s0 : Int} (h : MM) (z : 100 ≤ nx h) : Lq h (f_X3_compared_129 n s0 h) := by
  have L_h := Lo.refl z
  delta f_X3_compared_129
  exact Lq.some L_h
theorem lo_f_X3_compared_128 {n : Nat} (h : MM) (z : 100 ≤ nx h) : Lq h (f_X3_compared_128 n h) := by
  have L_h := Lo.refl z
  delta f_X3_compared_128
  exact Lq.tr L_h (lo_f_X3_compared_129 h L_h.1)
theorem lo_f_X3_compared_124 {n : Nat} (h : MM) (z : 100 ≤ nx h) : Lq h (f_X3_compared_124 n h) := by
  have L_h := Lo.refl z
  delta f_X3_compared_124
  exact Lq.tr L_h (lo_f_X3_compared_129 h L_h.1)
theorem lo_f_X3_compared_55 {n : Nat} {v0 : Int} {v2 : Int} {v3 : Int} (h : MM) (z : 100 ≤ nx h) : Lq h (f_X3_compared_55 n v0 v2 v3 h) := by
  have L_h := Lo.refl z
  delta f_X3_compared_55
  refine Lq.xgf fun _ => ?_
  refine Lq.xpf L_h fun h2 L_h2 => ?_
  refine Lq.ite ?_ ?_
  refine Lq.xgk ?_
  refine Lq.xbd L_h2 (lo_f_X3_peek h2 L_h2.1) fun _ h13 L_h13 => ?_
  refine Lq.xgk ?_
  refine Lq.xbd L_h13 (lo_f_X3_comparedGauge h13 L_h13.1) fun _ h14 L_h14 => ?_
  exact Lq.some L_h14
  refine Lq.xgk ?_
  refine Lq.xbd L_h2 (lo_f_X3_readNumber h2 L_h2.1) fun _ h4 L_h4 => ?_
  refine Lq.ite ?_ ?_
  exact Lq.some L_h4
  refine Lq.ite ?_ ?_
  refine Lq.xgf fun _ => ?_
  refine Lq.xrd fun _ => ?_
  refine Lq.ite ?_ ?_
  exact Lq.tr L_h4 (lo_f_X3_compared_128 h4 L_h4.1)
  exact Lq.tr L_h4 (lo_f_X3_compared_124 h4 L_h4.1)
  refine Lq.xgf fun _ => ?_
  refine Lq.xrd fun _ => ?_
  refine Lq.ite ?_ ?_
  exact Lq.tr L_h4 (lo_f_X3_compared_128 h4 L_h4.1)
  exact Lq.tr L_h4 (lo_f_X3_compared_124 h4 L_h4.1)
theorem lo_f_X3_compared_53 {n : Nat} (h : MM) (z : 100 ≤ nx h) : Lq h (f_X3_compared_53 n h) := by
  have L_h := Lo.refl z
  delta f_X3_compared_53
  exact Lq.some L_h
theorem lo_f_X3_compared {n : Nat} {v0 : Int} {v1 : Int} (h : MM) (z : 100 ≤ nx h) : Lq h (f_X3_compared n v0 v1 h) := by
  have L_h := Lo.refl z
  delta f_X3_compared
  refine Lq.xbd L_h (lo_f_X3_factOf h L_h.1) fun _ h1 L_h1 => ?_
  refine Lq.ite ?_ ?_
  exact Lq.some L_h1
  refine Lq.xgf fun _ => ?_
  refine Lq.xpf L_h1 fun h4 L_h4 => ?_
  refine Lq.xgk ?_
  refine Lq.xbd L_h4 (lo_f_X3_peek h4 L_h4.1) fun _ h5 L_h5 => ?_
  refine Lq.ite ?_ ?_
  refine Lq.ite ?_ ?_
  exact Lq.tr L_h5 (lo_f_X3_compared_55 h5 L_h5.1)
  exact Lq.tr L_h5 (lo_f_X3_compared_53 h5 L_h5.1)
  refine Lq.ite ?_ ?_
  exact Lq.tr L_h5 (lo_f_X3_compared_55 h5 L_h5.1)
  refine Lq.ite ?_ ?_
  exact Lq.tr L_h5 (lo_f_X3_compared_55 h5 L_h5.1)
  exact Lq.tr L_h5 (lo_f_X3_compared_53 h5 L_h5.1)
theorem lo_f_X3_either_63 {F_X3_either : Int → Int → MM → RR} {F_X3_single : Int → Int → MM → RR} {n : Nat} {rec7 : Int → Int → Int → MM → RR} {v0 : Int} {v1 : Int} {v2 : Int} {v3 : Int} {v4 : Int} (q_F_X3_either : ∀ (a0 a1 : Int) (h : MM), 100 ≤ nx h → Lq h (F_X3_either a0 a1 h)) (q_F_X3_single : ∀ (a0 a1 : Int) (h : MM), 100 ≤ nx h → Lq h (F_X3_single a0 a1 h)) (q_rec7 : ∀ (a0 a1 a2 : Int) (h : MM), 100 ≤ nx h → Lq h (rec7 a0 a1 a2 h)) (h : MM) (z : 100 ≤ nx h) : Lq h (f_X3_either_63 F_X3_either F_X3_single n rec7 v0 v1 v2 v3 v4 h) := by
  have L_h := Lo.refl z
  delta f_X3_either_63
  refine Lq.xgf fun _ => ?_
  refine Lq.xpf L_h fun h2 L_h2 => ?_
  refine Lq.xlb fun _ => ?_
  exact Lq.tr L_h2 (q_rec7 _ _ _ h2 L_h2.1)
theorem lo_f_X3_either_7b {F_X3_either : Int → Int → MM → RR} {F_X3_single : Int → Int → MM → RR} {n : Nat} {rec7 : Int → Int → Int → MM → RR} {v0 : Int} {v1 : Int} {v2 : Int} {v3 : Int} {v4 : Int} (q_F_X3_either : ∀ (a0 a1 : Int) (h : MM), 100 ≤ nx h → Lq h (F_X3_either a0 a1 h)) (q_F_X3_single : ∀ (a0 a1 : Int) (h : MM), 100 ≤ nx h → Lq h (F_X3_single a0 a1 h)) (q_rec7 : ∀ (a0 a1 a2 : Int) (h : MM), 100 ≤ nx h → Lq h (rec7 a0 a1 a2 h)) (h : MM) (z : 100 ≤ nx h) : Lq h (f_X3_either_7b F_X3_either F_X3_single n rec7 v0 v1 v2 v3 v4 h) := by
  have L_h := Lo.refl z
  delta f_X3_either_7b
  refine Lq.ite ?_ ?_
  exact Lq.some L_h
  refine Lq.xgk ?_
  refine Lq.xbd L_h (q_F_X3_single _ _ h L_h.1) fun _ h2 L_h2 => ?_
  refine Lq.ite ?_ ?_
  exact Lq.some L_h2
  refine Lq.xlb fun _ => ?_
  refine Lq.xgk ?_
  refine Lq.xbd L_h2 (lo_f_X3_peek h2 L_h2.1) fun _ h5 L_h5 => ?_
  refine Lq.ite ?_ ?_
  exact Lq.tr L_h5 (lo_f_X3_either_63 q_F_X3_either q_F_X3_single q_rec7 h5 L_h5.1)
  refine Lq.xlb fun _ => ?_
  refine Lq.ite ?_ ?_
  exact Lq.tr L_h5 (lo_f_X3_either_63 q_F_X3_either q_F_X3_single q_rec7 h5 L_h5.1)
  exact Lq.some L_h5
theorem lo_f_X3_either_7 {F_X3_either : Int → Int → MM → RR} {F_X3_single : Int → Int → MM → RR} {n : Nat} {v0 : Int} {v1 : Int} (q_F_X3_either : ∀ (a0 a1 : Int) (h : MM), 100 ≤ nx h → Lq h (F_X3_either a0 a1 h)) (q_F_X3_single : ∀ (a0 a1 : Int) (h : MM), 100 ≤ nx h → Lq h (F_X3_single a0 a1 h)) : ∀ (k : Nat) (v2 v3 v4 : Int) (h : MM), 100 ≤ nx h → Lq h (f_X3_either_7 F_X3_either F_X3_single n v0 v1 k v2 v3 v4 h)
  | 0, _, _, _, _, _ => Lq.none
  | k + 1, v2, v3, v4, h, z => lo_f_X3_either_7b q_F_X3_either q_F_X3_single (fun b0 b1 b2 h z => lo_f_X3_either_7 q_F_X3_either q_F_X3_single k b0 b1 b2 h z) h z
theorem lo_f_X3_either_op {F_X3_either : Int → Int → MM → RR} {F_X3_single : Int → Int → MM → RR} {n : Nat} {v0 : Int} {v1 : Int} (q_F_X3_either : ∀ (a0 a1 : Int) (h : MM), 100 ≤ nx h → Lq h (F_X3_either a0 a1 h)) (q_F_X3_single : ∀ (a0 a1 : Int) (h : MM), 100 ≤ nx h → Lq h (F_X3_single a0 a1 h)) (h : MM) (z : 100 ≤ nx h) : Lq h (f_X3_either_op F_X3_either F_X3_single n v0 v1 h) := by
  have L_h := Lo.refl z
  delta f_X3_either_op
  exact Lq.tr L_h (lo_f_X3_either_7 q_F_X3_either q_F_X3_single _ _ _ _ h L_h.1)
theorem lo_f_X3_single_89 {F_X3_either : Int → Int → MM → RR} {F_X3_single : Int → Int → MM → RR} {n : Nat} (q_F_X3_either : ∀ (a0 a1 : Int) (h : MM), 100 ≤ nx h → Lq h (F_X3_either a0 a1 h)) (q_F_X3_single : ∀ (a0 a1 : Int) (h : MM), 100 ≤ nx h → Lq h (F_X3_single a0 a1 h)) (h : MM) (z : 100 ≤ nx h) : Lq h (f_X3_single_89 F_X3_either F_X3_single n h) := by
  have L_h := Lo.refl z
  delta f_X3_single_89
  exact Lq.some L_h
theorem lo_f_X3_single_66 {F_X3_either : Int → Int → MM → RR} {F_X3_single : Int → Int → MM → RR} {n : Nat} {s0 : Int} (q_F_X3_either : ∀ (a0 a1 : Int) (h : MM), 100 ≤ nx h → Lq h (F_X3_either a0 a1 h)) (q_F_X3_single : ∀ (a0 a1 : Int) (h : MM), 100 ≤ nx h → Lq h (F_X3_single a0 a1 h)) (h : MM) (z : 100 ≤ nx h) : Lq h (f_X3_single_66 F_X3_either F_X3_single n s0 h) := by
  have L_h := Lo.refl z
  delta f_X3_single_66
  exact Lq.some L_h
theorem lo_f_X3_single_23 {F_X3_either : Int → Int → MM → RR} {F_X3_single : Int → Int → MM → RR} {n : Nat} {v0 : Int} {v1 : Int} {v2 : Int} (q_F_X3_either : ∀ (a0 a1 : Int) (h : MM), 100 ≤ nx h → Lq h (F_X3_either a0 a1 h)) (q_F_X3_single : ∀ (a0 a1 : Int) (h : MM), 100 ≤ nx h → Lq h (F_X3_single a0 a1 h)) (h : MM) (z : 100 ≤ nx h) : Lq h (f_X3_single_23 F_X3_either F_X3_single n v0 v1 v2 h) := by
  have L_h := Lo.refl z
  delta f_X3_single_23
  refine Lq.ite ?_ ?_
  refine Lq.xgf fun _ => ?_
  refine Lq.xpf L_h fun h3 L_h3 => ?_
  refine Lq.ite ?_ ?_
  refine Lq.xgk ?_
  refine Lq.xbd L_h3 (q_F_X3_single _ _ h3 L_h3.1) fun _ h11 L_h11 => ?_
  refine Lq.ite ?_ ?_
  exact Lq.tr L_h11 (lo_f_X3_single_66 q_F_X3_either q_F_X3_single h11 L_h11.1)
  exact Lq.tr L_h11 (lo_f_X3_single_66 q_F_X3_either q_F_X3_single h11 L_h11.1)
  refine Lq.xgk ?_
  refine Lq.xbd L_h3 (q_F_X3_either _ _ h3 L_h3.1) fun _ h5 L_h5 => ?_
  refine Lq.ite ?_ ?_
  exact Lq.tr L_h5 (lo_f_X3_single_89 q_F_X3_either q_F_X3_single h5 L_h5.1)
  refine Lq.xgk ?_
  refine Lq.xbd L_h5 (lo_f_X3_peek h5 L_h5.1) fun _ h7 L_h7 => ?_
  refine Lq.ite ?_ ?_
  refine Lq.xgf fun _ => ?_
  refine Lq.xpf L_h7 fun h10 L_h10 => ?_
  exact Lq.some L_h10
  exact Lq.tr L_h7 (lo_f_X3_single_89 q_F_X3_either q_F_X3_single h7 L_h7.1)
  exact Lq.some L_h
theorem lo_f_X3_single_op {F_X3_either : Int → Int → MM → RR} {F_X3_single : Int → Int → MM → RR} {n : Nat} {v0 : Int} {v1 : Int} (q_F_X3_either : ∀ (a0 a1 : Int) (h : MM), 100 ≤ nx h → Lq h (F_X3_either a0 a1 h)) (q_F_X3_single : ∀ (a0 a1 : Int) (h : MM), 100 ≤ nx h → Lq h (F_X3_single a0 a1 h)) (h : MM) (z : 100 ≤ nx h) : Lq h (f_X3_single_op F_X3_either F_X3_single n v0 v1 h) := by
  have L_h := Lo.refl z
  delta f_X3_single_op
  refine Lq.xgk ?_
  refine Lq.xbd L_h (lo_f_X3_peek h L_h.1) fun _ h1 L_h1 => ?_
  refine Lq.ite ?_ ?_
  exact Lq.tr L_h1 (lo_f_X3_single_23 q_F_X3_either q_F_X3_single h1 L_h1.1)
  refine Lq.ite ?_ ?_
  exact Lq.tr L_h1 (lo_f_X3_single_23 q_F_X3_either q_F_X3_single h1 L_h1.1)
  refine Lq.xgk ?_
  refine Lq.xbd L_h1 (lo_f_X3_compared h1 L_h1.1) fun _ h4 L_h4 => ?_
  exact Lq.some L_h4
theorem lo_t_X3_either (n : Nat) : ∀ k : Nat, (∀ (a0 a1 : Int) (h : MM), 100 ≤ nx h → Lq h ((t_X3_either n k).1 a0 a1 h)) ∧ (∀ (a0 a1 : Int) (h : MM), 100 ≤ nx h → Lq h ((t_X3_either n k).2 a0 a1 h))
  | 0 => ⟨fun _ _ _ _ => Lq.none, fun _ _ _ _ => Lq.none⟩
  | k + 1 => by
    have p := lo_t_X3_either n k
    exact ⟨fun _ _ h z => lo_f_X3_either_op p.1 p.2 h z, fun _ _ h z => lo_f_X3_single_op p.1 p.2 h z⟩
theorem lo_f_X3_either {n : Nat} (a0 a1 : Int) (h : MM) (z : 100 ≤ nx h) : Lq h (f_X3_either n a0 a1 h) := (lo_t_X3_either n 16).1 a0 a1 h z
theorem lo_f_X3_single {n : Nat} (a0 a1 : Int) (h : MM) (z : 100 ≤ nx h) : Lq h (f_X3_single n a0 a1 h) := (lo_t_X3_either n 16).2 a0 a1 h z
theorem lo_f_X3_readYesOrNo_40 {n : Nat} {s0 : Int} (h : MM) (z : 100 ≤ nx h) : Lq h (f_X3_readYesOrNo_40 n s0 h) := by
  have L_h := Lo.refl z
  delta f_X3_readYesOrNo_40
  exact Lq.some L_h
theorem lo_f_X3_readYesOrNo_19 {n : Nat} {v0 : Int} {v1 : Int} (h : MM) (z : 100 ≤ nx h) : Lq h (f_X3_readYesOrNo_19 n v0 v1 h) := by
  have L_h := Lo.refl z
  delta f_X3_readYesOrNo_19
  refine Lq.xgf fun _ => ?_
  refine Lq.xpf L_h fun h2 L_h2 => ?_
  refine Lq.ite ?_ ?_
  exact Lq.tr L_h2 (lo_f_X3_readYesOrNo_40 h2 L_h2.1)
  exact Lq.tr L_h2 (lo_f_X3_readYesOrNo_40 h2 L_h2.1)
theorem lo_f_X3_readYesOrNo {n : Nat} {v0 : Int} (h : MM) (z : 100 ≤ nx h) : Lq h (f_X3_readYesOrNo n v0 h) := by
  have L_h := Lo.refl z
  delta f_X3_readYesOrNo
  refine Lq.xgk ?_
  refine Lq.xbd L_h (lo_f_X3_peek h L_h.1) fun _ h1 L_h1 => ?_
  refine Lq.ite ?_ ?_
  exact Lq.tr L_h1 (lo_f_X3_readYesOrNo_19 h1 L_h1.1)
  refine Lq.ite ?_ ?_
  exact Lq.tr L_h1 (lo_f_X3_readYesOrNo_19 h1 L_h1.1)
  exact Lq.some L_h1
theorem lo_f_X3_readClause_74 {n : Nat} {v0 : Int} {v1 : Int} {v2 : Int} {s0 : Int} {s1 : Int} {s2 : Int} (h : MM) (z : 100 ≤ nx h) : Lq h (f_X3_readClause_74 n v0 v1 v2 s0 s1 s2 h) := by
  have L_h := Lo.refl z
  delta f_X3_readClause_74
  refine Lq.xwt L_h fun h1 L_h1 => ?_
  refine Lq.xgf fun _ => ?_
  refine Lq.xwt L_h1 fun h3 L_h3 => ?_
  refine Lq.xck ?_
  exact Lq.some L_h3
theorem lo_f_X3_readClause_47 {n : Nat} {v0 : Int} {v1 : Int} {v2 : Int} {v3 : Int} {s0 : Int} (h : MM) (z : 100 ≤ nx h) : Lq h (f_X3_readClause_47 n v0 v1 v2 v3 s0 h) := by
  have L_h := Lo.refl z
  delta f_X3_readClause_47
  refine Lq.ite ?_ ?_
  refine Lq.xck ?_
  exact Lq.some L_h
  refine Lq.xgf fun _ => ?_
  refine Lq.ite ?_ ?_
  exact Lq.tr L_h (lo_f_X3_readClause_74 h L_h.1)
  exact Lq.tr L_h (lo_f_X3_readClause_74 h L_h.1)
theorem lo_f_X3_readClause {n : Nat} {v0 : Int} {v1 : Int} (h : MM) (z : 100 ≤ nx h) : Lq h (f_X3_readClause n v0 v1 h) := by
  have L_h := Lo.refl z
  delta f_X3_readClause
  refine Lq.xgk ?_
  refine Lq.xbd L_h (lo_f_X3_readWord h L_h.1) fun _ h1 L_h1 => ?_
  refine Lq.ite ?_ ?_
  refine Lq.xck ?_
  exact Lq.some L_h1
  refine Lq.xgf fun _ => ?_
  refine Lq.ite ?_ ?_
  refine Lq.xgk ?_
  refine Lq.xbd L_h1 (lo_f_X3_either _ _ h1 L_h1.1) fun _ h8 L_h8 => ?_
  exact Lq.tr L_h8 (lo_f_X3_readClause_47 h8 L_h8.1)
  refine Lq.ite ?_ ?_
  refine Lq.xgk ?_
  refine Lq.xbd L_h1 (lo_f_X3_readYesOrNo h1 L_h1.1) fun _ h7 L_h7 => ?_
  exact Lq.tr L_h7 (lo_f_X3_readClause_47 h7 L_h7.1)
  refine Lq.xgk ?_
  refine Lq.xbd L_h1 (lo_f_X3_readNumber h1 L_h1.1) fun _ h6 L_h6 => ?_
  exact Lq.tr L_h6 (lo_f_X3_readClause_47 h6 L_h6.1)
theorem lo_f_X3_faultOf_60 {n : Nat} {v0 : Int} (h : MM) (z : 100 ≤ nx h) : Lq h (f_X3_faultOf_60 n v0 h) := by
  have L_h := Lo.refl z
  delta f_X3_faultOf_60
  refine Lq.xgf fun _ => ?_
  exact Lq.some L_h
theorem lo_f_X3_faultOf_7b {n : Nat} {rec7 : Int → MM → RR} {v0 : Int} {v1 : Int} (q_rec7 : ∀ (a0 : Int) (h : MM), 100 ≤ nx h → Lq h (rec7 a0 h)) (h : MM) (z : 100 ≤ nx h) : Lq h (f_X3_faultOf_7b n rec7 v0 v1 h) := by
  have L_h := Lo.refl z
  delta f_X3_faultOf_7b
  refine Lq.ite ?_ ?_
  refine Lq.xgf fun _ => ?_
  exact Lq.some L_h
  refine Lq.xgk ?_
  refine Lq.xbd L_h (lo_f_X3_readClause h L_h.1) fun _ h3 L_h3 => ?_
  refine Lq.ite ?_ ?_
  refine Lq.xgf fun _ => ?_
  exact Lq.some L_h3
  refine Lq.xgf fun _ => ?_
  refine Lq.xgf fun _ => ?_
  refine Lq.xal fun _ => ?_
  refine Lq.ite ?_ ?_
  refine Lq.xgf fun _ => ?_
  refine Lq.xgf fun _ => ?_
  refine Lq.xrd fun _ => ?_
  refine Lq.ite ?_ ?_
  refine Lq.ite ?_ ?_
  exact Lq.tr L_h3 (lo_f_X3_faultOf_60 h3 L_h3.1)
  refine Lq.xgf fun _ => ?_
  refine Lq.xpf L_h3 fun h15 L_h15 => ?_
  refine Lq.xlb fun _ => ?_
  exact Lq.tr L_h15 (q_rec7 _ h15 L_h15.1)
  exact Lq.tr L_h3 (lo_f_X3_faultOf_60 h3 L_h3.1)
  exact Lq.some L_h3
theorem lo_f_X3_faultOf_7 {n : Nat} {v0 : Int} : ∀ (k : Nat) (v1 : Int) (h : MM), 100 ≤ nx h → Lq h (f_X3_faultOf_7 n v0 k v1 h)
  | 0, _, _, _ => Lq.none
  | k + 1, v1, h, z => lo_f_X3_faultOf_7b (fun b0 h z => lo_f_X3_faultOf_7 k b0 h z) h z
theorem lo_f_X3_faultOf {n : Nat} {v0 : Int} (h : MM) (z : 100 ≤ nx h) : Lq h (f_X3_faultOf n v0 h) := by
  have L_h := Lo.refl z
  delta f_X3_faultOf
  refine Lq.xpf L_h fun h1 L_h1 => ?_
  exact Lq.tr L_h1 (lo_f_X3_faultOf_7 _ _ h1 L_h1.1)
theorem lo_f_X10_enforce {n : Nat} {v0 : Int} {v1 : Int} (h : MM) (z : 100 ≤ nx h) : Lq h (f_X10_enforce n v0 v1 h) := by
  have L_h := Lo.refl z
  delta f_X10_enforce
  refine Lq.xgf fun _ => ?_
  refine Lq.xgf fun _ => ?_
  refine Lq.xal fun _ => ?_
  refine Lq.ite ?_ ?_
  refine Lq.xgf fun _ => ?_
  refine Lq.xgf fun _ => ?_
  refine Lq.xgk ?_
  refine Lq.xwt L_h fun h7 L_h7 => ?_
  refine Lq.xgf fun _ => ?_
  refine Lq.xpf L_h7 fun h9 L_h9 => ?_
  refine Lq.xgf fun _ => ?_
  exact Lq.some L_h9
  exact Lq.some L_h
theorem lo_f_X11_text_59 {n : Nat} {s0 : Int} (h : MM) (z : 100 ≤ nx h) : Lq h (f_X11_text_59 n s0 h) := by
  have L_h := Lo.refl z
  delta f_X11_text_59
  exact Lq.some L_h
theorem lo_f_X11_text {n : Nat} {v0 : Int} {v1 : Int} (h : MM) (z : 100 ≤ nx h) : Lq h (f_X11_text n v0 v1 h) := by
  have L_h := Lo.refl z
  delta f_X11_text
  refine Lq.xbd L_h (lo_f_X11_isDay h L_h.1) fun _ h1 L_h1 => ?_
  refine Lq.ite ?_ ?_
  exact Lq.some L_h1
  refine Lq.xgf fun _ => ?_
  refine Lq.xgf fun _ => ?_
  refine Lq.ite ?_ ?_
  refine Lq.xgf fun _ => ?_
  refine Lq.xgk ?_
  refine Lq.xbd L_h1 (lo_f_X10_takeTape h1 L_h1.1) fun _ h7 L_h7 => ?_
  refine Lq.xgk ?_
  refine Lq.xbd L_h7 (lo_f_X3_faultOf h7 L_h7.1) fun _ h8 L_h8 => ?_
  refine Lq.ite ?_ ?_
  refine Lq.xgf fun _ => ?_
  refine Lq.xgk ?_
  refine Lq.xbd L_h8 (lo_f_X10_enforce h8 L_h8.1) fun _ h11 L_h11 => ?_
  exact Lq.tr L_h11 (lo_f_X11_text_59 h11 L_h11.1)
  exact Lq.tr L_h8 (lo_f_X11_text_59 h8 L_h8.1)
  exact Lq.some L_h1
theorem lo_f_X10_ordering_71 {n : Nat} {rec8 : Int → Int → Int → MM → RR} {v0 : Int} {v1 : Int} {v2 : Int} {v3 : Int} {v4 : Int} {v5 : Int} (q_rec8 : ∀ (a0 a1 a2 : Int) (h : MM), 100 ≤ nx h → Lq h (rec8 a0 a1 a2 h)) (h : MM) (z : 100 ≤ nx h) : Lq h (f_X10_ordering_71 n rec8 v0 v1 v2 v3 v4 v5 h) := by
  have L_h := Lo.refl z
  delta f_X10_ordering_71
  refine Lq.xlb fun _ => ?_
  exact Lq.tr L_h (q_rec8 _ _ _ h L_h.1)
theorem lo_f_X10_ordering_8b {n : Nat} {rec8 : Int → Int → Int → MM → RR} {v0 : Int} {v1 : Int} {v2 : Int} {v3 : Int} {v4 : Int} {v5 : Int} (q_rec8 : ∀ (a0 a1 a2 : Int) (h : MM), 100 ≤ nx h → Lq h (rec8 a0 a1 a2 h)) (h : MM) (z : 100 ≤ nx h) : Lq h (f_X10_ordering_8b n rec8 v0 v1 v2 v3 v4 v5 h) := by
  have L_h := Lo.refl z
  delta f_X10_ordering_8b
  refine Lq.xgf fun _ => ?_
  refine Lq.ite ?_ ?_
  exact Lq.some L_h
  refine Lq.xgf fun _ => ?_
  refine Lq.xrd fun _ => ?_
  refine Lq.ite ?_ ?_
  exact Lq.tr L_h (lo_f_X10_ordering_71 q_rec8 h L_h.1)
  refine Lq.xgf fun _ => ?_
  refine Lq.xrd fun _ => ?_
  refine Lq.ite ?_ ?_
  exact Lq.tr L_h (lo_f_X10_ordering_71 q_rec8 h L_h.1)
  refine Lq.xgf fun _ => ?_
  refine Lq.ite ?_ ?_
  exact Lq.tr L_h (lo_f_X10_ordering_71 q_rec8 h L_h.1)
  refine Lq.xgf fun _ => ?_
  refine Lq.ite ?_ ?_
  exact Lq.tr L_h (lo_f_X10_ordering_71 q_rec8 h L_h.1)
  refine Lq.xgf fun _ => ?_
  exact Lq.tr L_h (lo_f_X10_ordering_71 q_rec8 h L_h.1)
theorem lo_f_X10_ordering_8 {n : Nat} {v0 : Int} {v1 : Int} {v2 : Int} : ∀ (k : Nat) (v3 v4 v5 : Int) (h : MM), 100 ≤ nx h → Lq h (f_X10_ordering_8 n v0 v1 v2 k v3 v4 v5 h)
  | 0, _, _, _, _, _ => Lq.none
  | k + 1, v3, v4, v5, h, z => lo_f_X10_ordering_8b (fun b0 b1 b2 h z => lo_f_X10_ordering_8 k b0 b1 b2 h z) h z
theorem lo_f_X10_ordering {n : Nat} {v0 : Int} {v1 : Int} {v2 : Int} (h : MM) (z : 100 ≤ nx h) : Lq h (f_X10_ordering n v0 v1 v2 h) := by
  have L_h := Lo.refl z
  delta f_X10_ordering
  exact Lq.tr L_h (lo_f_X10_ordering_8 _ _ _ _ h L_h.1)
theorem lo_f_X10_ruling_22 {n : Nat} {s0 : Int} (h : MM) (z : 100 ≤ nx h) : Lq h (f_X10_ruling_22 n s0 h) := by
  have L_h := Lo.refl z
  delta f_X10_ruling_22
  exact Lq.some L_h
theorem lo_f_X10_ruling {n : Nat} {v0 : Int} {v1 : Int} {v2 : Int} (h : MM) (z : 100 ≤ nx h) : Lq h (f_X10_ruling n v0 v1 v2 h) := by
  have L_h := Lo.refl z
  delta f_X10_ruling
  refine Lq.xgk ?_
  refine Lq.xbd L_h (lo_f_X10_ordering h L_h.1) fun _ h1 L_h1 => ?_
  refine Lq.ite ?_ ?_
  exact Lq.tr L_h1 (lo_f_X10_ruling_22 h1 L_h1.1)
  refine Lq.xgf fun _ => ?_
  refine Lq.xrd fun _ => ?_
  exact Lq.tr L_h1 (lo_f_X10_ruling_22 h1 L_h1.1)
theorem lo_f_X10_ruleOf_25 {n : Nat} {s0 : Int} (h : MM) (z : 100 ≤ nx h) : Lq h (f_X10_ruleOf_25 n s0 h) := by
  have L_h := Lo.refl z
  delta f_X10_ruleOf_25
  exact Lq.some L_h
theorem lo_f_X10_ruleOf {n : Nat} {v0 : Int} {v1 : Int} {v2 : Int} (h : MM) (z : 100 ≤ nx h) : Lq h (f_X10_ruleOf n v0 v1 v2 h) := by
  have L_h := Lo.refl z
  delta f_X10_ruleOf
  refine Lq.xgk ?_
  refine Lq.xbd L_h (lo_f_X10_ruling h L_h.1) fun _ h1 L_h1 => ?_
  refine Lq.ite ?_ ?_
  refine Lq.xrd fun _ => ?_
  exact Lq.tr L_h1 (lo_f_X10_ruleOf_25 h1 L_h1.1)
  refine Lq.xgf fun _ => ?_
  refine Lq.xrd fun _ => ?_
  exact Lq.tr L_h1 (lo_f_X10_ruleOf_25 h1 L_h1.1)
theorem lo_f_X11_force_47 {n : Nat} {s0 : Int} (h : MM) (z : 100 ≤ nx h) : Lq h (f_X11_force_47 n s0 h) := by
  have L_h := Lo.refl z
  delta f_X11_force_47
  exact Lq.some L_h
theorem lo_f_X11_force {n : Nat} {v0 : Int} {v1 : Int} {v2 : Int} (h : MM) (z : 100 ≤ nx h) : Lq h (f_X11_force n v0 v1 v2 h) := by
  have L_h := Lo.refl z
  delta f_X11_force
  refine Lq.xbd L_h (lo_f_X11_within h L_h.1) fun _ h1 L_h1 => ?_
  refine Lq.ite ?_ ?_
  exact Lq.some L_h1
  refine Lq.xbd L_h1 (lo_f_X11_isDay h1 L_h1.1) fun _ h3 L_h3 => ?_
  refine Lq.ite ?_ ?_
  exact Lq.some L_h3
  refine Lq.ite ?_ ?_
  refine Lq.xgf fun _ => ?_
  refine Lq.xgk ?_
  refine Lq.xbd L_h3 (lo_f_X10_ruling h3 L_h3.1) fun _ h9 L_h9 => ?_
  refine Lq.ite ?_ ?_
  exact Lq.tr L_h9 (lo_f_X11_force_47 h9 L_h9.1)
  exact Lq.tr L_h9 (lo_f_X11_force_47 h9 L_h9.1)
  refine Lq.xgf fun _ => ?_
  refine Lq.xgk ?_
  refine Lq.xbd L_h3 (lo_f_X10_ruleOf h3 L_h3.1) fun _ h7 L_h7 => ?_
  exact Lq.some L_h7
theorem lo_f_X11_why_66 {n : Nat} {s0 : Int} (h : MM) (z : 100 ≤ nx h) : Lq h (f_X11_why_66 n s0 h) := by
  have L_h := Lo.refl z
  delta f_X11_why_66
  exact Lq.some L_h
theorem lo_f_X11_why {n : Nat} {v0 : Int} {v1 : Int} {v2 : Int} (h : MM) (z : 100 ≤ nx h) : Lq h (f_X11_why n v0 v1 v2 h) := by
  have L_h := Lo.refl z
  delta f_X11_why
  refine Lq.xbd L_h (lo_f_X11_within h L_h.1) fun _ h1 L_h1 => ?_
  refine Lq.ite ?_ ?_
  exact Lq.some L_h1
  refine Lq.xbd L_h1 (lo_f_X11_isDay h1 L_h1.1) fun _ h3 L_h3 => ?_
  refine Lq.ite ?_ ?_
  exact Lq.some L_h3
  refine Lq.xgf fun _ => ?_
  refine Lq.xgk ?_
  refine Lq.xbd L_h3 (lo_f_X10_ordering h3 L_h3.1) fun _ h6 L_h6 => ?_
  refine Lq.xgf fun _ => ?_
  refine Lq.xgk ?_
  refine Lq.xbd L_h6 (lo_f_X10_ruling h6 L_h6.1) fun _ h8 L_h8 => ?_
  refine Lq.ite ?_ ?_
  exact Lq.tr L_h8 (lo_f_X11_why_66 h8 L_h8.1)
  refine Lq.xgf fun _ => ?_
  refine Lq.xrd fun _ => ?_
  exact Lq.tr L_h8 (lo_f_X11_why_66 h8 L_h8.1)
theorem lo_f_X11_isTown {n : Nat} {v0 : Int} {v1 : Int} (h : MM) (z : 100 ≤ nx h) : Lq h (f_X11_isTown n v0 v1 h) := by
  have L_h := Lo.refl z
  delta f_X11_isTown
  refine Lq.xgf fun _ => ?_
  refine Lq.xgf fun _ => ?_
  refine Lq.xgf fun _ => ?_
  refine Lq.xbd L_h (lo_f_X11_within h L_h.1) fun _ h4 L_h4 => ?_
  refine Lq.xck ?_
  exact Lq.some L_h4
theorem lo_f_X5_isFull_14 {n : Nat} {s0 : Int} (h : MM) (z : 100 ≤ nx h) : Lq h (f_X5_isFull_14 n s0 h) := by
  have L_h := Lo.refl z
  delta f_X5_isFull_14
  refine Lq.xck ?_
  exact Lq.some L_h
theorem lo_f_X5_isFull {n : Nat} {v0 : Int} (h : MM) (z : 100 ≤ nx h) : Lq h (f_X5_isFull n v0 h) := by
  have L_h := Lo.refl z
  delta f_X5_isFull
  refine Lq.xgf fun _ => ?_
  refine Lq.ite ?_ ?_
  exact Lq.tr L_h (lo_f_X5_isFull_14 h L_h.1)
  exact Lq.tr L_h (lo_f_X5_isFull_14 h L_h.1)
theorem lo_f_X4_init {n : Nat} {v0 : Int} {v1 : Int} {v2 : Int} {v3 : Int} {v4 : Int} {v5 : Int} (h : MM) (z : 100 ≤ nx h) : Lq h (f_X4_init n v0 v1 v2 v3 v4 v5 h) := by
  have L_h := Lo.refl z
  delta f_X4_init
  refine Lq.xnz ?_
  refine Lq.xpf L_h fun h2 L_h2 => ?_
  refine Lq.xpf L_h2 fun h3 L_h3 => ?_
  refine Lq.xpf L_h3 fun h4 L_h4 => ?_
  refine Lq.xpf L_h4 fun h5 L_h5 => ?_
  refine Lq.xpf L_h5 fun h6 L_h6 => ?_
  refine Lq.xpf L_h6 fun h7 L_h7 => ?_
  refine Lq.xpf L_h7 fun h8 L_h8 => ?_
  refine Lq.xpf L_h8 fun h9 L_h9 => ?_
  refine Lq.xpf L_h9 fun h10 L_h10 => ?_
  refine Lq.xpf L_h10 fun h11 L_h11 => ?_
  refine Lq.xpf L_h11 fun h12 L_h12 => ?_
  exact Lq.some L_h12
theorem lo_f_X4_tell {n : Nat} {v0 : Int} {v1 : Int} {v2 : Int} {v3 : Int} {v4 : Int} (h : MM) (z : 100 ≤ nx h) : Lq h (f_X4_tell n v0 v1 v2 v3 v4 h) := by
  have L_h := Lo.refl z
  delta f_X4_tell
  refine Lq.xpf L_h fun h1 L_h1 => ?_
  refine Lq.xpf L_h1 fun h2 L_h2 => ?_
  refine Lq.xpf L_h2 fun h3 L_h3 => ?_
  refine Lq.xpf L_h3 fun h4 L_h4 => ?_
  exact Lq.some L_h4
theorem lo_f_X8_begin_20b {n : Nat} {rec20 : Int → MM → RR} {v0 : Int} {v1 : Int} {v2 : Int} {v3 : Int} (q_rec20 : ∀ (a0 : Int) (h : MM), 100 ≤ nx h → Lq h (rec20 a0 h)) (h : MM) (z : 100 ≤ nx h) : Lq h (f_X8_begin_20b n rec20 v0 v1 v2 v3 h) := by
  have L_h := Lo.refl z
  delta f_X8_begin_20b
  refine Lq.ite ?_ ?_
  refine Lq.xgf fun _ => ?_
  refine Lq.xwt L_h fun h3 L_h3 => ?_
  exact Lq.some L_h3
  refine Lq.xgf fun _ => ?_
  refine Lq.xwt L_h fun h5 L_h5 => ?_
  refine Lq.xlb fun _ => ?_
  exact Lq.tr L_h5 (q_rec20 _ h5 L_h5.1)
theorem lo_f_X8_begin_20 {n : Nat} {v0 : Int} {v1 : Int} {v2 : Int} : ∀ (k : Nat) (v3 : Int) (h : MM), 100 ≤ nx h → Lq h (f_X8_begin_20 n v0 v1 v2 k v3 h)
  | 0, _, _, _ => Lq.none
  | k + 1, v3, h, z => lo_f_X8_begin_20b (fun b0 h z => lo_f_X8_begin_20 k b0 h z) h z
theorem lo_f_X8_begin {n : Nat} {v0 : Int} {v1 : Int} {v2 : Int} (h : MM) (z : 100 ≤ nx h) : Lq h (f_X8_begin n v0 v1 v2 h) := by
  have L_h := Lo.refl z
  delta f_X8_begin
  refine Lq.xgf fun _ => ?_
  refine Lq.xwt L_h fun h2 L_h2 => ?_
  refine Lq.xgf fun _ => ?_
  refine Lq.xwt L_h2 fun h4 L_h4 => ?_
  exact Lq.tr L_h4 (lo_f_X8_begin_20 _ _ h4 L_h4.1)
theorem lo_f_X5_file_86 {n : Nat} {v2 : Int} (h : MM) (z : 100 ≤ nx h) : Lq h (f_X5_file_86 n v2 h) := by
  have L_h := Lo.refl z
  delta f_X5_file_86
  exact Lq.some L_h
theorem lo_f_X5_file {n : Nat} {v0 : Int} {v1 : Int} (h : MM) (z : 100 ≤ nx h) : Lq h (f_X5_file n v0 v1 h) := by
  have L_h := Lo.refl z
  delta f_X5_file
  refine Lq.xgk ?_
  refine Lq.xbd L_h (lo_f_X5_isFull h L_h.1) fun _ h1 L_h1 => ?_
  refine Lq.ite ?_ ?_
  refine Lq.xgf fun _ => ?_
  refine Lq.xgf fun _ => ?_
  refine Lq.xgk ?_
  refine Lq.xwt L_h1 fun h5 L_h5 => ?_
  refine Lq.xgf fun _ => ?_
  refine Lq.xwt L_h5 fun h7 L_h7 => ?_
  refine Lq.xgf fun _ => ?_
  refine Lq.xwt L_h7 fun h9 L_h9 => ?_
  refine Lq.xgf fun _ => ?_
  refine Lq.xwt L_h9 fun h11 L_h11 => ?_
  refine Lq.xgf fun _ => ?_
  refine Lq.xwt L_h11 fun h13 L_h13 => ?_
  refine Lq.xgf fun _ => ?_
  refine Lq.xwt L_h13 fun h15 L_h15 => ?_
  refine Lq.xgf fun _ => ?_
  refine Lq.xpf L_h15 fun h17 L_h17 => ?_
  refine Lq.xgf fun _ => ?_
  refine Lq.ite ?_ ?_
  refine Lq.xgf fun _ => ?_
  refine Lq.xpf L_h17 fun h21 L_h21 => ?_
  exact Lq.tr L_h21 (lo_f_X5_file_86 h21 L_h21.1)
  exact Lq.tr L_h17 (lo_f_X5_file_86 h17 L_h17.1)
  exact Lq.some L_h1
theorem lo_f_X11_scheme_16 {n : Nat} (h : MM) (z : 100 ≤ nx h) : Lq h (f_X11_scheme_16 n h) := by
  have L_h := Lo.refl z
  delta f_X11_scheme_16
  exact Lq.some L_h
theorem lo_f_X11_scheme_45 {n : Nat} (h : MM) (z : 100 ≤ nx h) : Lq h (f_X11_scheme_45 n h) := by
  have L_h := Lo.refl z
  delta f_X11_scheme_45
  exact Lq.some L_h
theorem lo_f_X11_scheme_76 {n : Nat} (h : MM) (z : 100 ≤ nx h) : Lq h (f_X11_scheme_76 n h) := by
  have L_h := Lo.refl z
  delta f_X11_scheme_76
  exact Lq.some L_h
theorem lo_f_X11_scheme {n : Nat} {v0 : Int} {v1 : Int} {v2 : Int} {v3 : Int} {v4 : Int} (h : MM) (z : 100 ≤ nx h) : Lq h (f_X11_scheme n v0 v1 v2 v3 v4 h) := by
  have L_h := Lo.refl z
  delta f_X11_scheme
  refine Lq.xgk ?_
  refine Lq.xbd L_h (lo_f_X11_isTown h L_h.1) fun _ h1 L_h1 => ?_
  refine Lq.ite ?_ ?_
  exact Lq.tr L_h1 (lo_f_X11_scheme_16 h1 L_h1.1)
  refine Lq.xgk ?_
  refine Lq.xbd L_h1 (lo_f_X11_isTown h1 L_h1.1) fun _ h3 L_h3 => ?_
  refine Lq.ite ?_ ?_
  exact Lq.tr L_h3 (lo_f_X11_scheme_16 h3 L_h3.1)
  refine Lq.ite ?_ ?_
  exact Lq.tr L_h3 (lo_f_X11_scheme_45 h3 L_h3.1)
  refine Lq.xbd L_h3 (lo_f_X11_within h3 L_h3.1) fun _ h6 L_h6 => ?_
  refine Lq.ite ?_ ?_
  exact Lq.tr L_h6 (lo_f_X11_scheme_45 h6 L_h6.1)
  refine Lq.xbd L_h6 (lo_f_X11_within h6 L_h6.1) fun _ h8 L_h8 => ?_
  refine Lq.ite ?_ ?_
  exact Lq.tr L_h8 (lo_f_X11_scheme_45 h8 L_h8.1)
  refine Lq.xgf fun _ => ?_
  refine Lq.xgf fun _ => ?_
  refine Lq.xgk ?_
  refine Lq.xbd L_h8 (lo_f_X5_isFull h8 L_h8.1) fun _ h12 L_h12 => ?_
  refine Lq.ite ?_ ?_
  refine Lq.xgf fun _ => ?_
  refine Lq.xgf fun _ => ?_
  refine Lq.xgf fun _ => ?_
  refine Lq.ite ?_ ?_
  refine Lq.xnw L_h12 fun _ h18 L_h18 => ?_
  refine Lq.xgf fun _ => ?_
  refine Lq.xgf fun _ => ?_
  refine Lq.xnz ?_
  refine Lq.xbd L_h18 (lo_f_X4_init h18 L_h18.1) fun _ h21 L_h21 => ?_
  refine Lq.xgk ?_
  refine Lq.xbd L_h21 (lo_f_X4_tell h21 L_h21.1) fun _ h22 L_h22 => ?_
  refine Lq.xgf fun _ => ?_
  refine Lq.xgf fun _ => ?_
  refine Lq.xgf fun _ => ?_
  refine Lq.xpf L_h22 fun h26 L_h26 => ?_
  refine Lq.xgf fun _ => ?_
  refine Lq.xgf fun _ => ?_
  refine Lq.xgf fun _ => ?_
  refine Lq.xgk ?_
  refine Lq.xbd L_h26 (lo_f_X8_begin h26 L_h26.1) fun _ h30 L_h30 => ?_
  refine Lq.xgf fun _ => ?_
  refine Lq.xgf fun _ => ?_
  refine Lq.xgk ?_
  refine Lq.xbd L_h30 (lo_f_X5_file h30 L_h30.1) fun _ h33 L_h33 => ?_
  exact Lq.some L_h33
  exact Lq.tr L_h12 (lo_f_X11_scheme_76 h12 L_h12.1)
  exact Lq.tr L_h12 (lo_f_X11_scheme_76 h12 L_h12.1)
theorem lo_f_X5_get_25 {n : Nat} {s0 : Int} (h : MM) (z : 100 ≤ nx h) : Lq h (f_X5_get_25 n s0 h) := by
  have L_h := Lo.refl z
  delta f_X5_get_25
  exact Lq.some L_h
theorem lo_f_X5_get {n : Nat} {v0 : Int} {v1 : Int} (h : MM) (z : 100 ≤ nx h) : Lq h (f_X5_get n v0 v1 h) := by
  have L_h := Lo.refl z
  delta f_X5_get
  refine Lq.xgf fun _ => ?_
  refine Lq.xbd L_h (lo_f_X11_within h L_h.1) fun _ h2 L_h2 => ?_
  refine Lq.ite ?_ ?_
  exact Lq.tr L_h2 (lo_f_X5_get_25 h2 L_h2.1)
  refine Lq.xgf fun _ => ?_
  refine Lq.xrd fun _ => ?_
  exact Lq.tr L_h2 (lo_f_X5_get_25 h2 L_h2.1)
theorem lo_f_X5_find_23 {n : Nat} {s0 : Int} (h : MM) (z : 100 ≤ nx h) : Lq h (f_X5_find_23 n s0 h) := by
  have L_h := Lo.refl z
  delta f_X5_find_23
  exact Lq.some L_h
theorem lo_f_X5_find_22 {n : Nat} (h : MM) (z : 100 ≤ nx h) : Lq h (f_X5_find_22 n h) := by
  have L_h := Lo.refl z
  delta f_X5_find_22
  exact Lq.tr L_h (lo_f_X5_find_23 h L_h.1)
theorem lo_f_X5_find {n : Nat} {v0 : Int} {v1 : Int} {v2 : Int} (h : MM) (z : 100 ≤ nx h) : Lq h (f_X5_find n v0 v1 v2 h) := by
  have L_h := Lo.refl z
  delta f_X5_find
  refine Lq.xgk ?_
  refine Lq.xbd L_h (lo_f_X5_get h L_h.1) fun _ h1 L_h1 => ?_
  refine Lq.ite ?_ ?_
  exact Lq.tr L_h1 (lo_f_X5_find_22 h1 L_h1.1)
  refine Lq.xgf fun _ => ?_
  refine Lq.ite ?_ ?_
  exact Lq.tr L_h1 (lo_f_X5_find_23 h1 L_h1.1)
  exact Lq.tr L_h1 (lo_f_X5_find_22 h1 L_h1.1)
theorem lo_f_X11_isSheet {n : Nat} {v0 : Int} (h : MM) (z : 100 ≤ nx h) : Lq h (f_X11_isSheet n v0 h) := by
  have L_h := Lo.refl z
  delta f_X11_isSheet
  refine Lq.xbd L_h (lo_f_X11_within h L_h.1) fun _ h1 L_h1 => ?_
  refine Lq.xck ?_
  exact Lq.some L_h1
theorem lo_f_X1_beside_74 {n : Nat} {s0 : Int} (h : MM) (z : 100 ≤ nx h) : Lq h (f_X1_beside_74 n s0 h) := by
  have L_h := Lo.refl z
  delta f_X1_beside_74
  exact Lq.some L_h
theorem lo_f_X1_beside_57 {n : Nat} {s0 : Int} (h : MM) (z : 100 ≤ nx h) : Lq h (f_X1_beside_57 n s0 h) := by
  have L_h := Lo.refl z
  delta f_X1_beside_57
  exact Lq.some L_h
theorem lo_f_X1_beside_42 {n : Nat} {s0 : Int} (h : MM) (z : 100 ≤ nx h) : Lq h (f_X1_beside_42 n s0 h) := by
  have L_h := Lo.refl z
  delta f_X1_beside_42
  exact Lq.some L_h
theorem lo_f_X1_beside_92 {n : Nat} {s0 : Int} (h : MM) (z : 100 ≤ nx h) : Lq h (f_X1_beside_92 n s0 h) := by
  have L_h := Lo.refl z
  delta f_X1_beside_92
  exact Lq.some L_h
theorem lo_f_X1_beside {n : Nat} {v0 : Int} {v1 : Int} (h : MM) (z : 100 ≤ nx h) : Lq h (f_X1_beside n v0 v1 h) := by
  have L_h := Lo.refl z
  delta f_X1_beside
  refine Lq.ite ?_ ?_
  refine Lq.ite ?_ ?_
  exact Lq.tr L_h (lo_f_X1_beside_42 h L_h.1)
  exact Lq.tr L_h (lo_f_X1_beside_42 h L_h.1)
  refine Lq.ite ?_ ?_
  refine Lq.ite ?_ ?_
  exact Lq.tr L_h (lo_f_X1_beside_57 h L_h.1)
  exact Lq.tr L_h (lo_f_X1_beside_57 h L_h.1)
  refine Lq.ite ?_ ?_
  refine Lq.ite ?_ ?_
  exact Lq.tr L_h (lo_f_X1_beside_74 h L_h.1)
  exact Lq.tr L_h (lo_f_X1_beside_74 h L_h.1)
  refine Lq.ite ?_ ?_
  exact Lq.tr L_h (lo_f_X1_beside_92 h L_h.1)
  exact Lq.tr L_h (lo_f_X1_beside_92 h L_h.1)
theorem lo_f_X1_areBeside_2b {n : Nat} {rec2 : Int → MM → RR} {v0 : Int} {v1 : Int} {v2 : Int} (q_rec2 : ∀ (a0 : Int) (h : MM), 100 ≤ nx h → Lq h (rec2 a0 h)) (h : MM) (z : 100 ≤ nx h) : Lq h (f_X1_areBeside_2b n rec2 v0 v1 v2 h) := by
  have L_h := Lo.refl z
  delta f_X1_areBeside_2b
  refine Lq.ite ?_ ?_
  refine Lq.xck ?_
  exact Lq.some L_h
  refine Lq.xbd L_h (lo_f_X1_beside h L_h.1) fun _ h3 L_h3 => ?_
  refine Lq.ite ?_ ?_
  refine Lq.xck ?_
  exact Lq.some L_h3
  refine Lq.xlb fun _ => ?_
  exact Lq.tr L_h3 (q_rec2 _ h3 L_h3.1)
theorem lo_f_X1_areBeside_2 {n : Nat} {v0 : Int} {v1 : Int} : ∀ (k : Nat) (v2 : Int) (h : MM), 100 ≤ nx h → Lq h (f_X1_areBeside_2 n v0 v1 k v2 h)
  | 0, _, _, _ => Lq.none
  | k + 1, v2, h, z => lo_f_X1_areBeside_2b (fun b0 h z => lo_f_X1_areBeside_2 k b0 h z) h z
theorem lo_f_X1_areBeside {n : Nat} {v0 : Int} {v1 : Int} (h : MM) (z : 100 ≤ nx h) : Lq h (f_X1_areBeside n v0 v1 h) := by
  have L_h := Lo.refl z
  delta f_X1_areBeside
  exact Lq.tr L_h (lo_f_X1_areBeside_2 _ _ h L_h.1)
theorem lo_f_X1_goesOn_48 {n : Nat} (h : MM) (z : 100 ≤ nx h) : Lq h (f_X1_goesOn_48 n h) := by
  have L_h := Lo.refl z
  delta f_X1_goesOn_48
  refine Lq.xck ?_
  exact Lq.some L_h
theorem lo_f_X1_goesOn_53b {n : Nat} {rec53 : Int → MM → RR} {v0 : Int} {v1 : Int} {v3 : Int} {v4 : Int} (q_rec53 : ∀ (a0 : Int) (h : MM), 100 ≤ nx h → Lq h (rec53 a0 h)) (h : MM) (z : 100 ≤ nx h) : Lq h (f_X1_goesOn_53b n rec53 v0 v1 v3 v4 h) := by
  have L_h := Lo.refl z
  delta f_X1_goesOn_53b
  refine Lq.ite ?_ ?_
  refine Lq.xck ?_
  exact Lq.some L_h
  refine Lq.xgf fun _ => ?_
  refine Lq.xrd fun _ => ?_
  refine Lq.ite ?_ ?_
  refine Lq.xck ?_
  exact Lq.some L_h
  refine Lq.xlb fun _ => ?_
  exact Lq.tr L_h (q_rec53 _ h L_h.1)
theorem lo_f_X1_goesOn_53 {n : Nat} {v0 : Int} {v1 : Int} {v3 : Int} : ∀ (k : Nat) (v4 : Int) (h : MM), 100 ≤ nx h → Lq h (f_X1_goesOn_53 n v0 v1 v3 k v4 h)
  | 0, _, _, _ => Lq.none
  | k + 1, v4, h, z => lo_f_X1_goesOn_53b (fun b0 h z => lo_f_X1_goesOn_53 k b0 h z) h z
theorem lo_f_X1_goesOn_21 {n : Nat} {s0 : Int} (h : MM) (z : 100 ≤ nx h) : Lq h (f_X1_goesOn_21 n s0 h) := by
  have L_h := Lo.refl z
  delta f_X1_goesOn_21
  refine Lq.xck ?_
  exact Lq.some L_h
theorem lo_f_X1_goesOn {n : Nat} {v0 : Int} {v1 : Int} {v2 : Int} (h : MM) (z : 100 ≤ nx h) : Lq h (f_X1_goesOn n v0 v1 v2 h) := by
  have L_h := Lo.refl z
  delta f_X1_goesOn
  refine Lq.xgf fun _ => ?_
  refine Lq.xrd fun _ => ?_
  refine Lq.ite ?_ ?_
  refine Lq.ite ?_ ?_
  exact Lq.tr L_h (lo_f_X1_goesOn_21 h L_h.1)
  exact Lq.tr L_h (lo_f_X1_goesOn_21 h L_h.1)
  refine Lq.xbd L_h (lo_f_X11_within h L_h.1) fun _ h4 L_h4 => ?_
  refine Lq.ite ?_ ?_
  exact Lq.tr L_h4 (lo_f_X1_goesOn_48 h4 L_h4.1)
  refine Lq.xgf fun _ => ?_
  refine Lq.xrd fun _ => ?_
  refine Lq.xbd L_h4 (lo_f_X1_areBeside h4 L_h4.1) fun _ h8 L_h8 => ?_
  refine Lq.ite ?_ ?_
  exact Lq.tr L_h8 (lo_f_X1_goesOn_48 h8 L_h8.1)
  exact Lq.tr L_h8 (lo_f_X1_goesOn_53 _ _ h8 L_h8.1)
theorem lo_f_X1_follow_3b {n : Nat} {rec3 : Int → MM → RR} {v1 : Int} {v2 : Int} {v3 : Int} {v4 : Int} (q_rec3 : ∀ (a0 : Int) (h : MM), 100 ≤ nx h → Lq h (rec3 a0 h)) (h : MM) (z : 100 ≤ nx h) : Lq h (f_X1_follow_3b n rec3 v1 v2 v3 v4 h) := by
  have L_h := Lo.refl z
  delta f_X1_follow_3b
  refine Lq.xgf fun _ => ?_
  refine Lq.ite ?_ ?_
  refine Lq.xgf fun _ => ?_
  exact Lq.some L_h
  refine Lq.xbd L_h (lo_f_X1_goesOn h L_h.1) fun _ h4 L_h4 => ?_
  refine Lq.ite ?_ ?_
  exact Lq.some L_h4
  refine Lq.xgf fun _ => ?_
  refine Lq.xrd fun _ => ?_
  refine Lq.ite ?_ ?_
  exact Lq.some L_h4
  refine Lq.xlb fun _ => ?_
  exact Lq.tr L_h4 (q_rec3 _ h4 L_h4.1)
theorem lo_f_X1_follow_3 {n : Nat} {v1 : Int} {v2 : Int} {v3 : Int} : ∀ (k : Nat) (v4 : Int) (h : MM), 100 ≤ nx h → Lq h (f_X1_follow_3 n v1 v2 v3 k v4 h)
  | 0, _, _, _ => Lq.none
  | k + 1, v4, h, z => lo_f_X1_follow_3b (fun b0 h z => lo_f_X1_follow_3 k b0 h z) h z
theorem lo_f_X1_follow {n : Nat} {v0 : Int} {v1 : Int} {v2 : Int} {v3 : Int} (h : MM) (z : 100 ≤ nx h) : Lq h (f_X1_follow n v0 v1 v2 v3 h) := by
  have L_h := Lo.refl z
  delta f_X1_follow
  exact Lq.tr L_h (lo_f_X1_follow_3 _ _ h L_h.1)
theorem lo_f_J7_copyOf_59c91 {n : Nat} {v0 : Int} {v1 : Int} (h : MM) (z : 100 ≤ nx h) : Lq h (f_J7_copyOf_59c91 n v0 v1 h) := by
  have L_h := Lo.refl z
  delta f_J7_copyOf_59c91
  refine Lq.xal fun _ => ?_
  refine Lq.ite ?_ ?_
  refine Lq.xcln L_h fun _ h6 L_h6 => ?_
  refine Lq.xgk2 ?_
  exact Lq.some L_h6
  refine Lq.xna L_h fun _ h3 L_h3 => ?_
  refine Lq.xal fun _ => ?_
  refine Lq.xac L_h3 fun h5 L_h5 => ?_
  exact Lq.some L_h5
theorem lo_f_X1_riseTo {n : Nat} {v0 : Int} {v1 : Int} {v2 : Int} {v3 : Int} (h : MM) (z : 100 ≤ nx h) : Lq h (f_X1_riseTo n v0 v1 v2 v3 h) := by
  have L_h := Lo.refl z
  delta f_X1_riseTo
  refine Lq.ite ?_ ?_
  refine Lq.xgf fun _ => ?_
  refine Lq.xrd fun _ => ?_
  refine Lq.xrd fun _ => ?_
  refine Lq.xgf fun _ => ?_
  refine Lq.xrd fun _ => ?_
  refine Lq.xrd fun _ => ?_
  exact Lq.some L_h
  exact Lq.some L_h
theorem lo_f_X1_levelsOf_82 {n : Nat} {rec32 : Int → MM → RR} {v0 : Int} {v1 : Int} {v2 : Int} {v3 : Int} {v4 : Int} {v5 : Int} {s0 : Int} {s1 : Int} {s2 : Int} (q_rec32 : ∀ (a0 : Int) (h : MM), 100 ≤ nx h → Lq h (rec32 a0 h)) (h : MM) (z : 100 ≤ nx h) : Lq h (f_X1_levelsOf_82 n rec32 v0 v1 v2 v3 v4 v5 s0 s1 s2 h) := by
  have L_h := Lo.refl z
  delta f_X1_levelsOf_82
  refine Lq.xwt L_h fun h1 L_h1 => ?_
  refine Lq.xlb fun _ => ?_
  exact Lq.tr L_h1 (q_rec32 _ h1 L_h1.1)
theorem lo_f_X1_levelsOf_32b {n : Nat} {rec32 : Int → MM → RR} {v0 : Int} {v1 : Int} {v2 : Int} {v3 : Int} {v4 : Int} {v5 : Int} (q_rec32 : ∀ (a0 : Int) (h : MM), 100 ≤ nx h → Lq h (rec32 a0 h)) (h : MM) (z : 100 ≤ nx h) : Lq h (f_X1_levelsOf_32b n rec32 v0 v1 v2 v3 v4 v5 h) := by
  have L_h := Lo.refl z
  delta f_X1_levelsOf_32b
  refine Lq.ite ?_ ?_
  exact Lq.some L_h
  refine Lq.ite ?_ ?_
  refine Lq.xgf fun _ => ?_
  refine Lq.xrd fun _ => ?_
  refine Lq.xrd fun _ => ?_
  exact Lq.tr L_h (lo_f_X1_levelsOf_82 q_rec32 h L_h.1)
  refine Lq.xrd fun _ => ?_
  refine Lq.xgf fun _ => ?_
  refine Lq.xrd fun _ => ?_
  refine Lq.xgk ?_
  refine Lq.xbd L_h (lo_f_X1_riseTo h L_h.1) fun _ h6 L_h6 => ?_
  exact Lq.tr L_h6 (lo_f_X1_levelsOf_82 q_rec32 h6 L_h6.1)
theorem lo_f_X1_levelsOf_32 {n : Nat} {v0 : Int} {v1 : Int} {v2 : Int} {v3 : Int} {v4 : Int} : ∀ (k : Nat) (v5 : Int) (h : MM), 100 ≤ nx h → Lq h (f_X1_levelsOf_32 n v0 v1 v2 v3 v4 k v5 h)
  | 0, _, _, _ => Lq.none
  | k + 1, v5, h, z => lo_f_X1_levelsOf_32b (fun b0 h z => lo_f_X1_levelsOf_32 k b0 h z) h z
theorem lo_f_X1_levelsOf_20 {n : Nat} {v0 : Int} {v1 : Int} {v2 : Int} {s0 : Int} {s1 : Int} (h : MM) (z : 100 ≤ nx h) : Lq h (f_X1_levelsOf_20 n v0 v1 v2 s0 s1 h) := by
  have L_h := Lo.refl z
  delta f_X1_levelsOf_20
  refine Lq.xlb fun _ => ?_
  refine Lq.xna L_h fun _ h2 L_h2 => ?_
  exact Lq.tr L_h2 (lo_f_X1_levelsOf_32 _ _ h2 L_h2.1)
theorem lo_f_X1_levelsOf {n : Nat} {v0 : Int} {v1 : Int} {v2 : Int} (h : MM) (z : 100 ≤ nx h) : Lq h (f_X1_levelsOf n v0 v1 v2 h) := by
  have L_h := Lo.refl z
  delta f_X1_levelsOf
  refine Lq.xal fun _ => ?_
  refine Lq.xgf fun _ => ?_
  refine Lq.ite ?_ ?_
  refine Lq.xgf fun _ => ?_
  exact Lq.tr L_h (lo_f_X1_levelsOf_20 h L_h.1)
  exact Lq.tr L_h (lo_f_X1_levelsOf_20 h L_h.1)
theorem lo_f_X10_survey_128 {n : Nat} {v8 : Int} (h : MM) (z : 100 ≤ nx h) : Lq h (f_X10_survey_128 n v8 h) := by
  have L_h := Lo.refl z
  delta f_X10_survey_128
  exact Lq.some L_h
theorem lo_f_X10_survey_121 {n : Nat} {v6 : Int} {v8 : Int} (h : MM) (z : 100 ≤ nx h) : Lq h (f_X10_survey_121 n v6 v8 h) := by
  have L_h := Lo.refl z
  delta f_X10_survey_121
  refine Lq.xpf L_h fun h1 L_h1 => ?_
  exact Lq.tr L_h1 (lo_f_X10_survey_128 h1 L_h1.1)
theorem lo_f_X10_survey {n : Nat} {v0 : Int} {v1 : Int} {v2 : Int} {v3 : Int} {v4 : Int} (h : MM) (z : 100 ≤ nx h) : Lq h (f_X10_survey n v0 v1 v2 v3 v4 h) := by
  have L_h := Lo.refl z
  delta f_X10_survey
  refine Lq.xgf fun _ => ?_
  refine Lq.xgf fun _ => ?_
  refine Lq.xgf fun _ => ?_
  refine Lq.xrd fun _ => ?_
  refine Lq.xgf fun _ => ?_
  refine Lq.xgf fun _ => ?_
  refine Lq.xgf fun _ => ?_
  refine Lq.xgf fun _ => ?_
  refine Lq.xrd fun _ => ?_
  refine Lq.xgk ?_
  refine Lq.xbd L_h (lo_f_X1_follow h L_h.1) fun _ h10 L_h10 => ?_
  refine Lq.xgf fun _ => ?_
  refine Lq.xbd L_h10 (lo_f_J7_copyOf_59c91 h10 L_h10.1) fun _ h12 L_h12 => ?_
  refine Lq.xnw L_h12 fun _ h13 L_h13 => ?_
  refine Lq.xgf fun _ => ?_
  refine Lq.xgf fun _ => ?_
  refine Lq.xgk ?_
  refine Lq.xbd L_h13 (lo_f_X1_levelsOf h13 L_h13.1) fun _ h16 L_h16 => ?_
  refine Lq.xnz ?_
  refine Lq.xbd L_h16 (lo_f_X4_init h16 L_h16.1) fun _ h17 L_h17 => ?_
  refine Lq.xgf fun _ => ?_
  refine Lq.xgf fun _ => ?_
  refine Lq.xgf fun _ => ?_
  refine Lq.xgk ?_
  refine Lq.xbd L_h17 (lo_f_X4_tell h17 L_h17.1) fun _ h21 L_h21 => ?_
  refine Lq.xgf fun _ => ?_
  refine Lq.xpf L_h21 fun h23 L_h23 => ?_
  refine Lq.ite ?_ ?_
  exact Lq.tr L_h23 (lo_f_X10_survey_121 h23 L_h23.1)
  refine Lq.xrd fun _ => ?_
  refine Lq.ite ?_ ?_
  exact Lq.tr L_h23 (lo_f_X10_survey_128 h23 L_h23.1)
  exact Lq.tr L_h23 (lo_f_X10_survey_121 h23 L_h23.1)
theorem lo_f_X11_chain_33 {n : Nat} (h : MM) (z : 100 ≤ nx h) : Lq h (f_X11_chain_33 n h) := by
  have L_h := Lo.refl z
  delta f_X11_chain_33
  exact Lq.some L_h
theorem lo_f_X11_chain {n : Nat} {v0 : Int} {v1 : Int} {v2 : Int} {v3 : Int} (h : MM) (z : 100 ≤ nx h) : Lq h (f_X11_chain n v0 v1 v2 v3 h) := by
  have L_h := Lo.refl z
  delta f_X11_chain
  refine Lq.xgf fun _ => ?_
  refine Lq.xgf fun _ => ?_
  refine Lq.xgk ?_
  refine Lq.xbd L_h (lo_f_X5_find h L_h.1) fun _ h3 L_h3 => ?_
  refine Lq.ite ?_ ?_
  exact Lq.tr L_h3 (lo_f_X11_chain_33 h3 L_h3.1)
  refine Lq.xbd L_h3 (lo_f_X11_isSheet h3 L_h3.1) fun _ h5 L_h5 => ?_
  refine Lq.ite ?_ ?_
  exact Lq.tr L_h5 (lo_f_X11_chain_33 h5 L_h5.1)
  refine Lq.xbd L_h5 (lo_f_X11_isSheet h5 L_h5.1) fun _ h7 L_h7 => ?_
  refine Lq.ite ?_ ?_
  exact Lq.tr L_h7 (lo_f_X11_chain_33 h7 L_h7.1)
  refine Lq.xgf fun _ => ?_
  refine Lq.xgf fun _ => ?_
  refine Lq.xrd fun _ => ?_
  refine Lq.xgf fun _ => ?_
  refine Lq.ite ?_ ?_
  exact Lq.some L_h7
  refine Lq.xgf fun _ => ?_
  refine Lq.xgf fun _ => ?_
  refine Lq.xrd fun _ => ?_
  refine Lq.xgf fun _ => ?_
  refine Lq.ite ?_ ?_
  refine Lq.xgf fun _ => ?_
  refine Lq.xgf fun _ => ?_
  refine Lq.xgk ?_
  refine Lq.xbd L_h7 (lo_f_X5_isFull h7 L_h7.1) fun _ h21 L_h21 => ?_
  refine Lq.ite ?_ ?_
  refine Lq.xgf fun _ => ?_
  refine Lq.xgf fun _ => ?_
  refine Lq.xgf fun _ => ?_
  refine Lq.xgf fun _ => ?_
  refine Lq.xgf fun _ => ?_
  refine Lq.xrd fun _ => ?_
  refine Lq.xgf fun _ => ?_
  refine Lq.xgf fun _ => ?_
  refine Lq.xrd fun _ => ?_
  refine Lq.xgk ?_
  refine Lq.xbd L_h21 (lo_f_X10_survey h21 L_h21.1) fun _ h32 L_h32 => ?_
  refine Lq.xgk ?_
  refine Lq.xbd L_h32 (lo_f_X5_file h32 L_h32.1) fun _ h33 L_h33 => ?_
  exact Lq.some L_h33
  exact Lq.some L_h21
  exact Lq.some L_h7
theorem lo_f_X1_climb {n : Nat} {v0 : Int} {v1 : Int} {v2 : Int} (h : MM) (z : 100 ≤ nx h) : Lq h (f_X1_climb n v0 v1 v2 h) := by
  have L_h := Lo.refl z
  delta f_X1_climb
  refine Lq.xgf fun _ => ?_
  refine Lq.xrd fun _ => ?_
  refine Lq.xgf fun _ => ?_
  refine Lq.xrd fun _ => ?_
  exact Lq.some L_h
theorem lo_f_X1_yardsTo_30 {n : Nat} {v0 : Int} {v1 : Int} {v2 : Int} {s0 : Int} (h : MM) (z : 100 ≤ nx h) : Lq h (f_X1_yardsTo_30 n v0 v1 v2 s0 h) := by
  have L_h := Lo.refl z
  delta f_X1_yardsTo_30
  refine Lq.xgk ?_
  refine Lq.xbd L_h (lo_f_X1_climb h L_h.1) fun _ h1 L_h1 => ?_
  exact Lq.some L_h1
theorem lo_f_X1_yardsTo {n : Nat} {v0 : Int} {v1 : Int} {v2 : Int} (h : MM) (z : 100 ≤ nx h) : Lq h (f_X1_yardsTo n v0 v1 v2 h) := by
  have L_h := Lo.refl z
  delta f_X1_yardsTo
  refine Lq.xgf fun _ => ?_
  refine Lq.xrd fun _ => ?_
  refine Lq.ite ?_ ?_
  exact Lq.tr L_h (lo_f_X1_yardsTo_30 h L_h.1)
  refine Lq.xgf fun _ => ?_
  refine Lq.xrd fun _ => ?_
  refine Lq.ite ?_ ?_
  exact Lq.tr L_h (lo_f_X1_yardsTo_30 h L_h.1)
  exact Lq.tr L_h (lo_f_X1_yardsTo_30 h L_h.1)
theorem lo_f_X1_yardsOf_4b {n : Nat} {rec4 : Int → Int → MM → RR} {v0 : Int} {v1 : Int} {v2 : Int} {v3 : Int} (q_rec4 : ∀ (a0 a1 : Int) (h : MM), 100 ≤ nx h → Lq h (rec4 a0 a1 h)) (h : MM) (z : 100 ≤ nx h) : Lq h (f_X1_yardsOf_4b n rec4 v0 v1 v2 v3 h) := by
  have L_h := Lo.refl z
  delta f_X1_yardsOf_4b
  refine Lq.xal fun _ => ?_
  refine Lq.ite ?_ ?_
  exact Lq.some L_h
  refine Lq.xrd fun _ => ?_
  refine Lq.xrd fun _ => ?_
  refine Lq.xgk ?_
  refine Lq.xbd L_h (lo_f_X1_yardsTo h L_h.1) fun _ h5 L_h5 => ?_
  refine Lq.xlb fun _ => ?_
  refine Lq.xlb fun _ => ?_
  exact Lq.tr L_h5 (q_rec4 _ _ h5 L_h5.1)
theorem lo_f_X1_yardsOf_4 {n : Nat} {v0 : Int} {v1 : Int} : ∀ (k : Nat) (v2 v3 : Int) (h : MM), 100 ≤ nx h → Lq h (f_X1_yardsOf_4 n v0 v1 k v2 v3 h)
  | 0, _, _, _, _ => Lq.none
  | k + 1, v2, v3, h, z => lo_f_X1_yardsOf_4b (fun b0 b1 h z => lo_f_X1_yardsOf_4 k b0 b1 h z) h z
theorem lo_f_X1_yardsOf {n : Nat} {v0 : Int} {v1 : Int} (h : MM) (z : 100 ≤ nx h) : Lq h (f_X1_yardsOf n v0 v1 h) := by
  have L_h := Lo.refl z
  delta f_X1_yardsOf
  exact Lq.tr L_h (lo_f_X1_yardsOf_4 _ _ _ h L_h.1)
theorem lo_f_X11_way_92 {n : Nat} {s0 : Int} (h : MM) (z : 100 ≤ nx h) : Lq h (f_X11_way_92 n s0 h) := by
  have L_h := Lo.refl z
  delta f_X11_way_92
  exact Lq.some L_h
theorem lo_f_X11_way {n : Nat} {v0 : Int} {v1 : Int} {v2 : Int} (h : MM) (z : 100 ≤ nx h) : Lq h (f_X11_way n v0 v1 v2 h) := by
  have L_h := Lo.refl z
  delta f_X11_way
  refine Lq.xgf fun _ => ?_
  refine Lq.xgf fun _ => ?_
  refine Lq.xgk ?_
  refine Lq.xbd L_h (lo_f_X5_find h L_h.1) fun _ h3 L_h3 => ?_
  refine Lq.ite ?_ ?_
  exact Lq.some L_h3
  refine Lq.ite ?_ ?_
  refine Lq.xgf fun _ => ?_
  refine Lq.xal fun _ => ?_
  exact Lq.some L_h3
  refine Lq.ite ?_ ?_
  refine Lq.xgf fun _ => ?_
  exact Lq.some L_h3
  refine Lq.ite ?_ ?_
  refine Lq.xgf fun _ => ?_
  refine Lq.xgf fun _ => ?_
  refine Lq.xgf fun _ => ?_
  refine Lq.xgk ?_
  refine Lq.xbd L_h3 (lo_f_X1_yardsOf h3 L_h3.1) fun _ h17 L_h17 => ?_
  exact Lq.some L_h17
  refine Lq.xgf fun _ => ?_
  refine Lq.xal fun _ => ?_
  refine Lq.xbd L_h3 (lo_f_X11_within h3 L_h3.1) fun _ h10 L_h10 => ?_
  refine Lq.ite ?_ ?_
  exact Lq.tr L_h10 (lo_f_X11_way_92 h10 L_h10.1)
  refine Lq.xgf fun _ => ?_
  refine Lq.xrd fun _ => ?_
  exact Lq.tr L_h10 (lo_f_X11_way_92 h10 L_h10.1)
theorem lo_f_X11_level_33 {n : Nat} (h : MM) (z : 100 ≤ nx h) : Lq h (f_X11_level_33 n h) := by
  have L_h := Lo.refl z
  delta f_X11_level_33
  exact Lq.some L_h
theorem lo_f_X11_level_55 {n : Nat} {s0 : Int} (h : MM) (z : 100 ≤ nx h) : Lq h (f_X11_level_55 n s0 h) := by
  have L_h := Lo.refl z
  delta f_X11_level_55
  exact Lq.some L_h
theorem lo_f_X11_level {n : Nat} {v0 : Int} {v1 : Int} {v2 : Int} (h : MM) (z : 100 ≤ nx h) : Lq h (f_X11_level n v0 v1 v2 h) := by
  have L_h := Lo.refl z
  delta f_X11_level
  refine Lq.xgf fun _ => ?_
  refine Lq.xgf fun _ => ?_
  refine Lq.xgk ?_
  refine Lq.xbd L_h (lo_f_X5_find h L_h.1) fun _ h3 L_h3 => ?_
  refine Lq.ite ?_ ?_
  exact Lq.tr L_h3 (lo_f_X11_level_33 h3 L_h3.1)
  refine Lq.xgf fun _ => ?_
  refine Lq.xal fun _ => ?_
  refine Lq.xbd L_h3 (lo_f_X11_within h3 L_h3.1) fun _ h7 L_h7 => ?_
  refine Lq.ite ?_ ?_
  exact Lq.tr L_h7 (lo_f_X11_level_33 h7 L_h7.1)
  refine Lq.xgf fun _ => ?_
  refine Lq.xal fun _ => ?_
  refine Lq.ite ?_ ?_
  exact Lq.tr L_h7 (lo_f_X11_level_55 h7 L_h7.1)
  refine Lq.xgf fun _ => ?_
  refine Lq.xrd fun _ => ?_
  exact Lq.tr L_h7 (lo_f_X11_level_55 h7 L_h7.1)
theorem lo_f_X10_whereNotClose_10b {n : Nat} {rec10 : Int → MM → RR} {v0 : Int} {v1 : Int} {v3 : Int} {v4 : Int} (q_rec10 : ∀ (a0 : Int) (h : MM), 100 ≤ nx h → Lq h (rec10 a0 h)) (h : MM) (z : 100 ≤ nx h) : Lq h (f_X10_whereNotClose_10b n rec10 v0 v1 v3 v4 h) := by
  have L_h := Lo.refl z
  delta f_X10_whereNotClose_10b
  refine Lq.xgf fun _ => ?_
  refine Lq.xal fun _ => ?_
  refine Lq.ite ?_ ?_
  exact Lq.some L_h
  refine Lq.xgf fun _ => ?_
  refine Lq.xal fun _ => ?_
  refine Lq.ite ?_ ?_
  refine Lq.xgf fun _ => ?_
  refine Lq.xrd fun _ => ?_
  refine Lq.xgf fun _ => ?_
  refine Lq.xgf fun _ => ?_
  refine Lq.xgf fun _ => ?_
  refine Lq.xrd fun _ => ?_
  refine Lq.xrd fun _ => ?_
  refine Lq.ite ?_ ?_
  refine Lq.xlb fun _ => ?_
  exact Lq.tr L_h (q_rec10 _ h L_h.1)
  exact Lq.some L_h
  exact Lq.some L_h
theorem lo_f_X10_whereNotClose_10 {n : Nat} {v0 : Int} {v1 : Int} {v3 : Int} : ∀ (k : Nat) (v4 : Int) (h : MM), 100 ≤ nx h → Lq h (f_X10_whereNotClose_10 n v0 v1 v3 k v4 h)
  | 0, _, _, _ => Lq.none
  | k + 1, v4, h, z => lo_f_X10_whereNotClose_10b (fun b0 h z => lo_f_X10_whereNotClose_10 k b0 h z) h z
theorem lo_f_X10_whereNotClose {n : Nat} {v0 : Int} {v1 : Int} {v2 : Int} (h : MM) (z : 100 ≤ nx h) : Lq h (f_X10_whereNotClose n v0 v1 v2 h) := by
  have L_h := Lo.refl z
  delta f_X10_whereNotClose
  refine Lq.xgk ?_
  refine Lq.xbd L_h (lo_f_X10_ruleOf h L_h.1) fun _ h1 L_h1 => ?_
  exact Lq.tr L_h1 (lo_f_X10_whereNotClose_10 _ _ h1 L_h1.1)
theorem lo_f_X10_whereSteep_10b {n : Nat} {rec10 : Int → MM → RR} {v0 : Int} {v1 : Int} {v3 : Int} {v4 : Int} (q_rec10 : ∀ (a0 : Int) (h : MM), 100 ≤ nx h → Lq h (rec10 a0 h)) (h : MM) (z : 100 ≤ nx h) : Lq h (f_X10_whereSteep_10b n rec10 v0 v1 v3 v4 h) := by
  have L_h := Lo.refl z
  delta f_X10_whereSteep_10b
  refine Lq.xgf fun _ => ?_
  refine Lq.xal fun _ => ?_
  refine Lq.ite ?_ ?_
  exact Lq.some L_h
  refine Lq.xgf fun _ => ?_
  refine Lq.xgf fun _ => ?_
  refine Lq.xrd fun _ => ?_
  refine Lq.xgf fun _ => ?_
  refine Lq.xrd fun _ => ?_
  refine Lq.xgk ?_
  refine Lq.xbd L_h (lo_f_X1_climb h L_h.1) fun _ h9 L_h9 => ?_
  refine Lq.ite ?_ ?_
  refine Lq.xlb fun _ => ?_
  exact Lq.tr L_h9 (q_rec10 _ h9 L_h9.1)
  exact Lq.some L_h9
theorem lo_f_X10_whereSteep_10 {n : Nat} {v0 : Int} {v1 : Int} {v3 : Int} : ∀ (k : Nat) (v4 : Int) (h : MM), 100 ≤ nx h → Lq h (f_X10_whereSteep_10 n v0 v1 v3 k v4 h)
  | 0, _, _, _ => Lq.none
  | k + 1, v4, h, z => lo_f_X10_whereSteep_10b (fun b0 h z => lo_f_X10_whereSteep_10 k b0 h z) h z
theorem lo_f_X10_whereSteep {n : Nat} {v0 : Int} {v1 : Int} {v2 : Int} (h : MM) (z : 100 ≤ nx h) : Lq h (f_X10_whereSteep n v0 v1 v2 h) := by
  have L_h := Lo.refl z
  delta f_X10_whereSteep
  refine Lq.xgk ?_
  refine Lq.xbd L_h (lo_f_X10_ruleOf h L_h.1) fun _ h1 L_h1 => ?_
  exact Lq.tr L_h1 (lo_f_X10_whereSteep_10 _ _ h1 L_h1.1)
theorem lo_f_X11_close_29 {n : Nat} (h : MM) (z : 100 ≤ nx h) : Lq h (f_X11_close_29 n h) := by
  have L_h := Lo.refl z
  delta f_X11_close_29
  exact Lq.some L_h
theorem lo_f_X11_close_68 {n : Nat} {s0 : Int} (h : MM) (z : 100 ≤ nx h) : Lq h (f_X11_close_68 n s0 h) := by
  have L_h := Lo.refl z
  delta f_X11_close_68
  exact Lq.some L_h
theorem lo_f_X11_close {n : Nat} {v0 : Int} {v1 : Int} {v2 : Int} {v3 : Int} (h : MM) (z : 100 ≤ nx h) : Lq h (f_X11_close n v0 v1 v2 v3 h) := by
  have L_h := Lo.refl z
  delta f_X11_close
  refine Lq.xgf fun _ => ?_
  refine Lq.xgf fun _ => ?_
  refine Lq.xgk ?_
  refine Lq.xbd L_h (lo_f_X5_find h L_h.1) fun _ h3 L_h3 => ?_
  refine Lq.ite ?_ ?_
  exact Lq.tr L_h3 (lo_f_X11_close_29 h3 L_h3.1)
  refine Lq.xbd L_h3 (lo_f_X11_within h3 L_h3.1) fun _ h5 L_h5 => ?_
  refine Lq.ite ?_ ?_
  exact Lq.tr L_h5 (lo_f_X11_close_29 h5 L_h5.1)
  refine Lq.xbd L_h5 (lo_f_X11_isDay h5 L_h5.1) fun _ h7 L_h7 => ?_
  refine Lq.ite ?_ ?_
  exact Lq.some L_h7
  refine Lq.ite ?_ ?_
  refine Lq.xgf fun _ => ?_
  refine Lq.xgk ?_
  refine Lq.xbd L_h7 (lo_f_X10_whereNotClose h7 L_h7.1) fun _ h13 L_h13 => ?_
  exact Lq.tr L_h13 (lo_f_X11_close_68 h13 L_h13.1)
  refine Lq.xgf fun _ => ?_
  refine Lq.xgk ?_
  refine Lq.xbd L_h7 (lo_f_X10_whereSteep h7 L_h7.1) fun _ h11 L_h11 => ?_
  exact Lq.tr L_h11 (lo_f_X11_close_68 h11 L_h11.1)
theorem lo_f_X4_cellAtOddsWith_59 {n : Nat} {rec2 : Int → MM → RR} {rec13 : Int → MM → RR} {v0 : Int} {v1 : Int} {v2 : Int} {v3 : Int} (q_rec2 : ∀ (a0 : Int) (h : MM), 100 ≤ nx h → Lq h (rec2 a0 h)) (q_rec13 : ∀ (a0 : Int) (h : MM), 100 ≤ nx h → Lq h (rec13 a0 h)) (h : MM) (z : 100 ≤ nx h) : Lq h (f_X4_cellAtOddsWith_59 n rec2 rec13 v0 v1 v2 v3 h) := by
  have L_h := Lo.refl z
  delta f_X4_cellAtOddsWith_59
  refine Lq.xlb fun _ => ?_
  exact Lq.tr L_h (q_rec13 _ h L_h.1)
theorem lo_f_X4_cellAtOddsWith_13b {n : Nat} {rec2 : Int → MM → RR} {rec13 : Int → MM → RR} {v0 : Int} {v1 : Int} {v2 : Int} {v3 : Int} (q_rec2 : ∀ (a0 : Int) (h : MM), 100 ≤ nx h → Lq h (rec2 a0 h)) (q_rec13 : ∀ (a0 : Int) (h : MM), 100 ≤ nx h → Lq h (rec13 a0 h)) (h : MM) (z : 100 ≤ nx h) : Lq h (f_X4_cellAtOddsWith_13b n rec2 rec13 v0 v1 v2 v3 h) := by
  have L_h := Lo.refl z
  delta f_X4_cellAtOddsWith_13b
  refine Lq.xgf fun _ => ?_
  refine Lq.xal fun _ => ?_
  refine Lq.ite ?_ ?_
  refine Lq.xlb fun _ => ?_
  exact Lq.tr L_h (q_rec2 _ h L_h.1)
  refine Lq.xgf fun _ => ?_
  refine Lq.xrd fun _ => ?_
  refine Lq.xgf fun _ => ?_
  refine Lq.xrd fun _ => ?_
  refine Lq.ite ?_ ?_
  refine Lq.xgf fun _ => ?_
  refine Lq.xrd fun _ => ?_
  refine Lq.xgf fun _ => ?_
  refine Lq.xrd fun _ => ?_
  refine Lq.ite ?_ ?_
  exact Lq.tr L_h (lo_f_X4_cellAtOddsWith_59 q_rec2 q_rec13 h L_h.1)
  refine Lq.xgf fun _ => ?_
  refine Lq.xrd fun _ => ?_
  exact Lq.some L_h
  exact Lq.tr L_h (lo_f_X4_cellAtOddsWith_59 q_rec2 q_rec13 h L_h.1)
theorem lo_f_X4_cellAtOddsWith_13 {n : Nat} {rec2 : Int → MM → RR} {v0 : Int} {v1 : Int} {v2 : Int} (q_rec2 : ∀ (a0 : Int) (h : MM), 100 ≤ nx h → Lq h (rec2 a0 h)) : ∀ (k : Nat) (v3 : Int) (h : MM), 100 ≤ nx h → Lq h (f_X4_cellAtOddsWith_13 n rec2 v0 v1 v2 k v3 h)
  | 0, _, _, _ => Lq.none
  | k + 1, v3, h, z => lo_f_X4_cellAtOddsWith_13b q_rec2 (fun b0 h z => lo_f_X4_cellAtOddsWith_13 q_rec2 k b0 h z) h z
theorem lo_f_X4_cellAtOddsWith_2b {n : Nat} {rec2 : Int → MM → RR} {v0 : Int} {v1 : Int} {v2 : Int} (q_rec2 : ∀ (a0 : Int) (h : MM), 100 ≤ nx h → Lq h (rec2 a0 h)) (h : MM) (z : 100 ≤ nx h) : Lq h (f_X4_cellAtOddsWith_2b n rec2 v0 v1 v2 h) := by
  have L_h := Lo.refl z
  delta f_X4_cellAtOddsWith_2b
  refine Lq.xgf fun _ => ?_
  refine Lq.xal fun _ => ?_
  refine Lq.ite ?_ ?_
  exact Lq.some L_h
  exact Lq.tr L_h (lo_f_X4_cellAtOddsWith_13 q_rec2 _ _ h L_h.1)
theorem lo_f_X4_cellAtOddsWith_2 {n : Nat} {v0 : Int} {v1 : Int} : ∀ (k : Nat) (v2 : Int) (h : MM), 100 ≤ nx h → Lq h (f_X4_cellAtOddsWith_2 n v0 v1 k v2 h)
  | 0, _, _, _ => Lq.none
  | k + 1, v2, h, z => lo_f_X4_cellAtOddsWith_2b (fun b0 h z => lo_f_X4_cellAtOddsWith_2 k b0 h z) h z
theorem lo_f_X4_cellAtOddsWith {n : Nat} {v0 : Int} {v1 : Int} (h : MM) (z : 100 ≤ nx h) : Lq h (f_X4_cellAtOddsWith n v0 v1 h) := by
  have L_h := Lo.refl z
  delta f_X4_cellAtOddsWith
  exact Lq.tr L_h (lo_f_X4_cellAtOddsWith_2 _ _ h L_h.1)
theorem lo_f_X11_quarrel_36 {n : Nat} (h : MM) (z : 100 ≤ nx h) : Lq h (f_X11_quarrel_36 n h) := by
  have L_h := Lo.refl z
  delta f_X11_quarrel_36
  exact Lq.some L_h
theorem lo_f_X11_quarrel {n : Nat} {v0 : Int} {v1 : Int} {v2 : Int} (h : MM) (z : 100 ≤ nx h) : Lq h (f_X11_quarrel n v0 v1 v2 h) := by
  have L_h := Lo.refl z
  delta f_X11_quarrel
  refine Lq.xgf fun _ => ?_
  refine Lq.xgf fun _ => ?_
  refine Lq.xgk ?_
  refine Lq.xbd L_h (lo_f_X5_find h L_h.1) fun _ h3 L_h3 => ?_
  refine Lq.xgf fun _ => ?_
  refine Lq.xgf fun _ => ?_
  refine Lq.xgk ?_
  refine Lq.xbd L_h3 (lo_f_X5_find h3 L_h3.1) fun _ h6 L_h6 => ?_
  refine Lq.ite ?_ ?_
  exact Lq.tr L_h6 (lo_f_X11_quarrel_36 h6 L_h6.1)
  refine Lq.ite ?_ ?_
  exact Lq.tr L_h6 (lo_f_X11_quarrel_36 h6 L_h6.1)
  refine Lq.ite ?_ ?_
  exact Lq.some L_h6
  refine Lq.xgk ?_
  refine Lq.xbd L_h6 (lo_f_X4_cellAtOddsWith h6 L_h6.1) fun _ h10 L_h10 => ?_
  exact Lq.some L_h10
theorem lo_f_X7_nearest_46 {n : Nat} {rec4 : Int → Int → MM → RR} {v0 : Int} {v1 : Int} {v2 : Int} (q_rec4 : ∀ (a0 a1 : Int) (h : MM), 100 ≤ nx h → Lq h (rec4 a0 a1 h)) (h : MM) (z : 100 ≤ nx h) : Lq h (f_X7_nearest_46 n rec4 v0 v1 v2 h) := by
  have L_h := Lo.refl z
  delta f_X7_nearest_46
  refine Lq.xlb fun _ => ?_
  exact Lq.tr L_h (q_rec4 _ _ h L_h.1)
theorem lo_f_X7_nearest_41 {n : Nat} {rec4 : Int → Int → MM → RR} {v0 : Int} {v1 : Int} {v2 : Int} {s0 : Int} {s1 : Int} (q_rec4 : ∀ (a0 a1 : Int) (h : MM), 100 ≤ nx h → Lq h (rec4 a0 a1 h)) (h : MM) (z : 100 ≤ nx h) : Lq h (f_X7_nearest_41 n rec4 v0 v1 v2 s0 s1 h) := by
  have L_h := Lo.refl z
  delta f_X7_nearest_41
  refine Lq.ite ?_ ?_
  exact Lq.tr L_h (lo_f_X7_nearest_46 q_rec4 h L_h.1)
  exact Lq.tr L_h (lo_f_X7_nearest_46 q_rec4 h L_h.1)
theorem lo_f_X7_nearest_4b {n : Nat} {rec4 : Int → Int → MM → RR} {v0 : Int} {v1 : Int} {v2 : Int} (q_rec4 : ∀ (a0 a1 : Int) (h : MM), 100 ≤ nx h → Lq h (rec4 a0 a1 h)) (h : MM) (z : 100 ≤ nx h) : Lq h (f_X7_nearest_4b n rec4 v0 v1 v2 h) := by
  have L_h := Lo.refl z
  delta f_X7_nearest_4b
  refine Lq.ite ?_ ?_
  exact Lq.some L_h
  refine Lq.xgf fun _ => ?_
  refine Lq.xrd fun _ => ?_
  refine Lq.ite ?_ ?_
  refine Lq.xgf fun _ => ?_
  refine Lq.xrd fun _ => ?_
  refine Lq.ite ?_ ?_
  exact Lq.tr L_h (lo_f_X7_nearest_41 q_rec4 h L_h.1)
  refine Lq.xgf fun _ => ?_
  refine Lq.xrd fun _ => ?_
  exact Lq.tr L_h (lo_f_X7_nearest_41 q_rec4 h L_h.1)
  exact Lq.tr L_h (lo_f_X7_nearest_46 q_rec4 h L_h.1)
theorem lo_f_X7_nearest_4 {n : Nat} {v0 : Int} : ∀ (k : Nat) (v1 v2 : Int) (h : MM), 100 ≤ nx h → Lq h (f_X7_nearest_4 n v0 k v1 v2 h)
  | 0, _, _, _, _ => Lq.none
  | k + 1, v1, v2, h, z => lo_f_X7_nearest_4b (fun b0 b1 h z => lo_f_X7_nearest_4 k b0 b1 h z) h z
theorem lo_f_X7_nearest {n : Nat} {v0 : Int} (h : MM) (z : 100 ≤ nx h) : Lq h (f_X7_nearest n v0 h) := by
  have L_h := Lo.refl z
  delta f_X7_nearest
  exact Lq.tr L_h (lo_f_X7_nearest_4 _ _ _ h L_h.1)
theorem lo_f_X7_isOpen_38 {n : Nat} {s0 : Int} (h : MM) (z : 100 ≤ nx h) : Lq h (f_X7_isOpen_38 n s0 h) := by
  have L_h := Lo.refl z
  delta f_X7_isOpen_38
  refine Lq.xck ?_
  exact Lq.some L_h
theorem lo_f_X7_isOpen_33 {n : Nat} (h : MM) (z : 100 ≤ nx h) : Lq h (f_X7_isOpen_33 n h) := by
  have L_h := Lo.refl z
  delta f_X7_isOpen_33
  exact Lq.tr L_h (lo_f_X7_isOpen_38 h L_h.1)
theorem lo_f_X7_isOpen {n : Nat} {v0 : Int} {v1 : Int} {v2 : Int} (h : MM) (z : 100 ≤ nx h) : Lq h (f_X7_isOpen n v0 v1 v2 h) := by
  have L_h := Lo.refl z
  delta f_X7_isOpen
  refine Lq.xgf fun _ => ?_
  refine Lq.ite ?_ ?_
  refine Lq.xgf fun _ => ?_
  refine Lq.xrd fun _ => ?_
  refine Lq.ite ?_ ?_
  refine Lq.xgf fun _ => ?_
  refine Lq.ite ?_ ?_
  exact Lq.tr L_h (lo_f_X7_isOpen_33 h L_h.1)
  refine Lq.xgf fun _ => ?_
  refine Lq.ite ?_ ?_
  exact Lq.tr L_h (lo_f_X7_isOpen_33 h L_h.1)
  exact Lq.tr L_h (lo_f_X7_isOpen_38 h L_h.1)
  exact Lq.tr L_h (lo_f_X7_isOpen_33 h L_h.1)
  exact Lq.tr L_h (lo_f_X7_isOpen_33 h L_h.1)
theorem lo_f_X7_canStep_36 {n : Nat} {s0 : Int} (h : MM) (z : 100 ≤ nx h) : Lq h (f_X7_canStep_36 n s0 h) := by
  have L_h := Lo.refl z
  delta f_X7_canStep_36
  refine Lq.xck ?_
  exact Lq.some L_h
theorem lo_f_X7_canStep_35 {n : Nat} (h : MM) (z : 100 ≤ nx h) : Lq h (f_X7_canStep_35 n h) := by
  have L_h := Lo.refl z
  delta f_X7_canStep_35
  exact Lq.tr L_h (lo_f_X7_canStep_36 h L_h.1)
theorem lo_f_X7_canStep {n : Nat} {v0 : Int} {v1 : Int} {v2 : Int} {v3 : Int} (h : MM) (z : 100 ≤ nx h) : Lq h (f_X7_canStep n v0 v1 v2 v3 h) := by
  have L_h := Lo.refl z
  delta f_X7_canStep
  refine Lq.xgk ?_
  refine Lq.xbd L_h (lo_f_X7_isOpen h L_h.1) fun _ h1 L_h1 => ?_
  refine Lq.ite ?_ ?_
  exact Lq.tr L_h1 (lo_f_X7_canStep_35 h1 L_h1.1)
  refine Lq.xgk ?_
  refine Lq.xbd L_h1 (lo_f_X7_isOpen h1 L_h1.1) fun _ h3 L_h3 => ?_
  refine Lq.ite ?_ ?_
  exact Lq.tr L_h3 (lo_f_X7_canStep_35 h3 L_h3.1)
  refine Lq.xgk ?_
  refine Lq.xbd L_h3 (lo_f_X1_climb h3 L_h3.1) fun _ h5 L_h5 => ?_
  refine Lq.xgf fun _ => ?_
  refine Lq.ite ?_ ?_
  exact Lq.tr L_h5 (lo_f_X7_canStep_35 h5 L_h5.1)
  exact Lq.tr L_h5 (lo_f_X7_canStep_36 h5 L_h5.1)
theorem lo_f_X7_measure_131 {n : Nat} {rec42 : Int → MM → RR} {rec69 : Int → MM → RR} {v0 : Int} {v1 : Int} {v2 : Int} {v3 : Int} {v4 : Int} (q_rec42 : ∀ (a0 : Int) (h : MM), 100 ≤ nx h → Lq h (rec42 a0 h)) (q_rec69 : ∀ (a0 : Int) (h : MM), 100 ≤ nx h → Lq h (rec69 a0 h)) (h : MM) (z : 100 ≤ nx h) : Lq h (f_X7_measure_131 n rec42 rec69 v0 v1 v2 v3 v4 h) := by
  have L_h := Lo.refl z
  delta f_X7_measure_131
  refine Lq.xlb fun _ => ?_
  exact Lq.tr L_h (q_rec69 _ h L_h.1)
theorem lo_f_X7_measure_69b {n : Nat} {rec42 : Int → MM → RR} {rec69 : Int → MM → RR} {v0 : Int} {v1 : Int} {v2 : Int} {v3 : Int} {v4 : Int} (q_rec42 : ∀ (a0 : Int) (h : MM), 100 ≤ nx h → Lq h (rec42 a0 h)) (q_rec69 : ∀ (a0 : Int) (h : MM), 100 ≤ nx h → Lq h (rec69 a0 h)) (h : MM) (z : 100 ≤ nx h) : Lq h (f_X7_measure_69b n rec42 rec69 v0 v1 v2 v3 v4 h) := by
  have L_h := Lo.refl z
  delta f_X7_measure_69b
  refine Lq.ite ?_ ?_
  refine Lq.xlb fun _ => ?_
  exact Lq.tr L_h (q_rec42 _ h L_h.1)
  refine Lq.xbd L_h (lo_f_X1_beside h L_h.1) fun _ h3 L_h3 => ?_
  refine Lq.ite ?_ ?_
  exact Lq.tr L_h3 (lo_f_X7_measure_131 q_rec42 q_rec69 h3 L_h3.1)
  refine Lq.xgk ?_
  refine Lq.xbd L_h3 (lo_f_X7_canStep h3 L_h3.1) fun _ h5 L_h5 => ?_
  refine Lq.ite ?_ ?_
  exact Lq.tr L_h5 (lo_f_X7_measure_131 q_rec42 q_rec69 h5 L_h5.1)
  refine Lq.xgf fun _ => ?_
  refine Lq.xgf fun _ => ?_
  refine Lq.xrd fun _ => ?_
  refine Lq.xgf fun _ => ?_
  refine Lq.xrd fun _ => ?_
  refine Lq.xgk ?_
  refine Lq.xbd L_h5 (lo_f_X1_yardsTo h5 L_h5.1) fun _ h12 L_h12 => ?_
  refine Lq.xwt L_h12 fun h13 L_h13 => ?_
  exact Lq.tr L_h13 (lo_f_X7_measure_131 q_rec42 q_rec69 h13 L_h13.1)
theorem lo_f_X7_measure_69 {n : Nat} {rec42 : Int → MM → RR} {v0 : Int} {v1 : Int} {v2 : Int} {v3 : Int} (q_rec42 : ∀ (a0 : Int) (h : MM), 100 ≤ nx h → Lq h (rec42 a0 h)) : ∀ (k : Nat) (v4 : Int) (h : MM), 100 ≤ nx h → Lq h (f_X7_measure_69 n rec42 v0 v1 v2 v3 k v4 h)
  | 0, _, _, _ => Lq.none
  | k + 1, v4, h, z => lo_f_X7_measure_69b q_rec42 (fun b0 h z => lo_f_X7_measure_69 q_rec42 k b0 h z) h z
theorem lo_f_X7_measure_42b {n : Nat} {rec42 : Int → MM → RR} {v0 : Int} {v1 : Int} {v2 : Int} (q_rec42 : ∀ (a0 : Int) (h : MM), 100 ≤ nx h → Lq h (rec42 a0 h)) (h : MM) (z : 100 ≤ nx h) : Lq h (f_X7_measure_42b n rec42 v0 v1 v2 h) := by
  have L_h := Lo.refl z
  delta f_X7_measure_42b
  refine Lq.ite ?_ ?_
  exact Lq.some L_h
  refine Lq.xgk ?_
  refine Lq.xbd L_h (lo_f_X7_nearest h L_h.1) fun _ h2 L_h2 => ?_
  refine Lq.ite ?_ ?_
  exact Lq.some L_h2
  refine Lq.xgf fun _ => ?_
  refine Lq.xck ?_
  refine Lq.xwt L_h2 fun h5 L_h5 => ?_
  exact Lq.tr L_h5 (lo_f_X7_measure_69 q_rec42 _ _ h5 L_h5.1)
theorem lo_f_X7_measure_42 {n : Nat} {v0 : Int} {v1 : Int} : ∀ (k : Nat) (v2 : Int) (h : MM), 100 ≤ nx h → Lq h (f_X7_measure_42 n v0 v1 k v2 h)
  | 0, _, _, _ => Lq.none
  | k + 1, v2, h, z => lo_f_X7_measure_42b (fun b0 h z => lo_f_X7_measure_42 k b0 h z) h z
theorem lo_f_X7_measure_11b {n : Nat} {rec11 : Int → MM → RR} {v0 : Int} {v1 : Int} {v2 : Int} (q_rec11 : ∀ (a0 : Int) (h : MM), 100 ≤ nx h → Lq h (rec11 a0 h)) (h : MM) (z : 100 ≤ nx h) : Lq h (f_X7_measure_11b n rec11 v0 v1 v2 h) := by
  have L_h := Lo.refl z
  delta f_X7_measure_11b
  refine Lq.ite ?_ ?_
  refine Lq.xgf fun _ => ?_
  refine Lq.xgf fun _ => ?_
  refine Lq.xwt L_h fun h4 L_h4 => ?_
  exact Lq.tr L_h4 (lo_f_X7_measure_42 _ _ h4 L_h4.1)
  refine Lq.xgf fun _ => ?_
  refine Lq.xck ?_
  refine Lq.xwt L_h fun h6 L_h6 => ?_
  refine Lq.xlb fun _ => ?_
  exact Lq.tr L_h6 (q_rec11 _ h6 L_h6.1)
theorem lo_f_X7_measure_11 {n : Nat} {v0 : Int} {v1 : Int} : ∀ (k : Nat) (v2 : Int) (h : MM), 100 ≤ nx h → Lq h (f_X7_measure_11 n v0 v1 k v2 h)
  | 0, _, _, _ => Lq.none
  | k + 1, v2, h, z => lo_f_X7_measure_11b (fun b0 h z => lo_f_X7_measure_11 k b0 h z) h z
theorem lo_f_X7_measure {n : Nat} {v0 : Int} {v1 : Int} (h : MM) (z : 100 ≤ nx h) : Lq h (f_X7_measure n v0 v1 h) := by
  have L_h := Lo.refl z
  delta f_X7_measure
  refine Lq.xgf fun _ => ?_
  refine Lq.xbd L_h (lo_f_J7_fill_53178 h L_h.1) fun _ h2 L_h2 => ?_
  exact Lq.tr L_h2 (lo_f_X7_measure_11 _ _ h2 L_h2.1)
theorem lo_f_X7_leastNext_61 {n : Nat} {rec2 : Int → MM → RR} {v0 : Int} {v1 : Int} {v2 : Int} {v3 : Int} (q_rec2 : ∀ (a0 : Int) (h : MM), 100 ≤ nx h → Lq h (rec2 a0 h)) (h : MM) (z : 100 ≤ nx h) : Lq h (f_X7_leastNext_61 n rec2 v0 v1 v2 v3 h) := by
  have L_h := Lo.refl z
  delta f_X7_leastNext_61
  refine Lq.xlb fun _ => ?_
  exact Lq.tr L_h (q_rec2 _ h L_h.1)
theorem lo_f_X7_leastNext_2b {n : Nat} {rec2 : Int → MM → RR} {v0 : Int} {v1 : Int} {v2 : Int} {v3 : Int} (q_rec2 : ∀ (a0 : Int) (h : MM), 100 ≤ nx h → Lq h (rec2 a0 h)) (h : MM) (z : 100 ≤ nx h) : Lq h (f_X7_leastNext_2b n rec2 v0 v1 v2 v3 h) := by
  have L_h := Lo.refl z
  delta f_X7_leastNext_2b
  refine Lq.ite ?_ ?_
  exact Lq.some L_h
  refine Lq.xbd L_h (lo_f_X1_beside h L_h.1) fun _ h2 L_h2 => ?_
  refine Lq.ite ?_ ?_
  exact Lq.tr L_h2 (lo_f_X7_leastNext_61 q_rec2 h2 L_h2.1)
  refine Lq.xgk ?_
  refine Lq.xbd L_h2 (lo_f_X7_canStep h2 L_h2.1) fun _ h4 L_h4 => ?_
  refine Lq.ite ?_ ?_
  exact Lq.tr L_h4 (lo_f_X7_leastNext_61 q_rec2 h4 L_h4.1)
  refine Lq.xgf fun _ => ?_
  refine Lq.xrd fun _ => ?_
  refine Lq.xgk ?_
  refine Lq.xbd L_h4 (lo_f_X1_yardsTo h4 L_h4.1) fun _ h8 L_h8 => ?_
  refine Lq.xgf fun _ => ?_
  refine Lq.xrd fun _ => ?_
  refine Lq.ite ?_ ?_
  exact Lq.some L_h8
  exact Lq.tr L_h8 (lo_f_X7_leastNext_61 q_rec2 h8 L_h8.1)
theorem lo_f_X7_leastNext_2 {n : Nat} {v0 : Int} {v1 : Int} {v2 : Int} : ∀ (k : Nat) (v3 : Int) (h : MM), 100 ≤ nx h → Lq h (f_X7_leastNext_2 n v0 v1 v2 k v3 h)
  | 0, _, _, _ => Lq.none
  | k + 1, v3, h, z => lo_f_X7_leastNext_2b (fun b0 h z => lo_f_X7_leastNext_2 k b0 h z) h z
theorem lo_f_X7_leastNext {n : Nat} {v0 : Int} {v1 : Int} {v2 : Int} (h : MM) (z : 100 ≤ nx h) : Lq h (f_X7_leastNext n v0 v1 v2 h) := by
  have L_h := Lo.refl z
  delta f_X7_leastNext
  exact Lq.tr L_h (lo_f_X7_leastNext_2 _ _ h L_h.1)
theorem lo_f_X7_walk_78 {n : Nat} (h : MM) (z : 100 ≤ nx h) : Lq h (f_X7_walk_78 n h) := by
  have L_h := Lo.refl z
  delta f_X7_walk_78
  exact Lq.some L_h
theorem lo_f_X7_walk_17b {n : Nat} {rec17 : Int → MM → RR} {v0 : Int} {v1 : Int} {v2 : Int} (q_rec17 : ∀ (a0 : Int) (h : MM), 100 ≤ nx h → Lq h (rec17 a0 h)) (h : MM) (z : 100 ≤ nx h) : Lq h (f_X7_walk_17b n rec17 v0 v1 v2 h) := by
  have L_h := Lo.refl z
  delta f_X7_walk_17b
  refine Lq.ite ?_ ?_
  exact Lq.tr L_h (lo_f_X7_walk_78 h L_h.1)
  refine Lq.xgf fun _ => ?_
  refine Lq.xrd fun _ => ?_
  refine Lq.xgf fun _ => ?_
  refine Lq.ite ?_ ?_
  exact Lq.tr L_h (lo_f_X7_walk_78 h L_h.1)
  refine Lq.xgf fun _ => ?_
  refine Lq.xrd fun _ => ?_
  refine Lq.xgk ?_
  refine Lq.xbd L_h (lo_f_X7_leastNext h L_h.1) fun _ h8 L_h8 => ?_
  refine Lq.ite ?_ ?_
  exact Lq.some L_h8
  refine Lq.xgf fun _ => ?_
  refine Lq.xwt L_h8 fun h11 L_h11 => ?_
  refine Lq.xpf L_h11 fun h12 L_h12 => ?_
  refine Lq.xlb fun _ => ?_
  exact Lq.tr L_h12 (q_rec17 _ h12 L_h12.1)
theorem lo_f_X7_walk_17 {n : Nat} {v0 : Int} {v1 : Int} : ∀ (k : Nat) (v2 : Int) (h : MM), 100 ≤ nx h → Lq h (f_X7_walk_17 n v0 v1 k v2 h)
  | 0, _, _, _ => Lq.none
  | k + 1, v2, h, z => lo_f_X7_walk_17b (fun b0 h z => lo_f_X7_walk_17 k b0 h z) h z
theorem lo_f_X7_walk {n : Nat} {v0 : Int} {v1 : Int} (h : MM) (z : 100 ≤ nx h) : Lq h (f_X7_walk n v0 v1 h) := by
  have L_h := Lo.refl z
  delta f_X7_walk
  refine Lq.xgf fun _ => ?_
  refine Lq.xgf fun _ => ?_
  refine Lq.xwt L_h fun h3 L_h3 => ?_
  refine Lq.xpf L_h3 fun h4 L_h4 => ?_
  exact Lq.tr L_h4 (lo_f_X7_walk_17 _ _ h4 L_h4.1)
theorem lo_f_X7_seek_54 {n : Nat} {v0 : Int} {v1 : Int} {s0 : Int} {s1 : Int} (h : MM) (z : 100 ≤ nx h) : Lq h (f_X7_seek_54 n v0 v1 s0 s1 h) := by
  have L_h := Lo.refl z
  delta f_X7_seek_54
  refine Lq.xck ?_
  refine Lq.xpf L_h fun h1 L_h1 => ?_
  refine Lq.xgf fun _ => ?_
  refine Lq.xgk ?_
  refine Lq.xbd L_h1 (lo_f_X7_measure h1 L_h1.1) fun _ h4 L_h4 => ?_
  refine Lq.xgf fun _ => ?_
  refine Lq.xgf fun _ => ?_
  refine Lq.xrd fun _ => ?_
  refine Lq.xpf L_h4 fun h8 L_h8 => ?_
  refine Lq.xgf fun _ => ?_
  refine Lq.ite ?_ ?_
  refine Lq.xgf fun _ => ?_
  refine Lq.xgk ?_
  refine Lq.xbd L_h8 (lo_f_X7_walk h8 L_h8.1) fun _ h12 L_h12 => ?_
  refine Lq.xck ?_
  exact Lq.some L_h12
  refine Lq.xck ?_
  exact Lq.some L_h8
theorem lo_f_X7_seek {n : Nat} {v0 : Int} {v1 : Int} {v2 : Int} {v3 : Int} {v4 : Int} (h : MM) (z : 100 ≤ nx h) : Lq h (f_X7_seek n v0 v1 v2 v3 v4 h) := by
  have L_h := Lo.refl z
  delta f_X7_seek
  refine Lq.xgf fun _ => ?_
  refine Lq.xgf fun _ => ?_
  refine Lq.xrd fun _ => ?_
  refine Lq.xpf L_h fun h4 L_h4 => ?_
  refine Lq.xgf fun _ => ?_
  refine Lq.xgf fun _ => ?_
  refine Lq.xrd fun _ => ?_
  refine Lq.xpf L_h4 fun h8 L_h8 => ?_
  refine Lq.xgk ?_
  refine Lq.xbd L_h8 (lo_f_X10_ruleOf h8 L_h8.1) fun _ h9 L_h9 => ?_
  refine Lq.xpf L_h9 fun h10 L_h10 => ?_
  refine Lq.xgk ?_
  refine Lq.xbd L_h10 (lo_f_X10_ruleOf h10 L_h10.1) fun _ h11 L_h11 => ?_
  refine Lq.ite ?_ ?_
  exact Lq.tr L_h11 (lo_f_X7_seek_54 h11 L_h11.1)
  exact Lq.tr L_h11 (lo_f_X7_seek_54 h11 L_h11.1)
theorem lo_f_X11_slope_33 {n : Nat} (h : MM) (z : 100 ≤ nx h) : Lq h (f_X11_slope_33 n h) := by
  have L_h := Lo.refl z
  delta f_X11_slope_33
  exact Lq.some L_h
theorem lo_f_X11_slope_47 {n : Nat} (h : MM) (z : 100 ≤ nx h) : Lq h (f_X11_slope_47 n h) := by
  have L_h := Lo.refl z
  delta f_X11_slope_47
  exact Lq.some L_h
theorem lo_f_X11_slope_129 {n : Nat} {s0 : Int} (h : MM) (z : 100 ≤ nx h) : Lq h (f_X11_slope_129 n s0 h) := by
  have L_h := Lo.refl z
  delta f_X11_slope_129
  exact Lq.some L_h
theorem lo_f_X11_slope {n : Nat} {v0 : Int} {v1 : Int} {v2 : Int} {v3 : Int} {v4 : Int} (h : MM) (z : 100 ≤ nx h) : Lq h (f_X11_slope n v0 v1 v2 v3 v4 h) := by
  have L_h := Lo.refl z
  delta f_X11_slope
  refine Lq.xgk ?_
  refine Lq.xbd L_h (lo_f_X11_isTown h L_h.1) fun _ h1 L_h1 => ?_
  refine Lq.ite ?_ ?_
  exact Lq.tr L_h1 (lo_f_X11_slope_33 h1 L_h1.1)
  refine Lq.xgk ?_
  refine Lq.xbd L_h1 (lo_f_X11_isTown h1 L_h1.1) fun _ h3 L_h3 => ?_
  refine Lq.ite ?_ ?_
  exact Lq.tr L_h3 (lo_f_X11_slope_33 h3 L_h3.1)
  refine Lq.ite ?_ ?_
  exact Lq.tr L_h3 (lo_f_X11_slope_33 h3 L_h3.1)
  refine Lq.xbd L_h3 (lo_f_X11_within h3 L_h3.1) fun _ h6 L_h6 => ?_
  refine Lq.ite ?_ ?_
  refine Lq.ite ?_ ?_
  exact Lq.tr L_h6 (lo_f_X11_slope_47 h6 L_h6.1)
  refine Lq.xbd L_h6 (lo_f_X11_isDay h6 L_h6.1) fun _ h9 L_h9 => ?_
  refine Lq.ite ?_ ?_
  exact Lq.tr L_h9 (lo_f_X11_slope_47 h9 L_h9.1)
  refine Lq.xgf fun _ => ?_
  refine Lq.xgf fun _ => ?_
  refine Lq.xgk ?_
  refine Lq.xbd L_h9 (lo_f_X7_seek h9 L_h9.1) fun _ h13 L_h13 => ?_
  refine Lq.ite ?_ ?_
  exact Lq.some L_h13
  refine Lq.ite ?_ ?_
  refine Lq.xgf fun _ => ?_
  refine Lq.xgf fun _ => ?_
  exact Lq.some L_h13
  refine Lq.ite ?_ ?_
  refine Lq.xgf fun _ => ?_
  refine Lq.xgf fun _ => ?_
  exact Lq.some L_h13
  refine Lq.xgf fun _ => ?_
  refine Lq.xgf fun _ => ?_
  refine Lq.ite ?_ ?_
  exact Lq.tr L_h13 (lo_f_X11_slope_129 h13 L_h13.1)
  refine Lq.xgf fun _ => ?_
  refine Lq.xgf fun _ => ?_
  refine Lq.xrd fun _ => ?_
  exact Lq.tr L_h13 (lo_f_X11_slope_129 h13 L_h13.1)
  exact Lq.tr L_h6 (lo_f_X11_slope_33 h6 L_h6.1)
theorem lo_f_X11_claim {n : Nat} {v0 : Int} {v1 : Int} {v2 : Int} (h : MM) (z : 100 ≤ nx h) : Lq h (f_X11_claim n v0 v1 v2 h) := by
  have L_h := Lo.refl z
  delta f_X11_claim
  refine Lq.xbd L_h (lo_f_X11_within h L_h.1) fun _ h1 L_h1 => ?_
  refine Lq.ite ?_ ?_
  exact Lq.some L_h1
  refine Lq.xbd L_h1 (lo_f_X11_within h1 L_h1.1) fun _ h3 L_h3 => ?_
  refine Lq.ite ?_ ?_
  exact Lq.some L_h3
  refine Lq.xgf fun _ => ?_
  refine Lq.xgf fun _ => ?_
  refine Lq.xgk ?_
  refine Lq.xbd L_h3 (lo_f_X5_isFull h3 L_h3.1) fun _ h7 L_h7 => ?_
  refine Lq.ite ?_ ?_
  refine Lq.xnw L_h7 fun _ h9 L_h9 => ?_
  refine Lq.xgf fun _ => ?_
  refine Lq.xgf fun _ => ?_
  refine Lq.xnz ?_
  refine Lq.xbd L_h9 (lo_f_X4_init h9 L_h9.1) fun _ h12 L_h12 => ?_
  refine Lq.xgk ?_
  refine Lq.xbd L_h12 (lo_f_X4_tell h12 L_h12.1) fun _ h13 L_h13 => ?_
  refine Lq.xgf fun _ => ?_
  refine Lq.xgf fun _ => ?_
  refine Lq.xgf fun _ => ?_
  refine Lq.xrd fun _ => ?_
  refine Lq.xwt L_h13 fun h18 L_h18 => ?_
  refine Lq.xgf fun _ => ?_
  refine Lq.xgf fun _ => ?_
  refine Lq.xgk ?_
  refine Lq.xbd L_h18 (lo_f_X5_file h18 L_h18.1) fun _ h21 L_h21 => ?_
  exact Lq.some L_h21
  exact Lq.some L_h7
theorem lo_f_X5_hasBill_31 {n : Nat} {rec2 : Int → MM → RR} {v0 : Int} {v1 : Int} {v2 : Int} (q_rec2 : ∀ (a0 : Int) (h : MM), 100 ≤ nx h → Lq h (rec2 a0 h)) (h : MM) (z : 100 ≤ nx h) : Lq h (f_X5_hasBill_31 n rec2 v0 v1 v2 h) := by
  have L_h := Lo.refl z
  delta f_X5_hasBill_31
  refine Lq.xlb fun _ => ?_
  exact Lq.tr L_h (q_rec2 _ h L_h.1)
theorem lo_f_X5_hasBill_2b {n : Nat} {rec2 : Int → MM → RR} {v0 : Int} {v1 : Int} {v2 : Int} (q_rec2 : ∀ (a0 : Int) (h : MM), 100 ≤ nx h → Lq h (rec2 a0 h)) (h : MM) (z : 100 ≤ nx h) : Lq h (f_X5_hasBill_2b n rec2 v0 v1 v2 h) := by
  have L_h := Lo.refl z
  delta f_X5_hasBill_2b
  refine Lq.xgf fun _ => ?_
  refine Lq.ite ?_ ?_
  refine Lq.xck ?_
  exact Lq.some L_h
  refine Lq.xgk ?_
  refine Lq.xbd L_h (lo_f_X5_find h L_h.1) fun _ h4 L_h4 => ?_
  refine Lq.ite ?_ ?_
  exact Lq.tr L_h4 (lo_f_X5_hasBill_31 q_rec2 h4 L_h4.1)
  refine Lq.xgf fun _ => ?_
  refine Lq.ite ?_ ?_
  refine Lq.xck ?_
  exact Lq.some L_h4
  exact Lq.tr L_h4 (lo_f_X5_hasBill_31 q_rec2 h4 L_h4.1)
theorem lo_f_X5_hasBill_2 {n : Nat} {v0 : Int} {v1 : Int} : ∀ (k : Nat) (v2 : Int) (h : MM), 100 ≤ nx h → Lq h (f_X5_hasBill_2 n v0 v1 k v2 h)
  | 0, _, _, _ => Lq.none
  | k + 1, v2, h, z => lo_f_X5_hasBill_2b (fun b0 h z => lo_f_X5_hasBill_2 k b0 h z) h z
theorem lo_f_X5_hasBill {n : Nat} {v0 : Int} {v1 : Int} (h : MM) (z : 100 ≤ nx h) : Lq h (f_X5_hasBill n v0 v1 h) := by
  have L_h := Lo.refl z
  delta f_X5_hasBill
  exact Lq.tr L_h (lo_f_X5_hasBill_2 _ _ h L_h.1)
theorem lo_f_X10_isSound_33 {n : Nat} {s0 : Int} (h : MM) (z : 100 ≤ nx h) : Lq h (f_X10_isSound_33 n s0 h) := by
  have L_h := Lo.refl z
  delta f_X10_isSound_33
  refine Lq.xck ?_
  exact Lq.some L_h
theorem lo_f_X10_isSound_32 {n : Nat} (h : MM) (z : 100 ≤ nx h) : Lq h (f_X10_isSound_32 n h) := by
  have L_h := Lo.refl z
  delta f_X10_isSound_32
  exact Lq.tr L_h (lo_f_X10_isSound_33 h L_h.1)
theorem lo_f_X10_isSound {n : Nat} {v0 : Int} {v1 : Int} (h : MM) (z : 100 ≤ nx h) : Lq h (f_X10_isSound n v0 v1 h) := by
  have L_h := Lo.refl z
  delta f_X10_isSound
  refine Lq.xgf fun _ => ?_
  refine Lq.xgk ?_
  refine Lq.xbd L_h (lo_f_X10_whereNotClose h L_h.1) fun _ h2 L_h2 => ?_
  refine Lq.ite ?_ ?_
  refine Lq.xgf fun _ => ?_
  refine Lq.xgk ?_
  refine Lq.xbd L_h2 (lo_f_X10_whereSteep h2 L_h2.1) fun _ h5 L_h5 => ?_
  refine Lq.ite ?_ ?_
  exact Lq.tr L_h5 (lo_f_X10_isSound_33 h5 L_h5.1)
  exact Lq.tr L_h5 (lo_f_X10_isSound_32 h5 L_h5.1)
  exact Lq.tr L_h2 (lo_f_X10_isSound_32 h2 L_h2.1)
theorem lo_f_X10_canBeBrought_38 {n : Nat} {s0 : Int} (h : MM) (z : 100 ≤ nx h) : Lq h (f_X10_canBeBrought_38 n s0 h) := by
  have L_h := Lo.refl z
  delta f_X10_canBeBrought_38
  refine Lq.xck ?_
  exact Lq.some L_h
theorem lo_f_X10_canBeBrought_37 {n : Nat} (h : MM) (z : 100 ≤ nx h) : Lq h (f_X10_canBeBrought_37 n h) := by
  have L_h := Lo.refl z
  delta f_X10_canBeBrought_37
  exact Lq.tr L_h (lo_f_X10_canBeBrought_38 h L_h.1)
theorem lo_f_X10_canBeBrought {n : Nat} {v0 : Int} {v1 : Int} (h : MM) (z : 100 ≤ nx h) : Lq h (f_X10_canBeBrought n v0 v1 h) := by
  have L_h := Lo.refl z
  delta f_X10_canBeBrought
  refine Lq.xgf fun _ => ?_
  refine Lq.ite ?_ ?_
  refine Lq.xgk ?_
  refine Lq.xbd L_h (lo_f_X10_isSound h L_h.1) fun _ h3 L_h3 => ?_
  refine Lq.ite ?_ ?_
  exact Lq.tr L_h3 (lo_f_X10_canBeBrought_37 h3 L_h3.1)
  refine Lq.xgf fun _ => ?_
  refine Lq.xgf fun _ => ?_
  refine Lq.xgk ?_
  refine Lq.xbd L_h3 (lo_f_X10_ruleOf h3 L_h3.1) fun _ h7 L_h7 => ?_
  refine Lq.ite ?_ ?_
  exact Lq.tr L_h7 (lo_f_X10_canBeBrought_37 h7 L_h7.1)
  exact Lq.tr L_h7 (lo_f_X10_canBeBrought_38 h7 L_h7.1)
  exact Lq.tr L_h (lo_f_X10_canBeBrought_37 h L_h.1)
theorem lo_f_X11_bill_44 {n : Nat} (h : MM) (z : 100 ≤ nx h) : Lq h (f_X11_bill_44 n h) := by
  have L_h := Lo.refl z
  delta f_X11_bill_44
  exact Lq.some L_h
theorem lo_f_X11_bill {n : Nat} {v0 : Int} {v1 : Int} (h : MM) (z : 100 ≤ nx h) : Lq h (f_X11_bill n v0 v1 h) := by
  have L_h := Lo.refl z
  delta f_X11_bill
  refine Lq.xgf fun _ => ?_
  refine Lq.xgf fun _ => ?_
  refine Lq.xgk ?_
  refine Lq.xbd L_h (lo_f_X5_find h L_h.1) fun _ h3 L_h3 => ?_
  refine Lq.ite ?_ ?_
  exact Lq.some L_h3
  refine Lq.xgf fun _ => ?_
  refine Lq.xgf fun _ => ?_
  refine Lq.xgk ?_
  refine Lq.xbd L_h3 (lo_f_X5_hasBill h3 L_h3.1) fun _ h7 L_h7 => ?_
  refine Lq.ite ?_ ?_
  refine Lq.xgf fun _ => ?_
  refine Lq.xgk ?_
  refine Lq.xbd L_h7 (lo_f_X10_canBeBrought h7 L_h7.1) fun _ h10 L_h10 => ?_
  refine Lq.ite ?_ ?_
  exact Lq.tr L_h10 (lo_f_X11_bill_44 h10 L_h10.1)
  refine Lq.xgf fun _ => ?_
  refine Lq.xgf fun _ => ?_
  refine Lq.xgk ?_
  refine Lq.xbd L_h10 (lo_f_X5_isFull h10 L_h10.1) fun _ h14 L_h14 => ?_
  refine Lq.ite ?_ ?_
  refine Lq.xnw L_h14 fun _ h16 L_h16 => ?_
  refine Lq.xgf fun _ => ?_
  refine Lq.xgf fun _ => ?_
  refine Lq.xgf fun _ => ?_
  refine Lq.xgf fun _ => ?_
  refine Lq.xnz ?_
  refine Lq.xbd L_h16 (lo_f_X4_init h16 L_h16.1) fun _ h21 L_h21 => ?_
  refine Lq.xgf fun _ => ?_
  refine Lq.xgf fun _ => ?_
  refine Lq.xgf fun _ => ?_
  refine Lq.xgk ?_
  refine Lq.xbd L_h21 (lo_f_X4_tell h21 L_h21.1) fun _ h25 L_h25 => ?_
  refine Lq.xgf fun _ => ?_
  refine Lq.xpf L_h25 fun h27 L_h27 => ?_
  refine Lq.xgf fun _ => ?_
  refine Lq.xgf fun _ => ?_
  refine Lq.xgk ?_
  refine Lq.xbd L_h27 (lo_f_X5_file h27 L_h27.1) fun _ h30 L_h30 => ?_
  exact Lq.some L_h30
  exact Lq.some L_h14
  exact Lq.tr L_h7 (lo_f_X11_bill_44 h7 L_h7.1)
theorem lo_f_X1_cellsOf_28 {n : Nat} {rec5 : Int → Int → MM → RR} {v0 : Int} {v1 : Int} {v2 : Int} {v3 : Int} {v4 : Int} (q_rec5 : ∀ (a0 a1 : Int) (h : MM), 100 ≤ nx h → Lq h (rec5 a0 a1 h)) (h : MM) (z : 100 ≤ nx h) : Lq h (f_X1_cellsOf_28 n rec5 v0 v1 v2 v3 v4 h) := by
  have L_h := Lo.refl z
  delta f_X1_cellsOf_28
  refine Lq.xlb fun _ => ?_
  exact Lq.tr L_h (q_rec5 _ _ h L_h.1)
theorem lo_f_X1_cellsOf_5b {n : Nat} {rec5 : Int → Int → MM → RR} {v0 : Int} {v1 : Int} {v2 : Int} {v3 : Int} {v4 : Int} (q_rec5 : ∀ (a0 a1 : Int) (h : MM), 100 ≤ nx h → Lq h (rec5 a0 a1 h)) (h : MM) (z : 100 ≤ nx h) : Lq h (f_X1_cellsOf_5b n rec5 v0 v1 v2 v3 v4 h) := by
  have L_h := Lo.refl z
  delta f_X1_cellsOf_5b
  refine Lq.xal fun _ => ?_
  refine Lq.ite ?_ ?_
  exact Lq.some L_h
  refine Lq.xgf fun _ => ?_
  refine Lq.xrd fun _ => ?_
  refine Lq.xrd fun _ => ?_
  refine Lq.ite ?_ ?_
  refine Lq.xlb fun _ => ?_
  exact Lq.tr L_h (lo_f_X1_cellsOf_28 q_rec5 h L_h.1)
  exact Lq.tr L_h (lo_f_X1_cellsOf_28 q_rec5 h L_h.1)
theorem lo_f_X1_cellsOf_5 {n : Nat} {v0 : Int} {v1 : Int} {v2 : Int} : ∀ (k : Nat) (v3 v4 : Int) (h : MM), 100 ≤ nx h → Lq h (f_X1_cellsOf_5 n v0 v1 v2 k v3 v4 h)
  | 0, _, _, _, _ => Lq.none
  | k + 1, v3, v4, h, z => lo_f_X1_cellsOf_5b (fun b0 b1 h z => lo_f_X1_cellsOf_5 k b0 b1 h z) h z
theorem lo_f_X1_cellsOf {n : Nat} {v0 : Int} {v1 : Int} {v2 : Int} (h : MM) (z : 100 ≤ nx h) : Lq h (f_X1_cellsOf n v0 v1 v2 h) := by
  have L_h := Lo.refl z
  delta f_X1_cellsOf
  exact Lq.tr L_h (lo_f_X1_cellsOf_5 _ _ _ h L_h.1)
theorem lo_f_X1_claimsOf_4b {n : Nat} {rec4 : Int → Int → MM → RR} {v0 : Int} {v1 : Int} {v2 : Int} {v3 : Int} (q_rec4 : ∀ (a0 a1 : Int) (h : MM), 100 ≤ nx h → Lq h (rec4 a0 a1 h)) (h : MM) (z : 100 ≤ nx h) : Lq h (f_X1_claimsOf_4b n rec4 v0 v1 v2 v3 h) := by
  have L_h := Lo.refl z
  delta f_X1_claimsOf_4b
  refine Lq.xal fun _ => ?_
  refine Lq.ite ?_ ?_
  exact Lq.some L_h
  refine Lq.xgf fun _ => ?_
  refine Lq.xrd fun _ => ?_
  refine Lq.xrd fun _ => ?_
  refine Lq.xlb fun _ => ?_
  refine Lq.xlb fun _ => ?_
  exact Lq.tr L_h (q_rec4 _ _ h L_h.1)
theorem lo_f_X1_claimsOf_4 {n : Nat} {v0 : Int} {v1 : Int} : ∀ (k : Nat) (v2 v3 : Int) (h : MM), 100 ≤ nx h → Lq h (f_X1_claimsOf_4 n v0 v1 k v2 v3 h)
  | 0, _, _, _, _ => Lq.none
  | k + 1, v2, v3, h, z => lo_f_X1_claimsOf_4b (fun b0 b1 h z => lo_f_X1_claimsOf_4 k b0 b1 h z) h z
theorem lo_f_X1_claimsOf {n : Nat} {v0 : Int} {v1 : Int} (h : MM) (z : 100 ≤ nx h) : Lq h (f_X1_claimsOf n v0 v1 h) := by
  have L_h := Lo.refl z
  delta f_X1_claimsOf
  exact Lq.tr L_h (lo_f_X1_claimsOf_4 _ _ _ h L_h.1)
theorem lo_f_X3_lets_25 {n : Nat} {s0 : Int} (h : MM) (z : 100 ≤ nx h) : Lq h (f_X3_lets_25 n s0 h) := by
  have L_h := Lo.refl z
  delta f_X3_lets_25
  refine Lq.xck ?_
  exact Lq.some L_h
theorem lo_f_X3_lets {n : Nat} {v0 : Int} (h : MM) (z : 100 ≤ nx h) : Lq h (f_X3_lets n v0 h) := by
  have L_h := Lo.refl z
  delta f_X3_lets
  refine Lq.xgf fun _ => ?_
  refine Lq.xrd fun _ => ?_
  refine Lq.xpf L_h fun h3 L_h3 => ?_
  refine Lq.xgk ?_
  refine Lq.xbd L_h3 (lo_f_X3_either _ _ h3 L_h3.1) fun _ h4 L_h4 => ?_
  refine Lq.ite ?_ ?_
  exact Lq.tr L_h4 (lo_f_X3_lets_25 h4 L_h4.1)
  exact Lq.tr L_h4 (lo_f_X3_lets_25 h4 L_h4.1)
theorem lo_f_X10_canBeLet {n : Nat} {v0 : Int} {v1 : Int} {v2 : Int} (h : MM) (z : 100 ≤ nx h) : Lq h (f_X10_canBeLet n v0 v1 v2 h) := by
  have L_h := Lo.refl z
  delta f_X10_canBeLet
  refine Lq.xgk ?_
  refine Lq.xbd L_h (lo_f_X10_ruling h L_h.1) fun _ h1 L_h1 => ?_
  refine Lq.ite ?_ ?_
  refine Lq.xck ?_
  exact Lq.some L_h1
  refine Lq.xgf fun _ => ?_
  refine Lq.xgf fun _ => ?_
  refine Lq.xgf fun _ => ?_
  refine Lq.xgk ?_
  refine Lq.xbd L_h1 (lo_f_X1_yardsOf h1 L_h1.1) fun _ h6 L_h6 => ?_
  refine Lq.xwt L_h6 fun h7 L_h7 => ?_
  refine Lq.xgf fun _ => ?_
  refine Lq.xgf fun _ => ?_
  refine Lq.xgf fun _ => ?_
  refine Lq.xgf fun _ => ?_
  refine Lq.xrd fun _ => ?_
  refine Lq.xgf fun _ => ?_
  refine Lq.xgf fun _ => ?_
  refine Lq.xgf fun _ => ?_
  refine Lq.xrd fun _ => ?_
  refine Lq.xwt L_h7 fun h17 L_h17 => ?_
  refine Lq.xgf fun _ => ?_
  refine Lq.xgf fun _ => ?_
  refine Lq.xgf fun _ => ?_
  refine Lq.xgk ?_
  refine Lq.xbd L_h17 (lo_f_X1_cellsOf h17 L_h17.1) fun _ h21 L_h21 => ?_
  refine Lq.xwt L_h21 fun h22 L_h22 => ?_
  refine Lq.xgf fun _ => ?_
  refine Lq.xgf fun _ => ?_
  refine Lq.xgf fun _ => ?_
  refine Lq.xgk ?_
  refine Lq.xbd L_h22 (lo_f_X1_cellsOf h22 L_h22.1) fun _ h26 L_h26 => ?_
  refine Lq.xwt L_h26 fun h27 L_h27 => ?_
  refine Lq.xgf fun _ => ?_
  refine Lq.xgf fun _ => ?_
  refine Lq.xgf fun _ => ?_
  refine Lq.xgk ?_
  refine Lq.xbd L_h27 (lo_f_X1_claimsOf h27 L_h27.1) fun _ h31 L_h31 => ?_
  refine Lq.xwt L_h31 fun h32 L_h32 => ?_
  refine Lq.xgf fun _ => ?_
  refine Lq.xgf fun _ => ?_
  refine Lq.xwt L_h32 fun h35 L_h35 => ?_
  refine Lq.xgk ?_
  refine Lq.xbd L_h35 (lo_f_X3_lets h35 L_h35.1) fun _ h36 L_h36 => ?_
  refine Lq.xck ?_
  exact Lq.some L_h36
theorem lo_f_X11_hear_46 {n : Nat} {s0 : Int} (h : MM) (z : 100 ≤ nx h) : Lq h (f_X11_hear_46 n s0 h) := by
  have L_h := Lo.refl z
  delta f_X11_hear_46
  exact Lq.some L_h
theorem lo_f_X11_hear {n : Nat} {v0 : Int} {v1 : Int} {v2 : Int} (h : MM) (z : 100 ≤ nx h) : Lq h (f_X11_hear n v0 v1 v2 h) := by
  have L_h := Lo.refl z
  delta f_X11_hear
  refine Lq.xgf fun _ => ?_
  refine Lq.xgf fun _ => ?_
  refine Lq.xgk ?_
  refine Lq.xbd L_h (lo_f_X5_find h L_h.1) fun _ h3 L_h3 => ?_
  refine Lq.ite ?_ ?_
  exact Lq.some L_h3
  refine Lq.xbd L_h3 (lo_f_X11_isDay h3 L_h3.1) fun _ h5 L_h5 => ?_
  refine Lq.ite ?_ ?_
  exact Lq.some L_h5
  refine Lq.xgf fun _ => ?_
  refine Lq.xgk ?_
  refine Lq.xbd L_h5 (lo_f_X10_canBeLet h5 L_h5.1) fun _ h8 L_h8 => ?_
  refine Lq.ite ?_ ?_
  exact Lq.tr L_h8 (lo_f_X11_hear_46 h8 L_h8.1)
  exact Lq.tr L_h8 (lo_f_X11_hear_46 h8 L_h8.1)
theorem lo_f_X5_setAtBar {n : Nat} {v0 : Int} {v1 : Int} {v2 : Int} (h : MM) (z : 100 ≤ nx h) : Lq h (f_X5_setAtBar n v0 v1 v2 h) := by
  have L_h := Lo.refl z
  delta f_X5_setAtBar
  refine Lq.xgf fun _ => ?_
  refine Lq.xrd fun _ => ?_
  refine Lq.ite ?_ ?_
  refine Lq.xgf fun _ => ?_
  refine Lq.xrd fun _ => ?_
  refine Lq.xwt L_h fun h6 L_h6 => ?_
  refine Lq.xgf fun _ => ?_
  refine Lq.xrd fun _ => ?_
  refine Lq.xwt L_h6 fun h9 L_h9 => ?_
  refine Lq.xck ?_
  exact Lq.some L_h9
  refine Lq.xck ?_
  exact Lq.some L_h
theorem lo_f_X11_bar_30 {n : Nat} (h : MM) (z : 100 ≤ nx h) : Lq h (f_X11_bar_30 n h) := by
  have L_h := Lo.refl z
  delta f_X11_bar_30
  exact Lq.some L_h
theorem lo_f_X11_bar_60 {n : Nat} {s0 : Int} (h : MM) (z : 100 ≤ nx h) : Lq h (f_X11_bar_60 n s0 h) := by
  have L_h := Lo.refl z
  delta f_X11_bar_60
  exact Lq.some L_h
theorem lo_f_X11_bar {n : Nat} {v0 : Int} {v1 : Int} {v2 : Int} (h : MM) (z : 100 ≤ nx h) : Lq h (f_X11_bar n v0 v1 v2 h) := by
  have L_h := Lo.refl z
  delta f_X11_bar
  refine Lq.xgf fun _ => ?_
  refine Lq.xgf fun _ => ?_
  refine Lq.xgk ?_
  refine Lq.xbd L_h (lo_f_X5_find h L_h.1) fun _ h3 L_h3 => ?_
  refine Lq.ite ?_ ?_
  exact Lq.tr L_h3 (lo_f_X11_bar_30 h3 L_h3.1)
  refine Lq.xgf fun _ => ?_
  refine Lq.xgf fun _ => ?_
  refine Lq.xgk ?_
  refine Lq.xbd L_h3 (lo_f_X5_find h3 L_h3.1) fun _ h7 L_h7 => ?_
  refine Lq.ite ?_ ?_
  exact Lq.tr L_h7 (lo_f_X11_bar_30 h7 L_h7.1)
  refine Lq.ite ?_ ?_
  exact Lq.some L_h7
  refine Lq.xgf fun _ => ?_
  refine Lq.xgf fun _ => ?_
  refine Lq.xgk ?_
  refine Lq.xbd L_h7 (lo_f_X5_setAtBar h7 L_h7.1) fun _ h12 L_h12 => ?_
  refine Lq.ite ?_ ?_
  exact Lq.tr L_h12 (lo_f_X11_bar_60 h12 L_h12.1)
  exact Lq.tr L_h12 (lo_f_X11_bar_60 h12 L_h12.1)
theorem lo_f_X5_isMarked_18 {n : Nat} {s0 : Int} (h : MM) (z : 100 ≤ nx h) : Lq h (f_X5_isMarked_18 n s0 h) := by
  have L_h := Lo.refl z
  delta f_X5_isMarked_18
  refine Lq.xck ?_
  exact Lq.some L_h
theorem lo_f_X5_isMarked {n : Nat} {v0 : Int} {v1 : Int} (h : MM) (z : 100 ≤ nx h) : Lq h (f_X5_isMarked n v0 v1 h) := by
  have L_h := Lo.refl z
  delta f_X5_isMarked
  refine Lq.xgf fun _ => ?_
  refine Lq.ite ?_ ?_
  exact Lq.tr L_h (lo_f_X5_isMarked_18 h L_h.1)
  exact Lq.tr L_h (lo_f_X5_isMarked_18 h L_h.1)
theorem lo_f_X5_isBarred_21 {n : Nat} {s0 : Int} (h : MM) (z : 100 ≤ nx h) : Lq h (f_X5_isBarred_21 n s0 h) := by
  have L_h := Lo.refl z
  delta f_X5_isBarred_21
  refine Lq.xck ?_
  exact Lq.some L_h
theorem lo_f_X5_isBarred {n : Nat} {v0 : Int} {v1 : Int} (h : MM) (z : 100 ≤ nx h) : Lq h (f_X5_isBarred n v0 v1 h) := by
  have L_h := Lo.refl z
  delta f_X5_isBarred
  refine Lq.xgf fun _ => ?_
  refine Lq.xrd fun _ => ?_
  refine Lq.xgf fun _ => ?_
  refine Lq.ite ?_ ?_
  exact Lq.tr L_h (lo_f_X5_isBarred_21 h L_h.1)
  exact Lq.tr L_h (lo_f_X5_isBarred_21 h L_h.1)
theorem lo_f_X5_mark {n : Nat} {v0 : Int} {v1 : Int} (h : MM) (z : 100 ≤ nx h) : Lq h (f_X5_mark n v0 v1 h) := by
  have L_h := Lo.refl z
  delta f_X5_mark
  refine Lq.xgf fun _ => ?_
  refine Lq.xpf L_h fun h2 L_h2 => ?_
  exact Lq.some L_h2
theorem lo_f_X5_isGranted_22 {n : Nat} {s0 : Int} (h : MM) (z : 100 ≤ nx h) : Lq h (f_X5_isGranted_22 n s0 h) := by
  have L_h := Lo.refl z
  delta f_X5_isGranted_22
  refine Lq.xck ?_
  exact Lq.some L_h
theorem lo_f_X5_isGranted_21 {n : Nat} (h : MM) (z : 100 ≤ nx h) : Lq h (f_X5_isGranted_21 n h) := by
  have L_h := Lo.refl z
  delta f_X5_isGranted_21
  exact Lq.tr L_h (lo_f_X5_isGranted_22 h L_h.1)
theorem lo_f_X5_isGranted {n : Nat} {v0 : Int} {v1 : Int} (h : MM) (z : 100 ≤ nx h) : Lq h (f_X5_isGranted n v0 v1 h) := by
  have L_h := Lo.refl z
  delta f_X5_isGranted
  refine Lq.xgk ?_
  refine Lq.xbd L_h (lo_f_X5_isMarked h L_h.1) fun _ h1 L_h1 => ?_
  refine Lq.ite ?_ ?_
  exact Lq.tr L_h1 (lo_f_X5_isGranted_21 h1 L_h1.1)
  refine Lq.xgk ?_
  refine Lq.xbd L_h1 (lo_f_X5_find h1 L_h1.1) fun _ h3 L_h3 => ?_
  refine Lq.ite ?_ ?_
  exact Lq.tr L_h3 (lo_f_X5_isGranted_21 h3 L_h3.1)
  exact Lq.tr L_h3 (lo_f_X5_isGranted_22 h3 L_h3.1)
theorem lo_f_X5_granted_23 {n : Nat} {rec4 : Int → Int → MM → RR} {v0 : Int} {v1 : Int} {v2 : Int} (q_rec4 : ∀ (a0 a1 : Int) (h : MM), 100 ≤ nx h → Lq h (rec4 a0 a1 h)) (h : MM) (z : 100 ≤ nx h) : Lq h (f_X5_granted_23 n rec4 v0 v1 v2 h) := by
  have L_h := Lo.refl z
  delta f_X5_granted_23
  refine Lq.xlb fun _ => ?_
  exact Lq.tr L_h (q_rec4 _ _ h L_h.1)
theorem lo_f_X5_granted_4b {n : Nat} {rec4 : Int → Int → MM → RR} {v0 : Int} {v1 : Int} {v2 : Int} (q_rec4 : ∀ (a0 a1 : Int) (h : MM), 100 ≤ nx h → Lq h (rec4 a0 a1 h)) (h : MM) (z : 100 ≤ nx h) : Lq h (f_X5_granted_4b n rec4 v0 v1 v2 h) := by
  have L_h := Lo.refl z
  delta f_X5_granted_4b
  refine Lq.xgf fun _ => ?_
  refine Lq.ite ?_ ?_
  exact Lq.some L_h
  refine Lq.xgk ?_
  refine Lq.xbd L_h (lo_f_X5_isGranted h L_h.1) fun _ h3 L_h3 => ?_
  refine Lq.ite ?_ ?_
  exact Lq.tr L_h3 (lo_f_X5_granted_23 q_rec4 h3 L_h3.1)
  refine Lq.xlb fun _ => ?_
  exact Lq.tr L_h3 (lo_f_X5_granted_23 q_rec4 h3 L_h3.1)
theorem lo_f_X5_granted_4 {n : Nat} {v0 : Int} : ∀ (k : Nat) (v1 v2 : Int) (h : MM), 100 ≤ nx h → Lq h (f_X5_granted_4 n v0 k v1 v2 h)
  | 0, _, _, _, _ => Lq.none
  | k + 1, v1, v2, h, z => lo_f_X5_granted_4b (fun b0 b1 h z => lo_f_X5_granted_4 k b0 b1 h z) h z
theorem lo_f_X5_granted {n : Nat} {v0 : Int} (h : MM) (z : 100 ≤ nx h) : Lq h (f_X5_granted n v0 h) := by
  have L_h := Lo.refl z
  delta f_X5_granted
  exact Lq.tr L_h (lo_f_X5_granted_4 _ _ _ h L_h.1)
theorem lo_f_X11_grant_61 {n : Nat} (h : MM) (z : 100 ≤ nx h) : Lq h (f_X11_grant_61 n h) := by
  have L_h := Lo.refl z
  delta f_X11_grant_61
  exact Lq.some L_h
theorem lo_f_X11_grant {n : Nat} {v0 : Int} {v1 : Int} (h : MM) (z : 100 ≤ nx h) : Lq h (f_X11_grant n v0 v1 h) := by
  have L_h := Lo.refl z
  delta f_X11_grant
  refine Lq.xgf fun _ => ?_
  refine Lq.xgf fun _ => ?_
  refine Lq.xgk ?_
  refine Lq.xbd L_h (lo_f_X5_find h L_h.1) fun _ h3 L_h3 => ?_
  refine Lq.ite ?_ ?_
  exact Lq.some L_h3
  refine Lq.xgf fun _ => ?_
  refine Lq.xgf fun _ => ?_
  refine Lq.xgk ?_
  refine Lq.xbd L_h3 (lo_f_X5_isMarked h3 L_h3.1) fun _ h7 L_h7 => ?_
  refine Lq.ite ?_ ?_
  refine Lq.xgk ?_
  refine Lq.xbd L_h7 (lo_f_X5_isBarred h7 L_h7.1) fun _ h9 L_h9 => ?_
  refine Lq.ite ?_ ?_
  refine Lq.xgf fun _ => ?_
  refine Lq.xgf fun _ => ?_
  refine Lq.xgf fun _ => ?_
  refine Lq.xgk ?_
  refine Lq.xbd L_h9 (lo_f_X10_canBeLet h9 L_h9.1) fun _ h14 L_h14 => ?_
  refine Lq.ite ?_ ?_
  exact Lq.tr L_h14 (lo_f_X11_grant_61 h14 L_h14.1)
  refine Lq.xgk ?_
  refine Lq.xbd L_h14 (lo_f_X5_mark h14 L_h14.1) fun _ h16 L_h16 => ?_
  refine Lq.xgf fun _ => ?_
  refine Lq.xgf fun _ => ?_
  refine Lq.xgf fun _ => ?_
  refine Lq.xgf fun _ => ?_
  refine Lq.xgk ?_
  refine Lq.xbd L_h16 (lo_f_X1_yardsOf h16 L_h16.1) fun _ h21 L_h21 => ?_
  refine Lq.xwt L_h21 fun h22 L_h22 => ?_
  refine Lq.xgk ?_
  refine Lq.xbd L_h22 (lo_f_X5_granted h22 L_h22.1) fun _ h23 L_h23 => ?_
  exact Lq.some L_h23
  exact Lq.tr L_h9 (lo_f_X11_grant_61 h9 L_h9.1)
  exact Lq.tr L_h7 (lo_f_X11_grant_61 h7 L_h7.1)
theorem lo_f_X4_isUnder_39 {n : Nat} (h : MM) (z : 100 ≤ nx h) : Lq h (f_X4_isUnder_39 n h) := by
  have L_h := Lo.refl z
  delta f_X4_isUnder_39
  refine Lq.xck ?_
  exact Lq.some L_h
theorem lo_f_X4_isUnder_7b {n : Nat} {rec7 : Int → Int → MM → RR} {v1 : Int} {v2 : Int} {v3 : Int} (q_rec7 : ∀ (a0 a1 : Int) (h : MM), 100 ≤ nx h → Lq h (rec7 a0 a1 h)) (h : MM) (z : 100 ≤ nx h) : Lq h (f_X4_isUnder_7b n rec7 v1 v2 v3 h) := by
  have L_h := Lo.refl z
  delta f_X4_isUnder_7b
  refine Lq.xal fun _ => ?_
  refine Lq.ite ?_ ?_
  exact Lq.tr L_h (lo_f_X4_isUnder_39 h L_h.1)
  refine Lq.ite ?_ ?_
  exact Lq.tr L_h (lo_f_X4_isUnder_39 h L_h.1)
  refine Lq.ite ?_ ?_
  refine Lq.xck ?_
  exact Lq.some L_h
  refine Lq.xrd fun _ => ?_
  refine Lq.xlb fun _ => ?_
  exact Lq.tr L_h (q_rec7 _ _ h L_h.1)
theorem lo_f_X4_isUnder_7 {n : Nat} {v1 : Int} : ∀ (k : Nat) (v2 v3 : Int) (h : MM), 100 ≤ nx h → Lq h (f_X4_isUnder_7 n v1 k v2 v3 h)
  | 0, _, _, _, _ => Lq.none
  | k + 1, v2, v3, h, z => lo_f_X4_isUnder_7b (fun b0 b1 h z => lo_f_X4_isUnder_7 k b0 b1 h z) h z
theorem lo_f_X4_isUnder {n : Nat} {v0 : Int} {v1 : Int} (h : MM) (z : 100 ≤ nx h) : Lq h (f_X4_isUnder n v0 v1 h) := by
  have L_h := Lo.refl z
  delta f_X4_isUnder
  refine Lq.xgf fun _ => ?_
  exact Lq.tr L_h (lo_f_X4_isUnder_7 _ _ _ h L_h.1)
theorem lo_f_X5_worthOfPlan_38 {n : Nat} {s0 : Int} (h : MM) (z : 100 ≤ nx h) : Lq h (f_X5_worthOfPlan_38 n s0 h) := by
  have L_h := Lo.refl z
  delta f_X5_worthOfPlan_38
  exact Lq.some L_h
theorem lo_f_X5_worthOfPlan_16 {n : Nat} {v1 : Int} {s0 : Int} (h : MM) (z : 100 ≤ nx h) : Lq h (f_X5_worthOfPlan_16 n v1 s0 h) := by
  have L_h := Lo.refl z
  delta f_X5_worthOfPlan_16
  refine Lq.ite ?_ ?_
  exact Lq.tr L_h (lo_f_X5_worthOfPlan_38 h L_h.1)
  refine Lq.xgf fun _ => ?_
  refine Lq.xgf fun _ => ?_
  refine Lq.xal fun _ => ?_
  exact Lq.tr L_h (lo_f_X5_worthOfPlan_38 h L_h.1)
theorem lo_f_X5_worthOfPlan {n : Nat} {v0 : Int} {v1 : Int} (h : MM) (z : 100 ≤ nx h) : Lq h (f_X5_worthOfPlan n v0 v1 h) := by
  have L_h := Lo.refl z
  delta f_X5_worthOfPlan
  refine Lq.ite ?_ ?_
  exact Lq.tr L_h (lo_f_X5_worthOfPlan_16 h L_h.1)
  refine Lq.xgf fun _ => ?_
  refine Lq.xgk ?_
  refine Lq.xbd L_h (lo_f_X5_get h L_h.1) fun _ h3 L_h3 => ?_
  exact Lq.tr L_h3 (lo_f_X5_worthOfPlan_16 h3 L_h3.1)
theorem lo_f_X5_worthOfCall {n : Nat} {v0 : Int} (h : MM) (z : 100 ≤ nx h) : Lq h (f_X5_worthOfCall n v0 h) := by
  have L_h := Lo.refl z
  delta f_X5_worthOfCall
  exact Lq.some L_h
theorem lo_f_X5_worthOf {n : Nat} {v0 : Int} {v1 : Int} (h : MM) (z : 100 ≤ nx h) : Lq h (f_X5_worthOf n v0 v1 h) := by
  have L_h := Lo.refl z
  delta f_X5_worthOf
  refine Lq.xgf fun _ => ?_
  refine Lq.ite ?_ ?_
  refine Lq.xgf fun _ => ?_
  exact Lq.some L_h
  refine Lq.ite ?_ ?_
  refine Lq.xgk ?_
  refine Lq.xbd L_h (lo_f_X5_worthOfPlan h L_h.1) fun _ h5 L_h5 => ?_
  exact Lq.some L_h5
  refine Lq.ite ?_ ?_
  refine Lq.xgf fun _ => ?_
  refine Lq.xgk ?_
  refine Lq.xbd L_h (lo_f_X5_get h L_h.1) fun _ h8 L_h8 => ?_
  refine Lq.xgk ?_
  refine Lq.xbd L_h8 (lo_f_X5_worthOfPlan h8 L_h8.1) fun _ h9 L_h9 => ?_
  exact Lq.some L_h9
  refine Lq.ite ?_ ?_
  refine Lq.xgf fun _ => ?_
  refine Lq.xbd L_h (lo_f_X5_worthOfCall h L_h.1) fun _ h12 L_h12 => ?_
  exact Lq.some L_h12
  refine Lq.ite ?_ ?_
  refine Lq.xgf fun _ => ?_
  refine Lq.xbd L_h (lo_f_X5_worthOfCall h L_h.1) fun _ h15 L_h15 => ?_
  exact Lq.some L_h15
  refine Lq.xgf fun _ => ?_
  exact Lq.some L_h
theorem lo_f_X11_cast_27 {n : Nat} (h : MM) (z : 100 ≤ nx h) : Lq h (f_X11_cast_27 n h) := by
  have L_h := Lo.refl z
  delta f_X11_cast_27
  exact Lq.some L_h
theorem lo_f_X11_cast_53 {n : Nat} {s0 : Int} (h : MM) (z : 100 ≤ nx h) : Lq h (f_X11_cast_53 n s0 h) := by
  have L_h := Lo.refl z
  delta f_X11_cast_53
  exact Lq.some L_h
theorem lo_f_X11_cast {n : Nat} {v0 : Int} {v1 : Int} {v2 : Int} (h : MM) (z : 100 ≤ nx h) : Lq h (f_X11_cast n v0 v1 v2 h) := by
  have L_h := Lo.refl z
  delta f_X11_cast
  refine Lq.xgf fun _ => ?_
  refine Lq.xgf fun _ => ?_
  refine Lq.xgk ?_
  refine Lq.xbd L_h (lo_f_X5_get h L_h.1) fun _ h3 L_h3 => ?_
  refine Lq.ite ?_ ?_
  exact Lq.tr L_h3 (lo_f_X11_cast_27 h3 L_h3.1)
  refine Lq.xbd L_h3 (lo_f_X11_within h3 L_h3.1) fun _ h5 L_h5 => ?_
  refine Lq.ite ?_ ?_
  exact Lq.tr L_h5 (lo_f_X11_cast_27 h5 L_h5.1)
  refine Lq.xgk ?_
  refine Lq.xbd L_h5 (lo_f_X4_isUnder h5 L_h5.1) fun _ h7 L_h7 => ?_
  refine Lq.ite ?_ ?_
  exact Lq.tr L_h7 (lo_f_X11_cast_53 h7 L_h7.1)
  refine Lq.xgf fun _ => ?_
  refine Lq.xgf fun _ => ?_
  refine Lq.xgk ?_
  refine Lq.xbd L_h7 (lo_f_X5_worthOf h7 L_h7.1) fun _ h11 L_h11 => ?_
  exact Lq.tr L_h11 (lo_f_X11_cast_53 h11 L_h11.1)
theorem lo_f_X11_about_118 {n : Nat} {s0 : Int} (h : MM) (z : 100 ≤ nx h) : Lq h (f_X11_about_118 n s0 h) := by
  have L_h := Lo.refl z
  delta f_X11_about_118
  exact Lq.some L_h
theorem lo_f_X11_about {n : Nat} {v0 : Int} {v1 : Int} {v2 : Int} (h : MM) (z : 100 ≤ nx h) : Lq h (f_X11_about n v0 v1 v2 h) := by
  have L_h := Lo.refl z
  delta f_X11_about
  refine Lq.xgf fun _ => ?_
  refine Lq.xgf fun _ => ?_
  refine Lq.xgk ?_
  refine Lq.xbd L_h (lo_f_X5_get h L_h.1) fun _ h3 L_h3 => ?_
  refine Lq.ite ?_ ?_
  exact Lq.some L_h3
  refine Lq.ite ?_ ?_
  refine Lq.xgf fun _ => ?_
  exact Lq.some L_h3
  refine Lq.ite ?_ ?_
  refine Lq.xgf fun _ => ?_
  exact Lq.some L_h3
  refine Lq.ite ?_ ?_
  refine Lq.xgf fun _ => ?_
  exact Lq.some L_h3
  refine Lq.ite ?_ ?_
  refine Lq.xgf fun _ => ?_
  exact Lq.some L_h3
  refine Lq.ite ?_ ?_
  refine Lq.xgf fun _ => ?_
  exact Lq.some L_h3
  refine Lq.ite ?_ ?_
  refine Lq.xgf fun _ => ?_
  exact Lq.some L_h3
  refine Lq.ite ?_ ?_
  refine Lq.xgf fun _ => ?_
  exact Lq.some L_h3
  refine Lq.ite ?_ ?_
  refine Lq.xgf fun _ => ?_
  refine Lq.xgf fun _ => ?_
  refine Lq.xgk ?_
  refine Lq.xbd L_h3 (lo_f_X5_isMarked h3 L_h3.1) fun _ h22 L_h22 => ?_
  refine Lq.ite ?_ ?_
  exact Lq.tr L_h22 (lo_f_X11_about_118 h22 L_h22.1)
  exact Lq.tr L_h22 (lo_f_X11_about_118 h22 L_h22.1)
  exact Lq.some L_h3
theorem lo_f_X5_vote_15 {n : Nat} {v0 : Int} {v1 : Int} {v2 : Int} {s0 : Int} (h : MM) (z : 100 ≤ nx h) : Lq h (f_X5_vote_15 n v0 v1 v2 s0 h) := by
  have L_h := Lo.refl z
  delta f_X5_vote_15
  refine Lq.xrd fun _ => ?_
  refine Lq.xwt L_h fun h2 L_h2 => ?_
  refine Lq.xgf fun _ => ?_
  refine Lq.xpf L_h2 fun h4 L_h4 => ?_
  refine Lq.xgf fun _ => ?_
  exact Lq.some L_h4
theorem lo_f_X5_vote {n : Nat} {v0 : Int} {v1 : Int} {v2 : Int} {v3 : Int} (h : MM) (z : 100 ≤ nx h) : Lq h (f_X5_vote n v0 v1 v2 v3 h) := by
  have L_h := Lo.refl z
  delta f_X5_vote
  refine Lq.ite ?_ ?_
  refine Lq.xgf fun _ => ?_
  exact Lq.tr L_h (lo_f_X5_vote_15 h L_h.1)
  refine Lq.xgf fun _ => ?_
  exact Lq.tr L_h (lo_f_X5_vote_15 h L_h.1)
theorem lo_f_X11_board_22 {n : Nat} (h : MM) (z : 100 ≤ nx h) : Lq h (f_X11_board_22 n h) := by
  have L_h := Lo.refl z
  delta f_X11_board_22
  exact Lq.some L_h
theorem lo_f_X11_board {n : Nat} {v0 : Int} {v1 : Int} {v2 : Int} {v3 : Int} (h : MM) (z : 100 ≤ nx h) : Lq h (f_X11_board n v0 v1 v2 v3 h) := by
  have L_h := Lo.refl z
  delta f_X11_board
  refine Lq.xbd L_h (lo_f_X11_isHolder h L_h.1) fun _ h1 L_h1 => ?_
  refine Lq.ite ?_ ?_
  exact Lq.tr L_h1 (lo_f_X11_board_22 h1 L_h1.1)
  refine Lq.xgf fun _ => ?_
  refine Lq.xgf fun _ => ?_
  refine Lq.xgk ?_
  refine Lq.xbd L_h1 (lo_f_X5_find h1 L_h1.1) fun _ h5 L_h5 => ?_
  refine Lq.ite ?_ ?_
  exact Lq.tr L_h5 (lo_f_X11_board_22 h5 L_h5.1)
  refine Lq.xgf fun _ => ?_
  refine Lq.xgf fun _ => ?_
  refine Lq.xgf fun _ => ?_
  refine Lq.ite ?_ ?_
  refine Lq.xgf fun _ => ?_
  refine Lq.xgf fun _ => ?_
  refine Lq.xgk ?_
  refine Lq.xbd L_h5 (lo_f_X5_vote h5 L_h5.1) fun _ h13 L_h13 => ?_
  exact Lq.some L_h13
  exact Lq.some L_h5
theorem lo_f_X5_votersBothWays_4b {n : Nat} {rec4 : Int → Int → MM → RR} {v0 : Int} {v1 : Int} {v2 : Int} (q_rec4 : ∀ (a0 a1 : Int) (h : MM), 100 ≤ nx h → Lq h (rec4 a0 a1 h)) (h : MM) (z : 100 ≤ nx h) : Lq h (f_X5_votersBothWays_4b n rec4 v0 v1 v2 h) := by
  have L_h := Lo.refl z
  delta f_X5_votersBothWays_4b
  refine Lq.xgf fun _ => ?_
  refine Lq.ite ?_ ?_
  exact Lq.some L_h
  refine Lq.xgf fun _ => ?_
  refine Lq.xrd fun _ => ?_
  refine Lq.xgf fun _ => ?_
  refine Lq.xrd fun _ => ?_
  refine Lq.xlb fun _ => ?_
  refine Lq.xlb fun _ => ?_
  exact Lq.tr L_h (q_rec4 _ _ h L_h.1)
theorem lo_f_X5_votersBothWays_4 {n : Nat} {v0 : Int} : ∀ (k : Nat) (v1 v2 : Int) (h : MM), 100 ≤ nx h → Lq h (f_X5_votersBothWays_4 n v0 k v1 v2 h)
  | 0, _, _, _, _ => Lq.none
  | k + 1, v1, v2, h, z => lo_f_X5_votersBothWays_4b (fun b0 b1 h z => lo_f_X5_votersBothWays_4 k b0 b1 h z) h z
theorem lo_f_X5_votersBothWays {n : Nat} {v0 : Int} (h : MM) (z : 100 ≤ nx h) : Lq h (f_X5_votersBothWays n v0 h) := by
  have L_h := Lo.refl z
  delta f_X5_votersBothWays
  exact Lq.tr L_h (lo_f_X5_votersBothWays_4 _ _ _ h L_h.1)
theorem lo_f_X11_doubled {n : Nat} {v0 : Int} (h : MM) (z : 100 ≤ nx h) : Lq h (f_X11_doubled n v0 h) := by
  have L_h := Lo.refl z
  delta f_X11_doubled
  refine Lq.xgf fun _ => ?_
  refine Lq.xgf fun _ => ?_
  refine Lq.xgk ?_
  refine Lq.xbd L_h (lo_f_X5_votersBothWays h L_h.1) fun _ h3 L_h3 => ?_
  exact Lq.some L_h3
theorem lo_f_X6_add {n : Nat} {v0 : Int} {v1 : Int} {v2 : Int} (h : MM) (z : 100 ≤ nx h) : Lq h (f_X6_add n v0 v1 v2 h) := by
  have L_h := Lo.refl z
  delta f_X6_add
  refine Lq.xgf fun _ => ?_
  refine Lq.xgf fun _ => ?_
  refine Lq.xwt L_h fun h3 L_h3 => ?_
  refine Lq.xgf fun _ => ?_
  refine Lq.xgf fun _ => ?_
  refine Lq.xwt L_h3 fun h6 L_h6 => ?_
  refine Lq.xgf fun _ => ?_
  refine Lq.xpf L_h6 fun h8 L_h8 => ?_
  refine Lq.xgf fun _ => ?_
  exact Lq.some L_h8
theorem lo_f_X11_hand_22 {n : Nat} (h : MM) (z : 100 ≤ nx h) : Lq h (f_X11_hand_22 n h) := by
  have L_h := Lo.refl z
  delta f_X11_hand_22
  exact Lq.some L_h
theorem lo_f_X11_hand {n : Nat} {v0 : Int} {v1 : Int} {v2 : Int} (h : MM) (z : 100 ≤ nx h) : Lq h (f_X11_hand n v0 v1 v2 h) := by
  have L_h := Lo.refl z
  delta f_X11_hand
  refine Lq.xbd L_h (lo_f_X11_within h L_h.1) fun _ h1 L_h1 => ?_
  refine Lq.ite ?_ ?_
  exact Lq.tr L_h1 (lo_f_X11_hand_22 h1 L_h1.1)
  refine Lq.xbd L_h1 (lo_f_X11_within h1 L_h1.1) fun _ h3 L_h3 => ?_
  refine Lq.ite ?_ ?_
  exact Lq.tr L_h3 (lo_f_X11_hand_22 h3 L_h3.1)
  refine Lq.xgf fun _ => ?_
  refine Lq.xgf fun _ => ?_
  refine Lq.xgf fun _ => ?_
  refine Lq.ite ?_ ?_
  refine Lq.xgf fun _ => ?_
  refine Lq.xgf fun _ => ?_
  refine Lq.xgk ?_
  refine Lq.xbd L_h3 (lo_f_X6_add h3 L_h3.1) fun _ h11 L_h11 => ?_
  exact Lq.some L_h11
  exact Lq.some L_h3
theorem lo_f_X6_readyHour_99 {n : Nat} {rec46 : Int → Int → MM → RR} {v0 : Int} {v1 : Int} {v3 : Int} {v4 : Int} {v5 : Int} (q_rec46 : ∀ (a0 a1 : Int) (h : MM), 100 ≤ nx h → Lq h (rec46 a0 a1 h)) (h : MM) (z : 100 ≤ nx h) : Lq h (f_X6_readyHour_99 n rec46 v0 v1 v3 v4 v5 h) := by
  have L_h := Lo.refl z
  delta f_X6_readyHour_99
  refine Lq.xlb fun _ => ?_
  exact Lq.tr L_h (q_rec46 _ _ h L_h.1)
theorem lo_f_X6_readyHour_46b {n : Nat} {rec46 : Int → Int → MM → RR} {v0 : Int} {v1 : Int} {v3 : Int} {v4 : Int} {v5 : Int} (q_rec46 : ∀ (a0 a1 : Int) (h : MM), 100 ≤ nx h → Lq h (rec46 a0 a1 h)) (h : MM) (z : 100 ≤ nx h) : Lq h (f_X6_readyHour_46b n rec46 v0 v1 v3 v4 v5 h) := by
  have L_h := Lo.refl z
  delta f_X6_readyHour_46b
  refine Lq.xgf fun _ => ?_
  refine Lq.ite ?_ ?_
  exact Lq.some L_h
  refine Lq.ite ?_ ?_
  exact Lq.tr L_h (lo_f_X6_readyHour_99 q_rec46 h L_h.1)
  refine Lq.xgf fun _ => ?_
  refine Lq.xrd fun _ => ?_
  refine Lq.xgf fun _ => ?_
  refine Lq.xrd fun _ => ?_
  refine Lq.xlb fun _ => ?_
  exact Lq.tr L_h (lo_f_X6_readyHour_99 q_rec46 h L_h.1)
theorem lo_f_X6_readyHour_46 {n : Nat} {v0 : Int} {v1 : Int} {v3 : Int} : ∀ (k : Nat) (v4 v5 : Int) (h : MM), 100 ≤ nx h → Lq h (f_X6_readyHour_46 n v0 v1 v3 k v4 v5 h)
  | 0, _, _, _, _ => Lq.none
  | k + 1, v4, v5, h, z => lo_f_X6_readyHour_46b (fun b0 b1 h z => lo_f_X6_readyHour_46 k b0 b1 h z) h z
theorem lo_f_X6_readyHour_33 {n : Nat} {rec5 : Int → Int → MM → RR} {v0 : Int} {v1 : Int} {v3 : Int} {v4 : Int} (q_rec5 : ∀ (a0 a1 : Int) (h : MM), 100 ≤ nx h → Lq h (rec5 a0 a1 h)) (h : MM) (z : 100 ≤ nx h) : Lq h (f_X6_readyHour_33 n rec5 v0 v1 v3 v4 h) := by
  have L_h := Lo.refl z
  delta f_X6_readyHour_33
  refine Lq.xlb fun _ => ?_
  exact Lq.tr L_h (q_rec5 _ _ h L_h.1)
theorem lo_f_X6_readyHour_5b {n : Nat} {rec5 : Int → Int → MM → RR} {v0 : Int} {v1 : Int} {v3 : Int} {v4 : Int} (q_rec5 : ∀ (a0 a1 : Int) (h : MM), 100 ≤ nx h → Lq h (rec5 a0 a1 h)) (h : MM) (z : 100 ≤ nx h) : Lq h (f_X6_readyHour_5b n rec5 v0 v1 v3 v4 h) := by
  have L_h := Lo.refl z
  delta f_X6_readyHour_5b
  refine Lq.xgf fun _ => ?_
  refine Lq.ite ?_ ?_
  exact Lq.tr L_h (lo_f_X6_readyHour_46 _ _ _ h L_h.1)
  refine Lq.ite ?_ ?_
  exact Lq.tr L_h (lo_f_X6_readyHour_33 q_rec5 h L_h.1)
  refine Lq.xgf fun _ => ?_
  refine Lq.xrd fun _ => ?_
  refine Lq.xlb fun _ => ?_
  exact Lq.tr L_h (lo_f_X6_readyHour_33 q_rec5 h L_h.1)
theorem lo_f_X6_readyHour_5 {n : Nat} {v0 : Int} {v1 : Int} : ∀ (k : Nat) (v3 v4 : Int) (h : MM), 100 ≤ nx h → Lq h (f_X6_readyHour_5 n v0 v1 k v3 v4 h)
  | 0, _, _, _, _ => Lq.none
  | k + 1, v3, v4, h, z => lo_f_X6_readyHour_5b (fun b0 b1 h z => lo_f_X6_readyHour_5 k b0 b1 h z) h z
theorem lo_f_X6_readyHour {n : Nat} {v0 : Int} {v1 : Int} {v2 : Int} (h : MM) (z : 100 ≤ nx h) : Lq h (f_X6_readyHour n v0 v1 v2 h) := by
  have L_h := Lo.refl z
  delta f_X6_readyHour
  exact Lq.tr L_h (lo_f_X6_readyHour_5 _ _ _ h L_h.1)
theorem lo_f_J6_bitCount_0f7a4 {n : Nat} {v0 : Int} (h : MM) (z : 100 ≤ nx h) : Lq h (f_J6_bitCount_0f7a4 n v0 h) := by
  have L_h := Lo.refl z
  delta f_J6_bitCount_0f7a4
  refine Lq.xlb fun _ => ?_
  refine Lq.xlb fun _ => ?_
  refine Lq.xlb fun _ => ?_
  refine Lq.xlb fun _ => ?_
  refine Lq.xlb fun _ => ?_
  exact Lq.some L_h
theorem lo_f_X6_most_74 {n : Nat} {rec13 : Int → Int → MM → RR} {v0 : Int} {v1 : Int} {v2 : Int} {v4 : Int} {v5 : Int} {v6 : Int} (q_rec13 : ∀ (a0 a1 : Int) (h : MM), 100 ≤ nx h → Lq h (rec13 a0 a1 h)) (h : MM) (z : 100 ≤ nx h) : Lq h (f_X6_most_74 n rec13 v0 v1 v2 v4 v5 v6 h) := by
  have L_h := Lo.refl z
  delta f_X6_most_74
  refine Lq.xlb fun _ => ?_
  exact Lq.tr L_h (q_rec13 _ _ h L_h.1)
theorem lo_f_X6_most_13b {n : Nat} {rec13 : Int → Int → MM → RR} {v0 : Int} {v1 : Int} {v2 : Int} {v4 : Int} {v5 : Int} {v6 : Int} (q_rec13 : ∀ (a0 a1 : Int) (h : MM), 100 ≤ nx h → Lq h (rec13 a0 a1 h)) (h : MM) (z : 100 ≤ nx h) : Lq h (f_X6_most_13b n rec13 v0 v1 v2 v4 v5 v6 h) := by
  have L_h := Lo.refl z
  delta f_X6_most_13b
  refine Lq.xgf fun _ => ?_
  refine Lq.ite ?_ ?_
  exact Lq.some L_h
  refine Lq.ite ?_ ?_
  refine Lq.xgf fun _ => ?_
  refine Lq.xgk ?_
  refine Lq.xbd L_h (lo_f_X6_readyHour h L_h.1) fun _ h5 L_h5 => ?_
  refine Lq.xwt L_h5 fun h6 L_h6 => ?_
  refine Lq.xgf fun _ => ?_
  refine Lq.xrd fun _ => ?_
  refine Lq.ite ?_ ?_
  exact Lq.tr L_h6 (lo_f_X6_most_74 q_rec13 h6 L_h6.1)
  refine Lq.xbd L_h6 (lo_f_J6_bitCount_0f7a4 h6 L_h6.1) fun _ h10 L_h10 => ?_
  refine Lq.xlb fun _ => ?_
  exact Lq.tr L_h10 (lo_f_X6_most_74 q_rec13 h10 L_h10.1)
  exact Lq.tr L_h (lo_f_X6_most_74 q_rec13 h L_h.1)
theorem lo_f_X6_most_13 {n : Nat} {v0 : Int} {v1 : Int} {v2 : Int} {v4 : Int} : ∀ (k : Nat) (v5 v6 : Int) (h : MM), 100 ≤ nx h → Lq h (f_X6_most_13 n v0 v1 v2 v4 k v5 v6 h)
  | 0, _, _, _, _ => Lq.none
  | k + 1, v5, v6, h, z => lo_f_X6_most_13b (fun b0 b1 h z => lo_f_X6_most_13 k b0 b1 h z) h z
theorem lo_f_X6_most {n : Nat} {v0 : Int} {v1 : Int} {v2 : Int} {v3 : Int} {v4 : Int} (h : MM) (z : 100 ≤ nx h) : Lq h (f_X6_most n v0 v1 v2 v3 v4 h) := by
  have L_h := Lo.refl z
  delta f_X6_most
  refine Lq.xgf fun _ => ?_
  refine Lq.xwt L_h fun h2 L_h2 => ?_
  exact Lq.tr L_h2 (lo_f_X6_most_13 _ _ _ h2 L_h2.1)
theorem lo_f_X6_leastNext_86 {n : Nat} {rec3 : Int → MM → RR} {v0 : Int} {v1 : Int} {v2 : Int} {v3 : Int} {v4 : Int} {v5 : Int} {v6 : Int} (q_rec3 : ∀ (a0 : Int) (h : MM), 100 ≤ nx h → Lq h (rec3 a0 h)) (h : MM) (z : 100 ≤ nx h) : Lq h (f_X6_leastNext_86 n rec3 v0 v1 v2 v3 v4 v5 v6 h) := by
  have L_h := Lo.refl z
  delta f_X6_leastNext_86
  refine Lq.xlb fun _ => ?_
  exact Lq.tr L_h (q_rec3 _ h L_h.1)
theorem lo_f_X6_leastNext_3b {n : Nat} {rec3 : Int → MM → RR} {v0 : Int} {v1 : Int} {v2 : Int} {v3 : Int} {v4 : Int} {v5 : Int} {v6 : Int} (q_rec3 : ∀ (a0 : Int) (h : MM), 100 ≤ nx h → Lq h (rec3 a0 h)) (h : MM) (z : 100 ≤ nx h) : Lq h (f_X6_leastNext_3b n rec3 v0 v1 v2 v3 v4 v5 v6 h) := by
  have L_h := Lo.refl z
  delta f_X6_leastNext_3b
  refine Lq.xgf fun _ => ?_
  refine Lq.ite ?_ ?_
  exact Lq.some L_h
  refine Lq.ite ?_ ?_
  exact Lq.tr L_h (lo_f_X6_leastNext_86 q_rec3 h L_h.1)
  refine Lq.xgf fun _ => ?_
  refine Lq.xrd fun _ => ?_
  refine Lq.xlb fun _ => ?_
  refine Lq.xgf fun _ => ?_
  refine Lq.xrd fun _ => ?_
  refine Lq.xlb fun _ => ?_
  refine Lq.ite ?_ ?_
  exact Lq.tr L_h (lo_f_X6_leastNext_86 q_rec3 h L_h.1)
  refine Lq.xgk ?_
  refine Lq.xbd L_h (lo_f_X6_most h L_h.1) fun _ h11 L_h11 => ?_
  refine Lq.ite ?_ ?_
  exact Lq.tr L_h11 (lo_f_X6_leastNext_86 q_rec3 h11 L_h11.1)
  exact Lq.some L_h11
theorem lo_f_X6_leastNext_3 {n : Nat} {v0 : Int} {v1 : Int} {v2 : Int} {v3 : Int} {v4 : Int} {v5 : Int} : ∀ (k : Nat) (v6 : Int) (h : MM), 100 ≤ nx h → Lq h (f_X6_leastNext_3 n v0 v1 v2 v3 v4 v5 k v6 h)
  | 0, _, _, _ => Lq.none
  | k + 1, v6, h, z => lo_f_X6_leastNext_3b (fun b0 h z => lo_f_X6_leastNext_3 k b0 h z) h z
theorem lo_f_X6_leastNext {n : Nat} {v0 : Int} {v1 : Int} {v2 : Int} {v3 : Int} {v4 : Int} {v5 : Int} (h : MM) (z : 100 ≤ nx h) : Lq h (f_X6_leastNext n v0 v1 v2 v3 v4 v5 h) := by
  have L_h := Lo.refl z
  delta f_X6_leastNext
  exact Lq.tr L_h (lo_f_X6_leastNext_3 _ _ h L_h.1)
theorem lo_f_X6_order_27b {n : Nat} {rec27 : Int → Int → Int → Int → MM → RR} {v0 : Int} {v1 : Int} {v2 : Int} {v3 : Int} {v4 : Int} {v5 : Int} {v6 : Int} (q_rec27 : ∀ (a0 a1 a2 a3 : Int) (h : MM), 100 ≤ nx h → Lq h (rec27 a0 a1 a2 a3 h)) (h : MM) (z : 100 ≤ nx h) : Lq h (f_X6_order_27b n rec27 v0 v1 v2 v3 v4 v5 v6 h) := by
  have L_h := Lo.refl z
  delta f_X6_order_27b
  refine Lq.ite ?_ ?_
  exact Lq.some L_h
  refine Lq.xgk ?_
  refine Lq.xbd L_h (lo_f_X6_leastNext h L_h.1) fun _ h2 L_h2 => ?_
  refine Lq.ite ?_ ?_
  exact Lq.some L_h2
  refine Lq.xgf fun _ => ?_
  refine Lq.xwt L_h2 fun h5 L_h5 => ?_
  refine Lq.xlb fun _ => ?_
  refine Lq.xgf fun _ => ?_
  refine Lq.xrd fun _ => ?_
  refine Lq.xlb fun _ => ?_
  refine Lq.xgf fun _ => ?_
  refine Lq.xrd fun _ => ?_
  refine Lq.xlb fun _ => ?_
  refine Lq.xlb fun _ => ?_
  exact Lq.tr L_h5 (q_rec27 _ _ _ _ h5 L_h5.1)
theorem lo_f_X6_order_27 {n : Nat} {v0 : Int} {v1 : Int} {v3 : Int} : ∀ (k : Nat) (v2 v4 v5 v6 : Int) (h : MM), 100 ≤ nx h → Lq h (f_X6_order_27 n v0 v1 v3 k v2 v4 v5 v6 h)
  | 0, _, _, _, _, _, _ => Lq.none
  | k + 1, v2, v4, v5, v6, h, z => lo_f_X6_order_27b (fun b0 b1 b2 b3 h z => lo_f_X6_order_27 k b0 b1 b2 b3 h z) h z
theorem lo_f_X6_order {n : Nat} {v0 : Int} {v1 : Int} (h : MM) (z : 100 ≤ nx h) : Lq h (f_X6_order n v0 v1 h) := by
  have L_h := Lo.refl z
  delta f_X6_order
  refine Lq.xgf fun _ => ?_
  refine Lq.xlb fun _ => ?_
  refine Lq.xgk ?_
  refine Lq.xbd L_h (lo_f_X6_most h L_h.1) fun _ h3 L_h3 => ?_
  exact Lq.tr L_h3 (lo_f_X6_order_27 _ _ _ _ _ h3 L_h3.1)
theorem lo_f_X11_midnight_62 {n : Nat} {s0 : Int} (h : MM) (z : 100 ≤ nx h) : Lq h (f_X11_midnight_62 n s0 h) := by
  have L_h := Lo.refl z
  delta f_X11_midnight_62
  exact Lq.some L_h
theorem lo_f_X11_midnight {n : Nat} {v0 : Int} {v1 : Int} {v2 : Int} (h : MM) (z : 100 ≤ nx h) : Lq h (f_X11_midnight n v0 v1 v2 h) := by
  have L_h := Lo.refl z
  delta f_X11_midnight
  refine Lq.ite ?_ ?_
  refine Lq.xbd L_h (lo_f_X11_within h L_h.1) fun _ h2 L_h2 => ?_
  refine Lq.ite ?_ ?_
  exact Lq.some L_h2
  refine Lq.xgf fun _ => ?_
  refine Lq.xgf fun _ => ?_
  refine Lq.xgk ?_
  refine Lq.xbd L_h2 (lo_f_X6_order h2 L_h2.1) fun _ h6 L_h6 => ?_
  refine Lq.ite ?_ ?_
  exact Lq.some L_h6
  refine Lq.ite ?_ ?_
  exact Lq.tr L_h6 (lo_f_X11_midnight_62 h6 L_h6.1)
  refine Lq.xgf fun _ => ?_
  refine Lq.xgf fun _ => ?_
  refine Lq.xgf fun _ => ?_
  refine Lq.xrd fun _ => ?_
  exact Lq.tr L_h6 (lo_f_X11_midnight_62 h6 L_h6.1)
  exact Lq.some L_h
theorem lo_f_X8_sharesOf {n : Nat} {v0 : Int} {v1 : Int} {v2 : Int} (h : MM) (z : 100 ≤ nx h) : Lq h (f_X8_sharesOf n v0 v1 v2 h) := by
  have L_h := Lo.refl z
  delta f_X8_sharesOf
  refine Lq.xgf fun _ => ?_
  refine Lq.xrd fun _ => ?_
  exact Lq.some L_h
theorem lo_f_X8_pass {n : Nat} {v0 : Int} {v1 : Int} {v2 : Int} {v3 : Int} {v4 : Int} (h : MM) (z : 100 ≤ nx h) : Lq h (f_X8_pass n v0 v1 v2 v3 v4 h) := by
  have L_h := Lo.refl z
  delta f_X8_pass
  refine Lq.xgf fun _ => ?_
  refine Lq.xrd fun _ => ?_
  refine Lq.xwt L_h fun h3 L_h3 => ?_
  refine Lq.xgf fun _ => ?_
  refine Lq.xrd fun _ => ?_
  refine Lq.xwt L_h3 fun h6 L_h6 => ?_
  exact Lq.some L_h6
theorem lo_f_X11_scrip_26 {n : Nat} (h : MM) (z : 100 ≤ nx h) : Lq h (f_X11_scrip_26 n h) := by
  have L_h := Lo.refl z
  delta f_X11_scrip_26
  exact Lq.some L_h
theorem lo_f_X11_scrip_77 {n : Nat} (h : MM) (z : 100 ≤ nx h) : Lq h (f_X11_scrip_77 n h) := by
  have L_h := Lo.refl z
  delta f_X11_scrip_77
  exact Lq.some L_h
theorem lo_f_X11_scrip {n : Nat} {v0 : Int} {v1 : Int} {v2 : Int} {v3 : Int} (h : MM) (z : 100 ≤ nx h) : Lq h (f_X11_scrip n v0 v1 v2 v3 h) := by
  have L_h := Lo.refl z
  delta f_X11_scrip
  refine Lq.xgf fun _ => ?_
  refine Lq.xgf fun _ => ?_
  refine Lq.xgk ?_
  refine Lq.xbd L_h (lo_f_X5_find h L_h.1) fun _ h3 L_h3 => ?_
  refine Lq.ite ?_ ?_
  exact Lq.tr L_h3 (lo_f_X11_scrip_26 h3 L_h3.1)
  refine Lq.xbd L_h3 (lo_f_X11_isHolder h3 L_h3.1) fun _ h5 L_h5 => ?_
  refine Lq.ite ?_ ?_
  exact Lq.tr L_h5 (lo_f_X11_scrip_26 h5 L_h5.1)
  refine Lq.xbd L_h5 (lo_f_X11_within h5 L_h5.1) fun _ h7 L_h7 => ?_
  refine Lq.ite ?_ ?_
  exact Lq.some L_h7
  refine Lq.xgf fun _ => ?_
  refine Lq.xgf fun _ => ?_
  refine Lq.xgk ?_
  refine Lq.xbd L_h7 (lo_f_X5_isMarked h7 L_h7.1) fun _ h11 L_h11 => ?_
  refine Lq.ite ?_ ?_
  refine Lq.xgf fun _ => ?_
  refine Lq.xgf fun _ => ?_
  refine Lq.xgf fun _ => ?_
  refine Lq.xgk ?_
  refine Lq.xbd L_h11 (lo_f_X8_sharesOf h11 L_h11.1) fun _ h16 L_h16 => ?_
  refine Lq.ite ?_ ?_
  refine Lq.xgf fun _ => ?_
  refine Lq.xgf fun _ => ?_
  refine Lq.xgf fun _ => ?_
  refine Lq.xgk ?_
  refine Lq.xbd L_h16 (lo_f_X8_pass h16 L_h16.1) fun _ h21 L_h21 => ?_
  refine Lq.xgf fun _ => ?_
  refine Lq.xgf fun _ => ?_
  refine Lq.xgf fun _ => ?_
  refine Lq.xgk ?_
  refine Lq.xbd L_h21 (lo_f_X8_sharesOf h21 L_h21.1) fun _ h25 L_h25 => ?_
  exact Lq.some L_h25
  exact Lq.tr L_h16 (lo_f_X11_scrip_77 h16 L_h16.1)
  exact Lq.tr L_h11 (lo_f_X11_scrip_77 h11 L_h11.1)
theorem lo_f_X11_held_28 {n : Nat} (h : MM) (z : 100 ≤ nx h) : Lq h (f_X11_held_28 n h) := by
  have L_h := Lo.refl z
  delta f_X11_held_28
  exact Lq.some L_h
theorem lo_f_X11_held {n : Nat} {v0 : Int} {v1 : Int} {v2 : Int} (h : MM) (z : 100 ≤ nx h) : Lq h (f_X11_held n v0 v1 v2 h) := by
  have L_h := Lo.refl z
  delta f_X11_held
  refine Lq.xgf fun _ => ?_
  refine Lq.xgf fun _ => ?_
  refine Lq.xgk ?_
  refine Lq.xbd L_h (lo_f_X5_find h L_h.1) fun _ h3 L_h3 => ?_
  refine Lq.ite ?_ ?_
  exact Lq.tr L_h3 (lo_f_X11_held_28 h3 L_h3.1)
  refine Lq.xbd L_h3 (lo_f_X11_within h3 L_h3.1) fun _ h5 L_h5 => ?_
  refine Lq.ite ?_ ?_
  exact Lq.tr L_h5 (lo_f_X11_held_28 h5 L_h5.1)
  refine Lq.xgf fun _ => ?_
  refine Lq.xgf fun _ => ?_
  refine Lq.xgf fun _ => ?_
  refine Lq.xgk ?_
  refine Lq.xbd L_h5 (lo_f_X8_sharesOf h5 L_h5.1) fun _ h10 L_h10 => ?_
  exact Lq.some L_h10
theorem lo_f_X11_partyOf_54 {n : Nat} {s0 : Int} (h : MM) (z : 100 ≤ nx h) : Lq h (f_X11_partyOf_54 n s0 h) := by
  have L_h := Lo.refl z
  delta f_X11_partyOf_54
  exact Lq.some L_h
theorem lo_f_X11_partyOf_38 {n : Nat} {s0 : Int} (h : MM) (z : 100 ≤ nx h) : Lq h (f_X11_partyOf_38 n s0 h) := by
  have L_h := Lo.refl z
  delta f_X11_partyOf_38
  refine Lq.ite ?_ ?_
  exact Lq.tr L_h (lo_f_X11_partyOf_54 h L_h.1)
  refine Lq.xgf fun _ => ?_
  exact Lq.tr L_h (lo_f_X11_partyOf_54 h L_h.1)
theorem lo_f_X11_partyOf_16 {n : Nat} {s0 : Int} (h : MM) (z : 100 ≤ nx h) : Lq h (f_X11_partyOf_16 n s0 h) := by
  have L_h := Lo.refl z
  delta f_X11_partyOf_16
  exact Lq.some L_h
theorem lo_f_X11_partyOf {n : Nat} {v0 : Int} {v1 : Int} {v2 : Int} (h : MM) (z : 100 ≤ nx h) : Lq h (f_X11_partyOf n v0 v1 v2 h) := by
  have L_h := Lo.refl z
  delta f_X11_partyOf
  refine Lq.ite ?_ ?_
  refine Lq.xbd L_h (lo_f_X11_isHolder h L_h.1) fun _ h6 L_h6 => ?_
  refine Lq.ite ?_ ?_
  exact Lq.tr L_h6 (lo_f_X11_partyOf_16 h6 L_h6.1)
  exact Lq.tr L_h6 (lo_f_X11_partyOf_16 h6 L_h6.1)
  refine Lq.ite ?_ ?_
  refine Lq.xgf fun _ => ?_
  refine Lq.xgf fun _ => ?_
  refine Lq.xgk ?_
  refine Lq.xbd L_h (lo_f_X5_find h L_h.1) fun _ h5 L_h5 => ?_
  exact Lq.tr L_h5 (lo_f_X11_partyOf_38 h5 L_h5.1)
  exact Lq.tr L_h (lo_f_X11_partyOf_38 h L_h.1)
theorem lo_f_X11_purse_28 {n : Nat} {s0 : Int} (h : MM) (z : 100 ≤ nx h) : Lq h (f_X11_purse_28 n s0 h) := by
  have L_h := Lo.refl z
  delta f_X11_purse_28
  exact Lq.some L_h
theorem lo_f_X11_purse {n : Nat} {v0 : Int} {v1 : Int} {v2 : Int} (h : MM) (z : 100 ≤ nx h) : Lq h (f_X11_purse n v0 v1 v2 h) := by
  have L_h := Lo.refl z
  delta f_X11_purse
  refine Lq.xgk ?_
  refine Lq.xbd L_h (lo_f_X11_partyOf h L_h.1) fun _ h1 L_h1 => ?_
  refine Lq.ite ?_ ?_
  exact Lq.tr L_h1 (lo_f_X11_purse_28 h1 L_h1.1)
  refine Lq.xgf fun _ => ?_
  refine Lq.xgf fun _ => ?_
  refine Lq.xgf fun _ => ?_
  refine Lq.xrd fun _ => ?_
  exact Lq.tr L_h1 (lo_f_X11_purse_28 h1 L_h1.1)
theorem lo_f_X8_stand_59 {n : Nat} {v0 : Int} {s0 : Int} {s1 : Int} {s2 : Int} (h : MM) (z : 100 ≤ nx h) : Lq h (f_X8_stand_59 n v0 s0 s1 s2 h) := by
  have L_h := Lo.refl z
  delta f_X8_stand_59
  refine Lq.xwt L_h fun h1 L_h1 => ?_
  refine Lq.xgf fun _ => ?_
  refine Lq.xpf L_h1 fun h3 L_h3 => ?_
  refine Lq.xgf fun _ => ?_
  exact Lq.some L_h3
theorem lo_f_X8_stand {n : Nat} {v0 : Int} {v1 : Int} {v2 : Int} {v3 : Int} {v4 : Int} {v5 : Int} (h : MM) (z : 100 ≤ nx h) : Lq h (f_X8_stand n v0 v1 v2 v3 v4 v5 h) := by
  have L_h := Lo.refl z
  delta f_X8_stand
  refine Lq.xgf fun _ => ?_
  refine Lq.xgf fun _ => ?_
  refine Lq.xwt L_h fun h3 L_h3 => ?_
  refine Lq.xgf fun _ => ?_
  refine Lq.xgf fun _ => ?_
  refine Lq.xwt L_h3 fun h6 L_h6 => ?_
  refine Lq.xgf fun _ => ?_
  refine Lq.xgf fun _ => ?_
  refine Lq.xwt L_h6 fun h9 L_h9 => ?_
  refine Lq.xgf fun _ => ?_
  refine Lq.xgf fun _ => ?_
  refine Lq.xwt L_h9 fun h12 L_h12 => ?_
  refine Lq.xgf fun _ => ?_
  refine Lq.xgf fun _ => ?_
  refine Lq.ite ?_ ?_
  exact Lq.tr L_h12 (lo_f_X8_stand_59 h12 L_h12.1)
  exact Lq.tr L_h12 (lo_f_X8_stand_59 h12 L_h12.1)
theorem lo_f_X11_ask_26 {n : Nat} (h : MM) (z : 100 ≤ nx h) : Lq h (f_X11_ask_26 n h) := by
  have L_h := Lo.refl z
  delta f_X11_ask_26
  exact Lq.some L_h
theorem lo_f_X11_ask_52 {n : Nat} (h : MM) (z : 100 ≤ nx h) : Lq h (f_X11_ask_52 n h) := by
  have L_h := Lo.refl z
  delta f_X11_ask_52
  exact Lq.some L_h
theorem lo_f_X11_ask {n : Nat} {v0 : Int} {v1 : Int} {v2 : Int} {v3 : Int} {v4 : Int} {v5 : Int} (h : MM) (z : 100 ≤ nx h) : Lq h (f_X11_ask n v0 v1 v2 v3 v4 v5 h) := by
  have L_h := Lo.refl z
  delta f_X11_ask
  refine Lq.xgf fun _ => ?_
  refine Lq.xgf fun _ => ?_
  refine Lq.xgk ?_
  refine Lq.xbd L_h (lo_f_X5_find h L_h.1) fun _ h3 L_h3 => ?_
  refine Lq.ite ?_ ?_
  exact Lq.tr L_h3 (lo_f_X11_ask_26 h3 L_h3.1)
  refine Lq.xbd L_h3 (lo_f_X11_isHolder h3 L_h3.1) fun _ h5 L_h5 => ?_
  refine Lq.ite ?_ ?_
  exact Lq.tr L_h5 (lo_f_X11_ask_26 h5 L_h5.1)
  refine Lq.xbd L_h5 (lo_f_X11_within h5 L_h5.1) fun _ h7 L_h7 => ?_
  refine Lq.ite ?_ ?_
  exact Lq.tr L_h7 (lo_f_X11_ask_52 h7 L_h7.1)
  refine Lq.xbd L_h7 (lo_f_X11_within h7 L_h7.1) fun _ h9 L_h9 => ?_
  refine Lq.ite ?_ ?_
  exact Lq.tr L_h9 (lo_f_X11_ask_52 h9 L_h9.1)
  refine Lq.xgf fun _ => ?_
  refine Lq.xgf fun _ => ?_
  refine Lq.xgf fun _ => ?_
  refine Lq.ite ?_ ?_
  refine Lq.xgf fun _ => ?_
  refine Lq.xgf fun _ => ?_
  refine Lq.xgf fun _ => ?_
  refine Lq.xgk ?_
  refine Lq.xbd L_h9 (lo_f_X8_stand h9 L_h9.1) fun _ h18 L_h18 => ?_
  exact Lq.some L_h18
  exact Lq.some L_h9
theorem lo_f_X8_best_96 {n : Nat} {rec5 : Int → Int → MM → RR} {v0 : Int} {v1 : Int} {v2 : Int} {v3 : Int} {v4 : Int} (q_rec5 : ∀ (a0 a1 : Int) (h : MM), 100 ≤ nx h → Lq h (rec5 a0 a1 h)) (h : MM) (z : 100 ≤ nx h) : Lq h (f_X8_best_96 n rec5 v0 v1 v2 v3 v4 h) := by
  have L_h := Lo.refl z
  delta f_X8_best_96
  refine Lq.xlb fun _ => ?_
  exact Lq.tr L_h (q_rec5 _ _ h L_h.1)
theorem lo_f_X8_best_93 {n : Nat} {rec5 : Int → Int → MM → RR} {v0 : Int} {v1 : Int} {v2 : Int} {v4 : Int} (q_rec5 : ∀ (a0 a1 : Int) (h : MM), 100 ≤ nx h → Lq h (rec5 a0 a1 h)) (h : MM) (z : 100 ≤ nx h) : Lq h (f_X8_best_93 n rec5 v0 v1 v2 v4 h) := by
  have L_h := Lo.refl z
  delta f_X8_best_93
  exact Lq.tr L_h (lo_f_X8_best_96 q_rec5 h L_h.1)
theorem lo_f_X8_best_5b {n : Nat} {rec5 : Int → Int → MM → RR} {v0 : Int} {v1 : Int} {v2 : Int} {v3 : Int} {v4 : Int} (q_rec5 : ∀ (a0 a1 : Int) (h : MM), 100 ≤ nx h → Lq h (rec5 a0 a1 h)) (h : MM) (z : 100 ≤ nx h) : Lq h (f_X8_best_5b n rec5 v0 v1 v2 v3 v4 h) := by
  have L_h := Lo.refl z
  delta f_X8_best_5b
  refine Lq.xgf fun _ => ?_
  refine Lq.ite ?_ ?_
  exact Lq.some L_h
  refine Lq.xgf fun _ => ?_
  refine Lq.xrd fun _ => ?_
  refine Lq.ite ?_ ?_
  refine Lq.xgf fun _ => ?_
  refine Lq.xrd fun _ => ?_
  refine Lq.ite ?_ ?_
  refine Lq.xgf fun _ => ?_
  refine Lq.xrd fun _ => ?_
  refine Lq.ite ?_ ?_
  exact Lq.tr L_h (lo_f_X8_best_96 q_rec5 h L_h.1)
  refine Lq.ite ?_ ?_
  exact Lq.tr L_h (lo_f_X8_best_93 q_rec5 h L_h.1)
  refine Lq.ite ?_ ?_
  refine Lq.xgf fun _ => ?_
  refine Lq.xrd fun _ => ?_
  refine Lq.xgf fun _ => ?_
  refine Lq.xrd fun _ => ?_
  refine Lq.ite ?_ ?_
  exact Lq.tr L_h (lo_f_X8_best_96 q_rec5 h L_h.1)
  exact Lq.tr L_h (lo_f_X8_best_93 q_rec5 h L_h.1)
  refine Lq.xgf fun _ => ?_
  refine Lq.xrd fun _ => ?_
  refine Lq.xgf fun _ => ?_
  refine Lq.xrd fun _ => ?_
  refine Lq.ite ?_ ?_
  exact Lq.tr L_h (lo_f_X8_best_96 q_rec5 h L_h.1)
  exact Lq.tr L_h (lo_f_X8_best_93 q_rec5 h L_h.1)
  exact Lq.tr L_h (lo_f_X8_best_96 q_rec5 h L_h.1)
  exact Lq.tr L_h (lo_f_X8_best_96 q_rec5 h L_h.1)
theorem lo_f_X8_best_5 {n : Nat} {v0 : Int} {v1 : Int} {v2 : Int} : ∀ (k : Nat) (v3 v4 : Int) (h : MM), 100 ≤ nx h → Lq h (f_X8_best_5 n v0 v1 v2 k v3 v4 h)
  | 0, _, _, _, _ => Lq.none
  | k + 1, v3, v4, h, z => lo_f_X8_best_5b (fun b0 b1 h z => lo_f_X8_best_5 k b0 b1 h z) h z
theorem lo_f_X8_best {n : Nat} {v0 : Int} {v1 : Int} {v2 : Int} (h : MM) (z : 100 ≤ nx h) : Lq h (f_X8_best n v0 v1 v2 h) := by
  have L_h := Lo.refl z
  delta f_X8_best
  exact Lq.tr L_h (lo_f_X8_best_5 _ _ _ h L_h.1)
theorem lo_f_X8_goes {n : Nat} {v0 : Int} {v1 : Int} {v2 : Int} {v3 : Int} (h : MM) (z : 100 ≤ nx h) : Lq h (f_X8_goes n v0 v1 v2 v3 h) := by
  have L_h := Lo.refl z
  delta f_X8_goes
  refine Lq.xgf fun _ => ?_
  refine Lq.xrd fun _ => ?_
  refine Lq.ite ?_ ?_
  refine Lq.xgf fun _ => ?_
  refine Lq.xrd fun _ => ?_
  refine Lq.xgf fun _ => ?_
  refine Lq.xrd fun _ => ?_
  refine Lq.xlb fun _ => ?_
  refine Lq.xgf fun _ => ?_
  refine Lq.xrd fun _ => ?_
  refine Lq.xgk ?_
  refine Lq.xbd L_h (lo_f_X8_sharesOf h L_h.1) fun _ h11 L_h11 => ?_
  refine Lq.xgf fun _ => ?_
  refine Lq.xgf fun _ => ?_
  refine Lq.xrd fun _ => ?_
  refine Lq.xrd fun _ => ?_
  refine Lq.xdz ?_
  exact Lq.some L_h11
  exact Lq.some L_h
theorem lo_f_X8_sell {n : Nat} {v0 : Int} {v1 : Int} {v2 : Int} {v3 : Int} {v4 : Int} (h : MM) (z : 100 ≤ nx h) : Lq h (f_X8_sell n v0 v1 v2 v3 v4 h) := by
  have L_h := Lo.refl z
  delta f_X8_sell
  refine Lq.xgf fun _ => ?_
  refine Lq.xrd fun _ => ?_
  refine Lq.xgf fun _ => ?_
  refine Lq.xrd fun _ => ?_
  refine Lq.xgk ?_
  refine Lq.xbd L_h (lo_f_X8_pass h L_h.1) fun _ h5 L_h5 => ?_
  refine Lq.xgf fun _ => ?_
  refine Lq.xgf fun _ => ?_
  refine Lq.xrd fun _ => ?_
  refine Lq.xrd fun _ => ?_
  refine Lq.xgf fun _ => ?_
  refine Lq.xrd fun _ => ?_
  refine Lq.xwt L_h5 fun h12 L_h12 => ?_
  refine Lq.xgf fun _ => ?_
  refine Lq.xgf fun _ => ?_
  refine Lq.xrd fun _ => ?_
  refine Lq.xrd fun _ => ?_
  refine Lq.xgf fun _ => ?_
  refine Lq.xrd fun _ => ?_
  refine Lq.xwt L_h12 fun h19 L_h19 => ?_
  refine Lq.xgf fun _ => ?_
  refine Lq.xrd fun _ => ?_
  refine Lq.xwt L_h19 fun h22 L_h22 => ?_
  refine Lq.xgf fun _ => ?_
  refine Lq.xrd fun _ => ?_
  refine Lq.xwt L_h22 fun h25 L_h25 => ?_
  refine Lq.xgf fun _ => ?_
  refine Lq.xgf fun _ => ?_
  refine Lq.xrd fun _ => ?_
  refine Lq.xwt L_h25 fun h29 L_h29 => ?_
  exact Lq.some L_h29
theorem lo_f_X8_clearStanding_88 {n : Nat} {rec4 : Int → Int → MM → RR} {v0 : Int} {v1 : Int} {v2 : Int} {v3 : Int} (q_rec4 : ∀ (a0 a1 : Int) (h : MM), 100 ≤ nx h → Lq h (rec4 a0 a1 h)) (h : MM) (z : 100 ≤ nx h) : Lq h (f_X8_clearStanding_88 n rec4 v0 v1 v2 v3 h) := by
  have L_h := Lo.refl z
  delta f_X8_clearStanding_88
  refine Lq.xlb fun _ => ?_
  exact Lq.tr L_h (q_rec4 _ _ h L_h.1)
theorem lo_f_X8_clearStanding_4b {n : Nat} {rec4 : Int → Int → MM → RR} {v0 : Int} {v1 : Int} {v2 : Int} {v3 : Int} (q_rec4 : ∀ (a0 a1 : Int) (h : MM), 100 ≤ nx h → Lq h (rec4 a0 a1 h)) (h : MM) (z : 100 ≤ nx h) : Lq h (f_X8_clearStanding_4b n rec4 v0 v1 v2 v3 h) := by
  have L_h := Lo.refl z
  delta f_X8_clearStanding_4b
  refine Lq.xgf fun _ => ?_
  refine Lq.ite ?_ ?_
  refine Lq.xpf L_h fun h3 L_h3 => ?_
  exact Lq.some L_h3
  refine Lq.xgf fun _ => ?_
  refine Lq.xrd fun _ => ?_
  refine Lq.ite ?_ ?_
  exact Lq.tr L_h (lo_f_X8_clearStanding_88 q_rec4 h L_h.1)
  refine Lq.xgf fun _ => ?_
  refine Lq.xgf fun _ => ?_
  refine Lq.xrd fun _ => ?_
  refine Lq.xwt L_h fun h10 L_h10 => ?_
  refine Lq.xgf fun _ => ?_
  refine Lq.xgf fun _ => ?_
  refine Lq.xrd fun _ => ?_
  refine Lq.xwt L_h10 fun h14 L_h14 => ?_
  refine Lq.xgf fun _ => ?_
  refine Lq.xgf fun _ => ?_
  refine Lq.xrd fun _ => ?_
  refine Lq.xwt L_h14 fun h18 L_h18 => ?_
  refine Lq.xgf fun _ => ?_
  refine Lq.xgf fun _ => ?_
  refine Lq.xrd fun _ => ?_
  refine Lq.xwt L_h18 fun h22 L_h22 => ?_
  refine Lq.xgf fun _ => ?_
  refine Lq.xgf fun _ => ?_
  refine Lq.xrd fun _ => ?_
  refine Lq.xwt L_h22 fun h26 L_h26 => ?_
  refine Lq.xlb fun _ => ?_
  exact Lq.tr L_h26 (lo_f_X8_clearStanding_88 q_rec4 h26 L_h26.1)
theorem lo_f_X8_clearStanding_4 {n : Nat} {v0 : Int} {v1 : Int} : ∀ (k : Nat) (v2 v3 : Int) (h : MM), 100 ≤ nx h → Lq h (f_X8_clearStanding_4 n v0 v1 k v2 v3 h)
  | 0, _, _, _, _ => Lq.none
  | k + 1, v2, v3, h, z => lo_f_X8_clearStanding_4b (fun b0 b1 h z => lo_f_X8_clearStanding_4 k b0 b1 h z) h z
theorem lo_f_X8_clearStanding {n : Nat} {v0 : Int} {v1 : Int} (h : MM) (z : 100 ≤ nx h) : Lq h (f_X8_clearStanding n v0 v1 h) := by
  have L_h := Lo.refl z
  delta f_X8_clearStanding
  exact Lq.tr L_h (lo_f_X8_clearStanding_4 _ _ _ h L_h.1)
theorem lo_f_X8_tradeIn_128 {n : Nat} {v0 : Int} {v1 : Int} {v2 : Int} (h : MM) (z : 100 ≤ nx h) : Lq h (f_X8_tradeIn_128 n v0 v1 v2 h) := by
  have L_h := Lo.refl z
  delta f_X8_tradeIn_128
  refine Lq.xgk ?_
  refine Lq.xbd L_h (lo_f_X8_clearStanding h L_h.1) fun _ h1 L_h1 => ?_
  exact Lq.some L_h1
theorem lo_f_X8_tradeIn_122 {n : Nat} {rec4 : Int → Int → MM → RR} {v0 : Int} {v1 : Int} {v2 : Int} {v3 : Int} (q_rec4 : ∀ (a0 a1 : Int) (h : MM), 100 ≤ nx h → Lq h (rec4 a0 a1 h)) (h : MM) (z : 100 ≤ nx h) : Lq h (f_X8_tradeIn_122 n rec4 v0 v1 v2 v3 h) := by
  have L_h := Lo.refl z
  delta f_X8_tradeIn_122
  refine Lq.xlb fun _ => ?_
  exact Lq.tr L_h (q_rec4 _ _ h L_h.1)
theorem lo_f_X8_tradeIn_120 {n : Nat} {rec4 : Int → Int → MM → RR} {v0 : Int} {v1 : Int} {v2 : Int} {v3 : Int} {s0 : Int} {s1 : Int} (q_rec4 : ∀ (a0 a1 : Int) (h : MM), 100 ≤ nx h → Lq h (rec4 a0 a1 h)) (h : MM) (z : 100 ≤ nx h) : Lq h (f_X8_tradeIn_120 n rec4 v0 v1 v2 v3 s0 s1 h) := by
  have L_h := Lo.refl z
  delta f_X8_tradeIn_120
  refine Lq.xwt L_h fun h1 L_h1 => ?_
  exact Lq.tr L_h1 (lo_f_X8_tradeIn_122 q_rec4 h1 L_h1.1)
theorem lo_f_X8_tradeIn_4b {n : Nat} {rec4 : Int → Int → MM → RR} {v0 : Int} {v1 : Int} {v2 : Int} {v3 : Int} (q_rec4 : ∀ (a0 a1 : Int) (h : MM), 100 ≤ nx h → Lq h (rec4 a0 a1 h)) (h : MM) (z : 100 ≤ nx h) : Lq h (f_X8_tradeIn_4b n rec4 v0 v1 v2 v3 h) := by
  have L_h := Lo.refl z
  delta f_X8_tradeIn_4b
  refine Lq.ite ?_ ?_
  exact Lq.tr L_h (lo_f_X8_tradeIn_128 h L_h.1)
  refine Lq.xgk ?_
  refine Lq.xbd L_h (lo_f_X8_best h L_h.1) fun _ h2 L_h2 => ?_
  refine Lq.xgk ?_
  refine Lq.xbd L_h2 (lo_f_X8_best h2 L_h2.1) fun _ h3 L_h3 => ?_
  refine Lq.ite ?_ ?_
  exact Lq.tr L_h3 (lo_f_X8_tradeIn_128 h3 L_h3.1)
  refine Lq.ite ?_ ?_
  exact Lq.tr L_h3 (lo_f_X8_tradeIn_128 h3 L_h3.1)
  refine Lq.xgf fun _ => ?_
  refine Lq.xrd fun _ => ?_
  refine Lq.xgf fun _ => ?_
  refine Lq.xrd fun _ => ?_
  refine Lq.ite ?_ ?_
  refine Lq.xgk ?_
  refine Lq.xbd L_h3 (lo_f_X8_goes h3 L_h3.1) fun _ h11 L_h11 => ?_
  refine Lq.ite ?_ ?_
  refine Lq.xgf fun _ => ?_
  refine Lq.xgf fun _ => ?_
  refine Lq.xrd fun _ => ?_
  refine Lq.xgk ?_
  refine Lq.xbd L_h11 (lo_f_X8_sharesOf h11 L_h11.1) fun _ h16 L_h16 => ?_
  refine Lq.ite ?_ ?_
  exact Lq.tr L_h16 (lo_f_X8_tradeIn_120 q_rec4 h16 L_h16.1)
  exact Lq.tr L_h16 (lo_f_X8_tradeIn_120 q_rec4 h16 L_h16.1)
  refine Lq.xgk ?_
  refine Lq.xbd L_h11 (lo_f_X8_sell h11 L_h11.1) fun _ h18 L_h18 => ?_
  refine Lq.xlb fun _ => ?_
  exact Lq.tr L_h18 (lo_f_X8_tradeIn_122 q_rec4 h18 L_h18.1)
  exact Lq.tr L_h3 (lo_f_X8_tradeIn_128 h3 L_h3.1)
theorem lo_f_X8_tradeIn_4 {n : Nat} {v0 : Int} {v1 : Int} : ∀ (k : Nat) (v2 v3 : Int) (h : MM), 100 ≤ nx h → Lq h (f_X8_tradeIn_4 n v0 v1 k v2 v3 h)
  | 0, _, _, _, _ => Lq.none
  | k + 1, v2, v3, h, z => lo_f_X8_tradeIn_4b (fun b0 b1 h z => lo_f_X8_tradeIn_4 k b0 b1 h z) h z
theorem lo_f_X8_tradeIn {n : Nat} {v0 : Int} {v1 : Int} (h : MM) (z : 100 ≤ nx h) : Lq h (f_X8_tradeIn n v0 v1 h) := by
  have L_h := Lo.refl z
  delta f_X8_tradeIn
  exact Lq.tr L_h (lo_f_X8_tradeIn_4 _ _ _ h L_h.1)
theorem lo_f_X11_price_35 {n : Nat} {s0 : Int} (h : MM) (z : 100 ≤ nx h) : Lq h (f_X11_price_35 n s0 h) := by
  have L_h := Lo.refl z
  delta f_X11_price_35
  exact Lq.some L_h
theorem lo_f_X11_price {n : Nat} {v0 : Int} {v1 : Int} (h : MM) (z : 100 ≤ nx h) : Lq h (f_X11_price n v0 v1 h) := by
  have L_h := Lo.refl z
  delta f_X11_price
  refine Lq.xgf fun _ => ?_
  refine Lq.xgf fun _ => ?_
  refine Lq.xgk ?_
  refine Lq.xbd L_h (lo_f_X5_find h L_h.1) fun _ h3 L_h3 => ?_
  refine Lq.ite ?_ ?_
  exact Lq.tr L_h3 (lo_f_X11_price_35 h3 L_h3.1)
  refine Lq.xgf fun _ => ?_
  refine Lq.xgf fun _ => ?_
  refine Lq.xgf fun _ => ?_
  refine Lq.xgk ?_
  refine Lq.xbd L_h3 (lo_f_X8_tradeIn h3 L_h3.1) fun _ h8 L_h8 => ?_
  exact Lq.tr L_h8 (lo_f_X11_price_35 h8 L_h8.1)
theorem lo_f_X11_read_36 {n : Nat} {s0 : Int} (h : MM) (z : 100 ≤ nx h) : Lq h (f_X11_read_36 n s0 h) := by
  have L_h := Lo.refl z
  delta f_X11_read_36
  exact Lq.some L_h
theorem lo_f_X11_read {n : Nat} {v0 : Int} {v1 : Int} (h : MM) (z : 100 ≤ nx h) : Lq h (f_X11_read n v0 v1 h) := by
  have L_h := Lo.refl z
  delta f_X11_read
  refine Lq.xgf fun _ => ?_
  refine Lq.xgf fun _ => ?_
  refine Lq.xgk ?_
  refine Lq.xbd L_h (lo_f_X5_find h L_h.1) fun _ h3 L_h3 => ?_
  refine Lq.ite ?_ ?_
  exact Lq.tr L_h3 (lo_f_X11_read_36 h3 L_h3.1)
  refine Lq.xgf fun _ => ?_
  refine Lq.xgf fun _ => ?_
  refine Lq.xgf fun _ => ?_
  refine Lq.xgf fun _ => ?_
  refine Lq.xrd fun _ => ?_
  exact Lq.tr L_h3 (lo_f_X11_read_36 h3 L_h3.1)
theorem lo_f_X5_latestCall_35 {n : Nat} {rec7 : Int → MM → RR} {v0 : Int} {v1 : Int} {v2 : Int} (q_rec7 : ∀ (a0 : Int) (h : MM), 100 ≤ nx h → Lq h (rec7 a0 h)) (h : MM) (z : 100 ≤ nx h) : Lq h (f_X5_latestCall_35 n rec7 v0 v1 v2 h) := by
  have L_h := Lo.refl z
  delta f_X5_latestCall_35
  refine Lq.xlb fun _ => ?_
  exact Lq.tr L_h (q_rec7 _ h L_h.1)
theorem lo_f_X5_latestCall_7b {n : Nat} {rec7 : Int → MM → RR} {v0 : Int} {v1 : Int} {v2 : Int} (q_rec7 : ∀ (a0 : Int) (h : MM), 100 ≤ nx h → Lq h (rec7 a0 h)) (h : MM) (z : 100 ≤ nx h) : Lq h (f_X5_latestCall_7b n rec7 v0 v1 v2 h) := by
  have L_h := Lo.refl z
  delta f_X5_latestCall_7b
  refine Lq.ite ?_ ?_
  exact Lq.some L_h
  refine Lq.xgk ?_
  refine Lq.xbd L_h (lo_f_X5_find h L_h.1) fun _ h2 L_h2 => ?_
  refine Lq.ite ?_ ?_
  exact Lq.tr L_h2 (lo_f_X5_latestCall_35 q_rec7 h2 L_h2.1)
  refine Lq.xgf fun _ => ?_
  refine Lq.ite ?_ ?_
  refine Lq.xgf fun _ => ?_
  exact Lq.some L_h2
  exact Lq.tr L_h2 (lo_f_X5_latestCall_35 q_rec7 h2 L_h2.1)
theorem lo_f_X5_latestCall_7 {n : Nat} {v0 : Int} {v1 : Int} : ∀ (k : Nat) (v2 : Int) (h : MM), 100 ≤ nx h → Lq h (f_X5_latestCall_7 n v0 v1 k v2 h)
  | 0, _, _, _ => Lq.none
  | k + 1, v2, h, z => lo_f_X5_latestCall_7b (fun b0 h z => lo_f_X5_latestCall_7 k b0 h z) h z
theorem lo_f_X5_latestCall {n : Nat} {v0 : Int} {v1 : Int} (h : MM) (z : 100 ≤ nx h) : Lq h (f_X5_latestCall n v0 v1 h) := by
  have L_h := Lo.refl z
  delta f_X5_latestCall
  refine Lq.xgf fun _ => ?_
  refine Lq.xlb fun _ => ?_
  exact Lq.tr L_h (lo_f_X5_latestCall_7 _ _ h L_h.1)
theorem lo_f_X10_isTooSoon_37 {n : Nat} {s0 : Int} (h : MM) (z : 100 ≤ nx h) : Lq h (f_X10_isTooSoon_37 n s0 h) := by
  have L_h := Lo.refl z
  delta f_X10_isTooSoon_37
  refine Lq.xck ?_
  exact Lq.some L_h
theorem lo_f_X10_isTooSoon_36 {n : Nat} (h : MM) (z : 100 ≤ nx h) : Lq h (f_X10_isTooSoon_36 n h) := by
  have L_h := Lo.refl z
  delta f_X10_isTooSoon_36
  exact Lq.tr L_h (lo_f_X10_isTooSoon_37 h L_h.1)
theorem lo_f_X10_isTooSoon {n : Nat} {v0 : Int} {v1 : Int} (h : MM) (z : 100 ≤ nx h) : Lq h (f_X10_isTooSoon n v0 v1 h) := by
  have L_h := Lo.refl z
  delta f_X10_isTooSoon
  refine Lq.xgf fun _ => ?_
  refine Lq.xgk ?_
  refine Lq.xbd L_h (lo_f_X5_latestCall h L_h.1) fun _ h2 L_h2 => ?_
  refine Lq.ite ?_ ?_
  exact Lq.tr L_h2 (lo_f_X10_isTooSoon_36 h2 L_h2.1)
  refine Lq.xgf fun _ => ?_
  refine Lq.xgf fun _ => ?_
  refine Lq.xgk ?_
  refine Lq.xbd L_h2 (lo_f_X10_ruleOf h2 L_h2.1) fun _ h6 L_h6 => ?_
  refine Lq.ite ?_ ?_
  exact Lq.tr L_h6 (lo_f_X10_isTooSoon_36 h6 L_h6.1)
  exact Lq.tr L_h6 (lo_f_X10_isTooSoon_37 h6 L_h6.1)
theorem lo_f_X11_call_69 {n : Nat} (h : MM) (z : 100 ≤ nx h) : Lq h (f_X11_call_69 n h) := by
  have L_h := Lo.refl z
  delta f_X11_call_69
  exact Lq.some L_h
theorem lo_f_X11_call {n : Nat} {v0 : Int} {v1 : Int} {v2 : Int} (h : MM) (z : 100 ≤ nx h) : Lq h (f_X11_call n v0 v1 v2 h) := by
  have L_h := Lo.refl z
  delta f_X11_call
  refine Lq.xgf fun _ => ?_
  refine Lq.xgf fun _ => ?_
  refine Lq.xgk ?_
  refine Lq.xbd L_h (lo_f_X5_find h L_h.1) fun _ h3 L_h3 => ?_
  refine Lq.ite ?_ ?_
  exact Lq.some L_h3
  refine Lq.xgf fun _ => ?_
  refine Lq.xgf fun _ => ?_
  refine Lq.xgf fun _ => ?_
  refine Lq.xgk ?_
  refine Lq.xbd L_h3 (lo_f_X10_ruleOf h3 L_h3.1) fun _ h8 L_h8 => ?_
  refine Lq.xbd L_h8 (lo_f_X11_within h8 L_h8.1) fun _ h9 L_h9 => ?_
  refine Lq.ite ?_ ?_
  exact Lq.some L_h9
  refine Lq.xgf fun _ => ?_
  refine Lq.xgf fun _ => ?_
  refine Lq.xgk ?_
  refine Lq.xbd L_h9 (lo_f_X5_isMarked h9 L_h9.1) fun _ h13 L_h13 => ?_
  refine Lq.ite ?_ ?_
  refine Lq.xgf fun _ => ?_
  refine Lq.xgk ?_
  refine Lq.xbd L_h13 (lo_f_X10_isTooSoon h13 L_h13.1) fun _ h16 L_h16 => ?_
  refine Lq.ite ?_ ?_
  refine Lq.xgf fun _ => ?_
  refine Lq.xgf fun _ => ?_
  refine Lq.xgk ?_
  refine Lq.xbd L_h16 (lo_f_X5_isFull h16 L_h16.1) fun _ h20 L_h20 => ?_
  refine Lq.ite ?_ ?_
  refine Lq.xnw L_h20 fun _ h22 L_h22 => ?_
  refine Lq.xgf fun _ => ?_
  refine Lq.xgf fun _ => ?_
  refine Lq.xnz ?_
  refine Lq.xbd L_h22 (lo_f_X4_init h22 L_h22.1) fun _ h25 L_h25 => ?_
  refine Lq.xgk ?_
  refine Lq.xbd L_h25 (lo_f_X4_tell h25 L_h25.1) fun _ h26 L_h26 => ?_
  refine Lq.xgf fun _ => ?_
  refine Lq.xgf fun _ => ?_
  refine Lq.xgk ?_
  refine Lq.xbd L_h26 (lo_f_X5_file h26 L_h26.1) fun _ h29 L_h29 => ?_
  exact Lq.some L_h29
  exact Lq.some L_h20
  exact Lq.tr L_h16 (lo_f_X11_call_69 h16 L_h16.1)
  exact Lq.tr L_h13 (lo_f_X11_call_69 h13 L_h13.1)
theorem lo_f_X11_lend_26 {n : Nat} (h : MM) (z : 100 ≤ nx h) : Lq h (f_X11_lend_26 n h) := by
  have L_h := Lo.refl z
  delta f_X11_lend_26
  exact Lq.some L_h
theorem lo_f_X11_lend_73 {n : Nat} (h : MM) (z : 100 ≤ nx h) : Lq h (f_X11_lend_73 n h) := by
  have L_h := Lo.refl z
  delta f_X11_lend_73
  exact Lq.some L_h
theorem lo_f_X11_lend {n : Nat} {v0 : Int} {v1 : Int} {v2 : Int} {v3 : Int} (h : MM) (z : 100 ≤ nx h) : Lq h (f_X11_lend n v0 v1 v2 v3 h) := by
  have L_h := Lo.refl z
  delta f_X11_lend
  refine Lq.xgf fun _ => ?_
  refine Lq.xgf fun _ => ?_
  refine Lq.xgk ?_
  refine Lq.xbd L_h (lo_f_X5_find h L_h.1) fun _ h3 L_h3 => ?_
  refine Lq.ite ?_ ?_
  exact Lq.tr L_h3 (lo_f_X11_lend_26 h3 L_h3.1)
  refine Lq.xbd L_h3 (lo_f_X11_isHolder h3 L_h3.1) fun _ h5 L_h5 => ?_
  refine Lq.ite ?_ ?_
  exact Lq.tr L_h5 (lo_f_X11_lend_26 h5 L_h5.1)
  refine Lq.xbd L_h5 (lo_f_X11_within h5 L_h5.1) fun _ h7 L_h7 => ?_
  refine Lq.ite ?_ ?_
  exact Lq.some L_h7
  refine Lq.xgf fun _ => ?_
  refine Lq.xgf fun _ => ?_
  refine Lq.xgk ?_
  refine Lq.xbd L_h7 (lo_f_X5_isMarked h7 L_h7.1) fun _ h11 L_h11 => ?_
  refine Lq.ite ?_ ?_
  refine Lq.xgf fun _ => ?_
  refine Lq.xgf fun _ => ?_
  refine Lq.xgf fun _ => ?_
  refine Lq.xrd fun _ => ?_
  refine Lq.ite ?_ ?_
  refine Lq.xgf fun _ => ?_
  refine Lq.xgf fun _ => ?_
  refine Lq.xgk ?_
  refine Lq.xbd L_h11 (lo_f_X5_isFull h11 L_h11.1) fun _ h20 L_h20 => ?_
  refine Lq.ite ?_ ?_
  refine Lq.xgf fun _ => ?_
  refine Lq.xgf fun _ => ?_
  refine Lq.xgf fun _ => ?_
  refine Lq.xrd fun _ => ?_
  refine Lq.xwt L_h20 fun h26 L_h26 => ?_
  refine Lq.xgf fun _ => ?_
  refine Lq.xgf fun _ => ?_
  refine Lq.xgf fun _ => ?_
  refine Lq.xgf fun _ => ?_
  refine Lq.xrd fun _ => ?_
  refine Lq.xwt L_h26 fun h32 L_h32 => ?_
  refine Lq.xnw L_h32 fun _ h33 L_h33 => ?_
  refine Lq.xgf fun _ => ?_
  refine Lq.xgf fun _ => ?_
  refine Lq.xnz ?_
  refine Lq.xbd L_h33 (lo_f_X4_init h33 L_h33.1) fun _ h36 L_h36 => ?_
  refine Lq.xgk ?_
  refine Lq.xbd L_h36 (lo_f_X4_tell h36 L_h36.1) fun _ h37 L_h37 => ?_
  refine Lq.xgf fun _ => ?_
  refine Lq.xgf fun _ => ?_
  refine Lq.xgk ?_
  refine Lq.xbd L_h37 (lo_f_X5_file h37 L_h37.1) fun _ h40 L_h40 => ?_
  exact Lq.some L_h40
  exact Lq.some L_h20
  exact Lq.tr L_h11 (lo_f_X11_lend_73 h11 L_h11.1)
  exact Lq.tr L_h11 (lo_f_X11_lend_73 h11 L_h11.1)
theorem lo_f_X0_gather_166 {n : Nat} {rec18 : Int → MM → RR} {v0 : Int} {v1 : Int} {v2 : Int} {v3 : Int} (q_rec18 : ∀ (a0 : Int) (h : MM), 100 ≤ nx h → Lq h (rec18 a0 h)) (h : MM) (z : 100 ≤ nx h) : Lq h (f_X0_gather_166 n rec18 v0 v1 v2 v3 h) := by
  have L_h := Lo.refl z
  delta f_X0_gather_166
  refine Lq.xlb fun _ => ?_
  exact Lq.tr L_h (q_rec18 _ h L_h.1)
theorem lo_f_X0_gather_108b {n : Nat} {rec18 : Int → MM → RR} {rec108 : Int → MM → RR} {v0 : Int} {v1 : Int} {v2 : Int} {v3 : Int} {v4 : Int} {v5 : Int} {v6 : Int} (q_rec18 : ∀ (a0 : Int) (h : MM), 100 ≤ nx h → Lq h (rec18 a0 h)) (q_rec108 : ∀ (a0 : Int) (h : MM), 100 ≤ nx h → Lq h (rec108 a0 h)) (h : MM) (z : 100 ≤ nx h) : Lq h (f_X0_gather_108b n rec18 rec108 v0 v1 v2 v3 v4 v5 v6 h) := by
  have L_h := Lo.refl z
  delta f_X0_gather_108b
  refine Lq.ite ?_ ?_
  exact Lq.tr L_h (lo_f_X0_gather_166 q_rec18 h L_h.1)
  refine Lq.xgf fun _ => ?_
  refine Lq.ite ?_ ?_
  refine Lq.xgf fun _ => ?_
  refine Lq.xgf fun _ => ?_
  refine Lq.xrd fun _ => ?_
  refine Lq.xgf fun _ => ?_
  refine Lq.xgf fun _ => ?_
  refine Lq.xgk ?_
  refine Lq.xbd L_h (lo_f_X8_sharesOf h L_h.1) fun _ h9 L_h9 => ?_
  refine Lq.xwt L_h9 fun h10 L_h10 => ?_
  refine Lq.xlb fun _ => ?_
  exact Lq.tr L_h10 (q_rec108 _ h10 L_h10.1)
  exact Lq.tr L_h (lo_f_X0_gather_166 q_rec18 h L_h.1)
theorem lo_f_X0_gather_108 {n : Nat} {rec18 : Int → MM → RR} {v0 : Int} {v1 : Int} {v2 : Int} {v3 : Int} {v4 : Int} {v5 : Int} (q_rec18 : ∀ (a0 : Int) (h : MM), 100 ≤ nx h → Lq h (rec18 a0 h)) : ∀ (k : Nat) (v6 : Int) (h : MM), 100 ≤ nx h → Lq h (f_X0_gather_108 n rec18 v0 v1 v2 v3 v4 v5 k v6 h)
  | 0, _, _, _ => Lq.none
  | k + 1, v6, h, z => lo_f_X0_gather_108b q_rec18 (fun b0 h z => lo_f_X0_gather_108 q_rec18 k b0 h z) h z
theorem lo_f_X0_gather_105 {n : Nat} {rec18 : Int → MM → RR} {v0 : Int} {v1 : Int} {v2 : Int} {v3 : Int} {v4 : Int} {v5 : Int} (q_rec18 : ∀ (a0 : Int) (h : MM), 100 ≤ nx h → Lq h (rec18 a0 h)) (h : MM) (z : 100 ≤ nx h) : Lq h (f_X0_gather_105 n rec18 v0 v1 v2 v3 v4 v5 h) := by
  have L_h := Lo.refl z
  delta f_X0_gather_105
  exact Lq.tr L_h (lo_f_X0_gather_108 q_rec18 _ _ h L_h.1)
theorem lo_f_X0_gather_51 {n : Nat} {rec18 : Int → MM → RR} {v0 : Int} {v1 : Int} {v2 : Int} {v3 : Int} {v4 : Int} {s0 : Int} (q_rec18 : ∀ (a0 : Int) (h : MM), 100 ≤ nx h → Lq h (rec18 a0 h)) (h : MM) (z : 100 ≤ nx h) : Lq h (f_X0_gather_51 n rec18 v0 v1 v2 v3 v4 s0 h) := by
  have L_h := Lo.refl z
  delta f_X0_gather_51
  refine Lq.ite ?_ ?_
  exact Lq.tr L_h (lo_f_X0_gather_166 q_rec18 h L_h.1)
  refine Lq.xgk ?_
  refine Lq.xbd L_h (lo_f_X5_isMarked h L_h.1) fun _ h2 L_h2 => ?_
  refine Lq.ite ?_ ?_
  refine Lq.xgf fun _ => ?_
  refine Lq.ite ?_ ?_
  refine Lq.xgf fun _ => ?_
  refine Lq.xgf fun _ => ?_
  refine Lq.xgf fun _ => ?_
  refine Lq.xrd fun _ => ?_
  refine Lq.xgf fun _ => ?_
  refine Lq.xwt L_h2 fun h11 L_h11 => ?_
  exact Lq.tr L_h11 (lo_f_X0_gather_105 q_rec18 h11 L_h11.1)
  exact Lq.tr L_h2 (lo_f_X0_gather_105 q_rec18 h2 L_h2.1)
  exact Lq.tr L_h2 (lo_f_X0_gather_166 q_rec18 h2 L_h2.1)
theorem lo_f_X0_gather_18b {n : Nat} {rec18 : Int → MM → RR} {v0 : Int} {v1 : Int} {v2 : Int} {v3 : Int} (q_rec18 : ∀ (a0 : Int) (h : MM), 100 ≤ nx h → Lq h (rec18 a0 h)) (h : MM) (z : 100 ≤ nx h) : Lq h (f_X0_gather_18b n rec18 v0 v1 v2 v3 h) := by
  have L_h := Lo.refl z
  delta f_X0_gather_18b
  refine Lq.xgf fun _ => ?_
  refine Lq.ite ?_ ?_
  exact Lq.some L_h
  refine Lq.xgk ?_
  refine Lq.xbd L_h (lo_f_X5_get h L_h.1) fun _ h3 L_h3 => ?_
  refine Lq.ite ?_ ?_
  exact Lq.tr L_h3 (lo_f_X0_gather_51 q_rec18 h3 L_h3.1)
  refine Lq.xgf fun _ => ?_
  refine Lq.xgk ?_
  refine Lq.xbd L_h3 (lo_f_X5_get h3 L_h3.1) fun _ h6 L_h6 => ?_
  exact Lq.tr L_h6 (lo_f_X0_gather_51 q_rec18 h6 L_h6.1)
theorem lo_f_X0_gather_18 {n : Nat} {v0 : Int} {v1 : Int} {v2 : Int} : ∀ (k : Nat) (v3 : Int) (h : MM), 100 ≤ nx h → Lq h (f_X0_gather_18 n v0 v1 v2 k v3 h)
  | 0, _, _, _ => Lq.none
  | k + 1, v3, h, z => lo_f_X0_gather_18b (fun b0 h z => lo_f_X0_gather_18 k b0 h z) h z
theorem lo_f_X0_gather {n : Nat} {v0 : Int} {v1 : Int} {v2 : Int} (h : MM) (z : 100 ≤ nx h) : Lq h (f_X0_gather n v0 v1 v2 h) := by
  have L_h := Lo.refl z
  delta f_X0_gather
  refine Lq.xgf fun _ => ?_
  refine Lq.xbd L_h (lo_f_J7_fill_53178 h L_h.1) fun _ h2 L_h2 => ?_
  refine Lq.xgf fun _ => ?_
  refine Lq.xbd L_h2 (lo_f_J7_fill_53178 h2 L_h2.1) fun _ h4 L_h4 => ?_
  exact Lq.tr L_h4 (lo_f_X0_gather_18 _ _ h4 L_h4.1)
theorem lo_f_X0_addUpDue_10b {n : Nat} {rec10 : Int → MM → RR} {v0 : Int} {v1 : Int} (q_rec10 : ∀ (a0 : Int) (h : MM), 100 ≤ nx h → Lq h (rec10 a0 h)) (h : MM) (z : 100 ≤ nx h) : Lq h (f_X0_addUpDue_10b n rec10 v0 v1 h) := by
  have L_h := Lo.refl z
  delta f_X0_addUpDue_10b
  refine Lq.xgf fun _ => ?_
  refine Lq.xal fun _ => ?_
  refine Lq.ite ?_ ?_
  exact Lq.some L_h
  refine Lq.xgf fun _ => ?_
  refine Lq.xrd fun _ => ?_
  refine Lq.xgf fun _ => ?_
  refine Lq.xrd fun _ => ?_
  refine Lq.xwt L_h fun h8 L_h8 => ?_
  refine Lq.xgf fun _ => ?_
  refine Lq.xrd fun _ => ?_
  refine Lq.xgf fun _ => ?_
  refine Lq.xrd fun _ => ?_
  refine Lq.xwt L_h8 fun h13 L_h13 => ?_
  refine Lq.xlb fun _ => ?_
  exact Lq.tr L_h13 (q_rec10 _ h13 L_h13.1)
theorem lo_f_X0_addUpDue_10 {n : Nat} {v0 : Int} : ∀ (k : Nat) (v1 : Int) (h : MM), 100 ≤ nx h → Lq h (f_X0_addUpDue_10 n v0 k v1 h)
  | 0, _, _, _ => Lq.none
  | k + 1, v1, h, z => lo_f_X0_addUpDue_10b (fun b0 h z => lo_f_X0_addUpDue_10 k b0 h z) h z
theorem lo_f_X0_addUpDue {n : Nat} {v0 : Int} (h : MM) (z : 100 ≤ nx h) : Lq h (f_X0_addUpDue n v0 h) := by
  have L_h := Lo.refl z
  delta f_X0_addUpDue
  refine Lq.xgf fun _ => ?_
  refine Lq.xbd L_h (lo_f_J7_fill_53178 h L_h.1) fun _ h2 L_h2 => ?_
  exact Lq.tr L_h2 (lo_f_X0_addUpDue_10 _ _ h2 L_h2.1)
theorem lo_f_X0_addUpIncome_18b {n : Nat} {rec10 : Int → MM → RR} {rec18 : Int → MM → RR} {v0 : Int} {v1 : Int} {v2 : Int} (q_rec10 : ∀ (a0 : Int) (h : MM), 100 ≤ nx h → Lq h (rec10 a0 h)) (q_rec18 : ∀ (a0 : Int) (h : MM), 100 ≤ nx h → Lq h (rec18 a0 h)) (h : MM) (z : 100 ≤ nx h) : Lq h (f_X0_addUpIncome_18b n rec10 rec18 v0 v1 v2 h) := by
  have L_h := Lo.refl z
  delta f_X0_addUpIncome_18b
  refine Lq.xgf fun _ => ?_
  refine Lq.ite ?_ ?_
  refine Lq.xlb fun _ => ?_
  exact Lq.tr L_h (q_rec10 _ h L_h.1)
  refine Lq.xgf fun _ => ?_
  refine Lq.xrd fun _ => ?_
  refine Lq.xgf fun _ => ?_
  refine Lq.xrd fun _ => ?_
  refine Lq.xwt L_h fun h8 L_h8 => ?_
  refine Lq.xgf fun _ => ?_
  refine Lq.xrd fun _ => ?_
  refine Lq.xgf fun _ => ?_
  refine Lq.xrd fun _ => ?_
  refine Lq.xwt L_h8 fun h13 L_h13 => ?_
  refine Lq.xlb fun _ => ?_
  exact Lq.tr L_h13 (q_rec18 _ h13 L_h13.1)
theorem lo_f_X0_addUpIncome_18 {n : Nat} {rec10 : Int → MM → RR} {v0 : Int} {v1 : Int} (q_rec10 : ∀ (a0 : Int) (h : MM), 100 ≤ nx h → Lq h (rec10 a0 h)) : ∀ (k : Nat) (v2 : Int) (h : MM), 100 ≤ nx h → Lq h (f_X0_addUpIncome_18 n rec10 v0 v1 k v2 h)
  | 0, _, _, _ => Lq.none
  | k + 1, v2, h, z => lo_f_X0_addUpIncome_18b q_rec10 (fun b0 h z => lo_f_X0_addUpIncome_18 q_rec10 k b0 h z) h z
theorem lo_f_X0_addUpIncome_10b {n : Nat} {rec10 : Int → MM → RR} {v0 : Int} {v1 : Int} (q_rec10 : ∀ (a0 : Int) (h : MM), 100 ≤ nx h → Lq h (rec10 a0 h)) (h : MM) (z : 100 ≤ nx h) : Lq h (f_X0_addUpIncome_10b n rec10 v0 v1 h) := by
  have L_h := Lo.refl z
  delta f_X0_addUpIncome_10b
  refine Lq.ite ?_ ?_
  exact Lq.some L_h
  exact Lq.tr L_h (lo_f_X0_addUpIncome_18 q_rec10 _ _ h L_h.1)
theorem lo_f_X0_addUpIncome_10 {n : Nat} {v0 : Int} : ∀ (k : Nat) (v1 : Int) (h : MM), 100 ≤ nx h → Lq h (f_X0_addUpIncome_10 n v0 k v1 h)
  | 0, _, _, _ => Lq.none
  | k + 1, v1, h, z => lo_f_X0_addUpIncome_10b (fun b0 h z => lo_f_X0_addUpIncome_10 k b0 h z) h z
theorem lo_f_X0_addUpIncome {n : Nat} {v0 : Int} (h : MM) (z : 100 ≤ nx h) : Lq h (f_X0_addUpIncome n v0 h) := by
  have L_h := Lo.refl z
  delta f_X0_addUpIncome
  refine Lq.xgf fun _ => ?_
  refine Lq.xbd L_h (lo_f_J7_fill_53178 h L_h.1) fun _ h2 L_h2 => ?_
  exact Lq.tr L_h2 (lo_f_X0_addUpIncome_10 _ _ h2 L_h2.1)
theorem lo_f_X0_part_13 {n : Nat} (h : MM) (z : 100 ≤ nx h) : Lq h (f_X0_part_13 n h) := by
  have L_h := Lo.refl z
  delta f_X0_part_13
  exact Lq.some L_h
theorem lo_f_X0_part {n : Nat} {v0 : Int} {v1 : Int} {v2 : Int} {v3 : Int} (h : MM) (z : 100 ≤ nx h) : Lq h (f_X0_part n v0 v1 v2 v3 h) := by
  have L_h := Lo.refl z
  delta f_X0_part
  refine Lq.ite ?_ ?_
  exact Lq.tr L_h (lo_f_X0_part_13 h L_h.1)
  refine Lq.xgf fun _ => ?_
  refine Lq.xrd fun _ => ?_
  refine Lq.ite ?_ ?_
  exact Lq.tr L_h (lo_f_X0_part_13 h L_h.1)
  refine Lq.xgf fun _ => ?_
  refine Lq.xrd fun _ => ?_
  refine Lq.xgf fun _ => ?_
  refine Lq.xrd fun _ => ?_
  refine Lq.xgf fun _ => ?_
  refine Lq.xrd fun _ => ?_
  refine Lq.xlb fun _ => ?_
  refine Lq.xgf fun _ => ?_
  refine Lq.xrd fun _ => ?_
  refine Lq.xdz ?_
  exact Lq.some L_h
theorem lo_f_X0_payOnce_98 {n : Nat} {rec4 : Int → Int → MM → RR} {rec13 : Int → Int → MM → RR} {v0 : Int} {v1 : Int} {v3 : Int} {v4 : Int} {v5 : Int} {v6 : Int} {v7 : Int} {s0 : Int} (q_rec4 : ∀ (a0 a1 : Int) (h : MM), 100 ≤ nx h → Lq h (rec4 a0 a1 h)) (q_rec13 : ∀ (a0 a1 : Int) (h : MM), 100 ≤ nx h → Lq h (rec13 a0 a1 h)) (h : MM) (z : 100 ≤ nx h) : Lq h (f_X0_payOnce_98 n rec4 rec13 v0 v1 v3 v4 v5 v6 v7 s0 h) := by
  have L_h := Lo.refl z
  delta f_X0_payOnce_98
  refine Lq.xgf fun _ => ?_
  refine Lq.xwt L_h fun h2 L_h2 => ?_
  refine Lq.xgf fun _ => ?_
  refine Lq.xwt L_h2 fun h4 L_h4 => ?_
  refine Lq.xlb fun _ => ?_
  exact Lq.tr L_h4 (q_rec13 _ _ h4 L_h4.1)
theorem lo_f_X0_payOnce_93 {n : Nat} {rec4 : Int → Int → MM → RR} {rec13 : Int → Int → MM → RR} {v0 : Int} {v1 : Int} {v3 : Int} {v4 : Int} {v5 : Int} {v6 : Int} {v7 : Int} (q_rec4 : ∀ (a0 a1 : Int) (h : MM), 100 ≤ nx h → Lq h (rec4 a0 a1 h)) (q_rec13 : ∀ (a0 a1 : Int) (h : MM), 100 ≤ nx h → Lq h (rec13 a0 a1 h)) (h : MM) (z : 100 ≤ nx h) : Lq h (f_X0_payOnce_93 n rec4 rec13 v0 v1 v3 v4 v5 v6 v7 h) := by
  have L_h := Lo.refl z
  delta f_X0_payOnce_93
  exact Lq.tr L_h (lo_f_X0_payOnce_98 q_rec4 q_rec13 h L_h.1)
theorem lo_f_X0_payOnce_13b {n : Nat} {rec4 : Int → Int → MM → RR} {rec13 : Int → Int → MM → RR} {v0 : Int} {v1 : Int} {v2 : Int} {v3 : Int} {v4 : Int} (q_rec4 : ∀ (a0 a1 : Int) (h : MM), 100 ≤ nx h → Lq h (rec4 a0 a1 h)) (q_rec13 : ∀ (a0 a1 : Int) (h : MM), 100 ≤ nx h → Lq h (rec13 a0 a1 h)) (h : MM) (z : 100 ≤ nx h) : Lq h (f_X0_payOnce_13b n rec4 rec13 v0 v1 v2 v3 v4 h) := by
  have L_h := Lo.refl z
  delta f_X0_payOnce_13b
  refine Lq.xgf fun _ => ?_
  refine Lq.ite ?_ ?_
  refine Lq.xlb fun _ => ?_
  exact Lq.tr L_h (q_rec4 _ _ h L_h.1)
  refine Lq.xlb fun _ => ?_
  refine Lq.xgf fun _ => ?_
  refine Lq.xrd fun _ => ?_
  refine Lq.xgk ?_
  refine Lq.xbd L_h (lo_f_X0_part h L_h.1) fun _ h7 L_h7 => ?_
  refine Lq.xgf fun _ => ?_
  refine Lq.xrd fun _ => ?_
  refine Lq.xgk ?_
  refine Lq.xbd L_h7 (lo_f_X0_part h7 L_h7.1) fun _ h10 L_h10 => ?_
  refine Lq.ite ?_ ?_
  refine Lq.xgf fun _ => ?_
  refine Lq.xrd fun _ => ?_
  refine Lq.ite ?_ ?_
  refine Lq.xgf fun _ => ?_
  refine Lq.xrd fun _ => ?_
  refine Lq.ite ?_ ?_
  exact Lq.tr L_h10 (lo_f_X0_payOnce_98 q_rec4 q_rec13 h10 L_h10.1)
  exact Lq.tr L_h10 (lo_f_X0_payOnce_93 q_rec4 q_rec13 h10 L_h10.1)
  exact Lq.tr L_h10 (lo_f_X0_payOnce_93 q_rec4 q_rec13 h10 L_h10.1)
  exact Lq.tr L_h10 (lo_f_X0_payOnce_93 q_rec4 q_rec13 h10 L_h10.1)
theorem lo_f_X0_payOnce_13 {n : Nat} {rec4 : Int → Int → MM → RR} {v0 : Int} {v1 : Int} {v3 : Int} (q_rec4 : ∀ (a0 a1 : Int) (h : MM), 100 ≤ nx h → Lq h (rec4 a0 a1 h)) : ∀ (k : Nat) (v2 v4 : Int) (h : MM), 100 ≤ nx h → Lq h (f_X0_payOnce_13 n rec4 v0 v1 v3 k v2 v4 h)
  | 0, _, _, _, _ => Lq.none
  | k + 1, v2, v4, h, z => lo_f_X0_payOnce_13b q_rec4 (fun b0 b1 h z => lo_f_X0_payOnce_13 q_rec4 k b0 b1 h z) h z
theorem lo_f_X0_payOnce_4b {n : Nat} {rec4 : Int → Int → MM → RR} {v0 : Int} {v1 : Int} {v2 : Int} {v3 : Int} (q_rec4 : ∀ (a0 a1 : Int) (h : MM), 100 ≤ nx h → Lq h (rec4 a0 a1 h)) (h : MM) (z : 100 ≤ nx h) : Lq h (f_X0_payOnce_4b n rec4 v0 v1 v2 v3 h) := by
  have L_h := Lo.refl z
  delta f_X0_payOnce_4b
  refine Lq.ite ?_ ?_
  refine Lq.xck ?_
  exact Lq.some L_h
  exact Lq.tr L_h (lo_f_X0_payOnce_13 q_rec4 _ _ _ h L_h.1)
theorem lo_f_X0_payOnce_4 {n : Nat} {v0 : Int} {v1 : Int} : ∀ (k : Nat) (v2 v3 : Int) (h : MM), 100 ≤ nx h → Lq h (f_X0_payOnce_4 n v0 v1 k v2 v3 h)
  | 0, _, _, _, _ => Lq.none
  | k + 1, v2, v3, h, z => lo_f_X0_payOnce_4b (fun b0 b1 h z => lo_f_X0_payOnce_4 k b0 b1 h z) h z
theorem lo_f_X0_payOnce {n : Nat} {v0 : Int} {v1 : Int} (h : MM) (z : 100 ≤ nx h) : Lq h (f_X0_payOnce n v0 v1 h) := by
  have L_h := Lo.refl z
  delta f_X0_payOnce
  exact Lq.tr L_h (lo_f_X0_payOnce_4 _ _ _ h L_h.1)
theorem lo_f_X0_reckon_67 {n : Nat} (h : MM) (z : 100 ≤ nx h) : Lq h (f_X0_reckon_67 n h) := by
  have L_h := Lo.refl z
  delta f_X0_reckon_67
  exact Lq.some L_h
theorem lo_f_X0_reckon_39b {n : Nat} {rec39 : Int → Int → MM → RR} {v0 : Int} {v2 : Int} {v3 : Int} {v4 : Int} (q_rec39 : ∀ (a0 a1 : Int) (h : MM), 100 ≤ nx h → Lq h (rec39 a0 a1 h)) (h : MM) (z : 100 ≤ nx h) : Lq h (f_X0_reckon_39b n rec39 v0 v2 v3 v4 h) := by
  have L_h := Lo.refl z
  delta f_X0_reckon_39b
  refine Lq.ite ?_ ?_
  exact Lq.tr L_h (lo_f_X0_reckon_67 h L_h.1)
  refine Lq.ite ?_ ?_
  exact Lq.tr L_h (lo_f_X0_reckon_67 h L_h.1)
  refine Lq.xgk ?_
  refine Lq.xbd L_h (lo_f_X0_addUpIncome h L_h.1) fun _ h3 L_h3 => ?_
  refine Lq.xgk ?_
  refine Lq.xbd L_h3 (lo_f_X0_payOnce h3 L_h3.1) fun _ h4 L_h4 => ?_
  refine Lq.xlb fun _ => ?_
  exact Lq.tr L_h4 (q_rec39 _ _ h4 L_h4.1)
theorem lo_f_X0_reckon_39 {n : Nat} {v0 : Int} {v2 : Int} : ∀ (k : Nat) (v3 v4 : Int) (h : MM), 100 ≤ nx h → Lq h (f_X0_reckon_39 n v0 v2 k v3 v4 h)
  | 0, _, _, _, _ => Lq.none
  | k + 1, v3, v4, h, z => lo_f_X0_reckon_39b (fun b0 b1 h z => lo_f_X0_reckon_39 k b0 b1 h z) h z
theorem lo_f_X0_reckon {n : Nat} {v0 : Int} {v1 : Int} {v2 : Int} (h : MM) (z : 100 ≤ nx h) : Lq h (f_X0_reckon n v0 v1 v2 h) := by
  have L_h := Lo.refl z
  delta f_X0_reckon
  refine Lq.xgf fun _ => ?_
  refine Lq.xpf L_h fun h2 L_h2 => ?_
  refine Lq.xgk ?_
  refine Lq.xbd L_h2 (lo_f_X0_gather h2 L_h2.1) fun _ h3 L_h3 => ?_
  refine Lq.xgk ?_
  refine Lq.xbd L_h3 (lo_f_X0_addUpDue h3 L_h3.1) fun _ h4 L_h4 => ?_
  refine Lq.xgf fun _ => ?_
  refine Lq.xbd L_h4 (lo_f_J7_fill_53178 h4 L_h4.1) fun _ h6 L_h6 => ?_
  refine Lq.xgf fun _ => ?_
  refine Lq.xbd L_h6 (lo_f_J7_fill_53178 h6 L_h6.1) fun _ h8 L_h8 => ?_
  exact Lq.tr L_h8 (lo_f_X0_reckon_39 _ _ _ h8 L_h8.1)
theorem lo_f_X0_payOut_2b {n : Nat} {rec2 : Int → MM → RR} {v0 : Int} {v1 : Int} {v2 : Int} (q_rec2 : ∀ (a0 : Int) (h : MM), 100 ≤ nx h → Lq h (rec2 a0 h)) (h : MM) (z : 100 ≤ nx h) : Lq h (f_X0_payOut_2b n rec2 v0 v1 v2 h) := by
  have L_h := Lo.refl z
  delta f_X0_payOut_2b
  refine Lq.xgf fun _ => ?_
  refine Lq.xal fun _ => ?_
  refine Lq.ite ?_ ?_
  exact Lq.some L_h
  refine Lq.xgf fun _ => ?_
  refine Lq.xrd fun _ => ?_
  refine Lq.xgf fun _ => ?_
  refine Lq.xrd fun _ => ?_
  refine Lq.xlb fun _ => ?_
  refine Lq.xgf fun _ => ?_
  refine Lq.xrd fun _ => ?_
  refine Lq.xwt L_h fun h11 L_h11 => ?_
  refine Lq.xgf fun _ => ?_
  refine Lq.xrd fun _ => ?_
  refine Lq.xwt L_h11 fun h14 L_h14 => ?_
  refine Lq.xlb fun _ => ?_
  exact Lq.tr L_h14 (q_rec2 _ h14 L_h14.1)
theorem lo_f_X0_payOut_2 {n : Nat} {v0 : Int} {v1 : Int} : ∀ (k : Nat) (v2 : Int) (h : MM), 100 ≤ nx h → Lq h (f_X0_payOut_2 n v0 v1 k v2 h)
  | 0, _, _, _ => Lq.none
  | k + 1, v2, h, z => lo_f_X0_payOut_2b (fun b0 h z => lo_f_X0_payOut_2 k b0 h z) h z
theorem lo_f_X0_payOut {n : Nat} {v0 : Int} {v1 : Int} (h : MM) (z : 100 ≤ nx h) : Lq h (f_X0_payOut n v0 v1 h) := by
  have L_h := Lo.refl z
  delta f_X0_payOut
  exact Lq.tr L_h (lo_f_X0_payOut_2 _ _ h L_h.1)
theorem lo_f_X0_paidBy_50 {n : Nat} {rec4 : Int → Int → MM → RR} {v0 : Int} {v1 : Int} {v2 : Int} {v3 : Int} (q_rec4 : ∀ (a0 a1 : Int) (h : MM), 100 ≤ nx h → Lq h (rec4 a0 a1 h)) (h : MM) (z : 100 ≤ nx h) : Lq h (f_X0_paidBy_50 n rec4 v0 v1 v2 v3 h) := by
  have L_h := Lo.refl z
  delta f_X0_paidBy_50
  refine Lq.xlb fun _ => ?_
  exact Lq.tr L_h (q_rec4 _ _ h L_h.1)
theorem lo_f_X0_paidBy_30 {n : Nat} {rec4 : Int → Int → MM → RR} {v0 : Int} {v1 : Int} {v2 : Int} {v3 : Int} (q_rec4 : ∀ (a0 a1 : Int) (h : MM), 100 ≤ nx h → Lq h (rec4 a0 a1 h)) (h : MM) (z : 100 ≤ nx h) : Lq h (f_X0_paidBy_30 n rec4 v0 v1 v2 v3 h) := by
  have L_h := Lo.refl z
  delta f_X0_paidBy_30
  refine Lq.ite ?_ ?_
  refine Lq.xgf fun _ => ?_
  refine Lq.xrd fun _ => ?_
  refine Lq.xlb fun _ => ?_
  exact Lq.tr L_h (lo_f_X0_paidBy_50 q_rec4 h L_h.1)
  exact Lq.tr L_h (lo_f_X0_paidBy_50 q_rec4 h L_h.1)
theorem lo_f_X0_paidBy_4b {n : Nat} {rec4 : Int → Int → MM → RR} {v0 : Int} {v1 : Int} {v2 : Int} {v3 : Int} (q_rec4 : ∀ (a0 a1 : Int) (h : MM), 100 ≤ nx h → Lq h (rec4 a0 a1 h)) (h : MM) (z : 100 ≤ nx h) : Lq h (f_X0_paidBy_4b n rec4 v0 v1 v2 v3 h) := by
  have L_h := Lo.refl z
  delta f_X0_paidBy_4b
  refine Lq.xgf fun _ => ?_
  refine Lq.xal fun _ => ?_
  refine Lq.ite ?_ ?_
  exact Lq.some L_h
  refine Lq.ite ?_ ?_
  refine Lq.xgf fun _ => ?_
  refine Lq.xrd fun _ => ?_
  refine Lq.xlb fun _ => ?_
  exact Lq.tr L_h (lo_f_X0_paidBy_30 q_rec4 h L_h.1)
  exact Lq.tr L_h (lo_f_X0_paidBy_30 q_rec4 h L_h.1)
theorem lo_f_X0_paidBy_4 {n : Nat} {v0 : Int} {v1 : Int} : ∀ (k : Nat) (v2 v3 : Int) (h : MM), 100 ≤ nx h → Lq h (f_X0_paidBy_4 n v0 v1 k v2 v3 h)
  | 0, _, _, _, _ => Lq.none
  | k + 1, v2, v3, h, z => lo_f_X0_paidBy_4b (fun b0 b1 h z => lo_f_X0_paidBy_4 k b0 b1 h z) h z
theorem lo_f_X0_paidBy {n : Nat} {v0 : Int} {v1 : Int} (h : MM) (z : 100 ≤ nx h) : Lq h (f_X0_paidBy n v0 v1 h) := by
  have L_h := Lo.refl z
  delta f_X0_paidBy
  exact Lq.tr L_h (lo_f_X0_paidBy_4 _ _ _ h L_h.1)
theorem lo_f_X0_isEnded_16 {n : Nat} (h : MM) (z : 100 ≤ nx h) : Lq h (f_X0_isEnded_16 n h) := by
  have L_h := Lo.refl z
  delta f_X0_isEnded_16
  refine Lq.xck ?_
  exact Lq.some L_h
theorem lo_f_X0_isEnded_45 {n : Nat} {s0 : Int} (h : MM) (z : 100 ≤ nx h) : Lq h (f_X0_isEnded_45 n s0 h) := by
  have L_h := Lo.refl z
  delta f_X0_isEnded_45
  refine Lq.xck ?_
  exact Lq.some L_h
theorem lo_f_X0_isEnded_44 {n : Nat} (h : MM) (z : 100 ≤ nx h) : Lq h (f_X0_isEnded_44 n h) := by
  have L_h := Lo.refl z
  delta f_X0_isEnded_44
  exact Lq.tr L_h (lo_f_X0_isEnded_45 h L_h.1)
theorem lo_f_X0_isEnded {n : Nat} {v0 : Int} {v1 : Int} (h : MM) (z : 100 ≤ nx h) : Lq h (f_X0_isEnded n v0 v1 h) := by
  have L_h := Lo.refl z
  delta f_X0_isEnded
  refine Lq.xgf fun _ => ?_
  refine Lq.ite ?_ ?_
  exact Lq.tr L_h (lo_f_X0_isEnded_16 h L_h.1)
  refine Lq.xgf fun _ => ?_
  refine Lq.ite ?_ ?_
  exact Lq.tr L_h (lo_f_X0_isEnded_16 h L_h.1)
  refine Lq.xgf fun _ => ?_
  refine Lq.ite ?_ ?_
  refine Lq.xgf fun _ => ?_
  refine Lq.ite ?_ ?_
  exact Lq.tr L_h (lo_f_X0_isEnded_44 h L_h.1)
  exact Lq.tr L_h (lo_f_X0_isEnded_45 h L_h.1)
  exact Lq.tr L_h (lo_f_X0_isEnded_44 h L_h.1)
theorem lo_f_X0_fell_157 {n : Nat} {rec120 : Int → MM → RR} {v1 : Int} {v3 : Int} {v4 : Int} (q_rec120 : ∀ (a0 : Int) (h : MM), 100 ≤ nx h → Lq h (rec120 a0 h)) (h : MM) (z : 100 ≤ nx h) : Lq h (f_X0_fell_157 n rec120 v1 v3 v4 h) := by
  have L_h := Lo.refl z
  delta f_X0_fell_157
  refine Lq.xlb fun _ => ?_
  exact Lq.tr L_h (q_rec120 _ h L_h.1)
theorem lo_f_X0_fell_120b {n : Nat} {rec120 : Int → MM → RR} {v1 : Int} {v3 : Int} {v4 : Int} (q_rec120 : ∀ (a0 : Int) (h : MM), 100 ≤ nx h → Lq h (rec120 a0 h)) (h : MM) (z : 100 ≤ nx h) : Lq h (f_X0_fell_120b n rec120 v1 v3 v4 h) := by
  have L_h := Lo.refl z
  delta f_X0_fell_120b
  refine Lq.xgf fun _ => ?_
  refine Lq.ite ?_ ?_
  exact Lq.some L_h
  refine Lq.xgk ?_
  refine Lq.xbd L_h (lo_f_X5_get h L_h.1) fun _ h3 L_h3 => ?_
  refine Lq.ite ?_ ?_
  exact Lq.tr L_h3 (lo_f_X0_fell_157 q_rec120 h3 L_h3.1)
  refine Lq.xbd L_h3 (lo_f_X0_isEnded h3 L_h3.1) fun _ h5 L_h5 => ?_
  refine Lq.ite ?_ ?_
  exact Lq.tr L_h5 (lo_f_X0_fell_157 q_rec120 h5 L_h5.1)
  refine Lq.xgk ?_
  refine Lq.xbd L_h5 (lo_f_X5_mark h5 L_h5.1) fun _ h7 L_h7 => ?_
  exact Lq.tr L_h7 (lo_f_X0_fell_157 q_rec120 h7 L_h7.1)
theorem lo_f_X0_fell_120 {n : Nat} {v1 : Int} {v3 : Int} : ∀ (k : Nat) (v4 : Int) (h : MM), 100 ≤ nx h → Lq h (f_X0_fell_120 n v1 v3 k v4 h)
  | 0, _, _, _ => Lq.none
  | k + 1, v4, h, z => lo_f_X0_fell_120b (fun b0 h z => lo_f_X0_fell_120 k b0 h z) h z
theorem lo_f_X0_fell_111 {n : Nat} {rec47 : Int → MM → RR} {v0 : Int} {v1 : Int} {v2 : Int} {v3 : Int} {v4 : Int} (q_rec47 : ∀ (a0 : Int) (h : MM), 100 ≤ nx h → Lq h (rec47 a0 h)) (h : MM) (z : 100 ≤ nx h) : Lq h (f_X0_fell_111 n rec47 v0 v1 v2 v3 v4 h) := by
  have L_h := Lo.refl z
  delta f_X0_fell_111
  refine Lq.xlb fun _ => ?_
  exact Lq.tr L_h (q_rec47 _ h L_h.1)
theorem lo_f_X0_fell_47b {n : Nat} {rec47 : Int → MM → RR} {v0 : Int} {v1 : Int} {v2 : Int} {v3 : Int} {v4 : Int} (q_rec47 : ∀ (a0 : Int) (h : MM), 100 ≤ nx h → Lq h (rec47 a0 h)) (h : MM) (z : 100 ≤ nx h) : Lq h (f_X0_fell_47b n rec47 v0 v1 v2 v3 v4 h) := by
  have L_h := Lo.refl z
  delta f_X0_fell_47b
  refine Lq.xgf fun _ => ?_
  refine Lq.xal fun _ => ?_
  refine Lq.ite ?_ ?_
  exact Lq.tr L_h (lo_f_X0_fell_120 _ _ h L_h.1)
  refine Lq.xlb fun _ => ?_
  refine Lq.xlb fun _ => ?_
  refine Lq.ite ?_ ?_
  exact Lq.tr L_h (lo_f_X0_fell_111 q_rec47 h L_h.1)
  refine Lq.xgf fun _ => ?_
  refine Lq.xrd fun _ => ?_
  refine Lq.ite ?_ ?_
  exact Lq.tr L_h (lo_f_X0_fell_111 q_rec47 h L_h.1)
  refine Lq.xgk ?_
  refine Lq.xbd L_h (lo_f_X8_sharesOf h L_h.1) fun _ h10 L_h10 => ?_
  refine Lq.xgk ?_
  refine Lq.xbd L_h10 (lo_f_X8_pass h10 L_h10.1) fun _ h11 L_h11 => ?_
  exact Lq.tr L_h11 (lo_f_X0_fell_111 q_rec47 h11 L_h11.1)
theorem lo_f_X0_fell_47 {n : Nat} {v0 : Int} {v1 : Int} {v2 : Int} {v3 : Int} : ∀ (k : Nat) (v4 : Int) (h : MM), 100 ≤ nx h → Lq h (f_X0_fell_47 n v0 v1 v2 v3 k v4 h)
  | 0, _, _, _ => Lq.none
  | k + 1, v4, h, z => lo_f_X0_fell_47b (fun b0 h z => lo_f_X0_fell_47 k b0 h z) h z
theorem lo_f_X0_fell_38 {n : Nat} {rec5 : Int → Int → MM → RR} {v0 : Int} {v1 : Int} {v2 : Int} {v3 : Int} {v4 : Int} (q_rec5 : ∀ (a0 a1 : Int) (h : MM), 100 ≤ nx h → Lq h (rec5 a0 a1 h)) (h : MM) (z : 100 ≤ nx h) : Lq h (f_X0_fell_38 n rec5 v0 v1 v2 v3 v4 h) := by
  have L_h := Lo.refl z
  delta f_X0_fell_38
  refine Lq.xlb fun _ => ?_
  exact Lq.tr L_h (q_rec5 _ _ h L_h.1)
theorem lo_f_X0_fell_5b {n : Nat} {rec5 : Int → Int → MM → RR} {v0 : Int} {v1 : Int} {v2 : Int} {v3 : Int} {v4 : Int} (q_rec5 : ∀ (a0 a1 : Int) (h : MM), 100 ≤ nx h → Lq h (rec5 a0 a1 h)) (h : MM) (z : 100 ≤ nx h) : Lq h (f_X0_fell_5b n rec5 v0 v1 v2 v3 v4 h) := by
  have L_h := Lo.refl z
  delta f_X0_fell_5b
  refine Lq.xgf fun _ => ?_
  refine Lq.xal fun _ => ?_
  refine Lq.ite ?_ ?_
  exact Lq.tr L_h (lo_f_X0_fell_47 _ _ h L_h.1)
  refine Lq.xgk ?_
  refine Lq.xbd L_h (lo_f_X0_paidBy h L_h.1) fun _ h4 L_h4 => ?_
  refine Lq.xgf fun _ => ?_
  refine Lq.xrd fun _ => ?_
  refine Lq.ite ?_ ?_
  exact Lq.tr L_h4 (lo_f_X0_fell_38 q_rec5 h4 L_h4.1)
  refine Lq.xlb fun _ => ?_
  exact Lq.tr L_h4 (lo_f_X0_fell_38 q_rec5 h4 L_h4.1)
theorem lo_f_X0_fell_5 {n : Nat} {v0 : Int} {v1 : Int} {v2 : Int} : ∀ (k : Nat) (v3 v4 : Int) (h : MM), 100 ≤ nx h → Lq h (f_X0_fell_5 n v0 v1 v2 k v3 v4 h)
  | 0, _, _, _, _ => Lq.none
  | k + 1, v3, v4, h, z => lo_f_X0_fell_5b (fun b0 b1 h z => lo_f_X0_fell_5 k b0 b1 h z) h z
theorem lo_f_X0_fell {n : Nat} {v0 : Int} {v1 : Int} {v2 : Int} (h : MM) (z : 100 ≤ nx h) : Lq h (f_X0_fell n v0 v1 v2 h) := by
  have L_h := Lo.refl z
  delta f_X0_fell
  exact Lq.tr L_h (lo_f_X0_fell_5 _ _ _ h L_h.1)
theorem lo_f_X11_settle {n : Nat} {v0 : Int} (h : MM) (z : 100 ≤ nx h) : Lq h (f_X11_settle n v0 h) := by
  have L_h := Lo.refl z
  delta f_X11_settle
  refine Lq.xgf fun _ => ?_
  refine Lq.xgf fun _ => ?_
  refine Lq.xgf fun _ => ?_
  refine Lq.xgf fun _ => ?_
  refine Lq.xgf fun _ => ?_
  refine Lq.xgk ?_
  refine Lq.xbd L_h (lo_f_X0_reckon h L_h.1) fun _ h6 L_h6 => ?_
  refine Lq.xgf fun _ => ?_
  refine Lq.xgf fun _ => ?_
  refine Lq.xgf fun _ => ?_
  refine Lq.xgk ?_
  refine Lq.xbd L_h6 (lo_f_X0_payOut h6 L_h6.1) fun _ h10 L_h10 => ?_
  refine Lq.xgf fun _ => ?_
  refine Lq.xgf fun _ => ?_
  refine Lq.xgf fun _ => ?_
  refine Lq.xgf fun _ => ?_
  refine Lq.xgf fun _ => ?_
  refine Lq.xgk ?_
  refine Lq.xbd L_h10 (lo_f_X0_fell h10 L_h10.1) fun _ h16 L_h16 => ?_
  exact Lq.some L_h16
theorem lo_f_X11_along {n : Nat} {v0 : Int} {v1 : Int} {v2 : Int} (h : MM) (z : 100 ≤ nx h) : Lq h (f_X11_along n v0 v1 v2 h) := by
  have L_h := Lo.refl z
  delta f_X11_along
  refine Lq.xgk ?_
  refine Lq.xbd L_h (lo_f_X11_partyOf h L_h.1) fun _ h1 L_h1 => ?_
  refine Lq.ite ?_ ?_
  exact Lq.some L_h1
  refine Lq.xgf fun _ => ?_
  refine Lq.xgf fun _ => ?_
  refine Lq.xgf fun _ => ?_
  refine Lq.xgf fun _ => ?_
  refine Lq.xgf fun _ => ?_
  refine Lq.xgk ?_
  refine Lq.xbd L_h1 (lo_f_X0_reckon h1 L_h1.1) fun _ h8 L_h8 => ?_
  refine Lq.xgf fun _ => ?_
  refine Lq.xgk ?_
  refine Lq.xbd L_h8 (lo_f_X0_paidBy h8 L_h8.1) fun _ h10 L_h10 => ?_
  exact Lq.some L_h10
theorem lo_f_X5_isFallen_35 {n : Nat} {rec2 : Int → MM → RR} {v0 : Int} {v1 : Int} {v2 : Int} (q_rec2 : ∀ (a0 : Int) (h : MM), 100 ≤ nx h → Lq h (rec2 a0 h)) (h : MM) (z : 100 ≤ nx h) : Lq h (f_X5_isFallen_35 n rec2 v0 v1 v2 h) := by
  have L_h := Lo.refl z
  delta f_X5_isFallen_35
  refine Lq.xlb fun _ => ?_
  exact Lq.tr L_h (q_rec2 _ h L_h.1)
theorem lo_f_X5_isFallen_2b {n : Nat} {rec2 : Int → MM → RR} {v0 : Int} {v1 : Int} {v2 : Int} (q_rec2 : ∀ (a0 : Int) (h : MM), 100 ≤ nx h → Lq h (rec2 a0 h)) (h : MM) (z : 100 ≤ nx h) : Lq h (f_X5_isFallen_2b n rec2 v0 v1 v2 h) := by
  have L_h := Lo.refl z
  delta f_X5_isFallen_2b
  refine Lq.xgf fun _ => ?_
  refine Lq.ite ?_ ?_
  refine Lq.xck ?_
  exact Lq.some L_h
  refine Lq.xgk ?_
  refine Lq.xbd L_h (lo_f_X5_find h L_h.1) fun _ h4 L_h4 => ?_
  refine Lq.ite ?_ ?_
  exact Lq.tr L_h4 (lo_f_X5_isFallen_35 q_rec2 h4 L_h4.1)
  refine Lq.xgf fun _ => ?_
  refine Lq.ite ?_ ?_
  refine Lq.xgk ?_
  refine Lq.xbd L_h4 (lo_f_X5_isMarked h4 L_h4.1) fun _ h8 L_h8 => ?_
  refine Lq.xck ?_
  exact Lq.some L_h8
  exact Lq.tr L_h4 (lo_f_X5_isFallen_35 q_rec2 h4 L_h4.1)
theorem lo_f_X5_isFallen_2 {n : Nat} {v0 : Int} {v1 : Int} : ∀ (k : Nat) (v2 : Int) (h : MM), 100 ≤ nx h → Lq h (f_X5_isFallen_2 n v0 v1 k v2 h)
  | 0, _, _, _ => Lq.none
  | k + 1, v2, h, z => lo_f_X5_isFallen_2b (fun b0 h z => lo_f_X5_isFallen_2 k b0 h z) h z
theorem lo_f_X5_isFallen {n : Nat} {v0 : Int} {v1 : Int} (h : MM) (z : 100 ≤ nx h) : Lq h (f_X5_isFallen n v0 v1 h) := by
  have L_h := Lo.refl z
  delta f_X5_isFallen
  exact Lq.tr L_h (lo_f_X5_isFallen_2 _ _ h L_h.1)
theorem lo_f_X10_digLine_23 {n : Nat} (h : MM) (z : 100 ≤ nx h) : Lq h (f_X10_digLine_23 n h) := by
  have L_h := Lo.refl z
  delta f_X10_digLine_23
  exact Lq.some L_h
theorem lo_f_X10_digLine_117 {n : Nat} {v5 : Int} (h : MM) (z : 100 ≤ nx h) : Lq h (f_X10_digLine_117 n v5 h) := by
  have L_h := Lo.refl z
  delta f_X10_digLine_117
  exact Lq.some L_h
theorem lo_f_X10_digLine {n : Nat} {v0 : Int} {v1 : Int} {v2 : Int} {v3 : Int} (h : MM) (z : 100 ≤ nx h) : Lq h (f_X10_digLine n v0 v1 v2 v3 h) := by
  have L_h := Lo.refl z
  delta f_X10_digLine
  refine Lq.xgf fun _ => ?_
  refine Lq.xgf fun _ => ?_
  refine Lq.xrd fun _ => ?_
  refine Lq.ite ?_ ?_
  exact Lq.tr L_h (lo_f_X10_digLine_23 h L_h.1)
  refine Lq.xgf fun _ => ?_
  refine Lq.xgk ?_
  refine Lq.xbd L_h (lo_f_X5_isFallen h L_h.1) fun _ h6 L_h6 => ?_
  refine Lq.ite ?_ ?_
  refine Lq.xlb fun _ => ?_
  refine Lq.xgf fun _ => ?_
  refine Lq.xgf fun _ => ?_
  refine Lq.xrd fun _ => ?_
  refine Lq.xgf fun _ => ?_
  refine Lq.xgf fun _ => ?_
  refine Lq.xrd fun _ => ?_
  refine Lq.xlb fun _ => ?_
  refine Lq.xgf fun _ => ?_
  refine Lq.xgf fun _ => ?_
  refine Lq.xrd fun _ => ?_
  refine Lq.xwt L_h6 fun h19 L_h19 => ?_
  refine Lq.xgf fun _ => ?_
  refine Lq.xgf fun _ => ?_
  refine Lq.xrd fun _ => ?_
  refine Lq.xwt L_h19 fun h23 L_h23 => ?_
  refine Lq.xgf fun _ => ?_
  refine Lq.xgf fun _ => ?_
  refine Lq.xrd fun _ => ?_
  refine Lq.ite ?_ ?_
  refine Lq.xgf fun _ => ?_
  refine Lq.xgf fun _ => ?_
  refine Lq.xgf fun _ => ?_
  refine Lq.xwt L_h23 fun h31 L_h31 => ?_
  exact Lq.tr L_h31 (lo_f_X10_digLine_117 h31 L_h31.1)
  exact Lq.tr L_h23 (lo_f_X10_digLine_117 h23 L_h23.1)
  exact Lq.tr L_h6 (lo_f_X10_digLine_23 h6 L_h6.1)
theorem lo_f_X10_digToday_58 {n : Nat} {rec9 : Int → Int → MM → RR} {v0 : Int} {v1 : Int} {v2 : Int} (q_rec9 : ∀ (a0 a1 : Int) (h : MM), 100 ≤ nx h → Lq h (rec9 a0 a1 h)) (h : MM) (z : 100 ≤ nx h) : Lq h (f_X10_digToday_58 n rec9 v0 v1 v2 h) := by
  have L_h := Lo.refl z
  delta f_X10_digToday_58
  refine Lq.xlb fun _ => ?_
  exact Lq.tr L_h (q_rec9 _ _ h L_h.1)
theorem lo_f_X10_digToday_9b {n : Nat} {rec9 : Int → Int → MM → RR} {v0 : Int} {v1 : Int} {v2 : Int} (q_rec9 : ∀ (a0 a1 : Int) (h : MM), 100 ≤ nx h → Lq h (rec9 a0 a1 h)) (h : MM) (z : 100 ≤ nx h) : Lq h (f_X10_digToday_9b n rec9 v0 v1 v2 h) := by
  have L_h := Lo.refl z
  delta f_X10_digToday_9b
  refine Lq.xgf fun _ => ?_
  refine Lq.xgf fun _ => ?_
  refine Lq.ite ?_ ?_
  exact Lq.some L_h
  refine Lq.xgf fun _ => ?_
  refine Lq.xgk ?_
  refine Lq.xbd L_h (lo_f_X5_find h L_h.1) fun _ h5 L_h5 => ?_
  refine Lq.ite ?_ ?_
  exact Lq.tr L_h5 (lo_f_X10_digToday_58 q_rec9 h5 L_h5.1)
  refine Lq.xgf fun _ => ?_
  refine Lq.xgk ?_
  refine Lq.xbd L_h5 (lo_f_X5_isMarked h5 L_h5.1) fun _ h8 L_h8 => ?_
  refine Lq.ite ?_ ?_
  exact Lq.tr L_h8 (lo_f_X10_digToday_58 q_rec9 h8 L_h8.1)
  refine Lq.xgf fun _ => ?_
  refine Lq.xgk ?_
  refine Lq.xbd L_h8 (lo_f_X10_digLine h8 L_h8.1) fun _ h11 L_h11 => ?_
  refine Lq.xlb fun _ => ?_
  exact Lq.tr L_h11 (lo_f_X10_digToday_58 q_rec9 h11 L_h11.1)
theorem lo_f_X10_digToday_9 {n : Nat} {v0 : Int} : ∀ (k : Nat) (v1 v2 : Int) (h : MM), 100 ≤ nx h → Lq h (f_X10_digToday_9 n v0 k v1 v2 h)
  | 0, _, _, _, _ => Lq.none
  | k + 1, v1, v2, h, z => lo_f_X10_digToday_9b (fun b0 b1 h z => lo_f_X10_digToday_9 k b0 b1 h z) h z
theorem lo_f_X10_digToday {n : Nat} {v0 : Int} (h : MM) (z : 100 ≤ nx h) : Lq h (f_X10_digToday n v0 h) := by
  have L_h := Lo.refl z
  delta f_X10_digToday
  refine Lq.xgf fun _ => ?_
  refine Lq.xlb fun _ => ?_
  exact Lq.tr L_h (lo_f_X10_digToday_9 _ _ _ h L_h.1)
theorem lo_f_X11_remember_120 {n : Nat} {rec33 : Int → MM → RR} {v0 : Int} {v2 : Int} {v3 : Int} (q_rec33 : ∀ (a0 : Int) (h : MM), 100 ≤ nx h → Lq h (rec33 a0 h)) (h : MM) (z : 100 ≤ nx h) : Lq h (f_X11_remember_120 n rec33 v0 v2 v3 h) := by
  have L_h := Lo.refl z
  delta f_X11_remember_120
  refine Lq.xlb fun _ => ?_
  exact Lq.tr L_h (q_rec33 _ h L_h.1)
theorem lo_f_X11_remember_33b {n : Nat} {rec33 : Int → MM → RR} {v0 : Int} {v2 : Int} {v3 : Int} (q_rec33 : ∀ (a0 : Int) (h : MM), 100 ≤ nx h → Lq h (rec33 a0 h)) (h : MM) (z : 100 ≤ nx h) : Lq h (f_X11_remember_33b n rec33 v0 v2 v3 h) := by
  have L_h := Lo.refl z
  delta f_X11_remember_33b
  refine Lq.xgf fun _ => ?_
  refine Lq.xgf fun _ => ?_
  refine Lq.xgf fun _ => ?_
  refine Lq.ite ?_ ?_
  exact Lq.some L_h
  refine Lq.xgf fun _ => ?_
  refine Lq.xgf fun _ => ?_
  refine Lq.xgk ?_
  refine Lq.xbd L_h (lo_f_X5_find h L_h.1) fun _ h7 L_h7 => ?_
  refine Lq.ite ?_ ?_
  refine Lq.xgf fun _ => ?_
  refine Lq.xgf fun _ => ?_
  refine Lq.xgk ?_
  refine Lq.xbd L_h7 (lo_f_X5_isGranted h7 L_h7.1) fun _ h11 L_h11 => ?_
  refine Lq.ite ?_ ?_
  exact Lq.tr L_h11 (lo_f_X11_remember_120 q_rec33 h11 L_h11.1)
  refine Lq.xgf fun _ => ?_
  refine Lq.xgf fun _ => ?_
  refine Lq.xgf fun _ => ?_
  refine Lq.xrd fun _ => ?_
  refine Lq.xwt L_h11 fun h17 L_h17 => ?_
  exact Lq.tr L_h17 (lo_f_X11_remember_120 q_rec33 h17 L_h17.1)
  refine Lq.xgf fun _ => ?_
  refine Lq.xgf fun _ => ?_
  refine Lq.xgf fun _ => ?_
  refine Lq.xgf fun _ => ?_
  refine Lq.xrd fun _ => ?_
  refine Lq.xwt L_h7 fun h23 L_h23 => ?_
  exact Lq.tr L_h23 (lo_f_X11_remember_120 q_rec33 h23 L_h23.1)
theorem lo_f_X11_remember_33 {n : Nat} {v0 : Int} {v2 : Int} : ∀ (k : Nat) (v3 : Int) (h : MM), 100 ≤ nx h → Lq h (f_X11_remember_33 n v0 v2 k v3 h)
  | 0, _, _, _ => Lq.none
  | k + 1, v3, h, z => lo_f_X11_remember_33b (fun b0 h z => lo_f_X11_remember_33 k b0 h z) h z
theorem lo_f_X11_remember_19 {n : Nat} {v0 : Int} {v1 : Int} (h : MM) (z : 100 ≤ nx h) : Lq h (f_X11_remember_19 n v0 v1 h) := by
  have L_h := Lo.refl z
  delta f_X11_remember_19
  refine Lq.xgf fun _ => ?_
  refine Lq.xrd fun _ => ?_
  refine Lq.xbd L_h (lo_f_J7_fill_53178 h L_h.1) fun _ h3 L_h3 => ?_
  exact Lq.tr L_h3 (lo_f_X11_remember_33 _ _ h3 L_h3.1)
theorem lo_f_X11_remember {n : Nat} {v0 : Int} {v1 : Int} (h : MM) (z : 100 ≤ nx h) : Lq h (f_X11_remember n v0 v1 h) := by
  have L_h := Lo.refl z
  delta f_X11_remember
  refine Lq.xgf fun _ => ?_
  refine Lq.xrd fun _ => ?_
  refine Lq.ite ?_ ?_
  refine Lq.xgf fun _ => ?_
  refine Lq.xna L_h fun _ h5 L_h5 => ?_
  refine Lq.xgk2 ?_
  refine Lq.xwt L_h5 fun h6 L_h6 => ?_
  exact Lq.tr L_h6 (lo_f_X11_remember_19 h6 L_h6.1)
  exact Lq.tr L_h (lo_f_X11_remember_19 h L_h.1)
theorem lo_f_X11_dig_26 {n : Nat} (h : MM) (z : 100 ≤ nx h) : Lq h (f_X11_dig_26 n h) := by
  have L_h := Lo.refl z
  delta f_X11_dig_26
  exact Lq.some L_h
theorem lo_f_X11_dig_31b {n : Nat} {rec31 : Int → MM → RR} {v0 : Int} {v1 : Int} {v2 : Int} (q_rec31 : ∀ (a0 : Int) (h : MM), 100 ≤ nx h → Lq h (rec31 a0 h)) (h : MM) (z : 100 ≤ nx h) : Lq h (f_X11_dig_31b n rec31 v0 v1 v2 h) := by
  have L_h := Lo.refl z
  delta f_X11_dig_31b
  refine Lq.ite ?_ ?_
  refine Lq.xgf fun _ => ?_
  refine Lq.xgf fun _ => ?_
  exact Lq.some L_h
  refine Lq.xgf fun _ => ?_
  refine Lq.xgk ?_
  refine Lq.xbd L_h (lo_f_X10_digToday h L_h.1) fun _ h5 L_h5 => ?_
  refine Lq.xgf fun _ => ?_
  refine Lq.xgf fun _ => ?_
  refine Lq.xgk ?_
  refine Lq.xbd L_h5 (lo_f_X11_remember h5 L_h5.1) fun _ h8 L_h8 => ?_
  refine Lq.xgf fun _ => ?_
  refine Lq.xgf fun _ => ?_
  refine Lq.xpf L_h8 fun h11 L_h11 => ?_
  refine Lq.xlb fun _ => ?_
  exact Lq.tr L_h11 (q_rec31 _ h11 L_h11.1)
theorem lo_f_X11_dig_31 {n : Nat} {v0 : Int} {v1 : Int} : ∀ (k : Nat) (v2 : Int) (h : MM), 100 ≤ nx h → Lq h (f_X11_dig_31 n v0 v1 k v2 h)
  | 0, _, _, _ => Lq.none
  | k + 1, v2, h, z => lo_f_X11_dig_31b (fun b0 h z => lo_f_X11_dig_31 k b0 h z) h z
theorem lo_f_X11_dig {n : Nat} {v0 : Int} {v1 : Int} (h : MM) (z : 100 ≤ nx h) : Lq h (f_X11_dig n v0 v1 h) := by
  have L_h := Lo.refl z
  delta f_X11_dig
  refine Lq.xbd L_h (lo_f_X11_within h L_h.1) fun _ h1 L_h1 => ?_
  refine Lq.ite ?_ ?_
  exact Lq.tr L_h1 (lo_f_X11_dig_26 h1 L_h1.1)
  refine Lq.xgf fun _ => ?_
  refine Lq.xgf fun _ => ?_
  refine Lq.ite ?_ ?_
  exact Lq.tr L_h1 (lo_f_X11_dig_31 _ _ h1 L_h1.1)
  exact Lq.tr L_h1 (lo_f_X11_dig_26 h1 L_h1.1)
theorem lo_f_X11_last_25 {n : Nat} (h : MM) (z : 100 ≤ nx h) : Lq h (f_X11_last_25 n h) := by
  have L_h := Lo.refl z
  delta f_X11_last_25
  exact Lq.some L_h
theorem lo_f_X11_last_75 {n : Nat} {s0 : Int} (h : MM) (z : 100 ≤ nx h) : Lq h (f_X11_last_75 n s0 h) := by
  have L_h := Lo.refl z
  delta f_X11_last_75
  exact Lq.some L_h
theorem lo_f_X11_last {n : Nat} {v0 : Int} {v1 : Int} {v2 : Int} (h : MM) (z : 100 ≤ nx h) : Lq h (f_X11_last n v0 v1 v2 h) := by
  have L_h := Lo.refl z
  delta f_X11_last
  refine Lq.xgf fun _ => ?_
  refine Lq.xgf fun _ => ?_
  refine Lq.xgk ?_
  refine Lq.xbd L_h (lo_f_X5_find h L_h.1) fun _ h3 L_h3 => ?_
  refine Lq.ite ?_ ?_
  exact Lq.tr L_h3 (lo_f_X11_last_25 h3 L_h3.1)
  refine Lq.xbd L_h3 (lo_f_X11_within h3 L_h3.1) fun _ h5 L_h5 => ?_
  refine Lq.ite ?_ ?_
  exact Lq.tr L_h5 (lo_f_X11_last_25 h5 L_h5.1)
  refine Lq.xgf fun _ => ?_
  refine Lq.xgf fun _ => ?_
  refine Lq.xgk ?_
  refine Lq.xbd L_h5 (lo_f_X5_isMarked h5 L_h5.1) fun _ h9 L_h9 => ?_
  refine Lq.ite ?_ ?_
  exact Lq.some L_h9
  refine Lq.ite ?_ ?_
  refine Lq.xgf fun _ => ?_
  refine Lq.xgf fun _ => ?_
  refine Lq.xgf fun _ => ?_
  refine Lq.xrd fun _ => ?_
  exact Lq.tr L_h9 (lo_f_X11_last_75 h9 L_h9.1)
  refine Lq.xgf fun _ => ?_
  refine Lq.xgf fun _ => ?_
  refine Lq.xgf fun _ => ?_
  refine Lq.xrd fun _ => ?_
  exact Lq.tr L_h9 (lo_f_X11_last_75 h9 L_h9.1)
theorem lo_f_X5_townsOfBothGauges_79 {n : Nat} {rec6 : Int → Int → Int → MM → RR} {v0 : Int} {v1 : Int} {v2 : Int} {v3 : Int} (q_rec6 : ∀ (a0 a1 a2 : Int) (h : MM), 100 ≤ nx h → Lq h (rec6 a0 a1 a2 h)) (h : MM) (z : 100 ≤ nx h) : Lq h (f_X5_townsOfBothGauges_79 n rec6 v0 v1 v2 v3 h) := by
  have L_h := Lo.refl z
  delta f_X5_townsOfBothGauges_79
  refine Lq.xlb fun _ => ?_
  exact Lq.tr L_h (q_rec6 _ _ _ h L_h.1)
theorem lo_f_X5_townsOfBothGauges_6b {n : Nat} {rec6 : Int → Int → Int → MM → RR} {v0 : Int} {v1 : Int} {v2 : Int} {v3 : Int} (q_rec6 : ∀ (a0 a1 a2 : Int) (h : MM), 100 ≤ nx h → Lq h (rec6 a0 a1 a2 h)) (h : MM) (z : 100 ≤ nx h) : Lq h (f_X5_townsOfBothGauges_6b n rec6 v0 v1 v2 v3 h) := by
  have L_h := Lo.refl z
  delta f_X5_townsOfBothGauges_6b
  refine Lq.xgf fun _ => ?_
  refine Lq.ite ?_ ?_
  exact Lq.some L_h
  refine Lq.xgk ?_
  refine Lq.xbd L_h (lo_f_X5_find h L_h.1) fun _ h3 L_h3 => ?_
  refine Lq.ite ?_ ?_
  exact Lq.tr L_h3 (lo_f_X5_townsOfBothGauges_79 q_rec6 h3 L_h3.1)
  refine Lq.xgf fun _ => ?_
  refine Lq.xrd fun _ => ?_
  refine Lq.ite ?_ ?_
  exact Lq.tr L_h3 (lo_f_X5_townsOfBothGauges_79 q_rec6 h3 L_h3.1)
  refine Lq.xgf fun _ => ?_
  refine Lq.xgf fun _ => ?_
  refine Lq.xlb fun _ => ?_
  refine Lq.xgf fun _ => ?_
  refine Lq.ite ?_ ?_
  refine Lq.xlb fun _ => ?_
  exact Lq.tr L_h3 (lo_f_X5_townsOfBothGauges_79 q_rec6 h3 L_h3.1)
  refine Lq.xlb fun _ => ?_
  exact Lq.tr L_h3 (lo_f_X5_townsOfBothGauges_79 q_rec6 h3 L_h3.1)
theorem lo_f_X5_townsOfBothGauges_6 {n : Nat} {v0 : Int} : ∀ (k : Nat) (v1 v2 v3 : Int) (h : MM), 100 ≤ nx h → Lq h (f_X5_townsOfBothGauges_6 n v0 k v1 v2 v3 h)
  | 0, _, _, _, _, _ => Lq.none
  | k + 1, v1, v2, v3, h, z => lo_f_X5_townsOfBothGauges_6b (fun b0 b1 b2 h z => lo_f_X5_townsOfBothGauges_6 k b0 b1 b2 h z) h z
theorem lo_f_X5_townsOfBothGauges {n : Nat} {v0 : Int} (h : MM) (z : 100 ≤ nx h) : Lq h (f_X5_townsOfBothGauges n v0 h) := by
  have L_h := Lo.refl z
  delta f_X5_townsOfBothGauges
  exact Lq.tr L_h (lo_f_X5_townsOfBothGauges_6 _ _ _ _ h L_h.1)
theorem lo_f_X11_meet {n : Nat} {v0 : Int} (h : MM) (z : 100 ≤ nx h) : Lq h (f_X11_meet n v0 h) := by
  have L_h := Lo.refl z
  delta f_X11_meet
  refine Lq.xgf fun _ => ?_
  refine Lq.xgf fun _ => ?_
  refine Lq.xgk ?_
  refine Lq.xbd L_h (lo_f_X5_townsOfBothGauges h L_h.1) fun _ h3 L_h3 => ?_
  exact Lq.some L_h3
theorem lo_f_X11_areTowns {n : Nat} {v0 : Int} {v1 : Int} (h : MM) (z : 100 ≤ nx h) : Lq h (f_X11_areTowns n v0 v1 h) := by
  have L_h := Lo.refl z
  delta f_X11_areTowns
  refine Lq.xgf fun _ => ?_
  refine Lq.xgf fun _ => ?_
  refine Lq.xgf fun _ => ?_
  refine Lq.xbd L_h (lo_f_X11_within h L_h.1) fun _ h4 L_h4 => ?_
  refine Lq.xck ?_
  exact Lq.some L_h4
theorem lo_f_X2_clear {n : Nat} {v0 : Int} (h : MM) (z : 100 ≤ nx h) : Lq h (f_X2_clear n v0 h) := by
  have L_h := Lo.refl z
  delta f_X2_clear
  refine Lq.xpf L_h fun h1 L_h1 => ?_
  refine Lq.xpf L_h1 fun h2 L_h2 => ?_
  exact Lq.some L_h2
theorem lo_f_X2_add_118 {n : Nat} {rec77 : Int → MM → RR} {v0 : Int} {v2 : Int} {v3 : Int} {v7 : Int} (q_rec77 : ∀ (a0 : Int) (h : MM), 100 ≤ nx h → Lq h (rec77 a0 h)) (h : MM) (z : 100 ≤ nx h) : Lq h (f_X2_add_118 n rec77 v0 v2 v3 v7 h) := by
  have L_h := Lo.refl z
  delta f_X2_add_118
  refine Lq.xlb fun _ => ?_
  exact Lq.tr L_h (q_rec77 _ h L_h.1)
theorem lo_f_X2_add_77b {n : Nat} {rec77 : Int → MM → RR} {v0 : Int} {v2 : Int} {v3 : Int} {v7 : Int} (q_rec77 : ∀ (a0 : Int) (h : MM), 100 ≤ nx h → Lq h (rec77 a0 h)) (h : MM) (z : 100 ≤ nx h) : Lq h (f_X2_add_77b n rec77 v0 v2 v3 v7 h) := by
  have L_h := Lo.refl z
  delta f_X2_add_77b
  refine Lq.xgf fun _ => ?_
  refine Lq.ite ?_ ?_
  refine Lq.xgf fun _ => ?_
  refine Lq.xgf fun _ => ?_
  refine Lq.xgf fun _ => ?_
  refine Lq.xpf L_h fun h6 L_h6 => ?_
  refine Lq.xgf fun _ => ?_
  refine Lq.xpf L_h6 fun h8 L_h8 => ?_
  exact Lq.some L_h8
  refine Lq.xgf fun _ => ?_
  refine Lq.xrd fun _ => ?_
  refine Lq.ite ?_ ?_
  exact Lq.tr L_h (lo_f_X2_add_118 q_rec77 h L_h.1)
  refine Lq.xgf fun _ => ?_
  refine Lq.xgf fun _ => ?_
  refine Lq.xrd fun _ => ?_
  refine Lq.xwt L_h fun h15 L_h15 => ?_
  exact Lq.tr L_h15 (lo_f_X2_add_118 q_rec77 h15 L_h15.1)
theorem lo_f_X2_add_77 {n : Nat} {v0 : Int} {v2 : Int} {v3 : Int} : ∀ (k : Nat) (v7 : Int) (h : MM), 100 ≤ nx h → Lq h (f_X2_add_77 n v0 v2 v3 k v7 h)
  | 0, _, _, _ => Lq.none
  | k + 1, v7, h, z => lo_f_X2_add_77b (fun b0 h z => lo_f_X2_add_77 k b0 h z) h z
theorem lo_f_X2_add {n : Nat} {v0 : Int} {v1 : Int} {v2 : Int} {v3 : Int} {v5 : Int} {v6 : Int} (h : MM) (z : 100 ≤ nx h) : Lq h (f_X2_add n v0 v1 v2 v3 v5 v6 h) := by
  have L_h := Lo.refl z
  delta f_X2_add
  refine Lq.xgf fun _ => ?_
  refine Lq.ite ?_ ?_
  refine Lq.xgf fun _ => ?_
  refine Lq.xgf fun _ => ?_
  refine Lq.xwt L_h fun h5 L_h5 => ?_
  refine Lq.xgf fun _ => ?_
  refine Lq.xgf fun _ => ?_
  refine Lq.xgf fun _ => ?_
  refine Lq.xgf fun _ => ?_
  refine Lq.xwt L_h5 fun h10 L_h10 => ?_
  refine Lq.xgf fun _ => ?_
  refine Lq.xgf fun _ => ?_
  refine Lq.xwt L_h10 fun h13 L_h13 => ?_
  refine Lq.xgf fun _ => ?_
  refine Lq.xgf fun _ => ?_
  refine Lq.xwt L_h13 fun h16 L_h16 => ?_
  refine Lq.xgf fun _ => ?_
  refine Lq.xgf fun _ => ?_
  refine Lq.xwt L_h16 fun h19 L_h19 => ?_
  exact Lq.tr L_h19 (lo_f_X2_add_77 _ _ h19 L_h19.1)
  exact Lq.some L_h
theorem lo_f_X11_gatherGranted_66 {n : Nat} {rec9 : Int → MM → RR} {v0 : Int} {v1 : Int} (q_rec9 : ∀ (a0 : Int) (h : MM), 100 ≤ nx h → Lq h (rec9 a0 h)) (h : MM) (z : 100 ≤ nx h) : Lq h (f_X11_gatherGranted_66 n rec9 v0 v1 h) := by
  have L_h := Lo.refl z
  delta f_X11_gatherGranted_66
  refine Lq.xlb fun _ => ?_
  exact Lq.tr L_h (q_rec9 _ h L_h.1)
theorem lo_f_X11_gatherGranted_9b {n : Nat} {rec9 : Int → MM → RR} {v0 : Int} {v1 : Int} (q_rec9 : ∀ (a0 : Int) (h : MM), 100 ≤ nx h → Lq h (rec9 a0 h)) (h : MM) (z : 100 ≤ nx h) : Lq h (f_X11_gatherGranted_9b n rec9 v0 v1 h) := by
  have L_h := Lo.refl z
  delta f_X11_gatherGranted_9b
  refine Lq.xgf fun _ => ?_
  refine Lq.xgf fun _ => ?_
  refine Lq.xgf fun _ => ?_
  refine Lq.ite ?_ ?_
  exact Lq.some L_h
  refine Lq.xgf fun _ => ?_
  refine Lq.xgf fun _ => ?_
  refine Lq.xgk ?_
  refine Lq.xbd L_h (lo_f_X5_find h L_h.1) fun _ h7 L_h7 => ?_
  refine Lq.ite ?_ ?_
  exact Lq.tr L_h7 (lo_f_X11_gatherGranted_66 q_rec9 h7 L_h7.1)
  refine Lq.xgf fun _ => ?_
  refine Lq.xgf fun _ => ?_
  refine Lq.xgk ?_
  refine Lq.xbd L_h7 (lo_f_X5_isMarked h7 L_h7.1) fun _ h11 L_h11 => ?_
  refine Lq.ite ?_ ?_
  exact Lq.tr L_h11 (lo_f_X11_gatherGranted_66 q_rec9 h11 L_h11.1)
  refine Lq.xgf fun _ => ?_
  refine Lq.xgk ?_
  refine Lq.xbd L_h11 (lo_f_X2_add h11 L_h11.1) fun _ h14 L_h14 => ?_
  exact Lq.tr L_h14 (lo_f_X11_gatherGranted_66 q_rec9 h14 L_h14.1)
theorem lo_f_X11_gatherGranted_9 {n : Nat} {v0 : Int} : ∀ (k : Nat) (v1 : Int) (h : MM), 100 ≤ nx h → Lq h (f_X11_gatherGranted_9 n v0 k v1 h)
  | 0, _, _, _ => Lq.none
  | k + 1, v1, h, z => lo_f_X11_gatherGranted_9b (fun b0 h z => lo_f_X11_gatherGranted_9 k b0 h z) h z
theorem lo_f_X11_gatherGranted {n : Nat} {v0 : Int} (h : MM) (z : 100 ≤ nx h) : Lq h (f_X11_gatherGranted n v0 h) := by
  have L_h := Lo.refl z
  delta f_X11_gatherGranted
  refine Lq.xgf fun _ => ?_
  refine Lq.xgk ?_
  refine Lq.xbd L_h (lo_f_X2_clear h L_h.1) fun _ h2 L_h2 => ?_
  exact Lq.tr L_h2 (lo_f_X11_gatherGranted_9 _ _ h2 L_h2.1)
theorem lo_f_X2_join_95 {n : Nat} {s0 : Int} (h : MM) (z : 100 ≤ nx h) : Lq h (f_X2_join_95 n s0 h) := by
  have L_h := Lo.refl z
  delta f_X2_join_95
  refine Lq.xck ?_
  exact Lq.some L_h
theorem lo_f_X2_join_82 {n : Nat} {v1 : Int} {v3 : Int} (h : MM) (z : 100 ≤ nx h) : Lq h (f_X2_join_82 n v1 v3 h) := by
  have L_h := Lo.refl z
  delta f_X2_join_82
  refine Lq.ite ?_ ?_
  exact Lq.tr L_h (lo_f_X2_join_95 h L_h.1)
  exact Lq.tr L_h (lo_f_X2_join_95 h L_h.1)
theorem lo_f_X2_join_70 {n : Nat} {rec11 : Int → Int → Int → MM → RR} {rec30 : Int → Int → MM → RR} {v0 : Int} {v1 : Int} {v2 : Int} {v3 : Int} {v4 : Int} {v5 : Int} {v6 : Int} (q_rec11 : ∀ (a0 a1 a2 : Int) (h : MM), 100 ≤ nx h → Lq h (rec11 a0 a1 a2 h)) (q_rec30 : ∀ (a0 a1 : Int) (h : MM), 100 ≤ nx h → Lq h (rec30 a0 a1 h)) (h : MM) (z : 100 ≤ nx h) : Lq h (f_X2_join_70 n rec11 rec30 v0 v1 v2 v3 v4 v5 v6 h) := by
  have L_h := Lo.refl z
  delta f_X2_join_70
  refine Lq.xlb fun _ => ?_
  exact Lq.tr L_h (q_rec30 _ _ h L_h.1)
theorem lo_f_X2_join_30b {n : Nat} {rec11 : Int → Int → Int → MM → RR} {rec30 : Int → Int → MM → RR} {v0 : Int} {v1 : Int} {v2 : Int} {v3 : Int} {v4 : Int} {v5 : Int} {v6 : Int} (q_rec11 : ∀ (a0 a1 a2 : Int) (h : MM), 100 ≤ nx h → Lq h (rec11 a0 a1 a2 h)) (q_rec30 : ∀ (a0 a1 : Int) (h : MM), 100 ≤ nx h → Lq h (rec30 a0 a1 h)) (h : MM) (z : 100 ≤ nx h) : Lq h (f_X2_join_30b n rec11 rec30 v0 v1 v2 v3 v4 v5 v6 h) := by
  have L_h := Lo.refl z
  delta f_X2_join_30b
  refine Lq.xgf fun _ => ?_
  refine Lq.ite ?_ ?_
  refine Lq.xlb fun _ => ?_
  exact Lq.tr L_h (q_rec11 _ _ _ h L_h.1)
  refine Lq.ite ?_ ?_
  exact Lq.tr L_h (lo_f_X2_join_70 q_rec11 q_rec30 h L_h.1)
  refine Lq.xgf fun _ => ?_
  refine Lq.xrd fun _ => ?_
  refine Lq.ite ?_ ?_
  exact Lq.tr L_h (lo_f_X2_join_70 q_rec11 q_rec30 h L_h.1)
  refine Lq.xgf fun _ => ?_
  refine Lq.xrd fun _ => ?_
  refine Lq.xlb fun _ => ?_
  exact Lq.tr L_h (lo_f_X2_join_70 q_rec11 q_rec30 h L_h.1)
theorem lo_f_X2_join_30 {n : Nat} {rec11 : Int → Int → Int → MM → RR} {v0 : Int} {v1 : Int} {v2 : Int} {v4 : Int} {v5 : Int} (q_rec11 : ∀ (a0 a1 a2 : Int) (h : MM), 100 ≤ nx h → Lq h (rec11 a0 a1 a2 h)) : ∀ (k : Nat) (v3 v6 : Int) (h : MM), 100 ≤ nx h → Lq h (f_X2_join_30 n rec11 v0 v1 v2 v4 v5 k v3 v6 h)
  | 0, _, _, _, _ => Lq.none
  | k + 1, v3, v6, h, z => lo_f_X2_join_30b q_rec11 (fun b0 b1 h z => lo_f_X2_join_30 q_rec11 k b0 b1 h z) h z
theorem lo_f_X2_join_11b {n : Nat} {rec11 : Int → Int → Int → MM → RR} {v0 : Int} {v1 : Int} {v2 : Int} {v3 : Int} {v4 : Int} {v5 : Int} (q_rec11 : ∀ (a0 a1 a2 : Int) (h : MM), 100 ≤ nx h → Lq h (rec11 a0 a1 a2 h)) (h : MM) (z : 100 ≤ nx h) : Lq h (f_X2_join_11b n rec11 v0 v1 v2 v3 v4 v5 h) := by
  have L_h := Lo.refl z
  delta f_X2_join_11b
  refine Lq.ite ?_ ?_
  exact Lq.tr L_h (lo_f_X2_join_82 h L_h.1)
  refine Lq.ite ?_ ?_
  exact Lq.tr L_h (lo_f_X2_join_82 h L_h.1)
  exact Lq.tr L_h (lo_f_X2_join_30 q_rec11 _ _ _ h L_h.1)
theorem lo_f_X2_join_11 {n : Nat} {v0 : Int} {v1 : Int} {v2 : Int} : ∀ (k : Nat) (v3 v4 v5 : Int) (h : MM), 100 ≤ nx h → Lq h (f_X2_join_11 n v0 v1 v2 k v3 v4 v5 h)
  | 0, _, _, _, _, _ => Lq.none
  | k + 1, v3, v4, v5, h, z => lo_f_X2_join_11b (fun b0 b1 b2 h z => lo_f_X2_join_11 k b0 b1 b2 h z) h z
theorem lo_f_X2_join {n : Nat} {v0 : Int} {v1 : Int} {v2 : Int} (h : MM) (z : 100 ≤ nx h) : Lq h (f_X2_join n v0 v1 v2 h) := by
  have L_h := Lo.refl z
  delta f_X2_join
  refine Lq.xlb fun _ => ?_
  exact Lq.tr L_h (lo_f_X2_join_11 _ _ _ _ h L_h.1)
theorem lo_f_X2_fewestRelaid_76 {n : Nat} {rec15 : Int → Int → MM → RR} {v0 : Int} {v1 : Int} {v2 : Int} {v3 : Int} {v4 : Int} (q_rec15 : ∀ (a0 a1 : Int) (h : MM), 100 ≤ nx h → Lq h (rec15 a0 a1 h)) (h : MM) (z : 100 ≤ nx h) : Lq h (f_X2_fewestRelaid_76 n rec15 v0 v1 v2 v3 v4 h) := by
  have L_h := Lo.refl z
  delta f_X2_fewestRelaid_76
  refine Lq.xlb fun _ => ?_
  exact Lq.tr L_h (q_rec15 _ _ h L_h.1)
theorem lo_f_X2_fewestRelaid_73 {n : Nat} {rec15 : Int → Int → MM → RR} {v0 : Int} {v1 : Int} {v2 : Int} {v4 : Int} (q_rec15 : ∀ (a0 a1 : Int) (h : MM), 100 ≤ nx h → Lq h (rec15 a0 a1 h)) (h : MM) (z : 100 ≤ nx h) : Lq h (f_X2_fewestRelaid_73 n rec15 v0 v1 v2 v4 h) := by
  have L_h := Lo.refl z
  delta f_X2_fewestRelaid_73
  exact Lq.tr L_h (lo_f_X2_fewestRelaid_76 q_rec15 h L_h.1)
theorem lo_f_X2_fewestRelaid_40 {n : Nat} {rec15 : Int → Int → MM → RR} {v0 : Int} {v1 : Int} {v2 : Int} {v3 : Int} {v4 : Int} (q_rec15 : ∀ (a0 a1 : Int) (h : MM), 100 ≤ nx h → Lq h (rec15 a0 a1 h)) (h : MM) (z : 100 ≤ nx h) : Lq h (f_X2_fewestRelaid_40 n rec15 v0 v1 v2 v3 v4 h) := by
  have L_h := Lo.refl z
  delta f_X2_fewestRelaid_40
  refine Lq.xgf fun _ => ?_
  refine Lq.xlb fun _ => ?_
  refine Lq.xgk ?_
  refine Lq.xbd L_h (lo_f_X2_join h L_h.1) fun _ h3 L_h3 => ?_
  refine Lq.ite ?_ ?_
  refine Lq.xgk ?_
  refine Lq.xbd L_h3 (lo_f_X2_join h3 L_h3.1) fun _ h5 L_h5 => ?_
  refine Lq.ite ?_ ?_
  exact Lq.tr L_h5 (lo_f_X2_fewestRelaid_76 q_rec15 h5 L_h5.1)
  exact Lq.tr L_h5 (lo_f_X2_fewestRelaid_73 q_rec15 h5 L_h5.1)
  exact Lq.tr L_h3 (lo_f_X2_fewestRelaid_73 q_rec15 h3 L_h3.1)
theorem lo_f_X2_fewestRelaid_15b {n : Nat} {rec15 : Int → Int → MM → RR} {v0 : Int} {v1 : Int} {v2 : Int} {v3 : Int} {v4 : Int} (q_rec15 : ∀ (a0 a1 : Int) (h : MM), 100 ≤ nx h → Lq h (rec15 a0 a1 h)) (h : MM) (z : 100 ≤ nx h) : Lq h (f_X2_fewestRelaid_15b n rec15 v0 v1 v2 v3 v4 h) := by
  have L_h := Lo.refl z
  delta f_X2_fewestRelaid_15b
  refine Lq.ite ?_ ?_
  exact Lq.some L_h
  refine Lq.ite ?_ ?_
  exact Lq.tr L_h (lo_f_X2_fewestRelaid_40 q_rec15 h L_h.1)
  refine Lq.xbd L_h (lo_f_J6_bitCount_0f7a4 h L_h.1) fun _ h3 L_h3 => ?_
  refine Lq.xbd L_h3 (lo_f_J6_bitCount_0f7a4 h3 L_h3.1) fun _ h4 L_h4 => ?_
  refine Lq.ite ?_ ?_
  exact Lq.tr L_h4 (lo_f_X2_fewestRelaid_40 q_rec15 h4 L_h4.1)
  exact Lq.tr L_h4 (lo_f_X2_fewestRelaid_76 q_rec15 h4 L_h4.1)
theorem lo_f_X2_fewestRelaid_15 {n : Nat} {v0 : Int} {v1 : Int} {v2 : Int} : ∀ (k : Nat) (v3 v4 : Int) (h : MM), 100 ≤ nx h → Lq h (f_X2_fewestRelaid_15 n v0 v1 v2 k v3 v4 h)
  | 0, _, _, _, _ => Lq.none
  | k + 1, v3, v4, h, z => lo_f_X2_fewestRelaid_15b (fun b0 b1 h z => lo_f_X2_fewestRelaid_15 k b0 b1 h z) h z
theorem lo_f_X2_fewestRelaid {n : Nat} {v0 : Int} {v1 : Int} (h : MM) (z : 100 ≤ nx h) : Lq h (f_X2_fewestRelaid n v0 v1 h) := by
  have L_h := Lo.refl z
  delta f_X2_fewestRelaid
  refine Lq.xgf fun _ => ?_
  refine Lq.xlb fun _ => ?_
  exact Lq.tr L_h (lo_f_X2_fewestRelaid_15 _ _ _ h L_h.1)
theorem lo_f_X11_gauge {n : Nat} {v0 : Int} {v1 : Int} (h : MM) (z : 100 ≤ nx h) : Lq h (f_X11_gauge n v0 v1 h) := by
  have L_h := Lo.refl z
  delta f_X11_gauge
  refine Lq.xgk ?_
  refine Lq.xbd L_h (lo_f_X11_areTowns h L_h.1) fun _ h1 L_h1 => ?_
  refine Lq.ite ?_ ?_
  exact Lq.some L_h1
  refine Lq.xgf fun _ => ?_
  refine Lq.xgf fun _ => ?_
  refine Lq.xgk ?_
  refine Lq.xbd L_h1 (lo_f_X5_granted h1 L_h1.1) fun _ h5 L_h5 => ?_
  refine Lq.ite ?_ ?_
  refine Lq.xgk ?_
  refine Lq.xbd L_h5 (lo_f_X11_gatherGranted h5 L_h5.1) fun _ h7 L_h7 => ?_
  refine Lq.xgf fun _ => ?_
  refine Lq.xgk ?_
  refine Lq.xbd L_h7 (lo_f_X2_fewestRelaid h7 L_h7.1) fun _ h9 L_h9 => ?_
  exact Lq.some L_h9
  exact Lq.some L_h5
theorem lo_f_X11_gatherGrantable_149 {n : Nat} (h : MM) (z : 100 ≤ nx h) : Lq h (f_X11_gatherGrantable_149 n h) := by
  have L_h := Lo.refl z
  delta f_X11_gatherGrantable_149
  exact Lq.some L_h
theorem lo_f_X11_gatherGrantable_143 {n : Nat} {rec9 : Int → MM → RR} {v0 : Int} {v1 : Int} (q_rec9 : ∀ (a0 : Int) (h : MM), 100 ≤ nx h → Lq h (rec9 a0 h)) (h : MM) (z : 100 ≤ nx h) : Lq h (f_X11_gatherGrantable_143 n rec9 v0 v1 h) := by
  have L_h := Lo.refl z
  delta f_X11_gatherGrantable_143
  refine Lq.xlb fun _ => ?_
  exact Lq.tr L_h (q_rec9 _ h L_h.1)
theorem lo_f_X11_gatherGrantable_9b {n : Nat} {rec9 : Int → MM → RR} {v0 : Int} {v1 : Int} (q_rec9 : ∀ (a0 : Int) (h : MM), 100 ≤ nx h → Lq h (rec9 a0 h)) (h : MM) (z : 100 ≤ nx h) : Lq h (f_X11_gatherGrantable_9b n rec9 v0 v1 h) := by
  have L_h := Lo.refl z
  delta f_X11_gatherGrantable_9b
  refine Lq.xgf fun _ => ?_
  refine Lq.xgf fun _ => ?_
  refine Lq.xgf fun _ => ?_
  refine Lq.ite ?_ ?_
  exact Lq.tr L_h (lo_f_X11_gatherGrantable_149 h L_h.1)
  refine Lq.xgf fun _ => ?_
  refine Lq.xgf fun _ => ?_
  refine Lq.ite ?_ ?_
  exact Lq.tr L_h (lo_f_X11_gatherGrantable_149 h L_h.1)
  refine Lq.xgf fun _ => ?_
  refine Lq.xgf fun _ => ?_
  refine Lq.xgk ?_
  refine Lq.xbd L_h (lo_f_X5_find h L_h.1) fun _ h10 L_h10 => ?_
  refine Lq.ite ?_ ?_
  exact Lq.tr L_h10 (lo_f_X11_gatherGrantable_143 q_rec9 h10 L_h10.1)
  refine Lq.xgf fun _ => ?_
  refine Lq.xgf fun _ => ?_
  refine Lq.xgk ?_
  refine Lq.xbd L_h10 (lo_f_X5_isMarked h10 L_h10.1) fun _ h14 L_h14 => ?_
  refine Lq.ite ?_ ?_
  refine Lq.xgf fun _ => ?_
  refine Lq.xgf fun _ => ?_
  refine Lq.xgf fun _ => ?_
  refine Lq.xgk ?_
  refine Lq.xbd L_h14 (lo_f_X10_canBeLet h14 L_h14.1) fun _ h19 L_h19 => ?_
  refine Lq.ite ?_ ?_
  exact Lq.tr L_h19 (lo_f_X11_gatherGrantable_143 q_rec9 h19 L_h19.1)
  refine Lq.xgf fun _ => ?_
  refine Lq.xgf fun _ => ?_
  refine Lq.xgf fun _ => ?_
  refine Lq.xgk ?_
  refine Lq.xbd L_h19 (lo_f_X1_yardsOf h19 L_h19.1) fun _ h24 L_h24 => ?_
  refine Lq.xgf fun _ => ?_
  refine Lq.xgf fun _ => ?_
  refine Lq.xgf fun _ => ?_
  refine Lq.xgk ?_
  refine Lq.xbd L_h24 (lo_f_X1_claimsOf h24 L_h24.1) fun _ h28 L_h28 => ?_
  refine Lq.xlb fun _ => ?_
  refine Lq.xgf fun _ => ?_
  refine Lq.xgf fun _ => ?_
  refine Lq.xgf fun _ => ?_
  refine Lq.xgf fun _ => ?_
  refine Lq.xrd fun _ => ?_
  refine Lq.xgk ?_
  refine Lq.xbd L_h28 (lo_f_X2_add h28 L_h28.1) fun _ h35 L_h35 => ?_
  exact Lq.tr L_h35 (lo_f_X11_gatherGrantable_143 q_rec9 h35 L_h35.1)
  exact Lq.tr L_h14 (lo_f_X11_gatherGrantable_143 q_rec9 h14 L_h14.1)
theorem lo_f_X11_gatherGrantable_9 {n : Nat} {v0 : Int} : ∀ (k : Nat) (v1 : Int) (h : MM), 100 ≤ nx h → Lq h (f_X11_gatherGrantable_9 n v0 k v1 h)
  | 0, _, _, _ => Lq.none
  | k + 1, v1, h, z => lo_f_X11_gatherGrantable_9b (fun b0 h z => lo_f_X11_gatherGrantable_9 k b0 h z) h z
theorem lo_f_X11_gatherGrantable {n : Nat} {v0 : Int} (h : MM) (z : 100 ≤ nx h) : Lq h (f_X11_gatherGrantable n v0 h) := by
  have L_h := Lo.refl z
  delta f_X11_gatherGrantable
  refine Lq.xgf fun _ => ?_
  refine Lq.xgk ?_
  refine Lq.xbd L_h (lo_f_X2_clear h L_h.1) fun _ h2 L_h2 => ?_
  exact Lq.tr L_h2 (lo_f_X11_gatherGrantable_9 _ _ h2 L_h2.1)
theorem lo_f_X2_sumOf_30 {n : Nat} {rec5 : Int → Int → MM → RR} {v0 : Int} {v1 : Int} {v2 : Int} {v3 : Int} {v4 : Int} (q_rec5 : ∀ (a0 a1 : Int) (h : MM), 100 ≤ nx h → Lq h (rec5 a0 a1 h)) (h : MM) (z : 100 ≤ nx h) : Lq h (f_X2_sumOf_30 n rec5 v0 v1 v2 v3 v4 h) := by
  have L_h := Lo.refl z
  delta f_X2_sumOf_30
  refine Lq.xlb fun _ => ?_
  exact Lq.tr L_h (q_rec5 _ _ h L_h.1)
theorem lo_f_X2_sumOf_5b {n : Nat} {rec5 : Int → Int → MM → RR} {v0 : Int} {v1 : Int} {v2 : Int} {v3 : Int} {v4 : Int} (q_rec5 : ∀ (a0 a1 : Int) (h : MM), 100 ≤ nx h → Lq h (rec5 a0 a1 h)) (h : MM) (z : 100 ≤ nx h) : Lq h (f_X2_sumOf_5b n rec5 v0 v1 v2 v3 v4 h) := by
  have L_h := Lo.refl z
  delta f_X2_sumOf_5b
  refine Lq.xgf fun _ => ?_
  refine Lq.ite ?_ ?_
  exact Lq.some L_h
  refine Lq.ite ?_ ?_
  exact Lq.tr L_h (lo_f_X2_sumOf_30 q_rec5 h L_h.1)
  refine Lq.xrd fun _ => ?_
  refine Lq.xlb fun _ => ?_
  exact Lq.tr L_h (lo_f_X2_sumOf_30 q_rec5 h L_h.1)
theorem lo_f_X2_sumOf_5 {n : Nat} {v0 : Int} {v1 : Int} {v2 : Int} : ∀ (k : Nat) (v3 v4 : Int) (h : MM), 100 ≤ nx h → Lq h (f_X2_sumOf_5 n v0 v1 v2 k v3 v4 h)
  | 0, _, _, _, _ => Lq.none
  | k + 1, v3, v4, h, z => lo_f_X2_sumOf_5b (fun b0 b1 h z => lo_f_X2_sumOf_5 k b0 b1 h z) h z
theorem lo_f_X2_sumOf {n : Nat} {v0 : Int} {v1 : Int} {v2 : Int} (h : MM) (z : 100 ≤ nx h) : Lq h (f_X2_sumOf n v0 v1 v2 h) := by
  have L_h := Lo.refl z
  delta f_X2_sumOf
  exact Lq.tr L_h (lo_f_X2_sumOf_5 _ _ _ h L_h.1)
theorem lo_f_X2_coinsOf {n : Nat} {v0 : Int} {v1 : Int} (h : MM) (z : 100 ≤ nx h) : Lq h (f_X2_coinsOf n v0 v1 h) := by
  have L_h := Lo.refl z
  delta f_X2_coinsOf
  refine Lq.xgf fun _ => ?_
  refine Lq.xgk ?_
  refine Lq.xbd L_h (lo_f_X2_sumOf h L_h.1) fun _ h2 L_h2 => ?_
  exact Lq.some L_h2
theorem lo_f_X2_isBetter_36 {n : Nat} {s0 : Int} (h : MM) (z : 100 ≤ nx h) : Lq h (f_X2_isBetter_36 n s0 h) := by
  have L_h := Lo.refl z
  delta f_X2_isBetter_36
  refine Lq.xck ?_
  exact Lq.some L_h
theorem lo_f_X2_isBetter_31 {n : Nat} (h : MM) (z : 100 ≤ nx h) : Lq h (f_X2_isBetter_31 n h) := by
  have L_h := Lo.refl z
  delta f_X2_isBetter_31
  exact Lq.tr L_h (lo_f_X2_isBetter_36 h L_h.1)
theorem lo_f_X2_isBetter_35 {n : Nat} (h : MM) (z : 100 ≤ nx h) : Lq h (f_X2_isBetter_35 n h) := by
  have L_h := Lo.refl z
  delta f_X2_isBetter_35
  exact Lq.tr L_h (lo_f_X2_isBetter_36 h L_h.1)
theorem lo_f_X2_isBetter {n : Nat} {v0 : Int} {v1 : Int} {v2 : Int} (h : MM) (z : 100 ≤ nx h) : Lq h (f_X2_isBetter n v0 v1 v2 h) := by
  have L_h := Lo.refl z
  delta f_X2_isBetter
  refine Lq.xgk ?_
  refine Lq.xbd L_h (lo_f_X2_coinsOf h L_h.1) fun _ h1 L_h1 => ?_
  refine Lq.xgk ?_
  refine Lq.xbd L_h1 (lo_f_X2_coinsOf h1 L_h1.1) fun _ h2 L_h2 => ?_
  refine Lq.xlb fun _ => ?_
  refine Lq.ite ?_ ?_
  exact Lq.tr L_h2 (lo_f_X2_isBetter_31 h2 L_h2.1)
  refine Lq.ite ?_ ?_
  refine Lq.xbd L_h2 (lo_f_J6_bitCount_0f7a4 h2 L_h2.1) fun _ h6 L_h6 => ?_
  refine Lq.xbd L_h6 (lo_f_J6_bitCount_0f7a4 h6 L_h6.1) fun _ h7 L_h7 => ?_
  refine Lq.ite ?_ ?_
  exact Lq.tr L_h7 (lo_f_X2_isBetter_35 h7 L_h7.1)
  exact Lq.tr L_h7 (lo_f_X2_isBetter_31 h7 L_h7.1)
  exact Lq.tr L_h2 (lo_f_X2_isBetter_35 h2 L_h2.1)
theorem lo_f_X2_isAtOdds_31 {n : Nat} {rec2 : Int → MM → RR} {v0 : Int} {v1 : Int} {v2 : Int} (q_rec2 : ∀ (a0 : Int) (h : MM), 100 ≤ nx h → Lq h (rec2 a0 h)) (h : MM) (z : 100 ≤ nx h) : Lq h (f_X2_isAtOdds_31 n rec2 v0 v1 v2 h) := by
  have L_h := Lo.refl z
  delta f_X2_isAtOdds_31
  refine Lq.xlb fun _ => ?_
  exact Lq.tr L_h (q_rec2 _ h L_h.1)
theorem lo_f_X2_isAtOdds_2b {n : Nat} {rec2 : Int → MM → RR} {v0 : Int} {v1 : Int} {v2 : Int} (q_rec2 : ∀ (a0 : Int) (h : MM), 100 ≤ nx h → Lq h (rec2 a0 h)) (h : MM) (z : 100 ≤ nx h) : Lq h (f_X2_isAtOdds_2b n rec2 v0 v1 v2 h) := by
  have L_h := Lo.refl z
  delta f_X2_isAtOdds_2b
  refine Lq.xgf fun _ => ?_
  refine Lq.ite ?_ ?_
  refine Lq.xck ?_
  exact Lq.some L_h
  refine Lq.ite ?_ ?_
  exact Lq.tr L_h (lo_f_X2_isAtOdds_31 q_rec2 h L_h.1)
  refine Lq.xgf fun _ => ?_
  refine Lq.xrd fun _ => ?_
  refine Lq.ite ?_ ?_
  exact Lq.tr L_h (lo_f_X2_isAtOdds_31 q_rec2 h L_h.1)
  refine Lq.xck ?_
  exact Lq.some L_h
theorem lo_f_X2_isAtOdds_2 {n : Nat} {v0 : Int} {v1 : Int} : ∀ (k : Nat) (v2 : Int) (h : MM), 100 ≤ nx h → Lq h (f_X2_isAtOdds_2 n v0 v1 k v2 h)
  | 0, _, _, _ => Lq.none
  | k + 1, v2, h, z => lo_f_X2_isAtOdds_2b (fun b0 h z => lo_f_X2_isAtOdds_2 k b0 h z) h z
theorem lo_f_X2_isAtOdds {n : Nat} {v0 : Int} {v1 : Int} (h : MM) (z : 100 ≤ nx h) : Lq h (f_X2_isAtOdds n v0 v1 h) := by
  have L_h := Lo.refl z
  delta f_X2_isAtOdds
  exact Lq.tr L_h (lo_f_X2_isAtOdds_2 _ _ h L_h.1)
theorem lo_f_X2_cheapest_87 {n : Nat} {rec7 : Int → Int → MM → RR} {v0 : Int} {v1 : Int} {v2 : Int} {v3 : Int} {v4 : Int} {v5 : Int} (q_rec7 : ∀ (a0 a1 : Int) (h : MM), 100 ≤ nx h → Lq h (rec7 a0 a1 h)) (h : MM) (z : 100 ≤ nx h) : Lq h (f_X2_cheapest_87 n rec7 v0 v1 v2 v3 v4 v5 h) := by
  have L_h := Lo.refl z
  delta f_X2_cheapest_87
  refine Lq.xlb fun _ => ?_
  exact Lq.tr L_h (q_rec7 _ _ h L_h.1)
theorem lo_f_X2_cheapest_64 {n : Nat} {rec7 : Int → Int → MM → RR} {v0 : Int} {v1 : Int} {v2 : Int} {v3 : Int} {v4 : Int} {v5 : Int} (q_rec7 : ∀ (a0 a1 : Int) (h : MM), 100 ≤ nx h → Lq h (rec7 a0 a1 h)) (h : MM) (z : 100 ≤ nx h) : Lq h (f_X2_cheapest_64 n rec7 v0 v1 v2 v3 v4 v5 h) := by
  have L_h := Lo.refl z
  delta f_X2_cheapest_64
  refine Lq.xgk ?_
  refine Lq.xbd L_h (lo_f_X2_isAtOdds h L_h.1) fun _ h1 L_h1 => ?_
  refine Lq.ite ?_ ?_
  refine Lq.xgk ?_
  refine Lq.xbd L_h1 (lo_f_X2_join h1 L_h1.1) fun _ h3 L_h3 => ?_
  refine Lq.ite ?_ ?_
  exact Lq.tr L_h3 (lo_f_X2_cheapest_87 q_rec7 h3 L_h3.1)
  exact Lq.tr L_h3 (lo_f_X2_cheapest_87 q_rec7 h3 L_h3.1)
  exact Lq.tr L_h1 (lo_f_X2_cheapest_87 q_rec7 h1 L_h1.1)
theorem lo_f_X2_cheapest_7b {n : Nat} {rec7 : Int → Int → MM → RR} {v0 : Int} {v1 : Int} {v2 : Int} {v3 : Int} {v4 : Int} {v5 : Int} (q_rec7 : ∀ (a0 a1 : Int) (h : MM), 100 ≤ nx h → Lq h (rec7 a0 a1 h)) (h : MM) (z : 100 ≤ nx h) : Lq h (f_X2_cheapest_7b n rec7 v0 v1 v2 v3 v4 v5 h) := by
  have L_h := Lo.refl z
  delta f_X2_cheapest_7b
  refine Lq.xgf fun _ => ?_
  refine Lq.ite ?_ ?_
  exact Lq.some L_h
  refine Lq.xgk ?_
  refine Lq.xbd L_h (lo_f_X2_coinsOf h L_h.1) fun _ h3 L_h3 => ?_
  refine Lq.ite ?_ ?_
  exact Lq.tr L_h3 (lo_f_X2_cheapest_87 q_rec7 h3 L_h3.1)
  refine Lq.xgf fun _ => ?_
  refine Lq.xgk ?_
  refine Lq.xbd L_h3 (lo_f_X2_sumOf h3 L_h3.1) fun _ h6 L_h6 => ?_
  refine Lq.ite ?_ ?_
  refine Lq.ite ?_ ?_
  exact Lq.tr L_h6 (lo_f_X2_cheapest_64 q_rec7 h6 L_h6.1)
  refine Lq.xgk ?_
  refine Lq.xbd L_h6 (lo_f_X2_isBetter h6 L_h6.1) fun _ h9 L_h9 => ?_
  refine Lq.ite ?_ ?_
  exact Lq.tr L_h9 (lo_f_X2_cheapest_87 q_rec7 h9 L_h9.1)
  exact Lq.tr L_h9 (lo_f_X2_cheapest_64 q_rec7 h9 L_h9.1)
  exact Lq.tr L_h6 (lo_f_X2_cheapest_87 q_rec7 h6 L_h6.1)
theorem lo_f_X2_cheapest_7 {n : Nat} {v0 : Int} {v1 : Int} {v2 : Int} {v3 : Int} : ∀ (k : Nat) (v4 v5 : Int) (h : MM), 100 ≤ nx h → Lq h (f_X2_cheapest_7 n v0 v1 v2 v3 k v4 v5 h)
  | 0, _, _, _, _ => Lq.none
  | k + 1, v4, v5, h, z => lo_f_X2_cheapest_7b (fun b0 b1 h z => lo_f_X2_cheapest_7 k b0 b1 h z) h z
theorem lo_f_X2_cheapest {n : Nat} {v0 : Int} {v1 : Int} {v2 : Int} {v3 : Int} (h : MM) (z : 100 ≤ nx h) : Lq h (f_X2_cheapest n v0 v1 v2 v3 h) := by
  have L_h := Lo.refl z
  delta f_X2_cheapest
  exact Lq.tr L_h (lo_f_X2_cheapest_7 _ _ _ h L_h.1)
theorem lo_f_X11_plan_44 {n : Nat} (h : MM) (z : 100 ≤ nx h) : Lq h (f_X11_plan_44 n h) := by
  have L_h := Lo.refl z
  delta f_X11_plan_44
  exact Lq.some L_h
theorem lo_f_X11_plan_90 {n : Nat} {s0 : Int} (h : MM) (z : 100 ≤ nx h) : Lq h (f_X11_plan_90 n s0 h) := by
  have L_h := Lo.refl z
  delta f_X11_plan_90
  exact Lq.some L_h
theorem lo_f_X11_plan {n : Nat} {v0 : Int} {v1 : Int} {v2 : Int} {v3 : Int} {v4 : Int} (h : MM) (z : 100 ≤ nx h) : Lq h (f_X11_plan n v0 v1 v2 v3 v4 h) := by
  have L_h := Lo.refl z
  delta f_X11_plan
  refine Lq.xbd L_h (lo_f_X11_within h L_h.1) fun _ h1 L_h1 => ?_
  refine Lq.ite ?_ ?_
  exact Lq.some L_h1
  refine Lq.xgk ?_
  refine Lq.xbd L_h1 (lo_f_X11_areTowns h1 L_h1.1) fun _ h3 L_h3 => ?_
  refine Lq.ite ?_ ?_
  exact Lq.tr L_h3 (lo_f_X11_plan_44 h3 L_h3.1)
  refine Lq.xbd L_h3 (lo_f_X11_within h3 L_h3.1) fun _ h5 L_h5 => ?_
  refine Lq.ite ?_ ?_
  exact Lq.tr L_h5 (lo_f_X11_plan_44 h5 L_h5.1)
  refine Lq.xbd L_h5 (lo_f_X11_within h5 L_h5.1) fun _ h7 L_h7 => ?_
  refine Lq.ite ?_ ?_
  exact Lq.tr L_h7 (lo_f_X11_plan_44 h7 L_h7.1)
  refine Lq.xgk ?_
  refine Lq.xbd L_h7 (lo_f_X11_gatherGrantable h7 L_h7.1) fun _ h9 L_h9 => ?_
  refine Lq.xgf fun _ => ?_
  refine Lq.xgk ?_
  refine Lq.xbd L_h9 (lo_f_X2_cheapest h9 L_h9.1) fun _ h11 L_h11 => ?_
  refine Lq.ite ?_ ?_
  refine Lq.ite ?_ ?_
  exact Lq.tr L_h11 (lo_f_X11_plan_90 h11 L_h11.1)
  refine Lq.xgf fun _ => ?_
  refine Lq.xgk ?_
  refine Lq.xbd L_h11 (lo_f_X2_coinsOf h11 L_h11.1) fun _ h15 L_h15 => ?_
  exact Lq.tr L_h15 (lo_f_X11_plan_90 h15 L_h15.1)
  exact Lq.some L_h11
theorem lo_f_X11_triedYards_49 {n : Nat} {s0 : Int} (h : MM) (z : 100 ≤ nx h) : Lq h (f_X11_triedYards_49 n s0 h) := by
  have L_h := Lo.refl z
  delta f_X11_triedYards_49
  exact Lq.some L_h
theorem lo_f_X11_triedYards_47 {n : Nat} (h : MM) (z : 100 ≤ nx h) : Lq h (f_X11_triedYards_47 n h) := by
  have L_h := Lo.refl z
  delta f_X11_triedYards_47
  exact Lq.tr L_h (lo_f_X11_triedYards_49 h L_h.1)
theorem lo_f_X11_triedYards {n : Nat} {v0 : Int} (h : MM) (z : 100 ≤ nx h) : Lq h (f_X11_triedYards n v0 h) := by
  have L_h := Lo.refl z
  delta f_X11_triedYards
  refine Lq.xgf fun _ => ?_
  refine Lq.xgf fun _ => ?_
  refine Lq.xgf fun _ => ?_
  refine Lq.ite ?_ ?_
  exact Lq.tr L_h (lo_f_X11_triedYards_47 h L_h.1)
  refine Lq.xgf fun _ => ?_
  refine Lq.xgf fun _ => ?_
  refine Lq.xgf fun _ => ?_
  refine Lq.xgf fun _ => ?_
  refine Lq.xgk ?_
  refine Lq.xbd L_h (lo_f_X7_seek h L_h.1) fun _ h9 L_h9 => ?_
  refine Lq.ite ?_ ?_
  exact Lq.tr L_h9 (lo_f_X11_triedYards_47 h9 L_h9.1)
  refine Lq.xgf fun _ => ?_
  refine Lq.xgf fun _ => ?_
  exact Lq.tr L_h9 (lo_f_X11_triedYards_49 h9 L_h9.1)
theorem lo_f_X11_triedPapers_82 {n : Nat} {rec4 : Int → Int → MM → RR} {v0 : Int} {v1 : Int} {v2 : Int} {v3 : Int} (q_rec4 : ∀ (a0 a1 : Int) (h : MM), 100 ≤ nx h → Lq h (rec4 a0 a1 h)) (h : MM) (z : 100 ≤ nx h) : Lq h (f_X11_triedPapers_82 n rec4 v0 v1 v2 v3 h) := by
  have L_h := Lo.refl z
  delta f_X11_triedPapers_82
  refine Lq.xlb fun _ => ?_
  exact Lq.tr L_h (q_rec4 _ _ h L_h.1)
theorem lo_f_X11_triedPapers_79 {n : Nat} {rec4 : Int → Int → MM → RR} {v0 : Int} {v1 : Int} {v2 : Int} {v3 : Int} (q_rec4 : ∀ (a0 a1 : Int) (h : MM), 100 ≤ nx h → Lq h (rec4 a0 a1 h)) (h : MM) (z : 100 ≤ nx h) : Lq h (f_X11_triedPapers_79 n rec4 v0 v1 v2 v3 h) := by
  have L_h := Lo.refl z
  delta f_X11_triedPapers_79
  refine Lq.xlb fun _ => ?_
  exact Lq.tr L_h (lo_f_X11_triedPapers_82 q_rec4 h L_h.1)
theorem lo_f_X11_triedPapers_4b {n : Nat} {rec4 : Int → Int → MM → RR} {v0 : Int} {v1 : Int} {v2 : Int} {v3 : Int} (q_rec4 : ∀ (a0 a1 : Int) (h : MM), 100 ≤ nx h → Lq h (rec4 a0 a1 h)) (h : MM) (z : 100 ≤ nx h) : Lq h (f_X11_triedPapers_4b n rec4 v0 v1 v2 v3 h) := by
  have L_h := Lo.refl z
  delta f_X11_triedPapers_4b
  refine Lq.xgf fun _ => ?_
  refine Lq.xgf fun _ => ?_
  refine Lq.xgf fun _ => ?_
  refine Lq.ite ?_ ?_
  exact Lq.some L_h
  refine Lq.xgf fun _ => ?_
  refine Lq.xgf fun _ => ?_
  refine Lq.xgk ?_
  refine Lq.xbd L_h (lo_f_X5_find h L_h.1) fun _ h7 L_h7 => ?_
  refine Lq.ite ?_ ?_
  exact Lq.tr L_h7 (lo_f_X11_triedPapers_82 q_rec4 h7 L_h7.1)
  refine Lq.ite ?_ ?_
  refine Lq.xgf fun _ => ?_
  refine Lq.xgk ?_
  refine Lq.xbd L_h7 (lo_f_X10_isSound h7 L_h7.1) fun _ h16 L_h16 => ?_
  refine Lq.ite ?_ ?_
  exact Lq.tr L_h16 (lo_f_X11_triedPapers_82 q_rec4 h16 L_h16.1)
  exact Lq.tr L_h16 (lo_f_X11_triedPapers_79 q_rec4 h16 L_h16.1)
  refine Lq.xgf fun _ => ?_
  refine Lq.xgf fun _ => ?_
  refine Lq.xgf fun _ => ?_
  refine Lq.xgk ?_
  refine Lq.xbd L_h7 (lo_f_X10_canBeLet h7 L_h7.1) fun _ h13 L_h13 => ?_
  refine Lq.ite ?_ ?_
  exact Lq.tr L_h13 (lo_f_X11_triedPapers_82 q_rec4 h13 L_h13.1)
  exact Lq.tr L_h13 (lo_f_X11_triedPapers_79 q_rec4 h13 L_h13.1)
theorem lo_f_X11_triedPapers_4 {n : Nat} {v0 : Int} {v1 : Int} : ∀ (k : Nat) (v2 v3 : Int) (h : MM), 100 ≤ nx h → Lq h (f_X11_triedPapers_4 n v0 v1 k v2 v3 h)
  | 0, _, _, _, _ => Lq.none
  | k + 1, v2, v3, h, z => lo_f_X11_triedPapers_4b (fun b0 b1 h z => lo_f_X11_triedPapers_4 k b0 b1 h z) h z
theorem lo_f_X11_triedPapers {n : Nat} {v0 : Int} {v1 : Int} (h : MM) (z : 100 ≤ nx h) : Lq h (f_X11_triedPapers n v0 v1 h) := by
  have L_h := Lo.refl z
  delta f_X11_triedPapers
  exact Lq.tr L_h (lo_f_X11_triedPapers_4 _ _ _ h L_h.1)
theorem lo_f_X10_dropLatestOrder {n : Nat} {v0 : Int} (h : MM) (z : 100 ≤ nx h) : Lq h (f_X10_dropLatestOrder n v0 h) := by
  have L_h := Lo.refl z
  delta f_X10_dropLatestOrder
  refine Lq.xgf fun _ => ?_
  refine Lq.ite ?_ ?_
  exact Lq.some L_h
  refine Lq.xgf fun _ => ?_
  refine Lq.xpf L_h fun h4 L_h4 => ?_
  refine Lq.xgf fun _ => ?_
  refine Lq.xgf fun _ => ?_
  refine Lq.xwt L_h4 fun h7 L_h7 => ?_
  exact Lq.some L_h7
theorem lo_f_X11_tried_76 {n : Nat} {v0 : Int} {s0 : Int} (h : MM) (z : 100 ≤ nx h) : Lq h (f_X11_tried_76 n v0 s0 h) := by
  have L_h := Lo.refl z
  delta f_X11_tried_76
  refine Lq.xgf fun _ => ?_
  refine Lq.xgk ?_
  refine Lq.xbd L_h (lo_f_X10_dropLatestOrder h L_h.1) fun _ h2 L_h2 => ?_
  exact Lq.some L_h2
theorem lo_f_X11_tried_73 {n : Nat} {v0 : Int} {s0 : Int} {s1 : Int} (h : MM) (z : 100 ≤ nx h) : Lq h (f_X11_tried_73 n v0 s0 s1 h) := by
  have L_h := Lo.refl z
  delta f_X11_tried_73
  refine Lq.xgk ?_
  refine Lq.xbd L_h (lo_f_X11_triedPapers h L_h.1) fun _ h1 L_h1 => ?_
  exact Lq.tr L_h1 (lo_f_X11_tried_76 h1 L_h1.1)
theorem lo_f_X11_tried {n : Nat} {v0 : Int} {v1 : Int} (h : MM) (z : 100 ≤ nx h) : Lq h (f_X11_tried n v0 v1 h) := by
  have L_h := Lo.refl z
  delta f_X11_tried
  refine Lq.xbd L_h (lo_f_X11_within h L_h.1) fun _ h1 L_h1 => ?_
  refine Lq.ite ?_ ?_
  exact Lq.some L_h1
  refine Lq.xgf fun _ => ?_
  refine Lq.xgf fun _ => ?_
  refine Lq.xgf fun _ => ?_
  refine Lq.xgk ?_
  refine Lq.xbd L_h1 (lo_f_X10_takeTape h1 L_h1.1) fun _ h6 L_h6 => ?_
  refine Lq.xgk ?_
  refine Lq.xbd L_h6 (lo_f_X3_faultOf h6 L_h6.1) fun _ h7 L_h7 => ?_
  refine Lq.ite ?_ ?_
  refine Lq.xgf fun _ => ?_
  refine Lq.xgk ?_
  refine Lq.xbd L_h7 (lo_f_X10_enforce h7 L_h7.1) fun _ h10 L_h10 => ?_
  refine Lq.ite ?_ ?_
  refine Lq.xgk ?_
  refine Lq.xbd L_h10 (lo_f_X11_triedYards h10 L_h10.1) fun _ h13 L_h13 => ?_
  exact Lq.tr L_h13 (lo_f_X11_tried_76 h13 L_h13.1)
  refine Lq.ite ?_ ?_
  exact Lq.tr L_h10 (lo_f_X11_tried_73 h10 L_h10.1)
  exact Lq.tr L_h10 (lo_f_X11_tried_73 h10 L_h10.1)
  exact Lq.some L_h7
theorem lo_f_X11_known_32 {n : Nat} (h : MM) (z : 100 ≤ nx h) : Lq h (f_X11_known_32 n h) := by
  have L_h := Lo.refl z
  delta f_X11_known_32
  exact Lq.some L_h
theorem lo_f_X11_known_52 {n : Nat} {s0 : Int} (h : MM) (z : 100 ≤ nx h) : Lq h (f_X11_known_52 n s0 h) := by
  have L_h := Lo.refl z
  delta f_X11_known_52
  exact Lq.some L_h
theorem lo_f_X11_known {n : Nat} {v0 : Int} {v1 : Int} {v2 : Int} (h : MM) (z : 100 ≤ nx h) : Lq h (f_X11_known n v0 v1 v2 h) := by
  have L_h := Lo.refl z
  delta f_X11_known
  refine Lq.xgf fun _ => ?_
  refine Lq.xgf fun _ => ?_
  refine Lq.xgk ?_
  refine Lq.xbd L_h (lo_f_X5_get h L_h.1) fun _ h3 L_h3 => ?_
  refine Lq.ite ?_ ?_
  exact Lq.tr L_h3 (lo_f_X11_known_32 h3 L_h3.1)
  refine Lq.xgf fun _ => ?_
  refine Lq.xgf fun _ => ?_
  refine Lq.xbd L_h3 (lo_f_X11_within h3 L_h3.1) fun _ h7 L_h7 => ?_
  refine Lq.ite ?_ ?_
  exact Lq.tr L_h7 (lo_f_X11_known_32 h7 L_h7.1)
  refine Lq.xgf fun _ => ?_
  refine Lq.xrd fun _ => ?_
  refine Lq.ite ?_ ?_
  exact Lq.tr L_h7 (lo_f_X11_known_52 h7 L_h7.1)
  refine Lq.xrd fun _ => ?_
  exact Lq.tr L_h7 (lo_f_X11_known_52 h7 L_h7.1)
theorem lo_f_X1_become {n : Nat} {v0 : Int} {v1 : Int} (h : MM) (z : 100 ≤ nx h) : Lq h (f_X1_become n v0 v1 h) := by
  have L_h := Lo.refl z
  delta f_X1_become
  refine Lq.xgf fun _ => ?_
  refine Lq.xgf fun _ => ?_
  refine Lq.xac L_h fun h3 L_h3 => ?_
  refine Lq.xgf fun _ => ?_
  refine Lq.xgf fun _ => ?_
  refine Lq.xac L_h3 fun h6 L_h6 => ?_
  refine Lq.xgf fun _ => ?_
  refine Lq.xgf fun _ => ?_
  refine Lq.xac L_h6 fun h9 L_h9 => ?_
  refine Lq.xgf fun _ => ?_
  refine Lq.xgf fun _ => ?_
  refine Lq.xac L_h9 fun h12 L_h12 => ?_
  refine Lq.xgf fun _ => ?_
  refine Lq.xgf fun _ => ?_
  refine Lq.xac L_h12 fun h15 L_h15 => ?_
  refine Lq.xgf fun _ => ?_
  refine Lq.xpf L_h15 fun h17 L_h17 => ?_
  exact Lq.some L_h17
theorem lo_f_X5_become_2b {n : Nat} {rec2 : Int → MM → RR} {v0 : Int} {v1 : Int} {v2 : Int} (q_rec2 : ∀ (a0 : Int) (h : MM), 100 ≤ nx h → Lq h (rec2 a0 h)) (h : MM) (z : 100 ≤ nx h) : Lq h (f_X5_become_2b n rec2 v0 v1 v2 h) := by
  have L_h := Lo.refl z
  delta f_X5_become_2b
  refine Lq.ite ?_ ?_
  refine Lq.xgf fun _ => ?_
  refine Lq.xgf fun _ => ?_
  refine Lq.xac L_h fun h4 L_h4 => ?_
  refine Lq.xgf fun _ => ?_
  refine Lq.xgf fun _ => ?_
  refine Lq.xac L_h4 fun h7 L_h7 => ?_
  refine Lq.xgf fun _ => ?_
  refine Lq.xgf fun _ => ?_
  refine Lq.xac L_h7 fun h10 L_h10 => ?_
  refine Lq.xgf fun _ => ?_
  refine Lq.xgf fun _ => ?_
  refine Lq.xac L_h10 fun h13 L_h13 => ?_
  refine Lq.xgf fun _ => ?_
  refine Lq.xgf fun _ => ?_
  refine Lq.xac L_h13 fun h16 L_h16 => ?_
  refine Lq.xgf fun _ => ?_
  refine Lq.xpf L_h16 fun h18 L_h18 => ?_
  refine Lq.xgf fun _ => ?_
  refine Lq.xpf L_h18 fun h20 L_h20 => ?_
  refine Lq.xgf fun _ => ?_
  refine Lq.xpf L_h20 fun h22 L_h22 => ?_
  refine Lq.xgf fun _ => ?_
  refine Lq.xpf L_h22 fun h24 L_h24 => ?_
  exact Lq.some L_h24
  refine Lq.xgf fun _ => ?_
  refine Lq.xgf fun _ => ?_
  refine Lq.xrd fun _ => ?_
  refine Lq.xgkz ?_
  refine Lq.xwt L_h fun h28 L_h28 => ?_
  refine Lq.xlb fun _ => ?_
  exact Lq.tr L_h28 (q_rec2 _ h28 L_h28.1)
theorem lo_f_X5_become_2 {n : Nat} {v0 : Int} {v1 : Int} : ∀ (k : Nat) (v2 : Int) (h : MM), 100 ≤ nx h → Lq h (f_X5_become_2 n v0 v1 k v2 h)
  | 0, _, _, _ => Lq.none
  | k + 1, v2, h, z => lo_f_X5_become_2b (fun b0 h z => lo_f_X5_become_2 k b0 h z) h z
theorem lo_f_X5_become {n : Nat} {v0 : Int} {v1 : Int} (h : MM) (z : 100 ≤ nx h) : Lq h (f_X5_become n v0 v1 h) := by
  have L_h := Lo.refl z
  delta f_X5_become
  exact Lq.tr L_h (lo_f_X5_become_2 _ _ h L_h.1)
theorem lo_f_X8_become {n : Nat} {v0 : Int} {v1 : Int} (h : MM) (z : 100 ≤ nx h) : Lq h (f_X8_become n v0 v1 h) := by
  have L_h := Lo.refl z
  delta f_X8_become
  refine Lq.xgf fun _ => ?_
  refine Lq.xgf fun _ => ?_
  refine Lq.xgf fun _ => ?_
  refine Lq.xal fun _ => ?_
  refine Lq.xac L_h fun h5 L_h5 => ?_
  refine Lq.xgf fun _ => ?_
  refine Lq.xgf fun _ => ?_
  refine Lq.xgf fun _ => ?_
  refine Lq.xal fun _ => ?_
  refine Lq.xac L_h5 fun h10 L_h10 => ?_
  refine Lq.xgf fun _ => ?_
  refine Lq.xgf fun _ => ?_
  refine Lq.xac L_h10 fun h13 L_h13 => ?_
  refine Lq.xgf fun _ => ?_
  refine Lq.xgf fun _ => ?_
  refine Lq.xac L_h13 fun h16 L_h16 => ?_
  refine Lq.xgf fun _ => ?_
  refine Lq.xgf fun _ => ?_
  refine Lq.xac L_h16 fun h19 L_h19 => ?_
  refine Lq.xgf fun _ => ?_
  refine Lq.xgf fun _ => ?_
  refine Lq.xac L_h19 fun h22 L_h22 => ?_
  refine Lq.xgf fun _ => ?_
  refine Lq.xgf fun _ => ?_
  refine Lq.xac L_h22 fun h25 L_h25 => ?_
  refine Lq.xgf fun _ => ?_
  refine Lq.xgf fun _ => ?_
  refine Lq.xac L_h25 fun h28 L_h28 => ?_
  refine Lq.xgf fun _ => ?_
  refine Lq.xpf L_h28 fun h30 L_h30 => ?_
  exact Lq.some L_h30
theorem lo_f_X6_become {n : Nat} {v0 : Int} {v1 : Int} (h : MM) (z : 100 ≤ nx h) : Lq h (f_X6_become n v0 v1 h) := by
  have L_h := Lo.refl z
  delta f_X6_become
  refine Lq.xgf fun _ => ?_
  refine Lq.xgf fun _ => ?_
  refine Lq.xac L_h fun h3 L_h3 => ?_
  refine Lq.xgf fun _ => ?_
  refine Lq.xgf fun _ => ?_
  refine Lq.xac L_h3 fun h6 L_h6 => ?_
  refine Lq.xgf fun _ => ?_
  refine Lq.xpf L_h6 fun h8 L_h8 => ?_
  exact Lq.some L_h8
theorem lo_f_X9_become {n : Nat} {v0 : Int} {v1 : Int} (h : MM) (z : 100 ≤ nx h) : Lq h (f_X9_become n v0 v1 h) := by
  have L_h := Lo.refl z
  delta f_X9_become
  refine Lq.xgf fun _ => ?_
  refine Lq.xgf fun _ => ?_
  refine Lq.xac L_h fun h3 L_h3 => ?_
  refine Lq.xgf fun _ => ?_
  refine Lq.xpf L_h3 fun h5 L_h5 => ?_
  refine Lq.xgf fun _ => ?_
  refine Lq.xpf L_h5 fun h7 L_h7 => ?_
  exact Lq.some L_h7
theorem lo_f_X10_become_90b {n : Nat} {rec90 : Int → MM → RR} {v0 : Int} {v1 : Int} {v2 : Int} (q_rec90 : ∀ (a0 : Int) (h : MM), 100 ≤ nx h → Lq h (rec90 a0 h)) (h : MM) (z : 100 ≤ nx h) : Lq h (f_X10_become_90b n rec90 v0 v1 v2 h) := by
  have L_h := Lo.refl z
  delta f_X10_become_90b
  refine Lq.xgf fun _ => ?_
  refine Lq.xal fun _ => ?_
  refine Lq.ite ?_ ?_
  refine Lq.xgf fun _ => ?_
  refine Lq.xpf L_h fun h5 L_h5 => ?_
  refine Lq.xgf fun _ => ?_
  refine Lq.xpf L_h5 fun h7 L_h7 => ?_
  refine Lq.xgf fun _ => ?_
  refine Lq.xpf L_h7 fun h9 L_h9 => ?_
  refine Lq.xgf fun _ => ?_
  refine Lq.xpf L_h9 fun h11 L_h11 => ?_
  exact Lq.some L_h11
  refine Lq.xgf fun _ => ?_
  refine Lq.xgf fun _ => ?_
  refine Lq.xrd fun _ => ?_
  refine Lq.xgkz ?_
  refine Lq.xwt L_h fun h15 L_h15 => ?_
  refine Lq.xlb fun _ => ?_
  exact Lq.tr L_h15 (q_rec90 _ h15 L_h15.1)
theorem lo_f_X10_become_90 {n : Nat} {v0 : Int} {v1 : Int} : ∀ (k : Nat) (v2 : Int) (h : MM), 100 ≤ nx h → Lq h (f_X10_become_90 n v0 v1 k v2 h)
  | 0, _, _, _ => Lq.none
  | k + 1, v2, h, z => lo_f_X10_become_90b (fun b0 h z => lo_f_X10_become_90 k b0 h z) h z
theorem lo_f_X10_become_46b {n : Nat} {rec46 : Int → MM → RR} {v0 : Int} {v1 : Int} {v2 : Int} (q_rec46 : ∀ (a0 : Int) (h : MM), 100 ≤ nx h → Lq h (rec46 a0 h)) (h : MM) (z : 100 ≤ nx h) : Lq h (f_X10_become_46b n rec46 v0 v1 v2 h) := by
  have L_h := Lo.refl z
  delta f_X10_become_46b
  refine Lq.ite ?_ ?_
  refine Lq.xgf fun _ => ?_
  refine Lq.xgf fun _ => ?_
  refine Lq.xac L_h fun h4 L_h4 => ?_
  exact Lq.tr L_h4 (lo_f_X10_become_90 _ _ h4 L_h4.1)
  refine Lq.xgf fun _ => ?_
  refine Lq.xrd fun _ => ?_
  refine Lq.xgf fun _ => ?_
  refine Lq.xrd fun _ => ?_
  refine Lq.xgk ?_
  refine Lq.xbd L_h (lo_f_X9_become h L_h.1) fun _ h9 L_h9 => ?_
  refine Lq.xlb fun _ => ?_
  exact Lq.tr L_h9 (q_rec46 _ h9 L_h9.1)
theorem lo_f_X10_become_46 {n : Nat} {v0 : Int} {v1 : Int} : ∀ (k : Nat) (v2 : Int) (h : MM), 100 ≤ nx h → Lq h (f_X10_become_46 n v0 v1 k v2 h)
  | 0, _, _, _ => Lq.none
  | k + 1, v2, h, z => lo_f_X10_become_46b (fun b0 h z => lo_f_X10_become_46 k b0 h z) h z
theorem lo_f_X10_become {n : Nat} {v0 : Int} {v1 : Int} (h : MM) (z : 100 ≤ nx h) : Lq h (f_X10_become n v0 v1 h) := by
  have L_h := Lo.refl z
  delta f_X10_become
  refine Lq.xgf fun _ => ?_
  refine Lq.xgf fun _ => ?_
  refine Lq.xgk ?_
  refine Lq.xbd L_h (lo_f_X1_become h L_h.1) fun _ h3 L_h3 => ?_
  refine Lq.xgf fun _ => ?_
  refine Lq.xgf fun _ => ?_
  refine Lq.xgk ?_
  refine Lq.xbd L_h3 (lo_f_X5_become h3 L_h3.1) fun _ h6 L_h6 => ?_
  refine Lq.xgf fun _ => ?_
  refine Lq.xgf fun _ => ?_
  refine Lq.xgk ?_
  refine Lq.xbd L_h6 (lo_f_X8_become h6 L_h6.1) fun _ h9 L_h9 => ?_
  refine Lq.xgf fun _ => ?_
  refine Lq.xgf fun _ => ?_
  refine Lq.xgk ?_
  refine Lq.xbd L_h9 (lo_f_X6_become h9 L_h9.1) fun _ h12 L_h12 => ?_
  exact Lq.tr L_h12 (lo_f_X10_become_46 _ _ h12 L_h12.1)
theorem lo_f_X11_image {n : Nat} {v0 : Int} (h : MM) (z : 100 ≤ nx h) : Lq h (f_X11_image n v0 h) := by
  have L_h := Lo.refl z
  delta f_X11_image
  refine Lq.xgf fun _ => ?_
  refine Lq.xgf fun _ => ?_
  refine Lq.xgk ?_
  refine Lq.xbd L_h (lo_f_X10_become h L_h.1) fun _ h3 L_h3 => ?_
  refine Lq.xck ?_
  refine Lq.xpf L_h3 fun h4 L_h4 => ?_
  refine Lq.xgf fun _ => ?_
  refine Lq.xgf fun _ => ?_
  exact Lq.some L_h4
theorem lo_f_X11_undo {n : Nat} {v0 : Int} (h : MM) (z : 100 ≤ nx h) : Lq h (f_X11_undo n v0 h) := by
  have L_h := Lo.refl z
  delta f_X11_undo
  refine Lq.xgf fun _ => ?_
  refine Lq.ite ?_ ?_
  exact Lq.some L_h
  refine Lq.xgf fun _ => ?_
  refine Lq.xgf fun _ => ?_
  refine Lq.xgk ?_
  refine Lq.xbd L_h (lo_f_X10_become h L_h.1) fun _ h5 L_h5 => ?_
  refine Lq.xgf fun _ => ?_
  refine Lq.xgf fun _ => ?_
  exact Lq.some L_h5
theorem lo_f_X5_finished_26 {n : Nat} {rec4 : Int → Int → MM → RR} {v0 : Int} {v1 : Int} {v2 : Int} (q_rec4 : ∀ (a0 a1 : Int) (h : MM), 100 ≤ nx h → Lq h (rec4 a0 a1 h)) (h : MM) (z : 100 ≤ nx h) : Lq h (f_X5_finished_26 n rec4 v0 v1 v2 h) := by
  have L_h := Lo.refl z
  delta f_X5_finished_26
  refine Lq.xlb fun _ => ?_
  exact Lq.tr L_h (q_rec4 _ _ h L_h.1)
theorem lo_f_X5_finished_4b {n : Nat} {rec4 : Int → Int → MM → RR} {v0 : Int} {v1 : Int} {v2 : Int} (q_rec4 : ∀ (a0 a1 : Int) (h : MM), 100 ≤ nx h → Lq h (rec4 a0 a1 h)) (h : MM) (z : 100 ≤ nx h) : Lq h (f_X5_finished_4b n rec4 v0 v1 v2 h) := by
  have L_h := Lo.refl z
  delta f_X5_finished_4b
  refine Lq.xgf fun _ => ?_
  refine Lq.ite ?_ ?_
  exact Lq.some L_h
  refine Lq.xgf fun _ => ?_
  refine Lq.xrd fun _ => ?_
  refine Lq.ite ?_ ?_
  exact Lq.tr L_h (lo_f_X5_finished_26 q_rec4 h L_h.1)
  refine Lq.xlb fun _ => ?_
  exact Lq.tr L_h (lo_f_X5_finished_26 q_rec4 h L_h.1)
theorem lo_f_X5_finished_4 {n : Nat} {v0 : Int} : ∀ (k : Nat) (v1 v2 : Int) (h : MM), 100 ≤ nx h → Lq h (f_X5_finished_4 n v0 k v1 v2 h)
  | 0, _, _, _, _ => Lq.none
  | k + 1, v1, v2, h, z => lo_f_X5_finished_4b (fun b0 b1 h z => lo_f_X5_finished_4 k b0 b1 h z) h z
theorem lo_f_X5_finished {n : Nat} {v0 : Int} (h : MM) (z : 100 ≤ nx h) : Lq h (f_X5_finished n v0 h) := by
  have L_h := Lo.refl z
  delta f_X5_finished
  exact Lq.tr L_h (lo_f_X5_finished_4 _ _ _ h L_h.1)
theorem lo_f_X11_count {n : Nat} {v0 : Int} {v1 : Int} (h : MM) (z : 100 ≤ nx h) : Lq h (f_X11_count n v0 v1 h) := by
  have L_h := Lo.refl z
  delta f_X11_count
  refine Lq.ite ?_ ?_
  refine Lq.xgf fun _ => ?_
  refine Lq.xgf fun _ => ?_
  refine Lq.xgf fun _ => ?_
  exact Lq.some L_h
  refine Lq.ite ?_ ?_
  refine Lq.xgf fun _ => ?_
  refine Lq.xgf fun _ => ?_
  refine Lq.xgf fun _ => ?_
  exact Lq.some L_h
  refine Lq.ite ?_ ?_
  refine Lq.xgf fun _ => ?_
  refine Lq.xgf fun _ => ?_
  exact Lq.some L_h
  refine Lq.ite ?_ ?_
  refine Lq.xgf fun _ => ?_
  refine Lq.xgf fun _ => ?_
  exact Lq.some L_h
  refine Lq.ite ?_ ?_
  refine Lq.xgf fun _ => ?_
  refine Lq.xgf fun _ => ?_
  exact Lq.some L_h
  refine Lq.ite ?_ ?_
  refine Lq.xgf fun _ => ?_
  refine Lq.xgf fun _ => ?_
  exact Lq.some L_h
  refine Lq.ite ?_ ?_
  refine Lq.xgf fun _ => ?_
  refine Lq.xgf fun _ => ?_
  refine Lq.xgk ?_
  refine Lq.xbd L_h (lo_f_X5_granted h L_h.1) fun _ h24 L_h24 => ?_
  exact Lq.some L_h24
  refine Lq.ite ?_ ?_
  refine Lq.xgf fun _ => ?_
  refine Lq.xgf fun _ => ?_
  refine Lq.xgk ?_
  refine Lq.xbd L_h (lo_f_X5_finished h L_h.1) fun _ h28 L_h28 => ?_
  exact Lq.some L_h28
  refine Lq.ite ?_ ?_
  refine Lq.xgf fun _ => ?_
  refine Lq.xgf fun _ => ?_
  refine Lq.xgf fun _ => ?_
  exact Lq.some L_h
  refine Lq.ite ?_ ?_
  refine Lq.xgf fun _ => ?_
  refine Lq.xgf fun _ => ?_
  refine Lq.xgf fun _ => ?_
  exact Lq.some L_h
  refine Lq.ite ?_ ?_
  refine Lq.xgf fun _ => ?_
  refine Lq.xgf fun _ => ?_
  refine Lq.xgf fun _ => ?_
  exact Lq.some L_h
  exact Lq.some L_h
theorem lo_f_X9_clear {n : Nat} {v0 : Int} {v1 : Int} {v2 : Int} (h : MM) (z : 100 ≤ nx h) : Lq h (f_X9_clear n v0 v1 v2 h) := by
  have L_h := Lo.refl z
  delta f_X9_clear
  refine Lq.xgf fun _ => ?_
  refine Lq.xbd L_h (lo_f_J7_fill_53178 h L_h.1) fun _ h2 L_h2 => ?_
  refine Lq.xpf L_h2 fun h3 L_h3 => ?_
  refine Lq.xpf L_h3 fun h4 L_h4 => ?_
  exact Lq.some L_h4
theorem lo_f_X11_sheet_30 {n : Nat} (h : MM) (z : 100 ≤ nx h) : Lq h (f_X11_sheet_30 n h) := by
  have L_h := Lo.refl z
  delta f_X11_sheet_30
  exact Lq.some L_h
theorem lo_f_X11_sheet_65 {n : Nat} {s0 : Int} {s1 : Int} {s2 : Int} (h : MM) (z : 100 ≤ nx h) : Lq h (f_X11_sheet_65 n s0 s1 s2 h) := by
  have L_h := Lo.refl z
  delta f_X11_sheet_65
  refine Lq.xgk ?_
  refine Lq.xbd L_h (lo_f_X9_clear h L_h.1) fun _ h1 L_h1 => ?_
  exact Lq.some L_h1
theorem lo_f_X11_sheet_45 {n : Nat} {v0 : Int} {v1 : Int} {v2 : Int} {v3 : Int} (h : MM) (z : 100 ≤ nx h) : Lq h (f_X11_sheet_45 n v0 v1 v2 v3 h) := by
  have L_h := Lo.refl z
  delta f_X11_sheet_45
  refine Lq.xgf fun _ => ?_
  refine Lq.xgf fun _ => ?_
  refine Lq.xrd fun _ => ?_
  refine Lq.ite ?_ ?_
  exact Lq.tr L_h (lo_f_X11_sheet_65 h L_h.1)
  exact Lq.tr L_h (lo_f_X11_sheet_65 h L_h.1)
theorem lo_f_X11_sheet_33 {n : Nat} {v0 : Int} {v1 : Int} {v2 : Int} {v3 : Int} (h : MM) (z : 100 ≤ nx h) : Lq h (f_X11_sheet_33 n v0 v1 v2 v3 h) := by
  have L_h := Lo.refl z
  delta f_X11_sheet_33
  refine Lq.ite ?_ ?_
  exact Lq.tr L_h (lo_f_X11_sheet_45 h L_h.1)
  refine Lq.ite ?_ ?_
  exact Lq.tr L_h (lo_f_X11_sheet_45 h L_h.1)
  exact Lq.some L_h
theorem lo_f_X11_sheet {n : Nat} {v0 : Int} {v1 : Int} {v2 : Int} {v3 : Int} (h : MM) (z : 100 ≤ nx h) : Lq h (f_X11_sheet n v0 v1 v2 v3 h) := by
  have L_h := Lo.refl z
  delta f_X11_sheet
  refine Lq.xbd L_h (lo_f_X11_isSheet h L_h.1) fun _ h1 L_h1 => ?_
  refine Lq.ite ?_ ?_
  exact Lq.some L_h1
  refine Lq.xbd L_h1 (lo_f_X11_within h1 L_h1.1) fun _ h3 L_h3 => ?_
  refine Lq.ite ?_ ?_
  exact Lq.tr L_h3 (lo_f_X11_sheet_30 h3 L_h3.1)
  refine Lq.ite ?_ ?_
  exact Lq.tr L_h3 (lo_f_X11_sheet_33 h3 L_h3.1)
  refine Lq.ite ?_ ?_
  exact Lq.tr L_h3 (lo_f_X11_sheet_33 h3 L_h3.1)
  exact Lq.tr L_h3 (lo_f_X11_sheet_30 h3 L_h3.1)
theorem lo_f_X9_put_31 {n : Nat} {s0 : Int} {s1 : Int} {s2 : Int} (h : MM) (z : 100 ≤ nx h) : Lq h (f_X9_put_31 n s0 s1 s2 h) := by
  have L_h := Lo.refl z
  delta f_X9_put_31
  refine Lq.xwt L_h fun h1 L_h1 => ?_
  exact Lq.some L_h1
theorem lo_f_X9_put {n : Nat} {v0 : Int} {v1 : Int} {v2 : Int} (h : MM) (z : 100 ≤ nx h) : Lq h (f_X9_put n v0 v1 v2 h) := by
  have L_h := Lo.refl z
  delta f_X9_put
  refine Lq.xgf fun _ => ?_
  refine Lq.xgf fun _ => ?_
  refine Lq.ite ?_ ?_
  exact Lq.tr L_h (lo_f_X9_put_31 h L_h.1)
  refine Lq.xgf fun _ => ?_
  refine Lq.ite ?_ ?_
  exact Lq.tr L_h (lo_f_X9_put_31 h L_h.1)
  exact Lq.tr L_h (lo_f_X9_put_31 h L_h.1)
theorem lo_f_X11_item {n : Nat} {v0 : Int} {v1 : Int} {v2 : Int} {v3 : Int} (h : MM) (z : 100 ≤ nx h) : Lq h (f_X11_item n v0 v1 v2 v3 h) := by
  have L_h := Lo.refl z
  delta f_X11_item
  refine Lq.xbd L_h (lo_f_X11_isSheet h L_h.1) fun _ h1 L_h1 => ?_
  refine Lq.ite ?_ ?_
  exact Lq.some L_h1
  refine Lq.xgf fun _ => ?_
  refine Lq.xgf fun _ => ?_
  refine Lq.xrd fun _ => ?_
  refine Lq.xgf fun _ => ?_
  refine Lq.ite ?_ ?_
  exact Lq.some L_h1
  refine Lq.xgf fun _ => ?_
  refine Lq.xbd L_h1 (lo_f_X11_within h1 L_h1.1) fun _ h9 L_h9 => ?_
  refine Lq.ite ?_ ?_
  exact Lq.some L_h9
  refine Lq.xgk ?_
  refine Lq.xbd L_h9 (lo_f_X9_put h9 L_h9.1) fun _ h11 L_h11 => ?_
  exact Lq.some L_h11
theorem lo_f_X9_has_31 {n : Nat} {s0 : Int} (h : MM) (z : 100 ≤ nx h) : Lq h (f_X9_has_31 n s0 h) := by
  have L_h := Lo.refl z
  delta f_X9_has_31
  refine Lq.xck ?_
  exact Lq.some L_h
theorem lo_f_X9_has_30 {n : Nat} (h : MM) (z : 100 ≤ nx h) : Lq h (f_X9_has_30 n h) := by
  have L_h := Lo.refl z
  delta f_X9_has_30
  exact Lq.tr L_h (lo_f_X9_has_31 h L_h.1)
theorem lo_f_X9_has {n : Nat} {v0 : Int} {v1 : Int} {v2 : Int} (h : MM) (z : 100 ≤ nx h) : Lq h (f_X9_has n v0 v1 v2 h) := by
  have L_h := Lo.refl z
  delta f_X9_has
  refine Lq.ite ?_ ?_
  exact Lq.tr L_h (lo_f_X9_has_30 h L_h.1)
  refine Lq.ite ?_ ?_
  exact Lq.tr L_h (lo_f_X9_has_30 h L_h.1)
  refine Lq.xgf fun _ => ?_
  refine Lq.ite ?_ ?_
  exact Lq.tr L_h (lo_f_X9_has_30 h L_h.1)
  refine Lq.xgf fun _ => ?_
  refine Lq.ite ?_ ?_
  exact Lq.tr L_h (lo_f_X9_has_30 h L_h.1)
  exact Lq.tr L_h (lo_f_X9_has_31 h L_h.1)
theorem lo_f_X11_copy_14 {n : Nat} (h : MM) (z : 100 ≤ nx h) : Lq h (f_X11_copy_14 n h) := by
  have L_h := Lo.refl z
  delta f_X11_copy_14
  exact Lq.some L_h
theorem lo_f_X11_copy_56 {n : Nat} (h : MM) (z : 100 ≤ nx h) : Lq h (f_X11_copy_56 n h) := by
  have L_h := Lo.refl z
  delta f_X11_copy_56
  exact Lq.some L_h
theorem lo_f_X11_copy_98 {n : Nat} (h : MM) (z : 100 ≤ nx h) : Lq h (f_X11_copy_98 n h) := by
  have L_h := Lo.refl z
  delta f_X11_copy_98
  exact Lq.some L_h
theorem lo_f_X11_copy {n : Nat} {v0 : Int} {v1 : Int} {v2 : Int} {v3 : Int} {v4 : Int} {v5 : Int} (h : MM) (z : 100 ≤ nx h) : Lq h (f_X11_copy n v0 v1 v2 v3 v4 v5 h) := by
  have L_h := Lo.refl z
  delta f_X11_copy
  refine Lq.xbd L_h (lo_f_X11_isSheet h L_h.1) fun _ h1 L_h1 => ?_
  refine Lq.ite ?_ ?_
  exact Lq.tr L_h1 (lo_f_X11_copy_14 h1 L_h1.1)
  refine Lq.xbd L_h1 (lo_f_X11_isSheet h1 L_h1.1) fun _ h3 L_h3 => ?_
  refine Lq.ite ?_ ?_
  exact Lq.tr L_h3 (lo_f_X11_copy_14 h3 L_h3.1)
  refine Lq.xgf fun _ => ?_
  refine Lq.xgf fun _ => ?_
  refine Lq.xrd fun _ => ?_
  refine Lq.xgf fun _ => ?_
  refine Lq.xgf fun _ => ?_
  refine Lq.xrd fun _ => ?_
  refine Lq.xgf fun _ => ?_
  refine Lq.ite ?_ ?_
  exact Lq.tr L_h3 (lo_f_X11_copy_56 h3 L_h3.1)
  refine Lq.xgf fun _ => ?_
  refine Lq.ite ?_ ?_
  exact Lq.tr L_h3 (lo_f_X11_copy_56 h3 L_h3.1)
  refine Lq.xgf fun _ => ?_
  refine Lq.xgf fun _ => ?_
  refine Lq.ite ?_ ?_
  refine Lq.xgk ?_
  refine Lq.xbd L_h3 (lo_f_X9_has h3 L_h3.1) fun _ h18 L_h18 => ?_
  refine Lq.ite ?_ ?_
  exact Lq.tr L_h18 (lo_f_X11_copy_98 h18 L_h18.1)
  refine Lq.xgk ?_
  refine Lq.xbd L_h18 (lo_f_X9_has h18 L_h18.1) fun _ h20 L_h20 => ?_
  refine Lq.ite ?_ ?_
  exact Lq.tr L_h20 (lo_f_X11_copy_98 h20 L_h20.1)
  refine Lq.xgf fun _ => ?_
  refine Lq.xgf fun _ => ?_
  refine Lq.xac L_h20 fun h24 L_h24 => ?_
  exact Lq.some L_h24
  exact Lq.some L_h3
theorem lo_f_X12_in_15 {n : Nat} {s0 : Int} (h : MM) (z : 100 ≤ nx h) : Lq h (f_X12_in_15 n s0 h) := by
  have L_h := Lo.refl z
  delta f_X12_in_15
  refine Lq.xck ?_
  exact Lq.some L_h
theorem lo_f_X12_in_14 {n : Nat} (h : MM) (z : 100 ≤ nx h) : Lq h (f_X12_in_14 n h) := by
  have L_h := Lo.refl z
  delta f_X12_in_14
  exact Lq.tr L_h (lo_f_X12_in_15 h L_h.1)
theorem lo_f_X12_in {n : Nat} {v0 : Int} {v1 : Int} {v2 : Int} (h : MM) (z : 100 ≤ nx h) : Lq h (f_X12_in n v0 v1 v2 h) := by
  have L_h := Lo.refl z
  delta f_X12_in
  refine Lq.ite ?_ ?_
  exact Lq.tr L_h (lo_f_X12_in_14 h L_h.1)
  refine Lq.ite ?_ ?_
  exact Lq.tr L_h (lo_f_X12_in_14 h L_h.1)
  exact Lq.tr L_h (lo_f_X12_in_15 h L_h.1)
theorem lo_f_X12_isCell {n : Nat} {v0 : Int} (h : MM) (z : 100 ≤ nx h) : Lq h (f_X12_isCell n v0 h) := by
  have L_h := Lo.refl z
  delta f_X12_isCell
  refine Lq.xbd L_h (lo_f_X12_in h L_h.1) fun _ h1 L_h1 => ?_
  refine Lq.xck ?_
  exact Lq.some L_h1
theorem lo_f_X12_land_16 {n : Nat} (h : MM) (z : 100 ≤ nx h) : Lq h (f_X12_land_16 n h) := by
  have L_h := Lo.refl z
  delta f_X12_land_16
  exact Lq.some L_h
theorem lo_f_X12_land_54 {n : Nat} {v0 : Int} {v3 : Int} {s0 : Int} (h : MM) (z : 100 ≤ nx h) : Lq h (f_X12_land_54 n v0 v3 s0 h) := by
  have L_h := Lo.refl z
  delta f_X12_land_54
  refine Lq.xgf fun _ => ?_
  refine Lq.xrd fun _ => ?_
  refine Lq.xgf fun _ => ?_
  refine Lq.xwt L_h fun h4 L_h4 => ?_
  exact Lq.some L_h4
theorem lo_f_X12_land_30 {n : Nat} {v0 : Int} {v1 : Int} {v2 : Int} {v3 : Int} {s0 : Int} {s1 : Int} {s2 : Int} (h : MM) (z : 100 ≤ nx h) : Lq h (f_X12_land_30 n v0 v1 v2 v3 s0 s1 s2 h) := by
  have L_h := Lo.refl z
  delta f_X12_land_30
  refine Lq.xbd L_h (lo_f_X12_in h L_h.1) fun _ h1 L_h1 => ?_
  refine Lq.ite ?_ ?_
  exact Lq.some L_h1
  refine Lq.ite ?_ ?_
  exact Lq.tr L_h1 (lo_f_X12_land_54 h1 L_h1.1)
  exact Lq.tr L_h1 (lo_f_X12_land_54 h1 L_h1.1)
theorem lo_f_X12_land {n : Nat} {v0 : Int} {v1 : Int} {v2 : Int} {v3 : Int} (h : MM) (z : 100 ≤ nx h) : Lq h (f_X12_land n v0 v1 v2 v3 h) := by
  have L_h := Lo.refl z
  delta f_X12_land
  refine Lq.xbd L_h (lo_f_X12_isCell h L_h.1) fun _ h1 L_h1 => ?_
  refine Lq.ite ?_ ?_
  exact Lq.tr L_h1 (lo_f_X12_land_16 h1 L_h1.1)
  refine Lq.xbd L_h1 (lo_f_X12_in h1 L_h1.1) fun _ h3 L_h3 => ?_
  refine Lq.ite ?_ ?_
  exact Lq.tr L_h3 (lo_f_X12_land_16 h3 L_h3.1)
  refine Lq.ite ?_ ?_
  exact Lq.tr L_h3 (lo_f_X12_land_30 h3 L_h3.1)
  exact Lq.tr L_h3 (lo_f_X12_land_30 h3 L_h3.1)
theorem lo_f_X12_town_24b {n : Nat} {rec24 : Int → MM → RR} {v0 : Int} {v1 : Int} {v2 : Int} {v3 : Int} (q_rec24 : ∀ (a0 : Int) (h : MM), 100 ≤ nx h → Lq h (rec24 a0 h)) (h : MM) (z : 100 ≤ nx h) : Lq h (f_X12_town_24b n rec24 v0 v1 v2 v3 h) := by
  have L_h := Lo.refl z
  delta f_X12_town_24b
  refine Lq.xgf fun _ => ?_
  refine Lq.xrd fun _ => ?_
  refine Lq.ite ?_ ?_
  refine Lq.xgf fun _ => ?_
  refine Lq.xrd fun _ => ?_
  refine Lq.ite ?_ ?_
  exact Lq.some L_h
  refine Lq.xgf fun _ => ?_
  refine Lq.xgf fun _ => ?_
  refine Lq.xrd fun _ => ?_
  refine Lq.xwt L_h fun h10 L_h10 => ?_
  refine Lq.xgf fun _ => ?_
  refine Lq.xgf fun _ => ?_
  refine Lq.xrd fun _ => ?_
  refine Lq.xwt L_h10 fun h14 L_h14 => ?_
  refine Lq.xgf fun _ => ?_
  refine Lq.xrd fun _ => ?_
  refine Lq.xwt L_h14 fun h17 L_h17 => ?_
  refine Lq.xgf fun _ => ?_
  refine Lq.xrd fun _ => ?_
  exact Lq.some L_h17
  refine Lq.xgf fun _ => ?_
  refine Lq.xrd fun _ => ?_
  refine Lq.ite ?_ ?_
  exact Lq.some L_h
  refine Lq.xlb fun _ => ?_
  exact Lq.tr L_h (q_rec24 _ h L_h.1)
theorem lo_f_X12_town_24 {n : Nat} {v0 : Int} {v1 : Int} {v2 : Int} : ∀ (k : Nat) (v3 : Int) (h : MM), 100 ≤ nx h → Lq h (f_X12_town_24 n v0 v1 v2 k v3 h)
  | 0, _, _, _ => Lq.none
  | k + 1, v3, h, z => lo_f_X12_town_24b (fun b0 h z => lo_f_X12_town_24 k b0 h z) h z
theorem lo_f_X12_town {n : Nat} {v0 : Int} {v1 : Int} {v2 : Int} (h : MM) (z : 100 ≤ nx h) : Lq h (f_X12_town n v0 v1 v2 h) := by
  have L_h := Lo.refl z
  delta f_X12_town
  refine Lq.xbd L_h (lo_f_X12_isCell h L_h.1) fun _ h1 L_h1 => ?_
  refine Lq.ite ?_ ?_
  exact Lq.some L_h1
  refine Lq.xbd L_h1 (lo_f_X12_in h1 L_h1.1) fun _ h3 L_h3 => ?_
  refine Lq.ite ?_ ?_
  exact Lq.some L_h3
  exact Lq.tr L_h3 (lo_f_X12_town_24 _ _ h3 L_h3.1)
theorem lo_f_X12_isHolder {n : Nat} {v0 : Int} (h : MM) (z : 100 ≤ nx h) : Lq h (f_X12_isHolder n v0 h) := by
  have L_h := Lo.refl z
  delta f_X12_isHolder
  refine Lq.xbd L_h (lo_f_X12_in h L_h.1) fun _ h1 L_h1 => ?_
  refine Lq.xck ?_
  exact Lq.some L_h1
theorem lo_f_X12_coin {n : Nat} {v0 : Int} {v1 : Int} {v2 : Int} (h : MM) (z : 100 ≤ nx h) : Lq h (f_X12_coin n v0 v1 v2 h) := by
  have L_h := Lo.refl z
  delta f_X12_coin
  refine Lq.xbd L_h (lo_f_X12_isHolder h L_h.1) fun _ h1 L_h1 => ?_
  refine Lq.ite ?_ ?_
  exact Lq.some L_h1
  refine Lq.xbd L_h1 (lo_f_X12_in h1 L_h1.1) fun _ h3 L_h3 => ?_
  refine Lq.ite ?_ ?_
  exact Lq.some L_h3
  refine Lq.xgf fun _ => ?_
  refine Lq.xrd fun _ => ?_
  refine Lq.xgf fun _ => ?_
  refine Lq.xwt L_h3 fun h8 L_h8 => ?_
  exact Lq.some L_h8
theorem lo_f_X12_man {n : Nat} {v0 : Int} {v1 : Int} (h : MM) (z : 100 ≤ nx h) : Lq h (f_X12_man n v0 v1 h) := by
  have L_h := Lo.refl z
  delta f_X12_man
  refine Lq.xbd L_h (lo_f_X12_in h L_h.1) fun _ h1 L_h1 => ?_
  refine Lq.ite ?_ ?_
  exact Lq.some L_h1
  refine Lq.xgf fun _ => ?_
  refine Lq.xrd fun _ => ?_
  refine Lq.xgf fun _ => ?_
  refine Lq.xwt L_h1 fun h6 L_h6 => ?_
  exact Lq.some L_h6
theorem lo_f_X12_feed_35b {n : Nat} {rec35 : Int → MM → RR} {v0 : Int} {v1 : Int} {v4 : Int} (q_rec35 : ∀ (a0 : Int) (h : MM), 100 ≤ nx h → Lq h (rec35 a0 h)) (h : MM) (z : 100 ≤ nx h) : Lq h (f_X12_feed_35b n rec35 v0 v1 v4 h) := by
  have L_h := Lo.refl z
  delta f_X12_feed_35b
  refine Lq.ite ?_ ?_
  refine Lq.xgf fun _ => ?_
  refine Lq.xrd fun _ => ?_
  exact Lq.some L_h
  refine Lq.xgf fun _ => ?_
  refine Lq.xgf fun _ => ?_
  refine Lq.xrd fun _ => ?_
  refine Lq.xwt L_h fun h7 L_h7 => ?_
  refine Lq.xgf fun _ => ?_
  refine Lq.xrd fun _ => ?_
  refine Lq.xwt L_h7 fun h10 L_h10 => ?_
  refine Lq.xlb fun _ => ?_
  exact Lq.tr L_h10 (q_rec35 _ h10 L_h10.1)
theorem lo_f_X12_feed_35 {n : Nat} {v0 : Int} {v1 : Int} : ∀ (k : Nat) (v4 : Int) (h : MM), 100 ≤ nx h → Lq h (f_X12_feed_35 n v0 v1 k v4 h)
  | 0, _, _, _ => Lq.none
  | k + 1, v4, h, z => lo_f_X12_feed_35b (fun b0 h z => lo_f_X12_feed_35 k b0 h z) h z
theorem lo_f_X12_feed {n : Nat} {v0 : Int} {v1 : Int} {v3 : Int} (h : MM) (z : 100 ≤ nx h) : Lq h (f_X12_feed n v0 v1 v3 h) := by
  have L_h := Lo.refl z
  delta f_X12_feed
  refine Lq.xbd L_h (lo_f_X12_in h L_h.1) fun _ h1 L_h1 => ?_
  refine Lq.ite ?_ ?_
  exact Lq.some L_h1
  refine Lq.xgf fun _ => ?_
  refine Lq.xrd fun _ => ?_
  refine Lq.ite ?_ ?_
  refine Lq.xlb fun _ => ?_
  exact Lq.tr L_h1 (lo_f_X12_feed_35 _ _ h1 L_h1.1)
  exact Lq.some L_h1
theorem lo_f_X12_isDay {n : Nat} {v0 : Int} (h : MM) (z : 100 ≤ nx h) : Lq h (f_X12_isDay n v0 h) := by
  have L_h := Lo.refl z
  delta f_X12_isDay
  refine Lq.xbd L_h (lo_f_X12_in h L_h.1) fun _ h1 L_h1 => ?_
  refine Lq.xck ?_
  exact Lq.some L_h1
theorem lo_f_X12_word {n : Nat} {v0 : Int} (h : MM) (z : 100 ≤ nx h) : Lq h (f_X12_word n v0 h) := by
  have L_h := Lo.refl z
  delta f_X12_word
  refine Lq.ite ?_ ?_
  exact Lq.some L_h
  refine Lq.ite ?_ ?_
  exact Lq.some L_h
  refine Lq.ite ?_ ?_
  exact Lq.some L_h
  refine Lq.ite ?_ ?_
  exact Lq.some L_h
  refine Lq.ite ?_ ?_
  exact Lq.some L_h
  refine Lq.ite ?_ ?_
  exact Lq.some L_h
  exact Lq.some L_h
theorem lo_f_X12_here_46 {n : Nat} {s0 : Int} (h : MM) (z : 100 ≤ nx h) : Lq h (f_X12_here_46 n s0 h) := by
  have L_h := Lo.refl z
  delta f_X12_here_46
  exact Lq.some L_h
theorem lo_f_X12_here {n : Nat} {v0 : Int} (h : MM) (z : 100 ≤ nx h) : Lq h (f_X12_here n v0 h) := by
  have L_h := Lo.refl z
  delta f_X12_here
  refine Lq.xgf fun _ => ?_
  refine Lq.xgf fun _ => ?_
  refine Lq.xgf fun _ => ?_
  refine Lq.xrd fun _ => ?_
  refine Lq.ite ?_ ?_
  exact Lq.tr L_h (lo_f_X12_here_46 h L_h.1)
  refine Lq.xgf fun _ => ?_
  refine Lq.xgf fun _ => ?_
  refine Lq.xgf fun _ => ?_
  refine Lq.xrd fun _ => ?_
  exact Lq.tr L_h (lo_f_X12_here_46 h L_h.1)
theorem lo_f_X12_oneWord_131 {n : Nat} {rec5 : Int → Int → MM → RR} {rec101 : Int → MM → RR} {v0 : Int} {v1 : Int} {v2 : Int} {v4 : Int} (q_rec5 : ∀ (a0 a1 : Int) (h : MM), 100 ≤ nx h → Lq h (rec5 a0 a1 h)) (q_rec101 : ∀ (a0 : Int) (h : MM), 100 ≤ nx h → Lq h (rec101 a0 h)) (h : MM) (z : 100 ≤ nx h) : Lq h (f_X12_oneWord_131 n rec5 rec101 v0 v1 v2 v4 h) := by
  have L_h := Lo.refl z
  delta f_X12_oneWord_131
  refine Lq.xlb fun _ => ?_
  exact Lq.tr L_h (q_rec101 _ h L_h.1)
theorem lo_f_X12_oneWord_101b {n : Nat} {rec5 : Int → Int → MM → RR} {rec101 : Int → MM → RR} {v0 : Int} {v1 : Int} {v2 : Int} {v4 : Int} (q_rec5 : ∀ (a0 a1 : Int) (h : MM), 100 ≤ nx h → Lq h (rec5 a0 a1 h)) (q_rec101 : ∀ (a0 : Int) (h : MM), 100 ≤ nx h → Lq h (rec101 a0 h)) (h : MM) (z : 100 ≤ nx h) : Lq h (f_X12_oneWord_101b n rec5 rec101 v0 v1 v2 v4 h) := by
  have L_h := Lo.refl z
  delta f_X12_oneWord_101b
  refine Lq.ite ?_ ?_
  exact Lq.tr L_h (q_rec5 _ _ h L_h.1)
  refine Lq.ite ?_ ?_
  refine Lq.xbd L_h (lo_f_X12_word h L_h.1) fun _ h3 L_h3 => ?_
  refine Lq.xgk ?_
  refine Lq.xbd L_h3 (lo_f_J0_length_8abf5 h3 L_h3.1) fun _ h4 L_h4 => ?_
  refine Lq.ite ?_ ?_
  exact Lq.some L_h4
  exact Lq.tr L_h4 (lo_f_X12_oneWord_131 q_rec5 q_rec101 h4 L_h4.1)
  exact Lq.tr L_h (lo_f_X12_oneWord_131 q_rec5 q_rec101 h L_h.1)
theorem lo_f_X12_oneWord_101 {n : Nat} {rec5 : Int → Int → MM → RR} {v0 : Int} {v1 : Int} {v2 : Int} (q_rec5 : ∀ (a0 a1 : Int) (h : MM), 100 ≤ nx h → Lq h (rec5 a0 a1 h)) : ∀ (k : Nat) (v4 : Int) (h : MM), 100 ≤ nx h → Lq h (f_X12_oneWord_101 n rec5 v0 v1 v2 k v4 h)
  | 0, _, _, _ => Lq.none
  | k + 1, v4, h, z => lo_f_X12_oneWord_101b q_rec5 (fun b0 h z => lo_f_X12_oneWord_101 q_rec5 k b0 h z) h z
theorem lo_f_X12_oneWord_64 {n : Nat} {rec5 : Int → Int → MM → RR} {rec10 : Int → Int → MM → RR} {v0 : Int} {v1 : Int} {v2 : Int} {v4 : Int} {s0 : Int} {s1 : Int} (q_rec5 : ∀ (a0 a1 : Int) (h : MM), 100 ≤ nx h → Lq h (rec5 a0 a1 h)) (q_rec10 : ∀ (a0 a1 : Int) (h : MM), 100 ≤ nx h → Lq h (rec10 a0 a1 h)) (h : MM) (z : 100 ≤ nx h) : Lq h (f_X12_oneWord_64 n rec5 rec10 v0 v1 v2 v4 s0 s1 h) := by
  have L_h := Lo.refl z
  delta f_X12_oneWord_64
  refine Lq.xlb fun _ => ?_
  refine Lq.xlb fun _ => ?_
  exact Lq.tr L_h (q_rec10 _ _ h L_h.1)
theorem lo_f_X12_oneWord_63 {n : Nat} {rec5 : Int → Int → MM → RR} {rec10 : Int → Int → MM → RR} {v0 : Int} {v1 : Int} {v2 : Int} {v4 : Int} {s0 : Int} (q_rec5 : ∀ (a0 a1 : Int) (h : MM), 100 ≤ nx h → Lq h (rec5 a0 a1 h)) (q_rec10 : ∀ (a0 a1 : Int) (h : MM), 100 ≤ nx h → Lq h (rec10 a0 a1 h)) (h : MM) (z : 100 ≤ nx h) : Lq h (f_X12_oneWord_63 n rec5 rec10 v0 v1 v2 v4 s0 h) := by
  have L_h := Lo.refl z
  delta f_X12_oneWord_63
  exact Lq.tr L_h (lo_f_X12_oneWord_64 q_rec5 q_rec10 h L_h.1)
theorem lo_f_X12_oneWord_10b {n : Nat} {rec5 : Int → Int → MM → RR} {rec10 : Int → Int → MM → RR} {v0 : Int} {v1 : Int} {v2 : Int} {v3 : Int} {v4 : Int} (q_rec5 : ∀ (a0 a1 : Int) (h : MM), 100 ≤ nx h → Lq h (rec5 a0 a1 h)) (q_rec10 : ∀ (a0 a1 : Int) (h : MM), 100 ≤ nx h → Lq h (rec10 a0 a1 h)) (h : MM) (z : 100 ≤ nx h) : Lq h (f_X12_oneWord_10b n rec5 rec10 v0 v1 v2 v3 v4 h) := by
  have L_h := Lo.refl z
  delta f_X12_oneWord_10b
  refine Lq.ite ?_ ?_
  refine Lq.ite ?_ ?_
  refine Lq.xck ?_
  refine Lq.xpf L_h fun h6 L_h6 => ?_
  exact Lq.some L_h6
  refine Lq.xgf fun _ => ?_
  refine Lq.xpf L_h fun h4 L_h4 => ?_
  refine Lq.xlb fun _ => ?_
  exact Lq.tr L_h4 (lo_f_X12_oneWord_101 q_rec5 _ _ h4 L_h4.1)
  refine Lq.ite ?_ ?_
  refine Lq.xbd L_h (lo_f_X12_word h L_h.1) fun _ h9 L_h9 => ?_
  refine Lq.xgk ?_
  refine Lq.xbd L_h9 (lo_f_J0_length_8abf5 h9 L_h9.1) fun _ h10 L_h10 => ?_
  refine Lq.ite ?_ ?_
  exact Lq.tr L_h10 (lo_f_X12_oneWord_63 q_rec5 q_rec10 h10 L_h10.1)
  refine Lq.xbd L_h10 (lo_f_X12_word h10 L_h10.1) fun _ h12 L_h12 => ?_
  refine Lq.xgk ?_
  refine Lq.xbd L_h12 (lo_f_J0_charAt_5068e h12 L_h12.1) fun _ h13 L_h13 => ?_
  refine Lq.xgk ?_
  refine Lq.xbd L_h13 (lo_f_X12_here h13 L_h13.1) fun _ h14 L_h14 => ?_
  refine Lq.ite ?_ ?_
  exact Lq.tr L_h14 (lo_f_X12_oneWord_64 q_rec5 q_rec10 h14 L_h14.1)
  exact Lq.tr L_h14 (lo_f_X12_oneWord_63 q_rec5 q_rec10 h14 L_h14.1)
  exact Lq.tr L_h (lo_f_X12_oneWord_63 q_rec5 q_rec10 h L_h.1)
theorem lo_f_X12_oneWord_10 {n : Nat} {rec5 : Int → Int → MM → RR} {v0 : Int} {v1 : Int} {v2 : Int} (q_rec5 : ∀ (a0 a1 : Int) (h : MM), 100 ≤ nx h → Lq h (rec5 a0 a1 h)) : ∀ (k : Nat) (v3 v4 : Int) (h : MM), 100 ≤ nx h → Lq h (f_X12_oneWord_10 n rec5 v0 v1 v2 k v3 v4 h)
  | 0, _, _, _, _ => Lq.none
  | k + 1, v3, v4, h, z => lo_f_X12_oneWord_10b q_rec5 (fun b0 b1 h z => lo_f_X12_oneWord_10 q_rec5 k b0 b1 h z) h z
theorem lo_f_X12_oneWord_5b {n : Nat} {rec5 : Int → Int → MM → RR} {v0 : Int} {v1 : Int} {v2 : Int} (q_rec5 : ∀ (a0 a1 : Int) (h : MM), 100 ≤ nx h → Lq h (rec5 a0 a1 h)) (h : MM) (z : 100 ≤ nx h) : Lq h (f_X12_oneWord_5b n rec5 v0 v1 v2 h) := by
  have L_h := Lo.refl z
  delta f_X12_oneWord_5b
  exact Lq.tr L_h (lo_f_X12_oneWord_10 q_rec5 _ _ _ h L_h.1)
theorem lo_f_X12_oneWord_5 {n : Nat} {v0 : Int} : ∀ (k : Nat) (v1 v2 : Int) (h : MM), 100 ≤ nx h → Lq h (f_X12_oneWord_5 n v0 k v1 v2 h)
  | 0, _, _, _, _ => Lq.none
  | k + 1, v1, v2, h, z => lo_f_X12_oneWord_5b (fun b0 b1 h z => lo_f_X12_oneWord_5 k b0 b1 h z) h z
theorem lo_f_X12_oneWord {n : Nat} {v0 : Int} (h : MM) (z : 100 ≤ nx h) : Lq h (f_X12_oneWord n v0 h) := by
  have L_h := Lo.refl z
  delta f_X12_oneWord
  exact Lq.tr L_h (lo_f_X12_oneWord_5 _ _ _ h L_h.1)
theorem lo_f_X12_must_41 {n : Nat} {s0 : Int} {s1 : Int} {s2 : Int} (h : MM) (z : 100 ≤ nx h) : Lq h (f_X12_must_41 n s0 s1 s2 h) := by
  have L_h := Lo.refl z
  delta f_X12_must_41
  refine Lq.xpf L_h fun h1 L_h1 => ?_
  exact Lq.some L_h1
theorem lo_f_X12_must_21 {n : Nat} {v0 : Int} {s0 : Int} {s1 : Int} (h : MM) (z : 100 ≤ nx h) : Lq h (f_X12_must_21 n v0 s0 s1 h) := by
  have L_h := Lo.refl z
  delta f_X12_must_21
  refine Lq.xck ?_
  refine Lq.xpf L_h fun h1 L_h1 => ?_
  refine Lq.xgf fun _ => ?_
  refine Lq.xgf fun _ => ?_
  refine Lq.ite ?_ ?_
  exact Lq.tr L_h1 (lo_f_X12_must_41 h1 L_h1.1)
  exact Lq.tr L_h1 (lo_f_X12_must_41 h1 L_h1.1)
theorem lo_f_X12_must_16 {n : Nat} {v0 : Int} {s0 : Int} (h : MM) (z : 100 ≤ nx h) : Lq h (f_X12_must_16 n v0 s0 h) := by
  have L_h := Lo.refl z
  delta f_X12_must_16
  exact Lq.tr L_h (lo_f_X12_must_21 h L_h.1)
theorem lo_f_X12_must {n : Nat} {v0 : Int} {v1 : Int} (h : MM) (z : 100 ≤ nx h) : Lq h (f_X12_must n v0 v1 h) := by
  have L_h := Lo.refl z
  delta f_X12_must
  refine Lq.xgf fun _ => ?_
  refine Lq.ite ?_ ?_
  refine Lq.xgk ?_
  refine Lq.xbd L_h (lo_f_X12_here h L_h.1) fun _ h3 L_h3 => ?_
  refine Lq.ite ?_ ?_
  exact Lq.tr L_h3 (lo_f_X12_must_21 h3 L_h3.1)
  exact Lq.tr L_h3 (lo_f_X12_must_16 h3 L_h3.1)
  exact Lq.tr L_h (lo_f_X12_must_16 h L_h.1)
theorem lo_f_X12_number_97 {n : Nat} {v1 : Int} (h : MM) (z : 100 ≤ nx h) : Lq h (f_X12_number_97 n v1 h) := by
  have L_h := Lo.refl z
  delta f_X12_number_97
  exact Lq.some L_h
theorem lo_f_X12_number_68 {n : Nat} {rec34 : Int → Int → MM → RR} {v0 : Int} {v1 : Int} {v2 : Int} (q_rec34 : ∀ (a0 a1 : Int) (h : MM), 100 ≤ nx h → Lq h (rec34 a0 a1 h)) (h : MM) (z : 100 ≤ nx h) : Lq h (f_X12_number_68 n rec34 v0 v1 v2 h) := by
  have L_h := Lo.refl z
  delta f_X12_number_68
  refine Lq.xgk ?_
  refine Lq.xbd L_h (lo_f_X12_here h L_h.1) fun _ h1 L_h1 => ?_
  refine Lq.xlb fun _ => ?_
  refine Lq.xgf fun _ => ?_
  refine Lq.xpf L_h1 fun h4 L_h4 => ?_
  refine Lq.xlb fun _ => ?_
  exact Lq.tr L_h4 (q_rec34 _ _ h4 L_h4.1)
theorem lo_f_X12_number_34b {n : Nat} {rec34 : Int → Int → MM → RR} {v0 : Int} {v1 : Int} {v2 : Int} (q_rec34 : ∀ (a0 a1 : Int) (h : MM), 100 ≤ nx h → Lq h (rec34 a0 a1 h)) (h : MM) (z : 100 ≤ nx h) : Lq h (f_X12_number_34b n rec34 v0 v1 v2 h) := by
  have L_h := Lo.refl z
  delta f_X12_number_34b
  refine Lq.ite ?_ ?_
  exact Lq.tr L_h (lo_f_X12_number_97 h L_h.1)
  refine Lq.xgf fun _ => ?_
  refine Lq.ite ?_ ?_
  refine Lq.xgk ?_
  refine Lq.xbd L_h (lo_f_X12_here h L_h.1) fun _ h4 L_h4 => ?_
  refine Lq.xbd L_h4 (lo_f_X12_in h4 L_h4.1) fun _ h5 L_h5 => ?_
  refine Lq.ite ?_ ?_
  exact Lq.tr L_h5 (lo_f_X12_number_97 h5 L_h5.1)
  refine Lq.ite ?_ ?_
  exact Lq.tr L_h5 (lo_f_X12_number_68 q_rec34 h5 L_h5.1)
  refine Lq.ite ?_ ?_
  exact Lq.tr L_h5 (lo_f_X12_number_97 h5 L_h5.1)
  exact Lq.tr L_h5 (lo_f_X12_number_68 q_rec34 h5 L_h5.1)
  exact Lq.tr L_h (lo_f_X12_number_97 h L_h.1)
theorem lo_f_X12_number_34 {n : Nat} {v0 : Int} : ∀ (k : Nat) (v1 v2 : Int) (h : MM), 100 ≤ nx h → Lq h (f_X12_number_34 n v0 k v1 v2 h)
  | 0, _, _, _, _ => Lq.none
  | k + 1, v1, v2, h, z => lo_f_X12_number_34b (fun b0 b1 h z => lo_f_X12_number_34 k b0 b1 h z) h z
theorem lo_f_X12_number_27 {n : Nat} {v0 : Int} {s0 : Int} {s1 : Int} (h : MM) (z : 100 ≤ nx h) : Lq h (f_X12_number_27 n v0 s0 s1 h) := by
  have L_h := Lo.refl z
  delta f_X12_number_27
  refine Lq.xck ?_
  refine Lq.xpf L_h fun h1 L_h1 => ?_
  exact Lq.tr L_h1 (lo_f_X12_number_34 _ _ _ h1 L_h1.1)
theorem lo_f_X12_number_22 {n : Nat} {v0 : Int} {s0 : Int} (h : MM) (z : 100 ≤ nx h) : Lq h (f_X12_number_22 n v0 s0 h) := by
  have L_h := Lo.refl z
  delta f_X12_number_22
  exact Lq.tr L_h (lo_f_X12_number_27 h L_h.1)
theorem lo_f_X12_number {n : Nat} {v0 : Int} (h : MM) (z : 100 ≤ nx h) : Lq h (f_X12_number n v0 h) := by
  have L_h := Lo.refl z
  delta f_X12_number
  refine Lq.xgf fun _ => ?_
  refine Lq.ite ?_ ?_
  refine Lq.xgk ?_
  refine Lq.xbd L_h (lo_f_X12_here h L_h.1) fun _ h3 L_h3 => ?_
  refine Lq.xbd L_h3 (lo_f_X12_in h3 L_h3.1) fun _ h4 L_h4 => ?_
  refine Lq.ite ?_ ?_
  exact Lq.tr L_h4 (lo_f_X12_number_22 h4 L_h4.1)
  exact Lq.tr L_h4 (lo_f_X12_number_27 h4 L_h4.1)
  exact Lq.tr L_h (lo_f_X12_number_22 h L_h.1)
theorem lo_f_X12_factor_123 {F_X12_factor : Int → MM → RR} {F_X12_every : Int → MM → RR} {F_X12_some : Int → MM → RR} {n : Nat} {v0 : Int} {v2 : Int} (q_F_X12_factor : ∀ (a0 : Int) (h : MM), 100 ≤ nx h → Lq h (F_X12_factor a0 h)) (q_F_X12_every : ∀ (a0 : Int) (h : MM), 100 ≤ nx h → Lq h (F_X12_every a0 h)) (q_F_X12_some : ∀ (a0 : Int) (h : MM), 100 ≤ nx h → Lq h (F_X12_some a0 h)) (h : MM) (z : 100 ≤ nx h) : Lq h (f_X12_factor_123 F_X12_factor F_X12_every F_X12_some n v0 v2 h) := by
  have L_h := Lo.refl z
  delta f_X12_factor_123
  refine Lq.xgf fun _ => ?_
  refine Lq.xpf L_h fun h2 L_h2 => ?_
  refine Lq.xck ?_
  exact Lq.some L_h2
theorem lo_f_X12_factor_110 {F_X12_factor : Int → MM → RR} {F_X12_every : Int → MM → RR} {F_X12_some : Int → MM → RR} {n : Nat} {v0 : Int} {v1 : Int} {s0 : Int} (q_F_X12_factor : ∀ (a0 : Int) (h : MM), 100 ≤ nx h → Lq h (F_X12_factor a0 h)) (q_F_X12_every : ∀ (a0 : Int) (h : MM), 100 ≤ nx h → Lq h (F_X12_every a0 h)) (q_F_X12_some : ∀ (a0 : Int) (h : MM), 100 ≤ nx h → Lq h (F_X12_some a0 h)) (h : MM) (z : 100 ≤ nx h) : Lq h (f_X12_factor_110 F_X12_factor F_X12_every F_X12_some n v0 v1 s0 h) := by
  have L_h := Lo.refl z
  delta f_X12_factor_110
  refine Lq.ite ?_ ?_
  refine Lq.xgk ?_
  refine Lq.xbd L_h (lo_f_X12_must h L_h.1) fun _ h2 L_h2 => ?_
  exact Lq.tr L_h2 (lo_f_X12_factor_123 q_F_X12_factor q_F_X12_every q_F_X12_some h2 L_h2.1)
  exact Lq.tr L_h (lo_f_X12_factor_123 q_F_X12_factor q_F_X12_every q_F_X12_some h L_h.1)
theorem lo_f_X12_factor_70 {F_X12_factor : Int → MM → RR} {F_X12_every : Int → MM → RR} {F_X12_some : Int → MM → RR} {n : Nat} {v0 : Int} {v1 : Int} {s0 : Int} {s1 : Int} {s2 : Int} (q_F_X12_factor : ∀ (a0 : Int) (h : MM), 100 ≤ nx h → Lq h (F_X12_factor a0 h)) (q_F_X12_every : ∀ (a0 : Int) (h : MM), 100 ≤ nx h → Lq h (F_X12_every a0 h)) (q_F_X12_some : ∀ (a0 : Int) (h : MM), 100 ≤ nx h → Lq h (F_X12_some a0 h)) (h : MM) (z : 100 ≤ nx h) : Lq h (f_X12_factor_70 F_X12_factor F_X12_every F_X12_some n v0 v1 s0 s1 s2 h) := by
  have L_h := Lo.refl z
  delta f_X12_factor_70
  refine Lq.xpf L_h fun h1 L_h1 => ?_
  refine Lq.xgf fun _ => ?_
  refine Lq.ite ?_ ?_
  refine Lq.ite ?_ ?_
  refine Lq.xgk ?_
  refine Lq.xbd L_h1 (q_F_X12_factor _ h1 L_h1.1) fun _ h6 L_h6 => ?_
  refine Lq.ite ?_ ?_
  exact Lq.tr L_h6 (lo_f_X12_factor_110 q_F_X12_factor q_F_X12_every q_F_X12_some h6 L_h6.1)
  exact Lq.tr L_h6 (lo_f_X12_factor_110 q_F_X12_factor q_F_X12_every q_F_X12_some h6 L_h6.1)
  refine Lq.xgk ?_
  refine Lq.xbd L_h1 (q_F_X12_some _ h1 L_h1.1) fun _ h5 L_h5 => ?_
  exact Lq.tr L_h5 (lo_f_X12_factor_110 q_F_X12_factor q_F_X12_every q_F_X12_some h5 L_h5.1)
  exact Lq.tr L_h1 (lo_f_X12_factor_110 q_F_X12_factor q_F_X12_every q_F_X12_some h1 L_h1.1)
theorem lo_f_X12_factor_40 {F_X12_factor : Int → MM → RR} {F_X12_every : Int → MM → RR} {F_X12_some : Int → MM → RR} {n : Nat} {v0 : Int} {v1 : Int} {s0 : Int} {s1 : Int} (q_F_X12_factor : ∀ (a0 : Int) (h : MM), 100 ≤ nx h → Lq h (F_X12_factor a0 h)) (q_F_X12_every : ∀ (a0 : Int) (h : MM), 100 ≤ nx h → Lq h (F_X12_every a0 h)) (q_F_X12_some : ∀ (a0 : Int) (h : MM), 100 ≤ nx h → Lq h (F_X12_some a0 h)) (h : MM) (z : 100 ≤ nx h) : Lq h (f_X12_factor_40 F_X12_factor F_X12_every F_X12_some n v0 v1 s0 s1 h) := by
  have L_h := Lo.refl z
  delta f_X12_factor_40
  refine Lq.xck ?_
  refine Lq.xpf L_h fun h1 L_h1 => ?_
  refine Lq.xgf fun _ => ?_
  refine Lq.xpf L_h1 fun h4 L_h4 => ?_
  refine Lq.xgf fun _ => ?_
  refine Lq.xgf fun _ => ?_
  refine Lq.ite ?_ ?_
  exact Lq.tr L_h4 (lo_f_X12_factor_70 q_F_X12_factor q_F_X12_every q_F_X12_some h4 L_h4.1)
  exact Lq.tr L_h4 (lo_f_X12_factor_70 q_F_X12_factor q_F_X12_every q_F_X12_some h4 L_h4.1)
theorem lo_f_X12_factor_26 {F_X12_factor : Int → MM → RR} {F_X12_every : Int → MM → RR} {F_X12_some : Int → MM → RR} {n : Nat} {v0 : Int} {v1 : Int} (q_F_X12_factor : ∀ (a0 : Int) (h : MM), 100 ≤ nx h → Lq h (F_X12_factor a0 h)) (q_F_X12_every : ∀ (a0 : Int) (h : MM), 100 ≤ nx h → Lq h (F_X12_every a0 h)) (q_F_X12_some : ∀ (a0 : Int) (h : MM), 100 ≤ nx h → Lq h (F_X12_some a0 h)) (h : MM) (z : 100 ≤ nx h) : Lq h (f_X12_factor_26 F_X12_factor F_X12_every F_X12_some n v0 v1 h) := by
  have L_h := Lo.refl z
  delta f_X12_factor_26
  refine Lq.xgf fun _ => ?_
  refine Lq.ite ?_ ?_
  exact Lq.tr L_h (lo_f_X12_factor_40 q_F_X12_factor q_F_X12_every q_F_X12_some h L_h.1)
  exact Lq.tr L_h (lo_f_X12_factor_40 q_F_X12_factor q_F_X12_every q_F_X12_some h L_h.1)
theorem lo_f_X12_factor_426 {F_X12_factor : Int → MM → RR} {F_X12_every : Int → MM → RR} {F_X12_some : Int → MM → RR} {n : Nat} {s0 : Int} (q_F_X12_factor : ∀ (a0 : Int) (h : MM), 100 ≤ nx h → Lq h (F_X12_factor a0 h)) (q_F_X12_every : ∀ (a0 : Int) (h : MM), 100 ≤ nx h → Lq h (F_X12_every a0 h)) (q_F_X12_some : ∀ (a0 : Int) (h : MM), 100 ≤ nx h → Lq h (F_X12_some a0 h)) (h : MM) (z : 100 ≤ nx h) : Lq h (f_X12_factor_426 F_X12_factor F_X12_every F_X12_some n s0 h) := by
  have L_h := Lo.refl z
  delta f_X12_factor_426
  refine Lq.xck ?_
  exact Lq.some L_h
theorem lo_f_X12_factor_391 {F_X12_factor : Int → MM → RR} {F_X12_every : Int → MM → RR} {F_X12_some : Int → MM → RR} {n : Nat} {v3 : Int} {v4 : Int} {s0 : Int} (q_F_X12_factor : ∀ (a0 : Int) (h : MM), 100 ≤ nx h → Lq h (F_X12_factor a0 h)) (q_F_X12_every : ∀ (a0 : Int) (h : MM), 100 ≤ nx h → Lq h (F_X12_every a0 h)) (q_F_X12_some : ∀ (a0 : Int) (h : MM), 100 ≤ nx h → Lq h (F_X12_some a0 h)) (h : MM) (z : 100 ≤ nx h) : Lq h (f_X12_factor_391 F_X12_factor F_X12_every F_X12_some n v3 v4 s0 h) := by
  have L_h := Lo.refl z
  delta f_X12_factor_391
  refine Lq.ite ?_ ?_
  refine Lq.ite ?_ ?_
  exact Lq.tr L_h (lo_f_X12_factor_426 q_F_X12_factor q_F_X12_every q_F_X12_some h L_h.1)
  exact Lq.tr L_h (lo_f_X12_factor_426 q_F_X12_factor q_F_X12_every q_F_X12_some h L_h.1)
  refine Lq.ite ?_ ?_
  exact Lq.tr L_h (lo_f_X12_factor_426 q_F_X12_factor q_F_X12_every q_F_X12_some h L_h.1)
  exact Lq.tr L_h (lo_f_X12_factor_426 q_F_X12_factor q_F_X12_every q_F_X12_some h L_h.1)
theorem lo_f_X12_factor_364 {F_X12_factor : Int → MM → RR} {F_X12_every : Int → MM → RR} {F_X12_some : Int → MM → RR} {n : Nat} {v0 : Int} {v2 : Int} {v3 : Int} {s0 : Int} {s1 : Int} {s2 : Int} (q_F_X12_factor : ∀ (a0 : Int) (h : MM), 100 ≤ nx h → Lq h (F_X12_factor a0 h)) (q_F_X12_every : ∀ (a0 : Int) (h : MM), 100 ≤ nx h → Lq h (F_X12_every a0 h)) (q_F_X12_some : ∀ (a0 : Int) (h : MM), 100 ≤ nx h → Lq h (F_X12_some a0 h)) (h : MM) (z : 100 ≤ nx h) : Lq h (f_X12_factor_364 F_X12_factor F_X12_every F_X12_some n v0 v2 v3 s0 s1 s2 h) := by
  have L_h := Lo.refl z
  delta f_X12_factor_364
  refine Lq.xpf L_h fun h1 L_h1 => ?_
  refine Lq.xgk ?_
  refine Lq.xbd L_h1 (lo_f_X12_number h1 L_h1.1) fun _ h2 L_h2 => ?_
  refine Lq.xgf fun _ => ?_
  refine Lq.ite ?_ ?_
  refine Lq.xgf fun _ => ?_
  refine Lq.xrd fun _ => ?_
  exact Lq.tr L_h2 (lo_f_X12_factor_391 q_F_X12_factor q_F_X12_every q_F_X12_some h2 L_h2.1)
  exact Lq.tr L_h2 (lo_f_X12_factor_391 q_F_X12_factor q_F_X12_every q_F_X12_some h2 L_h2.1)
theorem lo_f_X12_factor_344 {F_X12_factor : Int → MM → RR} {F_X12_every : Int → MM → RR} {F_X12_some : Int → MM → RR} {n : Nat} {v0 : Int} {v2 : Int} {v3 : Int} {s0 : Int} {s1 : Int} (q_F_X12_factor : ∀ (a0 : Int) (h : MM), 100 ≤ nx h → Lq h (F_X12_factor a0 h)) (q_F_X12_every : ∀ (a0 : Int) (h : MM), 100 ≤ nx h → Lq h (F_X12_every a0 h)) (q_F_X12_some : ∀ (a0 : Int) (h : MM), 100 ≤ nx h → Lq h (F_X12_some a0 h)) (h : MM) (z : 100 ≤ nx h) : Lq h (f_X12_factor_344 F_X12_factor F_X12_every F_X12_some n v0 v2 v3 s0 s1 h) := by
  have L_h := Lo.refl z
  delta f_X12_factor_344
  refine Lq.xck ?_
  refine Lq.xpf L_h fun h1 L_h1 => ?_
  refine Lq.xgf fun _ => ?_
  refine Lq.xgf fun _ => ?_
  refine Lq.ite ?_ ?_
  exact Lq.tr L_h1 (lo_f_X12_factor_364 q_F_X12_factor q_F_X12_every q_F_X12_some h1 L_h1.1)
  exact Lq.tr L_h1 (lo_f_X12_factor_364 q_F_X12_factor q_F_X12_every q_F_X12_some h1 L_h1.1)
theorem lo_f_X12_factor_339 {F_X12_factor : Int → MM → RR} {F_X12_every : Int → MM → RR} {F_X12_some : Int → MM → RR} {n : Nat} {v0 : Int} {v2 : Int} {v3 : Int} {s0 : Int} (q_F_X12_factor : ∀ (a0 : Int) (h : MM), 100 ≤ nx h → Lq h (F_X12_factor a0 h)) (q_F_X12_every : ∀ (a0 : Int) (h : MM), 100 ≤ nx h → Lq h (F_X12_every a0 h)) (q_F_X12_some : ∀ (a0 : Int) (h : MM), 100 ≤ nx h → Lq h (F_X12_some a0 h)) (h : MM) (z : 100 ≤ nx h) : Lq h (f_X12_factor_339 F_X12_factor F_X12_every F_X12_some n v0 v2 v3 s0 h) := by
  have L_h := Lo.refl z
  delta f_X12_factor_339
  exact Lq.tr L_h (lo_f_X12_factor_344 q_F_X12_factor q_F_X12_every q_F_X12_some h L_h.1)
theorem lo_f_X12_factor_343 {F_X12_factor : Int → MM → RR} {F_X12_every : Int → MM → RR} {F_X12_some : Int → MM → RR} {n : Nat} {v0 : Int} {v2 : Int} {v3 : Int} {s0 : Int} (q_F_X12_factor : ∀ (a0 : Int) (h : MM), 100 ≤ nx h → Lq h (F_X12_factor a0 h)) (q_F_X12_every : ∀ (a0 : Int) (h : MM), 100 ≤ nx h → Lq h (F_X12_every a0 h)) (q_F_X12_some : ∀ (a0 : Int) (h : MM), 100 ≤ nx h → Lq h (F_X12_some a0 h)) (h : MM) (z : 100 ≤ nx h) : Lq h (f_X12_factor_343 F_X12_factor F_X12_every F_X12_some n v0 v2 v3 s0 h) := by
  have L_h := Lo.refl z
  delta f_X12_factor_343
  exact Lq.tr L_h (lo_f_X12_factor_344 q_F_X12_factor q_F_X12_every q_F_X12_some h L_h.1)
theorem lo_f_X12_factor_310 {F_X12_factor : Int → MM → RR} {F_X12_every : Int → MM → RR} {F_X12_some : Int → MM → RR} {n : Nat} {v0 : Int} {v2 : Int} {s0 : Int} {s1 : Int} {s2 : Int} (q_F_X12_factor : ∀ (a0 : Int) (h : MM), 100 ≤ nx h → Lq h (F_X12_factor a0 h)) (q_F_X12_every : ∀ (a0 : Int) (h : MM), 100 ≤ nx h → Lq h (F_X12_every a0 h)) (q_F_X12_some : ∀ (a0 : Int) (h : MM), 100 ≤ nx h → Lq h (F_X12_some a0 h)) (h : MM) (z : 100 ≤ nx h) : Lq h (f_X12_factor_310 F_X12_factor F_X12_every F_X12_some n v0 v2 s0 s1 s2 h) := by
  have L_h := Lo.refl z
  delta f_X12_factor_310
  refine Lq.xpf L_h fun h1 L_h1 => ?_
  refine Lq.xgk ?_
  refine Lq.xbd L_h1 (lo_f_X12_here h1 L_h1.1) fun _ h2 L_h2 => ?_
  refine Lq.xgf fun _ => ?_
  refine Lq.ite ?_ ?_
  refine Lq.ite ?_ ?_
  exact Lq.tr L_h2 (lo_f_X12_factor_343 q_F_X12_factor q_F_X12_every q_F_X12_some h2 L_h2.1)
  refine Lq.ite ?_ ?_
  exact Lq.tr L_h2 (lo_f_X12_factor_343 q_F_X12_factor q_F_X12_every q_F_X12_some h2 L_h2.1)
  exact Lq.tr L_h2 (lo_f_X12_factor_339 q_F_X12_factor q_F_X12_every q_F_X12_some h2 L_h2.1)
  exact Lq.tr L_h2 (lo_f_X12_factor_339 q_F_X12_factor q_F_X12_every q_F_X12_some h2 L_h2.1)
theorem lo_f_X12_factor_290 {F_X12_factor : Int → MM → RR} {F_X12_every : Int → MM → RR} {F_X12_some : Int → MM → RR} {n : Nat} {v0 : Int} {v2 : Int} {s0 : Int} {s1 : Int} (q_F_X12_factor : ∀ (a0 : Int) (h : MM), 100 ≤ nx h → Lq h (F_X12_factor a0 h)) (q_F_X12_every : ∀ (a0 : Int) (h : MM), 100 ≤ nx h → Lq h (F_X12_every a0 h)) (q_F_X12_some : ∀ (a0 : Int) (h : MM), 100 ≤ nx h → Lq h (F_X12_some a0 h)) (h : MM) (z : 100 ≤ nx h) : Lq h (f_X12_factor_290 F_X12_factor F_X12_every F_X12_some n v0 v2 s0 s1 h) := by
  have L_h := Lo.refl z
  delta f_X12_factor_290
  refine Lq.xck ?_
  refine Lq.xpf L_h fun h1 L_h1 => ?_
  refine Lq.xgf fun _ => ?_
  refine Lq.xgf fun _ => ?_
  refine Lq.ite ?_ ?_
  exact Lq.tr L_h1 (lo_f_X12_factor_310 q_F_X12_factor q_F_X12_every q_F_X12_some h1 L_h1.1)
  exact Lq.tr L_h1 (lo_f_X12_factor_310 q_F_X12_factor q_F_X12_every q_F_X12_some h1 L_h1.1)
theorem lo_f_X12_factor_278 {F_X12_factor : Int → MM → RR} {F_X12_every : Int → MM → RR} {F_X12_some : Int → MM → RR} {n : Nat} {v0 : Int} {s0 : Int} (q_F_X12_factor : ∀ (a0 : Int) (h : MM), 100 ≤ nx h → Lq h (F_X12_factor a0 h)) (q_F_X12_every : ∀ (a0 : Int) (h : MM), 100 ≤ nx h → Lq h (F_X12_every a0 h)) (q_F_X12_some : ∀ (a0 : Int) (h : MM), 100 ≤ nx h → Lq h (F_X12_some a0 h)) (h : MM) (z : 100 ≤ nx h) : Lq h (f_X12_factor_278 F_X12_factor F_X12_every F_X12_some n v0 s0 h) := by
  have L_h := Lo.refl z
  delta f_X12_factor_278
  refine Lq.ite ?_ ?_
  exact Lq.tr L_h (lo_f_X12_factor_290 q_F_X12_factor q_F_X12_every q_F_X12_some h L_h.1)
  exact Lq.tr L_h (lo_f_X12_factor_290 q_F_X12_factor q_F_X12_every q_F_X12_some h L_h.1)
theorem lo_f_X12_factor_226 {F_X12_factor : Int → MM → RR} {F_X12_every : Int → MM → RR} {F_X12_some : Int → MM → RR} {n : Nat} {s0 : Int} (q_F_X12_factor : ∀ (a0 : Int) (h : MM), 100 ≤ nx h → Lq h (F_X12_factor a0 h)) (q_F_X12_every : ∀ (a0 : Int) (h : MM), 100 ≤ nx h → Lq h (F_X12_every a0 h)) (q_F_X12_some : ∀ (a0 : Int) (h : MM), 100 ≤ nx h → Lq h (F_X12_some a0 h)) (h : MM) (z : 100 ≤ nx h) : Lq h (f_X12_factor_226 F_X12_factor F_X12_every F_X12_some n s0 h) := by
  have L_h := Lo.refl z
  delta f_X12_factor_226
  refine Lq.xck ?_
  exact Lq.some L_h
theorem lo_f_X12_factor_207 {F_X12_factor : Int → MM → RR} {F_X12_every : Int → MM → RR} {F_X12_some : Int → MM → RR} {n : Nat} {v0 : Int} {v2 : Int} {s0 : Int} {s1 : Int} {s2 : Int} (q_F_X12_factor : ∀ (a0 : Int) (h : MM), 100 ≤ nx h → Lq h (F_X12_factor a0 h)) (q_F_X12_every : ∀ (a0 : Int) (h : MM), 100 ≤ nx h → Lq h (F_X12_every a0 h)) (q_F_X12_some : ∀ (a0 : Int) (h : MM), 100 ≤ nx h → Lq h (F_X12_some a0 h)) (h : MM) (z : 100 ≤ nx h) : Lq h (f_X12_factor_207 F_X12_factor F_X12_every F_X12_some n v0 v2 s0 s1 s2 h) := by
  have L_h := Lo.refl z
  delta f_X12_factor_207
  refine Lq.xpf L_h fun h1 L_h1 => ?_
  refine Lq.xgf fun _ => ?_
  refine Lq.xrd fun _ => ?_
  refine Lq.ite ?_ ?_
  exact Lq.tr L_h1 (lo_f_X12_factor_226 q_F_X12_factor q_F_X12_every q_F_X12_some h1 L_h1.1)
  exact Lq.tr L_h1 (lo_f_X12_factor_226 q_F_X12_factor q_F_X12_every q_F_X12_some h1 L_h1.1)
theorem lo_f_X12_factor_187 {F_X12_factor : Int → MM → RR} {F_X12_every : Int → MM → RR} {F_X12_some : Int → MM → RR} {n : Nat} {v0 : Int} {v2 : Int} {s0 : Int} {s1 : Int} (q_F_X12_factor : ∀ (a0 : Int) (h : MM), 100 ≤ nx h → Lq h (F_X12_factor a0 h)) (q_F_X12_every : ∀ (a0 : Int) (h : MM), 100 ≤ nx h → Lq h (F_X12_every a0 h)) (q_F_X12_some : ∀ (a0 : Int) (h : MM), 100 ≤ nx h → Lq h (F_X12_some a0 h)) (h : MM) (z : 100 ≤ nx h) : Lq h (f_X12_factor_187 F_X12_factor F_X12_every F_X12_some n v0 v2 s0 s1 h) := by
  have L_h := Lo.refl z
  delta f_X12_factor_187
  refine Lq.xck ?_
  refine Lq.xpf L_h fun h1 L_h1 => ?_
  refine Lq.xgf fun _ => ?_
  refine Lq.xgf fun _ => ?_
  refine Lq.ite ?_ ?_
  exact Lq.tr L_h1 (lo_f_X12_factor_207 q_F_X12_factor q_F_X12_every q_F_X12_some h1 L_h1.1)
  exact Lq.tr L_h1 (lo_f_X12_factor_207 q_F_X12_factor q_F_X12_every q_F_X12_some h1 L_h1.1)
theorem lo_f_X12_factor_182 {F_X12_factor : Int → MM → RR} {F_X12_every : Int → MM → RR} {F_X12_some : Int → MM → RR} {n : Nat} {v0 : Int} {v2 : Int} {s0 : Int} (q_F_X12_factor : ∀ (a0 : Int) (h : MM), 100 ≤ nx h → Lq h (F_X12_factor a0 h)) (q_F_X12_every : ∀ (a0 : Int) (h : MM), 100 ≤ nx h → Lq h (F_X12_every a0 h)) (q_F_X12_some : ∀ (a0 : Int) (h : MM), 100 ≤ nx h → Lq h (F_X12_some a0 h)) (h : MM) (z : 100 ≤ nx h) : Lq h (f_X12_factor_182 F_X12_factor F_X12_every F_X12_some n v0 v2 s0 h) := by
  have L_h := Lo.refl z
  delta f_X12_factor_182
  exact Lq.tr L_h (lo_f_X12_factor_187 q_F_X12_factor q_F_X12_every q_F_X12_some h L_h.1)
theorem lo_f_X12_factor_op {F_X12_factor : Int → MM → RR} {F_X12_every : Int → MM → RR} {F_X12_some : Int → MM → RR} {n : Nat} {v0 : Int} (q_F_X12_factor : ∀ (a0 : Int) (h : MM), 100 ≤ nx h → Lq h (F_X12_factor a0 h)) (q_F_X12_every : ∀ (a0 : Int) (h : MM), 100 ≤ nx h → Lq h (F_X12_every a0 h)) (q_F_X12_some : ∀ (a0 : Int) (h : MM), 100 ≤ nx h → Lq h (F_X12_some a0 h)) (h : MM) (z : 100 ≤ nx h) : Lq h (f_X12_factor_op F_X12_factor F_X12_every F_X12_some n v0 h) := by
  have L_h := Lo.refl z
  delta f_X12_factor_op
  refine Lq.xgf fun _ => ?_
  refine Lq.ite ?_ ?_
  refine Lq.xgk ?_
  refine Lq.xbd L_h (lo_f_X12_here h L_h.1) fun _ h3 L_h3 => ?_
  refine Lq.ite ?_ ?_
  exact Lq.tr L_h3 (lo_f_X12_factor_26 q_F_X12_factor q_F_X12_every q_F_X12_some h3 L_h3.1)
  refine Lq.ite ?_ ?_
  exact Lq.tr L_h3 (lo_f_X12_factor_26 q_F_X12_factor q_F_X12_every q_F_X12_some h3 L_h3.1)
  refine Lq.ite ?_ ?_
  refine Lq.xgf fun _ => ?_
  refine Lq.xpf L_h3 fun h13 L_h13 => ?_
  refine Lq.xgk ?_
  refine Lq.xbd L_h13 (lo_f_X12_must h13 L_h13.1) fun _ h14 L_h14 => ?_
  refine Lq.xgk ?_
  refine Lq.xbd L_h14 (lo_f_X12_here h14 L_h14.1) fun _ h15 L_h15 => ?_
  refine Lq.xlb fun _ => ?_
  refine Lq.xgf fun _ => ?_
  refine Lq.ite ?_ ?_
  refine Lq.xbd L_h15 (lo_f_X12_in h15 L_h15.1) fun _ h19 L_h19 => ?_
  refine Lq.ite ?_ ?_
  exact Lq.tr L_h19 (lo_f_X12_factor_182 q_F_X12_factor q_F_X12_every q_F_X12_some h19 L_h19.1)
  exact Lq.tr L_h19 (lo_f_X12_factor_187 q_F_X12_factor q_F_X12_every q_F_X12_some h19 L_h19.1)
  exact Lq.tr L_h15 (lo_f_X12_factor_182 q_F_X12_factor q_F_X12_every q_F_X12_some h15 L_h15.1)
  refine Lq.ite ?_ ?_
  exact Lq.tr L_h3 (lo_f_X12_factor_278 q_F_X12_factor q_F_X12_every q_F_X12_some h3 L_h3.1)
  refine Lq.ite ?_ ?_
  exact Lq.tr L_h3 (lo_f_X12_factor_278 q_F_X12_factor q_F_X12_every q_F_X12_some h3 L_h3.1)
  refine Lq.ite ?_ ?_
  exact Lq.tr L_h3 (lo_f_X12_factor_278 q_F_X12_factor q_F_X12_every q_F_X12_some h3 L_h3.1)
  refine Lq.ite ?_ ?_
  exact Lq.tr L_h3 (lo_f_X12_factor_278 q_F_X12_factor q_F_X12_every q_F_X12_some h3 L_h3.1)
  refine Lq.ite ?_ ?_
  exact Lq.tr L_h3 (lo_f_X12_factor_278 q_F_X12_factor q_F_X12_every q_F_X12_some h3 L_h3.1)
  exact Lq.tr L_h3 (lo_f_X12_factor_278 q_F_X12_factor q_F_X12_every q_F_X12_some h3 L_h3.1)
  refine Lq.xck ?_
  exact Lq.some L_h
theorem lo_f_X12_every_53 {F_X12_factor : Int → MM → RR} {F_X12_every : Int → MM → RR} {F_X12_some : Int → MM → RR} {n : Nat} {v1 : Int} (q_F_X12_factor : ∀ (a0 : Int) (h : MM), 100 ≤ nx h → Lq h (F_X12_factor a0 h)) (q_F_X12_every : ∀ (a0 : Int) (h : MM), 100 ≤ nx h → Lq h (F_X12_every a0 h)) (q_F_X12_some : ∀ (a0 : Int) (h : MM), 100 ≤ nx h → Lq h (F_X12_some a0 h)) (h : MM) (z : 100 ≤ nx h) : Lq h (f_X12_every_53 F_X12_factor F_X12_every F_X12_some n v1 h) := by
  have L_h := Lo.refl z
  delta f_X12_every_53
  refine Lq.xck ?_
  exact Lq.some L_h
theorem lo_f_X12_every_49 {F_X12_factor : Int → MM → RR} {F_X12_every : Int → MM → RR} {F_X12_some : Int → MM → RR} {n : Nat} {rec5 : Int → MM → RR} {v0 : Int} {s0 : Int} (q_F_X12_factor : ∀ (a0 : Int) (h : MM), 100 ≤ nx h → Lq h (F_X12_factor a0 h)) (q_F_X12_every : ∀ (a0 : Int) (h : MM), 100 ≤ nx h → Lq h (F_X12_every a0 h)) (q_F_X12_some : ∀ (a0 : Int) (h : MM), 100 ≤ nx h → Lq h (F_X12_some a0 h)) (q_rec5 : ∀ (a0 : Int) (h : MM), 100 ≤ nx h → Lq h (rec5 a0 h)) (h : MM) (z : 100 ≤ nx h) : Lq h (f_X12_every_49 F_X12_factor F_X12_every F_X12_some n rec5 v0 s0 h) := by
  have L_h := Lo.refl z
  delta f_X12_every_49
  exact Lq.tr L_h (q_rec5 _ h L_h.1)
theorem lo_f_X12_every_48 {F_X12_factor : Int → MM → RR} {F_X12_every : Int → MM → RR} {F_X12_some : Int → MM → RR} {n : Nat} {rec5 : Int → MM → RR} {v0 : Int} (q_F_X12_factor : ∀ (a0 : Int) (h : MM), 100 ≤ nx h → Lq h (F_X12_factor a0 h)) (q_F_X12_every : ∀ (a0 : Int) (h : MM), 100 ≤ nx h → Lq h (F_X12_every a0 h)) (q_F_X12_some : ∀ (a0 : Int) (h : MM), 100 ≤ nx h → Lq h (F_X12_some a0 h)) (q_rec5 : ∀ (a0 : Int) (h : MM), 100 ≤ nx h → Lq h (rec5 a0 h)) (h : MM) (z : 100 ≤ nx h) : Lq h (f_X12_every_48 F_X12_factor F_X12_every F_X12_some n rec5 v0 h) := by
  have L_h := Lo.refl z
  delta f_X12_every_48
  exact Lq.tr L_h (lo_f_X12_every_49 q_F_X12_factor q_F_X12_every q_F_X12_some q_rec5 h L_h.1)
theorem lo_f_X12_every_5b {F_X12_factor : Int → MM → RR} {F_X12_every : Int → MM → RR} {F_X12_some : Int → MM → RR} {n : Nat} {rec5 : Int → MM → RR} {v0 : Int} {v1 : Int} (q_F_X12_factor : ∀ (a0 : Int) (h : MM), 100 ≤ nx h → Lq h (F_X12_factor a0 h)) (q_F_X12_every : ∀ (a0 : Int) (h : MM), 100 ≤ nx h → Lq h (F_X12_every a0 h)) (q_F_X12_some : ∀ (a0 : Int) (h : MM), 100 ≤ nx h → Lq h (F_X12_some a0 h)) (q_rec5 : ∀ (a0 : Int) (h : MM), 100 ≤ nx h → Lq h (rec5 a0 h)) (h : MM) (z : 100 ≤ nx h) : Lq h (f_X12_every_5b F_X12_factor F_X12_every F_X12_some n rec5 v0 v1 h) := by
  have L_h := Lo.refl z
  delta f_X12_every_5b
  refine Lq.xgf fun _ => ?_
  refine Lq.ite ?_ ?_
  refine Lq.xgk ?_
  refine Lq.xbd L_h (lo_f_X12_here h L_h.1) fun _ h3 L_h3 => ?_
  refine Lq.ite ?_ ?_
  refine Lq.xgf fun _ => ?_
  refine Lq.xpf L_h3 fun h6 L_h6 => ?_
  refine Lq.xgk ?_
  refine Lq.xbd L_h6 (q_F_X12_factor _ h6 L_h6.1) fun _ h7 L_h7 => ?_
  refine Lq.ite ?_ ?_
  exact Lq.tr L_h7 (lo_f_X12_every_48 q_F_X12_factor q_F_X12_every q_F_X12_some q_rec5 h7 L_h7.1)
  refine Lq.ite ?_ ?_
  exact Lq.tr L_h7 (lo_f_X12_every_48 q_F_X12_factor q_F_X12_every q_F_X12_some q_rec5 h7 L_h7.1)
  exact Lq.tr L_h7 (lo_f_X12_every_49 q_F_X12_factor q_F_X12_every q_F_X12_some q_rec5 h7 L_h7.1)
  exact Lq.tr L_h3 (lo_f_X12_every_53 q_F_X12_factor q_F_X12_every q_F_X12_some h3 L_h3.1)
  exact Lq.tr L_h (lo_f_X12_every_53 q_F_X12_factor q_F_X12_every q_F_X12_some h L_h.1)
theorem lo_f_X12_every_5 {F_X12_factor : Int → MM → RR} {F_X12_every : Int → MM → RR} {F_X12_some : Int → MM → RR} {n : Nat} {v0 : Int} (q_F_X12_factor : ∀ (a0 : Int) (h : MM), 100 ≤ nx h → Lq h (F_X12_factor a0 h)) (q_F_X12_every : ∀ (a0 : Int) (h : MM), 100 ≤ nx h → Lq h (F_X12_every a0 h)) (q_F_X12_some : ∀ (a0 : Int) (h : MM), 100 ≤ nx h → Lq h (F_X12_some a0 h)) : ∀ (k : Nat) (v1 : Int) (h : MM), 100 ≤ nx h → Lq h (f_X12_every_5 F_X12_factor F_X12_every F_X12_some n v0 k v1 h)
  | 0, _, _, _ => Lq.none
  | k + 1, v1, h, z => lo_f_X12_every_5b q_F_X12_factor q_F_X12_every q_F_X12_some (fun b0 h z => lo_f_X12_every_5 q_F_X12_factor q_F_X12_every q_F_X12_some k b0 h z) h z
theorem lo_f_X12_every_op {F_X12_factor : Int → MM → RR} {F_X12_every : Int → MM → RR} {F_X12_some : Int → MM → RR} {n : Nat} {v0 : Int} (q_F_X12_factor : ∀ (a0 : Int) (h : MM), 100 ≤ nx h → Lq h (F_X12_factor a0 h)) (q_F_X12_every : ∀ (a0 : Int) (h : MM), 100 ≤ nx h → Lq h (F_X12_every a0 h)) (q_F_X12_some : ∀ (a0 : Int) (h : MM), 100 ≤ nx h → Lq h (F_X12_some a0 h)) (h : MM) (z : 100 ≤ nx h) : Lq h (f_X12_every_op F_X12_factor F_X12_every F_X12_some n v0 h) := by
  have L_h := Lo.refl z
  delta f_X12_every_op
  refine Lq.xgk ?_
  refine Lq.xbd L_h (q_F_X12_factor _ h L_h.1) fun _ h1 L_h1 => ?_
  exact Lq.tr L_h1 (lo_f_X12_every_5 q_F_X12_factor q_F_X12_every q_F_X12_some _ _ h1 L_h1.1)
theorem lo_f_X12_some_53 {F_X12_factor : Int → MM → RR} {F_X12_every : Int → MM → RR} {F_X12_some : Int → MM → RR} {n : Nat} {v1 : Int} (q_F_X12_factor : ∀ (a0 : Int) (h : MM), 100 ≤ nx h → Lq h (F_X12_factor a0 h)) (q_F_X12_every : ∀ (a0 : Int) (h : MM), 100 ≤ nx h → Lq h (F_X12_every a0 h)) (q_F_X12_some : ∀ (a0 : Int) (h : MM), 100 ≤ nx h → Lq h (F_X12_some a0 h)) (h : MM) (z : 100 ≤ nx h) : Lq h (f_X12_some_53 F_X12_factor F_X12_every F_X12_some n v1 h) := by
  have L_h := Lo.refl z
  delta f_X12_some_53
  refine Lq.xck ?_
  exact Lq.some L_h
theorem lo_f_X12_some_49 {F_X12_factor : Int → MM → RR} {F_X12_every : Int → MM → RR} {F_X12_some : Int → MM → RR} {n : Nat} {rec5 : Int → MM → RR} {v0 : Int} {s0 : Int} (q_F_X12_factor : ∀ (a0 : Int) (h : MM), 100 ≤ nx h → Lq h (F_X12_factor a0 h)) (q_F_X12_every : ∀ (a0 : Int) (h : MM), 100 ≤ nx h → Lq h (F_X12_every a0 h)) (q_F_X12_some : ∀ (a0 : Int) (h : MM), 100 ≤ nx h → Lq h (F_X12_some a0 h)) (q_rec5 : ∀ (a0 : Int) (h : MM), 100 ≤ nx h → Lq h (rec5 a0 h)) (h : MM) (z : 100 ≤ nx h) : Lq h (f_X12_some_49 F_X12_factor F_X12_every F_X12_some n rec5 v0 s0 h) := by
  have L_h := Lo.refl z
  delta f_X12_some_49
  exact Lq.tr L_h (q_rec5 _ h L_h.1)
theorem lo_f_X12_some_44 {F_X12_factor : Int → MM → RR} {F_X12_every : Int → MM → RR} {F_X12_some : Int → MM → RR} {n : Nat} {rec5 : Int → MM → RR} {v0 : Int} (q_F_X12_factor : ∀ (a0 : Int) (h : MM), 100 ≤ nx h → Lq h (F_X12_factor a0 h)) (q_F_X12_every : ∀ (a0 : Int) (h : MM), 100 ≤ nx h → Lq h (F_X12_every a0 h)) (q_F_X12_some : ∀ (a0 : Int) (h : MM), 100 ≤ nx h → Lq h (F_X12_some a0 h)) (q_rec5 : ∀ (a0 : Int) (h : MM), 100 ≤ nx h → Lq h (rec5 a0 h)) (h : MM) (z : 100 ≤ nx h) : Lq h (f_X12_some_44 F_X12_factor F_X12_every F_X12_some n rec5 v0 h) := by
  have L_h := Lo.refl z
  delta f_X12_some_44
  exact Lq.tr L_h (lo_f_X12_some_49 q_F_X12_factor q_F_X12_every q_F_X12_some q_rec5 h L_h.1)
theorem lo_f_X12_some_5b {F_X12_factor : Int → MM → RR} {F_X12_every : Int → MM → RR} {F_X12_some : Int → MM → RR} {n : Nat} {rec5 : Int → MM → RR} {v0 : Int} {v1 : Int} (q_F_X12_factor : ∀ (a0 : Int) (h : MM), 100 ≤ nx h → Lq h (F_X12_factor a0 h)) (q_F_X12_every : ∀ (a0 : Int) (h : MM), 100 ≤ nx h → Lq h (F_X12_every a0 h)) (q_F_X12_some : ∀ (a0 : Int) (h : MM), 100 ≤ nx h → Lq h (F_X12_some a0 h)) (q_rec5 : ∀ (a0 : Int) (h : MM), 100 ≤ nx h → Lq h (rec5 a0 h)) (h : MM) (z : 100 ≤ nx h) : Lq h (f_X12_some_5b F_X12_factor F_X12_every F_X12_some n rec5 v0 v1 h) := by
  have L_h := Lo.refl z
  delta f_X12_some_5b
  refine Lq.xgf fun _ => ?_
  refine Lq.ite ?_ ?_
  refine Lq.xgk ?_
  refine Lq.xbd L_h (lo_f_X12_here h L_h.1) fun _ h3 L_h3 => ?_
  refine Lq.ite ?_ ?_
  refine Lq.xgf fun _ => ?_
  refine Lq.xpf L_h3 fun h6 L_h6 => ?_
  refine Lq.xgk ?_
  refine Lq.xbd L_h6 (q_F_X12_every _ h6 L_h6.1) fun _ h7 L_h7 => ?_
  refine Lq.ite ?_ ?_
  refine Lq.ite ?_ ?_
  exact Lq.tr L_h7 (lo_f_X12_some_49 q_F_X12_factor q_F_X12_every q_F_X12_some q_rec5 h7 L_h7.1)
  exact Lq.tr L_h7 (lo_f_X12_some_44 q_F_X12_factor q_F_X12_every q_F_X12_some q_rec5 h7 L_h7.1)
  exact Lq.tr L_h7 (lo_f_X12_some_44 q_F_X12_factor q_F_X12_every q_F_X12_some q_rec5 h7 L_h7.1)
  exact Lq.tr L_h3 (lo_f_X12_some_53 q_F_X12_factor q_F_X12_every q_F_X12_some h3 L_h3.1)
  exact Lq.tr L_h (lo_f_X12_some_53 q_F_X12_factor q_F_X12_every q_F_X12_some h L_h.1)
theorem lo_f_X12_some_5 {F_X12_factor : Int → MM → RR} {F_X12_every : Int → MM → RR} {F_X12_some : Int → MM → RR} {n : Nat} {v0 : Int} (q_F_X12_factor : ∀ (a0 : Int) (h : MM), 100 ≤ nx h → Lq h (F_X12_factor a0 h)) (q_F_X12_every : ∀ (a0 : Int) (h : MM), 100 ≤ nx h → Lq h (F_X12_every a0 h)) (q_F_X12_some : ∀ (a0 : Int) (h : MM), 100 ≤ nx h → Lq h (F_X12_some a0 h)) : ∀ (k : Nat) (v1 : Int) (h : MM), 100 ≤ nx h → Lq h (f_X12_some_5 F_X12_factor F_X12_every F_X12_some n v0 k v1 h)
  | 0, _, _, _ => Lq.none
  | k + 1, v1, h, z => lo_f_X12_some_5b q_F_X12_factor q_F_X12_every q_F_X12_some (fun b0 h z => lo_f_X12_some_5 q_F_X12_factor q_F_X12_every q_F_X12_some k b0 h z) h z
theorem lo_f_X12_some_op {F_X12_factor : Int → MM → RR} {F_X12_every : Int → MM → RR} {F_X12_some : Int → MM → RR} {n : Nat} {v0 : Int} (q_F_X12_factor : ∀ (a0 : Int) (h : MM), 100 ≤ nx h → Lq h (F_X12_factor a0 h)) (q_F_X12_every : ∀ (a0 : Int) (h : MM), 100 ≤ nx h → Lq h (F_X12_every a0 h)) (q_F_X12_some : ∀ (a0 : Int) (h : MM), 100 ≤ nx h → Lq h (F_X12_some a0 h)) (h : MM) (z : 100 ≤ nx h) : Lq h (f_X12_some_op F_X12_factor F_X12_every F_X12_some n v0 h) := by
  have L_h := Lo.refl z
  delta f_X12_some_op
  refine Lq.xgk ?_
  refine Lq.xbd L_h (q_F_X12_every _ h L_h.1) fun _ h1 L_h1 => ?_
  exact Lq.tr L_h1 (lo_f_X12_some_5 q_F_X12_factor q_F_X12_every q_F_X12_some _ _ h1 L_h1.1)
theorem lo_t_X12_factor (n : Nat) : ∀ k : Nat, (∀ (a0 : Int) (h : MM), 100 ≤ nx h → Lq h ((t_X12_factor n k).1 a0 h)) ∧ (∀ (a0 : Int) (h : MM), 100 ≤ nx h → Lq h ((t_X12_factor n k).2.1 a0 h)) ∧ (∀ (a0 : Int) (h : MM), 100 ≤ nx h → Lq h ((t_X12_factor n k).2.2 a0 h))
  | 0 => ⟨fun _ _ _ => Lq.none, fun _ _ _ => Lq.none, fun _ _ _ => Lq.none⟩
  | k + 1 => by
    have p := lo_t_X12_factor n k
    exact ⟨fun _ h z => lo_f_X12_factor_op p.1 p.2.1 p.2.2 h z, fun _ h z => lo_f_X12_every_op p.1 p.2.1 p.2.2 h z, fun _ h z => lo_f_X12_some_op p.1 p.2.1 p.2.2 h z⟩
theorem lo_f_X12_factor {n : Nat} (a0 : Int) (h : MM) (z : 100 ≤ nx h) : Lq h (f_X12_factor n a0 h) := (lo_t_X12_factor n 26).1 a0 h z
theorem lo_f_X12_every {n : Nat} (a0 : Int) (h : MM) (z : 100 ≤ nx h) : Lq h (f_X12_every n a0 h) := (lo_t_X12_factor n 26).2.1 a0 h z
theorem lo_f_X12_some {n : Nat} (a0 : Int) (h : MM) (z : 100 ≤ nx h) : Lq h (f_X12_some n a0 h) := (lo_t_X12_factor n 26).2.2 a0 h z
theorem lo_f_X12_reads_174 {n : Nat} {v0 : Int} {v1 : Int} (h : MM) (z : 100 ≤ nx h) : Lq h (f_X12_reads_174 n v0 v1 h) := by
  have L_h := Lo.refl z
  delta f_X12_reads_174
  refine Lq.xgf fun _ => ?_
  refine Lq.xrd fun _ => ?_
  refine Lq.xwt L_h fun h3 L_h3 => ?_
  exact Lq.some L_h3
theorem lo_f_X12_reads_130 {n : Nat} {v0 : Int} {v1 : Int} {s0 : Int} {s1 : Int} {s2 : Int} (h : MM) (z : 100 ≤ nx h) : Lq h (f_X12_reads_130 n v0 v1 s0 s1 s2 h) := by
  have L_h := Lo.refl z
  delta f_X12_reads_130
  refine Lq.xwt L_h fun h1 L_h1 => ?_
  exact Lq.tr L_h1 (lo_f_X12_reads_174 h1 L_h1.1)
theorem lo_f_X12_reads_105 {n : Nat} {v0 : Int} {v1 : Int} {v2 : Int} {v4 : Int} {s0 : Int} {s1 : Int} {s2 : Int} (h : MM) (z : 100 ≤ nx h) : Lq h (f_X12_reads_105 n v0 v1 v2 v4 s0 s1 s2 h) := by
  have L_h := Lo.refl z
  delta f_X12_reads_105
  refine Lq.xpf L_h fun h1 L_h1 => ?_
  refine Lq.xgf fun _ => ?_
  refine Lq.ite ?_ ?_
  exact Lq.tr L_h1 (lo_f_X12_reads_130 h1 L_h1.1)
  exact Lq.tr L_h1 (lo_f_X12_reads_130 h1 L_h1.1)
theorem lo_f_X12_reads_85 {n : Nat} {v0 : Int} {v1 : Int} {v2 : Int} {v4 : Int} {s0 : Int} {s1 : Int} (h : MM) (z : 100 ≤ nx h) : Lq h (f_X12_reads_85 n v0 v1 v2 v4 s0 s1 h) := by
  have L_h := Lo.refl z
  delta f_X12_reads_85
  refine Lq.xck ?_
  refine Lq.xpf L_h fun h1 L_h1 => ?_
  refine Lq.xgf fun _ => ?_
  refine Lq.xgf fun _ => ?_
  refine Lq.ite ?_ ?_
  exact Lq.tr L_h1 (lo_f_X12_reads_105 h1 L_h1.1)
  exact Lq.tr L_h1 (lo_f_X12_reads_105 h1 L_h1.1)
theorem lo_f_X12_reads_84 {n : Nat} {v0 : Int} {v1 : Int} {v2 : Int} {v4 : Int} {s0 : Int} (h : MM) (z : 100 ≤ nx h) : Lq h (f_X12_reads_84 n v0 v1 v2 v4 s0 h) := by
  have L_h := Lo.refl z
  delta f_X12_reads_84
  exact Lq.tr L_h (lo_f_X12_reads_85 h L_h.1)
theorem lo_f_X12_reads {n : Nat} {v0 : Int} {v1 : Int} (h : MM) (z : 100 ≤ nx h) : Lq h (f_X12_reads n v0 v1 h) := by
  have L_h := Lo.refl z
  delta f_X12_reads
  refine Lq.xgf fun _ => ?_
  refine Lq.xrd fun _ => ?_
  refine Lq.xlb fun _ => ?_
  refine Lq.xgk ?_
  refine Lq.xbd L_h (lo_f_X12_oneWord h L_h.1) fun _ h4 L_h4 => ?_
  refine Lq.xgf fun _ => ?_
  refine Lq.ite ?_ ?_
  refine Lq.xgf fun _ => ?_
  refine Lq.xwt L_h4 fun h8 L_h8 => ?_
  refine Lq.xgf fun _ => ?_
  refine Lq.xgf fun _ => ?_
  refine Lq.xwt L_h8 fun h11 L_h11 => ?_
  refine Lq.ite ?_ ?_
  refine Lq.xgk ?_
  refine Lq.xbd L_h11 (lo_f_X12_here h11 L_h11.1) fun _ h20 L_h20 => ?_
  refine Lq.ite ?_ ?_
  exact Lq.tr L_h20 (lo_f_X12_reads_84 h20 L_h20.1)
  refine Lq.ite ?_ ?_
  exact Lq.tr L_h20 (lo_f_X12_reads_84 h20 L_h20.1)
  exact Lq.tr L_h20 (lo_f_X12_reads_85 h20 L_h20.1)
  refine Lq.ite ?_ ?_
  refine Lq.xgk ?_
  refine Lq.xbd L_h11 (lo_f_X12_some _ h11 L_h11.1) fun _ h17 L_h17 => ?_
  refine Lq.xgf fun _ => ?_
  refine Lq.xwt L_h17 fun h19 L_h19 => ?_
  exact Lq.tr L_h19 (lo_f_X12_reads_174 h19 L_h19.1)
  refine Lq.xgf fun _ => ?_
  refine Lq.xgk ?_
  refine Lq.xbd L_h11 (lo_f_X12_number h11 L_h11.1) fun _ h15 L_h15 => ?_
  refine Lq.xwt L_h15 fun h16 L_h16 => ?_
  exact Lq.tr L_h16 (lo_f_X12_reads_174 h16 L_h16.1)
  exact Lq.some L_h4
theorem lo_f_X12_readsOrder_208 {n : Nat} {s0 : Int} (h : MM) (z : 100 ≤ nx h) : Lq h (f_X12_readsOrder_208 n s0 h) := by
  have L_h := Lo.refl z
  delta f_X12_readsOrder_208
  refine Lq.xck ?_
  exact Lq.some L_h
theorem lo_f_X12_readsOrder_193 {n : Nat} {v0 : Int} {s0 : Int} {s1 : Int} (h : MM) (z : 100 ≤ nx h) : Lq h (f_X12_readsOrder_193 n v0 s0 s1 h) := by
  have L_h := Lo.refl z
  delta f_X12_readsOrder_193
  refine Lq.xck ?_
  refine Lq.xpf L_h fun h1 L_h1 => ?_
  refine Lq.xgf fun _ => ?_
  refine Lq.ite ?_ ?_
  exact Lq.tr L_h1 (lo_f_X12_readsOrder_208 h1 L_h1.1)
  exact Lq.tr L_h1 (lo_f_X12_readsOrder_208 h1 L_h1.1)
theorem lo_f_X12_readsOrder_188 {n : Nat} {v0 : Int} {s0 : Int} (h : MM) (z : 100 ≤ nx h) : Lq h (f_X12_readsOrder_188 n v0 s0 h) := by
  have L_h := Lo.refl z
  delta f_X12_readsOrder_188
  exact Lq.tr L_h (lo_f_X12_readsOrder_193 h L_h.1)
theorem lo_f_X12_readsOrder_163 {n : Nat} {v0 : Int} {v1 : Int} (h : MM) (z : 100 ≤ nx h) : Lq h (f_X12_readsOrder_163 n v0 v1 h) := by
  have L_h := Lo.refl z
  delta f_X12_readsOrder_163
  refine Lq.xgf fun _ => ?_
  refine Lq.ite ?_ ?_
  refine Lq.xgf fun _ => ?_
  refine Lq.xgf fun _ => ?_
  refine Lq.xrd fun _ => ?_
  refine Lq.ite ?_ ?_
  exact Lq.tr L_h (lo_f_X12_readsOrder_193 h L_h.1)
  exact Lq.tr L_h (lo_f_X12_readsOrder_188 h L_h.1)
  exact Lq.tr L_h (lo_f_X12_readsOrder_188 h L_h.1)
theorem lo_f_X12_readsOrder_114b {n : Nat} {rec114 : MM → RR} {v0 : Int} {v1 : Int} (q_rec114 : ∀ (h : MM), 100 ≤ nx h → Lq h (rec114 h)) (h : MM) (z : 100 ≤ nx h) : Lq h (f_X12_readsOrder_114b n rec114 v0 v1 h) := by
  have L_h := Lo.refl z
  delta f_X12_readsOrder_114b
  refine Lq.xgf fun _ => ?_
  refine Lq.ite ?_ ?_
  refine Lq.xgf fun _ => ?_
  refine Lq.xrd fun _ => ?_
  refine Lq.ite ?_ ?_
  exact Lq.tr L_h (lo_f_X12_readsOrder_163 h L_h.1)
  refine Lq.xgk ?_
  refine Lq.xbd L_h (lo_f_X12_here h L_h.1) fun _ h6 L_h6 => ?_
  refine Lq.ite ?_ ?_
  refine Lq.xgf fun _ => ?_
  refine Lq.xpf L_h6 fun h9 L_h9 => ?_
  refine Lq.xgk ?_
  refine Lq.xbd L_h9 (lo_f_X12_reads h9 L_h9.1) fun _ h10 L_h10 => ?_
  exact Lq.tr L_h10 (q_rec114 h10 L_h10.1)
  exact Lq.tr L_h6 (lo_f_X12_readsOrder_163 h6 L_h6.1)
  exact Lq.tr L_h (lo_f_X12_readsOrder_163 h L_h.1)
theorem lo_f_X12_readsOrder_114 {n : Nat} {v0 : Int} {v1 : Int} : ∀ (k : Nat) (h : MM), 100 ≤ nx h → Lq h (f_X12_readsOrder_114 n v0 v1 k h)
  | 0, _, _ => Lq.none
  | k + 1, h, z => lo_f_X12_readsOrder_114b (fun  h z => lo_f_X12_readsOrder_114 k h z) h z
theorem lo_f_X12_readsOrder_29b {n : Nat} {rec29 : Int → MM → RR} {v0 : Int} {v1 : Int} {v3 : Int} (q_rec29 : ∀ (a0 : Int) (h : MM), 100 ≤ nx h → Lq h (rec29 a0 h)) (h : MM) (z : 100 ≤ nx h) : Lq h (f_X12_readsOrder_29b n rec29 v0 v1 v3 h) := by
  have L_h := Lo.refl z
  delta f_X12_readsOrder_29b
  refine Lq.xgf fun _ => ?_
  refine Lq.xrd fun _ => ?_
  refine Lq.ite ?_ ?_
  refine Lq.xgf fun _ => ?_
  refine Lq.xwt L_h fun h5 L_h5 => ?_
  refine Lq.xgf fun _ => ?_
  refine Lq.xwt L_h5 fun h7 L_h7 => ?_
  refine Lq.xpf L_h7 fun h8 L_h8 => ?_
  refine Lq.xpf L_h8 fun h9 L_h9 => ?_
  refine Lq.xpf L_h9 fun h10 L_h10 => ?_
  refine Lq.xck ?_
  refine Lq.xpf L_h10 fun h11 L_h11 => ?_
  refine Lq.xgk ?_
  refine Lq.xbd L_h11 (lo_f_X12_reads h11 L_h11.1) fun _ h13 L_h13 => ?_
  exact Lq.tr L_h13 (lo_f_X12_readsOrder_114 _ h13 L_h13.1)
  refine Lq.xgf fun _ => ?_
  refine Lq.xgf fun _ => ?_
  refine Lq.xrd fun _ => ?_
  refine Lq.xwt L_h fun h17 L_h17 => ?_
  refine Lq.xlb fun _ => ?_
  exact Lq.tr L_h17 (q_rec29 _ h17 L_h17.1)
theorem lo_f_X12_readsOrder_29 {n : Nat} {v0 : Int} {v1 : Int} : ∀ (k : Nat) (v3 : Int) (h : MM), 100 ≤ nx h → Lq h (f_X12_readsOrder_29 n v0 v1 k v3 h)
  | 0, _, _, _ => Lq.none
  | k + 1, v3, h, z => lo_f_X12_readsOrder_29b (fun b0 h z => lo_f_X12_readsOrder_29 k b0 h z) h z
theorem lo_f_X12_readsOrder {n : Nat} {v0 : Int} {v1 : Int} {v2 : Int} (h : MM) (z : 100 ≤ nx h) : Lq h (f_X12_readsOrder n v0 v1 v2 h) := by
  have L_h := Lo.refl z
  delta f_X12_readsOrder
  refine Lq.xgf fun _ => ?_
  refine Lq.xwt L_h fun h2 L_h2 => ?_
  refine Lq.xgf fun _ => ?_
  refine Lq.xgf fun _ => ?_
  refine Lq.xrd fun _ => ?_
  refine Lq.xwt L_h2 fun h6 L_h6 => ?_
  exact Lq.tr L_h6 (lo_f_X12_readsOrder_29 _ _ h6 L_h6.1)
theorem lo_f_X12_text {n : Nat} {v0 : Int} {v1 : Int} (h : MM) (z : 100 ≤ nx h) : Lq h (f_X12_text n v0 v1 h) := by
  have L_h := Lo.refl z
  delta f_X12_text
  refine Lq.xbd L_h (lo_f_X12_isDay h L_h.1) fun _ h1 L_h1 => ?_
  refine Lq.ite ?_ ?_
  exact Lq.some L_h1
  refine Lq.xgf fun _ => ?_
  refine Lq.xrd fun _ => ?_
  refine Lq.ite ?_ ?_
  exact Lq.some L_h1
  refine Lq.xgf fun _ => ?_
  refine Lq.xrd fun _ => ?_
  refine Lq.xgk ?_
  refine Lq.xbd L_h1 (lo_f_X12_readsOrder h1 L_h1.1) fun _ h8 L_h8 => ?_
  refine Lq.ite ?_ ?_
  refine Lq.xgf fun _ => ?_
  exact Lq.some L_h8
  refine Lq.xgf fun _ => ?_
  refine Lq.xrd fun _ => ?_
  refine Lq.xwt L_h8 fun h12 L_h12 => ?_
  refine Lq.xgf fun _ => ?_
  refine Lq.xrd fun _ => ?_
  exact Lq.some L_h12
theorem lo_f_X12_ruling_134 {n : Nat} {rec5 : Int → Int → MM → RR} {v0 : Int} {v1 : Int} {v2 : Int} {v3 : Int} {v4 : Int} (q_rec5 : ∀ (a0 a1 : Int) (h : MM), 100 ≤ nx h → Lq h (rec5 a0 a1 h)) (h : MM) (z : 100 ≤ nx h) : Lq h (f_X12_ruling_134 n rec5 v0 v1 v2 v3 v4 h) := by
  have L_h := Lo.refl z
  delta f_X12_ruling_134
  refine Lq.xlb fun _ => ?_
  exact Lq.tr L_h (q_rec5 _ _ h L_h.1)
theorem lo_f_X12_ruling_127 {n : Nat} {rec5 : Int → Int → MM → RR} {rec19 : Int → Int → MM → RR} {v0 : Int} {v1 : Int} {v2 : Int} {v4 : Int} {v5 : Int} {s0 : Int} (q_rec5 : ∀ (a0 a1 : Int) (h : MM), 100 ≤ nx h → Lq h (rec5 a0 a1 h)) (q_rec19 : ∀ (a0 a1 : Int) (h : MM), 100 ≤ nx h → Lq h (rec19 a0 a1 h)) (h : MM) (z : 100 ≤ nx h) : Lq h (f_X12_ruling_127 n rec5 rec19 v0 v1 v2 v4 v5 s0 h) := by
  have L_h := Lo.refl z
  delta f_X12_ruling_127
  refine Lq.xlb fun _ => ?_
  exact Lq.tr L_h (q_rec19 _ _ h L_h.1)
theorem lo_f_X12_ruling_108 {n : Nat} {rec5 : Int → Int → MM → RR} {rec19 : Int → Int → MM → RR} {v0 : Int} {v1 : Int} {v2 : Int} {v3 : Int} {v4 : Int} {v5 : Int} {s0 : Int} (q_rec5 : ∀ (a0 a1 : Int) (h : MM), 100 ≤ nx h → Lq h (rec5 a0 a1 h)) (q_rec19 : ∀ (a0 a1 : Int) (h : MM), 100 ≤ nx h → Lq h (rec19 a0 a1 h)) (h : MM) (z : 100 ≤ nx h) : Lq h (f_X12_ruling_108 n rec5 rec19 v0 v1 v2 v3 v4 v5 s0 h) := by
  have L_h := Lo.refl z
  delta f_X12_ruling_108
  refine Lq.ite ?_ ?_
  exact Lq.tr L_h (lo_f_X12_ruling_127 q_rec5 q_rec19 h L_h.1)
  exact Lq.tr L_h (lo_f_X12_ruling_127 q_rec5 q_rec19 h L_h.1)
theorem lo_f_X12_ruling_107 {n : Nat} {rec5 : Int → Int → MM → RR} {rec19 : Int → Int → MM → RR} {v0 : Int} {v1 : Int} {v2 : Int} {v3 : Int} {v4 : Int} {v5 : Int} (q_rec5 : ∀ (a0 a1 : Int) (h : MM), 100 ≤ nx h → Lq h (rec5 a0 a1 h)) (q_rec19 : ∀ (a0 a1 : Int) (h : MM), 100 ≤ nx h → Lq h (rec19 a0 a1 h)) (h : MM) (z : 100 ≤ nx h) : Lq h (f_X12_ruling_107 n rec5 rec19 v0 v1 v2 v3 v4 v5 h) := by
  have L_h := Lo.refl z
  delta f_X12_ruling_107
  exact Lq.tr L_h (lo_f_X12_ruling_108 q_rec5 q_rec19 h L_h.1)
theorem lo_f_X12_ruling_103 {n : Nat} {rec5 : Int → Int → MM → RR} {rec19 : Int → Int → MM → RR} {v0 : Int} {v1 : Int} {v2 : Int} {v3 : Int} {v4 : Int} {v5 : Int} (q_rec5 : ∀ (a0 a1 : Int) (h : MM), 100 ≤ nx h → Lq h (rec5 a0 a1 h)) (q_rec19 : ∀ (a0 a1 : Int) (h : MM), 100 ≤ nx h → Lq h (rec19 a0 a1 h)) (h : MM) (z : 100 ≤ nx h) : Lq h (f_X12_ruling_103 n rec5 rec19 v0 v1 v2 v3 v4 v5 h) := by
  have L_h := Lo.refl z
  delta f_X12_ruling_103
  exact Lq.tr L_h (lo_f_X12_ruling_108 q_rec5 q_rec19 h L_h.1)
theorem lo_f_X12_ruling_19b {n : Nat} {rec5 : Int → Int → MM → RR} {rec19 : Int → Int → MM → RR} {v0 : Int} {v1 : Int} {v2 : Int} {v3 : Int} {v4 : Int} {v5 : Int} (q_rec5 : ∀ (a0 a1 : Int) (h : MM), 100 ≤ nx h → Lq h (rec5 a0 a1 h)) (q_rec19 : ∀ (a0 a1 : Int) (h : MM), 100 ≤ nx h → Lq h (rec19 a0 a1 h)) (h : MM) (z : 100 ≤ nx h) : Lq h (f_X12_ruling_19b n rec5 rec19 v0 v1 v2 v3 v4 v5 h) := by
  have L_h := Lo.refl z
  delta f_X12_ruling_19b
  refine Lq.xgf fun _ => ?_
  refine Lq.xrd fun _ => ?_
  refine Lq.ite ?_ ?_
  exact Lq.tr L_h (lo_f_X12_ruling_134 q_rec5 h L_h.1)
  refine Lq.xgf fun _ => ?_
  refine Lq.xrd fun _ => ?_
  refine Lq.ite ?_ ?_
  exact Lq.tr L_h (lo_f_X12_ruling_134 q_rec5 h L_h.1)
  refine Lq.xgf fun _ => ?_
  refine Lq.xrd fun _ => ?_
  refine Lq.ite ?_ ?_
  refine Lq.ite ?_ ?_
  exact Lq.tr L_h (lo_f_X12_ruling_103 q_rec5 q_rec19 h L_h.1)
  refine Lq.xgf fun _ => ?_
  refine Lq.xrd fun _ => ?_
  refine Lq.xgf fun _ => ?_
  refine Lq.xrd fun _ => ?_
  refine Lq.ite ?_ ?_
  exact Lq.tr L_h (lo_f_X12_ruling_107 q_rec5 q_rec19 h L_h.1)
  exact Lq.tr L_h (lo_f_X12_ruling_103 q_rec5 q_rec19 h L_h.1)
  exact Lq.tr L_h (lo_f_X12_ruling_107 q_rec5 q_rec19 h L_h.1)
theorem lo_f_X12_ruling_19 {n : Nat} {rec5 : Int → Int → MM → RR} {v0 : Int} {v1 : Int} {v2 : Int} {v4 : Int} (q_rec5 : ∀ (a0 a1 : Int) (h : MM), 100 ≤ nx h → Lq h (rec5 a0 a1 h)) : ∀ (k : Nat) (v3 v5 : Int) (h : MM), 100 ≤ nx h → Lq h (f_X12_ruling_19 n rec5 v0 v1 v2 v4 k v3 v5 h)
  | 0, _, _, _, _ => Lq.none
  | k + 1, v3, v5, h, z => lo_f_X12_ruling_19b q_rec5 (fun b0 b1 h z => lo_f_X12_ruling_19 q_rec5 k b0 b1 h z) h z
theorem lo_f_X12_ruling_5b {n : Nat} {rec5 : Int → Int → MM → RR} {v0 : Int} {v1 : Int} {v2 : Int} {v3 : Int} {v4 : Int} (q_rec5 : ∀ (a0 a1 : Int) (h : MM), 100 ≤ nx h → Lq h (rec5 a0 a1 h)) (h : MM) (z : 100 ≤ nx h) : Lq h (f_X12_ruling_5b n rec5 v0 v1 v2 v3 v4 h) := by
  have L_h := Lo.refl z
  delta f_X12_ruling_5b
  refine Lq.xgf fun _ => ?_
  refine Lq.xrd fun _ => ?_
  refine Lq.ite ?_ ?_
  exact Lq.some L_h
  exact Lq.tr L_h (lo_f_X12_ruling_19 q_rec5 _ _ _ h L_h.1)
theorem lo_f_X12_ruling_5 {n : Nat} {v0 : Int} {v1 : Int} {v2 : Int} : ∀ (k : Nat) (v3 v4 : Int) (h : MM), 100 ≤ nx h → Lq h (f_X12_ruling_5 n v0 v1 v2 k v3 v4 h)
  | 0, _, _, _, _ => Lq.none
  | k + 1, v3, v4, h, z => lo_f_X12_ruling_5b (fun b0 b1 h z => lo_f_X12_ruling_5 k b0 b1 h z) h z
theorem lo_f_X12_ruling {n : Nat} {v0 : Int} {v1 : Int} {v2 : Int} (h : MM) (z : 100 ≤ nx h) : Lq h (f_X12_ruling n v0 v1 v2 h) := by
  have L_h := Lo.refl z
  delta f_X12_ruling
  exact Lq.tr L_h (lo_f_X12_ruling_5 _ _ _ h L_h.1)
theorem lo_f_X12_rule {n : Nat} {v0 : Int} {v1 : Int} {v2 : Int} (h : MM) (z : 100 ≤ nx h) : Lq h (f_X12_rule n v0 v1 v2 h) := by
  have L_h := Lo.refl z
  delta f_X12_rule
  refine Lq.xgk ?_
  refine Lq.xbd L_h (lo_f_X12_ruling h L_h.1) fun _ h1 L_h1 => ?_
  refine Lq.ite ?_ ?_
  refine Lq.ite ?_ ?_
  exact Lq.some L_h1
  refine Lq.ite ?_ ?_
  exact Lq.some L_h1
  refine Lq.ite ?_ ?_
  exact Lq.some L_h1
  refine Lq.ite ?_ ?_
  exact Lq.some L_h1
  refine Lq.ite ?_ ?_
  exact Lq.some L_h1
  refine Lq.ite ?_ ?_
  exact Lq.some L_h1
  exact Lq.some L_h1
  refine Lq.xgf fun _ => ?_
  refine Lq.xrd fun _ => ?_
  exact Lq.some L_h1
theorem lo_f_X12_force_32 {n : Nat} {s0 : Int} (h : MM) (z : 100 ≤ nx h) : Lq h (f_X12_force_32 n s0 h) := by
  have L_h := Lo.refl z
  delta f_X12_force_32
  exact Lq.some L_h
theorem lo_f_X12_force {n : Nat} {v0 : Int} {v1 : Int} {v2 : Int} (h : MM) (z : 100 ≤ nx h) : Lq h (f_X12_force n v0 v1 v2 h) := by
  have L_h := Lo.refl z
  delta f_X12_force
  refine Lq.xbd L_h (lo_f_X12_in h L_h.1) fun _ h1 L_h1 => ?_
  refine Lq.ite ?_ ?_
  exact Lq.tr L_h1 (lo_f_X12_force_32 h1 L_h1.1)
  refine Lq.xbd L_h1 (lo_f_X12_isDay h1 L_h1.1) fun _ h3 L_h3 => ?_
  refine Lq.ite ?_ ?_
  exact Lq.tr L_h3 (lo_f_X12_force_32 h3 L_h3.1)
  refine Lq.xgk ?_
  refine Lq.xbd L_h3 (lo_f_X12_rule h3 L_h3.1) fun _ h5 L_h5 => ?_
  exact Lq.tr L_h5 (lo_f_X12_force_32 h5 L_h5.1)
theorem lo_f_X12_why_51 {n : Nat} {s0 : Int} (h : MM) (z : 100 ≤ nx h) : Lq h (f_X12_why_51 n s0 h) := by
  have L_h := Lo.refl z
  delta f_X12_why_51
  exact Lq.some L_h
theorem lo_f_X12_why {n : Nat} {v0 : Int} {v1 : Int} {v2 : Int} (h : MM) (z : 100 ≤ nx h) : Lq h (f_X12_why n v0 v1 v2 h) := by
  have L_h := Lo.refl z
  delta f_X12_why
  refine Lq.xbd L_h (lo_f_X12_in h L_h.1) fun _ h1 L_h1 => ?_
  refine Lq.ite ?_ ?_
  exact Lq.some L_h1
  refine Lq.xbd L_h1 (lo_f_X12_isDay h1 L_h1.1) fun _ h3 L_h3 => ?_
  refine Lq.ite ?_ ?_
  exact Lq.some L_h3
  refine Lq.xgk ?_
  refine Lq.xbd L_h3 (lo_f_X12_ruling h3 L_h3.1) fun _ h5 L_h5 => ?_
  refine Lq.ite ?_ ?_
  exact Lq.tr L_h5 (lo_f_X12_why_51 h5 L_h5.1)
  exact Lq.tr L_h5 (lo_f_X12_why_51 h5 L_h5.1)
theorem lo_f_X12_isTown {n : Nat} {v0 : Int} {v1 : Int} (h : MM) (z : 100 ≤ nx h) : Lq h (f_X12_isTown n v0 v1 h) := by
  have L_h := Lo.refl z
  delta f_X12_isTown
  refine Lq.xgf fun _ => ?_
  refine Lq.xrd fun _ => ?_
  refine Lq.xbd L_h (lo_f_X12_in h L_h.1) fun _ h3 L_h3 => ?_
  refine Lq.xck ?_
  exact Lq.some L_h3
theorem lo_f_X12_paper {n : Nat} {v0 : Int} {v1 : Int} {v2 : Int} {v3 : Int} {v4 : Int} {v5 : Int} {v6 : Int} (h : MM) (z : 100 ≤ nx h) : Lq h (f_X12_paper n v0 v1 v2 v3 v4 v5 v6 h) := by
  have L_h := Lo.refl z
  delta f_X12_paper
  refine Lq.xgf fun _ => ?_
  refine Lq.xrd fun _ => ?_
  refine Lq.xgf fun _ => ?_
  refine Lq.xwt L_h fun h4 L_h4 => ?_
  refine Lq.xgf fun _ => ?_
  refine Lq.xwt L_h4 fun h6 L_h6 => ?_
  refine Lq.xgf fun _ => ?_
  refine Lq.xgf fun _ => ?_
  refine Lq.xrd fun _ => ?_
  refine Lq.xwt L_h6 fun h10 L_h10 => ?_
  refine Lq.xgf fun _ => ?_
  refine Lq.xwt L_h10 fun h12 L_h12 => ?_
  refine Lq.xgf fun _ => ?_
  refine Lq.xwt L_h12 fun h14 L_h14 => ?_
  refine Lq.xgf fun _ => ?_
  refine Lq.xwt L_h14 fun h16 L_h16 => ?_
  refine Lq.xgf fun _ => ?_
  refine Lq.xwt L_h16 fun h18 L_h18 => ?_
  refine Lq.xgf fun _ => ?_
  refine Lq.xwt L_h18 fun h20 L_h20 => ?_
  refine Lq.xgf fun _ => ?_
  refine Lq.xrd fun _ => ?_
  refine Lq.xwt L_h20 fun h23 L_h23 => ?_
  exact Lq.some L_h23
theorem lo_f_X12_scheme_16 {n : Nat} (h : MM) (z : 100 ≤ nx h) : Lq h (f_X12_scheme_16 n h) := by
  have L_h := Lo.refl z
  delta f_X12_scheme_16
  exact Lq.some L_h
theorem lo_f_X12_scheme_43 {n : Nat} (h : MM) (z : 100 ≤ nx h) : Lq h (f_X12_scheme_43 n h) := by
  have L_h := Lo.refl z
  delta f_X12_scheme_43
  exact Lq.some L_h
theorem lo_f_X12_scheme_69 {n : Nat} (h : MM) (z : 100 ≤ nx h) : Lq h (f_X12_scheme_69 n h) := by
  have L_h := Lo.refl z
  delta f_X12_scheme_69
  exact Lq.some L_h
theorem lo_f_X12_scheme_182 {n : Nat} {rec146 : Int → MM → RR} {v0 : Int} {v4 : Int} {v5 : Int} {v6 : Int} {v7 : Int} {s0 : Int} {s1 : Int} {s2 : Int} (q_rec146 : ∀ (a0 : Int) (h : MM), 100 ≤ nx h → Lq h (rec146 a0 h)) (h : MM) (z : 100 ≤ nx h) : Lq h (f_X12_scheme_182 n rec146 v0 v4 v5 v6 v7 s0 s1 s2 h) := by
  have L_h := Lo.refl z
  delta f_X12_scheme_182
  refine Lq.xwt L_h fun h1 L_h1 => ?_
  refine Lq.xlb fun _ => ?_
  exact Lq.tr L_h1 (q_rec146 _ h1 L_h1.1)
theorem lo_f_X12_scheme_146b {n : Nat} {rec146 : Int → MM → RR} {v0 : Int} {v4 : Int} {v5 : Int} {v6 : Int} {v7 : Int} (q_rec146 : ∀ (a0 : Int) (h : MM), 100 ≤ nx h → Lq h (rec146 a0 h)) (h : MM) (z : 100 ≤ nx h) : Lq h (f_X12_scheme_146b n rec146 v0 v4 v5 v6 v7 h) := by
  have L_h := Lo.refl z
  delta f_X12_scheme_146b
  refine Lq.ite ?_ ?_
  exact Lq.some L_h
  refine Lq.xgf fun _ => ?_
  refine Lq.ite ?_ ?_
  exact Lq.tr L_h (lo_f_X12_scheme_182 q_rec146 h L_h.1)
  exact Lq.tr L_h (lo_f_X12_scheme_182 q_rec146 h L_h.1)
theorem lo_f_X12_scheme_146 {n : Nat} {v0 : Int} {v4 : Int} {v5 : Int} {v6 : Int} : ∀ (k : Nat) (v7 : Int) (h : MM), 100 ≤ nx h → Lq h (f_X12_scheme_146 n v0 v4 v5 v6 k v7 h)
  | 0, _, _, _ => Lq.none
  | k + 1, v7, h, z => lo_f_X12_scheme_146b (fun b0 h z => lo_f_X12_scheme_146 k b0 h z) h z
theorem lo_f_X12_scheme {n : Nat} {v0 : Int} {v1 : Int} {v2 : Int} {v3 : Int} {v4 : Int} (h : MM) (z : 100 ≤ nx h) : Lq h (f_X12_scheme n v0 v1 v2 v3 v4 h) := by
  have L_h := Lo.refl z
  delta f_X12_scheme
  refine Lq.xgk ?_
  refine Lq.xbd L_h (lo_f_X12_isTown h L_h.1) fun _ h1 L_h1 => ?_
  refine Lq.ite ?_ ?_
  exact Lq.tr L_h1 (lo_f_X12_scheme_16 h1 L_h1.1)
  refine Lq.xgk ?_
  refine Lq.xbd L_h1 (lo_f_X12_isTown h1 L_h1.1) fun _ h3 L_h3 => ?_
  refine Lq.ite ?_ ?_
  exact Lq.tr L_h3 (lo_f_X12_scheme_16 h3 L_h3.1)
  refine Lq.ite ?_ ?_
  exact Lq.tr L_h3 (lo_f_X12_scheme_43 h3 L_h3.1)
  refine Lq.xbd L_h3 (lo_f_X12_in h3 L_h3.1) fun _ h6 L_h6 => ?_
  refine Lq.ite ?_ ?_
  exact Lq.tr L_h6 (lo_f_X12_scheme_43 h6 L_h6.1)
  refine Lq.xbd L_h6 (lo_f_X12_in h6 L_h6.1) fun _ h8 L_h8 => ?_
  refine Lq.ite ?_ ?_
  exact Lq.tr L_h8 (lo_f_X12_scheme_43 h8 L_h8.1)
  refine Lq.xgf fun _ => ?_
  refine Lq.xrd fun _ => ?_
  refine Lq.ite ?_ ?_
  exact Lq.tr L_h8 (lo_f_X12_scheme_69 h8 L_h8.1)
  refine Lq.xgf fun _ => ?_
  refine Lq.xrd fun _ => ?_
  refine Lq.ite ?_ ?_
  exact Lq.tr L_h8 (lo_f_X12_scheme_69 h8 L_h8.1)
  refine Lq.xgf fun _ => ?_
  refine Lq.xrd fun _ => ?_
  refine Lq.xgf fun _ => ?_
  refine Lq.xrd fun _ => ?_
  refine Lq.xwt L_h8 fun h20 L_h20 => ?_
  refine Lq.xgk ?_
  refine Lq.xbd L_h20 (lo_f_X12_paper h20 L_h20.1) fun _ h21 L_h21 => ?_
  refine Lq.xgf fun _ => ?_
  refine Lq.xwt L_h21 fun h23 L_h23 => ?_
  refine Lq.xgf fun _ => ?_
  refine Lq.xwt L_h23 fun h25 L_h25 => ?_
  refine Lq.xgf fun _ => ?_
  refine Lq.xwt L_h25 fun h27 L_h27 => ?_
  exact Lq.tr L_h27 (lo_f_X12_scheme_146 _ _ h27 L_h27.1)
theorem lo_f_X12_isPaper {n : Nat} {v0 : Int} {v1 : Int} (h : MM) (z : 100 ≤ nx h) : Lq h (f_X12_isPaper n v0 v1 h) := by
  have L_h := Lo.refl z
  delta f_X12_isPaper
  refine Lq.xgf fun _ => ?_
  refine Lq.xrd fun _ => ?_
  refine Lq.xbd L_h (lo_f_X12_in h L_h.1) fun _ h3 L_h3 => ?_
  refine Lq.xck ?_
  exact Lq.some L_h3
theorem lo_f_X12_isOf_27 {n : Nat} {s0 : Int} (h : MM) (z : 100 ≤ nx h) : Lq h (f_X12_isOf_27 n s0 h) := by
  have L_h := Lo.refl z
  delta f_X12_isOf_27
  refine Lq.xck ?_
  exact Lq.some L_h
theorem lo_f_X12_isOf_26 {n : Nat} (h : MM) (z : 100 ≤ nx h) : Lq h (f_X12_isOf_26 n h) := by
  have L_h := Lo.refl z
  delta f_X12_isOf_26
  exact Lq.tr L_h (lo_f_X12_isOf_27 h L_h.1)
theorem lo_f_X12_isOf {n : Nat} {v0 : Int} {v1 : Int} {v2 : Int} (h : MM) (z : 100 ≤ nx h) : Lq h (f_X12_isOf n v0 v1 v2 h) := by
  have L_h := Lo.refl z
  delta f_X12_isOf
  refine Lq.xgk ?_
  refine Lq.xbd L_h (lo_f_X12_isPaper h L_h.1) fun _ h1 L_h1 => ?_
  refine Lq.ite ?_ ?_
  exact Lq.tr L_h1 (lo_f_X12_isOf_26 h1 L_h1.1)
  refine Lq.xgf fun _ => ?_
  refine Lq.xrd fun _ => ?_
  refine Lq.ite ?_ ?_
  exact Lq.tr L_h1 (lo_f_X12_isOf_27 h1 L_h1.1)
  exact Lq.tr L_h1 (lo_f_X12_isOf_26 h1 L_h1.1)
theorem lo_f_X12_isSheet {n : Nat} {v0 : Int} (h : MM) (z : 100 ≤ nx h) : Lq h (f_X12_isSheet n v0 h) := by
  have L_h := Lo.refl z
  delta f_X12_isSheet
  refine Lq.xbd L_h (lo_f_X12_in h L_h.1) fun _ h1 L_h1 => ?_
  refine Lq.xck ?_
  exact Lq.some L_h1
theorem lo_f_X12_isBeside_36 {n : Nat} {s0 : Int} (h : MM) (z : 100 ≤ nx h) : Lq h (f_X12_isBeside_36 n s0 h) := by
  have L_h := Lo.refl z
  delta f_X12_isBeside_36
  refine Lq.xck ?_
  exact Lq.some L_h
theorem lo_f_X12_isBeside {n : Nat} {v0 : Int} {v1 : Int} (h : MM) (z : 100 ≤ nx h) : Lq h (f_X12_isBeside n v0 v1 h) := by
  have L_h := Lo.refl z
  delta f_X12_isBeside
  refine Lq.xlb fun _ => ?_
  refine Lq.xlb fun _ => ?_
  refine Lq.ite ?_ ?_
  exact Lq.tr L_h (lo_f_X12_isBeside_36 h L_h.1)
  exact Lq.tr L_h (lo_f_X12_isBeside_36 h L_h.1)
theorem lo_f_X12_placeIn_2b {n : Nat} {rec2 : Int → MM → RR} {v0 : Int} {v1 : Int} {v2 : Int} {v3 : Int} (q_rec2 : ∀ (a0 : Int) (h : MM), 100 ≤ nx h → Lq h (rec2 a0 h)) (h : MM) (z : 100 ≤ nx h) : Lq h (f_X12_placeIn_2b n rec2 v0 v1 v2 v3 h) := by
  have L_h := Lo.refl z
  delta f_X12_placeIn_2b
  refine Lq.xgf fun _ => ?_
  refine Lq.xrd fun _ => ?_
  refine Lq.ite ?_ ?_
  exact Lq.some L_h
  refine Lq.xgf fun _ => ?_
  refine Lq.xrd fun _ => ?_
  refine Lq.ite ?_ ?_
  exact Lq.some L_h
  refine Lq.xlb fun _ => ?_
  exact Lq.tr L_h (q_rec2 _ h L_h.1)
theorem lo_f_X12_placeIn_2 {n : Nat} {v0 : Int} {v1 : Int} {v2 : Int} : ∀ (k : Nat) (v3 : Int) (h : MM), 100 ≤ nx h → Lq h (f_X12_placeIn_2 n v0 v1 v2 k v3 h)
  | 0, _, _, _ => Lq.none
  | k + 1, v3, h, z => lo_f_X12_placeIn_2b (fun b0 h z => lo_f_X12_placeIn_2 k b0 h z) h z
theorem lo_f_X12_placeIn {n : Nat} {v0 : Int} {v1 : Int} {v2 : Int} (h : MM) (z : 100 ≤ nx h) : Lq h (f_X12_placeIn n v0 v1 v2 h) := by
  have L_h := Lo.refl z
  delta f_X12_placeIn
  exact Lq.tr L_h (lo_f_X12_placeIn_2 _ _ h L_h.1)
theorem lo_f_X12_isInWay_15 {n : Nat} {s0 : Int} (h : MM) (z : 100 ≤ nx h) : Lq h (f_X12_isInWay_15 n s0 h) := by
  have L_h := Lo.refl z
  delta f_X12_isInWay_15
  refine Lq.xck ?_
  exact Lq.some L_h
theorem lo_f_X12_isInWay {n : Nat} {v0 : Int} {v1 : Int} {v2 : Int} (h : MM) (z : 100 ≤ nx h) : Lq h (f_X12_isInWay n v0 v1 v2 h) := by
  have L_h := Lo.refl z
  delta f_X12_isInWay
  refine Lq.xgk ?_
  refine Lq.xbd L_h (lo_f_X12_placeIn h L_h.1) fun _ h1 L_h1 => ?_
  refine Lq.ite ?_ ?_
  exact Lq.tr L_h1 (lo_f_X12_isInWay_15 h1 L_h1.1)
  exact Lq.tr L_h1 (lo_f_X12_isInWay_15 h1 L_h1.1)
theorem lo_f_X12_levelOf_88 {n : Nat} (h : MM) (z : 100 ≤ nx h) : Lq h (f_X12_levelOf_88 n h) := by
  have L_h := Lo.refl z
  delta f_X12_levelOf_88
  exact Lq.some L_h
theorem lo_f_X12_levelOf_183 {n : Nat} {v5 : Int} {s0 : Int} (h : MM) (z : 100 ≤ nx h) : Lq h (f_X12_levelOf_183 n v5 s0 h) := by
  have L_h := Lo.refl z
  delta f_X12_levelOf_183
  exact Lq.some L_h
theorem lo_f_X12_levelOf {n : Nat} {v0 : Int} {v1 : Int} {v2 : Int} {v3 : Int} (h : MM) (z : 100 ≤ nx h) : Lq h (f_X12_levelOf n v0 v1 v2 v3 h) := by
  have L_h := Lo.refl z
  delta f_X12_levelOf
  refine Lq.xlb fun _ => ?_
  refine Lq.ite ?_ ?_
  refine Lq.xgf fun _ => ?_
  refine Lq.xgf fun _ => ?_
  refine Lq.xrd fun _ => ?_
  refine Lq.xrd fun _ => ?_
  exact Lq.some L_h
  refine Lq.xgf fun _ => ?_
  refine Lq.xrd fun _ => ?_
  refine Lq.ite ?_ ?_
  exact Lq.tr L_h (lo_f_X12_levelOf_88 h L_h.1)
  refine Lq.xgf fun _ => ?_
  refine Lq.xrd fun _ => ?_
  refine Lq.ite ?_ ?_
  refine Lq.xgf fun _ => ?_
  refine Lq.xrd fun _ => ?_
  refine Lq.ite ?_ ?_
  refine Lq.xgf fun _ => ?_
  refine Lq.xrd fun _ => ?_
  refine Lq.ite ?_ ?_
  refine Lq.xgf fun _ => ?_
  refine Lq.xgf fun _ => ?_
  refine Lq.xrd fun _ => ?_
  refine Lq.xrd fun _ => ?_
  refine Lq.xgf fun _ => ?_
  refine Lq.xgf fun _ => ?_
  refine Lq.xrd fun _ => ?_
  refine Lq.xrd fun _ => ?_
  exact Lq.tr L_h (lo_f_X12_levelOf_183 h L_h.1)
  refine Lq.ite ?_ ?_
  refine Lq.ite ?_ ?_
  exact Lq.tr L_h (lo_f_X12_levelOf_183 h L_h.1)
  exact Lq.tr L_h (lo_f_X12_levelOf_183 h L_h.1)
  exact Lq.tr L_h (lo_f_X12_levelOf_183 h L_h.1)
  exact Lq.tr L_h (lo_f_X12_levelOf_88 h L_h.1)
  exact Lq.tr L_h (lo_f_X12_levelOf_88 h L_h.1)
theorem lo_f_X12_chain_23 {n : Nat} (h : MM) (z : 100 ≤ nx h) : Lq h (f_X12_chain_23 n h) := by
  have L_h := Lo.refl z
  delta f_X12_chain_23
  exact Lq.some L_h
theorem lo_f_X12_chain_388 {n : Nat} {rec171 : Int → Int → MM → RR} {v0 : Int} {v2 : Int} {v3 : Int} {v4 : Int} {v5 : Int} {v6 : Int} {v7 : Int} {v8 : Int} {s0 : Int} {s1 : Int} {s2 : Int} (q_rec171 : ∀ (a0 a1 : Int) (h : MM), 100 ≤ nx h → Lq h (rec171 a0 a1 h)) (h : MM) (z : 100 ≤ nx h) : Lq h (f_X12_chain_388 n rec171 v0 v2 v3 v4 v5 v6 v7 v8 s0 s1 s2 h) := by
  have L_h := Lo.refl z
  delta f_X12_chain_388
  refine Lq.xwt L_h fun h1 L_h1 => ?_
  exact Lq.tr L_h1 (q_rec171 _ _ h1 L_h1.1)
theorem lo_f_X12_chain_364 {n : Nat} {rec171 : Int → Int → MM → RR} {v0 : Int} {v2 : Int} {v3 : Int} {v4 : Int} {v5 : Int} {v6 : Int} {v7 : Int} {v10 : Int} {s0 : Int} (q_rec171 : ∀ (a0 a1 : Int) (h : MM), 100 ≤ nx h → Lq h (rec171 a0 a1 h)) (h : MM) (z : 100 ≤ nx h) : Lq h (f_X12_chain_364 n rec171 v0 v2 v3 v4 v5 v6 v7 v10 s0 h) := by
  have L_h := Lo.refl z
  delta f_X12_chain_364
  refine Lq.xgf fun _ => ?_
  refine Lq.ite ?_ ?_
  exact Lq.tr L_h (lo_f_X12_chain_388 q_rec171 h L_h.1)
  exact Lq.tr L_h (lo_f_X12_chain_388 q_rec171 h L_h.1)
theorem lo_f_X12_chain_363 {n : Nat} {rec171 : Int → Int → MM → RR} {v0 : Int} {v2 : Int} {v3 : Int} {v4 : Int} {v5 : Int} {v6 : Int} {v7 : Int} {v10 : Int} (q_rec171 : ∀ (a0 a1 : Int) (h : MM), 100 ≤ nx h → Lq h (rec171 a0 a1 h)) (h : MM) (z : 100 ≤ nx h) : Lq h (f_X12_chain_363 n rec171 v0 v2 v3 v4 v5 v6 v7 v10 h) := by
  have L_h := Lo.refl z
  delta f_X12_chain_363
  exact Lq.tr L_h (lo_f_X12_chain_364 q_rec171 h L_h.1)
theorem lo_f_X12_chain_347 {n : Nat} {rec171 : Int → Int → MM → RR} {v0 : Int} {v2 : Int} {v3 : Int} {v4 : Int} {v5 : Int} {v6 : Int} {v7 : Int} {v9 : Int} {v10 : Int} (q_rec171 : ∀ (a0 a1 : Int) (h : MM), 100 ≤ nx h → Lq h (rec171 a0 a1 h)) (h : MM) (z : 100 ≤ nx h) : Lq h (f_X12_chain_347 n rec171 v0 v2 v3 v4 v5 v6 v7 v9 v10 h) := by
  have L_h := Lo.refl z
  delta f_X12_chain_347
  refine Lq.ite ?_ ?_
  exact Lq.tr L_h (lo_f_X12_chain_363 q_rec171 h L_h.1)
  refine Lq.ite ?_ ?_
  exact Lq.tr L_h (lo_f_X12_chain_363 q_rec171 h L_h.1)
  exact Lq.tr L_h (lo_f_X12_chain_364 q_rec171 h L_h.1)
theorem lo_f_X12_chain_279 {n : Nat} {rec171 : Int → Int → MM → RR} {v0 : Int} {v2 : Int} {v3 : Int} {v4 : Int} {v5 : Int} {v6 : Int} {v7 : Int} {v9 : Int} {s0 : Int} (q_rec171 : ∀ (a0 a1 : Int) (h : MM), 100 ≤ nx h → Lq h (rec171 a0 a1 h)) (h : MM) (z : 100 ≤ nx h) : Lq h (f_X12_chain_279 n rec171 v0 v2 v3 v4 v5 v6 v7 v9 s0 h) := by
  have L_h := Lo.refl z
  delta f_X12_chain_279
  refine Lq.ite ?_ ?_
  exact Lq.tr L_h (lo_f_X12_chain_347 q_rec171 h L_h.1)
  refine Lq.xgf fun _ => ?_
  refine Lq.xwt L_h fun h3 L_h3 => ?_
  refine Lq.xgf fun _ => ?_
  refine Lq.xgk ?_
  refine Lq.xbd L_h3 (lo_f_X12_levelOf h3 L_h3.1) fun _ h5 L_h5 => ?_
  refine Lq.xwt L_h5 fun h6 L_h6 => ?_
  refine Lq.xlb fun _ => ?_
  refine Lq.xgf fun _ => ?_
  refine Lq.xwt L_h6 fun h9 L_h9 => ?_
  exact Lq.tr L_h9 (lo_f_X12_chain_347 q_rec171 h9 L_h9.1)
theorem lo_f_X12_chain_278 {n : Nat} {rec171 : Int → Int → MM → RR} {v0 : Int} {v2 : Int} {v3 : Int} {v4 : Int} {v5 : Int} {v6 : Int} {v7 : Int} {v9 : Int} (q_rec171 : ∀ (a0 a1 : Int) (h : MM), 100 ≤ nx h → Lq h (rec171 a0 a1 h)) (h : MM) (z : 100 ≤ nx h) : Lq h (f_X12_chain_278 n rec171 v0 v2 v3 v4 v5 v6 v7 v9 h) := by
  have L_h := Lo.refl z
  delta f_X12_chain_278
  exact Lq.tr L_h (lo_f_X12_chain_279 q_rec171 h L_h.1)
theorem lo_f_X12_chain_274 {n : Nat} {rec171 : Int → Int → MM → RR} {v0 : Int} {v2 : Int} {v3 : Int} {v4 : Int} {v5 : Int} {v6 : Int} {v7 : Int} {v9 : Int} (q_rec171 : ∀ (a0 a1 : Int) (h : MM), 100 ≤ nx h → Lq h (rec171 a0 a1 h)) (h : MM) (z : 100 ≤ nx h) : Lq h (f_X12_chain_274 n rec171 v0 v2 v3 v4 v5 v6 v7 v9 h) := by
  have L_h := Lo.refl z
  delta f_X12_chain_274
  exact Lq.tr L_h (lo_f_X12_chain_279 q_rec171 h L_h.1)
theorem lo_f_X12_chain_211 {n : Nat} {rec171 : Int → Int → MM → RR} {v0 : Int} {v2 : Int} {v3 : Int} {v4 : Int} {v5 : Int} {v6 : Int} {v7 : Int} {s0 : Int} (q_rec171 : ∀ (a0 a1 : Int) (h : MM), 100 ≤ nx h → Lq h (rec171 a0 a1 h)) (h : MM) (z : 100 ≤ nx h) : Lq h (f_X12_chain_211 n rec171 v0 v2 v3 v4 v5 v6 v7 s0 h) := by
  have L_h := Lo.refl z
  delta f_X12_chain_211
  refine Lq.xbd L_h (lo_f_X12_isCell h L_h.1) fun _ h1 L_h1 => ?_
  refine Lq.ite ?_ ?_
  exact Lq.tr L_h1 (lo_f_X12_chain_278 q_rec171 h1 L_h1.1)
  refine Lq.ite ?_ ?_
  refine Lq.ite ?_ ?_
  exact Lq.tr L_h1 (lo_f_X12_chain_274 q_rec171 h1 L_h1.1)
  exact Lq.tr L_h1 (lo_f_X12_chain_278 q_rec171 h1 L_h1.1)
  refine Lq.xgf fun _ => ?_
  refine Lq.xrd fun _ => ?_
  refine Lq.xbd L_h1 (lo_f_X12_isBeside h1 L_h1.1) fun _ h6 L_h6 => ?_
  refine Lq.ite ?_ ?_
  exact Lq.tr L_h6 (lo_f_X12_chain_278 q_rec171 h6 L_h6.1)
  refine Lq.xgk ?_
  refine Lq.xbd L_h6 (lo_f_X12_isInWay h6 L_h6.1) fun _ h8 L_h8 => ?_
  refine Lq.ite ?_ ?_
  exact Lq.tr L_h8 (lo_f_X12_chain_274 q_rec171 h8 L_h8.1)
  exact Lq.tr L_h8 (lo_f_X12_chain_278 q_rec171 h8 L_h8.1)
theorem lo_f_X12_chain_171b {n : Nat} {rec171 : Int → Int → MM → RR} {v0 : Int} {v2 : Int} {v3 : Int} {v4 : Int} {v5 : Int} {v6 : Int} {v7 : Int} {v8 : Int} (q_rec171 : ∀ (a0 a1 : Int) (h : MM), 100 ≤ nx h → Lq h (rec171 a0 a1 h)) (h : MM) (z : 100 ≤ nx h) : Lq h (f_X12_chain_171b n rec171 v0 v2 v3 v4 v5 v6 v7 v8 h) := by
  have L_h := Lo.refl z
  delta f_X12_chain_171b
  refine Lq.ite ?_ ?_
  exact Lq.some L_h
  refine Lq.xgf fun _ => ?_
  refine Lq.xrd fun _ => ?_
  refine Lq.ite ?_ ?_
  exact Lq.tr L_h (lo_f_X12_chain_211 q_rec171 h L_h.1)
  refine Lq.xgf fun _ => ?_
  refine Lq.xrd fun _ => ?_
  exact Lq.tr L_h (lo_f_X12_chain_211 q_rec171 h L_h.1)
theorem lo_f_X12_chain_171 {n : Nat} {v0 : Int} {v2 : Int} {v3 : Int} {v4 : Int} {v5 : Int} {v6 : Int} : ∀ (k : Nat) (v7 v8 : Int) (h : MM), 100 ≤ nx h → Lq h (f_X12_chain_171 n v0 v2 v3 v4 v5 v6 k v7 v8 h)
  | 0, _, _, _, _ => Lq.none
  | k + 1, v7, v8, h, z => lo_f_X12_chain_171b (fun b0 b1 h z => lo_f_X12_chain_171 k b0 b1 h z) h z
theorem lo_f_X12_chain {n : Nat} {v0 : Int} {v1 : Int} {v2 : Int} {v3 : Int} (h : MM) (z : 100 ≤ nx h) : Lq h (f_X12_chain n v0 v1 v2 v3 h) := by
  have L_h := Lo.refl z
  delta f_X12_chain
  refine Lq.xgk ?_
  refine Lq.xbd L_h (lo_f_X12_isOf h L_h.1) fun _ h1 L_h1 => ?_
  refine Lq.ite ?_ ?_
  exact Lq.tr L_h1 (lo_f_X12_chain_23 h1 L_h1.1)
  refine Lq.xbd L_h1 (lo_f_X12_isSheet h1 L_h1.1) fun _ h3 L_h3 => ?_
  refine Lq.ite ?_ ?_
  exact Lq.tr L_h3 (lo_f_X12_chain_23 h3 L_h3.1)
  refine Lq.xbd L_h3 (lo_f_X12_isSheet h3 L_h3.1) fun _ h5 L_h5 => ?_
  refine Lq.ite ?_ ?_
  exact Lq.tr L_h5 (lo_f_X12_chain_23 h5 L_h5.1)
  refine Lq.xgf fun _ => ?_
  refine Lq.xrd fun _ => ?_
  refine Lq.ite ?_ ?_
  exact Lq.some L_h5
  refine Lq.xgf fun _ => ?_
  refine Lq.xrd fun _ => ?_
  refine Lq.ite ?_ ?_
  refine Lq.xgf fun _ => ?_
  refine Lq.xrd fun _ => ?_
  refine Lq.ite ?_ ?_
  exact Lq.some L_h5
  refine Lq.xgf fun _ => ?_
  refine Lq.xgf fun _ => ?_
  refine Lq.xrd fun _ => ?_
  refine Lq.xrd fun _ => ?_
  refine Lq.xgf fun _ => ?_
  refine Lq.xgf fun _ => ?_
  refine Lq.xrd fun _ => ?_
  refine Lq.xrd fun _ => ?_
  refine Lq.xgf fun _ => ?_
  refine Lq.xrd fun _ => ?_
  refine Lq.xgf fun _ => ?_
  refine Lq.xrd fun _ => ?_
  refine Lq.xgf fun _ => ?_
  refine Lq.xrd fun _ => ?_
  refine Lq.xgk ?_
  refine Lq.xbd L_h5 (lo_f_X12_paper h5 L_h5.1) fun _ h30 L_h30 => ?_
  refine Lq.xgf fun _ => ?_
  refine Lq.xwt L_h30 fun h32 L_h32 => ?_
  exact Lq.tr L_h32 (lo_f_X12_chain_171 _ _ _ h32 L_h32.1)
  exact Lq.some L_h5
theorem lo_f_X12_size_10 {n : Nat} {s0 : Int} (h : MM) (z : 100 ≤ nx h) : Lq h (f_X12_size_10 n s0 h) := by
  have L_h := Lo.refl z
  delta f_X12_size_10
  exact Lq.some L_h
theorem lo_f_X12_size {n : Nat} {v0 : Int} (h : MM) (z : 100 ≤ nx h) : Lq h (f_X12_size n v0 h) := by
  have L_h := Lo.refl z
  delta f_X12_size
  refine Lq.ite ?_ ?_
  exact Lq.tr L_h (lo_f_X12_size_10 h L_h.1)
  exact Lq.tr L_h (lo_f_X12_size_10 h L_h.1)
theorem lo_f_X12_step_63 {n : Nat} {s0 : Int} {s1 : Int} (h : MM) (z : 100 ≤ nx h) : Lq h (f_X12_step_63 n s0 s1 h) := by
  have L_h := Lo.refl z
  delta f_X12_step_63
  exact Lq.some L_h
theorem lo_f_X12_step {n : Nat} {v0 : Int} {v1 : Int} {v2 : Int} (h : MM) (z : 100 ≤ nx h) : Lq h (f_X12_step n v0 v1 v2 h) := by
  have L_h := Lo.refl z
  delta f_X12_step
  refine Lq.xgf fun _ => ?_
  refine Lq.xrd fun _ => ?_
  refine Lq.xgf fun _ => ?_
  refine Lq.xrd fun _ => ?_
  refine Lq.xbd L_h (lo_f_X12_size h L_h.1) fun _ h5 L_h5 => ?_
  refine Lq.xgf fun _ => ?_
  refine Lq.xrd fun _ => ?_
  refine Lq.ite ?_ ?_
  exact Lq.tr L_h5 (lo_f_X12_step_63 h5 L_h5.1)
  refine Lq.xgf fun _ => ?_
  refine Lq.xrd fun _ => ?_
  refine Lq.ite ?_ ?_
  exact Lq.tr L_h5 (lo_f_X12_step_63 h5 L_h5.1)
  exact Lq.tr L_h5 (lo_f_X12_step_63 h5 L_h5.1)
theorem lo_f_X12_yardsOf_4b {n : Nat} {rec4 : Int → Int → MM → RR} {v0 : Int} {v1 : Int} {v2 : Int} {v3 : Int} (q_rec4 : ∀ (a0 a1 : Int) (h : MM), 100 ≤ nx h → Lq h (rec4 a0 a1 h)) (h : MM) (z : 100 ≤ nx h) : Lq h (f_X12_yardsOf_4b n rec4 v0 v1 v2 v3 h) := by
  have L_h := Lo.refl z
  delta f_X12_yardsOf_4b
  refine Lq.xgf fun _ => ?_
  refine Lq.xrd fun _ => ?_
  refine Lq.ite ?_ ?_
  exact Lq.some L_h
  refine Lq.xgf fun _ => ?_
  refine Lq.xrd fun _ => ?_
  refine Lq.xgf fun _ => ?_
  refine Lq.xrd fun _ => ?_
  refine Lq.xgk ?_
  refine Lq.xbd L_h (lo_f_X12_step h L_h.1) fun _ h8 L_h8 => ?_
  refine Lq.xlb fun _ => ?_
  refine Lq.xlb fun _ => ?_
  exact Lq.tr L_h8 (q_rec4 _ _ h8 L_h8.1)
theorem lo_f_X12_yardsOf_4 {n : Nat} {v0 : Int} {v1 : Int} : ∀ (k : Nat) (v2 v3 : Int) (h : MM), 100 ≤ nx h → Lq h (f_X12_yardsOf_4 n v0 v1 k v2 v3 h)
  | 0, _, _, _, _ => Lq.none
  | k + 1, v2, v3, h, z => lo_f_X12_yardsOf_4b (fun b0 b1 h z => lo_f_X12_yardsOf_4 k b0 b1 h z) h z
theorem lo_f_X12_yardsOf {n : Nat} {v0 : Int} {v1 : Int} (h : MM) (z : 100 ≤ nx h) : Lq h (f_X12_yardsOf n v0 v1 h) := by
  have L_h := Lo.refl z
  delta f_X12_yardsOf
  exact Lq.tr L_h (lo_f_X12_yardsOf_4 _ _ _ h L_h.1)
theorem lo_f_X12_way_113 {n : Nat} {s0 : Int} (h : MM) (z : 100 ≤ nx h) : Lq h (f_X12_way_113 n s0 h) := by
  have L_h := Lo.refl z
  delta f_X12_way_113
  exact Lq.some L_h
theorem lo_f_X12_way {n : Nat} {v0 : Int} {v1 : Int} {v2 : Int} (h : MM) (z : 100 ≤ nx h) : Lq h (f_X12_way n v0 v1 v2 h) := by
  have L_h := Lo.refl z
  delta f_X12_way
  refine Lq.xgk ?_
  refine Lq.xbd L_h (lo_f_X12_isOf h L_h.1) fun _ h1 L_h1 => ?_
  refine Lq.ite ?_ ?_
  exact Lq.some L_h1
  refine Lq.ite ?_ ?_
  refine Lq.xgf fun _ => ?_
  refine Lq.xrd fun _ => ?_
  exact Lq.some L_h1
  refine Lq.ite ?_ ?_
  refine Lq.xgf fun _ => ?_
  refine Lq.xrd fun _ => ?_
  exact Lq.some L_h1
  refine Lq.ite ?_ ?_
  refine Lq.xgk ?_
  refine Lq.xbd L_h1 (lo_f_X12_yardsOf h1 L_h1.1) fun _ h10 L_h10 => ?_
  exact Lq.some L_h10
  refine Lq.xgf fun _ => ?_
  refine Lq.xrd fun _ => ?_
  refine Lq.xbd L_h1 (lo_f_X12_in h1 L_h1.1) fun _ h13 L_h13 => ?_
  refine Lq.ite ?_ ?_
  exact Lq.tr L_h13 (lo_f_X12_way_113 h13 L_h13.1)
  refine Lq.xgf fun _ => ?_
  refine Lq.xrd fun _ => ?_
  exact Lq.tr L_h13 (lo_f_X12_way_113 h13 L_h13.1)
theorem lo_f_X12_level_48 {n : Nat} {s0 : Int} (h : MM) (z : 100 ≤ nx h) : Lq h (f_X12_level_48 n s0 h) := by
  have L_h := Lo.refl z
  delta f_X12_level_48
  exact Lq.some L_h
theorem lo_f_X12_level_47 {n : Nat} (h : MM) (z : 100 ≤ nx h) : Lq h (f_X12_level_47 n h) := by
  have L_h := Lo.refl z
  delta f_X12_level_47
  exact Lq.tr L_h (lo_f_X12_level_48 h L_h.1)
theorem lo_f_X12_level {n : Nat} {v0 : Int} {v1 : Int} {v2 : Int} (h : MM) (z : 100 ≤ nx h) : Lq h (f_X12_level n v0 v1 v2 h) := by
  have L_h := Lo.refl z
  delta f_X12_level
  refine Lq.xgk ?_
  refine Lq.xbd L_h (lo_f_X12_isOf h L_h.1) fun _ h1 L_h1 => ?_
  refine Lq.ite ?_ ?_
  exact Lq.tr L_h1 (lo_f_X12_level_47 h1 L_h1.1)
  refine Lq.xgf fun _ => ?_
  refine Lq.xrd fun _ => ?_
  refine Lq.xbd L_h1 (lo_f_X12_in h1 L_h1.1) fun _ h5 L_h5 => ?_
  refine Lq.ite ?_ ?_
  exact Lq.tr L_h5 (lo_f_X12_level_47 h5 L_h5.1)
  refine Lq.xgf fun _ => ?_
  refine Lq.xrd fun _ => ?_
  exact Lq.tr L_h5 (lo_f_X12_level_48 h5 L_h5.1)
theorem lo_f_X12_notClose_78 {n : Nat} {v3 : Int} (h : MM) (z : 100 ≤ nx h) : Lq h (f_X12_notClose_78 n v3 h) := by
  have L_h := Lo.refl z
  delta f_X12_notClose_78
  exact Lq.some L_h
theorem lo_f_X12_notClose_2b {n : Nat} {rec2 : Int → MM → RR} {v0 : Int} {v1 : Int} {v2 : Int} {v3 : Int} (q_rec2 : ∀ (a0 : Int) (h : MM), 100 ≤ nx h → Lq h (rec2 a0 h)) (h : MM) (z : 100 ≤ nx h) : Lq h (f_X12_notClose_2b n rec2 v0 v1 v2 v3 h) := by
  have L_h := Lo.refl z
  delta f_X12_notClose_2b
  refine Lq.xgf fun _ => ?_
  refine Lq.xrd fun _ => ?_
  refine Lq.ite ?_ ?_
  exact Lq.some L_h
  refine Lq.xgf fun _ => ?_
  refine Lq.xrd fun _ => ?_
  refine Lq.ite ?_ ?_
  exact Lq.tr L_h (lo_f_X12_notClose_78 h L_h.1)
  refine Lq.xgf fun _ => ?_
  refine Lq.xgf fun _ => ?_
  refine Lq.xrd fun _ => ?_
  refine Lq.xrd fun _ => ?_
  refine Lq.xbd L_h (lo_f_X12_size h L_h.1) fun _ h11 L_h11 => ?_
  refine Lq.xgk ?_
  refine Lq.xbd L_h11 (lo_f_X12_rule h11 L_h11.1) fun _ h12 L_h12 => ?_
  refine Lq.ite ?_ ?_
  refine Lq.xlb fun _ => ?_
  exact Lq.tr L_h12 (q_rec2 _ h12 L_h12.1)
  exact Lq.tr L_h12 (lo_f_X12_notClose_78 h12 L_h12.1)
theorem lo_f_X12_notClose_2 {n : Nat} {v0 : Int} {v1 : Int} {v2 : Int} : ∀ (k : Nat) (v3 : Int) (h : MM), 100 ≤ nx h → Lq h (f_X12_notClose_2 n v0 v1 v2 k v3 h)
  | 0, _, _, _ => Lq.none
  | k + 1, v3, h, z => lo_f_X12_notClose_2b (fun b0 h z => lo_f_X12_notClose_2 k b0 h z) h z
theorem lo_f_X12_notClose {n : Nat} {v0 : Int} {v1 : Int} {v2 : Int} (h : MM) (z : 100 ≤ nx h) : Lq h (f_X12_notClose n v0 v1 v2 h) := by
  have L_h := Lo.refl z
  delta f_X12_notClose
  exact Lq.tr L_h (lo_f_X12_notClose_2 _ _ h L_h.1)
theorem lo_f_X12_steep_2b {n : Nat} {rec2 : Int → MM → RR} {v0 : Int} {v1 : Int} {v2 : Int} {v3 : Int} (q_rec2 : ∀ (a0 : Int) (h : MM), 100 ≤ nx h → Lq h (rec2 a0 h)) (h : MM) (z : 100 ≤ nx h) : Lq h (f_X12_steep_2b n rec2 v0 v1 v2 v3 h) := by
  have L_h := Lo.refl z
  delta f_X12_steep_2b
  refine Lq.xgf fun _ => ?_
  refine Lq.xrd fun _ => ?_
  refine Lq.ite ?_ ?_
  exact Lq.some L_h
  refine Lq.xgf fun _ => ?_
  refine Lq.xgf fun _ => ?_
  refine Lq.xrd fun _ => ?_
  refine Lq.xrd fun _ => ?_
  refine Lq.xgf fun _ => ?_
  refine Lq.xgf fun _ => ?_
  refine Lq.xrd fun _ => ?_
  refine Lq.xrd fun _ => ?_
  refine Lq.xbd L_h (lo_f_X12_size h L_h.1) fun _ h12 L_h12 => ?_
  refine Lq.xgk ?_
  refine Lq.xbd L_h12 (lo_f_X12_rule h12 L_h12.1) fun _ h13 L_h13 => ?_
  refine Lq.ite ?_ ?_
  refine Lq.xlb fun _ => ?_
  exact Lq.tr L_h13 (q_rec2 _ h13 L_h13.1)
  exact Lq.some L_h13
theorem lo_f_X12_steep_2 {n : Nat} {v0 : Int} {v1 : Int} {v2 : Int} : ∀ (k : Nat) (v3 : Int) (h : MM), 100 ≤ nx h → Lq h (f_X12_steep_2 n v0 v1 v2 k v3 h)
  | 0, _, _, _ => Lq.none
  | k + 1, v3, h, z => lo_f_X12_steep_2b (fun b0 h z => lo_f_X12_steep_2 k b0 h z) h z
theorem lo_f_X12_steep {n : Nat} {v0 : Int} {v1 : Int} {v2 : Int} (h : MM) (z : 100 ≤ nx h) : Lq h (f_X12_steep n v0 v1 v2 h) := by
  have L_h := Lo.refl z
  delta f_X12_steep
  exact Lq.tr L_h (lo_f_X12_steep_2 _ _ h L_h.1)
theorem lo_f_X12_close_18 {n : Nat} (h : MM) (z : 100 ≤ nx h) : Lq h (f_X12_close_18 n h) := by
  have L_h := Lo.refl z
  delta f_X12_close_18
  exact Lq.some L_h
theorem lo_f_X12_close_51 {n : Nat} {s0 : Int} (h : MM) (z : 100 ≤ nx h) : Lq h (f_X12_close_51 n s0 h) := by
  have L_h := Lo.refl z
  delta f_X12_close_51
  exact Lq.some L_h
theorem lo_f_X12_close {n : Nat} {v0 : Int} {v1 : Int} {v2 : Int} {v3 : Int} (h : MM) (z : 100 ≤ nx h) : Lq h (f_X12_close n v0 v1 v2 v3 h) := by
  have L_h := Lo.refl z
  delta f_X12_close
  refine Lq.xgk ?_
  refine Lq.xbd L_h (lo_f_X12_isOf h L_h.1) fun _ h1 L_h1 => ?_
  refine Lq.ite ?_ ?_
  exact Lq.tr L_h1 (lo_f_X12_close_18 h1 L_h1.1)
  refine Lq.xbd L_h1 (lo_f_X12_in h1 L_h1.1) fun _ h3 L_h3 => ?_
  refine Lq.ite ?_ ?_
  exact Lq.tr L_h3 (lo_f_X12_close_18 h3 L_h3.1)
  refine Lq.xbd L_h3 (lo_f_X12_isDay h3 L_h3.1) fun _ h5 L_h5 => ?_
  refine Lq.ite ?_ ?_
  exact Lq.tr L_h5 (lo_f_X12_close_51 h5 L_h5.1)
  refine Lq.ite ?_ ?_
  refine Lq.xgk ?_
  refine Lq.xbd L_h5 (lo_f_X12_notClose h5 L_h5.1) fun _ h9 L_h9 => ?_
  exact Lq.tr L_h9 (lo_f_X12_close_51 h9 L_h9.1)
  refine Lq.xgk ?_
  refine Lq.xbd L_h5 (lo_f_X12_steep h5 L_h5.1) fun _ h8 L_h8 => ?_
  exact Lq.tr L_h8 (lo_f_X12_close_51 h8 L_h8.1)
theorem lo_f_X12_quarrel_18 {n : Nat} (h : MM) (z : 100 ≤ nx h) : Lq h (f_X12_quarrel_18 n h) := by
  have L_h := Lo.refl z
  delta f_X12_quarrel_18
  exact Lq.some L_h
theorem lo_f_X12_quarrel_140 {n : Nat} {rec30 : Int → MM → RR} {v0 : Int} {v1 : Int} {v2 : Int} {v3 : Int} (q_rec30 : ∀ (a0 : Int) (h : MM), 100 ≤ nx h → Lq h (rec30 a0 h)) (h : MM) (z : 100 ≤ nx h) : Lq h (f_X12_quarrel_140 n rec30 v0 v1 v2 v3 h) := by
  have L_h := Lo.refl z
  delta f_X12_quarrel_140
  refine Lq.xlb fun _ => ?_
  exact Lq.tr L_h (q_rec30 _ h L_h.1)
theorem lo_f_X12_quarrel_114 {n : Nat} {rec30 : Int → MM → RR} {v0 : Int} {v1 : Int} {v2 : Int} {v3 : Int} {v4 : Int} {v6 : Int} {s0 : Int} (q_rec30 : ∀ (a0 : Int) (h : MM), 100 ≤ nx h → Lq h (rec30 a0 h)) (h : MM) (z : 100 ≤ nx h) : Lq h (f_X12_quarrel_114 n rec30 v0 v1 v2 v3 v4 v6 s0 h) := by
  have L_h := Lo.refl z
  delta f_X12_quarrel_114
  refine Lq.ite ?_ ?_
  exact Lq.tr L_h (lo_f_X12_quarrel_140 q_rec30 h L_h.1)
  refine Lq.ite ?_ ?_
  exact Lq.tr L_h (lo_f_X12_quarrel_140 q_rec30 h L_h.1)
  refine Lq.ite ?_ ?_
  exact Lq.tr L_h (lo_f_X12_quarrel_140 q_rec30 h L_h.1)
  exact Lq.some L_h
theorem lo_f_X12_quarrel_30b {n : Nat} {rec30 : Int → MM → RR} {v0 : Int} {v1 : Int} {v2 : Int} {v3 : Int} (q_rec30 : ∀ (a0 : Int) (h : MM), 100 ≤ nx h → Lq h (rec30 a0 h)) (h : MM) (z : 100 ≤ nx h) : Lq h (f_X12_quarrel_30b n rec30 v0 v1 v2 v3 h) := by
  have L_h := Lo.refl z
  delta f_X12_quarrel_30b
  refine Lq.xgf fun _ => ?_
  refine Lq.xrd fun _ => ?_
  refine Lq.ite ?_ ?_
  exact Lq.some L_h
  refine Lq.xgf fun _ => ?_
  refine Lq.xrd fun _ => ?_
  refine Lq.xgk ?_
  refine Lq.xbd L_h (lo_f_X12_placeIn h L_h.1) fun _ h6 L_h6 => ?_
  refine Lq.xgf fun _ => ?_
  refine Lq.xrd fun _ => ?_
  refine Lq.ite ?_ ?_
  exact Lq.tr L_h6 (lo_f_X12_quarrel_114 q_rec30 h6 L_h6.1)
  refine Lq.xgf fun _ => ?_
  refine Lq.xrd fun _ => ?_
  exact Lq.tr L_h6 (lo_f_X12_quarrel_114 q_rec30 h6 L_h6.1)
theorem lo_f_X12_quarrel_30 {n : Nat} {v0 : Int} {v1 : Int} {v2 : Int} : ∀ (k : Nat) (v3 : Int) (h : MM), 100 ≤ nx h → Lq h (f_X12_quarrel_30 n v0 v1 v2 k v3 h)
  | 0, _, _, _ => Lq.none
  | k + 1, v3, h, z => lo_f_X12_quarrel_30b (fun b0 h z => lo_f_X12_quarrel_30 k b0 h z) h z
theorem lo_f_X12_quarrel {n : Nat} {v0 : Int} {v1 : Int} {v2 : Int} (h : MM) (z : 100 ≤ nx h) : Lq h (f_X12_quarrel n v0 v1 v2 h) := by
  have L_h := Lo.refl z
  delta f_X12_quarrel
  refine Lq.xgk ?_
  refine Lq.xbd L_h (lo_f_X12_isOf h L_h.1) fun _ h1 L_h1 => ?_
  refine Lq.ite ?_ ?_
  exact Lq.tr L_h1 (lo_f_X12_quarrel_18 h1 L_h1.1)
  refine Lq.xgk ?_
  refine Lq.xbd L_h1 (lo_f_X12_isOf h1 L_h1.1) fun _ h3 L_h3 => ?_
  refine Lq.ite ?_ ?_
  exact Lq.tr L_h3 (lo_f_X12_quarrel_18 h3 L_h3.1)
  refine Lq.ite ?_ ?_
  exact Lq.some L_h3
  exact Lq.tr L_h3 (lo_f_X12_quarrel_30 _ _ h3 L_h3.1)
theorem lo_f_X12_canStep_91 {n : Nat} {s0 : Int} (h : MM) (z : 100 ≤ nx h) : Lq h (f_X12_canStep_91 n s0 h) := by
  have L_h := Lo.refl z
  delta f_X12_canStep_91
  refine Lq.xck ?_
  exact Lq.some L_h
theorem lo_f_X12_canStep_90 {n : Nat} (h : MM) (z : 100 ≤ nx h) : Lq h (f_X12_canStep_90 n h) := by
  have L_h := Lo.refl z
  delta f_X12_canStep_90
  exact Lq.tr L_h (lo_f_X12_canStep_91 h L_h.1)
theorem lo_f_X12_canStep_39 {n : Nat} {v0 : Int} {v1 : Int} {v2 : Int} {v5 : Int} {s0 : Int} (h : MM) (z : 100 ≤ nx h) : Lq h (f_X12_canStep_39 n v0 v1 v2 v5 s0 h) := by
  have L_h := Lo.refl z
  delta f_X12_canStep_39
  refine Lq.xbd L_h (lo_f_X12_isBeside h L_h.1) fun _ h1 L_h1 => ?_
  refine Lq.ite ?_ ?_
  exact Lq.tr L_h1 (lo_f_X12_canStep_90 h1 L_h1.1)
  refine Lq.ite ?_ ?_
  refine Lq.xgf fun _ => ?_
  refine Lq.xrd fun _ => ?_
  refine Lq.xgf fun _ => ?_
  refine Lq.xrd fun _ => ?_
  refine Lq.xbd L_h1 (lo_f_X12_size h1 L_h1.1) fun _ h8 L_h8 => ?_
  refine Lq.xgk ?_
  refine Lq.xbd L_h8 (lo_f_X12_rule h8 L_h8.1) fun _ h9 L_h9 => ?_
  refine Lq.ite ?_ ?_
  exact Lq.tr L_h9 (lo_f_X12_canStep_90 h9 L_h9.1)
  exact Lq.tr L_h9 (lo_f_X12_canStep_91 h9 L_h9.1)
  exact Lq.tr L_h1 (lo_f_X12_canStep_90 h1 L_h1.1)
theorem lo_f_X12_canStep_38 {n : Nat} {v0 : Int} {v1 : Int} {v2 : Int} {v5 : Int} (h : MM) (z : 100 ≤ nx h) : Lq h (f_X12_canStep_38 n v0 v1 v2 v5 h) := by
  have L_h := Lo.refl z
  delta f_X12_canStep_38
  exact Lq.tr L_h (lo_f_X12_canStep_39 h L_h.1)
theorem lo_f_X12_canStep {n : Nat} {v0 : Int} {v1 : Int} {v2 : Int} {v3 : Int} {v4 : Int} {v5 : Int} (h : MM) (z : 100 ≤ nx h) : Lq h (f_X12_canStep n v0 v1 v2 v3 v4 v5 h) := by
  have L_h := Lo.refl z
  delta f_X12_canStep
  refine Lq.xgk ?_
  refine Lq.xbd L_h (lo_f_X12_rule h L_h.1) fun _ h1 L_h1 => ?_
  refine Lq.ite ?_ ?_
  refine Lq.xgf fun _ => ?_
  refine Lq.xrd fun _ => ?_
  refine Lq.ite ?_ ?_
  refine Lq.ite ?_ ?_
  exact Lq.tr L_h1 (lo_f_X12_canStep_38 h1 L_h1.1)
  refine Lq.ite ?_ ?_
  exact Lq.tr L_h1 (lo_f_X12_canStep_38 h1 L_h1.1)
  exact Lq.tr L_h1 (lo_f_X12_canStep_39 h1 L_h1.1)
  exact Lq.tr L_h1 (lo_f_X12_canStep_38 h1 L_h1.1)
  exact Lq.tr L_h1 (lo_f_X12_canStep_38 h1 L_h1.1)
theorem lo_f_X12_works_223 {n : Nat} {rec37 : Int → MM → RR} {rec48 : Int → Int → MM → RR} {rec58 : Int → Int → MM → RR} {v0 : Int} {v1 : Int} {v2 : Int} {v3 : Int} {v4 : Int} {v5 : Int} {v6 : Int} (q_rec37 : ∀ (a0 : Int) (h : MM), 100 ≤ nx h → Lq h (rec37 a0 h)) (q_rec48 : ∀ (a0 a1 : Int) (h : MM), 100 ≤ nx h → Lq h (rec48 a0 a1 h)) (q_rec58 : ∀ (a0 a1 : Int) (h : MM), 100 ≤ nx h → Lq h (rec58 a0 a1 h)) (h : MM) (z : 100 ≤ nx h) : Lq h (f_X12_works_223 n rec37 rec48 rec58 v0 v1 v2 v3 v4 v5 v6 h) := by
  have L_h := Lo.refl z
  delta f_X12_works_223
  refine Lq.xlb fun _ => ?_
  exact Lq.tr L_h (q_rec58 _ _ h L_h.1)
theorem lo_f_X12_works_221 {n : Nat} {rec37 : Int → MM → RR} {rec48 : Int → Int → MM → RR} {rec58 : Int → Int → MM → RR} {v0 : Int} {v1 : Int} {v2 : Int} {v3 : Int} {v5 : Int} {v6 : Int} {s0 : Int} (q_rec37 : ∀ (a0 : Int) (h : MM), 100 ≤ nx h → Lq h (rec37 a0 h)) (q_rec48 : ∀ (a0 a1 : Int) (h : MM), 100 ≤ nx h → Lq h (rec48 a0 a1 h)) (q_rec58 : ∀ (a0 a1 : Int) (h : MM), 100 ≤ nx h → Lq h (rec58 a0 a1 h)) (h : MM) (z : 100 ≤ nx h) : Lq h (f_X12_works_221 n rec37 rec48 rec58 v0 v1 v2 v3 v5 v6 s0 h) := by
  have L_h := Lo.refl z
  delta f_X12_works_221
  exact Lq.tr L_h (lo_f_X12_works_223 q_rec37 q_rec48 q_rec58 h L_h.1)
theorem lo_f_X12_works_216 {n : Nat} {rec37 : Int → MM → RR} {rec48 : Int → Int → MM → RR} {rec58 : Int → Int → MM → RR} {v0 : Int} {v1 : Int} {v2 : Int} {v3 : Int} {v5 : Int} {v6 : Int} (q_rec37 : ∀ (a0 : Int) (h : MM), 100 ≤ nx h → Lq h (rec37 a0 h)) (q_rec48 : ∀ (a0 a1 : Int) (h : MM), 100 ≤ nx h → Lq h (rec48 a0 a1 h)) (q_rec58 : ∀ (a0 a1 : Int) (h : MM), 100 ≤ nx h → Lq h (rec58 a0 a1 h)) (h : MM) (z : 100 ≤ nx h) : Lq h (f_X12_works_216 n rec37 rec48 rec58 v0 v1 v2 v3 v5 v6 h) := by
  have L_h := Lo.refl z
  delta f_X12_works_216
  exact Lq.tr L_h (lo_f_X12_works_221 q_rec37 q_rec48 q_rec58 h L_h.1)
theorem lo_f_X12_works_205 {n : Nat} {rec37 : Int → MM → RR} {rec48 : Int → Int → MM → RR} {rec58 : Int → Int → MM → RR} {v0 : Int} {v1 : Int} {v2 : Int} {v3 : Int} {v4 : Int} {v5 : Int} {v6 : Int} {v9 : Int} {s0 : Int} {s1 : Int} {s2 : Int} (q_rec37 : ∀ (a0 : Int) (h : MM), 100 ≤ nx h → Lq h (rec37 a0 h)) (q_rec48 : ∀ (a0 a1 : Int) (h : MM), 100 ≤ nx h → Lq h (rec48 a0 a1 h)) (q_rec58 : ∀ (a0 a1 : Int) (h : MM), 100 ≤ nx h → Lq h (rec58 a0 a1 h)) (h : MM) (z : 100 ≤ nx h) : Lq h (f_X12_works_205 n rec37 rec48 rec58 v0 v1 v2 v3 v4 v5 v6 v9 s0 s1 s2 h) := by
  have L_h := Lo.refl z
  delta f_X12_works_205
  refine Lq.xwt L_h fun h1 L_h1 => ?_
  refine Lq.ite ?_ ?_
  refine Lq.ite ?_ ?_
  exact Lq.tr L_h1 (lo_f_X12_works_221 q_rec37 q_rec48 q_rec58 h1 L_h1.1)
  exact Lq.tr L_h1 (lo_f_X12_works_216 q_rec37 q_rec48 q_rec58 h1 L_h1.1)
  exact Lq.tr L_h1 (lo_f_X12_works_216 q_rec37 q_rec48 q_rec58 h1 L_h1.1)
theorem lo_f_X12_works_180 {n : Nat} {rec37 : Int → MM → RR} {rec48 : Int → Int → MM → RR} {rec58 : Int → Int → MM → RR} {v0 : Int} {v1 : Int} {v2 : Int} {v3 : Int} {v4 : Int} {v5 : Int} {v6 : Int} {v8 : Int} {s0 : Int} (q_rec37 : ∀ (a0 : Int) (h : MM), 100 ≤ nx h → Lq h (rec37 a0 h)) (q_rec48 : ∀ (a0 a1 : Int) (h : MM), 100 ≤ nx h → Lq h (rec48 a0 a1 h)) (q_rec58 : ∀ (a0 a1 : Int) (h : MM), 100 ≤ nx h → Lq h (rec58 a0 a1 h)) (h : MM) (z : 100 ≤ nx h) : Lq h (f_X12_works_180 n rec37 rec48 rec58 v0 v1 v2 v3 v4 v5 v6 v8 s0 h) := by
  have L_h := Lo.refl z
  delta f_X12_works_180
  refine Lq.xgf fun _ => ?_
  refine Lq.ite ?_ ?_
  refine Lq.xgf fun _ => ?_
  refine Lq.xrd fun _ => ?_
  exact Lq.tr L_h (lo_f_X12_works_205 q_rec37 q_rec48 q_rec58 h L_h.1)
  exact Lq.tr L_h (lo_f_X12_works_205 q_rec37 q_rec48 q_rec58 h L_h.1)
theorem lo_f_X12_works_175 {n : Nat} {rec37 : Int → MM → RR} {rec48 : Int → Int → MM → RR} {rec58 : Int → Int → MM → RR} {v0 : Int} {v1 : Int} {v2 : Int} {v3 : Int} {v4 : Int} {v5 : Int} {v6 : Int} {v8 : Int} (q_rec37 : ∀ (a0 : Int) (h : MM), 100 ≤ nx h → Lq h (rec37 a0 h)) (q_rec48 : ∀ (a0 a1 : Int) (h : MM), 100 ≤ nx h → Lq h (rec48 a0 a1 h)) (q_rec58 : ∀ (a0 a1 : Int) (h : MM), 100 ≤ nx h → Lq h (rec58 a0 a1 h)) (h : MM) (z : 100 ≤ nx h) : Lq h (f_X12_works_175 n rec37 rec48 rec58 v0 v1 v2 v3 v4 v5 v6 v8 h) := by
  have L_h := Lo.refl z
  delta f_X12_works_175
  exact Lq.tr L_h (lo_f_X12_works_180 q_rec37 q_rec48 q_rec58 h L_h.1)
theorem lo_f_X12_works_98 {n : Nat} {rec37 : Int → MM → RR} {rec48 : Int → Int → MM → RR} {rec58 : Int → Int → MM → RR} {v0 : Int} {v1 : Int} {v2 : Int} {v3 : Int} {v4 : Int} {v5 : Int} {v6 : Int} {s0 : Int} {s1 : Int} (q_rec37 : ∀ (a0 : Int) (h : MM), 100 ≤ nx h → Lq h (rec37 a0 h)) (q_rec48 : ∀ (a0 a1 : Int) (h : MM), 100 ≤ nx h → Lq h (rec48 a0 a1 h)) (q_rec58 : ∀ (a0 a1 : Int) (h : MM), 100 ≤ nx h → Lq h (rec58 a0 a1 h)) (h : MM) (z : 100 ≤ nx h) : Lq h (f_X12_works_98 n rec37 rec48 rec58 v0 v1 v2 v3 v4 v5 v6 s0 s1 h) := by
  have L_h := Lo.refl z
  delta f_X12_works_98
  refine Lq.xlb fun _ => ?_
  refine Lq.xbd L_h (lo_f_X12_isCell h L_h.1) fun _ h2 L_h2 => ?_
  refine Lq.ite ?_ ?_
  exact Lq.tr L_h2 (lo_f_X12_works_223 q_rec37 q_rec48 q_rec58 h2 L_h2.1)
  refine Lq.xgf fun _ => ?_
  refine Lq.xrd fun _ => ?_
  refine Lq.ite ?_ ?_
  exact Lq.tr L_h2 (lo_f_X12_works_223 q_rec37 q_rec48 q_rec58 h2 L_h2.1)
  refine Lq.xgk ?_
  refine Lq.xbd L_h2 (lo_f_X12_canStep h2 L_h2.1) fun _ h7 L_h7 => ?_
  refine Lq.ite ?_ ?_
  exact Lq.tr L_h7 (lo_f_X12_works_223 q_rec37 q_rec48 q_rec58 h7 L_h7.1)
  refine Lq.xgk ?_
  refine Lq.xbd L_h7 (lo_f_X12_step h7 L_h7.1) fun _ h9 L_h9 => ?_
  refine Lq.xgf fun _ => ?_
  refine Lq.xrd fun _ => ?_
  refine Lq.xlb fun _ => ?_
  refine Lq.xgf fun _ => ?_
  refine Lq.xrd fun _ => ?_
  refine Lq.ite ?_ ?_
  exact Lq.tr L_h9 (lo_f_X12_works_175 q_rec37 q_rec48 q_rec58 h9 L_h9.1)
  refine Lq.xgf fun _ => ?_
  refine Lq.xrd fun _ => ?_
  refine Lq.ite ?_ ?_
  exact Lq.tr L_h9 (lo_f_X12_works_180 q_rec37 q_rec48 q_rec58 h9 L_h9.1)
  exact Lq.tr L_h9 (lo_f_X12_works_175 q_rec37 q_rec48 q_rec58 h9 L_h9.1)
theorem lo_f_X12_works_58b {n : Nat} {rec37 : Int → MM → RR} {rec48 : Int → Int → MM → RR} {rec58 : Int → Int → MM → RR} {v0 : Int} {v1 : Int} {v2 : Int} {v3 : Int} {v4 : Int} {v5 : Int} {v6 : Int} (q_rec37 : ∀ (a0 : Int) (h : MM), 100 ≤ nx h → Lq h (rec37 a0 h)) (q_rec48 : ∀ (a0 a1 : Int) (h : MM), 100 ≤ nx h → Lq h (rec48 a0 a1 h)) (q_rec58 : ∀ (a0 a1 : Int) (h : MM), 100 ≤ nx h → Lq h (rec58 a0 a1 h)) (h : MM) (z : 100 ≤ nx h) : Lq h (f_X12_works_58b n rec37 rec48 rec58 v0 v1 v2 v3 v4 v5 v6 h) := by
  have L_h := Lo.refl z
  delta f_X12_works_58b
  refine Lq.ite ?_ ?_
  refine Lq.xlb fun _ => ?_
  exact Lq.tr L_h (q_rec48 _ _ h L_h.1)
  refine Lq.ite ?_ ?_
  exact Lq.tr L_h (lo_f_X12_works_98 q_rec37 q_rec48 q_rec58 h L_h.1)
  refine Lq.ite ?_ ?_
  exact Lq.tr L_h (lo_f_X12_works_98 q_rec37 q_rec48 q_rec58 h L_h.1)
  refine Lq.ite ?_ ?_
  exact Lq.tr L_h (lo_f_X12_works_98 q_rec37 q_rec48 q_rec58 h L_h.1)
  exact Lq.tr L_h (lo_f_X12_works_98 q_rec37 q_rec48 q_rec58 h L_h.1)
theorem lo_f_X12_works_58 {n : Nat} {rec37 : Int → MM → RR} {rec48 : Int → Int → MM → RR} {v0 : Int} {v1 : Int} {v2 : Int} {v3 : Int} {v5 : Int} (q_rec37 : ∀ (a0 : Int) (h : MM), 100 ≤ nx h → Lq h (rec37 a0 h)) (q_rec48 : ∀ (a0 a1 : Int) (h : MM), 100 ≤ nx h → Lq h (rec48 a0 a1 h)) : ∀ (k : Nat) (v4 v6 : Int) (h : MM), 100 ≤ nx h → Lq h (f_X12_works_58 n rec37 rec48 v0 v1 v2 v3 v5 k v4 v6 h)
  | 0, _, _, _, _ => Lq.none
  | k + 1, v4, v6, h, z => lo_f_X12_works_58b q_rec37 q_rec48 (fun b0 b1 h z => lo_f_X12_works_58 q_rec37 q_rec48 k b0 b1 h z) h z
theorem lo_f_X12_works_48b {n : Nat} {rec37 : Int → MM → RR} {rec48 : Int → Int → MM → RR} {v0 : Int} {v1 : Int} {v2 : Int} {v3 : Int} {v4 : Int} {v5 : Int} (q_rec37 : ∀ (a0 : Int) (h : MM), 100 ≤ nx h → Lq h (rec37 a0 h)) (q_rec48 : ∀ (a0 a1 : Int) (h : MM), 100 ≤ nx h → Lq h (rec48 a0 a1 h)) (h : MM) (z : 100 ≤ nx h) : Lq h (f_X12_works_48b n rec37 rec48 v0 v1 v2 v3 v4 v5 h) := by
  have L_h := Lo.refl z
  delta f_X12_works_48b
  refine Lq.ite ?_ ?_
  exact Lq.tr L_h (q_rec37 _ h L_h.1)
  exact Lq.tr L_h (lo_f_X12_works_58 q_rec37 q_rec48 _ _ _ h L_h.1)
theorem lo_f_X12_works_48 {n : Nat} {rec37 : Int → MM → RR} {v0 : Int} {v1 : Int} {v2 : Int} {v3 : Int} (q_rec37 : ∀ (a0 : Int) (h : MM), 100 ≤ nx h → Lq h (rec37 a0 h)) : ∀ (k : Nat) (v4 v5 : Int) (h : MM), 100 ≤ nx h → Lq h (f_X12_works_48 n rec37 v0 v1 v2 v3 k v4 v5 h)
  | 0, _, _, _, _ => Lq.none
  | k + 1, v4, v5, h, z => lo_f_X12_works_48b q_rec37 (fun b0 b1 h z => lo_f_X12_works_48 q_rec37 k b0 b1 h z) h z
theorem lo_f_X12_works_37b {n : Nat} {rec37 : Int → MM → RR} {v0 : Int} {v1 : Int} {v2 : Int} {v3 : Int} {v4 : Int} (q_rec37 : ∀ (a0 : Int) (h : MM), 100 ≤ nx h → Lq h (rec37 a0 h)) (h : MM) (z : 100 ≤ nx h) : Lq h (f_X12_works_37b n rec37 v0 v1 v2 v3 v4 h) := by
  have L_h := Lo.refl z
  delta f_X12_works_37b
  refine Lq.ite ?_ ?_
  exact Lq.some L_h
  exact Lq.tr L_h (lo_f_X12_works_48 q_rec37 _ _ _ h L_h.1)
theorem lo_f_X12_works_37 {n : Nat} {v0 : Int} {v1 : Int} {v2 : Int} {v3 : Int} : ∀ (k : Nat) (v4 : Int) (h : MM), 100 ≤ nx h → Lq h (f_X12_works_37 n v0 v1 v2 v3 k v4 h)
  | 0, _, _, _ => Lq.none
  | k + 1, v4, h, z => lo_f_X12_works_37b (fun b0 h z => lo_f_X12_works_37 k b0 h z) h z
theorem lo_f_X12_works_27 {n : Nat} {rec3 : Int → MM → RR} {v0 : Int} {v1 : Int} {v2 : Int} {v3 : Int} {v4 : Int} {s0 : Int} {s1 : Int} {s2 : Int} (q_rec3 : ∀ (a0 : Int) (h : MM), 100 ≤ nx h → Lq h (rec3 a0 h)) (h : MM) (z : 100 ≤ nx h) : Lq h (f_X12_works_27 n rec3 v0 v1 v2 v3 v4 s0 s1 s2 h) := by
  have L_h := Lo.refl z
  delta f_X12_works_27
  refine Lq.xwt L_h fun h1 L_h1 => ?_
  refine Lq.xlb fun _ => ?_
  exact Lq.tr L_h1 (q_rec3 _ h1 L_h1.1)
theorem lo_f_X12_works_3b {n : Nat} {rec3 : Int → MM → RR} {v0 : Int} {v1 : Int} {v2 : Int} {v3 : Int} {v4 : Int} (q_rec3 : ∀ (a0 : Int) (h : MM), 100 ≤ nx h → Lq h (rec3 a0 h)) (h : MM) (z : 100 ≤ nx h) : Lq h (f_X12_works_3b n rec3 v0 v1 v2 v3 v4 h) := by
  have L_h := Lo.refl z
  delta f_X12_works_3b
  refine Lq.ite ?_ ?_
  exact Lq.tr L_h (lo_f_X12_works_37 _ _ h L_h.1)
  refine Lq.xgf fun _ => ?_
  refine Lq.ite ?_ ?_
  exact Lq.tr L_h (lo_f_X12_works_27 q_rec3 h L_h.1)
  exact Lq.tr L_h (lo_f_X12_works_27 q_rec3 h L_h.1)
theorem lo_f_X12_works_3 {n : Nat} {v0 : Int} {v1 : Int} {v2 : Int} {v3 : Int} : ∀ (k : Nat) (v4 : Int) (h : MM), 100 ≤ nx h → Lq h (f_X12_works_3 n v0 v1 v2 v3 k v4 h)
  | 0, _, _, _ => Lq.none
  | k + 1, v4, h, z => lo_f_X12_works_3b (fun b0 h z => lo_f_X12_works_3 k b0 h z) h z
theorem lo_f_X12_works {n : Nat} {v0 : Int} {v1 : Int} {v2 : Int} {v3 : Int} (h : MM) (z : 100 ≤ nx h) : Lq h (f_X12_works n v0 v1 v2 v3 h) := by
  have L_h := Lo.refl z
  delta f_X12_works
  exact Lq.tr L_h (lo_f_X12_works_3 _ _ h L_h.1)
theorem lo_f_X12_slope_32 {n : Nat} (h : MM) (z : 100 ≤ nx h) : Lq h (f_X12_slope_32 n h) := by
  have L_h := Lo.refl z
  delta f_X12_slope_32
  exact Lq.some L_h
theorem lo_f_X12_slope_46 {n : Nat} (h : MM) (z : 100 ≤ nx h) : Lq h (f_X12_slope_46 n h) := by
  have L_h := Lo.refl z
  delta f_X12_slope_46
  exact Lq.some L_h
theorem lo_f_X12_slope_267 {n : Nat} {s0 : Int} (h : MM) (z : 100 ≤ nx h) : Lq h (f_X12_slope_267 n s0 h) := by
  have L_h := Lo.refl z
  delta f_X12_slope_267
  exact Lq.some L_h
theorem lo_f_X12_slope_211 {n : Nat} {rec120 : Int → MM → RR} {rec148 : Int → MM → RR} {v0 : Int} {v3 : Int} {v4 : Int} {v5 : Int} {v6 : Int} {v7 : Int} {v8 : Int} {v9 : Int} (q_rec120 : ∀ (a0 : Int) (h : MM), 100 ≤ nx h → Lq h (rec120 a0 h)) (q_rec148 : ∀ (a0 : Int) (h : MM), 100 ≤ nx h → Lq h (rec148 a0 h)) (h : MM) (z : 100 ≤ nx h) : Lq h (f_X12_slope_211 n rec120 rec148 v0 v3 v4 v5 v6 v7 v8 v9 h) := by
  have L_h := Lo.refl z
  delta f_X12_slope_211
  refine Lq.xlb fun _ => ?_
  exact Lq.tr L_h (q_rec148 _ h L_h.1)
theorem lo_f_X12_slope_148b {n : Nat} {rec120 : Int → MM → RR} {rec148 : Int → MM → RR} {v0 : Int} {v3 : Int} {v4 : Int} {v5 : Int} {v6 : Int} {v7 : Int} {v8 : Int} {v9 : Int} (q_rec120 : ∀ (a0 : Int) (h : MM), 100 ≤ nx h → Lq h (rec120 a0 h)) (q_rec148 : ∀ (a0 : Int) (h : MM), 100 ≤ nx h → Lq h (rec148 a0 h)) (h : MM) (z : 100 ≤ nx h) : Lq h (f_X12_slope_148b n rec120 rec148 v0 v3 v4 v5 v6 v7 v8 v9 h) := by
  have L_h := Lo.refl z
  delta f_X12_slope_148b
  refine Lq.xbd L_h (lo_f_X12_isBeside h L_h.1) fun _ h1 L_h1 => ?_
  refine Lq.ite ?_ ?_
  exact Lq.tr L_h1 (lo_f_X12_slope_211 q_rec120 q_rec148 h1 L_h1.1)
  refine Lq.xgf fun _ => ?_
  refine Lq.xrd fun _ => ?_
  refine Lq.ite ?_ ?_
  exact Lq.tr L_h1 (lo_f_X12_slope_211 q_rec120 q_rec148 h1 L_h1.1)
  refine Lq.xgk ?_
  refine Lq.xbd L_h1 (lo_f_X12_canStep h1 L_h1.1) fun _ h6 L_h6 => ?_
  refine Lq.ite ?_ ?_
  exact Lq.tr L_h6 (lo_f_X12_slope_211 q_rec120 q_rec148 h6 L_h6.1)
  refine Lq.xgk ?_
  refine Lq.xbd L_h6 (lo_f_X12_step h6 L_h6.1) fun _ h8 L_h8 => ?_
  refine Lq.xgf fun _ => ?_
  refine Lq.xrd fun _ => ?_
  refine Lq.xgf fun _ => ?_
  refine Lq.xrd fun _ => ?_
  refine Lq.ite ?_ ?_
  refine Lq.xgf fun _ => ?_
  refine Lq.xwt L_h8 fun h15 L_h15 => ?_
  refine Lq.xlb fun _ => ?_
  exact Lq.tr L_h15 (q_rec120 _ h15 L_h15.1)
  exact Lq.tr L_h8 (lo_f_X12_slope_211 q_rec120 q_rec148 h8 L_h8.1)
theorem lo_f_X12_slope_148 {n : Nat} {rec120 : Int → MM → RR} {v0 : Int} {v3 : Int} {v4 : Int} {v5 : Int} {v6 : Int} {v7 : Int} {v8 : Int} (q_rec120 : ∀ (a0 : Int) (h : MM), 100 ≤ nx h → Lq h (rec120 a0 h)) : ∀ (k : Nat) (v9 : Int) (h : MM), 100 ≤ nx h → Lq h (f_X12_slope_148 n rec120 v0 v3 v4 v5 v6 v7 v8 k v9 h)
  | 0, _, _, _ => Lq.none
  | k + 1, v9, h, z => lo_f_X12_slope_148b q_rec120 (fun b0 h z => lo_f_X12_slope_148 q_rec120 k b0 h z) h z
theorem lo_f_X12_slope_120b {n : Nat} {rec120 : Int → MM → RR} {v0 : Int} {v3 : Int} {v4 : Int} {v5 : Int} {v6 : Int} {v7 : Int} (q_rec120 : ∀ (a0 : Int) (h : MM), 100 ≤ nx h → Lq h (rec120 a0 h)) (h : MM) (z : 100 ≤ nx h) : Lq h (f_X12_slope_120b n rec120 v0 v3 v4 v5 v6 v7 h) := by
  have L_h := Lo.refl z
  delta f_X12_slope_120b
  refine Lq.xgf fun _ => ?_
  refine Lq.xrd fun _ => ?_
  refine Lq.ite ?_ ?_
  refine Lq.ite ?_ ?_
  exact Lq.tr L_h (lo_f_X12_slope_267 h L_h.1)
  refine Lq.ite ?_ ?_
  exact Lq.tr L_h (lo_f_X12_slope_267 h L_h.1)
  refine Lq.xgf fun _ => ?_
  refine Lq.xrd fun _ => ?_
  exact Lq.tr L_h (lo_f_X12_slope_267 h L_h.1)
  refine Lq.xgf fun _ => ?_
  refine Lq.xrd fun _ => ?_
  exact Lq.tr L_h (lo_f_X12_slope_148 q_rec120 _ _ h L_h.1)
theorem lo_f_X12_slope_120 {n : Nat} {v0 : Int} {v3 : Int} {v4 : Int} {v5 : Int} {v6 : Int} : ∀ (k : Nat) (v7 : Int) (h : MM), 100 ≤ nx h → Lq h (f_X12_slope_120 n v0 v3 v4 v5 v6 k v7 h)
  | 0, _, _, _ => Lq.none
  | k + 1, v7, h, z => lo_f_X12_slope_120b (fun b0 h z => lo_f_X12_slope_120 k b0 h z) h z
theorem lo_f_X12_slope {n : Nat} {v0 : Int} {v1 : Int} {v2 : Int} {v3 : Int} {v4 : Int} (h : MM) (z : 100 ≤ nx h) : Lq h (f_X12_slope n v0 v1 v2 v3 v4 h) := by
  have L_h := Lo.refl z
  delta f_X12_slope
  refine Lq.xgk ?_
  refine Lq.xbd L_h (lo_f_X12_isTown h L_h.1) fun _ h1 L_h1 => ?_
  refine Lq.ite ?_ ?_
  exact Lq.tr L_h1 (lo_f_X12_slope_32 h1 L_h1.1)
  refine Lq.xgk ?_
  refine Lq.xbd L_h1 (lo_f_X12_isTown h1 L_h1.1) fun _ h3 L_h3 => ?_
  refine Lq.ite ?_ ?_
  exact Lq.tr L_h3 (lo_f_X12_slope_32 h3 L_h3.1)
  refine Lq.ite ?_ ?_
  exact Lq.tr L_h3 (lo_f_X12_slope_32 h3 L_h3.1)
  refine Lq.xbd L_h3 (lo_f_X12_in h3 L_h3.1) fun _ h6 L_h6 => ?_
  refine Lq.ite ?_ ?_
  refine Lq.ite ?_ ?_
  exact Lq.tr L_h6 (lo_f_X12_slope_46 h6 L_h6.1)
  refine Lq.xbd L_h6 (lo_f_X12_isDay h6 L_h6.1) fun _ h9 L_h9 => ?_
  refine Lq.ite ?_ ?_
  exact Lq.tr L_h9 (lo_f_X12_slope_46 h9 L_h9.1)
  refine Lq.xgf fun _ => ?_
  refine Lq.xrd fun _ => ?_
  refine Lq.xgf fun _ => ?_
  refine Lq.xrd fun _ => ?_
  refine Lq.xgk ?_
  refine Lq.xbd L_h9 (lo_f_X12_works h9 L_h9.1) fun _ h15 L_h15 => ?_
  refine Lq.xgf fun _ => ?_
  refine Lq.xrd fun _ => ?_
  refine Lq.ite ?_ ?_
  exact Lq.some L_h15
  refine Lq.ite ?_ ?_
  refine Lq.xgf fun _ => ?_
  refine Lq.xrd fun _ => ?_
  exact Lq.some L_h15
  refine Lq.xgf fun _ => ?_
  refine Lq.xwt L_h15 fun h21 L_h21 => ?_
  exact Lq.tr L_h21 (lo_f_X12_slope_120 _ _ h21 L_h21.1)
  exact Lq.tr L_h6 (lo_f_X12_slope_32 h6 L_h6.1)
theorem lo_f_X12_claim_50 {n : Nat} {s0 : Int} (h : MM) (z : 100 ≤ nx h) : Lq h (f_X12_claim_50 n s0 h) := by
  have L_h := Lo.refl z
  delta f_X12_claim_50
  exact Lq.some L_h
theorem lo_f_X12_claim {n : Nat} {v0 : Int} {v1 : Int} {v2 : Int} (h : MM) (z : 100 ≤ nx h) : Lq h (f_X12_claim n v0 v1 v2 h) := by
  have L_h := Lo.refl z
  delta f_X12_claim
  refine Lq.xbd L_h (lo_f_X12_isCell h L_h.1) fun _ h1 L_h1 => ?_
  refine Lq.ite ?_ ?_
  exact Lq.some L_h1
  refine Lq.xbd L_h1 (lo_f_X12_in h1 L_h1.1) fun _ h3 L_h3 => ?_
  refine Lq.ite ?_ ?_
  exact Lq.some L_h3
  refine Lq.xgf fun _ => ?_
  refine Lq.xrd fun _ => ?_
  refine Lq.ite ?_ ?_
  exact Lq.tr L_h3 (lo_f_X12_claim_50 h3 L_h3.1)
  refine Lq.xgk ?_
  refine Lq.xbd L_h3 (lo_f_X12_paper h3 L_h3.1) fun _ h8 L_h8 => ?_
  exact Lq.tr L_h8 (lo_f_X12_claim_50 h8 L_h8.1)
theorem lo_f_X12_bill_200 {n : Nat} {s0 : Int} (h : MM) (z : 100 ≤ nx h) : Lq h (f_X12_bill_200 n s0 h) := by
  have L_h := Lo.refl z
  delta f_X12_bill_200
  exact Lq.some L_h
theorem lo_f_X12_bill_133 {n : Nat} {rec86 : Int → Int → MM → RR} {v0 : Int} {v1 : Int} {v3 : Int} {s0 : Int} (q_rec86 : ∀ (a0 a1 : Int) (h : MM), 100 ≤ nx h → Lq h (rec86 a0 a1 h)) (h : MM) (z : 100 ≤ nx h) : Lq h (f_X12_bill_133 n rec86 v0 v1 v3 s0 h) := by
  have L_h := Lo.refl z
  delta f_X12_bill_133
  refine Lq.xlb fun _ => ?_
  exact Lq.tr L_h (q_rec86 _ _ h L_h.1)
theorem lo_f_X12_bill_132 {n : Nat} {rec86 : Int → Int → MM → RR} {v0 : Int} {v1 : Int} {v3 : Int} (q_rec86 : ∀ (a0 a1 : Int) (h : MM), 100 ≤ nx h → Lq h (rec86 a0 a1 h)) (h : MM) (z : 100 ≤ nx h) : Lq h (f_X12_bill_132 n rec86 v0 v1 v3 h) := by
  have L_h := Lo.refl z
  delta f_X12_bill_132
  exact Lq.tr L_h (lo_f_X12_bill_133 q_rec86 h L_h.1)
theorem lo_f_X12_bill_128 {n : Nat} {rec86 : Int → Int → MM → RR} {v0 : Int} {v1 : Int} {v3 : Int} (q_rec86 : ∀ (a0 a1 : Int) (h : MM), 100 ≤ nx h → Lq h (rec86 a0 a1 h)) (h : MM) (z : 100 ≤ nx h) : Lq h (f_X12_bill_128 n rec86 v0 v1 v3 h) := by
  have L_h := Lo.refl z
  delta f_X12_bill_128
  exact Lq.tr L_h (lo_f_X12_bill_133 q_rec86 h L_h.1)
theorem lo_f_X12_bill_86b {n : Nat} {rec86 : Int → Int → MM → RR} {v0 : Int} {v1 : Int} {v2 : Int} {v3 : Int} (q_rec86 : ∀ (a0 a1 : Int) (h : MM), 100 ≤ nx h → Lq h (rec86 a0 a1 h)) (h : MM) (z : 100 ≤ nx h) : Lq h (f_X12_bill_86b n rec86 v0 v1 v2 v3 h) := by
  have L_h := Lo.refl z
  delta f_X12_bill_86b
  refine Lq.xgf fun _ => ?_
  refine Lq.xrd fun _ => ?_
  refine Lq.ite ?_ ?_
  refine Lq.ite ?_ ?_
  exact Lq.some L_h
  refine Lq.xgf fun _ => ?_
  refine Lq.xrd fun _ => ?_
  refine Lq.ite ?_ ?_
  exact Lq.tr L_h (lo_f_X12_bill_200 h L_h.1)
  refine Lq.xgf fun _ => ?_
  refine Lq.xrd fun _ => ?_
  refine Lq.xgf fun _ => ?_
  refine Lq.xrd fun _ => ?_
  refine Lq.xgf fun _ => ?_
  refine Lq.xrd fun _ => ?_
  refine Lq.xgk ?_
  refine Lq.xbd L_h (lo_f_X12_paper h L_h.1) fun _ h14 L_h14 => ?_
  exact Lq.tr L_h14 (lo_f_X12_bill_200 h14 L_h14.1)
  refine Lq.ite ?_ ?_
  exact Lq.tr L_h (lo_f_X12_bill_132 q_rec86 h L_h.1)
  refine Lq.xgf fun _ => ?_
  refine Lq.xrd fun _ => ?_
  refine Lq.ite ?_ ?_
  refine Lq.xgf fun _ => ?_
  refine Lq.xrd fun _ => ?_
  refine Lq.ite ?_ ?_
  exact Lq.tr L_h (lo_f_X12_bill_132 q_rec86 h L_h.1)
  exact Lq.tr L_h (lo_f_X12_bill_128 q_rec86 h L_h.1)
  exact Lq.tr L_h (lo_f_X12_bill_128 q_rec86 h L_h.1)
theorem lo_f_X12_bill_86 {n : Nat} {v0 : Int} {v1 : Int} : ∀ (k : Nat) (v2 v3 : Int) (h : MM), 100 ≤ nx h → Lq h (f_X12_bill_86 n v0 v1 k v2 v3 h)
  | 0, _, _, _, _ => Lq.none
  | k + 1, v2, v3, h, z => lo_f_X12_bill_86b (fun b0 b1 h z => lo_f_X12_bill_86 k b0 b1 h z) h z
theorem lo_f_X12_bill_83 {n : Nat} {v0 : Int} {v1 : Int} {s0 : Int} (h : MM) (z : 100 ≤ nx h) : Lq h (f_X12_bill_83 n v0 v1 s0 h) := by
  have L_h := Lo.refl z
  delta f_X12_bill_83
  exact Lq.tr L_h (lo_f_X12_bill_86 _ _ _ h L_h.1)
theorem lo_f_X12_bill_82 {n : Nat} {v0 : Int} {v1 : Int} (h : MM) (z : 100 ≤ nx h) : Lq h (f_X12_bill_82 n v0 v1 h) := by
  have L_h := Lo.refl z
  delta f_X12_bill_82
  exact Lq.tr L_h (lo_f_X12_bill_83 h L_h.1)
theorem lo_f_X12_bill {n : Nat} {v0 : Int} {v1 : Int} (h : MM) (z : 100 ≤ nx h) : Lq h (f_X12_bill n v0 v1 h) := by
  have L_h := Lo.refl z
  delta f_X12_bill
  refine Lq.xgk ?_
  refine Lq.xbd L_h (lo_f_X12_isOf h L_h.1) fun _ h1 L_h1 => ?_
  refine Lq.ite ?_ ?_
  exact Lq.some L_h1
  refine Lq.xgf fun _ => ?_
  refine Lq.xrd fun _ => ?_
  refine Lq.ite ?_ ?_
  refine Lq.xgf fun _ => ?_
  refine Lq.xrd fun _ => ?_
  refine Lq.xgk ?_
  refine Lq.xbd L_h1 (lo_f_X12_notClose h1 L_h1.1) fun _ h8 L_h8 => ?_
  refine Lq.ite ?_ ?_
  refine Lq.xgf fun _ => ?_
  refine Lq.xrd fun _ => ?_
  refine Lq.xgk ?_
  refine Lq.xbd L_h8 (lo_f_X12_steep h8 L_h8.1) fun _ h12 L_h12 => ?_
  refine Lq.ite ?_ ?_
  refine Lq.xgf fun _ => ?_
  refine Lq.xrd fun _ => ?_
  refine Lq.xgf fun _ => ?_
  refine Lq.xrd fun _ => ?_
  refine Lq.xgk ?_
  refine Lq.xbd L_h12 (lo_f_X12_rule h12 L_h12.1) fun _ h18 L_h18 => ?_
  refine Lq.ite ?_ ?_
  exact Lq.tr L_h18 (lo_f_X12_bill_82 h18 L_h18.1)
  exact Lq.tr L_h18 (lo_f_X12_bill_83 h18 L_h18.1)
  exact Lq.tr L_h12 (lo_f_X12_bill_82 h12 L_h12.1)
  exact Lq.tr L_h8 (lo_f_X12_bill_82 h8 L_h8.1)
  exact Lq.tr L_h1 (lo_f_X12_bill_82 h1 L_h1.1)
theorem lo_f_X12_inWay_67 {n : Nat} {rec17 : Int → Int → MM → RR} {v0 : Int} {v2 : Int} {v3 : Int} {v5 : Int} {s0 : Int} {s1 : Int} (q_rec17 : ∀ (a0 a1 : Int) (h : MM), 100 ≤ nx h → Lq h (rec17 a0 a1 h)) (h : MM) (z : 100 ≤ nx h) : Lq h (f_X12_inWay_67 n rec17 v0 v2 v3 v5 s0 s1 h) := by
  have L_h := Lo.refl z
  delta f_X12_inWay_67
  refine Lq.xlb fun _ => ?_
  refine Lq.xlb fun _ => ?_
  exact Lq.tr L_h (q_rec17 _ _ h L_h.1)
theorem lo_f_X12_inWay_17b {n : Nat} {rec17 : Int → Int → MM → RR} {v0 : Int} {v2 : Int} {v3 : Int} {v4 : Int} {v5 : Int} (q_rec17 : ∀ (a0 a1 : Int) (h : MM), 100 ≤ nx h → Lq h (rec17 a0 a1 h)) (h : MM) (z : 100 ≤ nx h) : Lq h (f_X12_inWay_17b n rec17 v0 v2 v3 v4 v5 h) := by
  have L_h := Lo.refl z
  delta f_X12_inWay_17b
  refine Lq.xgf fun _ => ?_
  refine Lq.xrd fun _ => ?_
  refine Lq.ite ?_ ?_
  exact Lq.some L_h
  refine Lq.xgf fun _ => ?_
  refine Lq.xgf fun _ => ?_
  refine Lq.xrd fun _ => ?_
  refine Lq.xrd fun _ => ?_
  refine Lq.ite ?_ ?_
  exact Lq.tr L_h (lo_f_X12_inWay_67 q_rec17 h L_h.1)
  exact Lq.tr L_h (lo_f_X12_inWay_67 q_rec17 h L_h.1)
theorem lo_f_X12_inWay_17 {n : Nat} {v0 : Int} {v2 : Int} {v3 : Int} : ∀ (k : Nat) (v4 v5 : Int) (h : MM), 100 ≤ nx h → Lq h (f_X12_inWay_17 n v0 v2 v3 k v4 v5 h)
  | 0, _, _, _, _ => Lq.none
  | k + 1, v4, v5, h, z => lo_f_X12_inWay_17b (fun b0 b1 h z => lo_f_X12_inWay_17 k b0 b1 h z) h z
theorem lo_f_X12_inWay {n : Nat} {v0 : Int} {v1 : Int} {v2 : Int} (h : MM) (z : 100 ≤ nx h) : Lq h (f_X12_inWay n v0 v1 v2 h) := by
  have L_h := Lo.refl z
  delta f_X12_inWay
  refine Lq.xgf fun _ => ?_
  refine Lq.xrd fun _ => ?_
  exact Lq.tr L_h (lo_f_X12_inWay_17 _ _ _ h L_h.1)
theorem lo_f_X12_claims_78 {n : Nat} {rec16 : Int → Int → MM → RR} {v0 : Int} {v2 : Int} {v4 : Int} {s0 : Int} {s1 : Int} (q_rec16 : ∀ (a0 a1 : Int) (h : MM), 100 ≤ nx h → Lq h (rec16 a0 a1 h)) (h : MM) (z : 100 ≤ nx h) : Lq h (f_X12_claims_78 n rec16 v0 v2 v4 s0 s1 h) := by
  have L_h := Lo.refl z
  delta f_X12_claims_78
  refine Lq.xlb fun _ => ?_
  refine Lq.xlb fun _ => ?_
  exact Lq.tr L_h (q_rec16 _ _ h L_h.1)
theorem lo_f_X12_claims_77 {n : Nat} {rec16 : Int → Int → MM → RR} {v0 : Int} {v2 : Int} {v4 : Int} {s0 : Int} (q_rec16 : ∀ (a0 a1 : Int) (h : MM), 100 ≤ nx h → Lq h (rec16 a0 a1 h)) (h : MM) (z : 100 ≤ nx h) : Lq h (f_X12_claims_77 n rec16 v0 v2 v4 s0 h) := by
  have L_h := Lo.refl z
  delta f_X12_claims_77
  exact Lq.tr L_h (lo_f_X12_claims_78 q_rec16 h L_h.1)
theorem lo_f_X12_claims_16b {n : Nat} {rec16 : Int → Int → MM → RR} {v0 : Int} {v2 : Int} {v3 : Int} {v4 : Int} (q_rec16 : ∀ (a0 a1 : Int) (h : MM), 100 ≤ nx h → Lq h (rec16 a0 a1 h)) (h : MM) (z : 100 ≤ nx h) : Lq h (f_X12_claims_16b n rec16 v0 v2 v3 v4 h) := by
  have L_h := Lo.refl z
  delta f_X12_claims_16b
  refine Lq.xgf fun _ => ?_
  refine Lq.xrd fun _ => ?_
  refine Lq.ite ?_ ?_
  exact Lq.some L_h
  refine Lq.xgf fun _ => ?_
  refine Lq.xrd fun _ => ?_
  refine Lq.ite ?_ ?_
  refine Lq.xgf fun _ => ?_
  refine Lq.xrd fun _ => ?_
  refine Lq.xgk ?_
  refine Lq.xbd L_h (lo_f_X12_isInWay h L_h.1) fun _ h9 L_h9 => ?_
  refine Lq.ite ?_ ?_
  exact Lq.tr L_h9 (lo_f_X12_claims_77 q_rec16 h9 L_h9.1)
  refine Lq.xgf fun _ => ?_
  refine Lq.xrd fun _ => ?_
  exact Lq.tr L_h9 (lo_f_X12_claims_78 q_rec16 h9 L_h9.1)
  exact Lq.tr L_h (lo_f_X12_claims_77 q_rec16 h L_h.1)
theorem lo_f_X12_claims_16 {n : Nat} {v0 : Int} {v2 : Int} : ∀ (k : Nat) (v3 v4 : Int) (h : MM), 100 ≤ nx h → Lq h (f_X12_claims_16 n v0 v2 k v3 v4 h)
  | 0, _, _, _, _ => Lq.none
  | k + 1, v3, v4, h, z => lo_f_X12_claims_16b (fun b0 b1 h z => lo_f_X12_claims_16 k b0 b1 h z) h z
theorem lo_f_X12_claims {n : Nat} {v0 : Int} {v1 : Int} (h : MM) (z : 100 ≤ nx h) : Lq h (f_X12_claims n v0 v1 h) := by
  have L_h := Lo.refl z
  delta f_X12_claims
  refine Lq.xgf fun _ => ?_
  refine Lq.xrd fun _ => ?_
  exact Lq.tr L_h (lo_f_X12_claims_16 _ _ _ h L_h.1)
theorem lo_f_X12_canBeLet {n : Nat} {v0 : Int} {v1 : Int} {v2 : Int} (h : MM) (z : 100 ≤ nx h) : Lq h (f_X12_canBeLet n v0 v1 v2 h) := by
  have L_h := Lo.refl z
  delta f_X12_canBeLet
  refine Lq.xgk ?_
  refine Lq.xbd L_h (lo_f_X12_ruling h L_h.1) fun _ h1 L_h1 => ?_
  refine Lq.ite ?_ ?_
  refine Lq.xck ?_
  exact Lq.some L_h1
  refine Lq.xgf fun _ => ?_
  refine Lq.xgf fun _ => ?_
  refine Lq.xrd fun _ => ?_
  refine Lq.xgk ?_
  refine Lq.xbd L_h1 (lo_f_X12_yardsOf h1 L_h1.1) fun _ h6 L_h6 => ?_
  refine Lq.xwt L_h6 fun h7 L_h7 => ?_
  refine Lq.xgf fun _ => ?_
  refine Lq.xgf fun _ => ?_
  refine Lq.xgf fun _ => ?_
  refine Lq.xrd fun _ => ?_
  refine Lq.xrd fun _ => ?_
  refine Lq.xgf fun _ => ?_
  refine Lq.xgf fun _ => ?_
  refine Lq.xrd fun _ => ?_
  refine Lq.xrd fun _ => ?_
  refine Lq.xwt L_h7 fun h17 L_h17 => ?_
  refine Lq.xgf fun _ => ?_
  refine Lq.xgk ?_
  refine Lq.xbd L_h17 (lo_f_X12_inWay h17 L_h17.1) fun _ h19 L_h19 => ?_
  refine Lq.xwt L_h19 fun h20 L_h20 => ?_
  refine Lq.xgf fun _ => ?_
  refine Lq.xgk ?_
  refine Lq.xbd L_h20 (lo_f_X12_inWay h20 L_h20.1) fun _ h22 L_h22 => ?_
  refine Lq.xwt L_h22 fun h23 L_h23 => ?_
  refine Lq.xgf fun _ => ?_
  refine Lq.xgk ?_
  refine Lq.xbd L_h23 (lo_f_X12_claims h23 L_h23.1) fun _ h25 L_h25 => ?_
  refine Lq.xwt L_h25 fun h26 L_h26 => ?_
  refine Lq.xgf fun _ => ?_
  refine Lq.xgf fun _ => ?_
  refine Lq.xrd fun _ => ?_
  refine Lq.xwt L_h26 fun h30 L_h30 => ?_
  refine Lq.xpf L_h30 fun h31 L_h31 => ?_
  refine Lq.xgf fun _ => ?_
  refine Lq.xrd fun _ => ?_
  refine Lq.xpf L_h31 fun h34 L_h34 => ?_
  refine Lq.xpf L_h34 fun h35 L_h35 => ?_
  refine Lq.xck ?_
  refine Lq.xpf L_h35 fun h36 L_h36 => ?_
  refine Lq.xgk ?_
  refine Lq.xbd L_h36 (lo_f_X12_some _ h36 L_h36.1) fun _ h38 L_h38 => ?_
  refine Lq.xck ?_
  exact Lq.some L_h38
theorem lo_f_X12_hear_39 {n : Nat} {s0 : Int} (h : MM) (z : 100 ≤ nx h) : Lq h (f_X12_hear_39 n s0 h) := by
  have L_h := Lo.refl z
  delta f_X12_hear_39
  exact Lq.some L_h
theorem lo_f_X12_hear {n : Nat} {v0 : Int} {v1 : Int} {v2 : Int} (h : MM) (z : 100 ≤ nx h) : Lq h (f_X12_hear n v0 v1 v2 h) := by
  have L_h := Lo.refl z
  delta f_X12_hear
  refine Lq.xgk ?_
  refine Lq.xbd L_h (lo_f_X12_isOf h L_h.1) fun _ h1 L_h1 => ?_
  refine Lq.ite ?_ ?_
  exact Lq.tr L_h1 (lo_f_X12_hear_39 h1 L_h1.1)
  refine Lq.xbd L_h1 (lo_f_X12_isDay h1 L_h1.1) fun _ h3 L_h3 => ?_
  refine Lq.ite ?_ ?_
  exact Lq.tr L_h3 (lo_f_X12_hear_39 h3 L_h3.1)
  refine Lq.xgk ?_
  refine Lq.xbd L_h3 (lo_f_X12_canBeLet h3 L_h3.1) fun _ h5 L_h5 => ?_
  refine Lq.ite ?_ ?_
  exact Lq.tr L_h5 (lo_f_X12_hear_39 h5 L_h5.1)
  exact Lq.tr L_h5 (lo_f_X12_hear_39 h5 L_h5.1)
theorem lo_f_X12_isBarred_24 {n : Nat} {s0 : Int} (h : MM) (z : 100 ≤ nx h) : Lq h (f_X12_isBarred_24 n s0 h) := by
  have L_h := Lo.refl z
  delta f_X12_isBarred_24
  refine Lq.xck ?_
  exact Lq.some L_h
theorem lo_f_X12_isBarred {n : Nat} {v0 : Int} {v1 : Int} {v2 : Int} (h : MM) (z : 100 ≤ nx h) : Lq h (f_X12_isBarred n v0 v1 v2 h) := by
  have L_h := Lo.refl z
  delta f_X12_isBarred
  refine Lq.xgf fun _ => ?_
  refine Lq.xrd fun _ => ?_
  refine Lq.ite ?_ ?_
  exact Lq.tr L_h (lo_f_X12_isBarred_24 h L_h.1)
  exact Lq.tr L_h (lo_f_X12_isBarred_24 h L_h.1)
theorem lo_f_X12_bar_18 {n : Nat} (h : MM) (z : 100 ≤ nx h) : Lq h (f_X12_bar_18 n h) := by
  have L_h := Lo.refl z
  delta f_X12_bar_18
  exact Lq.some L_h
theorem lo_f_X12_bar_42 {n : Nat} {v0 : Int} {v1 : Int} {v2 : Int} {s0 : Int} (h : MM) (z : 100 ≤ nx h) : Lq h (f_X12_bar_42 n v0 v1 v2 s0 h) := by
  have L_h := Lo.refl z
  delta f_X12_bar_42
  refine Lq.xgf fun _ => ?_
  refine Lq.xwt L_h fun h2 L_h2 => ?_
  refine Lq.xgf fun _ => ?_
  refine Lq.xwt L_h2 fun h4 L_h4 => ?_
  exact Lq.some L_h4
theorem lo_f_X12_bar {n : Nat} {v0 : Int} {v1 : Int} {v2 : Int} (h : MM) (z : 100 ≤ nx h) : Lq h (f_X12_bar n v0 v1 v2 h) := by
  have L_h := Lo.refl z
  delta f_X12_bar
  refine Lq.xgk ?_
  refine Lq.xbd L_h (lo_f_X12_isOf h L_h.1) fun _ h1 L_h1 => ?_
  refine Lq.ite ?_ ?_
  exact Lq.tr L_h1 (lo_f_X12_bar_18 h1 L_h1.1)
  refine Lq.xgk ?_
  refine Lq.xbd L_h1 (lo_f_X12_isOf h1 L_h1.1) fun _ h3 L_h3 => ?_
  refine Lq.ite ?_ ?_
  exact Lq.tr L_h3 (lo_f_X12_bar_18 h3 L_h3.1)
  refine Lq.ite ?_ ?_
  exact Lq.some L_h3
  refine Lq.xgk ?_
  refine Lq.xbd L_h3 (lo_f_X12_isBarred h3 L_h3.1) fun _ h6 L_h6 => ?_
  refine Lq.ite ?_ ?_
  exact Lq.tr L_h6 (lo_f_X12_bar_42 h6 L_h6.1)
  exact Lq.tr L_h6 (lo_f_X12_bar_42 h6 L_h6.1)
theorem lo_f_X12_isGranted_33 {n : Nat} {s0 : Int} (h : MM) (z : 100 ≤ nx h) : Lq h (f_X12_isGranted_33 n s0 h) := by
  have L_h := Lo.refl z
  delta f_X12_isGranted_33
  refine Lq.xck ?_
  exact Lq.some L_h
theorem lo_f_X12_isGranted_32 {n : Nat} (h : MM) (z : 100 ≤ nx h) : Lq h (f_X12_isGranted_32 n h) := by
  have L_h := Lo.refl z
  delta f_X12_isGranted_32
  exact Lq.tr L_h (lo_f_X12_isGranted_33 h L_h.1)
theorem lo_f_X12_isGranted {n : Nat} {v0 : Int} {v1 : Int} (h : MM) (z : 100 ≤ nx h) : Lq h (f_X12_isGranted n v0 v1 h) := by
  have L_h := Lo.refl z
  delta f_X12_isGranted
  refine Lq.xgf fun _ => ?_
  refine Lq.xrd fun _ => ?_
  refine Lq.ite ?_ ?_
  refine Lq.xgf fun _ => ?_
  refine Lq.xrd fun _ => ?_
  refine Lq.ite ?_ ?_
  exact Lq.tr L_h (lo_f_X12_isGranted_33 h L_h.1)
  exact Lq.tr L_h (lo_f_X12_isGranted_32 h L_h.1)
  exact Lq.tr L_h (lo_f_X12_isGranted_32 h L_h.1)
theorem lo_f_X12_granted_28 {n : Nat} {rec4 : Int → Int → MM → RR} {v0 : Int} {v2 : Int} {s0 : Int} {s1 : Int} (q_rec4 : ∀ (a0 a1 : Int) (h : MM), 100 ≤ nx h → Lq h (rec4 a0 a1 h)) (h : MM) (z : 100 ≤ nx h) : Lq h (f_X12_granted_28 n rec4 v0 v2 s0 s1 h) := by
  have L_h := Lo.refl z
  delta f_X12_granted_28
  refine Lq.xlb fun _ => ?_
  refine Lq.xlb fun _ => ?_
  exact Lq.tr L_h (q_rec4 _ _ h L_h.1)
theorem lo_f_X12_granted_4b {n : Nat} {rec4 : Int → Int → MM → RR} {v0 : Int} {v1 : Int} {v2 : Int} (q_rec4 : ∀ (a0 a1 : Int) (h : MM), 100 ≤ nx h → Lq h (rec4 a0 a1 h)) (h : MM) (z : 100 ≤ nx h) : Lq h (f_X12_granted_4b n rec4 v0 v1 v2 h) := by
  have L_h := Lo.refl z
  delta f_X12_granted_4b
  refine Lq.xgf fun _ => ?_
  refine Lq.xrd fun _ => ?_
  refine Lq.ite ?_ ?_
  exact Lq.some L_h
  refine Lq.xgk ?_
  refine Lq.xbd L_h (lo_f_X12_isGranted h L_h.1) fun _ h4 L_h4 => ?_
  refine Lq.ite ?_ ?_
  exact Lq.tr L_h4 (lo_f_X12_granted_28 q_rec4 h4 L_h4.1)
  exact Lq.tr L_h4 (lo_f_X12_granted_28 q_rec4 h4 L_h4.1)
theorem lo_f_X12_granted_4 {n : Nat} {v0 : Int} : ∀ (k : Nat) (v1 v2 : Int) (h : MM), 100 ≤ nx h → Lq h (f_X12_granted_4 n v0 k v1 v2 h)
  | 0, _, _, _, _ => Lq.none
  | k + 1, v1, v2, h, z => lo_f_X12_granted_4b (fun b0 b1 h z => lo_f_X12_granted_4 k b0 b1 h z) h z
theorem lo_f_X12_granted {n : Nat} {v0 : Int} (h : MM) (z : 100 ≤ nx h) : Lq h (f_X12_granted n v0 h) := by
  have L_h := Lo.refl z
  delta f_X12_granted
  exact Lq.tr L_h (lo_f_X12_granted_4 _ _ _ h L_h.1)
theorem lo_f_X12_grant_82 {n : Nat} {rec46 : Int → Int → MM → RR} {v0 : Int} {v1 : Int} {v3 : Int} {s0 : Int} (q_rec46 : ∀ (a0 a1 : Int) (h : MM), 100 ≤ nx h → Lq h (rec46 a0 a1 h)) (h : MM) (z : 100 ≤ nx h) : Lq h (f_X12_grant_82 n rec46 v0 v1 v3 s0 h) := by
  have L_h := Lo.refl z
  delta f_X12_grant_82
  refine Lq.xlb fun _ => ?_
  exact Lq.tr L_h (q_rec46 _ _ h L_h.1)
theorem lo_f_X12_grant_81 {n : Nat} {rec46 : Int → Int → MM → RR} {v0 : Int} {v1 : Int} {v3 : Int} (q_rec46 : ∀ (a0 a1 : Int) (h : MM), 100 ≤ nx h → Lq h (rec46 a0 a1 h)) (h : MM) (z : 100 ≤ nx h) : Lq h (f_X12_grant_81 n rec46 v0 v1 v3 h) := by
  have L_h := Lo.refl z
  delta f_X12_grant_81
  exact Lq.tr L_h (lo_f_X12_grant_82 q_rec46 h L_h.1)
theorem lo_f_X12_grant_77 {n : Nat} {rec46 : Int → Int → MM → RR} {v0 : Int} {v1 : Int} {v3 : Int} (q_rec46 : ∀ (a0 a1 : Int) (h : MM), 100 ≤ nx h → Lq h (rec46 a0 a1 h)) (h : MM) (z : 100 ≤ nx h) : Lq h (f_X12_grant_77 n rec46 v0 v1 v3 h) := by
  have L_h := Lo.refl z
  delta f_X12_grant_77
  exact Lq.tr L_h (lo_f_X12_grant_82 q_rec46 h L_h.1)
theorem lo_f_X12_grant_46b {n : Nat} {rec46 : Int → Int → MM → RR} {v0 : Int} {v1 : Int} {v2 : Int} {v3 : Int} (q_rec46 : ∀ (a0 a1 : Int) (h : MM), 100 ≤ nx h → Lq h (rec46 a0 a1 h)) (h : MM) (z : 100 ≤ nx h) : Lq h (f_X12_grant_46b n rec46 v0 v1 v2 v3 h) := by
  have L_h := Lo.refl z
  delta f_X12_grant_46b
  refine Lq.xgf fun _ => ?_
  refine Lq.xrd fun _ => ?_
  refine Lq.ite ?_ ?_
  refine Lq.ite ?_ ?_
  exact Lq.some L_h
  refine Lq.xgf fun _ => ?_
  refine Lq.xwt L_h fun h6 L_h6 => ?_
  refine Lq.xgf fun _ => ?_
  refine Lq.xgf fun _ => ?_
  refine Lq.xrd fun _ => ?_
  refine Lq.xgk ?_
  refine Lq.xbd L_h6 (lo_f_X12_yardsOf h6 L_h6.1) fun _ h10 L_h10 => ?_
  refine Lq.xwt L_h10 fun h11 L_h11 => ?_
  refine Lq.xgf fun _ => ?_
  refine Lq.xwt L_h11 fun h13 L_h13 => ?_
  refine Lq.xgk ?_
  refine Lq.xbd L_h13 (lo_f_X12_granted h13 L_h13.1) fun _ h14 L_h14 => ?_
  exact Lq.some L_h14
  refine Lq.ite ?_ ?_
  exact Lq.tr L_h (lo_f_X12_grant_81 q_rec46 h L_h.1)
  refine Lq.xgk ?_
  refine Lq.xbd L_h (lo_f_X12_isGranted h L_h.1) fun _ h16 L_h16 => ?_
  refine Lq.ite ?_ ?_
  exact Lq.tr L_h16 (lo_f_X12_grant_77 q_rec46 h16 L_h16.1)
  refine Lq.xgk ?_
  refine Lq.xbd L_h16 (lo_f_X12_isBarred h16 L_h16.1) fun _ h18 L_h18 => ?_
  refine Lq.ite ?_ ?_
  exact Lq.tr L_h18 (lo_f_X12_grant_77 q_rec46 h18 L_h18.1)
  exact Lq.tr L_h18 (lo_f_X12_grant_81 q_rec46 h18 L_h18.1)
theorem lo_f_X12_grant_46 {n : Nat} {v0 : Int} {v1 : Int} : ∀ (k : Nat) (v2 v3 : Int) (h : MM), 100 ≤ nx h → Lq h (f_X12_grant_46 n v0 v1 k v2 v3 h)
  | 0, _, _, _, _ => Lq.none
  | k + 1, v2, v3, h, z => lo_f_X12_grant_46b (fun b0 b1 h z => lo_f_X12_grant_46 k b0 b1 h z) h z
theorem lo_f_X12_grant_43 {n : Nat} {v0 : Int} {v1 : Int} {s0 : Int} (h : MM) (z : 100 ≤ nx h) : Lq h (f_X12_grant_43 n v0 v1 s0 h) := by
  have L_h := Lo.refl z
  delta f_X12_grant_43
  exact Lq.tr L_h (lo_f_X12_grant_46 _ _ _ h L_h.1)
theorem lo_f_X12_grant_42 {n : Nat} {v0 : Int} {v1 : Int} (h : MM) (z : 100 ≤ nx h) : Lq h (f_X12_grant_42 n v0 v1 h) := by
  have L_h := Lo.refl z
  delta f_X12_grant_42
  exact Lq.tr L_h (lo_f_X12_grant_43 h L_h.1)
theorem lo_f_X12_grant {n : Nat} {v0 : Int} {v1 : Int} (h : MM) (z : 100 ≤ nx h) : Lq h (f_X12_grant n v0 v1 h) := by
  have L_h := Lo.refl z
  delta f_X12_grant
  refine Lq.xgk ?_
  refine Lq.xbd L_h (lo_f_X12_isOf h L_h.1) fun _ h1 L_h1 => ?_
  refine Lq.ite ?_ ?_
  exact Lq.some L_h1
  refine Lq.xgf fun _ => ?_
  refine Lq.xrd fun _ => ?_
  refine Lq.ite ?_ ?_
  refine Lq.xgf fun _ => ?_
  refine Lq.xrd fun _ => ?_
  refine Lq.xgk ?_
  refine Lq.xbd L_h1 (lo_f_X12_canBeLet h1 L_h1.1) fun _ h8 L_h8 => ?_
  refine Lq.ite ?_ ?_
  exact Lq.tr L_h8 (lo_f_X12_grant_42 h8 L_h8.1)
  exact Lq.tr L_h8 (lo_f_X12_grant_43 h8 L_h8.1)
  exact Lq.tr L_h1 (lo_f_X12_grant_42 h1 L_h1.1)
theorem lo_f_X12_isUnder_34 {n : Nat} {s0 : Int} (h : MM) (z : 100 ≤ nx h) : Lq h (f_X12_isUnder_34 n s0 h) := by
  have L_h := Lo.refl z
  delta f_X12_isUnder_34
  refine Lq.xck ?_
  exact Lq.some L_h
theorem lo_f_X12_isUnder_29 {n : Nat} (h : MM) (z : 100 ≤ nx h) : Lq h (f_X12_isUnder_29 n h) := by
  have L_h := Lo.refl z
  delta f_X12_isUnder_29
  exact Lq.tr L_h (lo_f_X12_isUnder_34 h L_h.1)
theorem lo_f_X12_isUnder_33 {n : Nat} (h : MM) (z : 100 ≤ nx h) : Lq h (f_X12_isUnder_33 n h) := by
  have L_h := Lo.refl z
  delta f_X12_isUnder_33
  exact Lq.tr L_h (lo_f_X12_isUnder_34 h L_h.1)
theorem lo_f_X12_isUnder_19 {n : Nat} {v0 : Int} {v1 : Int} (h : MM) (z : 100 ≤ nx h) : Lq h (f_X12_isUnder_19 n v0 v1 h) := by
  have L_h := Lo.refl z
  delta f_X12_isUnder_19
  refine Lq.ite ?_ ?_
  refine Lq.ite ?_ ?_
  exact Lq.tr L_h (lo_f_X12_isUnder_29 h L_h.1)
  exact Lq.tr L_h (lo_f_X12_isUnder_33 h L_h.1)
  exact Lq.tr L_h (lo_f_X12_isUnder_33 h L_h.1)
theorem lo_f_X12_isUnder {n : Nat} {v0 : Int} {v1 : Int} (h : MM) (z : 100 ≤ nx h) : Lq h (f_X12_isUnder n v0 v1 h) := by
  have L_h := Lo.refl z
  delta f_X12_isUnder
  refine Lq.ite ?_ ?_
  exact Lq.tr L_h (lo_f_X12_isUnder_29 h L_h.1)
  refine Lq.ite ?_ ?_
  exact Lq.tr L_h (lo_f_X12_isUnder_29 h L_h.1)
  refine Lq.ite ?_ ?_
  refine Lq.ite ?_ ?_
  exact Lq.tr L_h (lo_f_X12_isUnder_29 h L_h.1)
  exact Lq.tr L_h (lo_f_X12_isUnder_19 h L_h.1)
  exact Lq.tr L_h (lo_f_X12_isUnder_19 h L_h.1)
theorem lo_f_X12_worth_op {F_X12_worth : Int → Int → MM → RR} {n : Nat} {v0 : Int} {v1 : Int} (q_F_X12_worth : ∀ (a0 a1 : Int) (h : MM), 100 ≤ nx h → Lq h (F_X12_worth a0 a1 h)) (h : MM) (z : 100 ≤ nx h) : Lq h (f_X12_worth_op F_X12_worth n v0 v1 h) := by
  have L_h := Lo.refl z
  delta f_X12_worth_op
  refine Lq.xgf fun _ => ?_
  refine Lq.xrd fun _ => ?_
  refine Lq.ite ?_ ?_
  refine Lq.xgf fun _ => ?_
  refine Lq.xrd fun _ => ?_
  exact Lq.some L_h
  refine Lq.ite ?_ ?_
  refine Lq.xgf fun _ => ?_
  refine Lq.xgf fun _ => ?_
  refine Lq.xrd fun _ => ?_
  refine Lq.xrd fun _ => ?_
  refine Lq.xgf fun _ => ?_
  refine Lq.xrd fun _ => ?_
  exact Lq.some L_h
  refine Lq.ite ?_ ?_
  refine Lq.xgf fun _ => ?_
  refine Lq.xrd fun _ => ?_
  refine Lq.xgk ?_
  refine Lq.xbd L_h (q_F_X12_worth _ _ h L_h.1) fun _ h16 L_h16 => ?_
  exact Lq.some L_h16
  refine Lq.ite ?_ ?_
  refine Lq.xgf fun _ => ?_
  refine Lq.xrd fun _ => ?_
  exact Lq.some L_h
  refine Lq.ite ?_ ?_
  refine Lq.xgf fun _ => ?_
  refine Lq.xrd fun _ => ?_
  exact Lq.some L_h
  refine Lq.xgf fun _ => ?_
  refine Lq.xrd fun _ => ?_
  exact Lq.some L_h
theorem lo_t_X12_worth (n : Nat) : ∀ k : Nat, (∀ (a0 a1 : Int) (h : MM), 100 ≤ nx h → Lq h ((t_X12_worth n k) a0 a1 h))
  | 0 => fun _ _ _ _ => Lq.none
  | k + 1 => by
    have p := lo_t_X12_worth n k
    exact fun _ _ h z => lo_f_X12_worth_op p h z
theorem lo_f_X12_worth {n : Nat} (a0 a1 : Int) (h : MM) (z : 100 ≤ nx h) : Lq h (f_X12_worth n a0 a1 h) := (lo_t_X12_worth n 4) a0 a1 h z
theorem lo_f_X12_cast_18 {n : Nat} (h : MM) (z : 100 ≤ nx h) : Lq h (f_X12_cast_18 n h) := by
  have L_h := Lo.refl z
  delta f_X12_cast_18
  exact Lq.some L_h
theorem lo_f_X12_cast_47 {n : Nat} {s0 : Int} (h : MM) (z : 100 ≤ nx h) : Lq h (f_X12_cast_47 n s0 h) := by
  have L_h := Lo.refl z
  delta f_X12_cast_47
  exact Lq.some L_h
theorem lo_f_X12_cast {n : Nat} {v0 : Int} {v1 : Int} {v2 : Int} (h : MM) (z : 100 ≤ nx h) : Lq h (f_X12_cast n v0 v1 v2 h) := by
  have L_h := Lo.refl z
  delta f_X12_cast
  refine Lq.xgk ?_
  refine Lq.xbd L_h (lo_f_X12_isPaper h L_h.1) fun _ h1 L_h1 => ?_
  refine Lq.ite ?_ ?_
  exact Lq.tr L_h1 (lo_f_X12_cast_18 h1 L_h1.1)
  refine Lq.xbd L_h1 (lo_f_X12_in h1 L_h1.1) fun _ h3 L_h3 => ?_
  refine Lq.ite ?_ ?_
  exact Lq.tr L_h3 (lo_f_X12_cast_18 h3 L_h3.1)
  refine Lq.xgf fun _ => ?_
  refine Lq.xrd fun _ => ?_
  refine Lq.xbd L_h3 (lo_f_X12_isUnder h3 L_h3.1) fun _ h7 L_h7 => ?_
  refine Lq.ite ?_ ?_
  exact Lq.tr L_h7 (lo_f_X12_cast_47 h7 L_h7.1)
  refine Lq.xgk ?_
  refine Lq.xbd L_h7 (lo_f_X12_worth _ _ h7 L_h7.1) fun _ h9 L_h9 => ?_
  exact Lq.tr L_h9 (lo_f_X12_cast_47 h9 L_h9.1)
theorem lo_f_X12_about_18 {n : Nat} (h : MM) (z : 100 ≤ nx h) : Lq h (f_X12_about_18 n h) := by
  have L_h := Lo.refl z
  delta f_X12_about_18
  exact Lq.some L_h
theorem lo_f_X12_about {n : Nat} {v0 : Int} {v1 : Int} {v2 : Int} (h : MM) (z : 100 ≤ nx h) : Lq h (f_X12_about n v0 v1 v2 h) := by
  have L_h := Lo.refl z
  delta f_X12_about
  refine Lq.xgk ?_
  refine Lq.xbd L_h (lo_f_X12_isPaper h L_h.1) fun _ h1 L_h1 => ?_
  refine Lq.ite ?_ ?_
  exact Lq.tr L_h1 (lo_f_X12_about_18 h1 L_h1.1)
  refine Lq.xbd L_h1 (lo_f_X12_in h1 L_h1.1) fun _ h3 L_h3 => ?_
  refine Lq.ite ?_ ?_
  exact Lq.tr L_h3 (lo_f_X12_about_18 h3 L_h3.1)
  refine Lq.xgf fun _ => ?_
  refine Lq.xrd fun _ => ?_
  refine Lq.ite ?_ ?_
  exact Lq.some L_h3
  refine Lq.ite ?_ ?_
  refine Lq.xgf fun _ => ?_
  refine Lq.xrd fun _ => ?_
  exact Lq.some L_h3
  refine Lq.ite ?_ ?_
  refine Lq.xgf fun _ => ?_
  refine Lq.xrd fun _ => ?_
  exact Lq.some L_h3
  refine Lq.ite ?_ ?_
  refine Lq.xgf fun _ => ?_
  refine Lq.xrd fun _ => ?_
  exact Lq.some L_h3
  refine Lq.ite ?_ ?_
  refine Lq.xgf fun _ => ?_
  refine Lq.xrd fun _ => ?_
  exact Lq.some L_h3
  refine Lq.ite ?_ ?_
  refine Lq.xgf fun _ => ?_
  refine Lq.xrd fun _ => ?_
  exact Lq.some L_h3
  refine Lq.ite ?_ ?_
  refine Lq.xgf fun _ => ?_
  refine Lq.xrd fun _ => ?_
  exact Lq.some L_h3
  refine Lq.xgf fun _ => ?_
  refine Lq.xrd fun _ => ?_
  exact Lq.some L_h3
theorem lo_f_X12_board_16 {n : Nat} (h : MM) (z : 100 ≤ nx h) : Lq h (f_X12_board_16 n h) := by
  have L_h := Lo.refl z
  delta f_X12_board_16
  exact Lq.some L_h
theorem lo_f_X12_board_91 {n : Nat} {v0 : Int} {s0 : Int} {s1 : Int} {s2 : Int} (h : MM) (z : 100 ≤ nx h) : Lq h (f_X12_board_91 n v0 s0 s1 s2 h) := by
  have L_h := Lo.refl z
  delta f_X12_board_91
  refine Lq.xwt L_h fun h1 L_h1 => ?_
  refine Lq.xgf fun _ => ?_
  refine Lq.xrd fun _ => ?_
  refine Lq.xwt L_h1 fun h4 L_h4 => ?_
  refine Lq.xgf fun _ => ?_
  refine Lq.xrd fun _ => ?_
  exact Lq.some L_h4
theorem lo_f_X12_board {n : Nat} {v0 : Int} {v1 : Int} {v2 : Int} {v3 : Int} (h : MM) (z : 100 ≤ nx h) : Lq h (f_X12_board n v0 v1 v2 v3 h) := by
  have L_h := Lo.refl z
  delta f_X12_board
  refine Lq.xbd L_h (lo_f_X12_isHolder h L_h.1) fun _ h1 L_h1 => ?_
  refine Lq.ite ?_ ?_
  exact Lq.tr L_h1 (lo_f_X12_board_16 h1 L_h1.1)
  refine Lq.xgk ?_
  refine Lq.xbd L_h1 (lo_f_X12_isOf h1 L_h1.1) fun _ h3 L_h3 => ?_
  refine Lq.ite ?_ ?_
  exact Lq.tr L_h3 (lo_f_X12_board_16 h3 L_h3.1)
  refine Lq.xgf fun _ => ?_
  refine Lq.xrd fun _ => ?_
  refine Lq.ite ?_ ?_
  exact Lq.some L_h3
  refine Lq.xgf fun _ => ?_
  refine Lq.xgf fun _ => ?_
  refine Lq.xrd fun _ => ?_
  refine Lq.xwt L_h3 fun h11 L_h11 => ?_
  refine Lq.xgf fun _ => ?_
  refine Lq.xgf fun _ => ?_
  refine Lq.xrd fun _ => ?_
  refine Lq.xwt L_h11 fun h15 L_h15 => ?_
  refine Lq.xgf fun _ => ?_
  refine Lq.xgf fun _ => ?_
  refine Lq.xrd fun _ => ?_
  refine Lq.ite ?_ ?_
  exact Lq.tr L_h15 (lo_f_X12_board_91 h15 L_h15.1)
  exact Lq.tr L_h15 (lo_f_X12_board_91 h15 L_h15.1)
theorem lo_f_X12_doubled_120 {n : Nat} {rec4 : Int → Int → MM → RR} {rec17 : Int → Int → MM → RR} {v0 : Int} {v2 : Int} {v3 : Int} {s0 : Int} {s1 : Int} (q_rec4 : ∀ (a0 a1 : Int) (h : MM), 100 ≤ nx h → Lq h (rec4 a0 a1 h)) (q_rec17 : ∀ (a0 a1 : Int) (h : MM), 100 ≤ nx h → Lq h (rec17 a0 a1 h)) (h : MM) (z : 100 ≤ nx h) : Lq h (f_X12_doubled_120 n rec4 rec17 v0 v2 v3 s0 s1 h) := by
  have L_h := Lo.refl z
  delta f_X12_doubled_120
  refine Lq.xlb fun _ => ?_
  refine Lq.xlb fun _ => ?_
  exact Lq.tr L_h (q_rec17 _ _ h L_h.1)
theorem lo_f_X12_doubled_96 {n : Nat} {rec4 : Int → Int → MM → RR} {rec17 : Int → Int → MM → RR} {v0 : Int} {v1 : Int} {v2 : Int} {v3 : Int} {s0 : Int} (q_rec4 : ∀ (a0 a1 : Int) (h : MM), 100 ≤ nx h → Lq h (rec4 a0 a1 h)) (q_rec17 : ∀ (a0 a1 : Int) (h : MM), 100 ≤ nx h → Lq h (rec17 a0 a1 h)) (h : MM) (z : 100 ≤ nx h) : Lq h (f_X12_doubled_96 n rec4 rec17 v0 v1 v2 v3 s0 h) := by
  have L_h := Lo.refl z
  delta f_X12_doubled_96
  refine Lq.ite ?_ ?_
  exact Lq.tr L_h (lo_f_X12_doubled_120 q_rec4 q_rec17 h L_h.1)
  refine Lq.xgf fun _ => ?_
  refine Lq.xrd fun _ => ?_
  exact Lq.tr L_h (lo_f_X12_doubled_120 q_rec4 q_rec17 h L_h.1)
theorem lo_f_X12_doubled_95 {n : Nat} {rec4 : Int → Int → MM → RR} {rec17 : Int → Int → MM → RR} {v0 : Int} {v1 : Int} {v2 : Int} {v3 : Int} (q_rec4 : ∀ (a0 a1 : Int) (h : MM), 100 ≤ nx h → Lq h (rec4 a0 a1 h)) (q_rec17 : ∀ (a0 a1 : Int) (h : MM), 100 ≤ nx h → Lq h (rec17 a0 a1 h)) (h : MM) (z : 100 ≤ nx h) : Lq h (f_X12_doubled_95 n rec4 rec17 v0 v1 v2 v3 h) := by
  have L_h := Lo.refl z
  delta f_X12_doubled_95
  exact Lq.tr L_h (lo_f_X12_doubled_96 q_rec4 q_rec17 h L_h.1)
theorem lo_f_X12_doubled_17b {n : Nat} {rec4 : Int → Int → MM → RR} {rec17 : Int → Int → MM → RR} {v0 : Int} {v1 : Int} {v2 : Int} {v3 : Int} (q_rec4 : ∀ (a0 a1 : Int) (h : MM), 100 ≤ nx h → Lq h (rec4 a0 a1 h)) (q_rec17 : ∀ (a0 a1 : Int) (h : MM), 100 ≤ nx h → Lq h (rec17 a0 a1 h)) (h : MM) (z : 100 ≤ nx h) : Lq h (f_X12_doubled_17b n rec4 rec17 v0 v1 v2 v3 h) := by
  have L_h := Lo.refl z
  delta f_X12_doubled_17b
  refine Lq.ite ?_ ?_
  refine Lq.xlb fun _ => ?_
  exact Lq.tr L_h (q_rec4 _ _ h L_h.1)
  refine Lq.xgf fun _ => ?_
  refine Lq.xrd fun _ => ?_
  refine Lq.xgf fun _ => ?_
  refine Lq.xrd fun _ => ?_
  refine Lq.ite ?_ ?_
  refine Lq.xgf fun _ => ?_
  refine Lq.xrd fun _ => ?_
  refine Lq.xgf fun _ => ?_
  refine Lq.xrd fun _ => ?_
  refine Lq.ite ?_ ?_
  refine Lq.xgf fun _ => ?_
  refine Lq.xrd fun _ => ?_
  refine Lq.xgf fun _ => ?_
  refine Lq.xrd fun _ => ?_
  refine Lq.ite ?_ ?_
  exact Lq.tr L_h (lo_f_X12_doubled_95 q_rec4 q_rec17 h L_h.1)
  exact Lq.tr L_h (lo_f_X12_doubled_96 q_rec4 q_rec17 h L_h.1)
  exact Lq.tr L_h (lo_f_X12_doubled_95 q_rec4 q_rec17 h L_h.1)
  exact Lq.tr L_h (lo_f_X12_doubled_95 q_rec4 q_rec17 h L_h.1)
theorem lo_f_X12_doubled_17 {n : Nat} {rec4 : Int → Int → MM → RR} {v0 : Int} {v2 : Int} (q_rec4 : ∀ (a0 a1 : Int) (h : MM), 100 ≤ nx h → Lq h (rec4 a0 a1 h)) : ∀ (k : Nat) (v1 v3 : Int) (h : MM), 100 ≤ nx h → Lq h (f_X12_doubled_17 n rec4 v0 v2 k v1 v3 h)
  | 0, _, _, _, _ => Lq.none
  | k + 1, v1, v3, h, z => lo_f_X12_doubled_17b q_rec4 (fun b0 b1 h z => lo_f_X12_doubled_17 q_rec4 k b0 b1 h z) h z
theorem lo_f_X12_doubled_4b {n : Nat} {rec4 : Int → Int → MM → RR} {v0 : Int} {v1 : Int} {v2 : Int} (q_rec4 : ∀ (a0 a1 : Int) (h : MM), 100 ≤ nx h → Lq h (rec4 a0 a1 h)) (h : MM) (z : 100 ≤ nx h) : Lq h (f_X12_doubled_4b n rec4 v0 v1 v2 h) := by
  have L_h := Lo.refl z
  delta f_X12_doubled_4b
  refine Lq.xgf fun _ => ?_
  refine Lq.xrd fun _ => ?_
  refine Lq.ite ?_ ?_
  exact Lq.some L_h
  exact Lq.tr L_h (lo_f_X12_doubled_17 q_rec4 _ _ _ h L_h.1)
theorem lo_f_X12_doubled_4 {n : Nat} {v0 : Int} : ∀ (k : Nat) (v1 v2 : Int) (h : MM), 100 ≤ nx h → Lq h (f_X12_doubled_4 n v0 k v1 v2 h)
  | 0, _, _, _, _ => Lq.none
  | k + 1, v1, v2, h, z => lo_f_X12_doubled_4b (fun b0 b1 h z => lo_f_X12_doubled_4 k b0 b1 h z) h z
theorem lo_f_X12_doubled {n : Nat} {v0 : Int} (h : MM) (z : 100 ≤ nx h) : Lq h (f_X12_doubled n v0 h) := by
  have L_h := Lo.refl z
  delta f_X12_doubled
  exact Lq.tr L_h (lo_f_X12_doubled_4 _ _ _ h L_h.1)
theorem lo_f_X12_hand_20 {n : Nat} (h : MM) (z : 100 ≤ nx h) : Lq h (f_X12_hand_20 n h) := by
  have L_h := Lo.refl z
  delta f_X12_hand_20
  exact Lq.some L_h
theorem lo_f_X12_hand {n : Nat} {v0 : Int} {v1 : Int} {v2 : Int} (h : MM) (z : 100 ≤ nx h) : Lq h (f_X12_hand n v0 v1 v2 h) := by
  have L_h := Lo.refl z
  delta f_X12_hand
  refine Lq.xbd L_h (lo_f_X12_in h L_h.1) fun _ h1 L_h1 => ?_
  refine Lq.ite ?_ ?_
  exact Lq.tr L_h1 (lo_f_X12_hand_20 h1 L_h1.1)
  refine Lq.xbd L_h1 (lo_f_X12_in h1 L_h1.1) fun _ h3 L_h3 => ?_
  refine Lq.ite ?_ ?_
  exact Lq.tr L_h3 (lo_f_X12_hand_20 h3 L_h3.1)
  refine Lq.xgf fun _ => ?_
  refine Lq.xrd fun _ => ?_
  refine Lq.ite ?_ ?_
  exact Lq.some L_h3
  refine Lq.xgf fun _ => ?_
  refine Lq.xgf fun _ => ?_
  refine Lq.xrd fun _ => ?_
  refine Lq.xwt L_h3 fun h11 L_h11 => ?_
  refine Lq.xgf fun _ => ?_
  refine Lq.xgf fun _ => ?_
  refine Lq.xrd fun _ => ?_
  refine Lq.xwt L_h11 fun h15 L_h15 => ?_
  refine Lq.xgf fun _ => ?_
  refine Lq.xrd fun _ => ?_
  refine Lq.xwt L_h15 fun h18 L_h18 => ?_
  refine Lq.xgf fun _ => ?_
  refine Lq.xrd fun _ => ?_
  exact Lq.some L_h18
theorem lo_f_X12_does_143 {F_X12_does : Int → Int → Int → Int → Int → Int → MM → RR} {n : Nat} {rec45 : Int → MM → RR} {v0 : Int} {v1 : Int} {v2 : Int} {v3 : Int} {v4 : Int} {v5 : Int} {v6 : Int} (q_F_X12_does : ∀ (a0 a1 a2 a3 a4 a5 : Int) (h : MM), 100 ≤ nx h → Lq h (F_X12_does a0 a1 a2 a3 a4 a5 h)) (q_rec45 : ∀ (a0 : Int) (h : MM), 100 ≤ nx h → Lq h (rec45 a0 h)) (h : MM) (z : 100 ≤ nx h) : Lq h (f_X12_does_143 F_X12_does n rec45 v0 v1 v2 v3 v4 v5 v6 h) := by
  have L_h := Lo.refl z
  delta f_X12_does_143
  refine Lq.xlb fun _ => ?_
  exact Lq.tr L_h (q_rec45 _ h L_h.1)
theorem lo_f_X12_does_86 {F_X12_does : Int → Int → Int → Int → Int → Int → MM → RR} {n : Nat} {rec45 : Int → MM → RR} {v0 : Int} {v1 : Int} {v2 : Int} {v3 : Int} {v4 : Int} {v5 : Int} {v6 : Int} {v7 : Int} {s0 : Int} (q_F_X12_does : ∀ (a0 a1 a2 a3 a4 a5 : Int) (h : MM), 100 ≤ nx h → Lq h (F_X12_does a0 a1 a2 a3 a4 a5 h)) (q_rec45 : ∀ (a0 : Int) (h : MM), 100 ≤ nx h → Lq h (rec45 a0 h)) (h : MM) (z : 100 ≤ nx h) : Lq h (f_X12_does_86 F_X12_does n rec45 v0 v1 v2 v3 v4 v5 v6 v7 s0 h) := by
  have L_h := Lo.refl z
  delta f_X12_does_86
  refine Lq.xgf fun _ => ?_
  refine Lq.xrd fun _ => ?_
  refine Lq.xlb fun _ => ?_
  refine Lq.ite ?_ ?_
  refine Lq.ite ?_ ?_
  exact Lq.tr L_h (lo_f_X12_does_143 q_F_X12_does q_rec45 h L_h.1)
  refine Lq.xgf fun _ => ?_
  refine Lq.xwt L_h fun h7 L_h7 => ?_
  refine Lq.xgk ?_
  refine Lq.xbd L_h7 (q_F_X12_does _ _ _ _ _ _ h7 L_h7.1) fun _ h8 L_h8 => ?_
  exact Lq.tr L_h8 (lo_f_X12_does_143 q_F_X12_does q_rec45 h8 L_h8.1)
  exact Lq.tr L_h (lo_f_X12_does_143 q_F_X12_does q_rec45 h L_h.1)
theorem lo_f_X12_does_45b {F_X12_does : Int → Int → Int → Int → Int → Int → MM → RR} {n : Nat} {rec45 : Int → MM → RR} {v0 : Int} {v1 : Int} {v2 : Int} {v3 : Int} {v4 : Int} {v5 : Int} {v6 : Int} (q_F_X12_does : ∀ (a0 a1 a2 a3 a4 a5 : Int) (h : MM), 100 ≤ nx h → Lq h (F_X12_does a0 a1 a2 a3 a4 a5 h)) (q_rec45 : ∀ (a0 : Int) (h : MM), 100 ≤ nx h → Lq h (rec45 a0 h)) (h : MM) (z : 100 ≤ nx h) : Lq h (f_X12_does_45b F_X12_does n rec45 v0 v1 v2 v3 v4 v5 v6 h) := by
  have L_h := Lo.refl z
  delta f_X12_does_45b
  refine Lq.xgf fun _ => ?_
  refine Lq.xrd fun _ => ?_
  refine Lq.ite ?_ ?_
  exact Lq.some L_h
  refine Lq.xgf fun _ => ?_
  refine Lq.xrd fun _ => ?_
  refine Lq.xlb fun _ => ?_
  refine Lq.ite ?_ ?_
  exact Lq.tr L_h (lo_f_X12_does_86 q_F_X12_does q_rec45 h L_h.1)
  exact Lq.tr L_h (lo_f_X12_does_86 q_F_X12_does q_rec45 h L_h.1)
theorem lo_f_X12_does_45 {F_X12_does : Int → Int → Int → Int → Int → Int → MM → RR} {n : Nat} {v0 : Int} {v1 : Int} {v2 : Int} {v3 : Int} {v4 : Int} {v5 : Int} (q_F_X12_does : ∀ (a0 a1 a2 a3 a4 a5 : Int) (h : MM), 100 ≤ nx h → Lq h (F_X12_does a0 a1 a2 a3 a4 a5 h)) : ∀ (k : Nat) (v6 : Int) (h : MM), 100 ≤ nx h → Lq h (f_X12_does_45 F_X12_does n v0 v1 v2 v3 v4 v5 k v6 h)
  | 0, _, _, _ => Lq.none
  | k + 1, v6, h, z => lo_f_X12_does_45b q_F_X12_does (fun b0 h z => lo_f_X12_does_45 q_F_X12_does k b0 h z) h z
theorem lo_f_X12_does_42 {F_X12_does : Int → Int → Int → Int → Int → Int → MM → RR} {n : Nat} {v0 : Int} {v1 : Int} {v2 : Int} {v3 : Int} {v4 : Int} {v5 : Int} (q_F_X12_does : ∀ (a0 a1 a2 a3 a4 a5 : Int) (h : MM), 100 ≤ nx h → Lq h (F_X12_does a0 a1 a2 a3 a4 a5 h)) (h : MM) (z : 100 ≤ nx h) : Lq h (f_X12_does_42 F_X12_does n v0 v1 v2 v3 v4 v5 h) := by
  have L_h := Lo.refl z
  delta f_X12_does_42
  exact Lq.tr L_h (lo_f_X12_does_45 q_F_X12_does _ _ h L_h.1)
theorem lo_f_X12_does_16b {F_X12_does : Int → Int → Int → Int → Int → Int → MM → RR} {n : Nat} {rec16 : Int → MM → RR} {v0 : Int} {v1 : Int} {v2 : Int} {v3 : Int} {v4 : Int} {v5 : Int} {v6 : Int} (q_F_X12_does : ∀ (a0 a1 a2 a3 a4 a5 : Int) (h : MM), 100 ≤ nx h → Lq h (F_X12_does a0 a1 a2 a3 a4 a5 h)) (q_rec16 : ∀ (a0 : Int) (h : MM), 100 ≤ nx h → Lq h (rec16 a0 h)) (h : MM) (z : 100 ≤ nx h) : Lq h (f_X12_does_16b F_X12_does n rec16 v0 v1 v2 v3 v4 v5 v6 h) := by
  have L_h := Lo.refl z
  delta f_X12_does_16b
  refine Lq.ite ?_ ?_
  exact Lq.tr L_h (lo_f_X12_does_42 q_F_X12_does h L_h.1)
  refine Lq.xgf fun _ => ?_
  refine Lq.xgf fun _ => ?_
  refine Lq.xrd fun _ => ?_
  refine Lq.xwt L_h fun h5 L_h5 => ?_
  refine Lq.xlb fun _ => ?_
  exact Lq.tr L_h5 (q_rec16 _ h5 L_h5.1)
theorem lo_f_X12_does_16 {F_X12_does : Int → Int → Int → Int → Int → Int → MM → RR} {n : Nat} {v0 : Int} {v1 : Int} {v2 : Int} {v3 : Int} {v4 : Int} {v5 : Int} (q_F_X12_does : ∀ (a0 a1 a2 a3 a4 a5 : Int) (h : MM), 100 ≤ nx h → Lq h (F_X12_does a0 a1 a2 a3 a4 a5 h)) : ∀ (k : Nat) (v6 : Int) (h : MM), 100 ≤ nx h → Lq h (f_X12_does_16 F_X12_does n v0 v1 v2 v3 v4 v5 k v6 h)
  | 0, _, _, _ => Lq.none
  | k + 1, v6, h, z => lo_f_X12_does_16b q_F_X12_does (fun b0 h z => lo_f_X12_does_16 q_F_X12_does k b0 h z) h z
theorem lo_f_X12_does_op {F_X12_does : Int → Int → Int → Int → Int → Int → MM → RR} {n : Nat} {v0 : Int} {v1 : Int} {v2 : Int} {v3 : Int} {v4 : Int} {v5 : Int} (q_F_X12_does : ∀ (a0 a1 a2 a3 a4 a5 : Int) (h : MM), 100 ≤ nx h → Lq h (F_X12_does a0 a1 a2 a3 a4 a5 h)) (h : MM) (z : 100 ≤ nx h) : Lq h (f_X12_does_op F_X12_does n v0 v1 v2 v3 v4 v5 h) := by
  have L_h := Lo.refl z
  delta f_X12_does_op
  refine Lq.xgf fun _ => ?_
  refine Lq.ite ?_ ?_
  exact Lq.tr L_h (lo_f_X12_does_42 q_F_X12_does h L_h.1)
  refine Lq.xpf L_h fun h3 L_h3 => ?_
  exact Lq.tr L_h3 (lo_f_X12_does_16 q_F_X12_does _ _ h3 L_h3.1)
theorem lo_t_X12_does (n : Nat) : ∀ k : Nat, (∀ (a0 a1 a2 a3 a4 a5 : Int) (h : MM), 100 ≤ nx h → Lq h ((t_X12_does n k) a0 a1 a2 a3 a4 a5 h))
  | 0 => fun _ _ _ _ _ _ _ _ => Lq.none
  | k + 1 => by
    have p := lo_t_X12_does n k
    exact fun _ _ _ _ _ _ h z => lo_f_X12_does_op p h z
theorem lo_f_X12_does {n : Nat} (a0 a1 a2 a3 a4 a5 : Int) (h : MM) (z : 100 ≤ nx h) : Lq h (f_X12_does n a0 a1 a2 a3 a4 a5 h) := (lo_t_X12_does n 10) a0 a1 a2 a3 a4 a5 h z
theorem lo_f_X12_midnight_65 {n : Nat} {s0 : Int} (h : MM) (z : 100 ≤ nx h) : Lq h (f_X12_midnight_65 n s0 h) := by
  have L_h := Lo.refl z
  delta f_X12_midnight_65
  exact Lq.some L_h
theorem lo_f_X12_midnight {n : Nat} {v0 : Int} {v1 : Int} {v2 : Int} (h : MM) (z : 100 ≤ nx h) : Lq h (f_X12_midnight n v0 v1 v2 h) := by
  have L_h := Lo.refl z
  delta f_X12_midnight
  refine Lq.ite ?_ ?_
  refine Lq.xbd L_h (lo_f_X12_in h L_h.1) fun _ h2 L_h2 => ?_
  refine Lq.ite ?_ ?_
  exact Lq.some L_h2
  refine Lq.xpf L_h2 fun h4 L_h4 => ?_
  refine Lq.xgk ?_
  refine Lq.xbd L_h4 (lo_f_X12_does _ _ _ _ _ _ h4 L_h4.1) fun _ h5 L_h5 => ?_
  refine Lq.ite ?_ ?_
  refine Lq.xgf fun _ => ?_
  exact Lq.tr L_h5 (lo_f_X12_midnight_65 h5 L_h5.1)
  refine Lq.xgf fun _ => ?_
  refine Lq.ite ?_ ?_
  exact Lq.tr L_h5 (lo_f_X12_midnight_65 h5 L_h5.1)
  refine Lq.xgf fun _ => ?_
  refine Lq.xrd fun _ => ?_
  exact Lq.tr L_h5 (lo_f_X12_midnight_65 h5 L_h5.1)
  exact Lq.some L_h
theorem lo_f_X12_isScheme {n : Nat} {v0 : Int} {v1 : Int} (h : MM) (z : 100 ≤ nx h) : Lq h (f_X12_isScheme n v0 v1 h) := by
  have L_h := Lo.refl z
  delta f_X12_isScheme
  refine Lq.xgk ?_
  refine Lq.xbd L_h (lo_f_X12_isOf h L_h.1) fun _ h1 L_h1 => ?_
  refine Lq.xck ?_
  exact Lq.some L_h1
theorem lo_f_X12_isFallen_19 {n : Nat} {s0 : Int} (h : MM) (z : 100 ≤ nx h) : Lq h (f_X12_isFallen_19 n s0 h) := by
  have L_h := Lo.refl z
  delta f_X12_isFallen_19
  refine Lq.xck ?_
  exact Lq.some L_h
theorem lo_f_X12_isFallen {n : Nat} {v0 : Int} {v1 : Int} (h : MM) (z : 100 ≤ nx h) : Lq h (f_X12_isFallen n v0 v1 h) := by
  have L_h := Lo.refl z
  delta f_X12_isFallen
  refine Lq.xgf fun _ => ?_
  refine Lq.xrd fun _ => ?_
  refine Lq.ite ?_ ?_
  exact Lq.tr L_h (lo_f_X12_isFallen_19 h L_h.1)
  exact Lq.tr L_h (lo_f_X12_isFallen_19 h L_h.1)
theorem lo_f_X12_indexOf_2b {n : Nat} {rec2 : Int → MM → RR} {v0 : Int} {v1 : Int} {v2 : Int} (q_rec2 : ∀ (a0 : Int) (h : MM), 100 ≤ nx h → Lq h (rec2 a0 h)) (h : MM) (z : 100 ≤ nx h) : Lq h (f_X12_indexOf_2b n rec2 v0 v1 v2 h) := by
  have L_h := Lo.refl z
  delta f_X12_indexOf_2b
  refine Lq.xgf fun _ => ?_
  refine Lq.xrd fun _ => ?_
  refine Lq.ite ?_ ?_
  exact Lq.some L_h
  refine Lq.xlb fun _ => ?_
  exact Lq.tr L_h (q_rec2 _ h L_h.1)
theorem lo_f_X12_indexOf_2 {n : Nat} {v0 : Int} {v1 : Int} : ∀ (k : Nat) (v2 : Int) (h : MM), 100 ≤ nx h → Lq h (f_X12_indexOf_2 n v0 v1 k v2 h)
  | 0, _, _, _ => Lq.none
  | k + 1, v2, h, z => lo_f_X12_indexOf_2b (fun b0 h z => lo_f_X12_indexOf_2 k b0 h z) h z
theorem lo_f_X12_indexOf {n : Nat} {v0 : Int} {v1 : Int} (h : MM) (z : 100 ≤ nx h) : Lq h (f_X12_indexOf n v0 v1 h) := by
  have L_h := Lo.refl z
  delta f_X12_indexOf
  exact Lq.tr L_h (lo_f_X12_indexOf_2 _ _ h L_h.1)
theorem lo_f_X12_sharesAt {n : Nat} {v0 : Int} {v1 : Int} {v2 : Int} (h : MM) (z : 100 ≤ nx h) : Lq h (f_X12_sharesAt n v0 v1 v2 h) := by
  have L_h := Lo.refl z
  delta f_X12_sharesAt
  refine Lq.xgk ?_
  refine Lq.xbd L_h (lo_f_X12_indexOf h L_h.1) fun _ h1 L_h1 => ?_
  exact Lq.some L_h1
theorem lo_f_X12_scrip_15 {n : Nat} (h : MM) (z : 100 ≤ nx h) : Lq h (f_X12_scrip_15 n h) := by
  have L_h := Lo.refl z
  delta f_X12_scrip_15
  exact Lq.some L_h
theorem lo_f_X12_scrip_54 {n : Nat} (h : MM) (z : 100 ≤ nx h) : Lq h (f_X12_scrip_54 n h) := by
  have L_h := Lo.refl z
  delta f_X12_scrip_54
  exact Lq.some L_h
theorem lo_f_X12_scrip {n : Nat} {v0 : Int} {v1 : Int} {v2 : Int} {v3 : Int} (h : MM) (z : 100 ≤ nx h) : Lq h (f_X12_scrip n v0 v1 v2 v3 h) := by
  have L_h := Lo.refl z
  delta f_X12_scrip
  refine Lq.xgk ?_
  refine Lq.xbd L_h (lo_f_X12_isScheme h L_h.1) fun _ h1 L_h1 => ?_
  refine Lq.ite ?_ ?_
  exact Lq.tr L_h1 (lo_f_X12_scrip_15 h1 L_h1.1)
  refine Lq.xbd L_h1 (lo_f_X12_isHolder h1 L_h1.1) fun _ h3 L_h3 => ?_
  refine Lq.ite ?_ ?_
  exact Lq.tr L_h3 (lo_f_X12_scrip_15 h3 L_h3.1)
  refine Lq.xbd L_h3 (lo_f_X12_in h3 L_h3.1) fun _ h5 L_h5 => ?_
  refine Lq.ite ?_ ?_
  exact Lq.some L_h5
  refine Lq.xgk ?_
  refine Lq.xbd L_h5 (lo_f_X12_isFallen h5 L_h5.1) fun _ h7 L_h7 => ?_
  refine Lq.ite ?_ ?_
  refine Lq.xgf fun _ => ?_
  refine Lq.xgk ?_
  refine Lq.xbd L_h7 (lo_f_X12_sharesAt h7 L_h7.1) fun _ h10 L_h10 => ?_
  refine Lq.xrd fun _ => ?_
  refine Lq.ite ?_ ?_
  refine Lq.xgf fun _ => ?_
  refine Lq.xgk ?_
  refine Lq.xbd L_h10 (lo_f_X12_sharesAt h10 L_h10.1) fun _ h14 L_h14 => ?_
  refine Lq.xrd fun _ => ?_
  refine Lq.xwt L_h14 fun h16 L_h16 => ?_
  refine Lq.xgf fun _ => ?_
  refine Lq.xgk ?_
  refine Lq.xbd L_h16 (lo_f_X12_sharesAt h16 L_h16.1) fun _ h18 L_h18 => ?_
  refine Lq.xrd fun _ => ?_
  refine Lq.xwt L_h18 fun h20 L_h20 => ?_
  refine Lq.xgf fun _ => ?_
  refine Lq.xgk ?_
  refine Lq.xbd L_h20 (lo_f_X12_sharesAt h20 L_h20.1) fun _ h22 L_h22 => ?_
  refine Lq.xrd fun _ => ?_
  exact Lq.some L_h22
  exact Lq.tr L_h10 (lo_f_X12_scrip_54 h10 L_h10.1)
  exact Lq.tr L_h7 (lo_f_X12_scrip_54 h7 L_h7.1)
theorem lo_f_X12_held_33 {n : Nat} {s0 : Int} (h : MM) (z : 100 ≤ nx h) : Lq h (f_X12_held_33 n s0 h) := by
  have L_h := Lo.refl z
  delta f_X12_held_33
  exact Lq.some L_h
theorem lo_f_X12_held_32 {n : Nat} (h : MM) (z : 100 ≤ nx h) : Lq h (f_X12_held_32 n h) := by
  have L_h := Lo.refl z
  delta f_X12_held_32
  exact Lq.tr L_h (lo_f_X12_held_33 h L_h.1)
theorem lo_f_X12_held {n : Nat} {v0 : Int} {v1 : Int} {v2 : Int} (h : MM) (z : 100 ≤ nx h) : Lq h (f_X12_held n v0 v1 v2 h) := by
  have L_h := Lo.refl z
  delta f_X12_held
  refine Lq.xgk ?_
  refine Lq.xbd L_h (lo_f_X12_isScheme h L_h.1) fun _ h1 L_h1 => ?_
  refine Lq.ite ?_ ?_
  exact Lq.tr L_h1 (lo_f_X12_held_32 h1 L_h1.1)
  refine Lq.xbd L_h1 (lo_f_X12_in h1 L_h1.1) fun _ h3 L_h3 => ?_
  refine Lq.ite ?_ ?_
  exact Lq.tr L_h3 (lo_f_X12_held_32 h3 L_h3.1)
  refine Lq.xgf fun _ => ?_
  refine Lq.xgk ?_
  refine Lq.xbd L_h3 (lo_f_X12_sharesAt h3 L_h3.1) fun _ h6 L_h6 => ?_
  refine Lq.xrd fun _ => ?_
  exact Lq.tr L_h6 (lo_f_X12_held_33 h6 L_h6.1)
theorem lo_f_X12_purse_57 {n : Nat} {s0 : Int} (h : MM) (z : 100 ≤ nx h) : Lq h (f_X12_purse_57 n s0 h) := by
  have L_h := Lo.refl z
  delta f_X12_purse_57
  exact Lq.some L_h
theorem lo_f_X12_purse_56 {n : Nat} (h : MM) (z : 100 ≤ nx h) : Lq h (f_X12_purse_56 n h) := by
  have L_h := Lo.refl z
  delta f_X12_purse_56
  exact Lq.tr L_h (lo_f_X12_purse_57 h L_h.1)
theorem lo_f_X12_purse_25 {n : Nat} {s0 : Int} (h : MM) (z : 100 ≤ nx h) : Lq h (f_X12_purse_25 n s0 h) := by
  have L_h := Lo.refl z
  delta f_X12_purse_25
  exact Lq.some L_h
theorem lo_f_X12_purse {n : Nat} {v0 : Int} {v1 : Int} {v2 : Int} (h : MM) (z : 100 ≤ nx h) : Lq h (f_X12_purse n v0 v1 v2 h) := by
  have L_h := Lo.refl z
  delta f_X12_purse
  refine Lq.ite ?_ ?_
  refine Lq.xbd L_h (lo_f_X12_isHolder h L_h.1) fun _ h8 L_h8 => ?_
  refine Lq.ite ?_ ?_
  exact Lq.tr L_h8 (lo_f_X12_purse_25 h8 L_h8.1)
  refine Lq.xgf fun _ => ?_
  refine Lq.xrd fun _ => ?_
  exact Lq.tr L_h8 (lo_f_X12_purse_25 h8 L_h8.1)
  refine Lq.ite ?_ ?_
  refine Lq.xgk ?_
  refine Lq.xbd L_h (lo_f_X12_isScheme h L_h.1) fun _ h3 L_h3 => ?_
  refine Lq.ite ?_ ?_
  exact Lq.tr L_h3 (lo_f_X12_purse_56 h3 L_h3.1)
  refine Lq.xgf fun _ => ?_
  refine Lq.xgk ?_
  refine Lq.xbd L_h3 (lo_f_X12_indexOf h3 L_h3.1) fun _ h6 L_h6 => ?_
  refine Lq.xrd fun _ => ?_
  exact Lq.tr L_h6 (lo_f_X12_purse_57 h6 L_h6.1)
  exact Lq.tr L_h (lo_f_X12_purse_56 h L_h.1)
theorem lo_f_X12_ask_15 {n : Nat} (h : MM) (z : 100 ≤ nx h) : Lq h (f_X12_ask_15 n h) := by
  have L_h := Lo.refl z
  delta f_X12_ask_15
  exact Lq.some L_h
theorem lo_f_X12_ask_39 {n : Nat} (h : MM) (z : 100 ≤ nx h) : Lq h (f_X12_ask_39 n h) := by
  have L_h := Lo.refl z
  delta f_X12_ask_39
  exact Lq.some L_h
theorem lo_f_X12_ask_135 {n : Nat} {v0 : Int} {s0 : Int} {s1 : Int} {s2 : Int} (h : MM) (z : 100 ≤ nx h) : Lq h (f_X12_ask_135 n v0 s0 s1 s2 h) := by
  have L_h := Lo.refl z
  delta f_X12_ask_135
  refine Lq.xwt L_h fun h1 L_h1 => ?_
  refine Lq.xgf fun _ => ?_
  refine Lq.xrd fun _ => ?_
  refine Lq.xwt L_h1 fun h4 L_h4 => ?_
  refine Lq.xgf fun _ => ?_
  refine Lq.xrd fun _ => ?_
  exact Lq.some L_h4
theorem lo_f_X12_ask {n : Nat} {v0 : Int} {v1 : Int} {v2 : Int} {v3 : Int} {v4 : Int} {v5 : Int} (h : MM) (z : 100 ≤ nx h) : Lq h (f_X12_ask n v0 v1 v2 v3 v4 v5 h) := by
  have L_h := Lo.refl z
  delta f_X12_ask
  refine Lq.xgk ?_
  refine Lq.xbd L_h (lo_f_X12_isScheme h L_h.1) fun _ h1 L_h1 => ?_
  refine Lq.ite ?_ ?_
  exact Lq.tr L_h1 (lo_f_X12_ask_15 h1 L_h1.1)
  refine Lq.xbd L_h1 (lo_f_X12_isHolder h1 L_h1.1) fun _ h3 L_h3 => ?_
  refine Lq.ite ?_ ?_
  exact Lq.tr L_h3 (lo_f_X12_ask_15 h3 L_h3.1)
  refine Lq.xbd L_h3 (lo_f_X12_in h3 L_h3.1) fun _ h5 L_h5 => ?_
  refine Lq.ite ?_ ?_
  exact Lq.tr L_h5 (lo_f_X12_ask_39 h5 L_h5.1)
  refine Lq.xbd L_h5 (lo_f_X12_in h5 L_h5.1) fun _ h7 L_h7 => ?_
  refine Lq.ite ?_ ?_
  exact Lq.tr L_h7 (lo_f_X12_ask_39 h7 L_h7.1)
  refine Lq.xgf fun _ => ?_
  refine Lq.xrd fun _ => ?_
  refine Lq.ite ?_ ?_
  exact Lq.some L_h7
  refine Lq.xgf fun _ => ?_
  refine Lq.xrd fun _ => ?_
  refine Lq.xgf fun _ => ?_
  refine Lq.xwt L_h7 fun h15 L_h15 => ?_
  refine Lq.xgf fun _ => ?_
  refine Lq.xwt L_h15 fun h17 L_h17 => ?_
  refine Lq.xgf fun _ => ?_
  refine Lq.xwt L_h17 fun h19 L_h19 => ?_
  refine Lq.xgf fun _ => ?_
  refine Lq.xwt L_h19 fun h21 L_h21 => ?_
  refine Lq.xgf fun _ => ?_
  refine Lq.ite ?_ ?_
  exact Lq.tr L_h21 (lo_f_X12_ask_135 h21 L_h21.1)
  exact Lq.tr L_h21 (lo_f_X12_ask_135 h21 L_h21.1)
theorem lo_f_X12_bestOf_152 {n : Nat} {rec5 : Int → Int → MM → RR} {v0 : Int} {v1 : Int} {v2 : Int} {v4 : Int} {s0 : Int} (q_rec5 : ∀ (a0 a1 : Int) (h : MM), 100 ≤ nx h → Lq h (rec5 a0 a1 h)) (h : MM) (z : 100 ≤ nx h) : Lq h (f_X12_bestOf_152 n rec5 v0 v1 v2 v4 s0 h) := by
  have L_h := Lo.refl z
  delta f_X12_bestOf_152
  refine Lq.xlb fun _ => ?_
  exact Lq.tr L_h (q_rec5 _ _ h L_h.1)
theorem lo_f_X12_bestOf_151 {n : Nat} {rec5 : Int → Int → MM → RR} {v0 : Int} {v1 : Int} {v2 : Int} {v3 : Int} {v4 : Int} (q_rec5 : ∀ (a0 a1 : Int) (h : MM), 100 ≤ nx h → Lq h (rec5 a0 a1 h)) (h : MM) (z : 100 ≤ nx h) : Lq h (f_X12_bestOf_151 n rec5 v0 v1 v2 v3 v4 h) := by
  have L_h := Lo.refl z
  delta f_X12_bestOf_151
  exact Lq.tr L_h (lo_f_X12_bestOf_152 q_rec5 h L_h.1)
theorem lo_f_X12_bestOf_134 {n : Nat} {rec5 : Int → Int → MM → RR} {v0 : Int} {v1 : Int} {v2 : Int} {v3 : Int} {v4 : Int} {v5 : Int} {s0 : Int} (q_rec5 : ∀ (a0 a1 : Int) (h : MM), 100 ≤ nx h → Lq h (rec5 a0 a1 h)) (h : MM) (z : 100 ≤ nx h) : Lq h (f_X12_bestOf_134 n rec5 v0 v1 v2 v3 v4 v5 s0 h) := by
  have L_h := Lo.refl z
  delta f_X12_bestOf_134
  refine Lq.ite ?_ ?_
  exact Lq.tr L_h (lo_f_X12_bestOf_151 q_rec5 h L_h.1)
  refine Lq.ite ?_ ?_
  exact Lq.tr L_h (lo_f_X12_bestOf_151 q_rec5 h L_h.1)
  exact Lq.tr L_h (lo_f_X12_bestOf_152 q_rec5 h L_h.1)
theorem lo_f_X12_bestOf_129 {n : Nat} {rec5 : Int → Int → MM → RR} {v0 : Int} {v1 : Int} {v2 : Int} {v3 : Int} {v4 : Int} {v5 : Int} (q_rec5 : ∀ (a0 a1 : Int) (h : MM), 100 ≤ nx h → Lq h (rec5 a0 a1 h)) (h : MM) (z : 100 ≤ nx h) : Lq h (f_X12_bestOf_129 n rec5 v0 v1 v2 v3 v4 v5 h) := by
  have L_h := Lo.refl z
  delta f_X12_bestOf_129
  exact Lq.tr L_h (lo_f_X12_bestOf_134 q_rec5 h L_h.1)
theorem lo_f_X12_bestOf_133 {n : Nat} {rec5 : Int → Int → MM → RR} {v0 : Int} {v1 : Int} {v2 : Int} {v3 : Int} {v4 : Int} {v5 : Int} (q_rec5 : ∀ (a0 a1 : Int) (h : MM), 100 ≤ nx h → Lq h (rec5 a0 a1 h)) (h : MM) (z : 100 ≤ nx h) : Lq h (f_X12_bestOf_133 n rec5 v0 v1 v2 v3 v4 v5 h) := by
  have L_h := Lo.refl z
  delta f_X12_bestOf_133
  exact Lq.tr L_h (lo_f_X12_bestOf_134 q_rec5 h L_h.1)
theorem lo_f_X12_bestOf_66 {n : Nat} {rec5 : Int → Int → MM → RR} {v0 : Int} {v1 : Int} {v2 : Int} {v3 : Int} {v4 : Int} {s0 : Int} (q_rec5 : ∀ (a0 a1 : Int) (h : MM), 100 ≤ nx h → Lq h (rec5 a0 a1 h)) (h : MM) (z : 100 ≤ nx h) : Lq h (f_X12_bestOf_66 n rec5 v0 v1 v2 v3 v4 s0 h) := by
  have L_h := Lo.refl z
  delta f_X12_bestOf_66
  refine Lq.ite ?_ ?_
  exact Lq.tr L_h (lo_f_X12_bestOf_129 q_rec5 h L_h.1)
  refine Lq.ite ?_ ?_
  refine Lq.xgf fun _ => ?_
  refine Lq.xrd fun _ => ?_
  refine Lq.xgf fun _ => ?_
  refine Lq.xrd fun _ => ?_
  refine Lq.ite ?_ ?_
  exact Lq.tr L_h (lo_f_X12_bestOf_133 q_rec5 h L_h.1)
  exact Lq.tr L_h (lo_f_X12_bestOf_129 q_rec5 h L_h.1)
  refine Lq.xgf fun _ => ?_
  refine Lq.xrd fun _ => ?_
  refine Lq.xgf fun _ => ?_
  refine Lq.xrd fun _ => ?_
  refine Lq.ite ?_ ?_
  exact Lq.tr L_h (lo_f_X12_bestOf_133 q_rec5 h L_h.1)
  exact Lq.tr L_h (lo_f_X12_bestOf_129 q_rec5 h L_h.1)
theorem lo_f_X12_bestOf_65 {n : Nat} {rec5 : Int → Int → MM → RR} {v0 : Int} {v1 : Int} {v2 : Int} {v3 : Int} {v4 : Int} (q_rec5 : ∀ (a0 a1 : Int) (h : MM), 100 ≤ nx h → Lq h (rec5 a0 a1 h)) (h : MM) (z : 100 ≤ nx h) : Lq h (f_X12_bestOf_65 n rec5 v0 v1 v2 v3 v4 h) := by
  have L_h := Lo.refl z
  delta f_X12_bestOf_65
  exact Lq.tr L_h (lo_f_X12_bestOf_66 q_rec5 h L_h.1)
theorem lo_f_X12_bestOf_5b {n : Nat} {rec5 : Int → Int → MM → RR} {v0 : Int} {v1 : Int} {v2 : Int} {v3 : Int} {v4 : Int} (q_rec5 : ∀ (a0 a1 : Int) (h : MM), 100 ≤ nx h → Lq h (rec5 a0 a1 h)) (h : MM) (z : 100 ≤ nx h) : Lq h (f_X12_bestOf_5b n rec5 v0 v1 v2 v3 v4 h) := by
  have L_h := Lo.refl z
  delta f_X12_bestOf_5b
  refine Lq.xgf fun _ => ?_
  refine Lq.xrd fun _ => ?_
  refine Lq.ite ?_ ?_
  exact Lq.some L_h
  refine Lq.xgf fun _ => ?_
  refine Lq.xrd fun _ => ?_
  refine Lq.ite ?_ ?_
  refine Lq.xgf fun _ => ?_
  refine Lq.xrd fun _ => ?_
  refine Lq.ite ?_ ?_
  refine Lq.xgf fun _ => ?_
  refine Lq.xrd fun _ => ?_
  refine Lq.ite ?_ ?_
  exact Lq.tr L_h (lo_f_X12_bestOf_65 q_rec5 h L_h.1)
  exact Lq.tr L_h (lo_f_X12_bestOf_66 q_rec5 h L_h.1)
  exact Lq.tr L_h (lo_f_X12_bestOf_65 q_rec5 h L_h.1)
  exact Lq.tr L_h (lo_f_X12_bestOf_65 q_rec5 h L_h.1)
theorem lo_f_X12_bestOf_5 {n : Nat} {v0 : Int} {v1 : Int} {v2 : Int} : ∀ (k : Nat) (v3 v4 : Int) (h : MM), 100 ≤ nx h → Lq h (f_X12_bestOf_5 n v0 v1 v2 k v3 v4 h)
  | 0, _, _, _, _ => Lq.none
  | k + 1, v3, v4, h, z => lo_f_X12_bestOf_5b (fun b0 b1 h z => lo_f_X12_bestOf_5 k b0 b1 h z) h z
theorem lo_f_X12_bestOf {n : Nat} {v0 : Int} {v1 : Int} {v2 : Int} (h : MM) (z : 100 ≤ nx h) : Lq h (f_X12_bestOf n v0 v1 v2 h) := by
  have L_h := Lo.refl z
  delta f_X12_bestOf
  exact Lq.tr L_h (lo_f_X12_bestOf_5 _ _ _ h L_h.1)
theorem lo_f_X12_price_554 {n : Nat} {rec414 : Int → Int → MM → RR} {v0 : Int} {v1 : Int} {v2 : Int} {v5 : Int} {v6 : Int} (q_rec414 : ∀ (a0 a1 : Int) (h : MM), 100 ≤ nx h → Lq h (rec414 a0 a1 h)) (h : MM) (z : 100 ≤ nx h) : Lq h (f_X12_price_554 n rec414 v0 v1 v2 v5 v6 h) := by
  have L_h := Lo.refl z
  delta f_X12_price_554
  refine Lq.xlb fun _ => ?_
  exact Lq.tr L_h (q_rec414 _ _ h L_h.1)
theorem lo_f_X12_price_414b {n : Nat} {rec414 : Int → Int → MM → RR} {v0 : Int} {v1 : Int} {v2 : Int} {v5 : Int} {v6 : Int} (q_rec414 : ∀ (a0 a1 : Int) (h : MM), 100 ≤ nx h → Lq h (rec414 a0 a1 h)) (h : MM) (z : 100 ≤ nx h) : Lq h (f_X12_price_414b n rec414 v0 v1 v2 v5 v6 h) := by
  have L_h := Lo.refl z
  delta f_X12_price_414b
  refine Lq.xgf fun _ => ?_
  refine Lq.xrd fun _ => ?_
  refine Lq.ite ?_ ?_
  refine Lq.xgf fun _ => ?_
  refine Lq.xwt L_h fun h5 L_h5 => ?_
  exact Lq.some L_h5
  refine Lq.xgf fun _ => ?_
  refine Lq.xrd fun _ => ?_
  refine Lq.ite ?_ ?_
  exact Lq.tr L_h (lo_f_X12_price_554 q_rec414 h L_h.1)
  refine Lq.xgf fun _ => ?_
  refine Lq.xgf fun _ => ?_
  refine Lq.xrd fun _ => ?_
  refine Lq.xwt L_h fun h12 L_h12 => ?_
  refine Lq.xgf fun _ => ?_
  refine Lq.xgf fun _ => ?_
  refine Lq.xrd fun _ => ?_
  refine Lq.xwt L_h12 fun h16 L_h16 => ?_
  refine Lq.xgf fun _ => ?_
  refine Lq.xgf fun _ => ?_
  refine Lq.xrd fun _ => ?_
  refine Lq.xwt L_h16 fun h20 L_h20 => ?_
  refine Lq.xgf fun _ => ?_
  refine Lq.xgf fun _ => ?_
  refine Lq.xrd fun _ => ?_
  refine Lq.xwt L_h20 fun h24 L_h24 => ?_
  refine Lq.xgf fun _ => ?_
  refine Lq.xgf fun _ => ?_
  refine Lq.xrd fun _ => ?_
  refine Lq.xwt L_h24 fun h28 L_h28 => ?_
  refine Lq.xlb fun _ => ?_
  exact Lq.tr L_h28 (lo_f_X12_price_554 q_rec414 h28 L_h28.1)
theorem lo_f_X12_price_414 {n : Nat} {v0 : Int} {v1 : Int} {v2 : Int} : ∀ (k : Nat) (v5 v6 : Int) (h : MM), 100 ≤ nx h → Lq h (f_X12_price_414 n v0 v1 v2 k v5 v6 h)
  | 0, _, _, _, _ => Lq.none
  | k + 1, v5, v6, h, z => lo_f_X12_price_414b (fun b0 b1 h z => lo_f_X12_price_414 k b0 b1 h z) h z
theorem lo_f_X12_price_408 {n : Nat} {v0 : Int} {v1 : Int} {v2 : Int} (h : MM) (z : 100 ≤ nx h) : Lq h (f_X12_price_408 n v0 v1 v2 h) := by
  have L_h := Lo.refl z
  delta f_X12_price_408
  exact Lq.tr L_h (lo_f_X12_price_414 _ _ _ h L_h.1)
theorem lo_f_X12_price_390 {n : Nat} {rec27 : Int → Int → Int → MM → RR} {v0 : Int} {v1 : Int} {v2 : Int} (q_rec27 : ∀ (a0 a1 a2 : Int) (h : MM), 100 ≤ nx h → Lq h (rec27 a0 a1 a2 h)) (h : MM) (z : 100 ≤ nx h) : Lq h (f_X12_price_390 n rec27 v0 v1 v2 h) := by
  have L_h := Lo.refl z
  delta f_X12_price_390
  refine Lq.xgk ?_
  refine Lq.xbd L_h (lo_f_X12_bestOf h L_h.1) fun _ h1 L_h1 => ?_
  refine Lq.xgk ?_
  refine Lq.xbd L_h1 (lo_f_X12_bestOf h1 L_h1.1) fun _ h2 L_h2 => ?_
  exact Lq.tr L_h2 (q_rec27 _ _ _ h2 L_h2.1)
theorem lo_f_X12_price_226 {n : Nat} {rec27 : Int → Int → Int → MM → RR} {v0 : Int} {v1 : Int} {v2 : Int} {s0 : Int} {s1 : Int} {s2 : Int} (q_rec27 : ∀ (a0 a1 a2 : Int) (h : MM), 100 ≤ nx h → Lq h (rec27 a0 a1 a2 h)) (h : MM) (z : 100 ≤ nx h) : Lq h (f_X12_price_226 n rec27 v0 v1 v2 s0 s1 s2 h) := by
  have L_h := Lo.refl z
  delta f_X12_price_226
  refine Lq.xwt L_h fun h1 L_h1 => ?_
  exact Lq.tr L_h1 (lo_f_X12_price_390 q_rec27 h1 L_h1.1)
theorem lo_f_X12_price_201 {n : Nat} {rec27 : Int → Int → Int → MM → RR} {v0 : Int} {v1 : Int} {v2 : Int} {v3 : Int} {v4 : Int} {v5 : Int} {v6 : Int} {s0 : Int} (q_rec27 : ∀ (a0 a1 a2 : Int) (h : MM), 100 ≤ nx h → Lq h (rec27 a0 a1 a2 h)) (h : MM) (z : 100 ≤ nx h) : Lq h (f_X12_price_201 n rec27 v0 v1 v2 v3 v4 v5 v6 s0 h) := by
  have L_h := Lo.refl z
  delta f_X12_price_201
  refine Lq.ite ?_ ?_
  refine Lq.xgf fun _ => ?_
  refine Lq.ite ?_ ?_
  exact Lq.tr L_h (lo_f_X12_price_226 q_rec27 h L_h.1)
  exact Lq.tr L_h (lo_f_X12_price_226 q_rec27 h L_h.1)
  refine Lq.xgf fun _ => ?_
  refine Lq.xgf fun _ => ?_
  refine Lq.xrd fun _ => ?_
  refine Lq.xgk ?_
  refine Lq.xbd L_h (lo_f_X12_sharesAt h L_h.1) fun _ h5 L_h5 => ?_
  refine Lq.xrd fun _ => ?_
  refine Lq.xwt L_h5 fun h7 L_h7 => ?_
  refine Lq.xgf fun _ => ?_
  refine Lq.xgf fun _ => ?_
  refine Lq.xrd fun _ => ?_
  refine Lq.xgk ?_
  refine Lq.xbd L_h7 (lo_f_X12_sharesAt h7 L_h7.1) fun _ h11 L_h11 => ?_
  refine Lq.xrd fun _ => ?_
  refine Lq.xwt L_h11 fun h13 L_h13 => ?_
  refine Lq.xgf fun _ => ?_
  refine Lq.xgf fun _ => ?_
  refine Lq.xrd fun _ => ?_
  refine Lq.xrd fun _ => ?_
  refine Lq.xwt L_h13 fun h18 L_h18 => ?_
  refine Lq.xgf fun _ => ?_
  refine Lq.xgf fun _ => ?_
  refine Lq.xrd fun _ => ?_
  refine Lq.xrd fun _ => ?_
  refine Lq.xwt L_h18 fun h23 L_h23 => ?_
  refine Lq.xgf fun _ => ?_
  refine Lq.xrd fun _ => ?_
  refine Lq.xwt L_h23 fun h26 L_h26 => ?_
  refine Lq.xgf fun _ => ?_
  refine Lq.xrd fun _ => ?_
  refine Lq.xwt L_h26 fun h29 L_h29 => ?_
  refine Lq.xgf fun _ => ?_
  refine Lq.xgk ?_
  refine Lq.xbd L_h29 (lo_f_X12_indexOf h29 L_h29.1) fun _ h31 L_h31 => ?_
  refine Lq.xwt L_h31 fun h32 L_h32 => ?_
  refine Lq.xlb fun _ => ?_
  exact Lq.tr L_h32 (lo_f_X12_price_390 q_rec27 h32 L_h32.1)
theorem lo_f_X12_price_185 {n : Nat} {rec27 : Int → Int → Int → MM → RR} {v0 : Int} {v1 : Int} {v2 : Int} {v3 : Int} {v4 : Int} {v5 : Int} {v6 : Int} {v7 : Int} {s0 : Int} (q_rec27 : ∀ (a0 a1 a2 : Int) (h : MM), 100 ≤ nx h → Lq h (rec27 a0 a1 a2 h)) (h : MM) (z : 100 ≤ nx h) : Lq h (f_X12_price_185 n rec27 v0 v1 v2 v3 v4 v5 v6 v7 s0 h) := by
  have L_h := Lo.refl z
  delta f_X12_price_185
  refine Lq.ite ?_ ?_
  exact Lq.tr L_h (lo_f_X12_price_201 q_rec27 h L_h.1)
  exact Lq.tr L_h (lo_f_X12_price_201 q_rec27 h L_h.1)
theorem lo_f_X12_price_169 {n : Nat} {rec27 : Int → Int → Int → MM → RR} {v0 : Int} {v1 : Int} {v2 : Int} {v3 : Int} {v4 : Int} {v5 : Int} {v6 : Int} {v7 : Int} {s0 : Int} (q_rec27 : ∀ (a0 a1 a2 : Int) (h : MM), 100 ≤ nx h → Lq h (rec27 a0 a1 a2 h)) (h : MM) (z : 100 ≤ nx h) : Lq h (f_X12_price_169 n rec27 v0 v1 v2 v3 v4 v5 v6 v7 s0 h) := by
  have L_h := Lo.refl z
  delta f_X12_price_169
  refine Lq.ite ?_ ?_
  exact Lq.tr L_h (lo_f_X12_price_185 q_rec27 h L_h.1)
  exact Lq.tr L_h (lo_f_X12_price_185 q_rec27 h L_h.1)
theorem lo_f_X12_price_27b {n : Nat} {rec27 : Int → Int → Int → MM → RR} {v0 : Int} {v1 : Int} {v2 : Int} {v3 : Int} {v4 : Int} (q_rec27 : ∀ (a0 a1 a2 : Int) (h : MM), 100 ≤ nx h → Lq h (rec27 a0 a1 a2 h)) (h : MM) (z : 100 ≤ nx h) : Lq h (f_X12_price_27b n rec27 v0 v1 v2 v3 v4 h) := by
  have L_h := Lo.refl z
  delta f_X12_price_27b
  refine Lq.ite ?_ ?_
  exact Lq.tr L_h (lo_f_X12_price_408 h L_h.1)
  refine Lq.ite ?_ ?_
  exact Lq.tr L_h (lo_f_X12_price_408 h L_h.1)
  refine Lq.xgf fun _ => ?_
  refine Lq.xrd fun _ => ?_
  refine Lq.xgf fun _ => ?_
  refine Lq.xrd fun _ => ?_
  refine Lq.ite ?_ ?_
  exact Lq.tr L_h (lo_f_X12_price_408 h L_h.1)
  refine Lq.xgf fun _ => ?_
  refine Lq.xrd fun _ => ?_
  refine Lq.xgf fun _ => ?_
  refine Lq.xgf fun _ => ?_
  refine Lq.xrd fun _ => ?_
  refine Lq.xgk ?_
  refine Lq.xbd L_h (lo_f_X12_sharesAt h L_h.1) fun _ h13 L_h13 => ?_
  refine Lq.xrd fun _ => ?_
  refine Lq.xgf fun _ => ?_
  refine Lq.xgf fun _ => ?_
  refine Lq.xrd fun _ => ?_
  refine Lq.xrd fun _ => ?_
  refine Lq.xdz ?_
  refine Lq.xlb fun _ => ?_
  refine Lq.xgf fun _ => ?_
  refine Lq.xrd fun _ => ?_
  refine Lq.xgf fun _ => ?_
  refine Lq.xrd fun _ => ?_
  refine Lq.ite ?_ ?_
  refine Lq.xgf fun _ => ?_
  refine Lq.xrd fun _ => ?_
  exact Lq.tr L_h13 (lo_f_X12_price_169 q_rec27 h13 L_h13.1)
  refine Lq.xgf fun _ => ?_
  refine Lq.xrd fun _ => ?_
  exact Lq.tr L_h13 (lo_f_X12_price_169 q_rec27 h13 L_h13.1)
theorem lo_f_X12_price_27 {n : Nat} {v0 : Int} {v1 : Int} : ∀ (k : Nat) (v2 v3 v4 : Int) (h : MM), 100 ≤ nx h → Lq h (f_X12_price_27 n v0 v1 k v2 v3 v4 h)
  | 0, _, _, _, _, _ => Lq.none
  | k + 1, v2, v3, v4, h, z => lo_f_X12_price_27b (fun b0 b1 b2 h z => lo_f_X12_price_27 k b0 b1 b2 h z) h z
theorem lo_f_X12_price {n : Nat} {v0 : Int} {v1 : Int} (h : MM) (z : 100 ≤ nx h) : Lq h (f_X12_price n v0 v1 h) := by
  have L_h := Lo.refl z
  delta f_X12_price
  refine Lq.xgk ?_
  refine Lq.xbd L_h (lo_f_X12_isScheme h L_h.1) fun _ h1 L_h1 => ?_
  refine Lq.ite ?_ ?_
  exact Lq.some L_h1
  refine Lq.xgk ?_
  refine Lq.xbd L_h1 (lo_f_X12_bestOf h1 L_h1.1) fun _ h3 L_h3 => ?_
  refine Lq.xgk ?_
  refine Lq.xbd L_h3 (lo_f_X12_bestOf h3 L_h3.1) fun _ h4 L_h4 => ?_
  exact Lq.tr L_h4 (lo_f_X12_price_27 _ _ _ _ h4 L_h4.1)
theorem lo_f_X12_read_26 {n : Nat} {s0 : Int} (h : MM) (z : 100 ≤ nx h) : Lq h (f_X12_read_26 n s0 h) := by
  have L_h := Lo.refl z
  delta f_X12_read_26
  exact Lq.some L_h
theorem lo_f_X12_read {n : Nat} {v0 : Int} {v1 : Int} (h : MM) (z : 100 ≤ nx h) : Lq h (f_X12_read n v0 v1 h) := by
  have L_h := Lo.refl z
  delta f_X12_read
  refine Lq.xgk ?_
  refine Lq.xbd L_h (lo_f_X12_isScheme h L_h.1) fun _ h1 L_h1 => ?_
  refine Lq.ite ?_ ?_
  exact Lq.tr L_h1 (lo_f_X12_read_26 h1 L_h1.1)
  refine Lq.xgf fun _ => ?_
  refine Lq.xgk ?_
  refine Lq.xbd L_h1 (lo_f_X12_indexOf h1 L_h1.1) fun _ h4 L_h4 => ?_
  refine Lq.xrd fun _ => ?_
  exact Lq.tr L_h4 (lo_f_X12_read_26 h4 L_h4.1)
theorem lo_f_X12_call_171 {n : Nat} {s0 : Int} (h : MM) (z : 100 ≤ nx h) : Lq h (f_X12_call_171 n s0 h) := by
  have L_h := Lo.refl z
  delta f_X12_call_171
  exact Lq.some L_h
theorem lo_f_X12_call_131 {n : Nat} {rec49 : Int → Int → MM → RR} {v0 : Int} {v1 : Int} {v2 : Int} {v4 : Int} {s0 : Int} (q_rec49 : ∀ (a0 a1 : Int) (h : MM), 100 ≤ nx h → Lq h (rec49 a0 a1 h)) (h : MM) (z : 100 ≤ nx h) : Lq h (f_X12_call_131 n rec49 v0 v1 v2 v4 s0 h) := by
  have L_h := Lo.refl z
  delta f_X12_call_131
  refine Lq.xlb fun _ => ?_
  exact Lq.tr L_h (q_rec49 _ _ h L_h.1)
theorem lo_f_X12_call_130 {n : Nat} {rec49 : Int → Int → MM → RR} {v0 : Int} {v1 : Int} {v2 : Int} {v4 : Int} (q_rec49 : ∀ (a0 a1 : Int) (h : MM), 100 ≤ nx h → Lq h (rec49 a0 a1 h)) (h : MM) (z : 100 ≤ nx h) : Lq h (f_X12_call_130 n rec49 v0 v1 v2 v4 h) := by
  have L_h := Lo.refl z
  delta f_X12_call_130
  exact Lq.tr L_h (lo_f_X12_call_131 q_rec49 h L_h.1)
theorem lo_f_X12_call_126 {n : Nat} {rec49 : Int → Int → MM → RR} {v0 : Int} {v1 : Int} {v2 : Int} {v4 : Int} (q_rec49 : ∀ (a0 a1 : Int) (h : MM), 100 ≤ nx h → Lq h (rec49 a0 a1 h)) (h : MM) (z : 100 ≤ nx h) : Lq h (f_X12_call_126 n rec49 v0 v1 v2 v4 h) := by
  have L_h := Lo.refl z
  delta f_X12_call_126
  exact Lq.tr L_h (lo_f_X12_call_131 q_rec49 h L_h.1)
theorem lo_f_X12_call_49b {n : Nat} {rec49 : Int → Int → MM → RR} {v0 : Int} {v1 : Int} {v2 : Int} {v3 : Int} {v4 : Int} (q_rec49 : ∀ (a0 a1 : Int) (h : MM), 100 ≤ nx h → Lq h (rec49 a0 a1 h)) (h : MM) (z : 100 ≤ nx h) : Lq h (f_X12_call_49b n rec49 v0 v1 v2 v3 v4 h) := by
  have L_h := Lo.refl z
  delta f_X12_call_49b
  refine Lq.xgf fun _ => ?_
  refine Lq.xrd fun _ => ?_
  refine Lq.ite ?_ ?_
  refine Lq.ite ?_ ?_
  exact Lq.some L_h
  refine Lq.xgf fun _ => ?_
  refine Lq.xrd fun _ => ?_
  refine Lq.ite ?_ ?_
  exact Lq.tr L_h (lo_f_X12_call_171 h L_h.1)
  refine Lq.xgk ?_
  refine Lq.xbd L_h (lo_f_X12_paper h L_h.1) fun _ h8 L_h8 => ?_
  exact Lq.tr L_h8 (lo_f_X12_call_171 h8 L_h8.1)
  refine Lq.ite ?_ ?_
  exact Lq.tr L_h (lo_f_X12_call_130 q_rec49 h L_h.1)
  refine Lq.xgf fun _ => ?_
  refine Lq.xrd fun _ => ?_
  refine Lq.ite ?_ ?_
  refine Lq.xgf fun _ => ?_
  refine Lq.xrd fun _ => ?_
  refine Lq.ite ?_ ?_
  refine Lq.xgf fun _ => ?_
  refine Lq.xrd fun _ => ?_
  refine Lq.xgf fun _ => ?_
  refine Lq.xrd fun _ => ?_
  refine Lq.xgf fun _ => ?_
  refine Lq.xrd fun _ => ?_
  refine Lq.xgk ?_
  refine Lq.xbd L_h (lo_f_X12_rule h L_h.1) fun _ h22 L_h22 => ?_
  refine Lq.ite ?_ ?_
  exact Lq.tr L_h22 (lo_f_X12_call_130 q_rec49 h22 L_h22.1)
  exact Lq.tr L_h22 (lo_f_X12_call_126 q_rec49 h22 L_h22.1)
  exact Lq.tr L_h (lo_f_X12_call_126 q_rec49 h L_h.1)
  exact Lq.tr L_h (lo_f_X12_call_126 q_rec49 h L_h.1)
theorem lo_f_X12_call_49 {n : Nat} {v0 : Int} {v1 : Int} {v2 : Int} : ∀ (k : Nat) (v3 v4 : Int) (h : MM), 100 ≤ nx h → Lq h (f_X12_call_49 n v0 v1 v2 k v3 v4 h)
  | 0, _, _, _, _ => Lq.none
  | k + 1, v3, v4, h, z => lo_f_X12_call_49b (fun b0 b1 h z => lo_f_X12_call_49 k b0 b1 h z) h z
theorem lo_f_X12_call_45 {n : Nat} {v0 : Int} {v1 : Int} {v2 : Int} {s0 : Int} (h : MM) (z : 100 ≤ nx h) : Lq h (f_X12_call_45 n v0 v1 v2 s0 h) := by
  have L_h := Lo.refl z
  delta f_X12_call_45
  exact Lq.tr L_h (lo_f_X12_call_49 _ _ _ h L_h.1)
theorem lo_f_X12_call {n : Nat} {v0 : Int} {v1 : Int} {v2 : Int} (h : MM) (z : 100 ≤ nx h) : Lq h (f_X12_call n v0 v1 v2 h) := by
  have L_h := Lo.refl z
  delta f_X12_call
  refine Lq.xgk ?_
  refine Lq.xbd L_h (lo_f_X12_isScheme h L_h.1) fun _ h1 L_h1 => ?_
  refine Lq.ite ?_ ?_
  exact Lq.some L_h1
  refine Lq.xgf fun _ => ?_
  refine Lq.xrd fun _ => ?_
  refine Lq.xgk ?_
  refine Lq.xbd L_h1 (lo_f_X12_rule h1 L_h1.1) fun _ h5 L_h5 => ?_
  refine Lq.xbd L_h5 (lo_f_X12_in h5 L_h5.1) fun _ h6 L_h6 => ?_
  refine Lq.ite ?_ ?_
  exact Lq.some L_h6
  refine Lq.xgk ?_
  refine Lq.xbd L_h6 (lo_f_X12_isFallen h6 L_h6.1) fun _ h8 L_h8 => ?_
  refine Lq.ite ?_ ?_
  exact Lq.tr L_h8 (lo_f_X12_call_45 h8 L_h8.1)
  exact Lq.tr L_h8 (lo_f_X12_call_45 h8 L_h8.1)
theorem lo_f_X12_lend_15 {n : Nat} (h : MM) (z : 100 ≤ nx h) : Lq h (f_X12_lend_15 n h) := by
  have L_h := Lo.refl z
  delta f_X12_lend_15
  exact Lq.some L_h
theorem lo_f_X12_lend_53 {n : Nat} (h : MM) (z : 100 ≤ nx h) : Lq h (f_X12_lend_53 n h) := by
  have L_h := Lo.refl z
  delta f_X12_lend_53
  exact Lq.some L_h
theorem lo_f_X12_lend {n : Nat} {v0 : Int} {v1 : Int} {v2 : Int} {v3 : Int} (h : MM) (z : 100 ≤ nx h) : Lq h (f_X12_lend n v0 v1 v2 v3 h) := by
  have L_h := Lo.refl z
  delta f_X12_lend
  refine Lq.xgk ?_
  refine Lq.xbd L_h (lo_f_X12_isScheme h L_h.1) fun _ h1 L_h1 => ?_
  refine Lq.ite ?_ ?_
  exact Lq.tr L_h1 (lo_f_X12_lend_15 h1 L_h1.1)
  refine Lq.xbd L_h1 (lo_f_X12_isHolder h1 L_h1.1) fun _ h3 L_h3 => ?_
  refine Lq.ite ?_ ?_
  exact Lq.tr L_h3 (lo_f_X12_lend_15 h3 L_h3.1)
  refine Lq.xbd L_h3 (lo_f_X12_in h3 L_h3.1) fun _ h5 L_h5 => ?_
  refine Lq.ite ?_ ?_
  exact Lq.some L_h5
  refine Lq.xgk ?_
  refine Lq.xbd L_h5 (lo_f_X12_isFallen h5 L_h5.1) fun _ h7 L_h7 => ?_
  refine Lq.ite ?_ ?_
  refine Lq.xgf fun _ => ?_
  refine Lq.xrd fun _ => ?_
  refine Lq.ite ?_ ?_
  refine Lq.xgf fun _ => ?_
  refine Lq.xrd fun _ => ?_
  refine Lq.ite ?_ ?_
  exact Lq.some L_h7
  refine Lq.xgf fun _ => ?_
  refine Lq.xrd fun _ => ?_
  refine Lq.xwt L_h7 fun h17 L_h17 => ?_
  refine Lq.xgf fun _ => ?_
  refine Lq.xgk ?_
  refine Lq.xbd L_h17 (lo_f_X12_indexOf h17 L_h17.1) fun _ h19 L_h19 => ?_
  refine Lq.xrd fun _ => ?_
  refine Lq.xwt L_h19 fun h21 L_h21 => ?_
  refine Lq.xgk ?_
  refine Lq.xbd L_h21 (lo_f_X12_paper h21 L_h21.1) fun _ h22 L_h22 => ?_
  exact Lq.some L_h22
  exact Lq.tr L_h7 (lo_f_X12_lend_53 h7 L_h7.1)
  exact Lq.tr L_h7 (lo_f_X12_lend_53 h7 L_h7.1)
theorem lo_f_X12_canPay_59 {n : Nat} {s0 : Int} (h : MM) (z : 100 ≤ nx h) : Lq h (f_X12_canPay_59 n s0 h) := by
  have L_h := Lo.refl z
  delta f_X12_canPay_59
  exact Lq.some L_h
theorem lo_f_X12_canPay_10b {n : Nat} {rec10 : Int → Int → MM → RR} {v0 : Int} {v1 : Int} {v2 : Int} {v4 : Int} (q_rec10 : ∀ (a0 a1 : Int) (h : MM), 100 ≤ nx h → Lq h (rec10 a0 a1 h)) (h : MM) (z : 100 ≤ nx h) : Lq h (f_X12_canPay_10b n rec10 v0 v1 v2 v4 h) := by
  have L_h := Lo.refl z
  delta f_X12_canPay_10b
  refine Lq.ite ?_ ?_
  refine Lq.xgf fun _ => ?_
  refine Lq.xrd fun _ => ?_
  refine Lq.ite ?_ ?_
  refine Lq.xgf fun _ => ?_
  refine Lq.xrd fun _ => ?_
  exact Lq.tr L_h (lo_f_X12_canPay_59 h L_h.1)
  exact Lq.tr L_h (lo_f_X12_canPay_59 h L_h.1)
  refine Lq.xgf fun _ => ?_
  refine Lq.xrd fun _ => ?_
  refine Lq.xlb fun _ => ?_
  refine Lq.xlb fun _ => ?_
  exact Lq.tr L_h (q_rec10 _ _ h L_h.1)
theorem lo_f_X12_canPay_10 {n : Nat} {v0 : Int} {v1 : Int} : ∀ (k : Nat) (v2 v4 : Int) (h : MM), 100 ≤ nx h → Lq h (f_X12_canPay_10 n v0 v1 k v2 v4 h)
  | 0, _, _, _, _ => Lq.none
  | k + 1, v2, v4, h, z => lo_f_X12_canPay_10b (fun b0 b1 h z => lo_f_X12_canPay_10 k b0 b1 h z) h z
theorem lo_f_X12_canPay {n : Nat} {v0 : Int} {v1 : Int} (h : MM) (z : 100 ≤ nx h) : Lq h (f_X12_canPay n v0 v1 h) := by
  have L_h := Lo.refl z
  delta f_X12_canPay
  refine Lq.xgf fun _ => ?_
  refine Lq.xrd fun _ => ?_
  exact Lq.tr L_h (lo_f_X12_canPay_10 _ _ _ h L_h.1)
theorem lo_f_X12_settles_511 {n : Nat} (h : MM) (z : 100 ≤ nx h) : Lq h (f_X12_settles_511 n h) := by
  have L_h := Lo.refl z
  delta f_X12_settles_511
  exact Lq.some L_h
theorem lo_f_X12_settles_480b {n : Nat} {rec341 : Int → Int → MM → RR} {rec480 : Int → MM → RR} {v0 : Int} {v1 : Int} {v2 : Int} {v3 : Int} (q_rec341 : ∀ (a0 a1 : Int) (h : MM), 100 ≤ nx h → Lq h (rec341 a0 a1 h)) (q_rec480 : ∀ (a0 : Int) (h : MM), 100 ≤ nx h → Lq h (rec480 a0 h)) (h : MM) (z : 100 ≤ nx h) : Lq h (f_X12_settles_480b n rec341 rec480 v0 v1 v2 v3 h) := by
  have L_h := Lo.refl z
  delta f_X12_settles_480b
  refine Lq.ite ?_ ?_
  refine Lq.xlb fun _ => ?_
  exact Lq.tr L_h (q_rec341 _ _ h L_h.1)
  refine Lq.xgf fun _ => ?_
  refine Lq.xgf fun _ => ?_
  refine Lq.xrd fun _ => ?_
  refine Lq.xwt L_h fun h6 L_h6 => ?_
  refine Lq.xlb fun _ => ?_
  exact Lq.tr L_h6 (q_rec480 _ h6 L_h6.1)
theorem lo_f_X12_settles_480 {n : Nat} {rec341 : Int → Int → MM → RR} {v0 : Int} {v1 : Int} {v2 : Int} (q_rec341 : ∀ (a0 a1 : Int) (h : MM), 100 ≤ nx h → Lq h (rec341 a0 a1 h)) : ∀ (k : Nat) (v3 : Int) (h : MM), 100 ≤ nx h → Lq h (f_X12_settles_480 n rec341 v0 v1 v2 k v3 h)
  | 0, _, _, _ => Lq.none
  | k + 1, v3, h, z => lo_f_X12_settles_480b q_rec341 (fun b0 h z => lo_f_X12_settles_480 q_rec341 k b0 h z) h z
theorem lo_f_X12_settles_465 {n : Nat} {rec341 : Int → Int → MM → RR} {rec356 : Int → Int → MM → RR} {rec372 : Int → Int → MM → RR} {v0 : Int} {v2 : Int} {v3 : Int} {v4 : Int} {v6 : Int} {s0 : Int} (q_rec341 : ∀ (a0 a1 : Int) (h : MM), 100 ≤ nx h → Lq h (rec341 a0 a1 h)) (q_rec356 : ∀ (a0 a1 : Int) (h : MM), 100 ≤ nx h → Lq h (rec356 a0 a1 h)) (q_rec372 : ∀ (a0 a1 : Int) (h : MM), 100 ≤ nx h → Lq h (rec372 a0 a1 h)) (h : MM) (z : 100 ≤ nx h) : Lq h (f_X12_settles_465 n rec341 rec356 rec372 v0 v2 v3 v4 v6 s0 h) := by
  have L_h := Lo.refl z
  delta f_X12_settles_465
  refine Lq.xlb fun _ => ?_
  exact Lq.tr L_h (q_rec372 _ _ h L_h.1)
theorem lo_f_X12_settles_460 {n : Nat} {rec341 : Int → Int → MM → RR} {rec356 : Int → Int → MM → RR} {rec372 : Int → Int → MM → RR} {v0 : Int} {v2 : Int} {v3 : Int} {v4 : Int} {v6 : Int} (q_rec341 : ∀ (a0 a1 : Int) (h : MM), 100 ≤ nx h → Lq h (rec341 a0 a1 h)) (q_rec356 : ∀ (a0 a1 : Int) (h : MM), 100 ≤ nx h → Lq h (rec356 a0 a1 h)) (q_rec372 : ∀ (a0 a1 : Int) (h : MM), 100 ≤ nx h → Lq h (rec372 a0 a1 h)) (h : MM) (z : 100 ≤ nx h) : Lq h (f_X12_settles_460 n rec341 rec356 rec372 v0 v2 v3 v4 v6 h) := by
  have L_h := Lo.refl z
  delta f_X12_settles_460
  exact Lq.tr L_h (lo_f_X12_settles_465 q_rec341 q_rec356 q_rec372 h L_h.1)
theorem lo_f_X12_settles_427 {n : Nat} {rec341 : Int → Int → MM → RR} {rec356 : Int → Int → MM → RR} {rec372 : Int → Int → MM → RR} {v0 : Int} {v1 : Int} {v2 : Int} {v3 : Int} {v4 : Int} {v6 : Int} {s0 : Int} {s1 : Int} {s2 : Int} (q_rec341 : ∀ (a0 a1 : Int) (h : MM), 100 ≤ nx h → Lq h (rec341 a0 a1 h)) (q_rec356 : ∀ (a0 a1 : Int) (h : MM), 100 ≤ nx h → Lq h (rec356 a0 a1 h)) (q_rec372 : ∀ (a0 a1 : Int) (h : MM), 100 ≤ nx h → Lq h (rec372 a0 a1 h)) (h : MM) (z : 100 ≤ nx h) : Lq h (f_X12_settles_427 n rec341 rec356 rec372 v0 v1 v2 v3 v4 v6 s0 s1 s2 h) := by
  have L_h := Lo.refl z
  delta f_X12_settles_427
  refine Lq.xwt L_h fun h1 L_h1 => ?_
  refine Lq.ite ?_ ?_
  refine Lq.xgf fun _ => ?_
  refine Lq.xrd fun _ => ?_
  refine Lq.xgf fun _ => ?_
  refine Lq.xrd fun _ => ?_
  refine Lq.ite ?_ ?_
  exact Lq.tr L_h1 (lo_f_X12_settles_465 q_rec341 q_rec356 q_rec372 h1 L_h1.1)
  exact Lq.tr L_h1 (lo_f_X12_settles_460 q_rec341 q_rec356 q_rec372 h1 L_h1.1)
  exact Lq.tr L_h1 (lo_f_X12_settles_460 q_rec341 q_rec356 q_rec372 h1 L_h1.1)
theorem lo_f_X12_settles_372b {n : Nat} {rec341 : Int → Int → MM → RR} {rec356 : Int → Int → MM → RR} {rec372 : Int → Int → MM → RR} {v0 : Int} {v1 : Int} {v2 : Int} {v3 : Int} {v4 : Int} {v6 : Int} (q_rec341 : ∀ (a0 a1 : Int) (h : MM), 100 ≤ nx h → Lq h (rec341 a0 a1 h)) (q_rec356 : ∀ (a0 a1 : Int) (h : MM), 100 ≤ nx h → Lq h (rec356 a0 a1 h)) (q_rec372 : ∀ (a0 a1 : Int) (h : MM), 100 ≤ nx h → Lq h (rec372 a0 a1 h)) (h : MM) (z : 100 ≤ nx h) : Lq h (f_X12_settles_372b n rec341 rec356 rec372 v0 v1 v2 v3 v4 v6 h) := by
  have L_h := Lo.refl z
  delta f_X12_settles_372b
  refine Lq.ite ?_ ?_
  refine Lq.xlb fun _ => ?_
  exact Lq.tr L_h (q_rec356 _ _ h L_h.1)
  refine Lq.xgf fun _ => ?_
  refine Lq.xgf fun _ => ?_
  refine Lq.xrd fun _ => ?_
  refine Lq.ite ?_ ?_
  exact Lq.tr L_h (lo_f_X12_settles_427 q_rec341 q_rec356 q_rec372 h L_h.1)
  refine Lq.xgf fun _ => ?_
  refine Lq.xrd fun _ => ?_
  refine Lq.xgf fun _ => ?_
  refine Lq.xrd fun _ => ?_
  refine Lq.xdz ?_
  exact Lq.tr L_h (lo_f_X12_settles_427 q_rec341 q_rec356 q_rec372 h L_h.1)
theorem lo_f_X12_settles_372 {n : Nat} {rec341 : Int → Int → MM → RR} {rec356 : Int → Int → MM → RR} {v0 : Int} {v2 : Int} {v3 : Int} {v4 : Int} (q_rec341 : ∀ (a0 a1 : Int) (h : MM), 100 ≤ nx h → Lq h (rec341 a0 a1 h)) (q_rec356 : ∀ (a0 a1 : Int) (h : MM), 100 ≤ nx h → Lq h (rec356 a0 a1 h)) : ∀ (k : Nat) (v1 v6 : Int) (h : MM), 100 ≤ nx h → Lq h (f_X12_settles_372 n rec341 rec356 v0 v2 v3 v4 k v1 v6 h)
  | 0, _, _, _, _ => Lq.none
  | k + 1, v1, v6, h, z => lo_f_X12_settles_372b q_rec341 q_rec356 (fun b0 b1 h z => lo_f_X12_settles_372 q_rec341 q_rec356 k b0 b1 h z) h z
theorem lo_f_X12_settles_356b {n : Nat} {rec341 : Int → Int → MM → RR} {rec356 : Int → Int → MM → RR} {v0 : Int} {v1 : Int} {v2 : Int} {v3 : Int} (q_rec341 : ∀ (a0 a1 : Int) (h : MM), 100 ≤ nx h → Lq h (rec341 a0 a1 h)) (q_rec356 : ∀ (a0 a1 : Int) (h : MM), 100 ≤ nx h → Lq h (rec356 a0 a1 h)) (h : MM) (z : 100 ≤ nx h) : Lq h (f_X12_settles_356b n rec341 rec356 v0 v1 v2 v3 h) := by
  have L_h := Lo.refl z
  delta f_X12_settles_356b
  refine Lq.ite ?_ ?_
  exact Lq.tr L_h (lo_f_X12_settles_480 q_rec341 _ _ h L_h.1)
  refine Lq.xgk ?_
  refine Lq.xbd L_h (lo_f_X12_canPay h L_h.1) fun _ h2 L_h2 => ?_
  exact Lq.tr L_h2 (lo_f_X12_settles_372 q_rec341 q_rec356 _ _ _ h2 L_h2.1)
theorem lo_f_X12_settles_356 {n : Nat} {rec341 : Int → Int → MM → RR} {v0 : Int} {v2 : Int} (q_rec341 : ∀ (a0 a1 : Int) (h : MM), 100 ≤ nx h → Lq h (rec341 a0 a1 h)) : ∀ (k : Nat) (v1 v3 : Int) (h : MM), 100 ≤ nx h → Lq h (f_X12_settles_356 n rec341 v0 v2 k v1 v3 h)
  | 0, _, _, _, _ => Lq.none
  | k + 1, v1, v3, h, z => lo_f_X12_settles_356b q_rec341 (fun b0 b1 h z => lo_f_X12_settles_356 q_rec341 k b0 b1 h z) h z
theorem lo_f_X12_settles_341b {n : Nat} {rec341 : Int → Int → MM → RR} {v0 : Int} {v1 : Int} {v2 : Int} (q_rec341 : ∀ (a0 a1 : Int) (h : MM), 100 ≤ nx h → Lq h (rec341 a0 a1 h)) (h : MM) (z : 100 ≤ nx h) : Lq h (f_X12_settles_341b n rec341 v0 v1 v2 h) := by
  have L_h := Lo.refl z
  delta f_X12_settles_341b
  refine Lq.ite ?_ ?_
  exact Lq.tr L_h (lo_f_X12_settles_511 h L_h.1)
  refine Lq.ite ?_ ?_
  exact Lq.tr L_h (lo_f_X12_settles_511 h L_h.1)
  exact Lq.tr L_h (lo_f_X12_settles_356 q_rec341 _ _ _ h L_h.1)
theorem lo_f_X12_settles_341 {n : Nat} {v0 : Int} : ∀ (k : Nat) (v1 v2 : Int) (h : MM), 100 ≤ nx h → Lq h (f_X12_settles_341 n v0 k v1 v2 h)
  | 0, _, _, _, _ => Lq.none
  | k + 1, v1, v2, h, z => lo_f_X12_settles_341b (fun b0 b1 h z => lo_f_X12_settles_341 k b0 b1 h z) h z
theorem lo_f_X12_settles_299b {n : Nat} {rec226 : Int → MM → RR} {rec299 : Int → MM → RR} {v0 : Int} {v1 : Int} {v2 : Int} (q_rec226 : ∀ (a0 : Int) (h : MM), 100 ≤ nx h → Lq h (rec226 a0 h)) (q_rec299 : ∀ (a0 : Int) (h : MM), 100 ≤ nx h → Lq h (rec299 a0 h)) (h : MM) (z : 100 ≤ nx h) : Lq h (f_X12_settles_299b n rec226 rec299 v0 v1 v2 h) := by
  have L_h := Lo.refl z
  delta f_X12_settles_299b
  refine Lq.ite ?_ ?_
  refine Lq.xlb fun _ => ?_
  exact Lq.tr L_h (q_rec226 _ h L_h.1)
  refine Lq.xgf fun _ => ?_
  refine Lq.xrd fun _ => ?_
  refine Lq.xgf fun _ => ?_
  refine Lq.xrd fun _ => ?_
  refine Lq.xwt L_h fun h7 L_h7 => ?_
  refine Lq.xlb fun _ => ?_
  exact Lq.tr L_h7 (q_rec299 _ h7 L_h7.1)
theorem lo_f_X12_settles_299 {n : Nat} {rec226 : Int → MM → RR} {v0 : Int} {v1 : Int} (q_rec226 : ∀ (a0 : Int) (h : MM), 100 ≤ nx h → Lq h (rec226 a0 h)) : ∀ (k : Nat) (v2 : Int) (h : MM), 100 ≤ nx h → Lq h (f_X12_settles_299 n rec226 v0 v1 k v2 h)
  | 0, _, _, _ => Lq.none
  | k + 1, v2, h, z => lo_f_X12_settles_299b q_rec226 (fun b0 h z => lo_f_X12_settles_299 q_rec226 k b0 h z) h z
theorem lo_f_X12_settles_289 {n : Nat} {rec226 : Int → MM → RR} {v0 : Int} {v1 : Int} {s0 : Int} {s1 : Int} {s2 : Int} (q_rec226 : ∀ (a0 : Int) (h : MM), 100 ≤ nx h → Lq h (rec226 a0 h)) (h : MM) (z : 100 ≤ nx h) : Lq h (f_X12_settles_289 n rec226 v0 v1 s0 s1 s2 h) := by
  have L_h := Lo.refl z
  delta f_X12_settles_289
  refine Lq.xwt L_h fun h1 L_h1 => ?_
  refine Lq.xgf fun _ => ?_
  refine Lq.xwt L_h1 fun h3 L_h3 => ?_
  exact Lq.tr L_h3 (lo_f_X12_settles_299 q_rec226 _ _ h3 L_h3.1)
theorem lo_f_X12_settles_226b {n : Nat} {rec226 : Int → MM → RR} {v0 : Int} {v1 : Int} (q_rec226 : ∀ (a0 : Int) (h : MM), 100 ≤ nx h → Lq h (rec226 a0 h)) (h : MM) (z : 100 ≤ nx h) : Lq h (f_X12_settles_226b n rec226 v0 v1 h) := by
  have L_h := Lo.refl z
  delta f_X12_settles_226b
  refine Lq.ite ?_ ?_
  exact Lq.tr L_h (lo_f_X12_settles_341 _ _ _ h L_h.1)
  refine Lq.xgf fun _ => ?_
  refine Lq.ite ?_ ?_
  refine Lq.xgf fun _ => ?_
  refine Lq.xrd fun _ => ?_
  refine Lq.ite ?_ ?_
  exact Lq.tr L_h (lo_f_X12_settles_289 q_rec226 h L_h.1)
  refine Lq.xgf fun _ => ?_
  refine Lq.xrd fun _ => ?_
  exact Lq.tr L_h (lo_f_X12_settles_289 q_rec226 h L_h.1)
  refine Lq.xgf fun _ => ?_
  refine Lq.xrd fun _ => ?_
  exact Lq.tr L_h (lo_f_X12_settles_289 q_rec226 h L_h.1)
theorem lo_f_X12_settles_226 {n : Nat} {v0 : Int} : ∀ (k : Nat) (v1 : Int) (h : MM), 100 ≤ nx h → Lq h (f_X12_settles_226 n v0 k v1 h)
  | 0, _, _, _ => Lq.none
  | k + 1, v1, h, z => lo_f_X12_settles_226b (fun b0 h z => lo_f_X12_settles_226 k b0 h z) h z
theorem lo_f_X12_settles_218 {n : Nat} {rec31 : Int → MM → RR} {v0 : Int} {v1 : Int} (q_rec31 : ∀ (a0 : Int) (h : MM), 100 ≤ nx h → Lq h (rec31 a0 h)) (h : MM) (z : 100 ≤ nx h) : Lq h (f_X12_settles_218 n rec31 v0 v1 h) := by
  have L_h := Lo.refl z
  delta f_X12_settles_218
  refine Lq.xlb fun _ => ?_
  exact Lq.tr L_h (q_rec31 _ h L_h.1)
theorem lo_f_X12_settles_141 {n : Nat} {rec31 : Int → MM → RR} {v0 : Int} {v1 : Int} (q_rec31 : ∀ (a0 : Int) (h : MM), 100 ≤ nx h → Lq h (rec31 a0 h)) (h : MM) (z : 100 ≤ nx h) : Lq h (f_X12_settles_141 n rec31 v0 v1 h) := by
  have L_h := Lo.refl z
  delta f_X12_settles_141
  refine Lq.xgf fun _ => ?_
  refine Lq.xrd fun _ => ?_
  refine Lq.ite ?_ ?_
  refine Lq.xgf fun _ => ?_
  refine Lq.xrd fun _ => ?_
  refine Lq.ite ?_ ?_
  refine Lq.xgf fun _ => ?_
  refine Lq.xgf fun _ => ?_
  refine Lq.xrd fun _ => ?_
  refine Lq.xgk ?_
  refine Lq.xbd L_h (lo_f_X12_indexOf h L_h.1) fun _ h10 L_h10 => ?_
  refine Lq.xgf fun _ => ?_
  refine Lq.xrd fun _ => ?_
  refine Lq.xrd fun _ => ?_
  refine Lq.xgf fun _ => ?_
  refine Lq.xrd fun _ => ?_
  refine Lq.xwt L_h10 fun h16 L_h16 => ?_
  exact Lq.tr L_h16 (lo_f_X12_settles_218 q_rec31 h16 L_h16.1)
  exact Lq.tr L_h (lo_f_X12_settles_218 q_rec31 h L_h.1)
  exact Lq.tr L_h (lo_f_X12_settles_218 q_rec31 h L_h.1)
theorem lo_f_X12_settles_85b {n : Nat} {rec31 : Int → MM → RR} {rec85 : Int → MM → RR} {v0 : Int} {v1 : Int} {v2 : Int} {v3 : Int} (q_rec31 : ∀ (a0 : Int) (h : MM), 100 ≤ nx h → Lq h (rec31 a0 h)) (q_rec85 : ∀ (a0 : Int) (h : MM), 100 ≤ nx h → Lq h (rec85 a0 h)) (h : MM) (z : 100 ≤ nx h) : Lq h (f_X12_settles_85b n rec31 rec85 v0 v1 v2 v3 h) := by
  have L_h := Lo.refl z
  delta f_X12_settles_85b
  refine Lq.ite ?_ ?_
  exact Lq.tr L_h (lo_f_X12_settles_141 q_rec31 h L_h.1)
  refine Lq.xgf fun _ => ?_
  refine Lq.xrd fun _ => ?_
  refine Lq.xgf fun _ => ?_
  refine Lq.xrd fun _ => ?_
  refine Lq.xgf fun _ => ?_
  refine Lq.xrd fun _ => ?_
  refine Lq.xwt L_h fun h8 L_h8 => ?_
  refine Lq.xlb fun _ => ?_
  exact Lq.tr L_h8 (q_rec85 _ h8 L_h8.1)
theorem lo_f_X12_settles_85 {n : Nat} {rec31 : Int → MM → RR} {v0 : Int} {v1 : Int} {v2 : Int} (q_rec31 : ∀ (a0 : Int) (h : MM), 100 ≤ nx h → Lq h (rec31 a0 h)) : ∀ (k : Nat) (v3 : Int) (h : MM), 100 ≤ nx h → Lq h (f_X12_settles_85 n rec31 v0 v1 v2 k v3 h)
  | 0, _, _, _ => Lq.none
  | k + 1, v3, h, z => lo_f_X12_settles_85b q_rec31 (fun b0 h z => lo_f_X12_settles_85 q_rec31 k b0 h z) h z
theorem lo_f_X12_settles_31b {n : Nat} {rec31 : Int → MM → RR} {v0 : Int} {v1 : Int} (q_rec31 : ∀ (a0 : Int) (h : MM), 100 ≤ nx h → Lq h (rec31 a0 h)) (h : MM) (z : 100 ≤ nx h) : Lq h (f_X12_settles_31b n rec31 v0 v1 h) := by
  have L_h := Lo.refl z
  delta f_X12_settles_31b
  refine Lq.xgf fun _ => ?_
  refine Lq.xrd fun _ => ?_
  refine Lq.ite ?_ ?_
  exact Lq.tr L_h (lo_f_X12_settles_226 _ _ h L_h.1)
  refine Lq.xgf fun _ => ?_
  refine Lq.xrd fun _ => ?_
  refine Lq.ite ?_ ?_
  refine Lq.xgf fun _ => ?_
  refine Lq.xrd fun _ => ?_
  refine Lq.ite ?_ ?_
  refine Lq.xgf fun _ => ?_
  refine Lq.xrd fun _ => ?_
  refine Lq.xgk ?_
  refine Lq.xbd L_h (lo_f_X12_indexOf h L_h.1) fun _ h12 L_h12 => ?_
  exact Lq.tr L_h12 (lo_f_X12_settles_85 q_rec31 _ _ h12 L_h12.1)
  exact Lq.tr L_h (lo_f_X12_settles_141 q_rec31 h L_h.1)
  exact Lq.tr L_h (lo_f_X12_settles_141 q_rec31 h L_h.1)
theorem lo_f_X12_settles_31 {n : Nat} {v0 : Int} : ∀ (k : Nat) (v1 : Int) (h : MM), 100 ≤ nx h → Lq h (f_X12_settles_31 n v0 k v1 h)
  | 0, _, _, _ => Lq.none
  | k + 1, v1, h, z => lo_f_X12_settles_31b (fun b0 h z => lo_f_X12_settles_31 k b0 h z) h z
theorem lo_f_X12_settles_2b {n : Nat} {rec2 : Int → MM → RR} {v0 : Int} {v1 : Int} (q_rec2 : ∀ (a0 : Int) (h : MM), 100 ≤ nx h → Lq h (rec2 a0 h)) (h : MM) (z : 100 ≤ nx h) : Lq h (f_X12_settles_2b n rec2 v0 v1 h) := by
  have L_h := Lo.refl z
  delta f_X12_settles_2b
  refine Lq.ite ?_ ?_
  exact Lq.tr L_h (lo_f_X12_settles_31 _ _ h L_h.1)
  refine Lq.xgf fun _ => ?_
  refine Lq.xwt L_h fun h3 L_h3 => ?_
  refine Lq.xgf fun _ => ?_
  refine Lq.xwt L_h3 fun h5 L_h5 => ?_
  refine Lq.xlb fun _ => ?_
  exact Lq.tr L_h5 (q_rec2 _ h5 L_h5.1)
theorem lo_f_X12_settles_2 {n : Nat} {v0 : Int} : ∀ (k : Nat) (v1 : Int) (h : MM), 100 ≤ nx h → Lq h (f_X12_settles_2 n v0 k v1 h)
  | 0, _, _, _ => Lq.none
  | k + 1, v1, h, z => lo_f_X12_settles_2b (fun b0 h z => lo_f_X12_settles_2 k b0 h z) h z
theorem lo_f_X12_settles {n : Nat} {v0 : Int} (h : MM) (z : 100 ≤ nx h) : Lq h (f_X12_settles n v0 h) := by
  have L_h := Lo.refl z
  delta f_X12_settles
  exact Lq.tr L_h (lo_f_X12_settles_2 _ _ h L_h.1)
theorem lo_f_X12_pays_5b {n : Nat} {rec5 : Int → Int → MM → RR} {v0 : Int} {v1 : Int} {v2 : Int} {v4 : Int} (q_rec5 : ∀ (a0 a1 : Int) (h : MM), 100 ≤ nx h → Lq h (rec5 a0 a1 h)) (h : MM) (z : 100 ≤ nx h) : Lq h (f_X12_pays_5b n rec5 v0 v1 v2 v4 h) := by
  have L_h := Lo.refl z
  delta f_X12_pays_5b
  refine Lq.ite ?_ ?_
  exact Lq.some L_h
  refine Lq.xgf fun _ => ?_
  refine Lq.xrd fun _ => ?_
  refine Lq.xlb fun _ => ?_
  refine Lq.xlb fun _ => ?_
  exact Lq.tr L_h (q_rec5 _ _ h L_h.1)
theorem lo_f_X12_pays_5 {n : Nat} {v0 : Int} {v1 : Int} : ∀ (k : Nat) (v2 v4 : Int) (h : MM), 100 ≤ nx h → Lq h (f_X12_pays_5 n v0 v1 k v2 v4 h)
  | 0, _, _, _, _ => Lq.none
  | k + 1, v2, v4, h, z => lo_f_X12_pays_5b (fun b0 b1 h z => lo_f_X12_pays_5 k b0 b1 h z) h z
theorem lo_f_X12_pays {n : Nat} {v0 : Int} {v1 : Int} (h : MM) (z : 100 ≤ nx h) : Lq h (f_X12_pays n v0 v1 h) := by
  have L_h := Lo.refl z
  delta f_X12_pays
  exact Lq.tr L_h (lo_f_X12_pays_5 _ _ _ h L_h.1)
theorem lo_f_X12_along_31 {n : Nat} (h : MM) (z : 100 ≤ nx h) : Lq h (f_X12_along_31 n h) := by
  have L_h := Lo.refl z
  delta f_X12_along_31
  exact Lq.some L_h
theorem lo_f_X12_along_54 {n : Nat} {s0 : Int} {s1 : Int} (h : MM) (z : 100 ≤ nx h) : Lq h (f_X12_along_54 n s0 s1 h) := by
  have L_h := Lo.refl z
  delta f_X12_along_54
  refine Lq.xgk ?_
  refine Lq.xbd L_h (lo_f_X12_pays h L_h.1) fun _ h1 L_h1 => ?_
  exact Lq.some L_h1
theorem lo_f_X12_along_33 {n : Nat} {v0 : Int} {v1 : Int} {v2 : Int} (h : MM) (z : 100 ≤ nx h) : Lq h (f_X12_along_33 n v0 v1 v2 h) := by
  have L_h := Lo.refl z
  delta f_X12_along_33
  refine Lq.xgk ?_
  refine Lq.xbd L_h (lo_f_X12_settles h L_h.1) fun _ h1 L_h1 => ?_
  refine Lq.ite ?_ ?_
  exact Lq.tr L_h1 (lo_f_X12_along_54 h1 L_h1.1)
  refine Lq.xgk ?_
  refine Lq.xbd L_h1 (lo_f_X12_indexOf h1 L_h1.1) fun _ h3 L_h3 => ?_
  exact Lq.tr L_h3 (lo_f_X12_along_54 h3 L_h3.1)
theorem lo_f_X12_along {n : Nat} {v0 : Int} {v1 : Int} {v2 : Int} (h : MM) (z : 100 ≤ nx h) : Lq h (f_X12_along n v0 v1 v2 h) := by
  have L_h := Lo.refl z
  delta f_X12_along
  refine Lq.xbd L_h (lo_f_X12_in h L_h.1) fun _ h1 L_h1 => ?_
  refine Lq.ite ?_ ?_
  exact Lq.tr L_h1 (lo_f_X12_along_31 h1 L_h1.1)
  refine Lq.ite ?_ ?_
  refine Lq.xbd L_h1 (lo_f_X12_isHolder h1 L_h1.1) fun _ h6 L_h6 => ?_
  refine Lq.ite ?_ ?_
  exact Lq.tr L_h6 (lo_f_X12_along_31 h6 L_h6.1)
  exact Lq.tr L_h6 (lo_f_X12_along_33 h6 L_h6.1)
  refine Lq.xgk ?_
  refine Lq.xbd L_h1 (lo_f_X12_isScheme h1 L_h1.1) fun _ h4 L_h4 => ?_
  refine Lq.ite ?_ ?_
  exact Lq.tr L_h4 (lo_f_X12_along_31 h4 L_h4.1)
  exact Lq.tr L_h4 (lo_f_X12_along_33 h4 L_h4.1)
theorem lo_f_X12_settle_370 {n : Nat} {rec235 : Int → MM → RR} {v0 : Int} {v1 : Int} {v2 : Int} (q_rec235 : ∀ (a0 : Int) (h : MM), 100 ≤ nx h → Lq h (rec235 a0 h)) (h : MM) (z : 100 ≤ nx h) : Lq h (f_X12_settle_370 n rec235 v0 v1 v2 h) := by
  have L_h := Lo.refl z
  delta f_X12_settle_370
  refine Lq.xlb fun _ => ?_
  exact Lq.tr L_h (q_rec235 _ h L_h.1)
theorem lo_f_X12_settle_332 {n : Nat} {rec235 : Int → MM → RR} {rec248 : Int → MM → RR} {v0 : Int} {v1 : Int} {v2 : Int} {v3 : Int} (q_rec235 : ∀ (a0 : Int) (h : MM), 100 ≤ nx h → Lq h (rec235 a0 h)) (q_rec248 : ∀ (a0 : Int) (h : MM), 100 ≤ nx h → Lq h (rec248 a0 h)) (h : MM) (z : 100 ≤ nx h) : Lq h (f_X12_settle_332 n rec235 rec248 v0 v1 v2 v3 h) := by
  have L_h := Lo.refl z
  delta f_X12_settle_332
  refine Lq.xlb fun _ => ?_
  exact Lq.tr L_h (q_rec248 _ h L_h.1)
theorem lo_f_X12_settle_248b {n : Nat} {rec235 : Int → MM → RR} {rec248 : Int → MM → RR} {v0 : Int} {v1 : Int} {v2 : Int} {v3 : Int} (q_rec235 : ∀ (a0 : Int) (h : MM), 100 ≤ nx h → Lq h (rec235 a0 h)) (q_rec248 : ∀ (a0 : Int) (h : MM), 100 ≤ nx h → Lq h (rec248 a0 h)) (h : MM) (z : 100 ≤ nx h) : Lq h (f_X12_settle_248b n rec235 rec248 v0 v1 v2 v3 h) := by
  have L_h := Lo.refl z
  delta f_X12_settle_248b
  refine Lq.ite ?_ ?_
  refine Lq.ite ?_ ?_
  refine Lq.xgf fun _ => ?_
  refine Lq.xgf fun _ => ?_
  refine Lq.xrd fun _ => ?_
  refine Lq.xwt L_h fun h6 L_h6 => ?_
  exact Lq.tr L_h6 (lo_f_X12_settle_370 q_rec235 h6 L_h6.1)
  exact Lq.tr L_h (lo_f_X12_settle_370 q_rec235 h L_h.1)
  refine Lq.ite ?_ ?_
  refine Lq.xgf fun _ => ?_
  refine Lq.xrd fun _ => ?_
  refine Lq.ite ?_ ?_
  exact Lq.tr L_h (lo_f_X12_settle_332 q_rec235 q_rec248 h L_h.1)
  refine Lq.xgf fun _ => ?_
  refine Lq.xrd fun _ => ?_
  refine Lq.xgf fun _ => ?_
  refine Lq.xrd fun _ => ?_
  refine Lq.xwt L_h fun h15 L_h15 => ?_
  refine Lq.xgf fun _ => ?_
  refine Lq.xwt L_h15 fun h17 L_h17 => ?_
  exact Lq.tr L_h17 (lo_f_X12_settle_332 q_rec235 q_rec248 h17 L_h17.1)
  exact Lq.tr L_h (lo_f_X12_settle_332 q_rec235 q_rec248 h L_h.1)
theorem lo_f_X12_settle_248 {n : Nat} {rec235 : Int → MM → RR} {v0 : Int} {v1 : Int} {v2 : Int} (q_rec235 : ∀ (a0 : Int) (h : MM), 100 ≤ nx h → Lq h (rec235 a0 h)) : ∀ (k : Nat) (v3 : Int) (h : MM), 100 ≤ nx h → Lq h (f_X12_settle_248 n rec235 v0 v1 v2 k v3 h)
  | 0, _, _, _ => Lq.none
  | k + 1, v3, h, z => lo_f_X12_settle_248b q_rec235 (fun b0 h z => lo_f_X12_settle_248 q_rec235 k b0 h z) h z
theorem lo_f_X12_settle_235b {n : Nat} {rec235 : Int → MM → RR} {v0 : Int} {v1 : Int} {v2 : Int} (q_rec235 : ∀ (a0 : Int) (h : MM), 100 ≤ nx h → Lq h (rec235 a0 h)) (h : MM) (z : 100 ≤ nx h) : Lq h (f_X12_settle_235b n rec235 v0 v1 v2 h) := by
  have L_h := Lo.refl z
  delta f_X12_settle_235b
  refine Lq.xgf fun _ => ?_
  refine Lq.xrd fun _ => ?_
  refine Lq.ite ?_ ?_
  exact Lq.some L_h
  exact Lq.tr L_h (lo_f_X12_settle_248 q_rec235 _ _ h L_h.1)
theorem lo_f_X12_settle_235 {n : Nat} {v0 : Int} {v1 : Int} : ∀ (k : Nat) (v2 : Int) (h : MM), 100 ≤ nx h → Lq h (f_X12_settle_235 n v0 v1 k v2 h)
  | 0, _, _, _ => Lq.none
  | k + 1, v2, h, z => lo_f_X12_settle_235b (fun b0 h z => lo_f_X12_settle_235 k b0 h z) h z
theorem lo_f_X12_settle_226 {n : Nat} {rec155 : Int → MM → RR} {v0 : Int} {v1 : Int} {v2 : Int} {s0 : Int} {s1 : Int} {s2 : Int} (q_rec155 : ∀ (a0 : Int) (h : MM), 100 ≤ nx h → Lq h (rec155 a0 h)) (h : MM) (z : 100 ≤ nx h) : Lq h (f_X12_settle_226 n rec155 v0 v1 v2 s0 s1 s2 h) := by
  have L_h := Lo.refl z
  delta f_X12_settle_226
  refine Lq.xwt L_h fun h1 L_h1 => ?_
  refine Lq.xlb fun _ => ?_
  exact Lq.tr L_h1 (q_rec155 _ h1 L_h1.1)
theorem lo_f_X12_settle_198 {n : Nat} {rec155 : Int → MM → RR} {v0 : Int} {v1 : Int} {v2 : Int} {s0 : Int} (q_rec155 : ∀ (a0 : Int) (h : MM), 100 ≤ nx h → Lq h (rec155 a0 h)) (h : MM) (z : 100 ≤ nx h) : Lq h (f_X12_settle_198 n rec155 v0 v1 v2 s0 h) := by
  have L_h := Lo.refl z
  delta f_X12_settle_198
  refine Lq.xgf fun _ => ?_
  refine Lq.ite ?_ ?_
  refine Lq.xgf fun _ => ?_
  refine Lq.xrd fun _ => ?_
  exact Lq.tr L_h (lo_f_X12_settle_226 q_rec155 h L_h.1)
  exact Lq.tr L_h (lo_f_X12_settle_226 q_rec155 h L_h.1)
theorem lo_f_X12_settle_193 {n : Nat} {rec155 : Int → MM → RR} {v0 : Int} {v1 : Int} {v2 : Int} (q_rec155 : ∀ (a0 : Int) (h : MM), 100 ≤ nx h → Lq h (rec155 a0 h)) (h : MM) (z : 100 ≤ nx h) : Lq h (f_X12_settle_193 n rec155 v0 v1 v2 h) := by
  have L_h := Lo.refl z
  delta f_X12_settle_193
  exact Lq.tr L_h (lo_f_X12_settle_198 q_rec155 h L_h.1)
theorem lo_f_X12_settle_155b {n : Nat} {rec155 : Int → MM → RR} {v0 : Int} {v1 : Int} {v2 : Int} (q_rec155 : ∀ (a0 : Int) (h : MM), 100 ≤ nx h → Lq h (rec155 a0 h)) (h : MM) (z : 100 ≤ nx h) : Lq h (f_X12_settle_155b n rec155 v0 v1 v2 h) := by
  have L_h := Lo.refl z
  delta f_X12_settle_155b
  refine Lq.xgf fun _ => ?_
  refine Lq.xrd fun _ => ?_
  refine Lq.ite ?_ ?_
  exact Lq.tr L_h (lo_f_X12_settle_235 _ _ h L_h.1)
  refine Lq.xgf fun _ => ?_
  refine Lq.xrd fun _ => ?_
  refine Lq.ite ?_ ?_
  exact Lq.tr L_h (lo_f_X12_settle_193 q_rec155 h L_h.1)
  refine Lq.xgf fun _ => ?_
  refine Lq.xrd fun _ => ?_
  refine Lq.ite ?_ ?_
  exact Lq.tr L_h (lo_f_X12_settle_193 q_rec155 h L_h.1)
  exact Lq.tr L_h (lo_f_X12_settle_198 q_rec155 h L_h.1)
theorem lo_f_X12_settle_155 {n : Nat} {v0 : Int} {v1 : Int} : ∀ (k : Nat) (v2 : Int) (h : MM), 100 ≤ nx h → Lq h (f_X12_settle_155 n v0 v1 k v2 h)
  | 0, _, _, _ => Lq.none
  | k + 1, v2, h, z => lo_f_X12_settle_155b (fun b0 h z => lo_f_X12_settle_155 k b0 h z) h z
theorem lo_f_X12_settle_147 {n : Nat} {rec47 : Int → MM → RR} {v0 : Int} {v1 : Int} {v2 : Int} (q_rec47 : ∀ (a0 : Int) (h : MM), 100 ≤ nx h → Lq h (rec47 a0 h)) (h : MM) (z : 100 ≤ nx h) : Lq h (f_X12_settle_147 n rec47 v0 v1 v2 h) := by
  have L_h := Lo.refl z
  delta f_X12_settle_147
  refine Lq.xlb fun _ => ?_
  exact Lq.tr L_h (q_rec47 _ h L_h.1)
theorem lo_f_X12_settle_69b {n : Nat} {rec47 : Int → MM → RR} {rec69 : Int → Int → MM → RR} {v0 : Int} {v1 : Int} {v2 : Int} {v3 : Int} {v5 : Int} (q_rec47 : ∀ (a0 : Int) (h : MM), 100 ≤ nx h → Lq h (rec47 a0 h)) (q_rec69 : ∀ (a0 a1 : Int) (h : MM), 100 ≤ nx h → Lq h (rec69 a0 a1 h)) (h : MM) (z : 100 ≤ nx h) : Lq h (f_X12_settle_69b n rec47 rec69 v0 v1 v2 v3 v5 h) := by
  have L_h := Lo.refl z
  delta f_X12_settle_69b
  refine Lq.ite ?_ ?_
  refine Lq.ite ?_ ?_
  refine Lq.xgf fun _ => ?_
  refine Lq.xrd fun _ => ?_
  refine Lq.ite ?_ ?_
  exact Lq.tr L_h (lo_f_X12_settle_147 q_rec47 h L_h.1)
  refine Lq.xgf fun _ => ?_
  refine Lq.xwt L_h fun h7 L_h7 => ?_
  exact Lq.tr L_h7 (lo_f_X12_settle_147 q_rec47 h7 L_h7.1)
  refine Lq.xgf fun _ => ?_
  refine Lq.xwt L_h fun h9 L_h9 => ?_
  exact Lq.tr L_h9 (lo_f_X12_settle_147 q_rec47 h9 L_h9.1)
  refine Lq.xgf fun _ => ?_
  refine Lq.xrd fun _ => ?_
  refine Lq.xlb fun _ => ?_
  refine Lq.xlb fun _ => ?_
  exact Lq.tr L_h (q_rec69 _ _ h L_h.1)
theorem lo_f_X12_settle_69 {n : Nat} {rec47 : Int → MM → RR} {v0 : Int} {v1 : Int} {v2 : Int} (q_rec47 : ∀ (a0 : Int) (h : MM), 100 ≤ nx h → Lq h (rec47 a0 h)) : ∀ (k : Nat) (v3 v5 : Int) (h : MM), 100 ≤ nx h → Lq h (f_X12_settle_69 n rec47 v0 v1 v2 k v3 v5 h)
  | 0, _, _, _, _ => Lq.none
  | k + 1, v3, v5, h, z => lo_f_X12_settle_69b q_rec47 (fun b0 b1 h z => lo_f_X12_settle_69 q_rec47 k b0 b1 h z) h z
theorem lo_f_X12_settle_47b {n : Nat} {rec47 : Int → MM → RR} {v0 : Int} {v1 : Int} {v2 : Int} (q_rec47 : ∀ (a0 : Int) (h : MM), 100 ≤ nx h → Lq h (rec47 a0 h)) (h : MM) (z : 100 ≤ nx h) : Lq h (f_X12_settle_47b n rec47 v0 v1 v2 h) := by
  have L_h := Lo.refl z
  delta f_X12_settle_47b
  refine Lq.ite ?_ ?_
  exact Lq.tr L_h (lo_f_X12_settle_155 _ _ h L_h.1)
  refine Lq.xgf fun _ => ?_
  refine Lq.xrd fun _ => ?_
  refine Lq.xgk ?_
  refine Lq.xbd L_h (lo_f_X12_pays h L_h.1) fun _ h4 L_h4 => ?_
  refine Lq.xlb fun _ => ?_
  exact Lq.tr L_h4 (lo_f_X12_settle_69 q_rec47 _ _ _ h4 L_h4.1)
theorem lo_f_X12_settle_47 {n : Nat} {v0 : Int} {v1 : Int} : ∀ (k : Nat) (v2 : Int) (h : MM), 100 ≤ nx h → Lq h (f_X12_settle_47 n v0 v1 k v2 h)
  | 0, _, _, _ => Lq.none
  | k + 1, v2, h, z => lo_f_X12_settle_47b (fun b0 h z => lo_f_X12_settle_47 k b0 h z) h z
theorem lo_f_X12_settle_37 {n : Nat} {rec8 : Int → Int → MM → RR} {v0 : Int} {v2 : Int} {s0 : Int} {s1 : Int} (q_rec8 : ∀ (a0 a1 : Int) (h : MM), 100 ≤ nx h → Lq h (rec8 a0 a1 h)) (h : MM) (z : 100 ≤ nx h) : Lq h (f_X12_settle_37 n rec8 v0 v2 s0 s1 h) := by
  have L_h := Lo.refl z
  delta f_X12_settle_37
  refine Lq.xlb fun _ => ?_
  refine Lq.xlb fun _ => ?_
  exact Lq.tr L_h (q_rec8 _ _ h L_h.1)
theorem lo_f_X12_settle_8b {n : Nat} {rec8 : Int → Int → MM → RR} {v0 : Int} {v1 : Int} {v2 : Int} (q_rec8 : ∀ (a0 a1 : Int) (h : MM), 100 ≤ nx h → Lq h (rec8 a0 a1 h)) (h : MM) (z : 100 ≤ nx h) : Lq h (f_X12_settle_8b n rec8 v0 v1 v2 h) := by
  have L_h := Lo.refl z
  delta f_X12_settle_8b
  refine Lq.ite ?_ ?_
  exact Lq.tr L_h (lo_f_X12_settle_47 _ _ h L_h.1)
  refine Lq.xgk ?_
  refine Lq.xbd L_h (lo_f_X12_pays h L_h.1) fun _ h2 L_h2 => ?_
  refine Lq.xgf fun _ => ?_
  refine Lq.xrd fun _ => ?_
  refine Lq.ite ?_ ?_
  exact Lq.tr L_h2 (lo_f_X12_settle_37 q_rec8 h2 L_h2.1)
  exact Lq.tr L_h2 (lo_f_X12_settle_37 q_rec8 h2 L_h2.1)
theorem lo_f_X12_settle_8 {n : Nat} {v0 : Int} : ∀ (k : Nat) (v1 v2 : Int) (h : MM), 100 ≤ nx h → Lq h (f_X12_settle_8 n v0 k v1 v2 h)
  | 0, _, _, _, _ => Lq.none
  | k + 1, v1, v2, h, z => lo_f_X12_settle_8b (fun b0 b1 h z => lo_f_X12_settle_8 k b0 b1 h z) h z
theorem lo_f_X12_settle {n : Nat} {v0 : Int} (h : MM) (z : 100 ≤ nx h) : Lq h (f_X12_settle n v0 h) := by
  have L_h := Lo.refl z
  delta f_X12_settle
  refine Lq.xgk ?_
  refine Lq.xbd L_h (lo_f_X12_settles h L_h.1) fun _ h1 L_h1 => ?_
  exact Lq.tr L_h1 (lo_f_X12_settle_8 _ _ _ h1 L_h1.1)
theorem lo_f_X12_schemeOf {n : Nat} {v0 : Int} {v1 : Int} (h : MM) (z : 100 ≤ nx h) : Lq h (f_X12_schemeOf n v0 v1 h) := by
  have L_h := Lo.refl z
  delta f_X12_schemeOf
  refine Lq.xgf fun _ => ?_
  refine Lq.xgf fun _ => ?_
  refine Lq.xrd fun _ => ?_
  refine Lq.xrd fun _ => ?_
  exact Lq.some L_h
theorem lo_f_X12_digs_323 {n : Nat} {rec270 : Int → MM → RR} {v0 : Int} {v1 : Int} {v3 : Int} {s0 : Int} {s1 : Int} {s2 : Int} (q_rec270 : ∀ (a0 : Int) (h : MM), 100 ≤ nx h → Lq h (rec270 a0 h)) (h : MM) (z : 100 ≤ nx h) : Lq h (f_X12_digs_323 n rec270 v0 v1 v3 s0 s1 s2 h) := by
  have L_h := Lo.refl z
  delta f_X12_digs_323
  refine Lq.xwt L_h fun h1 L_h1 => ?_
  refine Lq.xlb fun _ => ?_
  exact Lq.tr L_h1 (q_rec270 _ h1 L_h1.1)
theorem lo_f_X12_digs_322 {n : Nat} {rec270 : Int → MM → RR} {v0 : Int} {v1 : Int} {v3 : Int} {s0 : Int} {s1 : Int} (q_rec270 : ∀ (a0 : Int) (h : MM), 100 ≤ nx h → Lq h (rec270 a0 h)) (h : MM) (z : 100 ≤ nx h) : Lq h (f_X12_digs_322 n rec270 v0 v1 v3 s0 s1 h) := by
  have L_h := Lo.refl z
  delta f_X12_digs_322
  exact Lq.tr L_h (lo_f_X12_digs_323 q_rec270 h L_h.1)
theorem lo_f_X12_digs_270b {n : Nat} {rec270 : Int → MM → RR} {v0 : Int} {v1 : Int} {v3 : Int} (q_rec270 : ∀ (a0 : Int) (h : MM), 100 ≤ nx h → Lq h (rec270 a0 h)) (h : MM) (z : 100 ≤ nx h) : Lq h (f_X12_digs_270b n rec270 v0 v1 v3 h) := by
  have L_h := Lo.refl z
  delta f_X12_digs_270b
  refine Lq.ite ?_ ?_
  refine Lq.xgf fun _ => ?_
  refine Lq.xrd fun _ => ?_
  refine Lq.xwt L_h fun h4 L_h4 => ?_
  exact Lq.some L_h4
  refine Lq.xgf fun _ => ?_
  refine Lq.xgf fun _ => ?_
  refine Lq.xrd fun _ => ?_
  refine Lq.ite ?_ ?_
  exact Lq.tr L_h (lo_f_X12_digs_322 q_rec270 h L_h.1)
  refine Lq.xgk ?_
  refine Lq.xbd L_h (lo_f_X12_isGranted h L_h.1) fun _ h9 L_h9 => ?_
  refine Lq.ite ?_ ?_
  exact Lq.tr L_h9 (lo_f_X12_digs_322 q_rec270 h9 L_h9.1)
  refine Lq.xgf fun _ => ?_
  refine Lq.xrd fun _ => ?_
  exact Lq.tr L_h9 (lo_f_X12_digs_323 q_rec270 h9 L_h9.1)
theorem lo_f_X12_digs_270 {n : Nat} {v0 : Int} {v1 : Int} : ∀ (k : Nat) (v3 : Int) (h : MM), 100 ≤ nx h → Lq h (f_X12_digs_270 n v0 v1 k v3 h)
  | 0, _, _, _ => Lq.none
  | k + 1, v3, h, z => lo_f_X12_digs_270b (fun b0 h z => lo_f_X12_digs_270 k b0 h z) h z
theorem lo_f_X12_digs_261 {n : Nat} {rec215 : Int → MM → RR} {v0 : Int} {v1 : Int} {v3 : Int} {s0 : Int} {s1 : Int} {s2 : Int} (q_rec215 : ∀ (a0 : Int) (h : MM), 100 ≤ nx h → Lq h (rec215 a0 h)) (h : MM) (z : 100 ≤ nx h) : Lq h (f_X12_digs_261 n rec215 v0 v1 v3 s0 s1 s2 h) := by
  have L_h := Lo.refl z
  delta f_X12_digs_261
  refine Lq.xwt L_h fun h1 L_h1 => ?_
  refine Lq.xlb fun _ => ?_
  exact Lq.tr L_h1 (q_rec215 _ h1 L_h1.1)
theorem lo_f_X12_digs_215b {n : Nat} {rec215 : Int → MM → RR} {v0 : Int} {v1 : Int} {v3 : Int} (q_rec215 : ∀ (a0 : Int) (h : MM), 100 ≤ nx h → Lq h (rec215 a0 h)) (h : MM) (z : 100 ≤ nx h) : Lq h (f_X12_digs_215b n rec215 v0 v1 v3 h) := by
  have L_h := Lo.refl z
  delta f_X12_digs_215b
  refine Lq.ite ?_ ?_
  exact Lq.tr L_h (lo_f_X12_digs_270 _ _ h L_h.1)
  refine Lq.xgf fun _ => ?_
  refine Lq.xgf fun _ => ?_
  refine Lq.xrd fun _ => ?_
  refine Lq.ite ?_ ?_
  exact Lq.tr L_h (lo_f_X12_digs_261 q_rec215 h L_h.1)
  refine Lq.xgf fun _ => ?_
  refine Lq.xrd fun _ => ?_
  exact Lq.tr L_h (lo_f_X12_digs_261 q_rec215 h L_h.1)
theorem lo_f_X12_digs_215 {n : Nat} {v0 : Int} {v1 : Int} : ∀ (k : Nat) (v3 : Int) (h : MM), 100 ≤ nx h → Lq h (f_X12_digs_215 n v0 v1 k v3 h)
  | 0, _, _, _ => Lq.none
  | k + 1, v3, h, z => lo_f_X12_digs_215b (fun b0 h z => lo_f_X12_digs_215 k b0 h z) h z
theorem lo_f_X12_digs_207 {n : Nat} {rec18 : Int → Int → MM → RR} {v0 : Int} {v1 : Int} {v2 : Int} {v3 : Int} (q_rec18 : ∀ (a0 a1 : Int) (h : MM), 100 ≤ nx h → Lq h (rec18 a0 a1 h)) (h : MM) (z : 100 ≤ nx h) : Lq h (f_X12_digs_207 n rec18 v0 v1 v2 v3 h) := by
  have L_h := Lo.refl z
  delta f_X12_digs_207
  refine Lq.xlb fun _ => ?_
  exact Lq.tr L_h (q_rec18 _ _ h L_h.1)
theorem lo_f_X12_digs_206 {n : Nat} {rec18 : Int → Int → MM → RR} {v0 : Int} {v1 : Int} {v2 : Int} {v3 : Int} {s0 : Int} {s1 : Int} {s2 : Int} (q_rec18 : ∀ (a0 a1 : Int) (h : MM), 100 ≤ nx h → Lq h (rec18 a0 a1 h)) (h : MM) (z : 100 ≤ nx h) : Lq h (f_X12_digs_206 n rec18 v0 v1 v2 v3 s0 s1 s2 h) := by
  have L_h := Lo.refl z
  delta f_X12_digs_206
  refine Lq.xwt L_h fun h1 L_h1 => ?_
  exact Lq.tr L_h1 (lo_f_X12_digs_207 q_rec18 h1 L_h1.1)
theorem lo_f_X12_digs_134 {n : Nat} {rec18 : Int → Int → MM → RR} {v0 : Int} {v1 : Int} {v2 : Int} {v3 : Int} {v4 : Int} {s0 : Int} (q_rec18 : ∀ (a0 a1 : Int) (h : MM), 100 ≤ nx h → Lq h (rec18 a0 a1 h)) (h : MM) (z : 100 ≤ nx h) : Lq h (f_X12_digs_134 n rec18 v0 v1 v2 v3 v4 s0 h) := by
  have L_h := Lo.refl z
  delta f_X12_digs_134
  refine Lq.xlb fun _ => ?_
  refine Lq.xgf fun _ => ?_
  refine Lq.xrd fun _ => ?_
  refine Lq.xwt L_h fun h4 L_h4 => ?_
  refine Lq.xgf fun _ => ?_
  refine Lq.xrd fun _ => ?_
  refine Lq.xwt L_h4 fun h7 L_h7 => ?_
  refine Lq.xgf fun _ => ?_
  refine Lq.xgf fun _ => ?_
  refine Lq.xrd fun _ => ?_
  refine Lq.ite ?_ ?_
  exact Lq.tr L_h7 (lo_f_X12_digs_206 q_rec18 h7 L_h7.1)
  refine Lq.xgf fun _ => ?_
  refine Lq.xrd fun _ => ?_
  exact Lq.tr L_h7 (lo_f_X12_digs_206 q_rec18 h7 L_h7.1)
theorem lo_f_X12_digs_104 {n : Nat} {rec18 : Int → Int → MM → RR} {v0 : Int} {v1 : Int} {v2 : Int} {v3 : Int} {v4 : Int} {s0 : Int} (q_rec18 : ∀ (a0 a1 : Int) (h : MM), 100 ≤ nx h → Lq h (rec18 a0 a1 h)) (h : MM) (z : 100 ≤ nx h) : Lq h (f_X12_digs_104 n rec18 v0 v1 v2 v3 v4 s0 h) := by
  have L_h := Lo.refl z
  delta f_X12_digs_104
  refine Lq.xgf fun _ => ?_
  refine Lq.xrd fun _ => ?_
  refine Lq.ite ?_ ?_
  exact Lq.tr L_h (lo_f_X12_digs_134 q_rec18 h L_h.1)
  refine Lq.xgf fun _ => ?_
  refine Lq.xrd fun _ => ?_
  exact Lq.tr L_h (lo_f_X12_digs_134 q_rec18 h L_h.1)
theorem lo_f_X12_digs_18b {n : Nat} {rec18 : Int → Int → MM → RR} {v0 : Int} {v1 : Int} {v2 : Int} {v3 : Int} (q_rec18 : ∀ (a0 a1 : Int) (h : MM), 100 ≤ nx h → Lq h (rec18 a0 a1 h)) (h : MM) (z : 100 ≤ nx h) : Lq h (f_X12_digs_18b n rec18 v0 v1 v2 v3 h) := by
  have L_h := Lo.refl z
  delta f_X12_digs_18b
  refine Lq.xgf fun _ => ?_
  refine Lq.xrd fun _ => ?_
  refine Lq.ite ?_ ?_
  exact Lq.tr L_h (lo_f_X12_digs_215 _ _ h L_h.1)
  refine Lq.xgk ?_
  refine Lq.xbd L_h (lo_f_X12_isGranted h L_h.1) fun _ h4 L_h4 => ?_
  refine Lq.ite ?_ ?_
  exact Lq.tr L_h4 (lo_f_X12_digs_207 q_rec18 h4 L_h4.1)
  refine Lq.xgf fun _ => ?_
  refine Lq.xrd fun _ => ?_
  refine Lq.ite ?_ ?_
  exact Lq.tr L_h4 (lo_f_X12_digs_207 q_rec18 h4 L_h4.1)
  refine Lq.xgk ?_
  refine Lq.xbd L_h4 (lo_f_X12_schemeOf h4 L_h4.1) fun _ h9 L_h9 => ?_
  refine Lq.xgk ?_
  refine Lq.xbd L_h9 (lo_f_X12_isFallen h9 L_h9.1) fun _ h10 L_h10 => ?_
  refine Lq.ite ?_ ?_
  refine Lq.xgk ?_
  refine Lq.xbd L_h10 (lo_f_X12_schemeOf h10 L_h10.1) fun _ h12 L_h12 => ?_
  refine Lq.xgk ?_
  refine Lq.xbd L_h12 (lo_f_X12_indexOf h12 L_h12.1) fun _ h13 L_h13 => ?_
  refine Lq.xlb fun _ => ?_
  refine Lq.xgf fun _ => ?_
  refine Lq.xrd fun _ => ?_
  refine Lq.ite ?_ ?_
  exact Lq.tr L_h13 (lo_f_X12_digs_104 q_rec18 h13 L_h13.1)
  refine Lq.xgf fun _ => ?_
  refine Lq.xrd fun _ => ?_
  exact Lq.tr L_h13 (lo_f_X12_digs_104 q_rec18 h13 L_h13.1)
  exact Lq.tr L_h10 (lo_f_X12_digs_207 q_rec18 h10 L_h10.1)
theorem lo_f_X12_digs_18 {n : Nat} {v0 : Int} {v1 : Int} : ∀ (k : Nat) (v2 v3 : Int) (h : MM), 100 ≤ nx h → Lq h (f_X12_digs_18 n v0 v1 k v2 v3 h)
  | 0, _, _, _, _ => Lq.none
  | k + 1, v2, v3, h, z => lo_f_X12_digs_18b (fun b0 b1 h z => lo_f_X12_digs_18 k b0 b1 h z) h z
theorem lo_f_X12_digs {n : Nat} {v0 : Int} (h : MM) (z : 100 ≤ nx h) : Lq h (f_X12_digs n v0 h) := by
  have L_h := Lo.refl z
  delta f_X12_digs
  refine Lq.xgf fun _ => ?_
  refine Lq.xrd fun _ => ?_
  refine Lq.xgf fun _ => ?_
  refine Lq.xrd fun _ => ?_
  refine Lq.xlb fun _ => ?_
  exact Lq.tr L_h (lo_f_X12_digs_18 _ _ _ h L_h.1)
theorem lo_f_X12_dig_24 {n : Nat} (h : MM) (z : 100 ≤ nx h) : Lq h (f_X12_dig_24 n h) := by
  have L_h := Lo.refl z
  delta f_X12_dig_24
  exact Lq.some L_h
theorem lo_f_X12_dig_29b {n : Nat} {rec29 : Int → MM → RR} {v0 : Int} {v1 : Int} {v2 : Int} (q_rec29 : ∀ (a0 : Int) (h : MM), 100 ≤ nx h → Lq h (rec29 a0 h)) (h : MM) (z : 100 ≤ nx h) : Lq h (f_X12_dig_29b n rec29 v0 v1 v2 h) := by
  have L_h := Lo.refl z
  delta f_X12_dig_29b
  refine Lq.ite ?_ ?_
  refine Lq.xgf fun _ => ?_
  refine Lq.xrd fun _ => ?_
  exact Lq.some L_h
  refine Lq.xgk ?_
  refine Lq.xbd L_h (lo_f_X12_digs h L_h.1) fun _ h4 L_h4 => ?_
  refine Lq.xlb fun _ => ?_
  exact Lq.tr L_h4 (q_rec29 _ h4 L_h4.1)
theorem lo_f_X12_dig_29 {n : Nat} {v0 : Int} {v1 : Int} : ∀ (k : Nat) (v2 : Int) (h : MM), 100 ≤ nx h → Lq h (f_X12_dig_29 n v0 v1 k v2 h)
  | 0, _, _, _ => Lq.none
  | k + 1, v2, h, z => lo_f_X12_dig_29b (fun b0 h z => lo_f_X12_dig_29 k b0 h z) h z
theorem lo_f_X12_dig {n : Nat} {v0 : Int} {v1 : Int} (h : MM) (z : 100 ≤ nx h) : Lq h (f_X12_dig n v0 v1 h) := by
  have L_h := Lo.refl z
  delta f_X12_dig
  refine Lq.xbd L_h (lo_f_X12_in h L_h.1) fun _ h1 L_h1 => ?_
  refine Lq.ite ?_ ?_
  exact Lq.tr L_h1 (lo_f_X12_dig_24 h1 L_h1.1)
  refine Lq.xgf fun _ => ?_
  refine Lq.xrd fun _ => ?_
  refine Lq.ite ?_ ?_
  exact Lq.tr L_h1 (lo_f_X12_dig_29 _ _ h1 L_h1.1)
  exact Lq.tr L_h1 (lo_f_X12_dig_24 h1 L_h1.1)
theorem lo_f_X12_last_18 {n : Nat} (h : MM) (z : 100 ≤ nx h) : Lq h (f_X12_last_18 n h) := by
  have L_h := Lo.refl z
  delta f_X12_last_18
  exact Lq.some L_h
theorem lo_f_X12_last_60 {n : Nat} {s0 : Int} (h : MM) (z : 100 ≤ nx h) : Lq h (f_X12_last_60 n s0 h) := by
  have L_h := Lo.refl z
  delta f_X12_last_60
  exact Lq.some L_h
theorem lo_f_X12_last {n : Nat} {v0 : Int} {v1 : Int} {v2 : Int} (h : MM) (z : 100 ≤ nx h) : Lq h (f_X12_last n v0 v1 v2 h) := by
  have L_h := Lo.refl z
  delta f_X12_last
  refine Lq.xgk ?_
  refine Lq.xbd L_h (lo_f_X12_isOf h L_h.1) fun _ h1 L_h1 => ?_
  refine Lq.ite ?_ ?_
  exact Lq.tr L_h1 (lo_f_X12_last_18 h1 L_h1.1)
  refine Lq.xbd L_h1 (lo_f_X12_in h1 L_h1.1) fun _ h3 L_h3 => ?_
  refine Lq.ite ?_ ?_
  exact Lq.tr L_h3 (lo_f_X12_last_18 h3 L_h3.1)
  refine Lq.xgk ?_
  refine Lq.xbd L_h3 (lo_f_X12_isGranted h3 L_h3.1) fun _ h5 L_h5 => ?_
  refine Lq.ite ?_ ?_
  exact Lq.tr L_h5 (lo_f_X12_last_60 h5 L_h5.1)
  refine Lq.ite ?_ ?_
  refine Lq.xgf fun _ => ?_
  refine Lq.xrd fun _ => ?_
  exact Lq.tr L_h5 (lo_f_X12_last_60 h5 L_h5.1)
  refine Lq.xgf fun _ => ?_
  refine Lq.xrd fun _ => ?_
  exact Lq.tr L_h5 (lo_f_X12_last_60 h5 L_h5.1)
theorem lo_f_X12_meet_109 {n : Nat} {rec6 : Int → Int → Int → MM → RR} {v0 : Int} {v1 : Int} {v2 : Int} {v3 : Int} (q_rec6 : ∀ (a0 a1 a2 : Int) (h : MM), 100 ≤ nx h → Lq h (rec6 a0 a1 a2 h)) (h : MM) (z : 100 ≤ nx h) : Lq h (f_X12_meet_109 n rec6 v0 v1 v2 v3 h) := by
  have L_h := Lo.refl z
  delta f_X12_meet_109
  refine Lq.xlb fun _ => ?_
  exact Lq.tr L_h (q_rec6 _ _ _ h L_h.1)
theorem lo_f_X12_meet_107 {n : Nat} {rec6 : Int → Int → Int → MM → RR} {v0 : Int} {v1 : Int} {v3 : Int} {s0 : Int} {s1 : Int} (q_rec6 : ∀ (a0 a1 a2 : Int) (h : MM), 100 ≤ nx h → Lq h (rec6 a0 a1 a2 h)) (h : MM) (z : 100 ≤ nx h) : Lq h (f_X12_meet_107 n rec6 v0 v1 v3 s0 s1 h) := by
  have L_h := Lo.refl z
  delta f_X12_meet_107
  refine Lq.xlb fun _ => ?_
  exact Lq.tr L_h (lo_f_X12_meet_109 q_rec6 h L_h.1)
theorem lo_f_X12_meet_84 {n : Nat} {rec6 : Int → Int → Int → MM → RR} {v0 : Int} {v2 : Int} {v3 : Int} {v4 : Int} {s0 : Int} {s1 : Int} (q_rec6 : ∀ (a0 a1 a2 : Int) (h : MM), 100 ≤ nx h → Lq h (rec6 a0 a1 a2 h)) (h : MM) (z : 100 ≤ nx h) : Lq h (f_X12_meet_84 n rec6 v0 v2 v3 v4 s0 s1 h) := by
  have L_h := Lo.refl z
  delta f_X12_meet_84
  refine Lq.xlb fun _ => ?_
  refine Lq.xgf fun _ => ?_
  refine Lq.xrd fun _ => ?_
  refine Lq.ite ?_ ?_
  exact Lq.tr L_h (lo_f_X12_meet_107 q_rec6 h L_h.1)
  exact Lq.tr L_h (lo_f_X12_meet_107 q_rec6 h L_h.1)
theorem lo_f_X12_meet_6b {n : Nat} {rec6 : Int → Int → Int → MM → RR} {v0 : Int} {v1 : Int} {v2 : Int} {v3 : Int} (q_rec6 : ∀ (a0 a1 a2 : Int) (h : MM), 100 ≤ nx h → Lq h (rec6 a0 a1 a2 h)) (h : MM) (z : 100 ≤ nx h) : Lq h (f_X12_meet_6b n rec6 v0 v1 v2 v3 h) := by
  have L_h := Lo.refl z
  delta f_X12_meet_6b
  refine Lq.xgf fun _ => ?_
  refine Lq.xrd fun _ => ?_
  refine Lq.ite ?_ ?_
  exact Lq.some L_h
  refine Lq.xgk ?_
  refine Lq.xbd L_h (lo_f_X12_isGranted h L_h.1) fun _ h4 L_h4 => ?_
  refine Lq.ite ?_ ?_
  exact Lq.tr L_h4 (lo_f_X12_meet_109 q_rec6 h4 L_h4.1)
  refine Lq.xgf fun _ => ?_
  refine Lq.xrd fun _ => ?_
  refine Lq.ite ?_ ?_
  refine Lq.xgf fun _ => ?_
  refine Lq.xrd fun _ => ?_
  refine Lq.xgf fun _ => ?_
  refine Lq.xrd fun _ => ?_
  refine Lq.xlb fun _ => ?_
  refine Lq.xgf fun _ => ?_
  refine Lq.xrd fun _ => ?_
  refine Lq.ite ?_ ?_
  exact Lq.tr L_h4 (lo_f_X12_meet_84 q_rec6 h4 L_h4.1)
  exact Lq.tr L_h4 (lo_f_X12_meet_84 q_rec6 h4 L_h4.1)
  exact Lq.tr L_h4 (lo_f_X12_meet_109 q_rec6 h4 L_h4.1)
theorem lo_f_X12_meet_6 {n : Nat} {v0 : Int} : ∀ (k : Nat) (v1 v2 v3 : Int) (h : MM), 100 ≤ nx h → Lq h (f_X12_meet_6 n v0 k v1 v2 v3 h)
  | 0, _, _, _, _, _ => Lq.none
  | k + 1, v1, v2, v3, h, z => lo_f_X12_meet_6b (fun b0 b1 b2 h z => lo_f_X12_meet_6 k b0 b1 b2 h z) h z
theorem lo_f_X12_meet {n : Nat} {v0 : Int} (h : MM) (z : 100 ≤ nx h) : Lq h (f_X12_meet n v0 h) := by
  have L_h := Lo.refl z
  delta f_X12_meet
  exact Lq.tr L_h (lo_f_X12_meet_6 _ _ _ _ h L_h.1)
theorem lo_f_X12_many_4b {n : Nat} {rec4 : Int → Int → MM → RR} {v0 : Int} {v1 : Int} {v2 : Int} (q_rec4 : ∀ (a0 a1 : Int) (h : MM), 100 ≤ nx h → Lq h (rec4 a0 a1 h)) (h : MM) (z : 100 ≤ nx h) : Lq h (f_X12_many_4b n rec4 v0 v1 v2 h) := by
  have L_h := Lo.refl z
  delta f_X12_many_4b
  refine Lq.ite ?_ ?_
  exact Lq.some L_h
  refine Lq.xlb fun _ => ?_
  refine Lq.xlb fun _ => ?_
  exact Lq.tr L_h (q_rec4 _ _ h L_h.1)
theorem lo_f_X12_many_4 {n : Nat} {v0 : Int} : ∀ (k : Nat) (v1 v2 : Int) (h : MM), 100 ≤ nx h → Lq h (f_X12_many_4 n v0 k v1 v2 h)
  | 0, _, _, _, _ => Lq.none
  | k + 1, v1, v2, h, z => lo_f_X12_many_4b (fun b0 b1 h z => lo_f_X12_many_4 k b0 b1 h z) h z
theorem lo_f_X12_many {n : Nat} {v0 : Int} (h : MM) (z : 100 ≤ nx h) : Lq h (f_X12_many n v0 h) := by
  have L_h := Lo.refl z
  delta f_X12_many
  exact Lq.tr L_h (lo_f_X12_many_4 _ _ _ h L_h.1)
theorem lo_f_X12_areJoined_129 {n : Nat} {s0 : Int} (h : MM) (z : 100 ≤ nx h) : Lq h (f_X12_areJoined_129 n s0 h) := by
  have L_h := Lo.refl z
  delta f_X12_areJoined_129
  refine Lq.xck ?_
  exact Lq.some L_h
theorem lo_f_X12_areJoined_100 {n : Nat} {rec19 : Int → Int → MM → RR} {rec29 : Int → Int → MM → RR} {v0 : Int} {v1 : Int} {v2 : Int} {v3 : Int} {v5 : Int} {v6 : Int} {s0 : Int} {s1 : Int} (q_rec19 : ∀ (a0 a1 : Int) (h : MM), 100 ≤ nx h → Lq h (rec19 a0 a1 h)) (q_rec29 : ∀ (a0 a1 : Int) (h : MM), 100 ≤ nx h → Lq h (rec29 a0 a1 h)) (h : MM) (z : 100 ≤ nx h) : Lq h (f_X12_areJoined_100 n rec19 rec29 v0 v1 v2 v3 v5 v6 s0 s1 h) := by
  have L_h := Lo.refl z
  delta f_X12_areJoined_100
  refine Lq.xlb fun _ => ?_
  refine Lq.xlb fun _ => ?_
  exact Lq.tr L_h (q_rec29 _ _ h L_h.1)
theorem lo_f_X12_areJoined_99 {n : Nat} {rec19 : Int → Int → MM → RR} {rec29 : Int → Int → MM → RR} {v0 : Int} {v1 : Int} {v2 : Int} {v3 : Int} {v5 : Int} {v6 : Int} {s0 : Int} (q_rec19 : ∀ (a0 a1 : Int) (h : MM), 100 ≤ nx h → Lq h (rec19 a0 a1 h)) (q_rec29 : ∀ (a0 a1 : Int) (h : MM), 100 ≤ nx h → Lq h (rec29 a0 a1 h)) (h : MM) (z : 100 ≤ nx h) : Lq h (f_X12_areJoined_99 n rec19 rec29 v0 v1 v2 v3 v5 v6 s0 h) := by
  have L_h := Lo.refl z
  delta f_X12_areJoined_99
  exact Lq.tr L_h (lo_f_X12_areJoined_100 q_rec19 q_rec29 h L_h.1)
theorem lo_f_X12_areJoined_29b {n : Nat} {rec19 : Int → Int → MM → RR} {rec29 : Int → Int → MM → RR} {v0 : Int} {v1 : Int} {v2 : Int} {v3 : Int} {v4 : Int} {v5 : Int} {v6 : Int} (q_rec19 : ∀ (a0 a1 : Int) (h : MM), 100 ≤ nx h → Lq h (rec19 a0 a1 h)) (q_rec29 : ∀ (a0 a1 : Int) (h : MM), 100 ≤ nx h → Lq h (rec29 a0 a1 h)) (h : MM) (z : 100 ≤ nx h) : Lq h (f_X12_areJoined_29b n rec19 rec29 v0 v1 v2 v3 v4 v5 v6 h) := by
  have L_h := Lo.refl z
  delta f_X12_areJoined_29b
  refine Lq.ite ?_ ?_
  refine Lq.xlb fun _ => ?_
  exact Lq.tr L_h (q_rec19 _ _ h L_h.1)
  refine Lq.xgf fun _ => ?_
  refine Lq.xgf fun _ => ?_
  refine Lq.xrd fun _ => ?_
  refine Lq.xrd fun _ => ?_
  refine Lq.xgf fun _ => ?_
  refine Lq.xgf fun _ => ?_
  refine Lq.xrd fun _ => ?_
  refine Lq.xrd fun _ => ?_
  refine Lq.xlb fun _ => ?_
  refine Lq.ite ?_ ?_
  refine Lq.ite ?_ ?_
  exact Lq.tr L_h (lo_f_X12_areJoined_99 q_rec19 q_rec29 h L_h.1)
  exact Lq.tr L_h (lo_f_X12_areJoined_100 q_rec19 q_rec29 h L_h.1)
  exact Lq.tr L_h (lo_f_X12_areJoined_99 q_rec19 q_rec29 h L_h.1)
theorem lo_f_X12_areJoined_29 {n : Nat} {rec19 : Int → Int → MM → RR} {v0 : Int} {v1 : Int} {v2 : Int} {v3 : Int} {v5 : Int} (q_rec19 : ∀ (a0 a1 : Int) (h : MM), 100 ≤ nx h → Lq h (rec19 a0 a1 h)) : ∀ (k : Nat) (v4 v6 : Int) (h : MM), 100 ≤ nx h → Lq h (f_X12_areJoined_29 n rec19 v0 v1 v2 v3 v5 k v4 v6 h)
  | 0, _, _, _, _ => Lq.none
  | k + 1, v4, v6, h, z => lo_f_X12_areJoined_29b q_rec19 (fun b0 b1 h z => lo_f_X12_areJoined_29 q_rec19 k b0 b1 h z) h z
theorem lo_f_X12_areJoined_19b {n : Nat} {rec19 : Int → Int → MM → RR} {v0 : Int} {v1 : Int} {v2 : Int} {v3 : Int} {v4 : Int} {v5 : Int} (q_rec19 : ∀ (a0 a1 : Int) (h : MM), 100 ≤ nx h → Lq h (rec19 a0 a1 h)) (h : MM) (z : 100 ≤ nx h) : Lq h (f_X12_areJoined_19b n rec19 v0 v1 v2 v3 v4 v5 h) := by
  have L_h := Lo.refl z
  delta f_X12_areJoined_19b
  refine Lq.ite ?_ ?_
  refine Lq.ite ?_ ?_
  exact Lq.tr L_h (lo_f_X12_areJoined_129 h L_h.1)
  exact Lq.tr L_h (lo_f_X12_areJoined_129 h L_h.1)
  exact Lq.tr L_h (lo_f_X12_areJoined_29 q_rec19 _ _ _ h L_h.1)
theorem lo_f_X12_areJoined_19 {n : Nat} {v0 : Int} {v1 : Int} {v2 : Int} {v3 : Int} : ∀ (k : Nat) (v4 v5 : Int) (h : MM), 100 ≤ nx h → Lq h (f_X12_areJoined_19 n v0 v1 v2 v3 k v4 v5 h)
  | 0, _, _, _, _ => Lq.none
  | k + 1, v4, v5, h, z => lo_f_X12_areJoined_19b (fun b0 b1 h z => lo_f_X12_areJoined_19 k b0 b1 h z) h z
theorem lo_f_X12_areJoined {n : Nat} {v0 : Int} {v1 : Int} {v2 : Int} {v3 : Int} (h : MM) (z : 100 ≤ nx h) : Lq h (f_X12_areJoined n v0 v1 v2 v3 h) := by
  have L_h := Lo.refl z
  delta f_X12_areJoined
  refine Lq.xbd L_h (lo_f_X12_many h L_h.1) fun _ h1 L_h1 => ?_
  refine Lq.ite ?_ ?_
  refine Lq.xlb fun _ => ?_
  exact Lq.tr L_h1 (lo_f_X12_areJoined_19 _ _ _ h1 L_h1.1)
  refine Lq.xck ?_
  exact Lq.some L_h1
theorem lo_f_X12_gauge_184 {n : Nat} {rec107 : Int → Int → MM → RR} {v0 : Int} {v1 : Int} {v2 : Int} {v3 : Int} {v5 : Int} {s0 : Int} (q_rec107 : ∀ (a0 a1 : Int) (h : MM), 100 ≤ nx h → Lq h (rec107 a0 a1 h)) (h : MM) (z : 100 ≤ nx h) : Lq h (f_X12_gauge_184 n rec107 v0 v1 v2 v3 v5 s0 h) := by
  have L_h := Lo.refl z
  delta f_X12_gauge_184
  refine Lq.xlb fun _ => ?_
  exact Lq.tr L_h (q_rec107 _ _ h L_h.1)
theorem lo_f_X12_gauge_182 {n : Nat} {rec107 : Int → Int → MM → RR} {v0 : Int} {v1 : Int} {v2 : Int} {v3 : Int} {v4 : Int} {v5 : Int} (q_rec107 : ∀ (a0 a1 : Int) (h : MM), 100 ≤ nx h → Lq h (rec107 a0 a1 h)) (h : MM) (z : 100 ≤ nx h) : Lq h (f_X12_gauge_182 n rec107 v0 v1 v2 v3 v4 v5 h) := by
  have L_h := Lo.refl z
  delta f_X12_gauge_182
  exact Lq.tr L_h (lo_f_X12_gauge_184 q_rec107 h L_h.1)
theorem lo_f_X12_gauge_177 {n : Nat} {rec107 : Int → Int → MM → RR} {v0 : Int} {v1 : Int} {v2 : Int} {v3 : Int} {v5 : Int} (q_rec107 : ∀ (a0 a1 : Int) (h : MM), 100 ≤ nx h → Lq h (rec107 a0 a1 h)) (h : MM) (z : 100 ≤ nx h) : Lq h (f_X12_gauge_177 n rec107 v0 v1 v2 v3 v5 h) := by
  have L_h := Lo.refl z
  delta f_X12_gauge_177
  exact Lq.tr L_h (lo_f_X12_gauge_184 q_rec107 h L_h.1)
theorem lo_f_X12_gauge_150 {n : Nat} {rec107 : Int → Int → MM → RR} {v0 : Int} {v1 : Int} {v2 : Int} {v3 : Int} {v4 : Int} {v5 : Int} {s0 : Int} (q_rec107 : ∀ (a0 a1 : Int) (h : MM), 100 ≤ nx h → Lq h (rec107 a0 a1 h)) (h : MM) (z : 100 ≤ nx h) : Lq h (f_X12_gauge_150 n rec107 v0 v1 v2 v3 v4 v5 s0 h) := by
  have L_h := Lo.refl z
  delta f_X12_gauge_150
  refine Lq.ite ?_ ?_
  exact Lq.tr L_h (lo_f_X12_gauge_182 q_rec107 h L_h.1)
  refine Lq.ite ?_ ?_
  exact Lq.tr L_h (lo_f_X12_gauge_177 q_rec107 h L_h.1)
  refine Lq.xbd L_h (lo_f_X12_many h L_h.1) fun _ h3 L_h3 => ?_
  refine Lq.xbd L_h3 (lo_f_X12_many h3 L_h3.1) fun _ h4 L_h4 => ?_
  refine Lq.ite ?_ ?_
  exact Lq.tr L_h4 (lo_f_X12_gauge_182 q_rec107 h4 L_h4.1)
  exact Lq.tr L_h4 (lo_f_X12_gauge_177 q_rec107 h4 L_h4.1)
theorem lo_f_X12_gauge_145 {n : Nat} {rec107 : Int → Int → MM → RR} {v0 : Int} {v1 : Int} {v2 : Int} {v3 : Int} {v4 : Int} {v5 : Int} (q_rec107 : ∀ (a0 a1 : Int) (h : MM), 100 ≤ nx h → Lq h (rec107 a0 a1 h)) (h : MM) (z : 100 ≤ nx h) : Lq h (f_X12_gauge_145 n rec107 v0 v1 v2 v3 v4 v5 h) := by
  have L_h := Lo.refl z
  delta f_X12_gauge_145
  exact Lq.tr L_h (lo_f_X12_gauge_150 q_rec107 h L_h.1)
theorem lo_f_X12_gauge_107b {n : Nat} {rec107 : Int → Int → MM → RR} {v0 : Int} {v1 : Int} {v2 : Int} {v3 : Int} {v4 : Int} {v5 : Int} (q_rec107 : ∀ (a0 a1 : Int) (h : MM), 100 ≤ nx h → Lq h (rec107 a0 a1 h)) (h : MM) (z : 100 ≤ nx h) : Lq h (f_X12_gauge_107b n rec107 v0 v1 v2 v3 v4 v5 h) := by
  have L_h := Lo.refl z
  delta f_X12_gauge_107b
  refine Lq.ite ?_ ?_
  exact Lq.some L_h
  refine Lq.xlb fun _ => ?_
  refine Lq.xgk ?_
  refine Lq.xbd L_h (lo_f_X12_areJoined h L_h.1) fun _ h3 L_h3 => ?_
  refine Lq.ite ?_ ?_
  refine Lq.xgk ?_
  refine Lq.xbd L_h3 (lo_f_X12_areJoined h3 L_h3.1) fun _ h5 L_h5 => ?_
  refine Lq.ite ?_ ?_
  exact Lq.tr L_h5 (lo_f_X12_gauge_150 q_rec107 h5 L_h5.1)
  exact Lq.tr L_h5 (lo_f_X12_gauge_145 q_rec107 h5 L_h5.1)
  exact Lq.tr L_h3 (lo_f_X12_gauge_145 q_rec107 h3 L_h3.1)
theorem lo_f_X12_gauge_107 {n : Nat} {v0 : Int} {v1 : Int} {v2 : Int} {v3 : Int} : ∀ (k : Nat) (v4 v5 : Int) (h : MM), 100 ≤ nx h → Lq h (f_X12_gauge_107 n v0 v1 v2 v3 k v4 v5 h)
  | 0, _, _, _, _ => Lq.none
  | k + 1, v4, v5, h, z => lo_f_X12_gauge_107b (fun b0 b1 h z => lo_f_X12_gauge_107 k b0 b1 h z) h z
theorem lo_f_X12_gauge_85 {n : Nat} {rec28 : Int → Int → Int → MM → RR} {v0 : Int} {v1 : Int} {v2 : Int} {v3 : Int} {v4 : Int} (q_rec28 : ∀ (a0 a1 a2 : Int) (h : MM), 100 ≤ nx h → Lq h (rec28 a0 a1 a2 h)) (h : MM) (z : 100 ≤ nx h) : Lq h (f_X12_gauge_85 n rec28 v0 v1 v2 v3 v4 h) := by
  have L_h := Lo.refl z
  delta f_X12_gauge_85
  refine Lq.xlb fun _ => ?_
  exact Lq.tr L_h (q_rec28 _ _ _ h L_h.1)
theorem lo_f_X12_gauge_80 {n : Nat} {rec28 : Int → Int → Int → MM → RR} {v0 : Int} {v1 : Int} {v2 : Int} {v4 : Int} {s0 : Int} {s1 : Int} (q_rec28 : ∀ (a0 a1 a2 : Int) (h : MM), 100 ≤ nx h → Lq h (rec28 a0 a1 a2 h)) (h : MM) (z : 100 ≤ nx h) : Lq h (f_X12_gauge_80 n rec28 v0 v1 v2 v4 s0 s1 h) := by
  have L_h := Lo.refl z
  delta f_X12_gauge_80
  refine Lq.xlb fun _ => ?_
  refine Lq.xlb fun _ => ?_
  exact Lq.tr L_h (lo_f_X12_gauge_85 q_rec28 h L_h.1)
theorem lo_f_X12_gauge_28b {n : Nat} {rec28 : Int → Int → Int → MM → RR} {v0 : Int} {v1 : Int} {v2 : Int} {v3 : Int} {v4 : Int} (q_rec28 : ∀ (a0 a1 a2 : Int) (h : MM), 100 ≤ nx h → Lq h (rec28 a0 a1 a2 h)) (h : MM) (z : 100 ≤ nx h) : Lq h (f_X12_gauge_28b n rec28 v0 v1 v2 v3 v4 h) := by
  have L_h := Lo.refl z
  delta f_X12_gauge_28b
  refine Lq.xgf fun _ => ?_
  refine Lq.xrd fun _ => ?_
  refine Lq.ite ?_ ?_
  refine Lq.ite ?_ ?_
  exact Lq.tr L_h (lo_f_X12_gauge_107 _ _ _ h L_h.1)
  exact Lq.some L_h
  refine Lq.xgk ?_
  refine Lq.xbd L_h (lo_f_X12_isGranted h L_h.1) fun _ h5 L_h5 => ?_
  refine Lq.ite ?_ ?_
  exact Lq.tr L_h5 (lo_f_X12_gauge_85 q_rec28 h5 L_h5.1)
  refine Lq.xgf fun _ => ?_
  refine Lq.xwt L_h5 fun h8 L_h8 => ?_
  refine Lq.ite ?_ ?_
  exact Lq.tr L_h8 (lo_f_X12_gauge_80 q_rec28 h8 L_h8.1)
  refine Lq.xgf fun _ => ?_
  refine Lq.xrd fun _ => ?_
  exact Lq.tr L_h8 (lo_f_X12_gauge_80 q_rec28 h8 L_h8.1)
theorem lo_f_X12_gauge_28 {n : Nat} {v0 : Int} {v1 : Int} : ∀ (k : Nat) (v2 v3 v4 : Int) (h : MM), 100 ≤ nx h → Lq h (f_X12_gauge_28 n v0 v1 k v2 v3 v4 h)
  | 0, _, _, _, _, _ => Lq.none
  | k + 1, v2, v3, v4, h, z => lo_f_X12_gauge_28b (fun b0 b1 b2 h z => lo_f_X12_gauge_28 k b0 b1 b2 h z) h z
theorem lo_f_X12_gauge {n : Nat} {v0 : Int} {v1 : Int} (h : MM) (z : 100 ≤ nx h) : Lq h (f_X12_gauge n v0 v1 h) := by
  have L_h := Lo.refl z
  delta f_X12_gauge
  refine Lq.xgf fun _ => ?_
  refine Lq.xrd fun _ => ?_
  refine Lq.xbd L_h (lo_f_X12_in h L_h.1) fun _ h3 L_h3 => ?_
  refine Lq.ite ?_ ?_
  exact Lq.some L_h3
  exact Lq.tr L_h3 (lo_f_X12_gauge_28 _ _ _ _ h3 L_h3.1)
theorem lo_f_X12_plan_51 {n : Nat} (h : MM) (z : 100 ≤ nx h) : Lq h (f_X12_plan_51 n h) := by
  have L_h := Lo.refl z
  delta f_X12_plan_51
  exact Lq.some L_h
theorem lo_f_X12_plan_414 {n : Nat} {s0 : Int} (h : MM) (z : 100 ≤ nx h) : Lq h (f_X12_plan_414 n s0 h) := by
  have L_h := Lo.refl z
  delta f_X12_plan_414
  exact Lq.some L_h
theorem lo_f_X12_plan_384 {n : Nat} {rec150 : Int → Int → Int → MM → RR} {v0 : Int} {v1 : Int} {v2 : Int} {v3 : Int} {v4 : Int} {v5 : Int} {v6 : Int} {v7 : Int} {v8 : Int} (q_rec150 : ∀ (a0 a1 a2 : Int) (h : MM), 100 ≤ nx h → Lq h (rec150 a0 a1 a2 h)) (h : MM) (z : 100 ≤ nx h) : Lq h (f_X12_plan_384 n rec150 v0 v1 v2 v3 v4 v5 v6 v7 v8 h) := by
  have L_h := Lo.refl z
  delta f_X12_plan_384
  refine Lq.xlb fun _ => ?_
  exact Lq.tr L_h (q_rec150 _ _ _ h L_h.1)
theorem lo_f_X12_plan_352 {n : Nat} {rec150 : Int → Int → Int → MM → RR} {v0 : Int} {v1 : Int} {v2 : Int} {v3 : Int} {v4 : Int} {v5 : Int} {v6 : Int} {v7 : Int} {v8 : Int} {v9 : Int} {v10 : Int} {v11 : Int} {s0 : Int} (q_rec150 : ∀ (a0 a1 a2 : Int) (h : MM), 100 ≤ nx h → Lq h (rec150 a0 a1 a2 h)) (h : MM) (z : 100 ≤ nx h) : Lq h (f_X12_plan_352 n rec150 v0 v1 v2 v3 v4 v5 v6 v7 v8 v9 v10 v11 s0 h) := by
  have L_h := Lo.refl z
  delta f_X12_plan_352
  refine Lq.ite ?_ ?_
  exact Lq.tr L_h (lo_f_X12_plan_384 q_rec150 h L_h.1)
  refine Lq.ite ?_ ?_
  exact Lq.tr L_h (lo_f_X12_plan_384 q_rec150 h L_h.1)
  refine Lq.ite ?_ ?_
  exact Lq.tr L_h (lo_f_X12_plan_384 q_rec150 h L_h.1)
  refine Lq.ite ?_ ?_
  exact Lq.tr L_h (lo_f_X12_plan_384 q_rec150 h L_h.1)
  exact Lq.tr L_h (lo_f_X12_plan_384 q_rec150 h L_h.1)
theorem lo_f_X12_plan_347 {n : Nat} {rec150 : Int → Int → Int → MM → RR} {v0 : Int} {v1 : Int} {v2 : Int} {v3 : Int} {v4 : Int} {v5 : Int} {v6 : Int} {v7 : Int} {v8 : Int} {v9 : Int} {v10 : Int} {v11 : Int} (q_rec150 : ∀ (a0 a1 a2 : Int) (h : MM), 100 ≤ nx h → Lq h (rec150 a0 a1 a2 h)) (h : MM) (z : 100 ≤ nx h) : Lq h (f_X12_plan_347 n rec150 v0 v1 v2 v3 v4 v5 v6 v7 v8 v9 v10 v11 h) := by
  have L_h := Lo.refl z
  delta f_X12_plan_347
  exact Lq.tr L_h (lo_f_X12_plan_352 q_rec150 h L_h.1)
theorem lo_f_X12_plan_351 {n : Nat} {rec150 : Int → Int → Int → MM → RR} {v0 : Int} {v1 : Int} {v2 : Int} {v3 : Int} {v4 : Int} {v5 : Int} {v6 : Int} {v7 : Int} {v8 : Int} {v9 : Int} {v10 : Int} {v11 : Int} (q_rec150 : ∀ (a0 a1 a2 : Int) (h : MM), 100 ≤ nx h → Lq h (rec150 a0 a1 a2 h)) (h : MM) (z : 100 ≤ nx h) : Lq h (f_X12_plan_351 n rec150 v0 v1 v2 v3 v4 v5 v6 v7 v8 v9 v10 v11 h) := by
  have L_h := Lo.refl z
  delta f_X12_plan_351
  exact Lq.tr L_h (lo_f_X12_plan_352 q_rec150 h L_h.1)
theorem lo_f_X12_plan_307 {n : Nat} {rec150 : Int → Int → Int → MM → RR} {rec179 : Int → Int → Int → Int → MM → RR} {v0 : Int} {v1 : Int} {v2 : Int} {v3 : Int} {v4 : Int} {v5 : Int} {v6 : Int} {v7 : Int} {v8 : Int} {v9 : Int} {v10 : Int} {v11 : Int} {v12 : Int} (q_rec150 : ∀ (a0 a1 a2 : Int) (h : MM), 100 ≤ nx h → Lq h (rec150 a0 a1 a2 h)) (q_rec179 : ∀ (a0 a1 a2 a3 : Int) (h : MM), 100 ≤ nx h → Lq h (rec179 a0 a1 a2 a3 h)) (h : MM) (z : 100 ≤ nx h) : Lq h (f_X12_plan_307 n rec150 rec179 v0 v1 v2 v3 v4 v5 v6 v7 v8 v9 v10 v11 v12 h) := by
  have L_h := Lo.refl z
  delta f_X12_plan_307
  refine Lq.xlb fun _ => ?_
  exact Lq.tr L_h (q_rec179 _ _ _ _ h L_h.1)
theorem lo_f_X12_plan_299 {n : Nat} {rec150 : Int → Int → Int → MM → RR} {rec179 : Int → Int → Int → Int → MM → RR} {rec250 : Int → Int → MM → RR} {v0 : Int} {v1 : Int} {v2 : Int} {v3 : Int} {v4 : Int} {v5 : Int} {v6 : Int} {v7 : Int} {v8 : Int} {v9 : Int} {v10 : Int} {v12 : Int} {v14 : Int} {s0 : Int} (q_rec150 : ∀ (a0 a1 a2 : Int) (h : MM), 100 ≤ nx h → Lq h (rec150 a0 a1 a2 h)) (q_rec179 : ∀ (a0 a1 a2 a3 : Int) (h : MM), 100 ≤ nx h → Lq h (rec179 a0 a1 a2 a3 h)) (q_rec250 : ∀ (a0 a1 : Int) (h : MM), 100 ≤ nx h → Lq h (rec250 a0 a1 h)) (h : MM) (z : 100 ≤ nx h) : Lq h (f_X12_plan_299 n rec150 rec179 rec250 v0 v1 v2 v3 v4 v5 v6 v7 v8 v9 v10 v12 v14 s0 h) := by
  have L_h := Lo.refl z
  delta f_X12_plan_299
  refine Lq.xlb fun _ => ?_
  exact Lq.tr L_h (q_rec250 _ _ h L_h.1)
theorem lo_f_X12_plan_298 {n : Nat} {rec150 : Int → Int → Int → MM → RR} {rec179 : Int → Int → Int → Int → MM → RR} {rec250 : Int → Int → MM → RR} {v0 : Int} {v1 : Int} {v2 : Int} {v3 : Int} {v4 : Int} {v5 : Int} {v6 : Int} {v7 : Int} {v8 : Int} {v9 : Int} {v10 : Int} {v12 : Int} {v14 : Int} (q_rec150 : ∀ (a0 a1 a2 : Int) (h : MM), 100 ≤ nx h → Lq h (rec150 a0 a1 a2 h)) (q_rec179 : ∀ (a0 a1 a2 a3 : Int) (h : MM), 100 ≤ nx h → Lq h (rec179 a0 a1 a2 a3 h)) (q_rec250 : ∀ (a0 a1 : Int) (h : MM), 100 ≤ nx h → Lq h (rec250 a0 a1 h)) (h : MM) (z : 100 ≤ nx h) : Lq h (f_X12_plan_298 n rec150 rec179 rec250 v0 v1 v2 v3 v4 v5 v6 v7 v8 v9 v10 v12 v14 h) := by
  have L_h := Lo.refl z
  delta f_X12_plan_298
  exact Lq.tr L_h (lo_f_X12_plan_299 q_rec150 q_rec179 q_rec250 h L_h.1)
theorem lo_f_X12_plan_294 {n : Nat} {rec150 : Int → Int → Int → MM → RR} {rec179 : Int → Int → Int → Int → MM → RR} {rec250 : Int → Int → MM → RR} {v0 : Int} {v1 : Int} {v2 : Int} {v3 : Int} {v4 : Int} {v5 : Int} {v6 : Int} {v7 : Int} {v8 : Int} {v9 : Int} {v10 : Int} {v12 : Int} {v14 : Int} (q_rec150 : ∀ (a0 a1 a2 : Int) (h : MM), 100 ≤ nx h → Lq h (rec150 a0 a1 a2 h)) (q_rec179 : ∀ (a0 a1 a2 a3 : Int) (h : MM), 100 ≤ nx h → Lq h (rec179 a0 a1 a2 a3 h)) (q_rec250 : ∀ (a0 a1 : Int) (h : MM), 100 ≤ nx h → Lq h (rec250 a0 a1 h)) (h : MM) (z : 100 ≤ nx h) : Lq h (f_X12_plan_294 n rec150 rec179 rec250 v0 v1 v2 v3 v4 v5 v6 v7 v8 v9 v10 v12 v14 h) := by
  have L_h := Lo.refl z
  delta f_X12_plan_294
  exact Lq.tr L_h (lo_f_X12_plan_299 q_rec150 q_rec179 q_rec250 h L_h.1)
theorem lo_f_X12_plan_250b {n : Nat} {rec150 : Int → Int → Int → MM → RR} {rec179 : Int → Int → Int → Int → MM → RR} {rec250 : Int → Int → MM → RR} {v0 : Int} {v1 : Int} {v2 : Int} {v3 : Int} {v4 : Int} {v5 : Int} {v6 : Int} {v7 : Int} {v8 : Int} {v9 : Int} {v10 : Int} {v11 : Int} {v12 : Int} {v14 : Int} (q_rec150 : ∀ (a0 a1 a2 : Int) (h : MM), 100 ≤ nx h → Lq h (rec150 a0 a1 a2 h)) (q_rec179 : ∀ (a0 a1 a2 a3 : Int) (h : MM), 100 ≤ nx h → Lq h (rec179 a0 a1 a2 a3 h)) (q_rec250 : ∀ (a0 a1 : Int) (h : MM), 100 ≤ nx h → Lq h (rec250 a0 a1 h)) (h : MM) (z : 100 ≤ nx h) : Lq h (f_X12_plan_250b n rec150 rec179 rec250 v0 v1 v2 v3 v4 v5 v6 v7 v8 v9 v10 v11 v12 v14 h) := by
  have L_h := Lo.refl z
  delta f_X12_plan_250b
  refine Lq.ite ?_ ?_
  exact Lq.tr L_h (lo_f_X12_plan_307 q_rec150 q_rec179 h L_h.1)
  refine Lq.ite ?_ ?_
  exact Lq.tr L_h (lo_f_X12_plan_298 q_rec150 q_rec179 q_rec250 h L_h.1)
  refine Lq.ite ?_ ?_
  refine Lq.xgf fun _ => ?_
  refine Lq.xrd fun _ => ?_
  refine Lq.xgf fun _ => ?_
  refine Lq.xrd fun _ => ?_
  refine Lq.xgk ?_
  refine Lq.xbd L_h (lo_f_X12_isBarred h L_h.1) fun _ h8 L_h8 => ?_
  refine Lq.ite ?_ ?_
  exact Lq.tr L_h8 (lo_f_X12_plan_294 q_rec150 q_rec179 q_rec250 h8 L_h8.1)
  exact Lq.tr L_h8 (lo_f_X12_plan_298 q_rec150 q_rec179 q_rec250 h8 L_h8.1)
  exact Lq.tr L_h (lo_f_X12_plan_294 q_rec150 q_rec179 q_rec250 h L_h.1)
theorem lo_f_X12_plan_250 {n : Nat} {rec150 : Int → Int → Int → MM → RR} {rec179 : Int → Int → Int → Int → MM → RR} {v0 : Int} {v1 : Int} {v2 : Int} {v3 : Int} {v4 : Int} {v5 : Int} {v6 : Int} {v7 : Int} {v8 : Int} {v9 : Int} {v10 : Int} {v12 : Int} (q_rec150 : ∀ (a0 a1 a2 : Int) (h : MM), 100 ≤ nx h → Lq h (rec150 a0 a1 a2 h)) (q_rec179 : ∀ (a0 a1 a2 a3 : Int) (h : MM), 100 ≤ nx h → Lq h (rec179 a0 a1 a2 a3 h)) : ∀ (k : Nat) (v11 v14 : Int) (h : MM), 100 ≤ nx h → Lq h (f_X12_plan_250 n rec150 rec179 v0 v1 v2 v3 v4 v5 v6 v7 v8 v9 v10 v12 k v11 v14 h)
  | 0, _, _, _, _ => Lq.none
  | k + 1, v11, v14, h, z => lo_f_X12_plan_250b q_rec150 q_rec179 (fun b0 b1 h z => lo_f_X12_plan_250 q_rec150 q_rec179 k b0 b1 h z) h z
theorem lo_f_X12_plan_179b {n : Nat} {rec150 : Int → Int → Int → MM → RR} {rec179 : Int → Int → Int → Int → MM → RR} {v0 : Int} {v1 : Int} {v2 : Int} {v3 : Int} {v4 : Int} {v5 : Int} {v6 : Int} {v7 : Int} {v8 : Int} {v9 : Int} {v10 : Int} {v11 : Int} {v12 : Int} (q_rec150 : ∀ (a0 a1 a2 : Int) (h : MM), 100 ≤ nx h → Lq h (rec150 a0 a1 a2 h)) (q_rec179 : ∀ (a0 a1 a2 a3 : Int) (h : MM), 100 ≤ nx h → Lq h (rec179 a0 a1 a2 a3 h)) (h : MM) (z : 100 ≤ nx h) : Lq h (f_X12_plan_179b n rec150 rec179 v0 v1 v2 v3 v4 v5 v6 v7 v8 v9 v10 v11 v12 h) := by
  have L_h := Lo.refl z
  delta f_X12_plan_179b
  refine Lq.ite ?_ ?_
  refine Lq.ite ?_ ?_
  exact Lq.tr L_h (lo_f_X12_plan_347 q_rec150 h L_h.1)
  refine Lq.ite ?_ ?_
  exact Lq.tr L_h (lo_f_X12_plan_347 q_rec150 h L_h.1)
  refine Lq.ite ?_ ?_
  refine Lq.xbd L_h (lo_f_X12_many h L_h.1) fun _ h5 L_h5 => ?_
  refine Lq.xbd L_h5 (lo_f_X12_many h5 L_h5.1) fun _ h6 L_h6 => ?_
  refine Lq.ite ?_ ?_
  exact Lq.tr L_h6 (lo_f_X12_plan_351 q_rec150 h6 L_h6.1)
  exact Lq.tr L_h6 (lo_f_X12_plan_347 q_rec150 h6 L_h6.1)
  exact Lq.tr L_h (lo_f_X12_plan_351 q_rec150 h L_h.1)
  refine Lq.ite ?_ ?_
  refine Lq.xgf fun _ => ?_
  refine Lq.xgf fun _ => ?_
  refine Lq.xrd fun _ => ?_
  refine Lq.xrd fun _ => ?_
  refine Lq.xgk ?_
  refine Lq.xbd L_h (lo_f_X12_yardsOf h L_h.1) fun _ h13 L_h13 => ?_
  refine Lq.xlb fun _ => ?_
  refine Lq.xgf fun _ => ?_
  refine Lq.xrd fun _ => ?_
  refine Lq.xgk ?_
  refine Lq.xbd L_h13 (lo_f_X12_claims h13 L_h13.1) fun _ h17 L_h17 => ?_
  refine Lq.xlb fun _ => ?_
  exact Lq.tr L_h17 (lo_f_X12_plan_250 q_rec150 q_rec179 _ _ _ h17 L_h17.1)
  exact Lq.tr L_h (lo_f_X12_plan_307 q_rec150 q_rec179 h L_h.1)
theorem lo_f_X12_plan_179 {n : Nat} {rec150 : Int → Int → Int → MM → RR} {v0 : Int} {v1 : Int} {v2 : Int} {v3 : Int} {v4 : Int} {v5 : Int} {v6 : Int} {v7 : Int} {v8 : Int} (q_rec150 : ∀ (a0 a1 a2 : Int) (h : MM), 100 ≤ nx h → Lq h (rec150 a0 a1 a2 h)) : ∀ (k : Nat) (v9 v10 v11 v12 : Int) (h : MM), 100 ≤ nx h → Lq h (f_X12_plan_179 n rec150 v0 v1 v2 v3 v4 v5 v6 v7 v8 k v9 v10 v11 v12 h)
  | 0, _, _, _, _, _, _ => Lq.none
  | k + 1, v9, v10, v11, v12, h, z => lo_f_X12_plan_179b q_rec150 (fun b0 b1 b2 b3 h z => lo_f_X12_plan_179 q_rec150 k b0 b1 b2 b3 h z) h z
theorem lo_f_X12_plan_150b {n : Nat} {rec150 : Int → Int → Int → MM → RR} {v0 : Int} {v1 : Int} {v2 : Int} {v3 : Int} {v4 : Int} {v5 : Int} {v6 : Int} {v7 : Int} {v8 : Int} (q_rec150 : ∀ (a0 a1 a2 : Int) (h : MM), 100 ≤ nx h → Lq h (rec150 a0 a1 a2 h)) (h : MM) (z : 100 ≤ nx h) : Lq h (f_X12_plan_150b n rec150 v0 v1 v2 v3 v4 v5 v6 v7 v8 h) := by
  have L_h := Lo.refl z
  delta f_X12_plan_150b
  refine Lq.ite ?_ ?_
  refine Lq.ite ?_ ?_
  exact Lq.tr L_h (lo_f_X12_plan_414 h L_h.1)
  refine Lq.ite ?_ ?_
  exact Lq.tr L_h (lo_f_X12_plan_414 h L_h.1)
  exact Lq.tr L_h (lo_f_X12_plan_414 h L_h.1)
  refine Lq.xgk ?_
  refine Lq.xbd L_h (lo_f_X12_areJoined h L_h.1) fun _ h4 L_h4 => ?_
  exact Lq.tr L_h4 (lo_f_X12_plan_179 q_rec150 _ _ _ _ _ h4 L_h4.1)
theorem lo_f_X12_plan_150 {n : Nat} {v0 : Int} {v1 : Int} {v2 : Int} {v3 : Int} {v4 : Int} {v5 : Int} : ∀ (k : Nat) (v6 v7 v8 : Int) (h : MM), 100 ≤ nx h → Lq h (f_X12_plan_150 n v0 v1 v2 v3 v4 v5 k v6 v7 v8 h)
  | 0, _, _, _, _, _ => Lq.none
  | k + 1, v6, v7, v8, h, z => lo_f_X12_plan_150b (fun b0 b1 b2 h z => lo_f_X12_plan_150 k b0 b1 b2 h z) h z
theorem lo_f_X12_plan_134 {n : Nat} {rec60 : Int → Int → MM → RR} {v0 : Int} {v1 : Int} {v2 : Int} {v3 : Int} {v4 : Int} {v5 : Int} {v6 : Int} (q_rec60 : ∀ (a0 a1 : Int) (h : MM), 100 ≤ nx h → Lq h (rec60 a0 a1 h)) (h : MM) (z : 100 ≤ nx h) : Lq h (f_X12_plan_134 n rec60 v0 v1 v2 v3 v4 v5 v6 h) := by
  have L_h := Lo.refl z
  delta f_X12_plan_134
  refine Lq.xlb fun _ => ?_
  exact Lq.tr L_h (q_rec60 _ _ h L_h.1)
theorem lo_f_X12_plan_60b {n : Nat} {rec60 : Int → Int → MM → RR} {v0 : Int} {v1 : Int} {v2 : Int} {v3 : Int} {v4 : Int} {v5 : Int} {v6 : Int} (q_rec60 : ∀ (a0 a1 : Int) (h : MM), 100 ≤ nx h → Lq h (rec60 a0 a1 h)) (h : MM) (z : 100 ≤ nx h) : Lq h (f_X12_plan_60b n rec60 v0 v1 v2 v3 v4 v5 v6 h) := by
  have L_h := Lo.refl z
  delta f_X12_plan_60b
  refine Lq.xgf fun _ => ?_
  refine Lq.xrd fun _ => ?_
  refine Lq.ite ?_ ?_
  exact Lq.tr L_h (lo_f_X12_plan_150 _ _ _ _ h L_h.1)
  refine Lq.ite ?_ ?_
  exact Lq.tr L_h (lo_f_X12_plan_134 q_rec60 h L_h.1)
  refine Lq.xgf fun _ => ?_
  refine Lq.xrd fun _ => ?_
  refine Lq.ite ?_ ?_
  refine Lq.xgf fun _ => ?_
  refine Lq.xrd fun _ => ?_
  refine Lq.ite ?_ ?_
  refine Lq.xgf fun _ => ?_
  refine Lq.xrd fun _ => ?_
  refine Lq.xgk ?_
  refine Lq.xbd L_h (lo_f_X12_canBeLet h L_h.1) fun _ h13 L_h13 => ?_
  refine Lq.ite ?_ ?_
  exact Lq.tr L_h13 (lo_f_X12_plan_134 q_rec60 h13 L_h13.1)
  refine Lq.xgf fun _ => ?_
  refine Lq.xwt L_h13 fun h16 L_h16 => ?_
  refine Lq.xlb fun _ => ?_
  exact Lq.tr L_h16 (lo_f_X12_plan_134 q_rec60 h16 L_h16.1)
  exact Lq.tr L_h (lo_f_X12_plan_134 q_rec60 h L_h.1)
  exact Lq.tr L_h (lo_f_X12_plan_134 q_rec60 h L_h.1)
theorem lo_f_X12_plan_60 {n : Nat} {v0 : Int} {v1 : Int} {v2 : Int} {v3 : Int} {v4 : Int} : ∀ (k : Nat) (v5 v6 : Int) (h : MM), 100 ≤ nx h → Lq h (f_X12_plan_60 n v0 v1 v2 v3 v4 k v5 v6 h)
  | 0, _, _, _, _ => Lq.none
  | k + 1, v5, v6, h, z => lo_f_X12_plan_60b (fun b0 b1 h z => lo_f_X12_plan_60 k b0 b1 h z) h z
theorem lo_f_X12_plan {n : Nat} {v0 : Int} {v1 : Int} {v2 : Int} {v3 : Int} {v4 : Int} (h : MM) (z : 100 ≤ nx h) : Lq h (f_X12_plan n v0 v1 v2 v3 v4 h) := by
  have L_h := Lo.refl z
  delta f_X12_plan
  refine Lq.xbd L_h (lo_f_X12_in h L_h.1) fun _ h1 L_h1 => ?_
  refine Lq.ite ?_ ?_
  exact Lq.some L_h1
  refine Lq.xgf fun _ => ?_
  refine Lq.xrd fun _ => ?_
  refine Lq.xbd L_h1 (lo_f_X12_in h1 L_h1.1) fun _ h5 L_h5 => ?_
  refine Lq.ite ?_ ?_
  exact Lq.tr L_h5 (lo_f_X12_plan_51 h5 L_h5.1)
  refine Lq.xbd L_h5 (lo_f_X12_in h5 L_h5.1) fun _ h7 L_h7 => ?_
  refine Lq.ite ?_ ?_
  exact Lq.tr L_h7 (lo_f_X12_plan_51 h7 L_h7.1)
  refine Lq.xbd L_h7 (lo_f_X12_in h7 L_h7.1) fun _ h9 L_h9 => ?_
  refine Lq.ite ?_ ?_
  exact Lq.tr L_h9 (lo_f_X12_plan_51 h9 L_h9.1)
  exact Lq.tr L_h9 (lo_f_X12_plan_60 _ _ _ h9 L_h9.1)
theorem lo_f_X12_tried_222 {n : Nat} {v0 : Int} {v3 : Int} (h : MM) (z : 100 ≤ nx h) : Lq h (f_X12_tried_222 n v0 v3 h) := by
  have L_h := Lo.refl z
  delta f_X12_tried_222
  refine Lq.xgf fun _ => ?_
  refine Lq.xrd fun _ => ?_
  refine Lq.xwt L_h fun h3 L_h3 => ?_
  exact Lq.some L_h3
theorem lo_f_X12_tried_221 {n : Nat} {v0 : Int} {s0 : Int} (h : MM) (z : 100 ≤ nx h) : Lq h (f_X12_tried_221 n v0 s0 h) := by
  have L_h := Lo.refl z
  delta f_X12_tried_221
  exact Lq.tr L_h (lo_f_X12_tried_222 h L_h.1)
theorem lo_f_X12_tried_188 {n : Nat} {v0 : Int} {v1 : Int} {v3 : Int} (h : MM) (z : 100 ≤ nx h) : Lq h (f_X12_tried_188 n v0 v1 v3 h) := by
  have L_h := Lo.refl z
  delta f_X12_tried_188
  refine Lq.ite ?_ ?_
  refine Lq.xgf fun _ => ?_
  refine Lq.xrd fun _ => ?_
  refine Lq.ite ?_ ?_
  refine Lq.xgf fun _ => ?_
  refine Lq.xrd fun _ => ?_
  refine Lq.xgk ?_
  refine Lq.xbd L_h (lo_f_X12_slope h L_h.1) fun _ h7 L_h7 => ?_
  exact Lq.tr L_h7 (lo_f_X12_tried_221 h7 L_h7.1)
  exact Lq.tr L_h (lo_f_X12_tried_221 h L_h.1)
  exact Lq.tr L_h (lo_f_X12_tried_222 h L_h.1)
theorem lo_f_X12_tried_180 {n : Nat} {rec55 : Int → Int → MM → RR} {v0 : Int} {v1 : Int} {v4 : Int} {s0 : Int} {s1 : Int} (q_rec55 : ∀ (a0 a1 : Int) (h : MM), 100 ≤ nx h → Lq h (rec55 a0 a1 h)) (h : MM) (z : 100 ≤ nx h) : Lq h (f_X12_tried_180 n rec55 v0 v1 v4 s0 s1 h) := by
  have L_h := Lo.refl z
  delta f_X12_tried_180
  refine Lq.xlb fun _ => ?_
  refine Lq.xlb fun _ => ?_
  exact Lq.tr L_h (q_rec55 _ _ h L_h.1)
theorem lo_f_X12_tried_167 {n : Nat} {rec55 : Int → Int → MM → RR} {v0 : Int} {v1 : Int} {v3 : Int} {v4 : Int} {s0 : Int} (q_rec55 : ∀ (a0 a1 : Int) (h : MM), 100 ≤ nx h → Lq h (rec55 a0 a1 h)) (h : MM) (z : 100 ≤ nx h) : Lq h (f_X12_tried_167 n rec55 v0 v1 v3 v4 s0 h) := by
  have L_h := Lo.refl z
  delta f_X12_tried_167
  refine Lq.ite ?_ ?_
  exact Lq.tr L_h (lo_f_X12_tried_180 q_rec55 h L_h.1)
  exact Lq.tr L_h (lo_f_X12_tried_180 q_rec55 h L_h.1)
theorem lo_f_X12_tried_166 {n : Nat} {rec55 : Int → Int → MM → RR} {v0 : Int} {v1 : Int} {v3 : Int} {v4 : Int} (q_rec55 : ∀ (a0 a1 : Int) (h : MM), 100 ≤ nx h → Lq h (rec55 a0 a1 h)) (h : MM) (z : 100 ≤ nx h) : Lq h (f_X12_tried_166 n rec55 v0 v1 v3 v4 h) := by
  have L_h := Lo.refl z
  delta f_X12_tried_166
  exact Lq.tr L_h (lo_f_X12_tried_167 q_rec55 h L_h.1)
theorem lo_f_X12_tried_128 {n : Nat} {rec55 : Int → Int → MM → RR} {v0 : Int} {v1 : Int} {v3 : Int} {v4 : Int} (q_rec55 : ∀ (a0 a1 : Int) (h : MM), 100 ≤ nx h → Lq h (rec55 a0 a1 h)) (h : MM) (z : 100 ≤ nx h) : Lq h (f_X12_tried_128 n rec55 v0 v1 v3 v4 h) := by
  have L_h := Lo.refl z
  delta f_X12_tried_128
  exact Lq.tr L_h (lo_f_X12_tried_167 q_rec55 h L_h.1)
theorem lo_f_X12_tried_55b {n : Nat} {rec55 : Int → Int → MM → RR} {v0 : Int} {v1 : Int} {v3 : Int} {v4 : Int} (q_rec55 : ∀ (a0 a1 : Int) (h : MM), 100 ≤ nx h → Lq h (rec55 a0 a1 h)) (h : MM) (z : 100 ≤ nx h) : Lq h (f_X12_tried_55b n rec55 v0 v1 v3 v4 h) := by
  have L_h := Lo.refl z
  delta f_X12_tried_55b
  refine Lq.xgf fun _ => ?_
  refine Lq.xrd fun _ => ?_
  refine Lq.ite ?_ ?_
  exact Lq.tr L_h (lo_f_X12_tried_188 h L_h.1)
  refine Lq.ite ?_ ?_
  exact Lq.tr L_h (lo_f_X12_tried_188 h L_h.1)
  refine Lq.ite ?_ ?_
  refine Lq.xgf fun _ => ?_
  refine Lq.xrd fun _ => ?_
  refine Lq.ite ?_ ?_
  refine Lq.xgf fun _ => ?_
  refine Lq.xrd fun _ => ?_
  refine Lq.xgk ?_
  refine Lq.xbd L_h (lo_f_X12_notClose h L_h.1) fun _ h18 L_h18 => ?_
  refine Lq.ite ?_ ?_
  refine Lq.xgf fun _ => ?_
  refine Lq.xrd fun _ => ?_
  refine Lq.xgk ?_
  refine Lq.xbd L_h18 (lo_f_X12_steep h18 L_h18.1) fun _ h22 L_h22 => ?_
  refine Lq.ite ?_ ?_
  exact Lq.tr L_h22 (lo_f_X12_tried_167 q_rec55 h22 L_h22.1)
  exact Lq.tr L_h22 (lo_f_X12_tried_128 q_rec55 h22 L_h22.1)
  exact Lq.tr L_h18 (lo_f_X12_tried_128 q_rec55 h18 L_h18.1)
  exact Lq.tr L_h (lo_f_X12_tried_128 q_rec55 h L_h.1)
  refine Lq.xgf fun _ => ?_
  refine Lq.xrd fun _ => ?_
  refine Lq.ite ?_ ?_
  refine Lq.xgf fun _ => ?_
  refine Lq.xrd fun _ => ?_
  refine Lq.xgk ?_
  refine Lq.xbd L_h (lo_f_X12_canBeLet h L_h.1) fun _ h11 L_h11 => ?_
  refine Lq.ite ?_ ?_
  exact Lq.tr L_h11 (lo_f_X12_tried_166 q_rec55 h11 L_h11.1)
  exact Lq.tr L_h11 (lo_f_X12_tried_167 q_rec55 h11 L_h11.1)
  exact Lq.tr L_h (lo_f_X12_tried_166 q_rec55 h L_h.1)
theorem lo_f_X12_tried_55 {n : Nat} {v0 : Int} {v1 : Int} : ∀ (k : Nat) (v3 v4 : Int) (h : MM), 100 ≤ nx h → Lq h (f_X12_tried_55 n v0 v1 k v3 v4 h)
  | 0, _, _, _, _ => Lq.none
  | k + 1, v3, v4, h, z => lo_f_X12_tried_55b (fun b0 b1 h z => lo_f_X12_tried_55 k b0 b1 h z) h z
theorem lo_f_X12_tried {n : Nat} {v0 : Int} {v1 : Int} (h : MM) (z : 100 ≤ nx h) : Lq h (f_X12_tried n v0 v1 h) := by
  have L_h := Lo.refl z
  delta f_X12_tried
  refine Lq.xbd L_h (lo_f_X12_in h L_h.1) fun _ h1 L_h1 => ?_
  refine Lq.ite ?_ ?_
  exact Lq.some L_h1
  refine Lq.xgf fun _ => ?_
  refine Lq.xrd fun _ => ?_
  refine Lq.xgf fun _ => ?_
  refine Lq.xrd fun _ => ?_
  refine Lq.xgk ?_
  refine Lq.xbd L_h1 (lo_f_X12_readsOrder h1 L_h1.1) fun _ h7 L_h7 => ?_
  refine Lq.ite ?_ ?_
  refine Lq.xgf fun _ => ?_
  exact Lq.some L_h7
  refine Lq.xgf fun _ => ?_
  refine Lq.xrd fun _ => ?_
  refine Lq.xwt L_h7 fun h11 L_h11 => ?_
  exact Lq.tr L_h11 (lo_f_X12_tried_55 _ _ _ h11 L_h11.1)
theorem lo_f_X12_known_24 {n : Nat} (h : MM) (z : 100 ≤ nx h) : Lq h (f_X12_known_24 n h) := by
  have L_h := Lo.refl z
  delta f_X12_known_24
  exact Lq.some L_h
theorem lo_f_X12_known_90 {n : Nat} {s0 : Int} (h : MM) (z : 100 ≤ nx h) : Lq h (f_X12_known_90 n s0 h) := by
  have L_h := Lo.refl z
  delta f_X12_known_90
  exact Lq.some L_h
theorem lo_f_X12_known {n : Nat} {v0 : Int} {v1 : Int} {v2 : Int} (h : MM) (z : 100 ≤ nx h) : Lq h (f_X12_known n v0 v1 v2 h) := by
  have L_h := Lo.refl z
  delta f_X12_known
  refine Lq.xgk ?_
  refine Lq.xbd L_h (lo_f_X12_isPaper h L_h.1) fun _ h1 L_h1 => ?_
  refine Lq.ite ?_ ?_
  exact Lq.tr L_h1 (lo_f_X12_known_24 h1 L_h1.1)
  refine Lq.xgf fun _ => ?_
  refine Lq.xrd fun _ => ?_
  refine Lq.xbd L_h1 (lo_f_X12_in h1 L_h1.1) fun _ h5 L_h5 => ?_
  refine Lq.ite ?_ ?_
  exact Lq.tr L_h5 (lo_f_X12_known_24 h5 L_h5.1)
  refine Lq.xgf fun _ => ?_
  refine Lq.xrd fun _ => ?_
  refine Lq.ite ?_ ?_
  refine Lq.xgf fun _ => ?_
  refine Lq.xgk ?_
  refine Lq.xbd L_h5 (lo_f_X12_indexOf h5 L_h5.1) fun _ h14 L_h14 => ?_
  refine Lq.xrd fun _ => ?_
  exact Lq.tr L_h14 (lo_f_X12_known_90 h14 L_h14.1)
  refine Lq.ite ?_ ?_
  refine Lq.xgf fun _ => ?_
  refine Lq.xrd fun _ => ?_
  exact Lq.tr L_h5 (lo_f_X12_known_90 h5 L_h5.1)
  exact Lq.tr L_h5 (lo_f_X12_known_90 h5 L_h5.1)
theorem lo_f_X12_image_2b {n : Nat} {rec2 : Int → MM → RR} {v0 : Int} {v1 : Int} (q_rec2 : ∀ (a0 : Int) (h : MM), 100 ≤ nx h → Lq h (rec2 a0 h)) (h : MM) (z : 100 ≤ nx h) : Lq h (f_X12_image_2b n rec2 v0 v1 h) := by
  have L_h := Lo.refl z
  delta f_X12_image_2b
  refine Lq.ite ?_ ?_
  refine Lq.xck ?_
  refine Lq.xpf L_h fun h2 L_h2 => ?_
  refine Lq.xgf fun _ => ?_
  refine Lq.xrd fun _ => ?_
  exact Lq.some L_h2
  refine Lq.xgf fun _ => ?_
  refine Lq.xgf fun _ => ?_
  refine Lq.xrd fun _ => ?_
  refine Lq.xwt L_h fun h9 L_h9 => ?_
  refine Lq.xlb fun _ => ?_
  exact Lq.tr L_h9 (q_rec2 _ h9 L_h9.1)
theorem lo_f_X12_image_2 {n : Nat} {v0 : Int} : ∀ (k : Nat) (v1 : Int) (h : MM), 100 ≤ nx h → Lq h (f_X12_image_2 n v0 k v1 h)
  | 0, _, _, _ => Lq.none
  | k + 1, v1, h, z => lo_f_X12_image_2b (fun b0 h z => lo_f_X12_image_2 k b0 h z) h z
theorem lo_f_X12_image {n : Nat} {v0 : Int} (h : MM) (z : 100 ≤ nx h) : Lq h (f_X12_image n v0 h) := by
  have L_h := Lo.refl z
  delta f_X12_image
  exact Lq.tr L_h (lo_f_X12_image_2 _ _ h L_h.1)
theorem lo_f_X12_undo_12b {n : Nat} {rec12 : Int → MM → RR} {v0 : Int} {v1 : Int} (q_rec12 : ∀ (a0 : Int) (h : MM), 100 ≤ nx h → Lq h (rec12 a0 h)) (h : MM) (z : 100 ≤ nx h) : Lq h (f_X12_undo_12b n rec12 v0 v1 h) := by
  have L_h := Lo.refl z
  delta f_X12_undo_12b
  refine Lq.ite ?_ ?_
  refine Lq.xgf fun _ => ?_
  refine Lq.xrd fun _ => ?_
  exact Lq.some L_h
  refine Lq.xgf fun _ => ?_
  refine Lq.xgf fun _ => ?_
  refine Lq.xrd fun _ => ?_
  refine Lq.xwt L_h fun h7 L_h7 => ?_
  refine Lq.xlb fun _ => ?_
  exact Lq.tr L_h7 (q_rec12 _ h7 L_h7.1)
theorem lo_f_X12_undo_12 {n : Nat} {v0 : Int} : ∀ (k : Nat) (v1 : Int) (h : MM), 100 ≤ nx h → Lq h (f_X12_undo_12 n v0 k v1 h)
  | 0, _, _, _ => Lq.none
  | k + 1, v1, h, z => lo_f_X12_undo_12b (fun b0 h z => lo_f_X12_undo_12 k b0 h z) h z
theorem lo_f_X12_undo {n : Nat} {v0 : Int} (h : MM) (z : 100 ≤ nx h) : Lq h (f_X12_undo n v0 h) := by
  have L_h := Lo.refl z
  delta f_X12_undo
  refine Lq.xgf fun _ => ?_
  refine Lq.ite ?_ ?_
  exact Lq.some L_h
  exact Lq.tr L_h (lo_f_X12_undo_12 _ _ h L_h.1)
theorem lo_f_X12_count_146 {n : Nat} {rec109 : Int → Int → MM → RR} {v0 : Int} {v3 : Int} {s0 : Int} {s1 : Int} (q_rec109 : ∀ (a0 a1 : Int) (h : MM), 100 ≤ nx h → Lq h (rec109 a0 a1 h)) (h : MM) (z : 100 ≤ nx h) : Lq h (f_X12_count_146 n rec109 v0 v3 s0 s1 h) := by
  have L_h := Lo.refl z
  delta f_X12_count_146
  refine Lq.xlb fun _ => ?_
  refine Lq.xlb fun _ => ?_
  exact Lq.tr L_h (q_rec109 _ _ h L_h.1)
theorem lo_f_X12_count_145 {n : Nat} {rec109 : Int → Int → MM → RR} {v0 : Int} {v3 : Int} {s0 : Int} (q_rec109 : ∀ (a0 a1 : Int) (h : MM), 100 ≤ nx h → Lq h (rec109 a0 a1 h)) (h : MM) (z : 100 ≤ nx h) : Lq h (f_X12_count_145 n rec109 v0 v3 s0 h) := by
  have L_h := Lo.refl z
  delta f_X12_count_145
  exact Lq.tr L_h (lo_f_X12_count_146 q_rec109 h L_h.1)
theorem lo_f_X12_count_109b {n : Nat} {rec109 : Int → Int → MM → RR} {v0 : Int} {v2 : Int} {v3 : Int} (q_rec109 : ∀ (a0 a1 : Int) (h : MM), 100 ≤ nx h → Lq h (rec109 a0 a1 h)) (h : MM) (z : 100 ≤ nx h) : Lq h (f_X12_count_109b n rec109 v0 v2 v3 h) := by
  have L_h := Lo.refl z
  delta f_X12_count_109b
  refine Lq.xgf fun _ => ?_
  refine Lq.xrd fun _ => ?_
  refine Lq.ite ?_ ?_
  exact Lq.some L_h
  refine Lq.xgk ?_
  refine Lq.xbd L_h (lo_f_X12_isGranted h L_h.1) fun _ h4 L_h4 => ?_
  refine Lq.ite ?_ ?_
  exact Lq.tr L_h4 (lo_f_X12_count_145 q_rec109 h4 L_h4.1)
  refine Lq.xgf fun _ => ?_
  refine Lq.xrd fun _ => ?_
  refine Lq.ite ?_ ?_
  exact Lq.tr L_h4 (lo_f_X12_count_146 q_rec109 h4 L_h4.1)
  exact Lq.tr L_h4 (lo_f_X12_count_145 q_rec109 h4 L_h4.1)
theorem lo_f_X12_count_109 {n : Nat} {v0 : Int} : ∀ (k : Nat) (v2 v3 : Int) (h : MM), 100 ≤ nx h → Lq h (f_X12_count_109 n v0 k v2 v3 h)
  | 0, _, _, _, _ => Lq.none
  | k + 1, v2, v3, h, z => lo_f_X12_count_109b (fun b0 b1 h z => lo_f_X12_count_109 k b0 b1 h z) h z
theorem lo_f_X12_count {n : Nat} {v0 : Int} {v1 : Int} (h : MM) (z : 100 ≤ nx h) : Lq h (f_X12_count n v0 v1 h) := by
  have L_h := Lo.refl z
  delta f_X12_count
  refine Lq.ite ?_ ?_
  refine Lq.xgf fun _ => ?_
  refine Lq.xrd fun _ => ?_
  exact Lq.some L_h
  refine Lq.ite ?_ ?_
  refine Lq.xgf fun _ => ?_
  refine Lq.xrd fun _ => ?_
  exact Lq.some L_h
  refine Lq.ite ?_ ?_
  refine Lq.xgf fun _ => ?_
  refine Lq.xrd fun _ => ?_
  exact Lq.some L_h
  refine Lq.ite ?_ ?_
  refine Lq.xgf fun _ => ?_
  refine Lq.xrd fun _ => ?_
  exact Lq.some L_h
  refine Lq.ite ?_ ?_
  refine Lq.xgf fun _ => ?_
  refine Lq.xrd fun _ => ?_
  exact Lq.some L_h
  refine Lq.ite ?_ ?_
  refine Lq.xgf fun _ => ?_
  refine Lq.xrd fun _ => ?_
  exact Lq.some L_h
  refine Lq.ite ?_ ?_
  refine Lq.xgk ?_
  refine Lq.xbd L_h (lo_f_X12_granted h L_h.1) fun _ h20 L_h20 => ?_
  exact Lq.some L_h20
  refine Lq.ite ?_ ?_
  exact Lq.tr L_h (lo_f_X12_count_109 _ _ _ h L_h.1)
  refine Lq.ite ?_ ?_
  refine Lq.xgf fun _ => ?_
  refine Lq.xrd fun _ => ?_
  exact Lq.some L_h
  refine Lq.ite ?_ ?_
  refine Lq.xgf fun _ => ?_
  refine Lq.xrd fun _ => ?_
  exact Lq.some L_h
  refine Lq.ite ?_ ?_
  refine Lq.xgf fun _ => ?_
  refine Lq.xrd fun _ => ?_
  exact Lq.some L_h
  exact Lq.some L_h
theorem lo_f_X12_sheet_29 {n : Nat} (h : MM) (z : 100 ≤ nx h) : Lq h (f_X12_sheet_29 n h) := by
  have L_h := Lo.refl z
  delta f_X12_sheet_29
  exact Lq.some L_h
theorem lo_f_X12_sheet_78b {n : Nat} {rec78 : Int → MM → RR} {v0 : Int} {v1 : Int} {v4 : Int} (q_rec78 : ∀ (a0 : Int) (h : MM), 100 ≤ nx h → Lq h (rec78 a0 h)) (h : MM) (z : 100 ≤ nx h) : Lq h (f_X12_sheet_78b n rec78 v0 v1 v4 h) := by
  have L_h := Lo.refl z
  delta f_X12_sheet_78b
  refine Lq.ite ?_ ?_
  exact Lq.some L_h
  refine Lq.xgf fun _ => ?_
  refine Lq.xwt L_h fun h3 L_h3 => ?_
  refine Lq.xlb fun _ => ?_
  exact Lq.tr L_h3 (q_rec78 _ h3 L_h3.1)
theorem lo_f_X12_sheet_78 {n : Nat} {v0 : Int} {v1 : Int} : ∀ (k : Nat) (v4 : Int) (h : MM), 100 ≤ nx h → Lq h (f_X12_sheet_78 n v0 v1 k v4 h)
  | 0, _, _, _ => Lq.none
  | k + 1, v4, h, z => lo_f_X12_sheet_78b (fun b0 h z => lo_f_X12_sheet_78 k b0 h z) h z
theorem lo_f_X12_sheet_74 {n : Nat} {v0 : Int} {v1 : Int} {s0 : Int} {s1 : Int} {s2 : Int} (h : MM) (z : 100 ≤ nx h) : Lq h (f_X12_sheet_74 n v0 v1 s0 s1 s2 h) := by
  have L_h := Lo.refl z
  delta f_X12_sheet_74
  refine Lq.xwt L_h fun h1 L_h1 => ?_
  exact Lq.tr L_h1 (lo_f_X12_sheet_78 _ _ h1 L_h1.1)
theorem lo_f_X12_sheet_44 {n : Nat} {v0 : Int} {v1 : Int} {v2 : Int} {v3 : Int} (h : MM) (z : 100 ≤ nx h) : Lq h (f_X12_sheet_44 n v0 v1 v2 v3 h) := by
  have L_h := Lo.refl z
  delta f_X12_sheet_44
  refine Lq.xgf fun _ => ?_
  refine Lq.xwt L_h fun h2 L_h2 => ?_
  refine Lq.xgf fun _ => ?_
  refine Lq.ite ?_ ?_
  exact Lq.tr L_h2 (lo_f_X12_sheet_74 h2 L_h2.1)
  exact Lq.tr L_h2 (lo_f_X12_sheet_74 h2 L_h2.1)
theorem lo_f_X12_sheet_32 {n : Nat} {v0 : Int} {v1 : Int} {v2 : Int} {v3 : Int} (h : MM) (z : 100 ≤ nx h) : Lq h (f_X12_sheet_32 n v0 v1 v2 v3 h) := by
  have L_h := Lo.refl z
  delta f_X12_sheet_32
  refine Lq.ite ?_ ?_
  exact Lq.tr L_h (lo_f_X12_sheet_44 h L_h.1)
  refine Lq.ite ?_ ?_
  exact Lq.tr L_h (lo_f_X12_sheet_44 h L_h.1)
  exact Lq.some L_h
theorem lo_f_X12_sheet {n : Nat} {v0 : Int} {v1 : Int} {v2 : Int} {v3 : Int} (h : MM) (z : 100 ≤ nx h) : Lq h (f_X12_sheet n v0 v1 v2 v3 h) := by
  have L_h := Lo.refl z
  delta f_X12_sheet
  refine Lq.xbd L_h (lo_f_X12_isSheet h L_h.1) fun _ h1 L_h1 => ?_
  refine Lq.ite ?_ ?_
  exact Lq.some L_h1
  refine Lq.xbd L_h1 (lo_f_X12_in h1 L_h1.1) fun _ h3 L_h3 => ?_
  refine Lq.ite ?_ ?_
  exact Lq.tr L_h3 (lo_f_X12_sheet_29 h3 L_h3.1)
  refine Lq.ite ?_ ?_
  exact Lq.tr L_h3 (lo_f_X12_sheet_32 h3 L_h3.1)
  refine Lq.ite ?_ ?_
  exact Lq.tr L_h3 (lo_f_X12_sheet_32 h3 L_h3.1)
  exact Lq.tr L_h3 (lo_f_X12_sheet_29 h3 L_h3.1)
theorem lo_f_X12_item_89 {n : Nat} {s0 : Int} {s1 : Int} {s2 : Int} (h : MM) (z : 100 ≤ nx h) : Lq h (f_X12_item_89 n s0 s1 s2 h) := by
  have L_h := Lo.refl z
  delta f_X12_item_89
  refine Lq.xwt L_h fun h1 L_h1 => ?_
  exact Lq.some L_h1
theorem lo_f_X12_item {n : Nat} {v0 : Int} {v1 : Int} {v2 : Int} {v3 : Int} (h : MM) (z : 100 ≤ nx h) : Lq h (f_X12_item n v0 v1 v2 v3 h) := by
  have L_h := Lo.refl z
  delta f_X12_item
  refine Lq.xbd L_h (lo_f_X12_isSheet h L_h.1) fun _ h1 L_h1 => ?_
  refine Lq.ite ?_ ?_
  exact Lq.some L_h1
  refine Lq.xgf fun _ => ?_
  refine Lq.xrd fun _ => ?_
  refine Lq.ite ?_ ?_
  exact Lq.some L_h1
  refine Lq.xgf fun _ => ?_
  refine Lq.xrd fun _ => ?_
  refine Lq.xbd L_h1 (lo_f_X12_in h1 L_h1.1) fun _ h8 L_h8 => ?_
  refine Lq.ite ?_ ?_
  exact Lq.some L_h8
  refine Lq.xgf fun _ => ?_
  refine Lq.ite ?_ ?_
  exact Lq.tr L_h8 (lo_f_X12_item_89 h8 L_h8.1)
  refine Lq.ite ?_ ?_
  exact Lq.tr L_h8 (lo_f_X12_item_89 h8 L_h8.1)
  exact Lq.tr L_h8 (lo_f_X12_item_89 h8 L_h8.1)
theorem lo_f_X12_copy_14 {n : Nat} (h : MM) (z : 100 ≤ nx h) : Lq h (f_X12_copy_14 n h) := by
  have L_h := Lo.refl z
  delta f_X12_copy_14
  exact Lq.some L_h
theorem lo_f_X12_copy_44 {n : Nat} (h : MM) (z : 100 ≤ nx h) : Lq h (f_X12_copy_44 n h) := by
  have L_h := Lo.refl z
  delta f_X12_copy_44
  exact Lq.some L_h
theorem lo_f_X12_copy_122 {n : Nat} (h : MM) (z : 100 ≤ nx h) : Lq h (f_X12_copy_122 n h) := by
  have L_h := Lo.refl z
  delta f_X12_copy_122
  exact Lq.some L_h
theorem lo_f_X12_copy_169b {n : Nat} {rec169 : Int → MM → RR} {v0 : Int} {v3 : Int} {v4 : Int} {v5 : Int} {v6 : Int} (q_rec169 : ∀ (a0 : Int) (h : MM), 100 ≤ nx h → Lq h (rec169 a0 h)) (h : MM) (z : 100 ≤ nx h) : Lq h (f_X12_copy_169b n rec169 v0 v3 v4 v5 v6 h) := by
  have L_h := Lo.refl z
  delta f_X12_copy_169b
  refine Lq.ite ?_ ?_
  exact Lq.some L_h
  refine Lq.xgf fun _ => ?_
  refine Lq.xgf fun _ => ?_
  refine Lq.xrd fun _ => ?_
  refine Lq.xwt L_h fun h5 L_h5 => ?_
  refine Lq.xlb fun _ => ?_
  exact Lq.tr L_h5 (q_rec169 _ h5 L_h5.1)
theorem lo_f_X12_copy_169 {n : Nat} {v0 : Int} {v3 : Int} {v4 : Int} {v5 : Int} : ∀ (k : Nat) (v6 : Int) (h : MM), 100 ≤ nx h → Lq h (f_X12_copy_169 n v0 v3 v4 v5 k v6 h)
  | 0, _, _, _ => Lq.none
  | k + 1, v6, h, z => lo_f_X12_copy_169b (fun b0 h z => lo_f_X12_copy_169 k b0 h z) h z
theorem lo_f_X12_copy_128b {n : Nat} {rec128 : Int → MM → RR} {v0 : Int} {v1 : Int} {v2 : Int} {v3 : Int} {v4 : Int} {v5 : Int} {v6 : Int} (q_rec128 : ∀ (a0 : Int) (h : MM), 100 ≤ nx h → Lq h (rec128 a0 h)) (h : MM) (z : 100 ≤ nx h) : Lq h (f_X12_copy_128b n rec128 v0 v1 v2 v3 v4 v5 v6 h) := by
  have L_h := Lo.refl z
  delta f_X12_copy_128b
  refine Lq.ite ?_ ?_
  exact Lq.tr L_h (lo_f_X12_copy_169 _ _ h L_h.1)
  refine Lq.xgf fun _ => ?_
  refine Lq.xgf fun _ => ?_
  refine Lq.xrd fun _ => ?_
  refine Lq.xwt L_h fun h5 L_h5 => ?_
  refine Lq.xlb fun _ => ?_
  exact Lq.tr L_h5 (q_rec128 _ h5 L_h5.1)
theorem lo_f_X12_copy_128 {n : Nat} {v0 : Int} {v1 : Int} {v2 : Int} {v3 : Int} {v4 : Int} {v5 : Int} : ∀ (k : Nat) (v6 : Int) (h : MM), 100 ≤ nx h → Lq h (f_X12_copy_128 n v0 v1 v2 v3 v4 v5 k v6 h)
  | 0, _, _, _ => Lq.none
  | k + 1, v6, h, z => lo_f_X12_copy_128b (fun b0 h z => lo_f_X12_copy_128 k b0 h z) h z
theorem lo_f_X12_copy {n : Nat} {v0 : Int} {v1 : Int} {v2 : Int} {v3 : Int} {v4 : Int} {v5 : Int} (h : MM) (z : 100 ≤ nx h) : Lq h (f_X12_copy n v0 v1 v2 v3 v4 v5 h) := by
  have L_h := Lo.refl z
  delta f_X12_copy
  refine Lq.xbd L_h (lo_f_X12_isSheet h L_h.1) fun _ h1 L_h1 => ?_
  refine Lq.ite ?_ ?_
  exact Lq.tr L_h1 (lo_f_X12_copy_14 h1 L_h1.1)
  refine Lq.xbd L_h1 (lo_f_X12_isSheet h1 L_h1.1) fun _ h3 L_h3 => ?_
  refine Lq.ite ?_ ?_
  exact Lq.tr L_h3 (lo_f_X12_copy_14 h3 L_h3.1)
  refine Lq.xgf fun _ => ?_
  refine Lq.xrd fun _ => ?_
  refine Lq.ite ?_ ?_
  exact Lq.tr L_h3 (lo_f_X12_copy_44 h3 L_h3.1)
  refine Lq.xgf fun _ => ?_
  refine Lq.xrd fun _ => ?_
  refine Lq.ite ?_ ?_
  exact Lq.tr L_h3 (lo_f_X12_copy_44 h3 L_h3.1)
  refine Lq.xgf fun _ => ?_
  refine Lq.xrd fun _ => ?_
  refine Lq.xgf fun _ => ?_
  refine Lq.xrd fun _ => ?_
  refine Lq.ite ?_ ?_
  refine Lq.ite ?_ ?_
  exact Lq.tr L_h3 (lo_f_X12_copy_122 h3 L_h3.1)
  refine Lq.ite ?_ ?_
  exact Lq.tr L_h3 (lo_f_X12_copy_122 h3 L_h3.1)
  refine Lq.ite ?_ ?_
  exact Lq.tr L_h3 (lo_f_X12_copy_122 h3 L_h3.1)
  refine Lq.xgf fun _ => ?_
  refine Lq.xrd fun _ => ?_
  refine Lq.ite ?_ ?_
  exact Lq.tr L_h3 (lo_f_X12_copy_122 h3 L_h3.1)
  refine Lq.xgf fun _ => ?_
  refine Lq.xrd fun _ => ?_
  refine Lq.ite ?_ ?_
  exact Lq.tr L_h3 (lo_f_X12_copy_128 _ _ h3 L_h3.1)
  exact Lq.tr L_h3 (lo_f_X12_copy_122 h3 L_h3.1)
  exact Lq.some L_h3
theorem lo_f_L_law_1923 {n : Nat} {rec18 : Int → MM → RR} {v0 : Int} {v1 : Int} {v2 : Int} {v3 : Int} (q_rec18 : ∀ (a0 : Int) (h : MM), 100 ≤ nx h → Lq h (rec18 a0 h)) (h : MM) (z : 100 ≤ nx h) : Lq h (f_L_law_1923 n rec18 v0 v1 v2 v3 h) := by
  have L_h := Lo.refl z
  delta f_L_law_1923
  refine Lq.xlb fun _ => ?_
  exact Lq.tr L_h (q_rec18 _ h L_h.1)
theorem lo_f_L_law_1348 {n : Nat} {rec18 : Int → MM → RR} {v0 : Int} {v1 : Int} {v2 : Int} {v3 : Int} {s0 : Int} {s1 : Int} {s2 : Int} {s3 : Int} {s4 : Int} {s5 : Int} {s6 : Int} (q_rec18 : ∀ (a0 : Int) (h : MM), 100 ≤ nx h → Lq h (rec18 a0 h)) (h : MM) (z : 100 ≤ nx h) : Lq h (f_L_law_1348 n rec18 v0 v1 v2 v3 s0 s1 s2 s3 s4 s5 s6 h) := by
  have L_h := Lo.refl z
  delta f_L_law_1348
  refine Lq.xgk ?_
  refine Lq.xbd L_h (lo_f_X12_ask h L_h.1) fun _ h1 L_h1 => ?_
  refine Lq.ite ?_ ?_
  exact Lq.tr L_h1 (lo_f_L_law_1923 q_rec18 h1 L_h1.1)
  refine Lq.xck ?_
  exact Lq.some L_h1
theorem lo_f_L_law_1311 {n : Nat} {rec18 : Int → MM → RR} {v0 : Int} {v1 : Int} {v2 : Int} {v3 : Int} {s0 : Int} {s1 : Int} {s2 : Int} {s3 : Int} {s4 : Int} {s5 : Int} (q_rec18 : ∀ (a0 : Int) (h : MM), 100 ≤ nx h → Lq h (rec18 a0 h)) (h : MM) (z : 100 ≤ nx h) : Lq h (f_L_law_1311 n rec18 v0 v1 v2 v3 s0 s1 s2 s3 s4 s5 h) := by
  have L_h := Lo.refl z
  delta f_L_law_1311
  refine Lq.xgk ?_
  refine Lq.xbd L_h (lo_f_X11_ask h L_h.1) fun _ h1 L_h1 => ?_
  refine Lq.xrd fun _ => ?_
  refine Lq.xrd fun _ => ?_
  refine Lq.xrd fun _ => ?_
  refine Lq.xrd fun _ => ?_
  refine Lq.xrd fun _ => ?_
  refine Lq.ite ?_ ?_
  exact Lq.tr L_h1 (lo_f_L_law_1348 q_rec18 h1 L_h1.1)
  exact Lq.tr L_h1 (lo_f_L_law_1348 q_rec18 h1 L_h1.1)
theorem lo_f_L_law_1081 {n : Nat} {rec18 : Int → MM → RR} {v0 : Int} {v1 : Int} {v2 : Int} {v3 : Int} {s0 : Int} {s1 : Int} {s2 : Int} {s3 : Int} {s4 : Int} (q_rec18 : ∀ (a0 : Int) (h : MM), 100 ≤ nx h → Lq h (rec18 a0 h)) (h : MM) (z : 100 ≤ nx h) : Lq h (f_L_law_1081 n rec18 v0 v1 v2 v3 s0 s1 s2 s3 s4 h) := by
  have L_h := Lo.refl z
  delta f_L_law_1081
  refine Lq.xgk ?_
  refine Lq.xbd L_h (lo_f_X12_board h L_h.1) fun _ h1 L_h1 => ?_
  refine Lq.ite ?_ ?_
  exact Lq.tr L_h1 (lo_f_L_law_1923 q_rec18 h1 L_h1.1)
  refine Lq.xck ?_
  exact Lq.some L_h1
theorem lo_f_L_law_1054 {n : Nat} {rec18 : Int → MM → RR} {v0 : Int} {v1 : Int} {v2 : Int} {v3 : Int} {s0 : Int} {s1 : Int} {s2 : Int} {s3 : Int} (q_rec18 : ∀ (a0 : Int) (h : MM), 100 ≤ nx h → Lq h (rec18 a0 h)) (h : MM) (z : 100 ≤ nx h) : Lq h (f_L_law_1054 n rec18 v0 v1 v2 v3 s0 s1 s2 s3 h) := by
  have L_h := Lo.refl z
  delta f_L_law_1054
  refine Lq.xgk ?_
  refine Lq.xbd L_h (lo_f_X11_board h L_h.1) fun _ h1 L_h1 => ?_
  refine Lq.xrd fun _ => ?_
  refine Lq.xrd fun _ => ?_
  refine Lq.xrd fun _ => ?_
  refine Lq.ite ?_ ?_
  exact Lq.tr L_h1 (lo_f_L_law_1081 q_rec18 h1 L_h1.1)
  exact Lq.tr L_h1 (lo_f_L_law_1081 q_rec18 h1 L_h1.1)
theorem lo_f_L_law_18b {n : Nat} {rec18 : Int → MM → RR} {v0 : Int} {v1 : Int} {v2 : Int} {v3 : Int} (q_rec18 : ∀ (a0 : Int) (h : MM), 100 ≤ nx h → Lq h (rec18 a0 h)) (h : MM) (z : 100 ≤ nx h) : Lq h (f_L_law_18b n rec18 v0 v1 v2 v3 h) := by
  have L_h := Lo.refl z
  delta f_L_law_18b
  refine Lq.xal fun _ => ?_
  refine Lq.ite ?_ ?_
  refine Lq.xck ?_
  exact Lq.some L_h
  refine Lq.xrd fun _ => ?_
  refine Lq.ite ?_ ?_
  refine Lq.xrd fun _ => ?_
  refine Lq.xrd fun _ => ?_
  refine Lq.xrd fun _ => ?_
  refine Lq.xgk ?_
  refine Lq.xbd L_h (lo_f_X11_land h L_h.1) fun _ h9 L_h9 => ?_
  refine Lq.xrd fun _ => ?_
  refine Lq.xrd fun _ => ?_
  refine Lq.xrd fun _ => ?_
  refine Lq.xgk ?_
  refine Lq.xbd L_h9 (lo_f_X12_land h9 L_h9.1) fun _ h13 L_h13 => ?_
  refine Lq.ite ?_ ?_
  exact Lq.tr L_h13 (lo_f_L_law_1923 q_rec18 h13 L_h13.1)
  refine Lq.xck ?_
  exact Lq.some L_h13
  refine Lq.ite ?_ ?_
  refine Lq.xrd fun _ => ?_
  refine Lq.xrd fun _ => ?_
  refine Lq.xgk ?_
  refine Lq.xbd L_h (lo_f_X11_town h L_h.1) fun _ h19 L_h19 => ?_
  refine Lq.xrd fun _ => ?_
  refine Lq.xrd fun _ => ?_
  refine Lq.xgk ?_
  refine Lq.xbd L_h19 (lo_f_X12_town h19 L_h19.1) fun _ h22 L_h22 => ?_
  refine Lq.ite ?_ ?_
  exact Lq.tr L_h22 (lo_f_L_law_1923 q_rec18 h22 L_h22.1)
  refine Lq.xck ?_
  exact Lq.some L_h22
  refine Lq.ite ?_ ?_
  refine Lq.xrd fun _ => ?_
  refine Lq.xrd fun _ => ?_
  refine Lq.xgk ?_
  refine Lq.xbd L_h (lo_f_X11_coin h L_h.1) fun _ h28 L_h28 => ?_
  refine Lq.xrd fun _ => ?_
  refine Lq.xrd fun _ => ?_
  refine Lq.xgk ?_
  refine Lq.xbd L_h28 (lo_f_X12_coin h28 L_h28.1) fun _ h31 L_h31 => ?_
  refine Lq.ite ?_ ?_
  exact Lq.tr L_h31 (lo_f_L_law_1923 q_rec18 h31 L_h31.1)
  refine Lq.xck ?_
  exact Lq.some L_h31
  refine Lq.ite ?_ ?_
  refine Lq.xrd fun _ => ?_
  refine Lq.xgk ?_
  refine Lq.xbd L_h (lo_f_X11_man h L_h.1) fun _ h36 L_h36 => ?_
  refine Lq.xrd fun _ => ?_
  refine Lq.xgk ?_
  refine Lq.xbd L_h36 (lo_f_X12_man h36 L_h36.1) fun _ h38 L_h38 => ?_
  refine Lq.ite ?_ ?_
  exact Lq.tr L_h38 (lo_f_L_law_1923 q_rec18 h38 L_h38.1)
  refine Lq.xck ?_
  exact Lq.some L_h38
  refine Lq.ite ?_ ?_
  refine Lq.xrd fun _ => ?_
  refine Lq.xrd fun _ => ?_
  refine Lq.xrd fun _ => ?_
  refine Lq.xgk ?_
  refine Lq.xbd L_h (lo_f_X11_feed h L_h.1) fun _ h45 L_h45 => ?_
  refine Lq.xrd fun _ => ?_
  refine Lq.xrd fun _ => ?_
  refine Lq.xrd fun _ => ?_
  refine Lq.xgk ?_
  refine Lq.xbd L_h45 (lo_f_X12_feed h45 L_h45.1) fun _ h49 L_h49 => ?_
  refine Lq.ite ?_ ?_
  exact Lq.tr L_h49 (lo_f_L_law_1923 q_rec18 h49 L_h49.1)
  refine Lq.xck ?_
  exact Lq.some L_h49
  refine Lq.ite ?_ ?_
  refine Lq.xrd fun _ => ?_
  refine Lq.xgk ?_
  refine Lq.xbd L_h (lo_f_X11_text h L_h.1) fun _ h54 L_h54 => ?_
  refine Lq.xrd fun _ => ?_
  refine Lq.xgk ?_
  refine Lq.xbd L_h54 (lo_f_X12_text h54 L_h54.1) fun _ h56 L_h56 => ?_
  refine Lq.ite ?_ ?_
  exact Lq.tr L_h56 (lo_f_L_law_1923 q_rec18 h56 L_h56.1)
  refine Lq.xck ?_
  exact Lq.some L_h56
  refine Lq.ite ?_ ?_
  refine Lq.xrd fun _ => ?_
  refine Lq.xrd fun _ => ?_
  refine Lq.xgk ?_
  refine Lq.xbd L_h (lo_f_X11_force h L_h.1) fun _ h62 L_h62 => ?_
  refine Lq.xrd fun _ => ?_
  refine Lq.xrd fun _ => ?_
  refine Lq.xgk ?_
  refine Lq.xbd L_h62 (lo_f_X12_force h62 L_h62.1) fun _ h65 L_h65 => ?_
  refine Lq.ite ?_ ?_
  exact Lq.tr L_h65 (lo_f_L_law_1923 q_rec18 h65 L_h65.1)
  refine Lq.xck ?_
  exact Lq.some L_h65
  refine Lq.ite ?_ ?_
  refine Lq.xrd fun _ => ?_
  refine Lq.xrd fun _ => ?_
  refine Lq.xgk ?_
  refine Lq.xbd L_h (lo_f_X11_why h L_h.1) fun _ h71 L_h71 => ?_
  refine Lq.xrd fun _ => ?_
  refine Lq.xrd fun _ => ?_
  refine Lq.xgk ?_
  refine Lq.xbd L_h71 (lo_f_X12_why h71 L_h71.1) fun _ h74 L_h74 => ?_
  refine Lq.ite ?_ ?_
  exact Lq.tr L_h74 (lo_f_L_law_1923 q_rec18 h74 L_h74.1)
  refine Lq.xck ?_
  exact Lq.some L_h74
  refine Lq.ite ?_ ?_
  refine Lq.xrd fun _ => ?_
  refine Lq.xrd fun _ => ?_
  refine Lq.xrd fun _ => ?_
  refine Lq.xrd fun _ => ?_
  refine Lq.xgk ?_
  refine Lq.xbd L_h (lo_f_X11_scheme h L_h.1) fun _ h82 L_h82 => ?_
  refine Lq.xrd fun _ => ?_
  refine Lq.xrd fun _ => ?_
  refine Lq.xrd fun _ => ?_
  refine Lq.xrd fun _ => ?_
  refine Lq.xgk ?_
  refine Lq.xbd L_h82 (lo_f_X12_scheme h82 L_h82.1) fun _ h87 L_h87 => ?_
  refine Lq.ite ?_ ?_
  exact Lq.tr L_h87 (lo_f_L_law_1923 q_rec18 h87 L_h87.1)
  refine Lq.xck ?_
  exact Lq.some L_h87
  refine Lq.ite ?_ ?_
  refine Lq.xrd fun _ => ?_
  refine Lq.xrd fun _ => ?_
  refine Lq.xrd fun _ => ?_
  refine Lq.xgk ?_
  refine Lq.xbd L_h (lo_f_X11_chain h L_h.1) fun _ h94 L_h94 => ?_
  refine Lq.xrd fun _ => ?_
  refine Lq.xrd fun _ => ?_
  refine Lq.xrd fun _ => ?_
  refine Lq.xgk ?_
  refine Lq.xbd L_h94 (lo_f_X12_chain h94 L_h94.1) fun _ h98 L_h98 => ?_
  refine Lq.ite ?_ ?_
  exact Lq.tr L_h98 (lo_f_L_law_1923 q_rec18 h98 L_h98.1)
  refine Lq.xck ?_
  exact Lq.some L_h98
  refine Lq.ite ?_ ?_
  refine Lq.xrd fun _ => ?_
  refine Lq.xrd fun _ => ?_
  refine Lq.xgk ?_
  refine Lq.xbd L_h (lo_f_X11_way h L_h.1) fun _ h104 L_h104 => ?_
  refine Lq.xrd fun _ => ?_
  refine Lq.xrd fun _ => ?_
  refine Lq.xgk ?_
  refine Lq.xbd L_h104 (lo_f_X12_way h104 L_h104.1) fun _ h107 L_h107 => ?_
  refine Lq.ite ?_ ?_
  exact Lq.tr L_h107 (lo_f_L_law_1923 q_rec18 h107 L_h107.1)
  refine Lq.xck ?_
  exact Lq.some L_h107
  refine Lq.ite ?_ ?_
  refine Lq.xrd fun _ => ?_
  refine Lq.xrd fun _ => ?_
  refine Lq.xgk ?_
  refine Lq.xbd L_h (lo_f_X11_level h L_h.1) fun _ h113 L_h113 => ?_
  refine Lq.xrd fun _ => ?_
  refine Lq.xrd fun _ => ?_
  refine Lq.xgk ?_
  refine Lq.xbd L_h113 (lo_f_X12_level h113 L_h113.1) fun _ h116 L_h116 => ?_
  refine Lq.ite ?_ ?_
  exact Lq.tr L_h116 (lo_f_L_law_1923 q_rec18 h116 L_h116.1)
  refine Lq.xck ?_
  exact Lq.some L_h116
  refine Lq.ite ?_ ?_
  refine Lq.xrd fun _ => ?_
  refine Lq.xrd fun _ => ?_
  refine Lq.xrd fun _ => ?_
  refine Lq.xgk ?_
  refine Lq.xbd L_h (lo_f_X11_close h L_h.1) fun _ h123 L_h123 => ?_
  refine Lq.xrd fun _ => ?_
  refine Lq.xrd fun _ => ?_
  refine Lq.xrd fun _ => ?_
  refine Lq.xgk ?_
  refine Lq.xbd L_h123 (lo_f_X12_close h123 L_h123.1) fun _ h127 L_h127 => ?_
  refine Lq.ite ?_ ?_
  exact Lq.tr L_h127 (lo_f_L_law_1923 q_rec18 h127 L_h127.1)
  refine Lq.xck ?_
  exact Lq.some L_h127
  refine Lq.ite ?_ ?_
  refine Lq.xrd fun _ => ?_
  refine Lq.xrd fun _ => ?_
  refine Lq.xgk ?_
  refine Lq.xbd L_h (lo_f_X11_quarrel h L_h.1) fun _ h133 L_h133 => ?_
  refine Lq.xrd fun _ => ?_
  refine Lq.xrd fun _ => ?_
  refine Lq.xgk ?_
  refine Lq.xbd L_h133 (lo_f_X12_quarrel h133 L_h133.1) fun _ h136 L_h136 => ?_
  refine Lq.ite ?_ ?_
  exact Lq.tr L_h136 (lo_f_L_law_1923 q_rec18 h136 L_h136.1)
  refine Lq.xck ?_
  exact Lq.some L_h136
  refine Lq.ite ?_ ?_
  refine Lq.xrd fun _ => ?_
  refine Lq.xrd fun _ => ?_
  refine Lq.xrd fun _ => ?_
  refine Lq.xrd fun _ => ?_
  refine Lq.xgk ?_
  refine Lq.xbd L_h (lo_f_X11_slope h L_h.1) fun _ h144 L_h144 => ?_
  refine Lq.xrd fun _ => ?_
  refine Lq.xrd fun _ => ?_
  refine Lq.xrd fun _ => ?_
  refine Lq.xrd fun _ => ?_
  refine Lq.xgk ?_
  refine Lq.xbd L_h144 (lo_f_X12_slope h144 L_h144.1) fun _ h149 L_h149 => ?_
  refine Lq.ite ?_ ?_
  exact Lq.tr L_h149 (lo_f_L_law_1923 q_rec18 h149 L_h149.1)
  refine Lq.xck ?_
  exact Lq.some L_h149
  refine Lq.ite ?_ ?_
  refine Lq.xrd fun _ => ?_
  refine Lq.xrd fun _ => ?_
  refine Lq.xgk ?_
  refine Lq.xbd L_h (lo_f_X11_claim h L_h.1) fun _ h155 L_h155 => ?_
  refine Lq.xrd fun _ => ?_
  refine Lq.xrd fun _ => ?_
  refine Lq.xgk ?_
  refine Lq.xbd L_h155 (lo_f_X12_claim h155 L_h155.1) fun _ h158 L_h158 => ?_
  refine Lq.ite ?_ ?_
  exact Lq.tr L_h158 (lo_f_L_law_1923 q_rec18 h158 L_h158.1)
  refine Lq.xck ?_
  exact Lq.some L_h158
  refine Lq.ite ?_ ?_
  refine Lq.xrd fun _ => ?_
  refine Lq.xgk ?_
  refine Lq.xbd L_h (lo_f_X11_bill h L_h.1) fun _ h163 L_h163 => ?_
  refine Lq.xrd fun _ => ?_
  refine Lq.xgk ?_
  refine Lq.xbd L_h163 (lo_f_X12_bill h163 L_h163.1) fun _ h165 L_h165 => ?_
  refine Lq.ite ?_ ?_
  exact Lq.tr L_h165 (lo_f_L_law_1923 q_rec18 h165 L_h165.1)
  refine Lq.xck ?_
  exact Lq.some L_h165
  refine Lq.ite ?_ ?_
  refine Lq.xrd fun _ => ?_
  refine Lq.xrd fun _ => ?_
  refine Lq.xgk ?_
  refine Lq.xbd L_h (lo_f_X11_hear h L_h.1) fun _ h171 L_h171 => ?_
  refine Lq.xrd fun _ => ?_
  refine Lq.xrd fun _ => ?_
  refine Lq.xgk ?_
  refine Lq.xbd L_h171 (lo_f_X12_hear h171 L_h171.1) fun _ h174 L_h174 => ?_
  refine Lq.ite ?_ ?_
  exact Lq.tr L_h174 (lo_f_L_law_1923 q_rec18 h174 L_h174.1)
  refine Lq.xck ?_
  exact Lq.some L_h174
  refine Lq.ite ?_ ?_
  refine Lq.xrd fun _ => ?_
  refine Lq.xrd fun _ => ?_
  refine Lq.xgk ?_
  refine Lq.xbd L_h (lo_f_X11_bar h L_h.1) fun _ h180 L_h180 => ?_
  refine Lq.xrd fun _ => ?_
  refine Lq.xrd fun _ => ?_
  refine Lq.xgk ?_
  refine Lq.xbd L_h180 (lo_f_X12_bar h180 L_h180.1) fun _ h183 L_h183 => ?_
  refine Lq.ite ?_ ?_
  exact Lq.tr L_h183 (lo_f_L_law_1923 q_rec18 h183 L_h183.1)
  refine Lq.xck ?_
  exact Lq.some L_h183
  refine Lq.ite ?_ ?_
  refine Lq.xrd fun _ => ?_
  refine Lq.xgk ?_
  refine Lq.xbd L_h (lo_f_X11_grant h L_h.1) fun _ h188 L_h188 => ?_
  refine Lq.xrd fun _ => ?_
  refine Lq.xgk ?_
  refine Lq.xbd L_h188 (lo_f_X12_grant h188 L_h188.1) fun _ h190 L_h190 => ?_
  refine Lq.ite ?_ ?_
  exact Lq.tr L_h190 (lo_f_L_law_1923 q_rec18 h190 L_h190.1)
  refine Lq.xck ?_
  exact Lq.some L_h190
  refine Lq.ite ?_ ?_
  refine Lq.xrd fun _ => ?_
  refine Lq.xrd fun _ => ?_
  refine Lq.xgk ?_
  refine Lq.xbd L_h (lo_f_X11_cast h L_h.1) fun _ h196 L_h196 => ?_
  refine Lq.xrd fun _ => ?_
  refine Lq.xrd fun _ => ?_
  refine Lq.xgk ?_
  refine Lq.xbd L_h196 (lo_f_X12_cast h196 L_h196.1) fun _ h199 L_h199 => ?_
  refine Lq.ite ?_ ?_
  exact Lq.tr L_h199 (lo_f_L_law_1923 q_rec18 h199 L_h199.1)
  refine Lq.xck ?_
  exact Lq.some L_h199
  refine Lq.ite ?_ ?_
  refine Lq.xrd fun _ => ?_
  refine Lq.xrd fun _ => ?_
  refine Lq.xgk ?_
  refine Lq.xbd L_h (lo_f_X11_about h L_h.1) fun _ h205 L_h205 => ?_
  refine Lq.xrd fun _ => ?_
  refine Lq.xrd fun _ => ?_
  refine Lq.xgk ?_
  refine Lq.xbd L_h205 (lo_f_X12_about h205 L_h205.1) fun _ h208 L_h208 => ?_
  refine Lq.ite ?_ ?_
  exact Lq.tr L_h208 (lo_f_L_law_1923 q_rec18 h208 L_h208.1)
  refine Lq.xck ?_
  exact Lq.some L_h208
  refine Lq.ite ?_ ?_
  refine Lq.xrd fun _ => ?_
  refine Lq.xrd fun _ => ?_
  refine Lq.xrd fun _ => ?_
  refine Lq.ite ?_ ?_
  exact Lq.tr L_h (lo_f_L_law_1054 q_rec18 h L_h.1)
  exact Lq.tr L_h (lo_f_L_law_1054 q_rec18 h L_h.1)
  refine Lq.ite ?_ ?_
  refine Lq.xgk ?_
  refine Lq.xbd L_h (lo_f_X11_doubled h L_h.1) fun _ h217 L_h217 => ?_
  refine Lq.xgk ?_
  refine Lq.xbd L_h217 (lo_f_X12_doubled h217 L_h217.1) fun _ h218 L_h218 => ?_
  refine Lq.ite ?_ ?_
  exact Lq.tr L_h218 (lo_f_L_law_1923 q_rec18 h218 L_h218.1)
  refine Lq.xck ?_
  exact Lq.some L_h218
  refine Lq.ite ?_ ?_
  refine Lq.xrd fun _ => ?_
  refine Lq.xrd fun _ => ?_
  refine Lq.xgk ?_
  refine Lq.xbd L_h (lo_f_X11_hand h L_h.1) fun _ h224 L_h224 => ?_
  refine Lq.xrd fun _ => ?_
  refine Lq.xrd fun _ => ?_
  refine Lq.xgk ?_
  refine Lq.xbd L_h224 (lo_f_X12_hand h224 L_h224.1) fun _ h227 L_h227 => ?_
  refine Lq.ite ?_ ?_
  exact Lq.tr L_h227 (lo_f_L_law_1923 q_rec18 h227 L_h227.1)
  refine Lq.xck ?_
  exact Lq.some L_h227
  refine Lq.ite ?_ ?_
  refine Lq.xrd fun _ => ?_
  refine Lq.xrd fun _ => ?_
  refine Lq.xgk ?_
  refine Lq.xbd L_h (lo_f_X11_midnight h L_h.1) fun _ h233 L_h233 => ?_
  refine Lq.xrd fun _ => ?_
  refine Lq.xrd fun _ => ?_
  refine Lq.xgk ?_
  refine Lq.xbd L_h233 (lo_f_X12_midnight h233 L_h233.1) fun _ h236 L_h236 => ?_
  refine Lq.ite ?_ ?_
  exact Lq.tr L_h236 (lo_f_L_law_1923 q_rec18 h236 L_h236.1)
  refine Lq.xck ?_
  exact Lq.some L_h236
  refine Lq.ite ?_ ?_
  refine Lq.xrd fun _ => ?_
  refine Lq.xrd fun _ => ?_
  refine Lq.xrd fun _ => ?_
  refine Lq.xgk ?_
  refine Lq.xbd L_h (lo_f_X11_scrip h L_h.1) fun _ h243 L_h243 => ?_
  refine Lq.xrd fun _ => ?_
  refine Lq.xrd fun _ => ?_
  refine Lq.xrd fun _ => ?_
  refine Lq.xgk ?_
  refine Lq.xbd L_h243 (lo_f_X12_scrip h243 L_h243.1) fun _ h247 L_h247 => ?_
  refine Lq.ite ?_ ?_
  exact Lq.tr L_h247 (lo_f_L_law_1923 q_rec18 h247 L_h247.1)
  refine Lq.xck ?_
  exact Lq.some L_h247
  refine Lq.ite ?_ ?_
  refine Lq.xrd fun _ => ?_
  refine Lq.xrd fun _ => ?_
  refine Lq.xgk ?_
  refine Lq.xbd L_h (lo_f_X11_held h L_h.1) fun _ h253 L_h253 => ?_
  refine Lq.xrd fun _ => ?_
  refine Lq.xrd fun _ => ?_
  refine Lq.xgk ?_
  refine Lq.xbd L_h253 (lo_f_X12_held h253 L_h253.1) fun _ h256 L_h256 => ?_
  refine Lq.ite ?_ ?_
  exact Lq.tr L_h256 (lo_f_L_law_1923 q_rec18 h256 L_h256.1)
  refine Lq.xck ?_
  exact Lq.some L_h256
  refine Lq.ite ?_ ?_
  refine Lq.xrd fun _ => ?_
  refine Lq.xrd fun _ => ?_
  refine Lq.xgk ?_
  refine Lq.xbd L_h (lo_f_X11_purse h L_h.1) fun _ h262 L_h262 => ?_
  refine Lq.xrd fun _ => ?_
  refine Lq.xrd fun _ => ?_
  refine Lq.xgk ?_
  refine Lq.xbd L_h262 (lo_f_X12_purse h262 L_h262.1) fun _ h265 L_h265 => ?_
  refine Lq.ite ?_ ?_
  exact Lq.tr L_h265 (lo_f_L_law_1923 q_rec18 h265 L_h265.1)
  refine Lq.xck ?_
  exact Lq.some L_h265
  refine Lq.ite ?_ ?_
  refine Lq.xrd fun _ => ?_
  refine Lq.xrd fun _ => ?_
  refine Lq.xrd fun _ => ?_
  refine Lq.xrd fun _ => ?_
  refine Lq.xrd fun _ => ?_
  refine Lq.ite ?_ ?_
  exact Lq.tr L_h (lo_f_L_law_1311 q_rec18 h L_h.1)
  exact Lq.tr L_h (lo_f_L_law_1311 q_rec18 h L_h.1)
  refine Lq.ite ?_ ?_
  refine Lq.xrd fun _ => ?_
  refine Lq.xgk ?_
  refine Lq.xbd L_h (lo_f_X11_price h L_h.1) fun _ h277 L_h277 => ?_
  refine Lq.xrd fun _ => ?_
  refine Lq.xgk ?_
  refine Lq.xbd L_h277 (lo_f_X12_price h277 L_h277.1) fun _ h279 L_h279 => ?_
  refine Lq.ite ?_ ?_
  exact Lq.tr L_h279 (lo_f_L_law_1923 q_rec18 h279 L_h279.1)
  refine Lq.xck ?_
  exact Lq.some L_h279
  refine Lq.ite ?_ ?_
  refine Lq.xrd fun _ => ?_
  refine Lq.xgk ?_
  refine Lq.xbd L_h (lo_f_X11_read h L_h.1) fun _ h284 L_h284 => ?_
  refine Lq.xrd fun _ => ?_
  refine Lq.xgk ?_
  refine Lq.xbd L_h284 (lo_f_X12_read h284 L_h284.1) fun _ h286 L_h286 => ?_
  refine Lq.ite ?_ ?_
  exact Lq.tr L_h286 (lo_f_L_law_1923 q_rec18 h286 L_h286.1)
  refine Lq.xck ?_
  exact Lq.some L_h286
  refine Lq.ite ?_ ?_
  refine Lq.xrd fun _ => ?_
  refine Lq.xrd fun _ => ?_
  refine Lq.xgk ?_
  refine Lq.xbd L_h (lo_f_X11_call h L_h.1) fun _ h292 L_h292 => ?_
  refine Lq.xrd fun _ => ?_
  refine Lq.xrd fun _ => ?_
  refine Lq.xgk ?_
  refine Lq.xbd L_h292 (lo_f_X12_call h292 L_h292.1) fun _ h295 L_h295 => ?_
  refine Lq.ite ?_ ?_
  exact Lq.tr L_h295 (lo_f_L_law_1923 q_rec18 h295 L_h295.1)
  refine Lq.xck ?_
  exact Lq.some L_h295
  refine Lq.ite ?_ ?_
  refine Lq.xrd fun _ => ?_
  refine Lq.xrd fun _ => ?_
  refine Lq.xrd fun _ => ?_
  refine Lq.xgk ?_
  refine Lq.xbd L_h (lo_f_X11_lend h L_h.1) fun _ h302 L_h302 => ?_
  refine Lq.xrd fun _ => ?_
  refine Lq.xrd fun _ => ?_
  refine Lq.xrd fun _ => ?_
  refine Lq.xgk ?_
  refine Lq.xbd L_h302 (lo_f_X12_lend h302 L_h302.1) fun _ h306 L_h306 => ?_
  refine Lq.ite ?_ ?_
  exact Lq.tr L_h306 (lo_f_L_law_1923 q_rec18 h306 L_h306.1)
  refine Lq.xck ?_
  exact Lq.some L_h306
  refine Lq.ite ?_ ?_
  refine Lq.xgk ?_
  refine Lq.xbd L_h (lo_f_X11_settle h L_h.1) fun _ h310 L_h310 => ?_
  refine Lq.xgk ?_
  refine Lq.xbd L_h310 (lo_f_X12_settle h310 L_h310.1) fun _ h311 L_h311 => ?_
  refine Lq.ite ?_ ?_
  exact Lq.tr L_h311 (lo_f_L_law_1923 q_rec18 h311 L_h311.1)
  refine Lq.xck ?_
  exact Lq.some L_h311
  refine Lq.ite ?_ ?_
  refine Lq.xrd fun _ => ?_
  refine Lq.xrd fun _ => ?_
  refine Lq.xgk ?_
  refine Lq.xbd L_h (lo_f_X11_along h L_h.1) fun _ h317 L_h317 => ?_
  refine Lq.xrd fun _ => ?_
  refine Lq.xrd fun _ => ?_
  refine Lq.xgk ?_
  refine Lq.xbd L_h317 (lo_f_X12_along h317 L_h317.1) fun _ h320 L_h320 => ?_
  refine Lq.ite ?_ ?_
  exact Lq.tr L_h320 (lo_f_L_law_1923 q_rec18 h320 L_h320.1)
  refine Lq.xck ?_
  exact Lq.some L_h320
  refine Lq.ite ?_ ?_
  refine Lq.xrd fun _ => ?_
  refine Lq.xgk ?_
  refine Lq.xbd L_h (lo_f_X11_dig h L_h.1) fun _ h325 L_h325 => ?_
  refine Lq.xrd fun _ => ?_
  refine Lq.xgk ?_
  refine Lq.xbd L_h325 (lo_f_X12_dig h325 L_h325.1) fun _ h327 L_h327 => ?_
  refine Lq.ite ?_ ?_
  exact Lq.tr L_h327 (lo_f_L_law_1923 q_rec18 h327 L_h327.1)
  refine Lq.xck ?_
  exact Lq.some L_h327
  refine Lq.ite ?_ ?_
  refine Lq.xrd fun _ => ?_
  refine Lq.xrd fun _ => ?_
  refine Lq.xgk ?_
  refine Lq.xbd L_h (lo_f_X11_last h L_h.1) fun _ h333 L_h333 => ?_
  refine Lq.xrd fun _ => ?_
  refine Lq.xrd fun _ => ?_
  refine Lq.xgk ?_
  refine Lq.xbd L_h333 (lo_f_X12_last h333 L_h333.1) fun _ h336 L_h336 => ?_
  refine Lq.ite ?_ ?_
  exact Lq.tr L_h336 (lo_f_L_law_1923 q_rec18 h336 L_h336.1)
  refine Lq.xck ?_
  exact Lq.some L_h336
  refine Lq.ite ?_ ?_
  refine Lq.xgk ?_
  refine Lq.xbd L_h (lo_f_X11_meet h L_h.1) fun _ h340 L_h340 => ?_
  refine Lq.xgk ?_
  refine Lq.xbd L_h340 (lo_f_X12_meet h340 L_h340.1) fun _ h341 L_h341 => ?_
  refine Lq.ite ?_ ?_
  exact Lq.tr L_h341 (lo_f_L_law_1923 q_rec18 h341 L_h341.1)
  refine Lq.xck ?_
  exact Lq.some L_h341
  refine Lq.ite ?_ ?_
  refine Lq.xrd fun _ => ?_
  refine Lq.xgk ?_
  refine Lq.xbd L_h (lo_f_X11_gauge h L_h.1) fun _ h346 L_h346 => ?_
  refine Lq.xrd fun _ => ?_
  refine Lq.xgk ?_
  refine Lq.xbd L_h346 (lo_f_X12_gauge h346 L_h346.1) fun _ h348 L_h348 => ?_
  refine Lq.ite ?_ ?_
  exact Lq.tr L_h348 (lo_f_L_law_1923 q_rec18 h348 L_h348.1)
  refine Lq.xck ?_
  exact Lq.some L_h348
  refine Lq.ite ?_ ?_
  refine Lq.xrd fun _ => ?_
  refine Lq.xrd fun _ => ?_
  refine Lq.xrd fun _ => ?_
  refine Lq.xrd fun _ => ?_
  refine Lq.xgk ?_
  refine Lq.xbd L_h (lo_f_X11_plan h L_h.1) fun _ h356 L_h356 => ?_
  refine Lq.xrd fun _ => ?_
  refine Lq.xrd fun _ => ?_
  refine Lq.xrd fun _ => ?_
  refine Lq.xrd fun _ => ?_
  refine Lq.xgk ?_
  refine Lq.xbd L_h356 (lo_f_X12_plan h356 L_h356.1) fun _ h361 L_h361 => ?_
  refine Lq.ite ?_ ?_
  exact Lq.tr L_h361 (lo_f_L_law_1923 q_rec18 h361 L_h361.1)
  refine Lq.xck ?_
  exact Lq.some L_h361
  refine Lq.ite ?_ ?_
  refine Lq.xrd fun _ => ?_
  refine Lq.xgk ?_
  refine Lq.xbd L_h (lo_f_X11_tried h L_h.1) fun _ h366 L_h366 => ?_
  refine Lq.xrd fun _ => ?_
  refine Lq.xgk ?_
  refine Lq.xbd L_h366 (lo_f_X12_tried h366 L_h366.1) fun _ h368 L_h368 => ?_
  refine Lq.ite ?_ ?_
  exact Lq.tr L_h368 (lo_f_L_law_1923 q_rec18 h368 L_h368.1)
  refine Lq.xck ?_
  exact Lq.some L_h368
  refine Lq.ite ?_ ?_
  refine Lq.xrd fun _ => ?_
  refine Lq.xrd fun _ => ?_
  refine Lq.xgk ?_
  refine Lq.xbd L_h (lo_f_X11_known h L_h.1) fun _ h374 L_h374 => ?_
  refine Lq.xrd fun _ => ?_
  refine Lq.xrd fun _ => ?_
  refine Lq.xgk ?_
  refine Lq.xbd L_h374 (lo_f_X12_known h374 L_h374.1) fun _ h377 L_h377 => ?_
  refine Lq.ite ?_ ?_
  exact Lq.tr L_h377 (lo_f_L_law_1923 q_rec18 h377 L_h377.1)
  refine Lq.xck ?_
  exact Lq.some L_h377
  refine Lq.ite ?_ ?_
  refine Lq.xgk ?_
  refine Lq.xbd L_h (lo_f_X11_image h L_h.1) fun _ h381 L_h381 => ?_
  refine Lq.xgk ?_
  refine Lq.xbd L_h381 (lo_f_X12_image h381 L_h381.1) fun _ h382 L_h382 => ?_
  refine Lq.ite ?_ ?_
  exact Lq.tr L_h382 (lo_f_L_law_1923 q_rec18 h382 L_h382.1)
  refine Lq.xck ?_
  exact Lq.some L_h382
  refine Lq.ite ?_ ?_
  refine Lq.xgk ?_
  refine Lq.xbd L_h (lo_f_X11_undo h L_h.1) fun _ h386 L_h386 => ?_
  refine Lq.xgk ?_
  refine Lq.xbd L_h386 (lo_f_X12_undo h386 L_h386.1) fun _ h387 L_h387 => ?_
  refine Lq.ite ?_ ?_
  exact Lq.tr L_h387 (lo_f_L_law_1923 q_rec18 h387 L_h387.1)
  refine Lq.xck ?_
  exact Lq.some L_h387
  refine Lq.ite ?_ ?_
  refine Lq.xrd fun _ => ?_
  refine Lq.xgk ?_
  refine Lq.xbd L_h (lo_f_X11_count h L_h.1) fun _ h392 L_h392 => ?_
  refine Lq.xrd fun _ => ?_
  refine Lq.xgk ?_
  refine Lq.xbd L_h392 (lo_f_X12_count h392 L_h392.1) fun _ h394 L_h394 => ?_
  refine Lq.ite ?_ ?_
  exact Lq.tr L_h394 (lo_f_L_law_1923 q_rec18 h394 L_h394.1)
  refine Lq.xck ?_
  exact Lq.some L_h394
  refine Lq.ite ?_ ?_
  refine Lq.xrd fun _ => ?_
  refine Lq.xrd fun _ => ?_
  refine Lq.xrd fun _ => ?_
  refine Lq.xgk ?_
  refine Lq.xbd L_h (lo_f_X11_sheet h L_h.1) fun _ h401 L_h401 => ?_
  refine Lq.xrd fun _ => ?_
  refine Lq.xrd fun _ => ?_
  refine Lq.xrd fun _ => ?_
  refine Lq.xgk ?_
  refine Lq.xbd L_h401 (lo_f_X12_sheet h401 L_h401.1) fun _ h405 L_h405 => ?_
  refine Lq.ite ?_ ?_
  exact Lq.tr L_h405 (lo_f_L_law_1923 q_rec18 h405 L_h405.1)
  refine Lq.xck ?_
  exact Lq.some L_h405
  refine Lq.ite ?_ ?_
  refine Lq.xrd fun _ => ?_
  refine Lq.xrd fun _ => ?_
  refine Lq.xrd fun _ => ?_
  refine Lq.xgk ?_
  refine Lq.xbd L_h (lo_f_X11_item h L_h.1) fun _ h412 L_h412 => ?_
  refine Lq.xrd fun _ => ?_
  refine Lq.xrd fun _ => ?_
  refine Lq.xrd fun _ => ?_
  refine Lq.xgk ?_
  refine Lq.xbd L_h412 (lo_f_X12_item h412 L_h412.1) fun _ h416 L_h416 => ?_
  refine Lq.ite ?_ ?_
  exact Lq.tr L_h416 (lo_f_L_law_1923 q_rec18 h416 L_h416.1)
  refine Lq.xck ?_
  exact Lq.some L_h416
  refine Lq.ite ?_ ?_
  refine Lq.xrd fun _ => ?_
  refine Lq.xrd fun _ => ?_
  refine Lq.xrd fun _ => ?_
  refine Lq.xrd fun _ => ?_
  refine Lq.xrd fun _ => ?_
  refine Lq.xgk ?_
  refine Lq.xbd L_h (lo_f_X11_copy h L_h.1) fun _ h425 L_h425 => ?_
  refine Lq.xrd fun _ => ?_
  refine Lq.xrd fun _ => ?_
  refine Lq.xrd fun _ => ?_
  refine Lq.xrd fun _ => ?_
  refine Lq.xrd fun _ => ?_
  refine Lq.xgk ?_
  refine Lq.xbd L_h425 (lo_f_X12_copy h425 L_h425.1) fun _ h431 L_h431 => ?_
  refine Lq.ite ?_ ?_
  exact Lq.tr L_h431 (lo_f_L_law_1923 q_rec18 h431 L_h431.1)
  refine Lq.xck ?_
  exact Lq.some L_h431
  exact Lq.tr L_h (lo_f_L_law_1923 q_rec18 h L_h.1)
theorem lo_f_L_law_18 {n : Nat} {v0 : Int} {v1 : Int} {v2 : Int} : ∀ (k : Nat) (v3 : Int) (h : MM), 100 ≤ nx h → Lq h (f_L_law_18 n v0 v1 v2 k v3 h)
  | 0, _, _, _ => Lq.none
  | k + 1, v3, h, z => lo_f_L_law_18b (fun b0 h z => lo_f_L_law_18 k b0 h z) h z
theorem lo_f_L_law {n : Nat} {v0 : Int} (h : MM) (z : 100 ≤ nx h) : Lq h (f_L_law n v0 h) := by
  have L_h := Lo.refl z
  delta f_L_law
  refine Lq.xnw L_h fun _ h1 L_h1 => ?_
  refine Lq.xnz ?_
  refine Lq.xbd L_h1 (lo_f_X11_init h1 L_h1.1) fun _ h2 L_h2 => ?_
  refine Lq.xnw L_h2 fun _ h3 L_h3 => ?_
  refine Lq.xnz ?_
  refine Lq.xbd L_h3 (lo_f_X12_init h3 L_h3.1) fun _ h4 L_h4 => ?_
  exact Lq.tr L_h4 (lo_f_L_law_18 _ _ h4 L_h4.1)
