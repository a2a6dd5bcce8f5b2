/-! ONE WORLD BECOMES THE OTHER: the class's side -/
theorem mv_mcs {h : MM} {s sp a dp n j : Int} (q : dp ≤ j ∧ j < dp + n) : mv (mc h s sp a dp n) a j = mv h s (sp + (j - dp)) := by
  rw [mv_mc, if_pos ⟨rfl, q⟩]
theorem mv_mco {h : MM} {s sp a dp n b j : Int} (q : b ≠ a) : mv (mc h s sp a dp n) b j = mv h b j := mv_mcne q j
theorem Sh_mc {h : MM} {s sp a dp n : Int} (q : (rL.all fun p => p.1 != a) = true) : Sh (mc h s sp a dp n) ↔ Sh h := by
  have e : ∀ p ∈ rL, mv (mc h s sp a dp n) p.1 p.2.1 = mv h p.1 p.2.1 := by
    intro p hp
    have := List.all_eq_true.mp q p hp
    refine mv_mcne ?_ _
    simpa using this
  constructor
  · rintro ⟨s1, s2, s3⟩
    exact ⟨s1, fun p hp => by rw [← e p hp]; exact s2 p hp, s3⟩
  · rintro ⟨s1, s2, s3⟩
    exact ⟨s1, fun p hp => by rw [e p hp]; exact s2 p hp, s3⟩
theorem gkz_0 {h : MM} {a t : Int} {k : RR} (q : a = 0 ∨ tg h a = t) : gkz h a t k = k := if_pos q
theorem tg_mc' (h : MM) (s sp a dp n b : Int) : tg (mc h s sp a dp n) b = tg h b := rfl
def dat (c j : Int) : Prop := (c = 101 ∧ 7 ≤ j) ∨ (c = 102 ∧ j = 5) ∨ (103 ≤ c ∧ c ≤ 107) ∨ (c = 108 ∧ 6 ≤ j) ∨ (109 ≤ c ∧ c ≤ 114) ∨ (c = 115 ∧ j = 8) ∨ (116 ≤ c ∧ c ≤ 123) ∨ (c = 124 ∧ j = 2) ∨ (125 ≤ c ∧ c ≤ 126) ∨ c = 130 ∨ c = 131 ∨ c = 133 ∨ c = 135 ∨ c = 137 ∨ c = 139 ∨ ((c = 132 ∨ c = 134 ∨ c = 136 ∨ c = 138) ∧ 1 ≤ j)
def KK (d s : Int) (G : Int → Prop) (h h' : MM) : Prop := h'.2 = h.2 ∧ (∀ a j : Int, ¬ (G (a - d) ∧ dat (a - d) j) → mv h' a j = mv h a j) ∧ ∀ c j : Int, G c → rln c j → mv h' (c + d) j = mv h (c + s) j
theorem rln_b {c j : Int} (q : rln c j) : 101 ≤ c ∧ c ≤ 139 := q.1
theorem rln_n {c j : Int} (q : rln c j) : c ≠ 127 ∧ c ≠ 128 ∧ c ≠ 129 := by
  have l1 : rlo 127 = 0 := by decide
  have l2 : rhi 127 = 0 := by decide
  have l3 : rlo 128 = 0 := by decide
  have l4 : rhi 128 = 0 := by decide
  have l5 : rlo 129 = 0 := by decide
  have l6 : rhi 129 = 0 := by decide
  refine ⟨?_, ?_, ?_⟩
  · intro e; subst e; have := q.2; omega
  · intro e; subst e; have := q.2; omega
  · intro e; subst e; have := q.2; omega
theorem dat_b {c j : Int} (q : dat c j) : 101 ≤ c ∧ c ≤ 139 := by
  unfold dat at q
  rcases q with q | q | q | q | q | q | q | q | q | q | q | q | q | q | q | q <;> omega
theorem KK.trans {d s : Int} {G G2 : Int → Prop} {h h1 h2 : MM} (ds : (d = 0 ∧ s = 39) ∨ (d = 39 ∧ s = 0)) (A : KK d s G h h1) (B : KK d s G2 h1 h2) (dj : ∀ c, G c → G2 c → False) : KK d s (fun c => G c ∨ G2 c) h h2 := by
  obtain ⟨a1, a2, a3⟩ := A
  obtain ⟨b1, b2, b3⟩ := B
  refine ⟨b1.trans a1, fun a j q => ?_, fun c j g r => ?_⟩
  · rw [b2 a j (fun z => q ⟨Or.inr z.1, z.2⟩), a2 a j (fun z => q ⟨Or.inl z.1, z.2⟩)]
  · have cb := rln_b r
    rcases g with g | g
    · rw [b2 (c + d) j (fun z => dj c g (by rw [show c + d - d = c by omega] at z; exact z.1))]
      exact a3 c j g r
    · rw [b3 c j g r, a2 (c + s) j (fun z => by have := dat_b z.2; omega)]
theorem KK.mono {d s : Int} {G G2 : Int → Prop} {h h1 : MM} (A : KK d s G h h1) (q : ∀ c, G c ↔ G2 c) : KK d s G2 h h1 :=
  ⟨A.1, fun a j z => A.2.1 a j (fun y => z ⟨(q _).mp y.1, y.2⟩), fun c j g r => A.2.2 c j ((q c).mpr g) r⟩
theorem dat_ref : ∀ p ∈ rL, ¬ dat p.1 p.2.1 ∧ ¬ dat (p.1 - 39) p.2.1 := by
  intro p hp
  simp only [rL, List.mem_cons, List.not_mem_nil, or_false] at hp
  unfold dat
  rcases hp with rfl | rfl | rfl | rfl | rfl | rfl | rfl | rfl | rfl | rfl | rfl | rfl | rfl | rfl | rfl | rfl | rfl | rfl | rfl | rfl | rfl | rfl | rfl | rfl | rfl | rfl | rfl | rfl | rfl | rfl | rfl | rfl | rfl | rfl | rfl | rfl | rfl | rfl | rfl | rfl | rfl | rfl | rfl | rfl | rfl | rfl | rfl | rfl | rfl | rfl | rfl | rfl | rfl | rfl | rfl | rfl | rfl | rfl | rfl | rfl | rfl | rfl | rfl | rfl | rfl | rfl | rfl | rfl | rfl | rfl | rfl | rfl | rfl | rfl | rfl | rfl | rfl | rfl | rfl | rfl | rfl | rfl | rfl | rfl | rfl | rfl | rfl | rfl | rfl | rfl | rfl | rfl | rfl | rfl | rfl | rfl | rfl | rfl | rfl | rfl | rfl | rfl | rfl | rfl | rfl | rfl | rfl | rfl | rfl | rfl | rfl | rfl | rfl <;> (dsimp only; decide)
theorem KK.sh {d s : Int} {G : Int → Prop} {h h1 : MM} (ds : (d = 0 ∧ s = 39) ∨ (d = 39 ∧ s = 0)) (A : KK d s G h h1) (S : Sh h) : Sh h1 := by
  refine ⟨fun k hk => ?_, fun p hp => ?_, ?_⟩
  · have e1 : tg h1 (100 + (k : Int)) = tg h (100 + (k : Int)) := congrArg (fun z : (Int → Int × Int) × Int × Int => (z.1 (100 + (k : Int))).1) A.1
    have e2 : ln h1 (100 + (k : Int)) = ln h (100 + (k : Int)) := congrArg (fun z : (Int → Int × Int) × Int × Int => (z.1 (100 + (k : Int))).2) A.1
    rw [e1, e2]; exact S.1 k hk
  · rw [A.2.1 _ _ (fun z => ?_)]
    · exact S.2.1 p hp
    · have := dat_ref p hp
      rcases ds with ⟨rfl, -⟩ | ⟨rfl, -⟩
      · exact this.1 (by have y := z.2; rw [Int.sub_zero] at y; exact y)
      · exact this.2 z.2
  · have e : nx h1 = nx h := congrArg (fun z : (Int → Int × Int) × Int × Int => z.2.1) A.1
    rw [e]; exact S.2.2
section BEC
variable {n : Nat} {h : MM} {km : MM → RR}
theorem ac103_142 (S : Sh h) : ac h 100 103 0 142 0 80 km = km (mc h 103 0 142 0 80) := ac_e ⟨t103 S, by decide, t142 S, by decide, by decide, by decide, by decide, by rw [l103 S]; decide, by rw [l142 S]; decide, fun c => absurd c (by decide)⟩
theorem MC142 {s sp dp m : Int} : Sh (mc h s sp 142 dp m) ↔ Sh h := Sh_mc rfl
theorem ac104_143 (S : Sh h) : ac h 100 104 0 143 0 80 km = km (mc h 104 0 143 0 80) := ac_e ⟨t104 S, by decide, t143 S, by decide, by decide, by decide, by decide, by rw [l104 S]; decide, by rw [l143 S]; decide, fun c => absurd c (by decide)⟩
theorem MC143 {s sp dp m : Int} : Sh (mc h s sp 143 dp m) ↔ Sh h := Sh_mc rfl
theorem ac105_144 (S : Sh h) : ac h 100 105 0 144 0 80 km = km (mc h 105 0 144 0 80) := ac_e ⟨t105 S, by decide, t144 S, by decide, by decide, by decide, by decide, by rw [l105 S]; decide, by rw [l144 S]; decide, fun c => absurd c (by decide)⟩
theorem MC144 {s sp dp m : Int} : Sh (mc h s sp 144 dp m) ↔ Sh h := Sh_mc rfl
theorem ac106_145 (S : Sh h) : ac h 100 106 0 145 0 6 km = km (mc h 106 0 145 0 6) := ac_e ⟨t106 S, by decide, t145 S, by decide, by decide, by decide, by decide, by rw [l106 S]; decide, by rw [l145 S]; decide, fun c => absurd c (by decide)⟩
theorem MC145 {s sp dp m : Int} : Sh (mc h s sp 145 dp m) ↔ Sh h := Sh_mc rfl
theorem ac107_146 (S : Sh h) : ac h 100 107 0 146 0 6 km = km (mc h 107 0 146 0 6) := ac_e ⟨t107 S, by decide, t146 S, by decide, by decide, by decide, by decide, by rw [l107 S]; decide, by rw [l146 S]; decide, fun c => absurd c (by decide)⟩
theorem MC146 {s sp dp m : Int} : Sh (mc h s sp 146 dp m) ↔ Sh h := Sh_mc rfl
theorem ac110_149 (S : Sh h) : ac h 101 110 0 149 0 60 km = km (mc h 110 0 149 0 60) := ac_e ⟨t110 S, by decide, t149 S, by decide, by decide, by decide, by decide, by rw [l110 S]; decide, by rw [l149 S]; decide, fun c => absurd c (by decide)⟩
theorem MC149 {s sp dp m : Int} : Sh (mc h s sp 149 dp m) ↔ Sh h := Sh_mc rfl
theorem ac111_150 (S : Sh h) : ac h 100 111 0 150 0 60 km = km (mc h 111 0 150 0 60) := ac_e ⟨t111 S, by decide, t150 S, by decide, by decide, by decide, by decide, by rw [l111 S]; decide, by rw [l150 S]; decide, fun c => absurd c (by decide)⟩
theorem MC150 {s sp dp m : Int} : Sh (mc h s sp 150 dp m) ↔ Sh h := Sh_mc rfl
theorem ac112_151 (S : Sh h) : ac h 100 112 0 151 0 60 km = km (mc h 112 0 151 0 60) := ac_e ⟨t112 S, by decide, t151 S, by decide, by decide, by decide, by decide, by rw [l112 S]; decide, by rw [l151 S]; decide, fun c => absurd c (by decide)⟩
theorem MC151 {s sp dp m : Int} : Sh (mc h s sp 151 dp m) ↔ Sh h := Sh_mc rfl
theorem ac113_152 (S : Sh h) : ac h 100 113 0 152 0 60 km = km (mc h 113 0 152 0 60) := ac_e ⟨t113 S, by decide, t152 S, by decide, by decide, by decide, by decide, by rw [l113 S]; decide, by rw [l152 S]; decide, fun c => absurd c (by decide)⟩
theorem MC152 {s sp dp m : Int} : Sh (mc h s sp 152 dp m) ↔ Sh h := Sh_mc rfl
theorem ac114_153 (S : Sh h) : ac h 100 114 0 153 0 60 km = km (mc h 114 0 153 0 60) := ac_e ⟨t114 S, by decide, t153 S, by decide, by decide, by decide, by decide, by rw [l114 S]; decide, by rw [l153 S]; decide, fun c => absurd c (by decide)⟩
theorem MC153 {s sp dp m : Int} : Sh (mc h s sp 153 dp m) ↔ Sh h := Sh_mc rfl
theorem ac116_155 (S : Sh h) : ac h 100 116 0 155 0 20 km = km (mc h 116 0 155 0 20) := ac_e ⟨t116 S, by decide, t155 S, by decide, by decide, by decide, by decide, by rw [l116 S]; decide, by rw [l155 S]; decide, fun c => absurd c (by decide)⟩
theorem MC155 {s sp dp m : Int} : Sh (mc h s sp 155 dp m) ↔ Sh h := Sh_mc rfl
theorem ac117_156 (S : Sh h) : ac h 100 117 0 156 0 108 km = km (mc h 117 0 156 0 108) := ac_e ⟨t117 S, by decide, t156 S, by decide, by decide, by decide, by decide, by rw [l117 S]; decide, by rw [l156 S]; decide, fun c => absurd c (by decide)⟩
theorem MC156 {s sp dp m : Int} : Sh (mc h s sp 156 dp m) ↔ Sh h := Sh_mc rfl
theorem ac118_157 (S : Sh h) : ac h 100 118 0 157 0 12 km = km (mc h 118 0 157 0 12) := ac_e ⟨t118 S, by decide, t157 S, by decide, by decide, by decide, by decide, by rw [l118 S]; decide, by rw [l157 S]; decide, fun c => absurd c (by decide)⟩
theorem MC157 {s sp dp m : Int} : Sh (mc h s sp 157 dp m) ↔ Sh h := Sh_mc rfl
theorem ac119_158 (S : Sh h) : ac h 100 119 0 158 0 40 km = km (mc h 119 0 158 0 40) := ac_e ⟨t119 S, by decide, t158 S, by decide, by decide, by decide, by decide, by rw [l119 S]; decide, by rw [l158 S]; decide, fun c => absurd c (by decide)⟩
theorem MC158 {s sp dp m : Int} : Sh (mc h s sp 158 dp m) ↔ Sh h := Sh_mc rfl
theorem ac120_159 (S : Sh h) : ac h 100 120 0 159 0 40 km = km (mc h 120 0 159 0 40) := ac_e ⟨t120 S, by decide, t159 S, by decide, by decide, by decide, by decide, by rw [l120 S]; decide, by rw [l159 S]; decide, fun c => absurd c (by decide)⟩
theorem MC159 {s sp dp m : Int} : Sh (mc h s sp 159 dp m) ↔ Sh h := Sh_mc rfl
theorem ac121_160 (S : Sh h) : ac h 100 121 0 160 0 40 km = km (mc h 121 0 160 0 40) := ac_e ⟨t121 S, by decide, t160 S, by decide, by decide, by decide, by decide, by rw [l121 S]; decide, by rw [l160 S]; decide, fun c => absurd c (by decide)⟩
theorem MC160 {s sp dp m : Int} : Sh (mc h s sp 160 dp m) ↔ Sh h := Sh_mc rfl
theorem ac122_161 (S : Sh h) : ac h 100 122 0 161 0 40 km = km (mc h 122 0 161 0 40) := ac_e ⟨t122 S, by decide, t161 S, by decide, by decide, by decide, by decide, by rw [l122 S]; decide, by rw [l161 S]; decide, fun c => absurd c (by decide)⟩
theorem MC161 {s sp dp m : Int} : Sh (mc h s sp 161 dp m) ↔ Sh h := Sh_mc rfl
theorem ac123_162 (S : Sh h) : ac h 100 123 0 162 0 40 km = km (mc h 123 0 162 0 40) := ac_e ⟨t123 S, by decide, t162 S, by decide, by decide, by decide, by decide, by rw [l123 S]; decide, by rw [l162 S]; decide, fun c => absurd c (by decide)⟩
theorem MC162 {s sp dp m : Int} : Sh (mc h s sp 162 dp m) ↔ Sh h := Sh_mc rfl
theorem ac125_164 (S : Sh h) : ac h 100 125 0 164 0 7 km = km (mc h 125 0 164 0 7) := ac_e ⟨t125 S, by decide, t164 S, by decide, by decide, by decide, by decide, by rw [l125 S]; decide, by rw [l164 S]; decide, fun c => absurd c (by decide)⟩
theorem MC164 {s sp dp m : Int} : Sh (mc h s sp 164 dp m) ↔ Sh h := Sh_mc rfl
theorem ac126_165 (S : Sh h) : ac h 100 126 0 165 0 7 km = km (mc h 126 0 165 0 7) := ac_e ⟨t126 S, by decide, t165 S, by decide, by decide, by decide, by decide, by rw [l126 S]; decide, by rw [l165 S]; decide, fun c => absurd c (by decide)⟩
theorem MC165 {s sp dp m : Int} : Sh (mc h s sp 165 dp m) ↔ Sh h := Sh_mc rfl
theorem MC169 {s sp dp m : Int} : Sh (mc h s sp 169 dp m) ↔ Sh h := Sh_mc rfl
theorem ac133_172 (S : Sh h) : ac h 100 133 0 172 0 40 km = km (mc h 133 0 172 0 40) := ac_e ⟨t133 S, by decide, t172 S, by decide, by decide, by decide, by decide, by rw [l133 S]; decide, by rw [l172 S]; decide, fun c => absurd c (by decide)⟩
theorem MC172 {s sp dp m : Int} : Sh (mc h s sp 172 dp m) ↔ Sh h := Sh_mc rfl
theorem ac135_174 (S : Sh h) : ac h 100 135 0 174 0 40 km = km (mc h 135 0 174 0 40) := ac_e ⟨t135 S, by decide, t174 S, by decide, by decide, by decide, by decide, by rw [l135 S]; decide, by rw [l174 S]; decide, fun c => absurd c (by decide)⟩
theorem MC174 {s sp dp m : Int} : Sh (mc h s sp 174 dp m) ↔ Sh h := Sh_mc rfl
theorem ac137_176 (S : Sh h) : ac h 100 137 0 176 0 40 km = km (mc h 137 0 176 0 40) := ac_e ⟨t137 S, by decide, t176 S, by decide, by decide, by decide, by decide, by rw [l137 S]; decide, by rw [l176 S]; decide, fun c => absurd c (by decide)⟩
theorem MC176 {s sp dp m : Int} : Sh (mc h s sp 176 dp m) ↔ Sh h := Sh_mc rfl
theorem ac139_178 (S : Sh h) : ac h 100 139 0 178 0 40 km = km (mc h 139 0 178 0 40) := ac_e ⟨t139 S, by decide, t178 S, by decide, by decide, by decide, by decide, by rw [l139 S]; decide, by rw [l178 S]; decide, fun c => absurd c (by decide)⟩
theorem MC178 {s sp dp m : Int} : Sh (mc h s sp 178 dp m) ↔ Sh h := Sh_mc rfl
theorem ac142_103 (S : Sh h) : ac h 100 142 0 103 0 80 km = km (mc h 142 0 103 0 80) := ac_e ⟨t142 S, by decide, t103 S, by decide, by decide, by decide, by decide, by rw [l142 S]; decide, by rw [l103 S]; decide, fun c => absurd c (by decide)⟩
theorem MC103 {s sp dp m : Int} : Sh (mc h s sp 103 dp m) ↔ Sh h := Sh_mc rfl
theorem ac143_104 (S : Sh h) : ac h 100 143 0 104 0 80 km = km (mc h 143 0 104 0 80) := ac_e ⟨t143 S, by decide, t104 S, by decide, by decide, by decide, by decide, by rw [l143 S]; decide, by rw [l104 S]; decide, fun c => absurd c (by decide)⟩
theorem MC104 {s sp dp m : Int} : Sh (mc h s sp 104 dp m) ↔ Sh h := Sh_mc rfl
theorem ac144_105 (S : Sh h) : ac h 100 144 0 105 0 80 km = km (mc h 144 0 105 0 80) := ac_e ⟨t144 S, by decide, t105 S, by decide, by decide, by decide, by decide, by rw [l144 S]; decide, by rw [l105 S]; decide, fun c => absurd c (by decide)⟩
theorem MC105 {s sp dp m : Int} : Sh (mc h s sp 105 dp m) ↔ Sh h := Sh_mc rfl
theorem ac145_106 (S : Sh h) : ac h 100 145 0 106 0 6 km = km (mc h 145 0 106 0 6) := ac_e ⟨t145 S, by decide, t106 S, by decide, by decide, by decide, by decide, by rw [l145 S]; decide, by rw [l106 S]; decide, fun c => absurd c (by decide)⟩
theorem MC106 {s sp dp m : Int} : Sh (mc h s sp 106 dp m) ↔ Sh h := Sh_mc rfl
theorem ac146_107 (S : Sh h) : ac h 100 146 0 107 0 6 km = km (mc h 146 0 107 0 6) := ac_e ⟨t146 S, by decide, t107 S, by decide, by decide, by decide, by decide, by rw [l146 S]; decide, by rw [l107 S]; decide, fun c => absurd c (by decide)⟩
theorem MC107 {s sp dp m : Int} : Sh (mc h s sp 107 dp m) ↔ Sh h := Sh_mc rfl
theorem ac149_110 (S : Sh h) : ac h 101 149 0 110 0 60 km = km (mc h 149 0 110 0 60) := ac_e ⟨t149 S, by decide, t110 S, by decide, by decide, by decide, by decide, by rw [l149 S]; decide, by rw [l110 S]; decide, fun c => absurd c (by decide)⟩
theorem MC110 {s sp dp m : Int} : Sh (mc h s sp 110 dp m) ↔ Sh h := Sh_mc rfl
theorem ac150_111 (S : Sh h) : ac h 100 150 0 111 0 60 km = km (mc h 150 0 111 0 60) := ac_e ⟨t150 S, by decide, t111 S, by decide, by decide, by decide, by decide, by rw [l150 S]; decide, by rw [l111 S]; decide, fun c => absurd c (by decide)⟩
theorem MC111 {s sp dp m : Int} : Sh (mc h s sp 111 dp m) ↔ Sh h := Sh_mc rfl
theorem ac151_112 (S : Sh h) : ac h 100 151 0 112 0 60 km = km (mc h 151 0 112 0 60) := ac_e ⟨t151 S, by decide, t112 S, by decide, by decide, by decide, by decide, by rw [l151 S]; decide, by rw [l112 S]; decide, fun c => absurd c (by decide)⟩
theorem MC112 {s sp dp m : Int} : Sh (mc h s sp 112 dp m) ↔ Sh h := Sh_mc rfl
theorem ac152_113 (S : Sh h) : ac h 100 152 0 113 0 60 km = km (mc h 152 0 113 0 60) := ac_e ⟨t152 S, by decide, t113 S, by decide, by decide, by decide, by decide, by rw [l152 S]; decide, by rw [l113 S]; decide, fun c => absurd c (by decide)⟩
theorem MC113 {s sp dp m : Int} : Sh (mc h s sp 113 dp m) ↔ Sh h := Sh_mc rfl
theorem ac153_114 (S : Sh h) : ac h 100 153 0 114 0 60 km = km (mc h 153 0 114 0 60) := ac_e ⟨t153 S, by decide, t114 S, by decide, by decide, by decide, by decide, by rw [l153 S]; decide, by rw [l114 S]; decide, fun c => absurd c (by decide)⟩
theorem MC114 {s sp dp m : Int} : Sh (mc h s sp 114 dp m) ↔ Sh h := Sh_mc rfl
theorem ac155_116 (S : Sh h) : ac h 100 155 0 116 0 20 km = km (mc h 155 0 116 0 20) := ac_e ⟨t155 S, by decide, t116 S, by decide, by decide, by decide, by decide, by rw [l155 S]; decide, by rw [l116 S]; decide, fun c => absurd c (by decide)⟩
theorem MC116 {s sp dp m : Int} : Sh (mc h s sp 116 dp m) ↔ Sh h := Sh_mc rfl
theorem ac156_117 (S : Sh h) : ac h 100 156 0 117 0 108 km = km (mc h 156 0 117 0 108) := ac_e ⟨t156 S, by decide, t117 S, by decide, by decide, by decide, by decide, by rw [l156 S]; decide, by rw [l117 S]; decide, fun c => absurd c (by decide)⟩
theorem MC117 {s sp dp m : Int} : Sh (mc h s sp 117 dp m) ↔ Sh h := Sh_mc rfl
theorem ac157_118 (S : Sh h) : ac h 100 157 0 118 0 12 km = km (mc h 157 0 118 0 12) := ac_e ⟨t157 S, by decide, t118 S, by decide, by decide, by decide, by decide, by rw [l157 S]; decide, by rw [l118 S]; decide, fun c => absurd c (by decide)⟩
theorem MC118 {s sp dp m : Int} : Sh (mc h s sp 118 dp m) ↔ Sh h := Sh_mc rfl
theorem ac158_119 (S : Sh h) : ac h 100 158 0 119 0 40 km = km (mc h 158 0 119 0 40) := ac_e ⟨t158 S, by decide, t119 S, by decide, by decide, by decide, by decide, by rw [l158 S]; decide, by rw [l119 S]; decide, fun c => absurd c (by decide)⟩
theorem MC119 {s sp dp m : Int} : Sh (mc h s sp 119 dp m) ↔ Sh h := Sh_mc rfl
theorem ac159_120 (S : Sh h) : ac h 100 159 0 120 0 40 km = km (mc h 159 0 120 0 40) := ac_e ⟨t159 S, by decide, t120 S, by decide, by decide, by decide, by decide, by rw [l159 S]; decide, by rw [l120 S]; decide, fun c => absurd c (by decide)⟩
theorem MC120 {s sp dp m : Int} : Sh (mc h s sp 120 dp m) ↔ Sh h := Sh_mc rfl
theorem ac160_121 (S : Sh h) : ac h 100 160 0 121 0 40 km = km (mc h 160 0 121 0 40) := ac_e ⟨t160 S, by decide, t121 S, by decide, by decide, by decide, by decide, by rw [l160 S]; decide, by rw [l121 S]; decide, fun c => absurd c (by decide)⟩
theorem MC121 {s sp dp m : Int} : Sh (mc h s sp 121 dp m) ↔ Sh h := Sh_mc rfl
theorem ac161_122 (S : Sh h) : ac h 100 161 0 122 0 40 km = km (mc h 161 0 122 0 40) := ac_e ⟨t161 S, by decide, t122 S, by decide, by decide, by decide, by decide, by rw [l161 S]; decide, by rw [l122 S]; decide, fun c => absurd c (by decide)⟩
theorem MC122 {s sp dp m : Int} : Sh (mc h s sp 122 dp m) ↔ Sh h := Sh_mc rfl
theorem ac162_123 (S : Sh h) : ac h 100 162 0 123 0 40 km = km (mc h 162 0 123 0 40) := ac_e ⟨t162 S, by decide, t123 S, by decide, by decide, by decide, by decide, by rw [l162 S]; decide, by rw [l123 S]; decide, fun c => absurd c (by decide)⟩
theorem MC123 {s sp dp m : Int} : Sh (mc h s sp 123 dp m) ↔ Sh h := Sh_mc rfl
theorem ac164_125 (S : Sh h) : ac h 100 164 0 125 0 7 km = km (mc h 164 0 125 0 7) := ac_e ⟨t164 S, by decide, t125 S, by decide, by decide, by decide, by decide, by rw [l164 S]; decide, by rw [l125 S]; decide, fun c => absurd c (by decide)⟩
theorem MC125 {s sp dp m : Int} : Sh (mc h s sp 125 dp m) ↔ Sh h := Sh_mc rfl
theorem ac165_126 (S : Sh h) : ac h 100 165 0 126 0 7 km = km (mc h 165 0 126 0 7) := ac_e ⟨t165 S, by decide, t126 S, by decide, by decide, by decide, by decide, by rw [l165 S]; decide, by rw [l126 S]; decide, fun c => absurd c (by decide)⟩
theorem MC126 {s sp dp m : Int} : Sh (mc h s sp 126 dp m) ↔ Sh h := Sh_mc rfl
theorem MC130 {s sp dp m : Int} : Sh (mc h s sp 130 dp m) ↔ Sh h := Sh_mc rfl
theorem ac172_133 (S : Sh h) : ac h 100 172 0 133 0 40 km = km (mc h 172 0 133 0 40) := ac_e ⟨t172 S, by decide, t133 S, by decide, by decide, by decide, by decide, by rw [l172 S]; decide, by rw [l133 S]; decide, fun c => absurd c (by decide)⟩
theorem MC133 {s sp dp m : Int} : Sh (mc h s sp 133 dp m) ↔ Sh h := Sh_mc rfl
theorem ac174_135 (S : Sh h) : ac h 100 174 0 135 0 40 km = km (mc h 174 0 135 0 40) := ac_e ⟨t174 S, by decide, t135 S, by decide, by decide, by decide, by decide, by rw [l174 S]; decide, by rw [l135 S]; decide, fun c => absurd c (by decide)⟩
theorem MC135 {s sp dp m : Int} : Sh (mc h s sp 135 dp m) ↔ Sh h := Sh_mc rfl
theorem ac176_137 (S : Sh h) : ac h 100 176 0 137 0 40 km = km (mc h 176 0 137 0 40) := ac_e ⟨t176 S, by decide, t137 S, by decide, by decide, by decide, by decide, by rw [l176 S]; decide, by rw [l137 S]; decide, fun c => absurd c (by decide)⟩
theorem MC137 {s sp dp m : Int} : Sh (mc h s sp 137 dp m) ↔ Sh h := Sh_mc rfl
theorem ac178_139 (S : Sh h) : ac h 100 178 0 139 0 40 km = km (mc h 178 0 139 0 40) := ac_e ⟨t178 S, by decide, t139 S, by decide, by decide, by decide, by decide, by rw [l178 S]; decide, by rw [l139 S]; decide, fun c => absurd c (by decide)⟩
theorem MC139 {s sp dp m : Int} : Sh (mc h s sp 139 dp m) ↔ Sh h := Sh_mc rfl
theorem bc1_k (S : Sh h) : ∃ h', f_X1_become n 141 102 h = some (0, h') ∧ FrN (fun a j => a = 142 ∨ a = 143 ∨ a = 144 ∨ a = 145 ∨ a = 146 ∨ (a = 141 ∧ j = 5)) h h' ∧ (∀ j : Int, 0 ≤ j → j < 80 → mv h' 142 j = mv h 103 j) ∧ (∀ j : Int, 0 ≤ j → j < 80 → mv h' 143 j = mv h 104 j) ∧ (∀ j : Int, 0 ≤ j → j < 80 → mv h' 144 j = mv h 105 j) ∧ (∀ j : Int, 0 ≤ j → j < 6 → mv h' 145 j = mv h 106 j) ∧ (∀ j : Int, 0 ≤ j → j < 6 → mv h' 146 j = mv h 107 j) ∧ mv h' 141 5 = mv h 102 5 := by
  refine ⟨(ms (mc (mc (mc (mc (mc h 103 0 142 0 80) 104 0 143 0 80) 105 0 144 0 80) 106 0 145 0 6) 107 0 146 0 6) 141 5 (mv h 102 5)), ?_, (((((((FrN.refl h).mc (fun _ => by omega)).mc (fun _ => by omega)).mc (fun _ => by omega)).mc (fun _ => by omega)).mc (fun _ => by omega)).w (by omega)), ?_, ?_, ?_, ?_, ?_, ?_⟩
  · simp (disch := first | assumption | (with_reducible show Sh _; simp only [S100_2, S101_7, S101_8, S101_9, S101_10, S102_5, S103, M103, S104, M104, S105, M105, S106, M106, S107, M107, S108_6, S108_7, S108_8, S108_9, S109, M109, S110, M110, S111, M111, S112, M112, S113, M113, S114, M114, S115_8, S116, M116, S117, M117, S118, M118, S119, M119, S120, M120, S121, M121, S122, M122, S123, M123, S124_2, S125, M125, S126, M126, S127, M127, S128, M128, S130, M130, S131, M131, S132_1, S132_2, S133, M133, S134_1, S134_2, S135, M135, S136_1, S136_2, S137, M137, S138_1, S138_2, S139, M139, S140_7, S140_8, S140_9, S140_10, S141_5, S142, M142, S143, M143, S144, M144, S145, M145, S146, M146, S147_6, S147_7, S147_8, S147_9, S148, M148, S149, M149, S150, M150, S151, M151, S152, M152, S153, M153, S154_8, S155, M155, S156, M156, S157, M157, S158, M158, S159, M159, S160, M160, S161, M161, S162, M162, S163_2, S164, M164, S165, M165, S166, M166, S167, M167, S169, M169, S170, M170, S171_1, S171_2, S172, M172, S173_1, S173_2, S174, M174, S175_1, S175_2, S176, M176, S177_1, S177_2, S178, M178, S179, M179, S180_1, S180_2, S180_5, S180_6, S180_7, S180_8, S181, M181, S182, M182, S183, M183, S184_6, S185, M185, S186, M186, S187, M187, S188, M188, S189, M189, S190, M190, S191_5, S191_6, S192, M192, S193, M193, S194, M194, S195, M195, S196, M196, S197_0, S197_3, S197_4, S197_5, S197_6, S197_7, S197_13, S198, M198, S199, M199, S200, M200, S201, M201, S202, M202, S203, M203, S204, M204, S205, M205, S206, M206, S207, M207, S208, M208, S209, M209, S210, M210, S211, M211, MC142, MC143, MC144, MC145, MC146] <;> assumption) | (with_reducible show tg _ _ = _; simp only [tg_ms, tg_ma]; assumption) | (with_reducible show ln _ _ = _; simp only [ln_ms, ln_ma]; assumption) | (with_reducible show J64 _; unfold J64; omega) | (with_reducible show J _; unfold J; omega) | omega) only [↓f_X1_become, ↓ac103_142, ↓ac104_143, ↓ac105_144, ↓ac106_145, ↓ac107_146, ↓g102_0, ↓g102_1, ↓g102_2, ↓g102_3, ↓g102_4, ↓g102_5, ↓g141_0, ↓g141_1, ↓g141_2, ↓g141_3, ↓g141_4, ↓g141_5, ↓pi141_5, ↓al142, ↓al143, ↓al144, ↓al145, ↓al146, ↓mv_mco, ↓bd_i, ↓lb_i, ↓rd_i, ↓wt_i, ↓pf_i, bdi_e, lbi_e, ↓ck_t, isb_0, isb_1, ↓reduceIte, ↓if_pos, ↓if_neg, Int.reduceEq, Int.reduceLT, Int.reduceLE, Int.reduceNe, Int.reduceNeg, Int.reduceAdd, Int.reduceSub, Int.reduceMul, Int.add_sub_cancel, tg_ms, ln_ms, nx_ms, tg_ma, ln_ma, nx_ma, mv_s, mv_o, mv_ma_eq, mv_ma_ne, wrk, within_t, within_f, in_t, in_f, isCell_t, isCell_f, isHolder_t, isHolder_f, isHolderm_t, isHolderm_f, isDay_t, isDay_f, isDaym_t, isDaym_f, isSheet_t, isSheet_f, isSheetm_t, isSheetm_f]
  · intro j j0 j1
    simp (disch := omega) only [mv_o, mv_mco, mv_mcs, Int.zero_add, Int.sub_zero]
  · intro j j0 j1
    simp (disch := omega) only [mv_o, mv_mco, mv_mcs, Int.zero_add, Int.sub_zero]
  · intro j j0 j1
    simp (disch := omega) only [mv_o, mv_mco, mv_mcs, Int.zero_add, Int.sub_zero]
  · intro j j0 j1
    simp (disch := omega) only [mv_o, mv_mco, mv_mcs, Int.zero_add, Int.sub_zero]
  · intro j j0 j1
    simp (disch := omega) only [mv_o, mv_mco, mv_mcs, Int.zero_add, Int.sub_zero]
  · simp (disch := omega) only [mv_o, mv_s, mv_mco]
theorem bc8_k (S : Sh h) : ∃ h', f_X8_become n 154 115 h = some (0, h') ∧ FrN (fun a j => a = 155 ∨ a = 156 ∨ a = 157 ∨ a = 158 ∨ a = 159 ∨ a = 160 ∨ a = 161 ∨ a = 162 ∨ (a = 154 ∧ j = 8)) h h' ∧ (∀ j : Int, 0 ≤ j → j < 20 → mv h' 155 j = mv h 116 j) ∧ (∀ j : Int, 0 ≤ j → j < 108 → mv h' 156 j = mv h 117 j) ∧ (∀ j : Int, 0 ≤ j → j < 12 → mv h' 157 j = mv h 118 j) ∧ (∀ j : Int, 0 ≤ j → j < 40 → mv h' 158 j = mv h 119 j) ∧ (∀ j : Int, 0 ≤ j → j < 40 → mv h' 159 j = mv h 120 j) ∧ (∀ j : Int, 0 ≤ j → j < 40 → mv h' 160 j = mv h 121 j) ∧ (∀ j : Int, 0 ≤ j → j < 40 → mv h' 161 j = mv h 122 j) ∧ (∀ j : Int, 0 ≤ j → j < 40 → mv h' 162 j = mv h 123 j) ∧ mv h' 154 8 = mv h 115 8 := by
  refine ⟨(ms (mc (mc (mc (mc (mc (mc (mc (mc h 116 0 155 0 20) 117 0 156 0 108) 118 0 157 0 12) 119 0 158 0 40) 120 0 159 0 40) 121 0 160 0 40) 122 0 161 0 40) 123 0 162 0 40) 154 8 (mv h 115 8)), ?_, ((((((((((FrN.refl h).mc (fun _ => by omega)).mc (fun _ => by omega)).mc (fun _ => by omega)).mc (fun _ => by omega)).mc (fun _ => by omega)).mc (fun _ => by omega)).mc (fun _ => by omega)).mc (fun _ => by omega)).w (by omega)), ?_, ?_, ?_, ?_, ?_, ?_, ?_, ?_, ?_⟩
  · simp (disch := first | assumption | (with_reducible show Sh _; simp only [S100_2, S101_7, S101_8, S101_9, S101_10, S102_5, S103, M103, S104, M104, S105, M105, S106, M106, S107, M107, S108_6, S108_7, S108_8, S108_9, S109, M109, S110, M110, S111, M111, S112, M112, S113, M113, S114, M114, S115_8, S116, M116, S117, M117, S118, M118, S119, M119, S120, M120, S121, M121, S122, M122, S123, M123, S124_2, S125, M125, S126, M126, S127, M127, S128, M128, S130, M130, S131, M131, S132_1, S132_2, S133, M133, S134_1, S134_2, S135, M135, S136_1, S136_2, S137, M137, S138_1, S138_2, S139, M139, S140_7, S140_8, S140_9, S140_10, S141_5, S142, M142, S143, M143, S144, M144, S145, M145, S146, M146, S147_6, S147_7, S147_8, S147_9, S148, M148, S149, M149, S150, M150, S151, M151, S152, M152, S153, M153, S154_8, S155, M155, S156, M156, S157, M157, S158, M158, S159, M159, S160, M160, S161, M161, S162, M162, S163_2, S164, M164, S165, M165, S166, M166, S167, M167, S169, M169, S170, M170, S171_1, S171_2, S172, M172, S173_1, S173_2, S174, M174, S175_1, S175_2, S176, M176, S177_1, S177_2, S178, M178, S179, M179, S180_1, S180_2, S180_5, S180_6, S180_7, S180_8, S181, M181, S182, M182, S183, M183, S184_6, S185, M185, S186, M186, S187, M187, S188, M188, S189, M189, S190, M190, S191_5, S191_6, S192, M192, S193, M193, S194, M194, S195, M195, S196, M196, S197_0, S197_3, S197_4, S197_5, S197_6, S197_7, S197_13, S198, M198, S199, M199, S200, M200, S201, M201, S202, M202, S203, M203, S204, M204, S205, M205, S206, M206, S207, M207, S208, M208, S209, M209, S210, M210, S211, M211, MC155, MC156, MC157, MC158, MC159, MC160, MC161, MC162] <;> assumption) | (with_reducible show tg _ _ = _; simp only [tg_ms, tg_ma]; assumption) | (with_reducible show ln _ _ = _; simp only [ln_ms, ln_ma]; assumption) | (with_reducible show J64 _; unfold J64; omega) | (with_reducible show J _; unfold J; omega) | omega) only [↓f_X8_become, ↓ac116_155, ↓ac117_156, ↓ac118_157, ↓ac119_158, ↓ac120_159, ↓ac121_160, ↓ac122_161, ↓ac123_162, ↓g115_0, ↓g115_1, ↓g115_2, ↓g115_3, ↓g115_4, ↓g115_5, ↓g115_6, ↓g115_7, ↓g115_8, ↓g154_0, ↓g154_1, ↓g154_2, ↓g154_3, ↓g154_4, ↓g154_5, ↓g154_6, ↓g154_7, ↓g154_8, ↓pi154_8, ↓al155, ↓al156, ↓al157, ↓al158, ↓al159, ↓al160, ↓al161, ↓al162, ↓mv_mco, ↓bd_i, ↓lb_i, ↓rd_i, ↓wt_i, ↓pf_i, bdi_e, lbi_e, ↓ck_t, isb_0, isb_1, ↓reduceIte, ↓if_pos, ↓if_neg, Int.reduceEq, Int.reduceLT, Int.reduceLE, Int.reduceNe, Int.reduceNeg, Int.reduceAdd, Int.reduceSub, Int.reduceMul, Int.add_sub_cancel, tg_ms, ln_ms, nx_ms, tg_ma, ln_ma, nx_ma, mv_s, mv_o, mv_ma_eq, mv_ma_ne, wrk, within_t, within_f, in_t, in_f, isCell_t, isCell_f, isHolder_t, isHolder_f, isHolderm_t, isHolderm_f, isDay_t, isDay_f, isDaym_t, isDaym_f, isSheet_t, isSheet_f, isSheetm_t, isSheetm_f]
  · intro j j0 j1
    simp (disch := omega) only [mv_o, mv_mco, mv_mcs, Int.zero_add, Int.sub_zero]
  · intro j j0 j1
    simp (disch := omega) only [mv_o, mv_mco, mv_mcs, Int.zero_add, Int.sub_zero]
  · intro j j0 j1
    simp (disch := omega) only [mv_o, mv_mco, mv_mcs, Int.zero_add, Int.sub_zero]
  · intro j j0 j1
    simp (disch := omega) only [mv_o, mv_mco, mv_mcs, Int.zero_add, Int.sub_zero]
  · intro j j0 j1
    simp (disch := omega) only [mv_o, mv_mco, mv_mcs, Int.zero_add, Int.sub_zero]
  · intro j j0 j1
    simp (disch := omega) only [mv_o, mv_mco, mv_mcs, Int.zero_add, Int.sub_zero]
  · intro j j0 j1
    simp (disch := omega) only [mv_o, mv_mco, mv_mcs, Int.zero_add, Int.sub_zero]
  · intro j j0 j1
    simp (disch := omega) only [mv_o, mv_mco, mv_mcs, Int.zero_add, Int.sub_zero]
  · simp (disch := omega) only [mv_o, mv_s, mv_mco]
theorem bc6_k (S : Sh h) : ∃ h', f_X6_become n 163 124 h = some (0, h') ∧ FrN (fun a j => a = 164 ∨ a = 165 ∨ (a = 163 ∧ j = 2)) h h' ∧ (∀ j : Int, 0 ≤ j → j < 7 → mv h' 164 j = mv h 125 j) ∧ (∀ j : Int, 0 ≤ j → j < 7 → mv h' 165 j = mv h 126 j) ∧ mv h' 163 2 = mv h 124 2 := by
  refine ⟨(ms (mc (mc h 125 0 164 0 7) 126 0 165 0 7) 163 2 (mv h 124 2)), ?_, ((((FrN.refl h).mc (fun _ => by omega)).mc (fun _ => by omega)).w (by omega)), ?_, ?_, ?_⟩
  · simp (disch := first | assumption | (with_reducible show Sh _; simp only [S100_2, S101_7, S101_8, S101_9, S101_10, S102_5, S103, M103, S104, M104, S105, M105, S106, M106, S107, M107, S108_6, S108_7, S108_8, S108_9, S109, M109, S110, M110, S111, M111, S112, M112, S113, M113, S114, M114, S115_8, S116, M116, S117, M117, S118, M118, S119, M119, S120, M120, S121, M121, S122, M122, S123, M123, S124_2, S125, M125, S126, M126, S127, M127, S128, M128, S130, M130, S131, M131, S132_1, S132_2, S133, M133, S134_1, S134_2, S135, M135, S136_1, S136_2, S137, M137, S138_1, S138_2, S139, M139, S140_7, S140_8, S140_9, S140_10, S141_5, S142, M142, S143, M143, S144, M144, S145, M145, S146, M146, S147_6, S147_7, S147_8, S147_9, S148, M148, S149, M149, S150, M150, S151, M151, S152, M152, S153, M153, S154_8, S155, M155, S156, M156, S157, M157, S158, M158, S159, M159, S160, M160, S161, M161, S162, M162, S163_2, S164, M164, S165, M165, S166, M166, S167, M167, S169, M169, S170, M170, S171_1, S171_2, S172, M172, S173_1, S173_2, S174, M174, S175_1, S175_2, S176, M176, S177_1, S177_2, S178, M178, S179, M179, S180_1, S180_2, S180_5, S180_6, S180_7, S180_8, S181, M181, S182, M182, S183, M183, S184_6, S185, M185, S186, M186, S187, M187, S188, M188, S189, M189, S190, M190, S191_5, S191_6, S192, M192, S193, M193, S194, M194, S195, M195, S196, M196, S197_0, S197_3, S197_4, S197_5, S197_6, S197_7, S197_13, S198, M198, S199, M199, S200, M200, S201, M201, S202, M202, S203, M203, S204, M204, S205, M205, S206, M206, S207, M207, S208, M208, S209, M209, S210, M210, S211, M211, MC164, MC165] <;> assumption) | (with_reducible show tg _ _ = _; simp only [tg_ms, tg_ma]; assumption) | (with_reducible show ln _ _ = _; simp only [ln_ms, ln_ma]; assumption) | (with_reducible show J64 _; unfold J64; omega) | (with_reducible show J _; unfold J; omega) | omega) only [↓f_X6_become, ↓ac125_164, ↓ac126_165, ↓g124_0, ↓g124_1, ↓g124_2, ↓g124_3, ↓g124_4, ↓g163_0, ↓g163_1, ↓g163_2, ↓g163_3, ↓g163_4, ↓pi163_2, ↓al164, ↓al165, ↓mv_mco, ↓bd_i, ↓lb_i, ↓rd_i, ↓wt_i, ↓pf_i, bdi_e, lbi_e, ↓ck_t, isb_0, isb_1, ↓reduceIte, ↓if_pos, ↓if_neg, Int.reduceEq, Int.reduceLT, Int.reduceLE, Int.reduceNe, Int.reduceNeg, Int.reduceAdd, Int.reduceSub, Int.reduceMul, Int.add_sub_cancel, tg_ms, ln_ms, nx_ms, tg_ma, ln_ma, nx_ma, mv_s, mv_o, mv_ma_eq, mv_ma_ne, wrk, within_t, within_f, in_t, in_f, isCell_t, isCell_f, isHolder_t, isHolder_f, isHolderm_t, isHolderm_f, isDay_t, isDay_f, isDaym_t, isDaym_f, isSheet_t, isSheet_f, isSheetm_t, isSheetm_f]
  · intro j j0 j1
    simp (disch := omega) only [mv_o, mv_mco, mv_mcs, Int.zero_add, Int.sub_zero]
  · intro j j0 j1
    simp (disch := omega) only [mv_o, mv_mco, mv_mcs, Int.zero_add, Int.sub_zero]
  · simp (disch := omega) only [mv_o, mv_s, mv_mco]
theorem bc90_k (S : Sh h) : ∃ h', f_X9_become n 171 132 h = some (0, h') ∧ FrN (fun a j => a = 172 ∨ (a = 171 ∧ j = 1) ∨ (a = 171 ∧ j = 2)) h h' ∧ (∀ j : Int, 0 ≤ j → j < 40 → mv h' 172 j = mv h 133 j) ∧ mv h' 171 1 = mv h 132 1 ∧ mv h' 171 2 = mv h 132 2 := by
  refine ⟨(ms (ms (mc h 133 0 172 0 40) 171 1 (mv h 132 1)) 171 2 (mv h 132 2)), ?_, ((((FrN.refl h).mc (fun _ => by omega)).w (by omega)).w (by omega)), ?_, ?_, ?_⟩
  · simp (disch := first | assumption | (with_reducible show Sh _; simp only [S100_2, S101_7, S101_8, S101_9, S101_10, S102_5, S103, M103, S104, M104, S105, M105, S106, M106, S107, M107, S108_6, S108_7, S108_8, S108_9, S109, M109, S110, M110, S111, M111, S112, M112, S113, M113, S114, M114, S115_8, S116, M116, S117, M117, S118, M118, S119, M119, S120, M120, S121, M121, S122, M122, S123, M123, S124_2, S125, M125, S126, M126, S127, M127, S128, M128, S130, M130, S131, M131, S132_1, S132_2, S133, M133, S134_1, S134_2, S135, M135, S136_1, S136_2, S137, M137, S138_1, S138_2, S139, M139, S140_7, S140_8, S140_9, S140_10, S141_5, S142, M142, S143, M143, S144, M144, S145, M145, S146, M146, S147_6, S147_7, S147_8, S147_9, S148, M148, S149, M149, S150, M150, S151, M151, S152, M152, S153, M153, S154_8, S155, M155, S156, M156, S157, M157, S158, M158, S159, M159, S160, M160, S161, M161, S162, M162, S163_2, S164, M164, S165, M165, S166, M166, S167, M167, S169, M169, S170, M170, S171_1, S171_2, S172, M172, S173_1, S173_2, S174, M174, S175_1, S175_2, S176, M176, S177_1, S177_2, S178, M178, S179, M179, S180_1, S180_2, S180_5, S180_6, S180_7, S180_8, S181, M181, S182, M182, S183, M183, S184_6, S185, M185, S186, M186, S187, M187, S188, M188, S189, M189, S190, M190, S191_5, S191_6, S192, M192, S193, M193, S194, M194, S195, M195, S196, M196, S197_0, S197_3, S197_4, S197_5, S197_6, S197_7, S197_13, S198, M198, S199, M199, S200, M200, S201, M201, S202, M202, S203, M203, S204, M204, S205, M205, S206, M206, S207, M207, S208, M208, S209, M209, S210, M210, S211, M211, MC172] <;> assumption) | (with_reducible show tg _ _ = _; simp only [tg_ms, tg_ma]; assumption) | (with_reducible show ln _ _ = _; simp only [ln_ms, ln_ma]; assumption) | (with_reducible show J64 _; unfold J64; omega) | (with_reducible show J _; unfold J; omega) | omega) only [↓f_X9_become, ↓ac133_172, ↓g132_0, ↓g132_1, ↓g132_2, ↓g171_0, ↓g171_1, ↓g171_2, ↓pi171_1, ↓pi171_2, ↓al172, ↓mv_mco, ↓bd_i, ↓lb_i, ↓rd_i, ↓wt_i, ↓pf_i, bdi_e, lbi_e, ↓ck_t, isb_0, isb_1, ↓reduceIte, ↓if_pos, ↓if_neg, Int.reduceEq, Int.reduceLT, Int.reduceLE, Int.reduceNe, Int.reduceNeg, Int.reduceAdd, Int.reduceSub, Int.reduceMul, Int.add_sub_cancel, tg_ms, ln_ms, nx_ms, tg_ma, ln_ma, nx_ma, mv_s, mv_o, mv_ma_eq, mv_ma_ne, wrk, within_t, within_f, in_t, in_f, isCell_t, isCell_f, isHolder_t, isHolder_f, isHolderm_t, isHolderm_f, isDay_t, isDay_f, isDaym_t, isDaym_f, isSheet_t, isSheet_f, isSheetm_t, isSheetm_f]
  · intro j j0 j1
    simp (disch := omega) only [mv_o, mv_mco, mv_mcs, Int.zero_add, Int.sub_zero]
  · simp (disch := omega) only [mv_o, mv_s, mv_mco]
  · simp (disch := omega) only [mv_o, mv_s, mv_mco]
theorem bc91_k (S : Sh h) : ∃ h', f_X9_become n 173 134 h = some (0, h') ∧ FrN (fun a j => a = 174 ∨ (a = 173 ∧ j = 1) ∨ (a = 173 ∧ j = 2)) h h' ∧ (∀ j : Int, 0 ≤ j → j < 40 → mv h' 174 j = mv h 135 j) ∧ mv h' 173 1 = mv h 134 1 ∧ mv h' 173 2 = mv h 134 2 := by
  refine ⟨(ms (ms (mc h 135 0 174 0 40) 173 1 (mv h 134 1)) 173 2 (mv h 134 2)), ?_, ((((FrN.refl h).mc (fun _ => by omega)).w (by omega)).w (by omega)), ?_, ?_, ?_⟩
  · simp (disch := first | assumption | (with_reducible show Sh _; simp only [S100_2, S101_7, S101_8, S101_9, S101_10, S102_5, S103, M103, S104, M104, S105, M105, S106, M106, S107, M107, S108_6, S108_7, S108_8, S108_9, S109, M109, S110, M110, S111, M111, S112, M112, S113, M113, S114, M114, S115_8, S116, M116, S117, M117, S118, M118, S119, M119, S120, M120, S121, M121, S122, M122, S123, M123, S124_2, S125, M125, S126, M126, S127, M127, S128, M128, S130, M130, S131, M131, S132_1, S132_2, S133, M133, S134_1, S134_2, S135, M135, S136_1, S136_2, S137, M137, S138_1, S138_2, S139, M139, S140_7, S140_8, S140_9, S140_10, S141_5, S142, M142, S143, M143, S144, M144, S145, M145, S146, M146, S147_6, S147_7, S147_8, S147_9, S148, M148, S149, M149, S150, M150, S151, M151, S152, M152, S153, M153, S154_8, S155, M155, S156, M156, S157, M157, S158, M158, S159, M159, S160, M160, S161, M161, S162, M162, S163_2, S164, M164, S165, M165, S166, M166, S167, M167, S169, M169, S170, M170, S171_1, S171_2, S172, M172, S173_1, S173_2, S174, M174, S175_1, S175_2, S176, M176, S177_1, S177_2, S178, M178, S179, M179, S180_1, S180_2, S180_5, S180_6, S180_7, S180_8, S181, M181, S182, M182, S183, M183, S184_6, S185, M185, S186, M186, S187, M187, S188, M188, S189, M189, S190, M190, S191_5, S191_6, S192, M192, S193, M193, S194, M194, S195, M195, S196, M196, S197_0, S197_3, S197_4, S197_5, S197_6, S197_7, S197_13, S198, M198, S199, M199, S200, M200, S201, M201, S202, M202, S203, M203, S204, M204, S205, M205, S206, M206, S207, M207, S208, M208, S209, M209, S210, M210, S211, M211, MC174] <;> assumption) | (with_reducible show tg _ _ = _; simp only [tg_ms, tg_ma]; assumption) | (with_reducible show ln _ _ = _; simp only [ln_ms, ln_ma]; assumption) | (with_reducible show J64 _; unfold J64; omega) | (with_reducible show J _; unfold J; omega) | omega) only [↓f_X9_become, ↓ac135_174, ↓g134_0, ↓g134_1, ↓g134_2, ↓g173_0, ↓g173_1, ↓g173_2, ↓pi173_1, ↓pi173_2, ↓al174, ↓mv_mco, ↓bd_i, ↓lb_i, ↓rd_i, ↓wt_i, ↓pf_i, bdi_e, lbi_e, ↓ck_t, isb_0, isb_1, ↓reduceIte, ↓if_pos, ↓if_neg, Int.reduceEq, Int.reduceLT, Int.reduceLE, Int.reduceNe, Int.reduceNeg, Int.reduceAdd, Int.reduceSub, Int.reduceMul, Int.add_sub_cancel, tg_ms, ln_ms, nx_ms, tg_ma, ln_ma, nx_ma, mv_s, mv_o, mv_ma_eq, mv_ma_ne, wrk, within_t, within_f, in_t, in_f, isCell_t, isCell_f, isHolder_t, isHolder_f, isHolderm_t, isHolderm_f, isDay_t, isDay_f, isDaym_t, isDaym_f, isSheet_t, isSheet_f, isSheetm_t, isSheetm_f]
  · intro j j0 j1
    simp (disch := omega) only [mv_o, mv_mco, mv_mcs, Int.zero_add, Int.sub_zero]
  · simp (disch := omega) only [mv_o, mv_s, mv_mco]
  · simp (disch := omega) only [mv_o, mv_s, mv_mco]
theorem bc92_k (S : Sh h) : ∃ h', f_X9_become n 175 136 h = some (0, h') ∧ FrN (fun a j => a = 176 ∨ (a = 175 ∧ j = 1) ∨ (a = 175 ∧ j = 2)) h h' ∧ (∀ j : Int, 0 ≤ j → j < 40 → mv h' 176 j = mv h 137 j) ∧ mv h' 175 1 = mv h 136 1 ∧ mv h' 175 2 = mv h 136 2 := by
  refine ⟨(ms (ms (mc h 137 0 176 0 40) 175 1 (mv h 136 1)) 175 2 (mv h 136 2)), ?_, ((((FrN.refl h).mc (fun _ => by omega)).w (by omega)).w (by omega)), ?_, ?_, ?_⟩
  · simp (disch := first | assumption | (with_reducible show Sh _; simp only [S100_2, S101_7, S101_8, S101_9, S101_10, S102_5, S103, M103, S104, M104, S105, M105, S106, M106, S107, M107, S108_6, S108_7, S108_8, S108_9, S109, M109, S110, M110, S111, M111, S112, M112, S113, M113, S114, M114, S115_8, S116, M116, S117, M117, S118, M118, S119, M119, S120, M120, S121, M121, S122, M122, S123, M123, S124_2, S125, M125, S126, M126, S127, M127, S128, M128, S130, M130, S131, M131, S132_1, S132_2, S133, M133, S134_1, S134_2, S135, M135, S136_1, S136_2, S137, M137, S138_1, S138_2, S139, M139, S140_7, S140_8, S140_9, S140_10, S141_5, S142, M142, S143, M143, S144, M144, S145, M145, S146, M146, S147_6, S147_7, S147_8, S147_9, S148, M148, S149, M149, S150, M150, S151, M151, S152, M152, S153, M153, S154_8, S155, M155, S156, M156, S157, M157, S158, M158, S159, M159, S160, M160, S161, M161, S162, M162, S163_2, S164, M164, S165, M165, S166, M166, S167, M167, S169, M169, S170, M170, S171_1, S171_2, S172, M172, S173_1, S173_2, S174, M174, S175_1, S175_2, S176, M176, S177_1, S177_2, S178, M178, S179, M179, S180_1, S180_2, S180_5, S180_6, S180_7, S180_8, S181, M181, S182, M182, S183, M183, S184_6, S185, M185, S186, M186, S187, M187, S188, M188, S189, M189, S190, M190, S191_5, S191_6, S192, M192, S193, M193, S194, M194, S195, M195, S196, M196, S197_0, S197_3, S197_4, S197_5, S197_6, S197_7, S197_13, S198, M198, S199, M199, S200, M200, S201, M201, S202, M202, S203, M203, S204, M204, S205, M205, S206, M206, S207, M207, S208, M208, S209, M209, S210, M210, S211, M211, MC176] <;> assumption) | (with_reducible show tg _ _ = _; simp only [tg_ms, tg_ma]; assumption) | (with_reducible show ln _ _ = _; simp only [ln_ms, ln_ma]; assumption) | (with_reducible show J64 _; unfold J64; omega) | (with_reducible show J _; unfold J; omega) | omega) only [↓f_X9_become, ↓ac137_176, ↓g136_0, ↓g136_1, ↓g136_2, ↓g175_0, ↓g175_1, ↓g175_2, ↓pi175_1, ↓pi175_2, ↓al176, ↓mv_mco, ↓bd_i, ↓lb_i, ↓rd_i, ↓wt_i, ↓pf_i, bdi_e, lbi_e, ↓ck_t, isb_0, isb_1, ↓reduceIte, ↓if_pos, ↓if_neg, Int.reduceEq, Int.reduceLT, Int.reduceLE, Int.reduceNe, Int.reduceNeg, Int.reduceAdd, Int.reduceSub, Int.reduceMul, Int.add_sub_cancel, tg_ms, ln_ms, nx_ms, tg_ma, ln_ma, nx_ma, mv_s, mv_o, mv_ma_eq, mv_ma_ne, wrk, within_t, within_f, in_t, in_f, isCell_t, isCell_f, isHolder_t, isHolder_f, isHolderm_t, isHolderm_f, isDay_t, isDay_f, isDaym_t, isDaym_f, isSheet_t, isSheet_f, isSheetm_t, isSheetm_f]
  · intro j j0 j1
    simp (disch := omega) only [mv_o, mv_mco, mv_mcs, Int.zero_add, Int.sub_zero]
  · simp (disch := omega) only [mv_o, mv_s, mv_mco]
  · simp (disch := omega) only [mv_o, mv_s, mv_mco]
theorem bc93_k (S : Sh h) : ∃ h', f_X9_become n 177 138 h = some (0, h') ∧ FrN (fun a j => a = 178 ∨ (a = 177 ∧ j = 1) ∨ (a = 177 ∧ j = 2)) h h' ∧ (∀ j : Int, 0 ≤ j → j < 40 → mv h' 178 j = mv h 139 j) ∧ mv h' 177 1 = mv h 138 1 ∧ mv h' 177 2 = mv h 138 2 := by
  refine ⟨(ms (ms (mc h 139 0 178 0 40) 177 1 (mv h 138 1)) 177 2 (mv h 138 2)), ?_, ((((FrN.refl h).mc (fun _ => by omega)).w (by omega)).w (by omega)), ?_, ?_, ?_⟩
  · simp (disch := first | assumption | (with_reducible show Sh _; simp only [S100_2, S101_7, S101_8, S101_9, S101_10, S102_5, S103, M103, S104, M104, S105, M105, S106, M106, S107, M107, S108_6, S108_7, S108_8, S108_9, S109, M109, S110, M110, S111, M111, S112, M112, S113, M113, S114, M114, S115_8, S116, M116, S117, M117, S118, M118, S119, M119, S120, M120, S121, M121, S122, M122, S123, M123, S124_2, S125, M125, S126, M126, S127, M127, S128, M128, S130, M130, S131, M131, S132_1, S132_2, S133, M133, S134_1, S134_2, S135, M135, S136_1, S136_2, S137, M137, S138_1, S138_2, S139, M139, S140_7, S140_8, S140_9, S140_10, S141_5, S142, M142, S143, M143, S144, M144, S145, M145, S146, M146, S147_6, S147_7, S147_8, S147_9, S148, M148, S149, M149, S150, M150, S151, M151, S152, M152, S153, M153, S154_8, S155, M155, S156, M156, S157, M157, S158, M158, S159, M159, S160, M160, S161, M161, S162, M162, S163_2, S164, M164, S165, M165, S166, M166, S167, M167, S169, M169, S170, M170, S171_1, S171_2, S172, M172, S173_1, S173_2, S174, M174, S175_1, S175_2, S176, M176, S177_1, S177_2, S178, M178, S179, M179, S180_1, S180_2, S180_5, S180_6, S180_7, S180_8, S181, M181, S182, M182, S183, M183, S184_6, S185, M185, S186, M186, S187, M187, S188, M188, S189, M189, S190, M190, S191_5, S191_6, S192, M192, S193, M193, S194, M194, S195, M195, S196, M196, S197_0, S197_3, S197_4, S197_5, S197_6, S197_7, S197_13, S198, M198, S199, M199, S200, M200, S201, M201, S202, M202, S203, M203, S204, M204, S205, M205, S206, M206, S207, M207, S208, M208, S209, M209, S210, M210, S211, M211, MC178] <;> assumption) | (with_reducible show tg _ _ = _; simp only [tg_ms, tg_ma]; assumption) | (with_reducible show ln _ _ = _; simp only [ln_ms, ln_ma]; assumption) | (with_reducible show J64 _; unfold J64; omega) | (with_reducible show J _; unfold J; omega) | omega) only [↓f_X9_become, ↓ac139_178, ↓g138_0, ↓g138_1, ↓g138_2, ↓g177_0, ↓g177_1, ↓g177_2, ↓pi177_1, ↓pi177_2, ↓al178, ↓mv_mco, ↓bd_i, ↓lb_i, ↓rd_i, ↓wt_i, ↓pf_i, bdi_e, lbi_e, ↓ck_t, isb_0, isb_1, ↓reduceIte, ↓if_pos, ↓if_neg, Int.reduceEq, Int.reduceLT, Int.reduceLE, Int.reduceNe, Int.reduceNeg, Int.reduceAdd, Int.reduceSub, Int.reduceMul, Int.add_sub_cancel, tg_ms, ln_ms, nx_ms, tg_ma, ln_ma, nx_ma, mv_s, mv_o, mv_ma_eq, mv_ma_ne, wrk, within_t, within_f, in_t, in_f, isCell_t, isCell_f, isHolder_t, isHolder_f, isHolderm_t, isHolderm_f, isDay_t, isDay_f, isDaym_t, isDaym_f, isSheet_t, isSheet_f, isSheetm_t, isSheetm_f]
  · intro j j0 j1
    simp (disch := omega) only [mv_o, mv_mco, mv_mcs, Int.zero_add, Int.sub_zero]
  · simp (disch := omega) only [mv_o, mv_s, mv_mco]
  · simp (disch := omega) only [mv_o, mv_s, mv_mco]
theorem bc1_n (S : Sh h) : ∃ h', f_X1_become n 102 141 h = some (0, h') ∧ FrN (fun a j => a = 103 ∨ a = 104 ∨ a = 105 ∨ a = 106 ∨ a = 107 ∨ (a = 102 ∧ j = 5)) h h' ∧ (∀ j : Int, 0 ≤ j → j < 80 → mv h' 103 j = mv h 142 j) ∧ (∀ j : Int, 0 ≤ j → j < 80 → mv h' 104 j = mv h 143 j) ∧ (∀ j : Int, 0 ≤ j → j < 80 → mv h' 105 j = mv h 144 j) ∧ (∀ j : Int, 0 ≤ j → j < 6 → mv h' 106 j = mv h 145 j) ∧ (∀ j : Int, 0 ≤ j → j < 6 → mv h' 107 j = mv h 146 j) ∧ mv h' 102 5 = mv h 141 5 := by
  refine ⟨(ms (mc (mc (mc (mc (mc h 142 0 103 0 80) 143 0 104 0 80) 144 0 105 0 80) 145 0 106 0 6) 146 0 107 0 6) 102 5 (mv h 141 5)), ?_, (((((((FrN.refl h).mc (fun _ => by omega)).mc (fun _ => by omega)).mc (fun _ => by omega)).mc (fun _ => by omega)).mc (fun _ => by omega)).w (by omega)), ?_, ?_, ?_, ?_, ?_, ?_⟩
  · simp (disch := first | assumption | (with_reducible show Sh _; simp only [S100_2, S101_7, S101_8, S101_9, S101_10, S102_5, S103, M103, S104, M104, S105, M105, S106, M106, S107, M107, S108_6, S108_7, S108_8, S108_9, S109, M109, S110, M110, S111, M111, S112, M112, S113, M113, S114, M114, S115_8, S116, M116, S117, M117, S118, M118, S119, M119, S120, M120, S121, M121, S122, M122, S123, M123, S124_2, S125, M125, S126, M126, S127, M127, S128, M128, S130, M130, S131, M131, S132_1, S132_2, S133, M133, S134_1, S134_2, S135, M135, S136_1, S136_2, S137, M137, S138_1, S138_2, S139, M139, S140_7, S140_8, S140_9, S140_10, S141_5, S142, M142, S143, M143, S144, M144, S145, M145, S146, M146, S147_6, S147_7, S147_8, S147_9, S148, M148, S149, M149, S150, M150, S151, M151, S152, M152, S153, M153, S154_8, S155, M155, S156, M156, S157, M157, S158, M158, S159, M159, S160, M160, S161, M161, S162, M162, S163_2, S164, M164, S165, M165, S166, M166, S167, M167, S169, M169, S170, M170, S171_1, S171_2, S172, M172, S173_1, S173_2, S174, M174, S175_1, S175_2, S176, M176, S177_1, S177_2, S178, M178, S179, M179, S180_1, S180_2, S180_5, S180_6, S180_7, S180_8, S181, M181, S182, M182, S183, M183, S184_6, S185, M185, S186, M186, S187, M187, S188, M188, S189, M189, S190, M190, S191_5, S191_6, S192, M192, S193, M193, S194, M194, S195, M195, S196, M196, S197_0, S197_3, S197_4, S197_5, S197_6, S197_7, S197_13, S198, M198, S199, M199, S200, M200, S201, M201, S202, M202, S203, M203, S204, M204, S205, M205, S206, M206, S207, M207, S208, M208, S209, M209, S210, M210, S211, M211, MC103, MC104, MC105, MC106, MC107] <;> assumption) | (with_reducible show tg _ _ = _; simp only [tg_ms, tg_ma]; assumption) | (with_reducible show ln _ _ = _; simp only [ln_ms, ln_ma]; assumption) | (with_reducible show J64 _; unfold J64; omega) | (with_reducible show J _; unfold J; omega) | omega) only [↓f_X1_become, ↓ac142_103, ↓ac143_104, ↓ac144_105, ↓ac145_106, ↓ac146_107, ↓g102_0, ↓g102_1, ↓g102_2, ↓g102_3, ↓g102_4, ↓g102_5, ↓g141_0, ↓g141_1, ↓g141_2, ↓g141_3, ↓g141_4, ↓g141_5, ↓pi102_5, ↓al103, ↓al104, ↓al105, ↓al106, ↓al107, ↓mv_mco, ↓bd_i, ↓lb_i, ↓rd_i, ↓wt_i, ↓pf_i, bdi_e, lbi_e, ↓ck_t, isb_0, isb_1, ↓reduceIte, ↓if_pos, ↓if_neg, Int.reduceEq, Int.reduceLT, Int.reduceLE, Int.reduceNe, Int.reduceNeg, Int.reduceAdd, Int.reduceSub, Int.reduceMul, Int.add_sub_cancel, tg_ms, ln_ms, nx_ms, tg_ma, ln_ma, nx_ma, mv_s, mv_o, mv_ma_eq, mv_ma_ne, wrk, within_t, within_f, in_t, in_f, isCell_t, isCell_f, isHolder_t, isHolder_f, isHolderm_t, isHolderm_f, isDay_t, isDay_f, isDaym_t, isDaym_f, isSheet_t, isSheet_f, isSheetm_t, isSheetm_f]
  · intro j j0 j1
    simp (disch := omega) only [mv_o, mv_mco, mv_mcs, Int.zero_add, Int.sub_zero]
  · intro j j0 j1
    simp (disch := omega) only [mv_o, mv_mco, mv_mcs, Int.zero_add, Int.sub_zero]
  · intro j j0 j1
    simp (disch := omega) only [mv_o, mv_mco, mv_mcs, Int.zero_add, Int.sub_zero]
  · intro j j0 j1
    simp (disch := omega) only [mv_o, mv_mco, mv_mcs, Int.zero_add, Int.sub_zero]
  · intro j j0 j1
    simp (disch := omega) only [mv_o, mv_mco, mv_mcs, Int.zero_add, Int.sub_zero]
  · simp (disch := omega) only [mv_o, mv_s, mv_mco]
theorem bc8_n (S : Sh h) : ∃ h', f_X8_become n 115 154 h = some (0, h') ∧ FrN (fun a j => a = 116 ∨ a = 117 ∨ a = 118 ∨ a = 119 ∨ a = 120 ∨ a = 121 ∨ a = 122 ∨ a = 123 ∨ (a = 115 ∧ j = 8)) h h' ∧ (∀ j : Int, 0 ≤ j → j < 20 → mv h' 116 j = mv h 155 j) ∧ (∀ j : Int, 0 ≤ j → j < 108 → mv h' 117 j = mv h 156 j) ∧ (∀ j : Int, 0 ≤ j → j < 12 → mv h' 118 j = mv h 157 j) ∧ (∀ j : Int, 0 ≤ j → j < 40 → mv h' 119 j = mv h 158 j) ∧ (∀ j : Int, 0 ≤ j → j < 40 → mv h' 120 j = mv h 159 j) ∧ (∀ j : Int, 0 ≤ j → j < 40 → mv h' 121 j = mv h 160 j) ∧ (∀ j : Int, 0 ≤ j → j < 40 → mv h' 122 j = mv h 161 j) ∧ (∀ j : Int, 0 ≤ j → j < 40 → mv h' 123 j = mv h 162 j) ∧ mv h' 115 8 = mv h 154 8 := by
  refine ⟨(ms (mc (mc (mc (mc (mc (mc (mc (mc h 155 0 116 0 20) 156 0 117 0 108) 157 0 118 0 12) 158 0 119 0 40) 159 0 120 0 40) 160 0 121 0 40) 161 0 122 0 40) 162 0 123 0 40) 115 8 (mv h 154 8)), ?_, ((((((((((FrN.refl h).mc (fun _ => by omega)).mc (fun _ => by omega)).mc (fun _ => by omega)).mc (fun _ => by omega)).mc (fun _ => by omega)).mc (fun _ => by omega)).mc (fun _ => by omega)).mc (fun _ => by omega)).w (by omega)), ?_, ?_, ?_, ?_, ?_, ?_, ?_, ?_, ?_⟩
  · simp (disch := first | assumption | (with_reducible show Sh _; simp only [S100_2, S101_7, S101_8, S101_9, S101_10, S102_5, S103, M103, S104, M104, S105, M105, S106, M106, S107, M107, S108_6, S108_7, S108_8, S108_9, S109, M109, S110, M110, S111, M111, S112, M112, S113, M113, S114, M114, S115_8, S116, M116, S117, M117, S118, M118, S119, M119, S120, M120, S121, M121, S122, M122, S123, M123, S124_2, S125, M125, S126, M126, S127, M127, S128, M128, S130, M130, S131, M131, S132_1, S132_2, S133, M133, S134_1, S134_2, S135, M135, S136_1, S136_2, S137, M137, S138_1, S138_2, S139, M139, S140_7, S140_8, S140_9, S140_10, S141_5, S142, M142, S143, M143, S144, M144, S145, M145, S146, M146, S147_6, S147_7, S147_8, S147_9, S148, M148, S149, M149, S150, M150, S151, M151, S152, M152, S153, M153, S154_8, S155, M155, S156, M156, S157, M157, S158, M158, S159, M159, S160, M160, S161, M161, S162, M162, S163_2, S164, M164, S165, M165, S166, M166, S167, M167, S169, M169, S170, M170, S171_1, S171_2, S172, M172, S173_1, S173_2, S174, M174, S175_1, S175_2, S176, M176, S177_1, S177_2, S178, M178, S179, M179, S180_1, S180_2, S180_5, S180_6, S180_7, S180_8, S181, M181, S182, M182, S183, M183, S184_6, S185, M185, S186, M186, S187, M187, S188, M188, S189, M189, S190, M190, S191_5, S191_6, S192, M192, S193, M193, S194, M194, S195, M195, S196, M196, S197_0, S197_3, S197_4, S197_5, S197_6, S197_7, S197_13, S198, M198, S199, M199, S200, M200, S201, M201, S202, M202, S203, M203, S204, M204, S205, M205, S206, M206, S207, M207, S208, M208, S209, M209, S210, M210, S211, M211, MC116, MC117, MC118, MC119, MC120, MC121, MC122, MC123] <;> assumption) | (with_reducible show tg _ _ = _; simp only [tg_ms, tg_ma]; assumption) | (with_reducible show ln _ _ = _; simp only [ln_ms, ln_ma]; assumption) | (with_reducible show J64 _; unfold J64; omega) | (with_reducible show J _; unfold J; omega) | omega) only [↓f_X8_become, ↓ac155_116, ↓ac156_117, ↓ac157_118, ↓ac158_119, ↓ac159_120, ↓ac160_121, ↓ac161_122, ↓ac162_123, ↓g115_0, ↓g115_1, ↓g115_2, ↓g115_3, ↓g115_4, ↓g115_5, ↓g115_6, ↓g115_7, ↓g115_8, ↓g154_0, ↓g154_1, ↓g154_2, ↓g154_3, ↓g154_4, ↓g154_5, ↓g154_6, ↓g154_7, ↓g154_8, ↓pi115_8, ↓al116, ↓al117, ↓al118, ↓al119, ↓al120, ↓al121, ↓al122, ↓al123, ↓mv_mco, ↓bd_i, ↓lb_i, ↓rd_i, ↓wt_i, ↓pf_i, bdi_e, lbi_e, ↓ck_t, isb_0, isb_1, ↓reduceIte, ↓if_pos, ↓if_neg, Int.reduceEq, Int.reduceLT, Int.reduceLE, Int.reduceNe, Int.reduceNeg, Int.reduceAdd, Int.reduceSub, Int.reduceMul, Int.add_sub_cancel, tg_ms, ln_ms, nx_ms, tg_ma, ln_ma, nx_ma, mv_s, mv_o, mv_ma_eq, mv_ma_ne, wrk, within_t, within_f, in_t, in_f, isCell_t, isCell_f, isHolder_t, isHolder_f, isHolderm_t, isHolderm_f, isDay_t, isDay_f, isDaym_t, isDaym_f, isSheet_t, isSheet_f, isSheetm_t, isSheetm_f]
  · intro j j0 j1
    simp (disch := omega) only [mv_o, mv_mco, mv_mcs, Int.zero_add, Int.sub_zero]
  · intro j j0 j1
    simp (disch := omega) only [mv_o, mv_mco, mv_mcs, Int.zero_add, Int.sub_zero]
  · intro j j0 j1
    simp (disch := omega) only [mv_o, mv_mco, mv_mcs, Int.zero_add, Int.sub_zero]
  · intro j j0 j1
    simp (disch := omega) only [mv_o, mv_mco, mv_mcs, Int.zero_add, Int.sub_zero]
  · intro j j0 j1
    simp (disch := omega) only [mv_o, mv_mco, mv_mcs, Int.zero_add, Int.sub_zero]
  · intro j j0 j1
    simp (disch := omega) only [mv_o, mv_mco, mv_mcs, Int.zero_add, Int.sub_zero]
  · intro j j0 j1
    simp (disch := omega) only [mv_o, mv_mco, mv_mcs, Int.zero_add, Int.sub_zero]
  · intro j j0 j1
    simp (disch := omega) only [mv_o, mv_mco, mv_mcs, Int.zero_add, Int.sub_zero]
  · simp (disch := omega) only [mv_o, mv_s, mv_mco]
theorem bc6_n (S : Sh h) : ∃ h', f_X6_become n 124 163 h = some (0, h') ∧ FrN (fun a j => a = 125 ∨ a = 126 ∨ (a = 124 ∧ j = 2)) h h' ∧ (∀ j : Int, 0 ≤ j → j < 7 → mv h' 125 j = mv h 164 j) ∧ (∀ j : Int, 0 ≤ j → j < 7 → mv h' 126 j = mv h 165 j) ∧ mv h' 124 2 = mv h 163 2 := by
  refine ⟨(ms (mc (mc h 164 0 125 0 7) 165 0 126 0 7) 124 2 (mv h 163 2)), ?_, ((((FrN.refl h).mc (fun _ => by omega)).mc (fun _ => by omega)).w (by omega)), ?_, ?_, ?_⟩
  · simp (disch := first | assumption | (with_reducible show Sh _; simp only [S100_2, S101_7, S101_8, S101_9, S101_10, S102_5, S103, M103, S104, M104, S105, M105, S106, M106, S107, M107, S108_6, S108_7, S108_8, S108_9, S109, M109, S110, M110, S111, M111, S112, M112, S113, M113, S114, M114, S115_8, S116, M116, S117, M117, S118, M118, S119, M119, S120, M120, S121, M121, S122, M122, S123, M123, S124_2, S125, M125, S126, M126, S127, M127, S128, M128, S130, M130, S131, M131, S132_1, S132_2, S133, M133, S134_1, S134_2, S135, M135, S136_1, S136_2, S137, M137, S138_1, S138_2, S139, M139, S140_7, S140_8, S140_9, S140_10, S141_5, S142, M142, S143, M143, S144, M144, S145, M145, S146, M146, S147_6, S147_7, S147_8, S147_9, S148, M148, S149, M149, S150, M150, S151, M151, S152, M152, S153, M153, S154_8, S155, M155, S156, M156, S157, M157, S158, M158, S159, M159, S160, M160, S161, M161, S162, M162, S163_2, S164, M164, S165, M165, S166, M166, S167, M167, S169, M169, S170, M170, S171_1, S171_2, S172, M172, S173_1, S173_2, S174, M174, S175_1, S175_2, S176, M176, S177_1, S177_2, S178, M178, S179, M179, S180_1, S180_2, S180_5, S180_6, S180_7, S180_8, S181, M181, S182, M182, S183, M183, S184_6, S185, M185, S186, M186, S187, M187, S188, M188, S189, M189, S190, M190, S191_5, S191_6, S192, M192, S193, M193, S194, M194, S195, M195, S196, M196, S197_0, S197_3, S197_4, S197_5, S197_6, S197_7, S197_13, S198, M198, S199, M199, S200, M200, S201, M201, S202, M202, S203, M203, S204, M204, S205, M205, S206, M206, S207, M207, S208, M208, S209, M209, S210, M210, S211, M211, MC125, MC126] <;> assumption) | (with_reducible show tg _ _ = _; simp only [tg_ms, tg_ma]; assumption) | (with_reducible show ln _ _ = _; simp only [ln_ms, ln_ma]; assumption) | (with_reducible show J64 _; unfold J64; omega) | (with_reducible show J _; unfold J; omega) | omega) only [↓f_X6_become, ↓ac164_125, ↓ac165_126, ↓g124_0, ↓g124_1, ↓g124_2, ↓g124_3, ↓g124_4, ↓g163_0, ↓g163_1, ↓g163_2, ↓g163_3, ↓g163_4, ↓pi124_2, ↓al125, ↓al126, ↓mv_mco, ↓bd_i, ↓lb_i, ↓rd_i, ↓wt_i, ↓pf_i, bdi_e, lbi_e, ↓ck_t, isb_0, isb_1, ↓reduceIte, ↓if_pos, ↓if_neg, Int.reduceEq, Int.reduceLT, Int.reduceLE, Int.reduceNe, Int.reduceNeg, Int.reduceAdd, Int.reduceSub, Int.reduceMul, Int.add_sub_cancel, tg_ms, ln_ms, nx_ms, tg_ma, ln_ma, nx_ma, mv_s, mv_o, mv_ma_eq, mv_ma_ne, wrk, within_t, within_f, in_t, in_f, isCell_t, isCell_f, isHolder_t, isHolder_f, isHolderm_t, isHolderm_f, isDay_t, isDay_f, isDaym_t, isDaym_f, isSheet_t, isSheet_f, isSheetm_t, isSheetm_f]
  · intro j j0 j1
    simp (disch := omega) only [mv_o, mv_mco, mv_mcs, Int.zero_add, Int.sub_zero]
  · intro j j0 j1
    simp (disch := omega) only [mv_o, mv_mco, mv_mcs, Int.zero_add, Int.sub_zero]
  · simp (disch := omega) only [mv_o, mv_s, mv_mco]
theorem bc90_n (S : Sh h) : ∃ h', f_X9_become n 132 171 h = some (0, h') ∧ FrN (fun a j => a = 133 ∨ (a = 132 ∧ j = 1) ∨ (a = 132 ∧ j = 2)) h h' ∧ (∀ j : Int, 0 ≤ j → j < 40 → mv h' 133 j = mv h 172 j) ∧ mv h' 132 1 = mv h 171 1 ∧ mv h' 132 2 = mv h 171 2 := by
  refine ⟨(ms (ms (mc h 172 0 133 0 40) 132 1 (mv h 171 1)) 132 2 (mv h 171 2)), ?_, ((((FrN.refl h).mc (fun _ => by omega)).w (by omega)).w (by omega)), ?_, ?_, ?_⟩
  · simp (disch := first | assumption | (with_reducible show Sh _; simp only [S100_2, S101_7, S101_8, S101_9, S101_10, S102_5, S103, M103, S104, M104, S105, M105, S106, M106, S107, M107, S108_6, S108_7, S108_8, S108_9, S109, M109, S110, M110, S111, M111, S112, M112, S113, M113, S114, M114, S115_8, S116, M116, S117, M117, S118, M118, S119, M119, S120, M120, S121, M121, S122, M122, S123, M123, S124_2, S125, M125, S126, M126, S127, M127, S128, M128, S130, M130, S131, M131, S132_1, S132_2, S133, M133, S134_1, S134_2, S135, M135, S136_1, S136_2, S137, M137, S138_1, S138_2, S139, M139, S140_7, S140_8, S140_9, S140_10, S141_5, S142, M142, S143, M143, S144, M144, S145, M145, S146, M146, S147_6, S147_7, S147_8, S147_9, S148, M148, S149, M149, S150, M150, S151, M151, S152, M152, S153, M153, S154_8, S155, M155, S156, M156, S157, M157, S158, M158, S159, M159, S160, M160, S161, M161, S162, M162, S163_2, S164, M164, S165, M165, S166, M166, S167, M167, S169, M169, S170, M170, S171_1, S171_2, S172, M172, S173_1, S173_2, S174, M174, S175_1, S175_2, S176, M176, S177_1, S177_2, S178, M178, S179, M179, S180_1, S180_2, S180_5, S180_6, S180_7, S180_8, S181, M181, S182, M182, S183, M183, S184_6, S185, M185, S186, M186, S187, M187, S188, M188, S189, M189, S190, M190, S191_5, S191_6, S192, M192, S193, M193, S194, M194, S195, M195, S196, M196, S197_0, S197_3, S197_4, S197_5, S197_6, S197_7, S197_13, S198, M198, S199, M199, S200, M200, S201, M201, S202, M202, S203, M203, S204, M204, S205, M205, S206, M206, S207, M207, S208, M208, S209, M209, S210, M210, S211, M211, MC133] <;> assumption) | (with_reducible show tg _ _ = _; simp only [tg_ms, tg_ma]; assumption) | (with_reducible show ln _ _ = _; simp only [ln_ms, ln_ma]; assumption) | (with_reducible show J64 _; unfold J64; omega) | (with_reducible show J _; unfold J; omega) | omega) only [↓f_X9_become, ↓ac172_133, ↓g132_0, ↓g132_1, ↓g132_2, ↓g171_0, ↓g171_1, ↓g171_2, ↓pi132_1, ↓pi132_2, ↓al133, ↓mv_mco, ↓bd_i, ↓lb_i, ↓rd_i, ↓wt_i, ↓pf_i, bdi_e, lbi_e, ↓ck_t, isb_0, isb_1, ↓reduceIte, ↓if_pos, ↓if_neg, Int.reduceEq, Int.reduceLT, Int.reduceLE, Int.reduceNe, Int.reduceNeg, Int.reduceAdd, Int.reduceSub, Int.reduceMul, Int.add_sub_cancel, tg_ms, ln_ms, nx_ms, tg_ma, ln_ma, nx_ma, mv_s, mv_o, mv_ma_eq, mv_ma_ne, wrk, within_t, within_f, in_t, in_f, isCell_t, isCell_f, isHolder_t, isHolder_f, isHolderm_t, isHolderm_f, isDay_t, isDay_f, isDaym_t, isDaym_f, isSheet_t, isSheet_f, isSheetm_t, isSheetm_f]
  · intro j j0 j1
    simp (disch := omega) only [mv_o, mv_mco, mv_mcs, Int.zero_add, Int.sub_zero]
  · simp (disch := omega) only [mv_o, mv_s, mv_mco]
  · simp (disch := omega) only [mv_o, mv_s, mv_mco]
theorem bc91_n (S : Sh h) : ∃ h', f_X9_become n 134 173 h = some (0, h') ∧ FrN (fun a j => a = 135 ∨ (a = 134 ∧ j = 1) ∨ (a = 134 ∧ j = 2)) h h' ∧ (∀ j : Int, 0 ≤ j → j < 40 → mv h' 135 j = mv h 174 j) ∧ mv h' 134 1 = mv h 173 1 ∧ mv h' 134 2 = mv h 173 2 := by
  refine ⟨(ms (ms (mc h 174 0 135 0 40) 134 1 (mv h 173 1)) 134 2 (mv h 173 2)), ?_, ((((FrN.refl h).mc (fun _ => by omega)).w (by omega)).w (by omega)), ?_, ?_, ?_⟩
  · simp (disch := first | assumption | (with_reducible show Sh _; simp only [S100_2, S101_7, S101_8, S101_9, S101_10, S102_5, S103, M103, S104, M104, S105, M105, S106, M106, S107, M107, S108_6, S108_7, S108_8, S108_9, S109, M109, S110, M110, S111, M111, S112, M112, S113, M113, S114, M114, S115_8, S116, M116, S117, M117, S118, M118, S119, M119, S120, M120, S121, M121, S122, M122, S123, M123, S124_2, S125, M125, S126, M126, S127, M127, S128, M128, S130, M130, S131, M131, S132_1, S132_2, S133, M133, S134_1, S134_2, S135, M135, S136_1, S136_2, S137, M137, S138_1, S138_2, S139, M139, S140_7, S140_8, S140_9, S140_10, S141_5, S142, M142, S143, M143, S144, M144, S145, M145, S146, M146, S147_6, S147_7, S147_8, S147_9, S148, M148, S149, M149, S150, M150, S151, M151, S152, M152, S153, M153, S154_8, S155, M155, S156, M156, S157, M157, S158, M158, S159, M159, S160, M160, S161, M161, S162, M162, S163_2, S164, M164, S165, M165, S166, M166, S167, M167, S169, M169, S170, M170, S171_1, S171_2, S172, M172, S173_1, S173_2, S174, M174, S175_1, S175_2, S176, M176, S177_1, S177_2, S178, M178, S179, M179, S180_1, S180_2, S180_5, S180_6, S180_7, S180_8, S181, M181, S182, M182, S183, M183, S184_6, S185, M185, S186, M186, S187, M187, S188, M188, S189, M189, S190, M190, S191_5, S191_6, S192, M192, S193, M193, S194, M194, S195, M195, S196, M196, S197_0, S197_3, S197_4, S197_5, S197_6, S197_7, S197_13, S198, M198, S199, M199, S200, M200, S201, M201, S202, M202, S203, M203, S204, M204, S205, M205, S206, M206, S207, M207, S208, M208, S209, M209, S210, M210, S211, M211, MC135] <;> assumption) | (with_reducible show tg _ _ = _; simp only [tg_ms, tg_ma]; assumption) | (with_reducible show ln _ _ = _; simp only [ln_ms, ln_ma]; assumption) | (with_reducible show J64 _; unfold J64; omega) | (with_reducible show J _; unfold J; omega) | omega) only [↓f_X9_become, ↓ac174_135, ↓g134_0, ↓g134_1, ↓g134_2, ↓g173_0, ↓g173_1, ↓g173_2, ↓pi134_1, ↓pi134_2, ↓al135, ↓mv_mco, ↓bd_i, ↓lb_i, ↓rd_i, ↓wt_i, ↓pf_i, bdi_e, lbi_e, ↓ck_t, isb_0, isb_1, ↓reduceIte, ↓if_pos, ↓if_neg, Int.reduceEq, Int.reduceLT, Int.reduceLE, Int.reduceNe, Int.reduceNeg, Int.reduceAdd, Int.reduceSub, Int.reduceMul, Int.add_sub_cancel, tg_ms, ln_ms, nx_ms, tg_ma, ln_ma, nx_ma, mv_s, mv_o, mv_ma_eq, mv_ma_ne, wrk, within_t, within_f, in_t, in_f, isCell_t, isCell_f, isHolder_t, isHolder_f, isHolderm_t, isHolderm_f, isDay_t, isDay_f, isDaym_t, isDaym_f, isSheet_t, isSheet_f, isSheetm_t, isSheetm_f]
  · intro j j0 j1
    simp (disch := omega) only [mv_o, mv_mco, mv_mcs, Int.zero_add, Int.sub_zero]
  · simp (disch := omega) only [mv_o, mv_s, mv_mco]
  · simp (disch := omega) only [mv_o, mv_s, mv_mco]
theorem bc92_n (S : Sh h) : ∃ h', f_X9_become n 136 175 h = some (0, h') ∧ FrN (fun a j => a = 137 ∨ (a = 136 ∧ j = 1) ∨ (a = 136 ∧ j = 2)) h h' ∧ (∀ j : Int, 0 ≤ j → j < 40 → mv h' 137 j = mv h 176 j) ∧ mv h' 136 1 = mv h 175 1 ∧ mv h' 136 2 = mv h 175 2 := by
  refine ⟨(ms (ms (mc h 176 0 137 0 40) 136 1 (mv h 175 1)) 136 2 (mv h 175 2)), ?_, ((((FrN.refl h).mc (fun _ => by omega)).w (by omega)).w (by omega)), ?_, ?_, ?_⟩
  · simp (disch := first | assumption | (with_reducible show Sh _; simp only [S100_2, S101_7, S101_8, S101_9, S101_10, S102_5, S103, M103, S104, M104, S105, M105, S106, M106, S107, M107, S108_6, S108_7, S108_8, S108_9, S109, M109, S110, M110, S111, M111, S112, M112, S113, M113, S114, M114, S115_8, S116, M116, S117, M117, S118, M118, S119, M119, S120, M120, S121, M121, S122, M122, S123, M123, S124_2, S125, M125, S126, M126, S127, M127, S128, M128, S130, M130, S131, M131, S132_1, S132_2, S133, M133, S134_1, S134_2, S135, M135, S136_1, S136_2, S137, M137, S138_1, S138_2, S139, M139, S140_7, S140_8, S140_9, S140_10, S141_5, S142, M142, S143, M143, S144, M144, S145, M145, S146, M146, S147_6, S147_7, S147_8, S147_9, S148, M148, S149, M149, S150, M150, S151, M151, S152, M152, S153, M153, S154_8, S155, M155, S156, M156, S157, M157, S158, M158, S159, M159, S160, M160, S161, M161, S162, M162, S163_2, S164, M164, S165, M165, S166, M166, S167, M167, S169, M169, S170, M170, S171_1, S171_2, S172, M172, S173_1, S173_2, S174, M174, S175_1, S175_2, S176, M176, S177_1, S177_2, S178, M178, S179, M179, S180_1, S180_2, S180_5, S180_6, S180_7, S180_8, S181, M181, S182, M182, S183, M183, S184_6, S185, M185, S186, M186, S187, M187, S188, M188, S189, M189, S190, M190, S191_5, S191_6, S192, M192, S193, M193, S194, M194, S195, M195, S196, M196, S197_0, S197_3, S197_4, S197_5, S197_6, S197_7, S197_13, S198, M198, S199, M199, S200, M200, S201, M201, S202, M202, S203, M203, S204, M204, S205, M205, S206, M206, S207, M207, S208, M208, S209, M209, S210, M210, S211, M211, MC137] <;> assumption) | (with_reducible show tg _ _ = _; simp only [tg_ms, tg_ma]; assumption) | (with_reducible show ln _ _ = _; simp only [ln_ms, ln_ma]; assumption) | (with_reducible show J64 _; unfold J64; omega) | (with_reducible show J _; unfold J; omega) | omega) only [↓f_X9_become, ↓ac176_137, ↓g136_0, ↓g136_1, ↓g136_2, ↓g175_0, ↓g175_1, ↓g175_2, ↓pi136_1, ↓pi136_2, ↓al137, ↓mv_mco, ↓bd_i, ↓lb_i, ↓rd_i, ↓wt_i, ↓pf_i, bdi_e, lbi_e, ↓ck_t, isb_0, isb_1, ↓reduceIte, ↓if_pos, ↓if_neg, Int.reduceEq, Int.reduceLT, Int.reduceLE, Int.reduceNe, Int.reduceNeg, Int.reduceAdd, Int.reduceSub, Int.reduceMul, Int.add_sub_cancel, tg_ms, ln_ms, nx_ms, tg_ma, ln_ma, nx_ma, mv_s, mv_o, mv_ma_eq, mv_ma_ne, wrk, within_t, within_f, in_t, in_f, isCell_t, isCell_f, isHolder_t, isHolder_f, isHolderm_t, isHolderm_f, isDay_t, isDay_f, isDaym_t, isDaym_f, isSheet_t, isSheet_f, isSheetm_t, isSheetm_f]
  · intro j j0 j1
    simp (disch := omega) only [mv_o, mv_mco, mv_mcs, Int.zero_add, Int.sub_zero]
  · simp (disch := omega) only [mv_o, mv_s, mv_mco]
  · simp (disch := omega) only [mv_o, mv_s, mv_mco]
theorem bc93_n (S : Sh h) : ∃ h', f_X9_become n 138 177 h = some (0, h') ∧ FrN (fun a j => a = 139 ∨ (a = 138 ∧ j = 1) ∨ (a = 138 ∧ j = 2)) h h' ∧ (∀ j : Int, 0 ≤ j → j < 40 → mv h' 139 j = mv h 178 j) ∧ mv h' 138 1 = mv h 177 1 ∧ mv h' 138 2 = mv h 177 2 := by
  refine ⟨(ms (ms (mc h 178 0 139 0 40) 138 1 (mv h 177 1)) 138 2 (mv h 177 2)), ?_, ((((FrN.refl h).mc (fun _ => by omega)).w (by omega)).w (by omega)), ?_, ?_, ?_⟩
  · simp (disch := first | assumption | (with_reducible show Sh _; simp only [S100_2, S101_7, S101_8, S101_9, S101_10, S102_5, S103, M103, S104, M104, S105, M105, S106, M106, S107, M107, S108_6, S108_7, S108_8, S108_9, S109, M109, S110, M110, S111, M111, S112, M112, S113, M113, S114, M114, S115_8, S116, M116, S117, M117, S118, M118, S119, M119, S120, M120, S121, M121, S122, M122, S123, M123, S124_2, S125, M125, S126, M126, S127, M127, S128, M128, S130, M130, S131, M131, S132_1, S132_2, S133, M133, S134_1, S134_2, S135, M135, S136_1, S136_2, S137, M137, S138_1, S138_2, S139, M139, S140_7, S140_8, S140_9, S140_10, S141_5, S142, M142, S143, M143, S144, M144, S145, M145, S146, M146, S147_6, S147_7, S147_8, S147_9, S148, M148, S149, M149, S150, M150, S151, M151, S152, M152, S153, M153, S154_8, S155, M155, S156, M156, S157, M157, S158, M158, S159, M159, S160, M160, S161, M161, S162, M162, S163_2, S164, M164, S165, M165, S166, M166, S167, M167, S169, M169, S170, M170, S171_1, S171_2, S172, M172, S173_1, S173_2, S174, M174, S175_1, S175_2, S176, M176, S177_1, S177_2, S178, M178, S179, M179, S180_1, S180_2, S180_5, S180_6, S180_7, S180_8, S181, M181, S182, M182, S183, M183, S184_6, S185, M185, S186, M186, S187, M187, S188, M188, S189, M189, S190, M190, S191_5, S191_6, S192, M192, S193, M193, S194, M194, S195, M195, S196, M196, S197_0, S197_3, S197_4, S197_5, S197_6, S197_7, S197_13, S198, M198, S199, M199, S200, M200, S201, M201, S202, M202, S203, M203, S204, M204, S205, M205, S206, M206, S207, M207, S208, M208, S209, M209, S210, M210, S211, M211, MC139] <;> assumption) | (with_reducible show tg _ _ = _; simp only [tg_ms, tg_ma]; assumption) | (with_reducible show ln _ _ = _; simp only [ln_ms, ln_ma]; assumption) | (with_reducible show J64 _; unfold J64; omega) | (with_reducible show J _; unfold J; omega) | omega) only [↓f_X9_become, ↓ac178_139, ↓g138_0, ↓g138_1, ↓g138_2, ↓g177_0, ↓g177_1, ↓g177_2, ↓pi138_1, ↓pi138_2, ↓al139, ↓mv_mco, ↓bd_i, ↓lb_i, ↓rd_i, ↓wt_i, ↓pf_i, bdi_e, lbi_e, ↓ck_t, isb_0, isb_1, ↓reduceIte, ↓if_pos, ↓if_neg, Int.reduceEq, Int.reduceLT, Int.reduceLE, Int.reduceNe, Int.reduceNeg, Int.reduceAdd, Int.reduceSub, Int.reduceMul, Int.add_sub_cancel, tg_ms, ln_ms, nx_ms, tg_ma, ln_ma, nx_ma, mv_s, mv_o, mv_ma_eq, mv_ma_ne, wrk, within_t, within_f, in_t, in_f, isCell_t, isCell_f, isHolder_t, isHolder_f, isHolderm_t, isHolderm_f, isDay_t, isDay_f, isDaym_t, isDaym_f, isSheet_t, isSheet_f, isSheetm_t, isSheetm_f]
  · intro j j0 j1
    simp (disch := omega) only [mv_o, mv_mco, mv_mcs, Int.zero_add, Int.sub_zero]
  · simp (disch := omega) only [mv_o, mv_s, mv_mco]
  · simp (disch := omega) only [mv_o, mv_s, mv_mco]
theorem bc1k_k (S : Sh h) : ∃ h', f_X1_become n 141 102 h = some (0, h') ∧ KK 39 0 (fun c => c = 102 ∨ c = 103 ∨ c = 104 ∨ c = 105 ∨ c = 106 ∨ c = 107) h h' := by
  obtain ⟨h', e, F, v0, v1, v2, v3, v4, v5⟩ := bc1_k (n := n) S
  refine ⟨h', e, F.1, fun a j q => F.2 a j (fun z => q ?_), fun c j g r => ?_⟩
  · unfold dat; omega
  · rcases g with rfl | rfl | rfl | rfl | rfl | rfl
    · have r2 := rb102 r
      have : j = 5 := by omega
      subst this
      exact v5
    · exact v0 j (rb103 r).1 (rb103 r).2
    · exact v1 j (rb104 r).1 (rb104 r).2
    · exact v2 j (rb105 r).1 (rb105 r).2
    · exact v3 j (rb106 r).1 (rb106 r).2
    · exact v4 j (rb107 r).1 (rb107 r).2
theorem bc8k_k (S : Sh h) : ∃ h', f_X8_become n 154 115 h = some (0, h') ∧ KK 39 0 (fun c => c = 115 ∨ c = 116 ∨ c = 117 ∨ c = 118 ∨ c = 119 ∨ c = 120 ∨ c = 121 ∨ c = 122 ∨ c = 123) h h' := by
  obtain ⟨h', e, F, v0, v1, v2, v3, v4, v5, v6, v7, v8⟩ := bc8_k (n := n) S
  refine ⟨h', e, F.1, fun a j q => F.2 a j (fun z => q ?_), fun c j g r => ?_⟩
  · unfold dat; omega
  · rcases g with rfl | rfl | rfl | rfl | rfl | rfl | rfl | rfl | rfl
    · have r2 := rb115 r
      have : j = 8 := by omega
      subst this
      exact v8
    · exact v0 j (rb116 r).1 (rb116 r).2
    · exact v1 j (rb117 r).1 (rb117 r).2
    · exact v2 j (rb118 r).1 (rb118 r).2
    · exact v3 j (rb119 r).1 (rb119 r).2
    · exact v4 j (rb120 r).1 (rb120 r).2
    · exact v5 j (rb121 r).1 (rb121 r).2
    · exact v6 j (rb122 r).1 (rb122 r).2
    · exact v7 j (rb123 r).1 (rb123 r).2
theorem bc6k_k (S : Sh h) : ∃ h', f_X6_become n 163 124 h = some (0, h') ∧ KK 39 0 (fun c => c = 124 ∨ c = 125 ∨ c = 126) h h' := by
  obtain ⟨h', e, F, v0, v1, v2⟩ := bc6_k (n := n) S
  refine ⟨h', e, F.1, fun a j q => F.2 a j (fun z => q ?_), fun c j g r => ?_⟩
  · unfold dat; omega
  · rcases g with rfl | rfl | rfl
    · have r2 := rb124 r
      have : j = 2 := by omega
      subst this
      exact v2
    · exact v0 j (rb125 r).1 (rb125 r).2
    · exact v1 j (rb126 r).1 (rb126 r).2
theorem bc90k_k (S : Sh h) : ∃ h', f_X9_become n 171 132 h = some (0, h') ∧ KK 39 0 (fun c => c = 132 ∨ c = 133) h h' := by
  obtain ⟨h', e, F, v0, v1, v2⟩ := bc90_k (n := n) S
  refine ⟨h', e, F.1, fun a j q => F.2 a j (fun z => q ?_), fun c j g r => ?_⟩
  · unfold dat; omega
  · rcases g with rfl | rfl
    · have r2 := rb132 r
      rcases (show j = 1 ∨ j = 2 by omega) with rfl | rfl
      · exact v1
      · exact v2
    · exact v0 j (rb133 r).1 (rb133 r).2
theorem bc91k_k (S : Sh h) : ∃ h', f_X9_become n 173 134 h = some (0, h') ∧ KK 39 0 (fun c => c = 134 ∨ c = 135) h h' := by
  obtain ⟨h', e, F, v0, v1, v2⟩ := bc91_k (n := n) S
  refine ⟨h', e, F.1, fun a j q => F.2 a j (fun z => q ?_), fun c j g r => ?_⟩
  · unfold dat; omega
  · rcases g with rfl | rfl
    · have r2 := rb134 r
      rcases (show j = 1 ∨ j = 2 by omega) with rfl | rfl
      · exact v1
      · exact v2
    · exact v0 j (rb135 r).1 (rb135 r).2
theorem bc92k_k (S : Sh h) : ∃ h', f_X9_become n 175 136 h = some (0, h') ∧ KK 39 0 (fun c => c = 136 ∨ c = 137) h h' := by
  obtain ⟨h', e, F, v0, v1, v2⟩ := bc92_k (n := n) S
  refine ⟨h', e, F.1, fun a j q => F.2 a j (fun z => q ?_), fun c j g r => ?_⟩
  · unfold dat; omega
  · rcases g with rfl | rfl
    · have r2 := rb136 r
      rcases (show j = 1 ∨ j = 2 by omega) with rfl | rfl
      · exact v1
      · exact v2
    · exact v0 j (rb137 r).1 (rb137 r).2
theorem bc93k_k (S : Sh h) : ∃ h', f_X9_become n 177 138 h = some (0, h') ∧ KK 39 0 (fun c => c = 138 ∨ c = 139) h h' := by
  obtain ⟨h', e, F, v0, v1, v2⟩ := bc93_k (n := n) S
  refine ⟨h', e, F.1, fun a j q => F.2 a j (fun z => q ?_), fun c j g r => ?_⟩
  · unfold dat; omega
  · rcases g with rfl | rfl
    · have r2 := rb138 r
      rcases (show j = 1 ∨ j = 2 by omega) with rfl | rfl
      · exact v1
      · exact v2
    · exact v0 j (rb139 r).1 (rb139 r).2
theorem bc5_k : ∀ (m : Nat) (i : Int) (h : MM), Sh h → (∀ p : Int, 0 ≤ p → p < 60 → mv h 109 p = 0 ∨ tg h (mv h 109 p) = 4) → 0 ≤ i → i ≤ 60 → 60 - i < (m : Int) → ∃ h', f_X5_become_2 n 147 108 m i h = some (0, h') ∧ FrN (fun a j => a = 148 ∨ a = 149 ∨ a = 150 ∨ a = 151 ∨ a = 152 ∨ a = 153 ∨ (a = 147 ∧ 6 ≤ j ∧ j ≤ 9)) h h' ∧ (∀ p : Int, i ≤ p → p < 60 → mv h' 148 p = mv h 109 p) ∧ (∀ p : Int, p < i → mv h' 148 p = mv h 148 p) ∧ (∀ c j : Int, 110 ≤ c → c ≤ 114 → 0 ≤ j → j < 60 → mv h' (c + 39) j = mv h (c + 0) j) ∧ ∀ j : Int, 6 ≤ j → j ≤ 9 → mv h' 147 j = mv h 108 j
  | 0, i, h, S, hF, i0, i1, i2 => by omega
  | m + 1, i, h, S, hF, i0, i1, i2 => by
    by_cases c : i < 60
    · obtain ⟨h', x1, x2, x3, x4, x5, x6⟩ := bc5_k m (i + 1) (ms h 148 i (mv h 109 i)) (by simp only [S148]; exact S) (fun p p0 p1 => by rw [mv_o (by omega), tg_ms]; exact hF p p0 p1) (by omega) (by omega) (by omega)
      have gz : ∀ k : RR, gkz h (mv h 109 i) 4 k = k := fun k => gkz_0 (hF i i0 c)
      refine ⟨h', ?_, FrN.trans (P := fun a j => a = 148 ∨ a = 149 ∨ a = 150 ∨ a = 151 ∨ a = 152 ∨ a = 153 ∨ (a = 147 ∧ 6 ≤ j ∧ j ≤ 9)) ((FrN.refl h).w (Or.inl rfl)) x2, fun p p0 p1 => ?_, fun p p0 => ?_, fun c j c0 c1 j0 j1 => ?_, fun j j0 j1 => ?_⟩
      · rw [← x1]
        simp (disch := first | assumption | (with_reducible show Sh _; simp only [S100_2, S101_7, S101_8, S101_9, S101_10, S102_5, S103, M103, S104, M104, S105, M105, S106, M106, S107, M107, S108_6, S108_7, S108_8, S108_9, S109, M109, S110, M110, S111, M111, S112, M112, S113, M113, S114, M114, S115_8, S116, M116, S117, M117, S118, M118, S119, M119, S120, M120, S121, M121, S122, M122, S123, M123, S124_2, S125, M125, S126, M126, S127, M127, S128, M128, S130, M130, S131, M131, S132_1, S132_2, S133, M133, S134_1, S134_2, S135, M135, S136_1, S136_2, S137, M137, S138_1, S138_2, S139, M139, S140_7, S140_8, S140_9, S140_10, S141_5, S142, M142, S143, M143, S144, M144, S145, M145, S146, M146, S147_6, S147_7, S147_8, S147_9, S148, M148, S149, M149, S150, M150, S151, M151, S152, M152, S153, M153, S154_8, S155, M155, S156, M156, S157, M157, S158, M158, S159, M159, S160, M160, S161, M161, S162, M162, S163_2, S164, M164, S165, M165, S166, M166, S167, M167, S169, M169, S170, M170, S171_1, S171_2, S172, M172, S173_1, S173_2, S174, M174, S175_1, S175_2, S176, M176, S177_1, S177_2, S178, M178, S179, M179, S180_1, S180_2, S180_5, S180_6, S180_7, S180_8, S181, M181, S182, M182, S183, M183, S184_6, S185, M185, S186, M186, S187, M187, S188, M188, S189, M189, S190, M190, S191_5, S191_6, S192, M192, S193, M193, S194, M194, S195, M195, S196, M196, S197_0, S197_3, S197_4, S197_5, S197_6, S197_7, S197_13, S198, M198, S199, M199, S200, M200, S201, M201, S202, M202, S203, M203, S204, M204, S205, M205, S206, M206, S207, M207, S208, M208, S209, M209, S210, M210, S211, M211, S148] <;> assumption) | (with_reducible show tg _ _ = _; simp only [tg_ms, tg_ma]; assumption) | (with_reducible show ln _ _ = _; simp only [ln_ms, ln_ma]; assumption) | (with_reducible show J64 _; unfold J64; omega) | (with_reducible show J _; unfold J; omega) | omega) only [↓f_X5_become_2, ↓f_X5_become_2b, ↓gz, ↓g147_0, ↓g147_1, ↓g147_2, ↓g147_3, ↓g147_4, ↓g147_5, ↓g147_6, ↓g147_7, ↓g147_8, ↓g147_9, ↓g108_0, ↓g108_1, ↓g108_2, ↓g108_3, ↓g108_4, ↓g108_5, ↓g108_6, ↓g108_7, ↓g108_8, ↓g108_9, ↓pi147_6, ↓pi147_7, ↓pi147_8, ↓pi147_9, ↓S148, ↓ri109, ↓wi148, ↓S147_6, ↓S147_7, ↓S147_8, ↓S147_9, ↓bd_i, ↓lb_i, ↓rd_i, ↓wt_i, ↓pf_i, bdi_e, lbi_e, ↓ck_t, isb_0, isb_1, ↓reduceIte, ↓if_pos, ↓if_neg, Int.reduceEq, Int.reduceLT, Int.reduceLE, Int.reduceNe, Int.reduceNeg, Int.reduceAdd, Int.reduceSub, Int.reduceMul, Int.add_sub_cancel, tg_ms, ln_ms, nx_ms, tg_ma, ln_ma, nx_ma, mv_s, mv_o, mv_ma_eq, mv_ma_ne, wrk, within_t, within_f, in_t, in_f, isCell_t, isCell_f, isHolder_t, isHolder_f, isHolderm_t, isHolderm_f, isDay_t, isDay_f, isDaym_t, isDaym_f, isSheet_t, isSheet_f, isSheetm_t, isSheetm_f]
      · by_cases e : p = i
        · subst e; rw [x4 p (by omega), mv_s rfl]
        · rw [x3 p (by omega) p1, mv_o (by omega)]
      · rw [x4 p (by omega), mv_o (by omega)]
      · rw [x5 c j c0 c1 j0 j1, mv_o (by omega)]
      · rw [x6 j j0 j1, mv_o (by omega)]
    · refine ⟨(ms (ms (ms (ms (mc (mc (mc (mc (mc h 110 0 149 0 60) 111 0 150 0 60) 112 0 151 0 60) 113 0 152 0 60) 114 0 153 0 60) 147 6 (mv h 108 6)) 147 7 (mv h 108 7)) 147 8 (mv h 108 8)) 147 9 (mv h 108 9)), ?_, ((((((((((FrN.refl h).mc (fun _ => by omega)).mc (fun _ => by omega)).mc (fun _ => by omega)).mc (fun _ => by omega)).mc (fun _ => by omega)).w (by omega)).w (by omega)).w (by omega)).w (by omega)), fun p p0 p1 => by omega, fun p p0 => ?_, fun c j c0 c1 j0 j1 => ?_, fun j j0 j1 => ?_⟩
      · simp (disch := first | assumption | (with_reducible show Sh _; simp only [S100_2, S101_7, S101_8, S101_9, S101_10, S102_5, S103, M103, S104, M104, S105, M105, S106, M106, S107, M107, S108_6, S108_7, S108_8, S108_9, S109, M109, S110, M110, S111, M111, S112, M112, S113, M113, S114, M114, S115_8, S116, M116, S117, M117, S118, M118, S119, M119, S120, M120, S121, M121, S122, M122, S123, M123, S124_2, S125, M125, S126, M126, S127, M127, S128, M128, S130, M130, S131, M131, S132_1, S132_2, S133, M133, S134_1, S134_2, S135, M135, S136_1, S136_2, S137, M137, S138_1, S138_2, S139, M139, S140_7, S140_8, S140_9, S140_10, S141_5, S142, M142, S143, M143, S144, M144, S145, M145, S146, M146, S147_6, S147_7, S147_8, S147_9, S148, M148, S149, M149, S150, M150, S151, M151, S152, M152, S153, M153, S154_8, S155, M155, S156, M156, S157, M157, S158, M158, S159, M159, S160, M160, S161, M161, S162, M162, S163_2, S164, M164, S165, M165, S166, M166, S167, M167, S169, M169, S170, M170, S171_1, S171_2, S172, M172, S173_1, S173_2, S174, M174, S175_1, S175_2, S176, M176, S177_1, S177_2, S178, M178, S179, M179, S180_1, S180_2, S180_5, S180_6, S180_7, S180_8, S181, M181, S182, M182, S183, M183, S184_6, S185, M185, S186, M186, S187, M187, S188, M188, S189, M189, S190, M190, S191_5, S191_6, S192, M192, S193, M193, S194, M194, S195, M195, S196, M196, S197_0, S197_3, S197_4, S197_5, S197_6, S197_7, S197_13, S198, M198, S199, M199, S200, M200, S201, M201, S202, M202, S203, M203, S204, M204, S205, M205, S206, M206, S207, M207, S208, M208, S209, M209, S210, M210, S211, M211, MC149, MC150, MC151, MC152, MC153, S148] <;> assumption) | (with_reducible show tg _ _ = _; simp only [tg_ms, tg_ma]; assumption) | (with_reducible show ln _ _ = _; simp only [ln_ms, ln_ma]; assumption) | (with_reducible show J64 _; unfold J64; omega) | (with_reducible show J _; unfold J; omega) | omega) only [↓f_X5_become_2, ↓f_X5_become_2b, ↓ac110_149, ↓ac111_150, ↓ac112_151, ↓ac113_152, ↓ac114_153, ↓g147_0, ↓g147_1, ↓g147_2, ↓g147_3, ↓g147_4, ↓g147_5, ↓g147_6, ↓g147_7, ↓g147_8, ↓g147_9, ↓g108_0, ↓g108_1, ↓g108_2, ↓g108_3, ↓g108_4, ↓g108_5, ↓g108_6, ↓g108_7, ↓g108_8, ↓g108_9, ↓pi147_6, ↓pi147_7, ↓pi147_8, ↓pi147_9, ↓S148, ↓ri109, ↓wi148, ↓S147_6, ↓S147_7, ↓S147_8, ↓S147_9, ↓mv_mco, ↓bd_i, ↓lb_i, ↓rd_i, ↓wt_i, ↓pf_i, bdi_e, lbi_e, ↓ck_t, isb_0, isb_1, ↓reduceIte, ↓if_pos, ↓if_neg, Int.reduceEq, Int.reduceLT, Int.reduceLE, Int.reduceNe, Int.reduceNeg, Int.reduceAdd, Int.reduceSub, Int.reduceMul, Int.add_sub_cancel, tg_ms, ln_ms, nx_ms, tg_ma, ln_ma, nx_ma, mv_s, mv_o, mv_ma_eq, mv_ma_ne, wrk, within_t, within_f, in_t, in_f, isCell_t, isCell_f, isHolder_t, isHolder_f, isHolderm_t, isHolderm_f, isDay_t, isDay_f, isDaym_t, isDaym_f, isSheet_t, isSheet_f, isSheetm_t, isSheetm_f]
      · simp (disch := omega) only [mv_o, mv_mco]
      · rcases (show c = 110 ∨ c = 111 ∨ c = 112 ∨ c = 113 ∨ c = 114 by omega) with rfl | rfl | rfl | rfl | rfl <;> simp (disch := omega) only [mv_o, mv_mco, mv_mcs, Int.zero_add, Int.sub_zero, Int.reduceAdd, Int.add_zero]
      · rcases (show j = 6 ∨ j = 7 ∨ j = 8 ∨ j = 9 by omega) with rfl | rfl | rfl | rfl <;> simp (disch := omega) only [mv_o, mv_s, mv_mco]
theorem bc5k_k (hn : 10000000 ≤ n) (S : Sh h) (hF : ∀ p : Int, 0 ≤ p → p < 60 → mv h 109 p = 0 ∨ tg h (mv h 109 p) = 4) : ∃ h', f_X5_become n 147 108 h = some (0, h') ∧ KK 39 0 (fun c => 108 ≤ c ∧ c ≤ 114) h h' := by
  obtain ⟨h', e, F, v1, -, v2, v3⟩ := bc5_k (n := n) n 0 h S hF (by omega) (by omega) (by omega)
  refine ⟨h', e, F.1, fun a j q => F.2 a j (fun z => q ?_), fun c j g r => ?_⟩
  · unfold dat; omega
  · by_cases c8 : c = 108
    · subst c8; have r2 := rb108 r; exact v3 j (by omega) (by omega)
    · by_cases c9 : c = 109
      · subst c9; have r2 := rb109 r; exact v1 j (by omega) (by omega)
      · have r2 : 0 ≤ j ∧ j < 60 := by
          rcases (show c = 110 ∨ c = 111 ∨ c = 112 ∨ c = 113 ∨ c = 114 by omega) with rfl | rfl | rfl | rfl | rfl
          · exact rb110 r
          · exact rb111 r
          · exact rb112 r
          · exact rb113 r
          · exact rb114 r
        exact v2 c j (by omega) (by omega) (by omega) (by omega)
theorem bco_k : ∀ (m : Nat) (i : Int) (h : MM), Sh h → (∀ p : Int, 0 ≤ p → p < 9 → mv h 131 p = 0 ∨ tg h (mv h 131 p) = 3) → 0 ≤ i → i ≤ 9 → 9 - i < (m : Int) → ∃ h', f_X10_become_90 n 140 101 m i h = some (0, h') ∧ FrN (fun a j => a = 170 ∨ (a = 140 ∧ 7 ≤ j ∧ j ≤ 10)) h h' ∧ (∀ p : Int, i ≤ p → p < 9 → mv h' 170 p = mv h 131 p) ∧ (∀ p : Int, p < i → mv h' 170 p = mv h 170 p) ∧ ∀ j : Int, 7 ≤ j → j ≤ 10 → mv h' 140 j = mv h 101 j
  | 0, i, h, S, hF, i0, i1, i2 => by omega
  | m + 1, i, h, S, hF, i0, i1, i2 => by
    by_cases c : i < 9
    · obtain ⟨h', x1, x2, x3, x4, x5⟩ := bco_k m (i + 1) (ms h 170 i (mv h 131 i)) (by simp only [S170]; exact S) (fun p p0 p1 => by rw [mv_o (by omega), tg_ms]; exact hF p p0 p1) (by omega) (by omega) (by omega)
      have gz : ∀ k : RR, gkz h (mv h 131 i) 3 k = k := fun k => gkz_0 (hF i i0 c)
      refine ⟨h', ?_, FrN.trans (P := fun a j => a = 170 ∨ (a = 140 ∧ 7 ≤ j ∧ j ≤ 10)) ((FrN.refl h).w (Or.inl rfl)) x2, fun p p0 p1 => ?_, fun p p0 => ?_, fun j j0 j1 => ?_⟩
      · rw [← x1]
        simp (disch := first | assumption | (with_reducible show Sh _; simp only [S100_2, S101_7, S101_8, S101_9, S101_10, S102_5, S103, M103, S104, M104, S105, M105, S106, M106, S107, M107, S108_6, S108_7, S108_8, S108_9, S109, M109, S110, M110, S111, M111, S112, M112, S113, M113, S114, M114, S115_8, S116, M116, S117, M117, S118, M118, S119, M119, S120, M120, S121, M121, S122, M122, S123, M123, S124_2, S125, M125, S126, M126, S127, M127, S128, M128, S130, M130, S131, M131, S132_1, S132_2, S133, M133, S134_1, S134_2, S135, M135, S136_1, S136_2, S137, M137, S138_1, S138_2, S139, M139, S140_7, S140_8, S140_9, S140_10, S141_5, S142, M142, S143, M143, S144, M144, S145, M145, S146, M146, S147_6, S147_7, S147_8, S147_9, S148, M148, S149, M149, S150, M150, S151, M151, S152, M152, S153, M153, S154_8, S155, M155, S156, M156, S157, M157, S158, M158, S159, M159, S160, M160, S161, M161, S162, M162, S163_2, S164, M164, S165, M165, S166, M166, S167, M167, S169, M169, S170, M170, S171_1, S171_2, S172, M172, S173_1, S173_2, S174, M174, S175_1, S175_2, S176, M176, S177_1, S177_2, S178, M178, S179, M179, S180_1, S180_2, S180_5, S180_6, S180_7, S180_8, S181, M181, S182, M182, S183, M183, S184_6, S185, M185, S186, M186, S187, M187, S188, M188, S189, M189, S190, M190, S191_5, S191_6, S192, M192, S193, M193, S194, M194, S195, M195, S196, M196, S197_0, S197_3, S197_4, S197_5, S197_6, S197_7, S197_13, S198, M198, S199, M199, S200, M200, S201, M201, S202, M202, S203, M203, S204, M204, S205, M205, S206, M206, S207, M207, S208, M208, S209, M209, S210, M210, S211, M211] <;> assumption) | (with_reducible show tg _ _ = _; simp only [tg_ms, tg_ma]; assumption) | (with_reducible show ln _ _ = _; simp only [ln_ms, ln_ma]; assumption) | (with_reducible show J64 _; unfold J64; omega) | (with_reducible show J _; unfold J; omega) | omega) only [↓f_X10_become_90, ↓f_X10_become_90b, ↓gz, ↓g140_0, ↓g140_1, ↓g140_2, ↓g140_3, ↓g140_4, ↓g140_5, ↓g140_6, ↓g140_7, ↓g140_8, ↓g140_9, ↓g140_10, ↓g101_0, ↓g101_1, ↓g101_2, ↓g101_3, ↓g101_4, ↓g101_5, ↓g101_6, ↓g101_7, ↓g101_8, ↓g101_9, ↓g101_10, ↓al170, ↓ri131, ↓wi170, ↓S170, ↓pi140_7, ↓S140_7, ↓pi140_8, ↓S140_8, ↓pi140_9, ↓S140_9, ↓pi140_10, ↓S140_10, ↓bd_i, ↓lb_i, ↓rd_i, ↓wt_i, ↓pf_i, bdi_e, lbi_e, ↓ck_t, isb_0, isb_1, ↓reduceIte, ↓if_pos, ↓if_neg, Int.reduceEq, Int.reduceLT, Int.reduceLE, Int.reduceNe, Int.reduceNeg, Int.reduceAdd, Int.reduceSub, Int.reduceMul, Int.add_sub_cancel, tg_ms, ln_ms, nx_ms, tg_ma, ln_ma, nx_ma, mv_s, mv_o, mv_ma_eq, mv_ma_ne, wrk, within_t, within_f, in_t, in_f, isCell_t, isCell_f, isHolder_t, isHolder_f, isHolderm_t, isHolderm_f, isDay_t, isDay_f, isDaym_t, isDaym_f, isSheet_t, isSheet_f, isSheetm_t, isSheetm_f]
      · by_cases e : p = i
        · subst e; rw [x4 p (by omega), mv_s rfl]
        · rw [x3 p (by omega) p1, mv_o (by omega)]
      · rw [x4 p (by omega), mv_o (by omega)]
      · rw [x5 j j0 j1, mv_o (by omega)]
    · refine ⟨(ms (ms (ms (ms h 140 7 (mv h 101 7)) 140 8 (mv h 101 8)) 140 9 (mv h 101 9)) 140 10 (mv h 101 10)), ?_, (((((FrN.refl h).w (by omega)).w (by omega)).w (by omega)).w (by omega)), fun p p0 p1 => by omega, fun p p0 => ?_, fun j j0 j1 => ?_⟩
      · simp (disch := first | assumption | (with_reducible show Sh _; simp only [S100_2, S101_7, S101_8, S101_9, S101_10, S102_5, S103, M103, S104, M104, S105, M105, S106, M106, S107, M107, S108_6, S108_7, S108_8, S108_9, S109, M109, S110, M110, S111, M111, S112, M112, S113, M113, S114, M114, S115_8, S116, M116, S117, M117, S118, M118, S119, M119, S120, M120, S121, M121, S122, M122, S123, M123, S124_2, S125, M125, S126, M126, S127, M127, S128, M128, S130, M130, S131, M131, S132_1, S132_2, S133, M133, S134_1, S134_2, S135, M135, S136_1, S136_2, S137, M137, S138_1, S138_2, S139, M139, S140_7, S140_8, S140_9, S140_10, S141_5, S142, M142, S143, M143, S144, M144, S145, M145, S146, M146, S147_6, S147_7, S147_8, S147_9, S148, M148, S149, M149, S150, M150, S151, M151, S152, M152, S153, M153, S154_8, S155, M155, S156, M156, S157, M157, S158, M158, S159, M159, S160, M160, S161, M161, S162, M162, S163_2, S164, M164, S165, M165, S166, M166, S167, M167, S169, M169, S170, M170, S171_1, S171_2, S172, M172, S173_1, S173_2, S174, M174, S175_1, S175_2, S176, M176, S177_1, S177_2, S178, M178, S179, M179, S180_1, S180_2, S180_5, S180_6, S180_7, S180_8, S181, M181, S182, M182, S183, M183, S184_6, S185, M185, S186, M186, S187, M187, S188, M188, S189, M189, S190, M190, S191_5, S191_6, S192, M192, S193, M193, S194, M194, S195, M195, S196, M196, S197_0, S197_3, S197_4, S197_5, S197_6, S197_7, S197_13, S198, M198, S199, M199, S200, M200, S201, M201, S202, M202, S203, M203, S204, M204, S205, M205, S206, M206, S207, M207, S208, M208, S209, M209, S210, M210, S211, M211] <;> assumption) | (with_reducible show tg _ _ = _; simp only [tg_ms, tg_ma]; assumption) | (with_reducible show ln _ _ = _; simp only [ln_ms, ln_ma]; assumption) | (with_reducible show J64 _; unfold J64; omega) | (with_reducible show J _; unfold J; omega) | omega) only [↓f_X10_become_90, ↓f_X10_become_90b, ↓g140_0, ↓g140_1, ↓g140_2, ↓g140_3, ↓g140_4, ↓g140_5, ↓g140_6, ↓g140_7, ↓g140_8, ↓g140_9, ↓g140_10, ↓g101_0, ↓g101_1, ↓g101_2, ↓g101_3, ↓g101_4, ↓g101_5, ↓g101_6, ↓g101_7, ↓g101_8, ↓g101_9, ↓g101_10, ↓al170, ↓ri131, ↓wi170, ↓S170, ↓pi140_7, ↓S140_7, ↓pi140_8, ↓S140_8, ↓pi140_9, ↓S140_9, ↓pi140_10, ↓S140_10, ↓bd_i, ↓lb_i, ↓rd_i, ↓wt_i, ↓pf_i, bdi_e, lbi_e, ↓ck_t, isb_0, isb_1, ↓reduceIte, ↓if_pos, ↓if_neg, Int.reduceEq, Int.reduceLT, Int.reduceLE, Int.reduceNe, Int.reduceNeg, Int.reduceAdd, Int.reduceSub, Int.reduceMul, Int.add_sub_cancel, tg_ms, ln_ms, nx_ms, tg_ma, ln_ma, nx_ma, mv_s, mv_o, mv_ma_eq, mv_ma_ne, wrk, within_t, within_f, in_t, in_f, isCell_t, isCell_f, isHolder_t, isHolder_f, isHolderm_t, isHolderm_f, isDay_t, isDay_f, isDaym_t, isDaym_f, isSheet_t, isSheet_f, isSheetm_t, isSheetm_f]
      · simp (disch := omega) only [mv_o]
      · rcases (show j = 7 ∨ j = 8 ∨ j = 9 ∨ j = 10 by omega) with rfl | rfl | rfl | rfl <;> simp (disch := omega) only [mv_o, mv_s]
theorem bcok_k (hn : 10000000 ≤ n) (S : Sh h) (hF : ∀ p : Int, 0 ≤ p → p < 9 → mv h 131 p = 0 ∨ tg h (mv h 131 p) = 3) : ∃ h', f_X10_become_90 n 140 101 n 0 h = some (0, h') ∧ KK 39 0 (fun c => c = 101 ∨ c = 131) h h' := by
  obtain ⟨h', e, F, v1, -, v2⟩ := bco_k (n := n) n 0 h S hF (by omega) (by omega) (by omega)
  refine ⟨h', e, F.1, fun a j q => F.2 a j (fun z => q ?_), fun c j g r => ?_⟩
  · unfold dat; omega
  · rcases g with rfl | rfl
    · have r2 := rb101 r; exact v2 j (by omega) (by omega)
    · have r2 := rb131 r; exact v1 j (by omega) (by omega)
theorem bct_k (S : Sh h) (hT : ∀ i : Int, 0 ≤ i → i < 140 → -128 ≤ mv h 130 i ∧ mv h 130 i ≤ 127) : (∀ km : MM → RR, ac h 102 130 0 169 0 140 km = km (mc h 130 0 169 0 140)) ∧ KK 39 0 (fun c => c = 130) h (mc h 130 0 169 0 140) := by
  refine ⟨fun km => ac_e ⟨t130 S, by decide, t169 S, by decide, by decide, by decide, by decide, by rw [l130 S]; decide, by rw [l169 S]; decide, fun _ i i0 i1 => by rw [Int.zero_add]; exact hT i i0 i1⟩, rfl, fun a j q => ?_, fun c j g r => ?_⟩
  · refine mv_mcne ?_ _
    intro e; subst e
    exact q ⟨by omega, by unfold dat; omega⟩
  · subst g
    have r2 := rb130 r
    rw [show (130 : Int) + 39 = 169 by decide, mv_mcs (by omega), Int.zero_add, Int.sub_zero]
    rfl
theorem bcx_k (hn : 10000000 ≤ n) (S : Sh h) (hF : ∀ p : Int, 0 ≤ p → p < 60 → mv h 109 p = 0 ∨ tg h (mv h 109 p) = 4) (hO : ∀ p : Int, 0 ≤ p → p < 9 → mv h 131 p = 0 ∨ tg h (mv h 131 p) = 3) (hT : ∀ i : Int, 0 ≤ i → i < 140 → -128 ≤ mv h 130 i ∧ mv h 130 i ≤ 127) : ∃ h', f_X10_become n 140 101 h = some (0, h') ∧ KK 39 0 (fun c => 101 ≤ c ∧ c ≤ 139) h h' := by
  have ds : (39 = (0 : Int) ∧ 0 = (39 : Int)) ∨ (39 = (39 : Int) ∧ 0 = (0 : Int)) := by decide
  obtain ⟨h1, x1, K1⟩ := bc1k_k (n := n) S
  have S1 := K1.sh ds S
  have t1 : ∀ a, tg h1 a = tg h a := fun a => congrArg (fun z : (Int → Int × Int) × Int × Int => (z.1 a).1) K1.1
  obtain ⟨h2, x2, K2⟩ := bc5k_k (n := n) hn S1 (fun p p0 p1 => by rw [K1.2.1 109 p (fun z => by have := z.1; omega), t1]; exact hF p p0 p1)
  have K12 := K1.trans ds K2 (by intro c u v; omega)
  have S2 := K12.sh ds S
  obtain ⟨h3, x3, K3⟩ := bc8k_k (n := n) S2
  have K13 := K12.trans ds K3 (by intro c u v; omega)
  have S3 := K13.sh ds S
  obtain ⟨h4, x4, K4⟩ := bc6k_k (n := n) S3
  have K14 := K13.trans ds K4 (by intro c u v; omega)
  have S4 := K14.sh ds S
  obtain ⟨h5, x5, K5⟩ := bc90k_k (n := n) S4
  have K15 := K14.trans ds K5 (by intro c u v; omega)
  have S5 := K15.sh ds S
  obtain ⟨h6, x6, K6⟩ := bc91k_k (n := n) S5
  have K16 := K15.trans ds K6 (by intro c u v; omega)
  have S6 := K16.sh ds S
  obtain ⟨h7, x7, K7⟩ := bc92k_k (n := n) S6
  have K17 := K16.trans ds K7 (by intro c u v; omega)
  have S7 := K17.sh ds S
  obtain ⟨h8, x8, K8⟩ := bc93k_k (n := n) S7
  have K18 := K17.trans ds K8 (by intro c u v; omega)
  have S8 := K18.sh ds S
  obtain ⟨x9, K9⟩ := bct_k S8 (fun i i0 i1 => by rw [K18.2.1 130 i (fun z => by have := z.1; omega)]; exact hT i i0 i1)
  have K19 := K18.trans ds K9 (by intro c u v; omega)
  have S9 := K19.sh ds S
  have t9 : ∀ a, tg (mc h8 130 0 169 0 140) a = tg h a := fun a => congrArg (fun z : (Int → Int × Int) × Int × Int => (z.1 a).1) K19.1
  obtain ⟨h9, x10, K10⟩ := bcok_k (n := n) hn S9 (fun p p0 p1 => by rw [K19.2.1 131 p (fun z => by have := z.1; omega), t9]; exact hO p p0 p1)
  have K20 := K19.trans ds K10 (by intro c u v; omega)
  refine ⟨h9, ?_, K20.1, fun a j q => K20.2.1 a j (fun z => q ⟨by have := dat_b z.2; omega, z.2⟩), fun c j g r => K20.2.2 c j (by have r1 := rln_b r; have r2 := rln_n r; first | omega | (dsimp only; omega)) r⟩
  obtain ⟨m, rfl⟩ : ∃ m, n = m + 5 := ⟨n - 5, by omega⟩
  simp (disch := first | assumption | (with_reducible show Sh _; simp only [S100_2, S101_7, S101_8, S101_9, S101_10, S102_5, S103, M103, S104, M104, S105, M105, S106, M106, S107, M107, S108_6, S108_7, S108_8, S108_9, S109, M109, S110, M110, S111, M111, S112, M112, S113, M113, S114, M114, S115_8, S116, M116, S117, M117, S118, M118, S119, M119, S120, M120, S121, M121, S122, M122, S123, M123, S124_2, S125, M125, S126, M126, S127, M127, S128, M128, S130, M130, S131, M131, S132_1, S132_2, S133, M133, S134_1, S134_2, S135, M135, S136_1, S136_2, S137, M137, S138_1, S138_2, S139, M139, S140_7, S140_8, S140_9, S140_10, S141_5, S142, M142, S143, M143, S144, M144, S145, M145, S146, M146, S147_6, S147_7, S147_8, S147_9, S148, M148, S149, M149, S150, M150, S151, M151, S152, M152, S153, M153, S154_8, S155, M155, S156, M156, S157, M157, S158, M158, S159, M159, S160, M160, S161, M161, S162, M162, S163_2, S164, M164, S165, M165, S166, M166, S167, M167, S169, M169, S170, M170, S171_1, S171_2, S172, M172, S173_1, S173_2, S174, M174, S175_1, S175_2, S176, M176, S177_1, S177_2, S178, M178, S179, M179, S180_1, S180_2, S180_5, S180_6, S180_7, S180_8, S181, M181, S182, M182, S183, M183, S184_6, S185, M185, S186, M186, S187, M187, S188, M188, S189, M189, S190, M190, S191_5, S191_6, S192, M192, S193, M193, S194, M194, S195, M195, S196, M196, S197_0, S197_3, S197_4, S197_5, S197_6, S197_7, S197_13, S198, M198, S199, M199, S200, M200, S201, M201, S202, M202, S203, M203, S204, M204, S205, M205, S206, M206, S207, M207, S208, M208, S209, M209, S210, M210, S211, M211] <;> assumption) | (with_reducible show tg _ _ = _; simp only [tg_ms, tg_ma]; assumption) | (with_reducible show ln _ _ = _; simp only [ln_ms, ln_ma]; assumption) | (with_reducible show J64 _; unfold J64; omega) | (with_reducible show J _; unfold J; omega) | omega) only [↓f_X10_become, ↓f_X10_become_46, ↓f_X10_become_46b, ↓x1, ↓x2, ↓x3, ↓x4, ↓x5, ↓x6, ↓x7, ↓x8, ↓x9, ↓g140_0, ↓g140_1, ↓g140_2, ↓g140_3, ↓g140_4, ↓g140_5, ↓g140_6, ↓g140_7, ↓g140_8, ↓g140_9, ↓g140_10, ↓g101_0, ↓g101_1, ↓g101_2, ↓g101_3, ↓g101_4, ↓g101_5, ↓g101_6, ↓g101_7, ↓g101_8, ↓g101_9, ↓g101_10, ↓ri129, ↓ri168, ↓r129_0, ↓r129_1, ↓r129_2, ↓r129_3, ↓r168_0, ↓r168_1, ↓r168_2, ↓r168_3, ↓gk141, ↓gk147, ↓gk154, ↓gk163, ↓gk171, ↓gk173, ↓gk175, ↓gk177, ↓bd_i, ↓lb_i, ↓rd_i, ↓wt_i, ↓pf_i, bdi_e, lbi_e, ↓ck_t, isb_0, isb_1, ↓reduceIte, ↓if_pos, ↓if_neg, Int.reduceEq, Int.reduceLT, Int.reduceLE, Int.reduceNe, Int.reduceNeg, Int.reduceAdd, Int.reduceSub, Int.reduceMul, Int.add_sub_cancel, tg_ms, ln_ms, nx_ms, tg_ma, ln_ma, nx_ma, mv_s, mv_o, mv_ma_eq, mv_ma_ne, wrk, within_t, within_f, in_t, in_f, isCell_t, isCell_f, isHolder_t, isHolder_f, isHolderm_t, isHolderm_f, isDay_t, isDay_f, isDaym_t, isDaym_f, isSheet_t, isSheet_f, isSheetm_t, isSheetm_f]
  exact x10
theorem bc1k_n (S : Sh h) : ∃ h', f_X1_become n 102 141 h = some (0, h') ∧ KK 0 39 (fun c => c = 102 ∨ c = 103 ∨ c = 104 ∨ c = 105 ∨ c = 106 ∨ c = 107) h h' := by
  obtain ⟨h', e, F, v0, v1, v2, v3, v4, v5⟩ := bc1_n (n := n) S
  refine ⟨h', e, F.1, fun a j q => F.2 a j (fun z => q ?_), fun c j g r => ?_⟩
  · unfold dat; omega
  · rcases g with rfl | rfl | rfl | rfl | rfl | rfl
    · have r2 := rb102 r
      have : j = 5 := by omega
      subst this
      exact v5
    · exact v0 j (rb103 r).1 (rb103 r).2
    · exact v1 j (rb104 r).1 (rb104 r).2
    · exact v2 j (rb105 r).1 (rb105 r).2
    · exact v3 j (rb106 r).1 (rb106 r).2
    · exact v4 j (rb107 r).1 (rb107 r).2
theorem bc8k_n (S : Sh h) : ∃ h', f_X8_become n 115 154 h = some (0, h') ∧ KK 0 39 (fun c => c = 115 ∨ c = 116 ∨ c = 117 ∨ c = 118 ∨ c = 119 ∨ c = 120 ∨ c = 121 ∨ c = 122 ∨ c = 123) h h' := by
  obtain ⟨h', e, F, v0, v1, v2, v3, v4, v5, v6, v7, v8⟩ := bc8_n (n := n) S
  refine ⟨h', e, F.1, fun a j q => F.2 a j (fun z => q ?_), fun c j g r => ?_⟩
  · unfold dat; omega
  · rcases g with rfl | rfl | rfl | rfl | rfl | rfl | rfl | rfl | rfl
    · have r2 := rb115 r
      have : j = 8 := by omega
      subst this
      exact v8
    · exact v0 j (rb116 r).1 (rb116 r).2
    · exact v1 j (rb117 r).1 (rb117 r).2
    · exact v2 j (rb118 r).1 (rb118 r).2
    · exact v3 j (rb119 r).1 (rb119 r).2
    · exact v4 j (rb120 r).1 (rb120 r).2
    · exact v5 j (rb121 r).1 (rb121 r).2
    · exact v6 j (rb122 r).1 (rb122 r).2
    · exact v7 j (rb123 r).1 (rb123 r).2
theorem bc6k_n (S : Sh h) : ∃ h', f_X6_become n 124 163 h = some (0, h') ∧ KK 0 39 (fun c => c = 124 ∨ c = 125 ∨ c = 126) h h' := by
  obtain ⟨h', e, F, v0, v1, v2⟩ := bc6_n (n := n) S
  refine ⟨h', e, F.1, fun a j q => F.2 a j (fun z => q ?_), fun c j g r => ?_⟩
  · unfold dat; omega
  · rcases g with rfl | rfl | rfl
    · have r2 := rb124 r
      have : j = 2 := by omega
      subst this
      exact v2
    · exact v0 j (rb125 r).1 (rb125 r).2
    · exact v1 j (rb126 r).1 (rb126 r).2
theorem bc90k_n (S : Sh h) : ∃ h', f_X9_become n 132 171 h = some (0, h') ∧ KK 0 39 (fun c => c = 132 ∨ c = 133) h h' := by
  obtain ⟨h', e, F, v0, v1, v2⟩ := bc90_n (n := n) S
  refine ⟨h', e, F.1, fun a j q => F.2 a j (fun z => q ?_), fun c j g r => ?_⟩
  · unfold dat; omega
  · rcases g with rfl | rfl
    · have r2 := rb132 r
      rcases (show j = 1 ∨ j = 2 by omega) with rfl | rfl
      · exact v1
      · exact v2
    · exact v0 j (rb133 r).1 (rb133 r).2
theorem bc91k_n (S : Sh h) : ∃ h', f_X9_become n 134 173 h = some (0, h') ∧ KK 0 39 (fun c => c = 134 ∨ c = 135) h h' := by
  obtain ⟨h', e, F, v0, v1, v2⟩ := bc91_n (n := n) S
  refine ⟨h', e, F.1, fun a j q => F.2 a j (fun z => q ?_), fun c j g r => ?_⟩
  · unfold dat; omega
  · rcases g with rfl | rfl
    · have r2 := rb134 r
      rcases (show j = 1 ∨ j = 2 by omega) with rfl | rfl
      · exact v1
      · exact v2
    · exact v0 j (rb135 r).1 (rb135 r).2
theorem bc92k_n (S : Sh h) : ∃ h', f_X9_become n 136 175 h = some (0, h') ∧ KK 0 39 (fun c => c = 136 ∨ c = 137) h h' := by
  obtain ⟨h', e, F, v0, v1, v2⟩ := bc92_n (n := n) S
  refine ⟨h', e, F.1, fun a j q => F.2 a j (fun z => q ?_), fun c j g r => ?_⟩
  · unfold dat; omega
  · rcases g with rfl | rfl
    · have r2 := rb136 r
      rcases (show j = 1 ∨ j = 2 by omega) with rfl | rfl
      · exact v1
      · exact v2
    · exact v0 j (rb137 r).1 (rb137 r).2
theorem bc93k_n (S : Sh h) : ∃ h', f_X9_become n 138 177 h = some (0, h') ∧ KK 0 39 (fun c => c = 138 ∨ c = 139) h h' := by
  obtain ⟨h', e, F, v0, v1, v2⟩ := bc93_n (n := n) S
  refine ⟨h', e, F.1, fun a j q => F.2 a j (fun z => q ?_), fun c j g r => ?_⟩
  · unfold dat; omega
  · rcases g with rfl | rfl
    · have r2 := rb138 r
      rcases (show j = 1 ∨ j = 2 by omega) with rfl | rfl
      · exact v1
      · exact v2
    · exact v0 j (rb139 r).1 (rb139 r).2
theorem bc5_n : ∀ (m : Nat) (i : Int) (h : MM), Sh h → (∀ p : Int, 0 ≤ p → p < 60 → mv h 148 p = 0 ∨ tg h (mv h 148 p) = 4) → 0 ≤ i → i ≤ 60 → 60 - i < (m : Int) → ∃ h', f_X5_become_2 n 108 147 m i h = some (0, h') ∧ FrN (fun a j => a = 109 ∨ a = 110 ∨ a = 111 ∨ a = 112 ∨ a = 113 ∨ a = 114 ∨ (a = 108 ∧ 6 ≤ j ∧ j ≤ 9)) h h' ∧ (∀ p : Int, i ≤ p → p < 60 → mv h' 109 p = mv h 148 p) ∧ (∀ p : Int, p < i → mv h' 109 p = mv h 109 p) ∧ (∀ c j : Int, 110 ≤ c → c ≤ 114 → 0 ≤ j → j < 60 → mv h' (c + 0) j = mv h (c + 39) j) ∧ ∀ j : Int, 6 ≤ j → j ≤ 9 → mv h' 108 j = mv h 147 j
  | 0, i, h, S, hF, i0, i1, i2 => by omega
  | m + 1, i, h, S, hF, i0, i1, i2 => by
    by_cases c : i < 60
    · obtain ⟨h', x1, x2, x3, x4, x5, x6⟩ := bc5_n m (i + 1) (ms h 109 i (mv h 148 i)) (by simp only [S109]; exact S) (fun p p0 p1 => by rw [mv_o (by omega), tg_ms]; exact hF p p0 p1) (by omega) (by omega) (by omega)
      have gz : ∀ k : RR, gkz h (mv h 148 i) 4 k = k := fun k => gkz_0 (hF i i0 c)
      refine ⟨h', ?_, FrN.trans (P := fun a j => a = 109 ∨ a = 110 ∨ a = 111 ∨ a = 112 ∨ a = 113 ∨ a = 114 ∨ (a = 108 ∧ 6 ≤ j ∧ j ≤ 9)) ((FrN.refl h).w (Or.inl rfl)) x2, fun p p0 p1 => ?_, fun p p0 => ?_, fun c j c0 c1 j0 j1 => ?_, fun j j0 j1 => ?_⟩
      · rw [← x1]
        simp (disch := first | assumption | (with_reducible show Sh _; simp only [S100_2, S101_7, S101_8, S101_9, S101_10, S102_5, S103, M103, S104, M104, S105, M105, S106, M106, S107, M107, S108_6, S108_7, S108_8, S108_9, S109, M109, S110, M110, S111, M111, S112, M112, S113, M113, S114, M114, S115_8, S116, M116, S117, M117, S118, M118, S119, M119, S120, M120, S121, M121, S122, M122, S123, M123, S124_2, S125, M125, S126, M126, S127, M127, S128, M128, S130, M130, S131, M131, S132_1, S132_2, S133, M133, S134_1, S134_2, S135, M135, S136_1, S136_2, S137, M137, S138_1, S138_2, S139, M139, S140_7, S140_8, S140_9, S140_10, S141_5, S142, M142, S143, M143, S144, M144, S145, M145, S146, M146, S147_6, S147_7, S147_8, S147_9, S148, M148, S149, M149, S150, M150, S151, M151, S152, M152, S153, M153, S154_8, S155, M155, S156, M156, S157, M157, S158, M158, S159, M159, S160, M160, S161, M161, S162, M162, S163_2, S164, M164, S165, M165, S166, M166, S167, M167, S169, M169, S170, M170, S171_1, S171_2, S172, M172, S173_1, S173_2, S174, M174, S175_1, S175_2, S176, M176, S177_1, S177_2, S178, M178, S179, M179, S180_1, S180_2, S180_5, S180_6, S180_7, S180_8, S181, M181, S182, M182, S183, M183, S184_6, S185, M185, S186, M186, S187, M187, S188, M188, S189, M189, S190, M190, S191_5, S191_6, S192, M192, S193, M193, S194, M194, S195, M195, S196, M196, S197_0, S197_3, S197_4, S197_5, S197_6, S197_7, S197_13, S198, M198, S199, M199, S200, M200, S201, M201, S202, M202, S203, M203, S204, M204, S205, M205, S206, M206, S207, M207, S208, M208, S209, M209, S210, M210, S211, M211, S109] <;> assumption) | (with_reducible show tg _ _ = _; simp only [tg_ms, tg_ma]; assumption) | (with_reducible show ln _ _ = _; simp only [ln_ms, ln_ma]; assumption) | (with_reducible show J64 _; unfold J64; omega) | (with_reducible show J _; unfold J; omega) | omega) only [↓f_X5_become_2, ↓f_X5_become_2b, ↓gz, ↓g108_0, ↓g108_1, ↓g108_2, ↓g108_3, ↓g108_4, ↓g108_5, ↓g108_6, ↓g108_7, ↓g108_8, ↓g108_9, ↓g147_0, ↓g147_1, ↓g147_2, ↓g147_3, ↓g147_4, ↓g147_5, ↓g147_6, ↓g147_7, ↓g147_8, ↓g147_9, ↓pi108_6, ↓pi108_7, ↓pi108_8, ↓pi108_9, ↓S109, ↓ri148, ↓wi109, ↓S108_6, ↓S108_7, ↓S108_8, ↓S108_9, ↓bd_i, ↓lb_i, ↓rd_i, ↓wt_i, ↓pf_i, bdi_e, lbi_e, ↓ck_t, isb_0, isb_1, ↓reduceIte, ↓if_pos, ↓if_neg, Int.reduceEq, Int.reduceLT, Int.reduceLE, Int.reduceNe, Int.reduceNeg, Int.reduceAdd, Int.reduceSub, Int.reduceMul, Int.add_sub_cancel, tg_ms, ln_ms, nx_ms, tg_ma, ln_ma, nx_ma, mv_s, mv_o, mv_ma_eq, mv_ma_ne, wrk, within_t, within_f, in_t, in_f, isCell_t, isCell_f, isHolder_t, isHolder_f, isHolderm_t, isHolderm_f, isDay_t, isDay_f, isDaym_t, isDaym_f, isSheet_t, isSheet_f, isSheetm_t, isSheetm_f]
      · by_cases e : p = i
        · subst e; rw [x4 p (by omega), mv_s rfl]
        · rw [x3 p (by omega) p1, mv_o (by omega)]
      · rw [x4 p (by omega), mv_o (by omega)]
      · rw [x5 c j c0 c1 j0 j1, mv_o (by omega)]
      · rw [x6 j j0 j1, mv_o (by omega)]
    · refine ⟨(ms (ms (ms (ms (mc (mc (mc (mc (mc h 149 0 110 0 60) 150 0 111 0 60) 151 0 112 0 60) 152 0 113 0 60) 153 0 114 0 60) 108 6 (mv h 147 6)) 108 7 (mv h 147 7)) 108 8 (mv h 147 8)) 108 9 (mv h 147 9)), ?_, ((((((((((FrN.refl h).mc (fun _ => by omega)).mc (fun _ => by omega)).mc (fun _ => by omega)).mc (fun _ => by omega)).mc (fun _ => by omega)).w (by omega)).w (by omega)).w (by omega)).w (by omega)), fun p p0 p1 => by omega, fun p p0 => ?_, fun c j c0 c1 j0 j1 => ?_, fun j j0 j1 => ?_⟩
      · simp (disch := first | assumption | (with_reducible show Sh _; simp only [S100_2, S101_7, S101_8, S101_9, S101_10, S102_5, S103, M103, S104, M104, S105, M105, S106, M106, S107, M107, S108_6, S108_7, S108_8, S108_9, S109, M109, S110, M110, S111, M111, S112, M112, S113, M113, S114, M114, S115_8, S116, M116, S117, M117, S118, M118, S119, M119, S120, M120, S121, M121, S122, M122, S123, M123, S124_2, S125, M125, S126, M126, S127, M127, S128, M128, S130, M130, S131, M131, S132_1, S132_2, S133, M133, S134_1, S134_2, S135, M135, S136_1, S136_2, S137, M137, S138_1, S138_2, S139, M139, S140_7, S140_8, S140_9, S140_10, S141_5, S142, M142, S143, M143, S144, M144, S145, M145, S146, M146, S147_6, S147_7, S147_8, S147_9, S148, M148, S149, M149, S150, M150, S151, M151, S152, M152, S153, M153, S154_8, S155, M155, S156, M156, S157, M157, S158, M158, S159, M159, S160, M160, S161, M161, S162, M162, S163_2, S164, M164, S165, M165, S166, M166, S167, M167, S169, M169, S170, M170, S171_1, S171_2, S172, M172, S173_1, S173_2, S174, M174, S175_1, S175_2, S176, M176, S177_1, S177_2, S178, M178, S179, M179, S180_1, S180_2, S180_5, S180_6, S180_7, S180_8, S181, M181, S182, M182, S183, M183, S184_6, S185, M185, S186, M186, S187, M187, S188, M188, S189, M189, S190, M190, S191_5, S191_6, S192, M192, S193, M193, S194, M194, S195, M195, S196, M196, S197_0, S197_3, S197_4, S197_5, S197_6, S197_7, S197_13, S198, M198, S199, M199, S200, M200, S201, M201, S202, M202, S203, M203, S204, M204, S205, M205, S206, M206, S207, M207, S208, M208, S209, M209, S210, M210, S211, M211, MC110, MC111, MC112, MC113, MC114, S109] <;> assumption) | (with_reducible show tg _ _ = _; simp only [tg_ms, tg_ma]; assumption) | (with_reducible show ln _ _ = _; simp only [ln_ms, ln_ma]; assumption) | (with_reducible show J64 _; unfold J64; omega) | (with_reducible show J _; unfold J; omega) | omega) only [↓f_X5_become_2, ↓f_X5_become_2b, ↓ac149_110, ↓ac150_111, ↓ac151_112, ↓ac152_113, ↓ac153_114, ↓g108_0, ↓g108_1, ↓g108_2, ↓g108_3, ↓g108_4, ↓g108_5, ↓g108_6, ↓g108_7, ↓g108_8, ↓g108_9, ↓g147_0, ↓g147_1, ↓g147_2, ↓g147_3, ↓g147_4, ↓g147_5, ↓g147_6, ↓g147_7, ↓g147_8, ↓g147_9, ↓pi108_6, ↓pi108_7, ↓pi108_8, ↓pi108_9, ↓S109, ↓ri148, ↓wi109, ↓S108_6, ↓S108_7, ↓S108_8, ↓S108_9, ↓mv_mco, ↓bd_i, ↓lb_i, ↓rd_i, ↓wt_i, ↓pf_i, bdi_e, lbi_e, ↓ck_t, isb_0, isb_1, ↓reduceIte, ↓if_pos, ↓if_neg, Int.reduceEq, Int.reduceLT, Int.reduceLE, Int.reduceNe, Int.reduceNeg, Int.reduceAdd, Int.reduceSub, Int.reduceMul, Int.add_sub_cancel, tg_ms, ln_ms, nx_ms, tg_ma, ln_ma, nx_ma, mv_s, mv_o, mv_ma_eq, mv_ma_ne, wrk, within_t, within_f, in_t, in_f, isCell_t, isCell_f, isHolder_t, isHolder_f, isHolderm_t, isHolderm_f, isDay_t, isDay_f, isDaym_t, isDaym_f, isSheet_t, isSheet_f, isSheetm_t, isSheetm_f]
      · simp (disch := omega) only [mv_o, mv_mco]
      · rcases (show c = 110 ∨ c = 111 ∨ c = 112 ∨ c = 113 ∨ c = 114 by omega) with rfl | rfl | rfl | rfl | rfl <;> simp (disch := omega) only [mv_o, mv_mco, mv_mcs, Int.zero_add, Int.sub_zero, Int.reduceAdd, Int.add_zero]
      · rcases (show j = 6 ∨ j = 7 ∨ j = 8 ∨ j = 9 by omega) with rfl | rfl | rfl | rfl <;> simp (disch := omega) only [mv_o, mv_s, mv_mco]
theorem bc5k_n (hn : 10000000 ≤ n) (S : Sh h) (hF : ∀ p : Int, 0 ≤ p → p < 60 → mv h 148 p = 0 ∨ tg h (mv h 148 p) = 4) : ∃ h', f_X5_become n 108 147 h = some (0, h') ∧ KK 0 39 (fun c => 108 ≤ c ∧ c ≤ 114) h h' := by
  obtain ⟨h', e, F, v1, -, v2, v3⟩ := bc5_n (n := n) n 0 h S hF (by omega) (by omega) (by omega)
  refine ⟨h', e, F.1, fun a j q => F.2 a j (fun z => q ?_), fun c j g r => ?_⟩
  · unfold dat; omega
  · by_cases c8 : c = 108
    · subst c8; have r2 := rb108 r; exact v3 j (by omega) (by omega)
    · by_cases c9 : c = 109
      · subst c9; have r2 := rb109 r; exact v1 j (by omega) (by omega)
      · have r2 : 0 ≤ j ∧ j < 60 := by
          rcases (show c = 110 ∨ c = 111 ∨ c = 112 ∨ c = 113 ∨ c = 114 by omega) with rfl | rfl | rfl | rfl | rfl
          · exact rb110 r
          · exact rb111 r
          · exact rb112 r
          · exact rb113 r
          · exact rb114 r
        exact v2 c j (by omega) (by omega) (by omega) (by omega)
theorem bco_n : ∀ (m : Nat) (i : Int) (h : MM), Sh h → (∀ p : Int, 0 ≤ p → p < 9 → mv h 170 p = 0 ∨ tg h (mv h 170 p) = 3) → 0 ≤ i → i ≤ 9 → 9 - i < (m : Int) → ∃ h', f_X10_become_90 n 101 140 m i h = some (0, h') ∧ FrN (fun a j => a = 131 ∨ (a = 101 ∧ 7 ≤ j ∧ j ≤ 10)) h h' ∧ (∀ p : Int, i ≤ p → p < 9 → mv h' 131 p = mv h 170 p) ∧ (∀ p : Int, p < i → mv h' 131 p = mv h 131 p) ∧ ∀ j : Int, 7 ≤ j → j ≤ 10 → mv h' 101 j = mv h 140 j
  | 0, i, h, S, hF, i0, i1, i2 => by omega
  | m + 1, i, h, S, hF, i0, i1, i2 => by
    by_cases c : i < 9
    · obtain ⟨h', x1, x2, x3, x4, x5⟩ := bco_n m (i + 1) (ms h 131 i (mv h 170 i)) (by simp only [S131]; exact S) (fun p p0 p1 => by rw [mv_o (by omega), tg_ms]; exact hF p p0 p1) (by omega) (by omega) (by omega)
      have gz : ∀ k : RR, gkz h (mv h 170 i) 3 k = k := fun k => gkz_0 (hF i i0 c)
      refine ⟨h', ?_, FrN.trans (P := fun a j => a = 131 ∨ (a = 101 ∧ 7 ≤ j ∧ j ≤ 10)) ((FrN.refl h).w (Or.inl rfl)) x2, fun p p0 p1 => ?_, fun p p0 => ?_, fun j j0 j1 => ?_⟩
      · rw [← x1]
        simp (disch := first | assumption | (with_reducible show Sh _; simp only [S100_2, S101_7, S101_8, S101_9, S101_10, S102_5, S103, M103, S104, M104, S105, M105, S106, M106, S107, M107, S108_6, S108_7, S108_8, S108_9, S109, M109, S110, M110, S111, M111, S112, M112, S113, M113, S114, M114, S115_8, S116, M116, S117, M117, S118, M118, S119, M119, S120, M120, S121, M121, S122, M122, S123, M123, S124_2, S125, M125, S126, M126, S127, M127, S128, M128, S130, M130, S131, M131, S132_1, S132_2, S133, M133, S134_1, S134_2, S135, M135, S136_1, S136_2, S137, M137, S138_1, S138_2, S139, M139, S140_7, S140_8, S140_9, S140_10, S141_5, S142, M142, S143, M143, S144, M144, S145, M145, S146, M146, S147_6, S147_7, S147_8, S147_9, S148, M148, S149, M149, S150, M150, S151, M151, S152, M152, S153, M153, S154_8, S155, M155, S156, M156, S157, M157, S158, M158, S159, M159, S160, M160, S161, M161, S162, M162, S163_2, S164, M164, S165, M165, S166, M166, S167, M167, S169, M169, S170, M170, S171_1, S171_2, S172, M172, S173_1, S173_2, S174, M174, S175_1, S175_2, S176, M176, S177_1, S177_2, S178, M178, S179, M179, S180_1, S180_2, S180_5, S180_6, S180_7, S180_8, S181, M181, S182, M182, S183, M183, S184_6, S185, M185, S186, M186, S187, M187, S188, M188, S189, M189, S190, M190, S191_5, S191_6, S192, M192, S193, M193, S194, M194, S195, M195, S196, M196, S197_0, S197_3, S197_4, S197_5, S197_6, S197_7, S197_13, S198, M198, S199, M199, S200, M200, S201, M201, S202, M202, S203, M203, S204, M204, S205, M205, S206, M206, S207, M207, S208, M208, S209, M209, S210, M210, S211, M211] <;> assumption) | (with_reducible show tg _ _ = _; simp only [tg_ms, tg_ma]; assumption) | (with_reducible show ln _ _ = _; simp only [ln_ms, ln_ma]; assumption) | (with_reducible show J64 _; unfold J64; omega) | (with_reducible show J _; unfold J; omega) | omega) only [↓f_X10_become_90, ↓f_X10_become_90b, ↓gz, ↓g101_0, ↓g101_1, ↓g101_2, ↓g101_3, ↓g101_4, ↓g101_5, ↓g101_6, ↓g101_7, ↓g101_8, ↓g101_9, ↓g101_10, ↓g140_0, ↓g140_1, ↓g140_2, ↓g140_3, ↓g140_4, ↓g140_5, ↓g140_6, ↓g140_7, ↓g140_8, ↓g140_9, ↓g140_10, ↓al131, ↓ri170, ↓wi131, ↓S131, ↓pi101_7, ↓S101_7, ↓pi101_8, ↓S101_8, ↓pi101_9, ↓S101_9, ↓pi101_10, ↓S101_10, ↓bd_i, ↓lb_i, ↓rd_i, ↓wt_i, ↓pf_i, bdi_e, lbi_e, ↓ck_t, isb_0, isb_1, ↓reduceIte, ↓if_pos, ↓if_neg, Int.reduceEq, Int.reduceLT, Int.reduceLE, Int.reduceNe, Int.reduceNeg, Int.reduceAdd, Int.reduceSub, Int.reduceMul, Int.add_sub_cancel, tg_ms, ln_ms, nx_ms, tg_ma, ln_ma, nx_ma, mv_s, mv_o, mv_ma_eq, mv_ma_ne, wrk, within_t, within_f, in_t, in_f, isCell_t, isCell_f, isHolder_t, isHolder_f, isHolderm_t, isHolderm_f, isDay_t, isDay_f, isDaym_t, isDaym_f, isSheet_t, isSheet_f, isSheetm_t, isSheetm_f]
      · by_cases e : p = i
        · subst e; rw [x4 p (by omega), mv_s rfl]
        · rw [x3 p (by omega) p1, mv_o (by omega)]
      · rw [x4 p (by omega), mv_o (by omega)]
      · rw [x5 j j0 j1, mv_o (by omega)]
    · refine ⟨(ms (ms (ms (ms h 101 7 (mv h 140 7)) 101 8 (mv h 140 8)) 101 9 (mv h 140 9)) 101 10 (mv h 140 10)), ?_, (((((FrN.refl h).w (by omega)).w (by omega)).w (by omega)).w (by omega)), fun p p0 p1 => by omega, fun p p0 => ?_, fun j j0 j1 => ?_⟩
      · simp (disch := first | assumption | (with_reducible show Sh _; simp only [S100_2, S101_7, S101_8, S101_9, S101_10, S102_5, S103, M103, S104, M104, S105, M105, S106, M106, S107, M107, S108_6, S108_7, S108_8, S108_9, S109, M109, S110, M110, S111, M111, S112, M112, S113, M113, S114, M114, S115_8, S116, M116, S117, M117, S118, M118, S119, M119, S120, M120, S121, M121, S122, M122, S123, M123, S124_2, S125, M125, S126, M126, S127, M127, S128, M128, S130, M130, S131, M131, S132_1, S132_2, S133, M133, S134_1, S134_2, S135, M135, S136_1, S136_2, S137, M137, S138_1, S138_2, S139, M139, S140_7, S140_8, S140_9, S140_10, S141_5, S142, M142, S143, M143, S144, M144, S145, M145, S146, M146, S147_6, S147_7, S147_8, S147_9, S148, M148, S149, M149, S150, M150, S151, M151, S152, M152, S153, M153, S154_8, S155, M155, S156, M156, S157, M157, S158, M158, S159, M159, S160, M160, S161, M161, S162, M162, S163_2, S164, M164, S165, M165, S166, M166, S167, M167, S169, M169, S170, M170, S171_1, S171_2, S172, M172, S173_1, S173_2, S174, M174, S175_1, S175_2, S176, M176, S177_1, S177_2, S178, M178, S179, M179, S180_1, S180_2, S180_5, S180_6, S180_7, S180_8, S181, M181, S182, M182, S183, M183, S184_6, S185, M185, S186, M186, S187, M187, S188, M188, S189, M189, S190, M190, S191_5, S191_6, S192, M192, S193, M193, S194, M194, S195, M195, S196, M196, S197_0, S197_3, S197_4, S197_5, S197_6, S197_7, S197_13, S198, M198, S199, M199, S200, M200, S201, M201, S202, M202, S203, M203, S204, M204, S205, M205, S206, M206, S207, M207, S208, M208, S209, M209, S210, M210, S211, M211] <;> assumption) | (with_reducible show tg _ _ = _; simp only [tg_ms, tg_ma]; assumption) | (with_reducible show ln _ _ = _; simp only [ln_ms, ln_ma]; assumption) | (with_reducible show J64 _; unfold J64; omega) | (with_reducible show J _; unfold J; omega) | omega) only [↓f_X10_become_90, ↓f_X10_become_90b, ↓g101_0, ↓g101_1, ↓g101_2, ↓g101_3, ↓g101_4, ↓g101_5, ↓g101_6, ↓g101_7, ↓g101_8, ↓g101_9, ↓g101_10, ↓g140_0, ↓g140_1, ↓g140_2, ↓g140_3, ↓g140_4, ↓g140_5, ↓g140_6, ↓g140_7, ↓g140_8, ↓g140_9, ↓g140_10, ↓al131, ↓ri170, ↓wi131, ↓S131, ↓pi101_7, ↓S101_7, ↓pi101_8, ↓S101_8, ↓pi101_9, ↓S101_9, ↓pi101_10, ↓S101_10, ↓bd_i, ↓lb_i, ↓rd_i, ↓wt_i, ↓pf_i, bdi_e, lbi_e, ↓ck_t, isb_0, isb_1, ↓reduceIte, ↓if_pos, ↓if_neg, Int.reduceEq, Int.reduceLT, Int.reduceLE, Int.reduceNe, Int.reduceNeg, Int.reduceAdd, Int.reduceSub, Int.reduceMul, Int.add_sub_cancel, tg_ms, ln_ms, nx_ms, tg_ma, ln_ma, nx_ma, mv_s, mv_o, mv_ma_eq, mv_ma_ne, wrk, within_t, within_f, in_t, in_f, isCell_t, isCell_f, isHolder_t, isHolder_f, isHolderm_t, isHolderm_f, isDay_t, isDay_f, isDaym_t, isDaym_f, isSheet_t, isSheet_f, isSheetm_t, isSheetm_f]
      · simp (disch := omega) only [mv_o]
      · rcases (show j = 7 ∨ j = 8 ∨ j = 9 ∨ j = 10 by omega) with rfl | rfl | rfl | rfl <;> simp (disch := omega) only [mv_o, mv_s]
theorem bcok_n (hn : 10000000 ≤ n) (S : Sh h) (hF : ∀ p : Int, 0 ≤ p → p < 9 → mv h 170 p = 0 ∨ tg h (mv h 170 p) = 3) : ∃ h', f_X10_become_90 n 101 140 n 0 h = some (0, h') ∧ KK 0 39 (fun c => c = 101 ∨ c = 131) h h' := by
  obtain ⟨h', e, F, v1, -, v2⟩ := bco_n (n := n) n 0 h S hF (by omega) (by omega) (by omega)
  refine ⟨h', e, F.1, fun a j q => F.2 a j (fun z => q ?_), fun c j g r => ?_⟩
  · unfold dat; omega
  · rcases g with rfl | rfl
    · have r2 := rb101 r; exact v2 j (by omega) (by omega)
    · have r2 := rb131 r; exact v1 j (by omega) (by omega)
theorem bct_n (S : Sh h) (hT : ∀ i : Int, 0 ≤ i → i < 140 → -128 ≤ mv h 169 i ∧ mv h 169 i ≤ 127) : (∀ km : MM → RR, ac h 102 169 0 130 0 140 km = km (mc h 169 0 130 0 140)) ∧ KK 0 39 (fun c => c = 130) h (mc h 169 0 130 0 140) := by
  refine ⟨fun km => ac_e ⟨t169 S, by decide, t130 S, by decide, by decide, by decide, by decide, by rw [l169 S]; decide, by rw [l130 S]; decide, fun _ i i0 i1 => by rw [Int.zero_add]; exact hT i i0 i1⟩, rfl, fun a j q => ?_, fun c j g r => ?_⟩
  · refine mv_mcne ?_ _
    intro e; subst e
    exact q ⟨by omega, by unfold dat; omega⟩
  · subst g
    have r2 := rb130 r
    rw [show (130 : Int) + 0 = 130 by decide, mv_mcs (by omega), Int.zero_add, Int.sub_zero]
    rfl
theorem bcx_n (hn : 10000000 ≤ n) (S : Sh h) (hF : ∀ p : Int, 0 ≤ p → p < 60 → mv h 148 p = 0 ∨ tg h (mv h 148 p) = 4) (hO : ∀ p : Int, 0 ≤ p → p < 9 → mv h 170 p = 0 ∨ tg h (mv h 170 p) = 3) (hT : ∀ i : Int, 0 ≤ i → i < 140 → -128 ≤ mv h 169 i ∧ mv h 169 i ≤ 127) : ∃ h', f_X10_become n 101 140 h = some (0, h') ∧ KK 0 39 (fun c => 101 ≤ c ∧ c ≤ 139) h h' := by
  have ds : (0 = (0 : Int) ∧ 39 = (39 : Int)) ∨ (0 = (39 : Int) ∧ 39 = (0 : Int)) := by decide
  obtain ⟨h1, x1, K1⟩ := bc1k_n (n := n) S
  have S1 := K1.sh ds S
  have t1 : ∀ a, tg h1 a = tg h a := fun a => congrArg (fun z : (Int → Int × Int) × Int × Int => (z.1 a).1) K1.1
  obtain ⟨h2, x2, K2⟩ := bc5k_n (n := n) hn S1 (fun p p0 p1 => by rw [K1.2.1 148 p (fun z => by have := z.1; omega), t1]; exact hF p p0 p1)
  have K12 := K1.trans ds K2 (by intro c u v; omega)
  have S2 := K12.sh ds S
  obtain ⟨h3, x3, K3⟩ := bc8k_n (n := n) S2
  have K13 := K12.trans ds K3 (by intro c u v; omega)
  have S3 := K13.sh ds S
  obtain ⟨h4, x4, K4⟩ := bc6k_n (n := n) S3
  have K14 := K13.trans ds K4 (by intro c u v; omega)
  have S4 := K14.sh ds S
  obtain ⟨h5, x5, K5⟩ := bc90k_n (n := n) S4
  have K15 := K14.trans ds K5 (by intro c u v; omega)
  have S5 := K15.sh ds S
  obtain ⟨h6, x6, K6⟩ := bc91k_n (n := n) S5
  have K16 := K15.trans ds K6 (by intro c u v; omega)
  have S6 := K16.sh ds S
  obtain ⟨h7, x7, K7⟩ := bc92k_n (n := n) S6
  have K17 := K16.trans ds K7 (by intro c u v; omega)
  have S7 := K17.sh ds S
  obtain ⟨h8, x8, K8⟩ := bc93k_n (n := n) S7
  have K18 := K17.trans ds K8 (by intro c u v; omega)
  have S8 := K18.sh ds S
  obtain ⟨x9, K9⟩ := bct_n S8 (fun i i0 i1 => by rw [K18.2.1 169 i (fun z => by have := z.1; omega)]; exact hT i i0 i1)
  have K19 := K18.trans ds K9 (by intro c u v; omega)
  have S9 := K19.sh ds S
  have t9 : ∀ a, tg (mc h8 169 0 130 0 140) a = tg h a := fun a => congrArg (fun z : (Int → Int × Int) × Int × Int => (z.1 a).1) K19.1
  obtain ⟨h9, x10, K10⟩ := bcok_n (n := n) hn S9 (fun p p0 p1 => by rw [K19.2.1 170 p (fun z => by have := z.1; omega), t9]; exact hO p p0 p1)
  have K20 := K19.trans ds K10 (by intro c u v; omega)
  refine ⟨h9, ?_, K20.1, fun a j q => K20.2.1 a j (fun z => q ⟨by have := dat_b z.2; omega, z.2⟩), fun c j g r => K20.2.2 c j (by have r1 := rln_b r; have r2 := rln_n r; first | omega | (dsimp only; omega)) r⟩
  obtain ⟨m, rfl⟩ : ∃ m, n = m + 5 := ⟨n - 5, by omega⟩
  simp (disch := first | assumption | (with_reducible show Sh _; simp only [S100_2, S101_7, S101_8, S101_9, S101_10, S102_5, S103, M103, S104, M104, S105, M105, S106, M106, S107, M107, S108_6, S108_7, S108_8, S108_9, S109, M109, S110, M110, S111, M111, S112, M112, S113, M113, S114, M114, S115_8, S116, M116, S117, M117, S118, M118, S119, M119, S120, M120, S121, M121, S122, M122, S123, M123, S124_2, S125, M125, S126, M126, S127, M127, S128, M128, S130, M130, S131, M131, S132_1, S132_2, S133, M133, S134_1, S134_2, S135, M135, S136_1, S136_2, S137, M137, S138_1, S138_2, S139, M139, S140_7, S140_8, S140_9, S140_10, S141_5, S142, M142, S143, M143, S144, M144, S145, M145, S146, M146, S147_6, S147_7, S147_8, S147_9, S148, M148, S149, M149, S150, M150, S151, M151, S152, M152, S153, M153, S154_8, S155, M155, S156, M156, S157, M157, S158, M158, S159, M159, S160, M160, S161, M161, S162, M162, S163_2, S164, M164, S165, M165, S166, M166, S167, M167, S169, M169, S170, M170, S171_1, S171_2, S172, M172, S173_1, S173_2, S174, M174, S175_1, S175_2, S176, M176, S177_1, S177_2, S178, M178, S179, M179, S180_1, S180_2, S180_5, S180_6, S180_7, S180_8, S181, M181, S182, M182, S183, M183, S184_6, S185, M185, S186, M186, S187, M187, S188, M188, S189, M189, S190, M190, S191_5, S191_6, S192, M192, S193, M193, S194, M194, S195, M195, S196, M196, S197_0, S197_3, S197_4, S197_5, S197_6, S197_7, S197_13, S198, M198, S199, M199, S200, M200, S201, M201, S202, M202, S203, M203, S204, M204, S205, M205, S206, M206, S207, M207, S208, M208, S209, M209, S210, M210, S211, M211] <;> assumption) | (with_reducible show tg _ _ = _; simp only [tg_ms, tg_ma]; assumption) | (with_reducible show ln _ _ = _; simp only [ln_ms, ln_ma]; assumption) | (with_reducible show J64 _; unfold J64; omega) | (with_reducible show J _; unfold J; omega) | omega) only [↓f_X10_become, ↓f_X10_become_46, ↓f_X10_become_46b, ↓x1, ↓x2, ↓x3, ↓x4, ↓x5, ↓x6, ↓x7, ↓x8, ↓x9, ↓g101_0, ↓g101_1, ↓g101_2, ↓g101_3, ↓g101_4, ↓g101_5, ↓g101_6, ↓g101_7, ↓g101_8, ↓g101_9, ↓g101_10, ↓g140_0, ↓g140_1, ↓g140_2, ↓g140_3, ↓g140_4, ↓g140_5, ↓g140_6, ↓g140_7, ↓g140_8, ↓g140_9, ↓g140_10, ↓ri129, ↓ri168, ↓r129_0, ↓r129_1, ↓r129_2, ↓r129_3, ↓r168_0, ↓r168_1, ↓r168_2, ↓r168_3, ↓gk102, ↓gk108, ↓gk115, ↓gk124, ↓gk132, ↓gk134, ↓gk136, ↓gk138, ↓bd_i, ↓lb_i, ↓rd_i, ↓wt_i, ↓pf_i, bdi_e, lbi_e, ↓ck_t, isb_0, isb_1, ↓reduceIte, ↓if_pos, ↓if_neg, Int.reduceEq, Int.reduceLT, Int.reduceLE, Int.reduceNe, Int.reduceNeg, Int.reduceAdd, Int.reduceSub, Int.reduceMul, Int.add_sub_cancel, tg_ms, ln_ms, nx_ms, tg_ma, ln_ma, nx_ma, mv_s, mv_o, mv_ma_eq, mv_ma_ne, wrk, within_t, within_f, in_t, in_f, isCell_t, isCell_f, isHolder_t, isHolder_f, isHolderm_t, isHolderm_f, isDay_t, isDay_f, isDaym_t, isDaym_f, isSheet_t, isSheet_f, isSheetm_t, isSheetm_f]
  exact x10
end BEC
