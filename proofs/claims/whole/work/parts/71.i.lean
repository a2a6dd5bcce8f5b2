/-! THE IMAGE: one world becomes the other -/
def rlo (c : Int) : Int := if c = 101 then 7 else if c = 102 then 5 else if c = 108 then 6 else if c = 115 then 8 else if c = 124 then 2 else if c = 132 then 1 else if c = 134 then 1 else if c = 136 then 1 else if c = 138 then 1 else 0
def rhi (c : Int) : Int := if c = 101 then 11 else if c = 102 then 6 else if c = 108 then 10 else if c = 115 then 9 else if c = 124 then 3 else if c = 132 then 3 else if c = 134 then 3 else if c = 136 then 3 else if c = 138 then 3 else if c = 103 then 80 else if c = 104 then 80 else if c = 105 then 80 else if c = 106 then 6 else if c = 107 then 6 else if c = 109 then 60 else if c = 110 then 60 else if c = 111 then 60 else if c = 112 then 60 else if c = 113 then 60 else if c = 114 then 60 else if c = 116 then 20 else if c = 117 then 108 else if c = 118 then 12 else if c = 119 then 40 else if c = 120 then 40 else if c = 121 then 40 else if c = 122 then 40 else if c = 123 then 40 else if c = 125 then 7 else if c = 126 then 7 else if c = 130 then 140 else if c = 131 then 9 else if c = 133 then 40 else if c = 135 then 40 else if c = 137 then 40 else if c = 139 then 40 else 0
def rln (c j : Int) : Prop := (101 ≤ c ∧ c ≤ 139) ∧ rlo c ≤ j ∧ j < rhi c
theorem rn101 {j : Int} (q0 : 7 ≤ j) (q1 : j < 11) : rln 101 j := ⟨by decide, (show rlo 101 ≤ j from (show rlo 101 = 7 by decide) ▸ q0), (show j < rhi 101 from (show rhi 101 = 11 by decide) ▸ q1)⟩
theorem rb101 {j : Int} (q : rln 101 j) : 7 ≤ j ∧ j < 11 := by
  have e1 : rlo 101 = 7 := by decide
  have e2 : rhi 101 = 11 := by decide
  have := q.2
  omega
theorem rn102 {j : Int} (q0 : 5 ≤ j) (q1 : j < 6) : rln 102 j := ⟨by decide, (show rlo 102 ≤ j from (show rlo 102 = 5 by decide) ▸ q0), (show j < rhi 102 from (show rhi 102 = 6 by decide) ▸ q1)⟩
theorem rb102 {j : Int} (q : rln 102 j) : 5 ≤ j ∧ j < 6 := by
  have e1 : rlo 102 = 5 := by decide
  have e2 : rhi 102 = 6 := by decide
  have := q.2
  omega
theorem rn103 {j : Int} (q0 : 0 ≤ j) (q1 : j < 80) : rln 103 j := ⟨by decide, (show rlo 103 ≤ j from (show rlo 103 = 0 by decide) ▸ q0), (show j < rhi 103 from (show rhi 103 = 80 by decide) ▸ q1)⟩
theorem rb103 {j : Int} (q : rln 103 j) : 0 ≤ j ∧ j < 80 := by
  have e1 : rlo 103 = 0 := by decide
  have e2 : rhi 103 = 80 := by decide
  have := q.2
  omega
theorem rn104 {j : Int} (q0 : 0 ≤ j) (q1 : j < 80) : rln 104 j := ⟨by decide, (show rlo 104 ≤ j from (show rlo 104 = 0 by decide) ▸ q0), (show j < rhi 104 from (show rhi 104 = 80 by decide) ▸ q1)⟩
theorem rb104 {j : Int} (q : rln 104 j) : 0 ≤ j ∧ j < 80 := by
  have e1 : rlo 104 = 0 := by decide
  have e2 : rhi 104 = 80 := by decide
  have := q.2
  omega
theorem rn105 {j : Int} (q0 : 0 ≤ j) (q1 : j < 80) : rln 105 j := ⟨by decide, (show rlo 105 ≤ j from (show rlo 105 = 0 by decide) ▸ q0), (show j < rhi 105 from (show rhi 105 = 80 by decide) ▸ q1)⟩
theorem rb105 {j : Int} (q : rln 105 j) : 0 ≤ j ∧ j < 80 := by
  have e1 : rlo 105 = 0 := by decide
  have e2 : rhi 105 = 80 := by decide
  have := q.2
  omega
theorem rn106 {j : Int} (q0 : 0 ≤ j) (q1 : j < 6) : rln 106 j := ⟨by decide, (show rlo 106 ≤ j from (show rlo 106 = 0 by decide) ▸ q0), (show j < rhi 106 from (show rhi 106 = 6 by decide) ▸ q1)⟩
theorem rb106 {j : Int} (q : rln 106 j) : 0 ≤ j ∧ j < 6 := by
  have e1 : rlo 106 = 0 := by decide
  have e2 : rhi 106 = 6 := by decide
  have := q.2
  omega
theorem rn107 {j : Int} (q0 : 0 ≤ j) (q1 : j < 6) : rln 107 j := ⟨by decide, (show rlo 107 ≤ j from (show rlo 107 = 0 by decide) ▸ q0), (show j < rhi 107 from (show rhi 107 = 6 by decide) ▸ q1)⟩
theorem rb107 {j : Int} (q : rln 107 j) : 0 ≤ j ∧ j < 6 := by
  have e1 : rlo 107 = 0 := by decide
  have e2 : rhi 107 = 6 := by decide
  have := q.2
  omega
theorem rn108 {j : Int} (q0 : 6 ≤ j) (q1 : j < 10) : rln 108 j := ⟨by decide, (show rlo 108 ≤ j from (show rlo 108 = 6 by decide) ▸ q0), (show j < rhi 108 from (show rhi 108 = 10 by decide) ▸ q1)⟩
theorem rb108 {j : Int} (q : rln 108 j) : 6 ≤ j ∧ j < 10 := by
  have e1 : rlo 108 = 6 := by decide
  have e2 : rhi 108 = 10 := by decide
  have := q.2
  omega
theorem rn109 {j : Int} (q0 : 0 ≤ j) (q1 : j < 60) : rln 109 j := ⟨by decide, (show rlo 109 ≤ j from (show rlo 109 = 0 by decide) ▸ q0), (show j < rhi 109 from (show rhi 109 = 60 by decide) ▸ q1)⟩
theorem rb109 {j : Int} (q : rln 109 j) : 0 ≤ j ∧ j < 60 := by
  have e1 : rlo 109 = 0 := by decide
  have e2 : rhi 109 = 60 := by decide
  have := q.2
  omega
theorem rn110 {j : Int} (q0 : 0 ≤ j) (q1 : j < 60) : rln 110 j := ⟨by decide, (show rlo 110 ≤ j from (show rlo 110 = 0 by decide) ▸ q0), (show j < rhi 110 from (show rhi 110 = 60 by decide) ▸ q1)⟩
theorem rb110 {j : Int} (q : rln 110 j) : 0 ≤ j ∧ j < 60 := by
  have e1 : rlo 110 = 0 := by decide
  have e2 : rhi 110 = 60 := by decide
  have := q.2
  omega
theorem rn111 {j : Int} (q0 : 0 ≤ j) (q1 : j < 60) : rln 111 j := ⟨by decide, (show rlo 111 ≤ j from (show rlo 111 = 0 by decide) ▸ q0), (show j < rhi 111 from (show rhi 111 = 60 by decide) ▸ q1)⟩
theorem rb111 {j : Int} (q : rln 111 j) : 0 ≤ j ∧ j < 60 := by
  have e1 : rlo 111 = 0 := by decide
  have e2 : rhi 111 = 60 := by decide
  have := q.2
  omega
theorem rn112 {j : Int} (q0 : 0 ≤ j) (q1 : j < 60) : rln 112 j := ⟨by decide, (show rlo 112 ≤ j from (show rlo 112 = 0 by decide) ▸ q0), (show j < rhi 112 from (show rhi 112 = 60 by decide) ▸ q1)⟩
theorem rb112 {j : Int} (q : rln 112 j) : 0 ≤ j ∧ j < 60 := by
  have e1 : rlo 112 = 0 := by decide
  have e2 : rhi 112 = 60 := by decide
  have := q.2
  omega
theorem rn113 {j : Int} (q0 : 0 ≤ j) (q1 : j < 60) : rln 113 j := ⟨by decide, (show rlo 113 ≤ j from (show rlo 113 = 0 by decide) ▸ q0), (show j < rhi 113 from (show rhi 113 = 60 by decide) ▸ q1)⟩
theorem rb113 {j : Int} (q : rln 113 j) : 0 ≤ j ∧ j < 60 := by
  have e1 : rlo 113 = 0 := by decide
  have e2 : rhi 113 = 60 := by decide
  have := q.2
  omega
theorem rn114 {j : Int} (q0 : 0 ≤ j) (q1 : j < 60) : rln 114 j := ⟨by decide, (show rlo 114 ≤ j from (show rlo 114 = 0 by decide) ▸ q0), (show j < rhi 114 from (show rhi 114 = 60 by decide) ▸ q1)⟩
theorem rb114 {j : Int} (q : rln 114 j) : 0 ≤ j ∧ j < 60 := by
  have e1 : rlo 114 = 0 := by decide
  have e2 : rhi 114 = 60 := by decide
  have := q.2
  omega
theorem rn115 {j : Int} (q0 : 8 ≤ j) (q1 : j < 9) : rln 115 j := ⟨by decide, (show rlo 115 ≤ j from (show rlo 115 = 8 by decide) ▸ q0), (show j < rhi 115 from (show rhi 115 = 9 by decide) ▸ q1)⟩
theorem rb115 {j : Int} (q : rln 115 j) : 8 ≤ j ∧ j < 9 := by
  have e1 : rlo 115 = 8 := by decide
  have e2 : rhi 115 = 9 := by decide
  have := q.2
  omega
theorem rn116 {j : Int} (q0 : 0 ≤ j) (q1 : j < 20) : rln 116 j := ⟨by decide, (show rlo 116 ≤ j from (show rlo 116 = 0 by decide) ▸ q0), (show j < rhi 116 from (show rhi 116 = 20 by decide) ▸ q1)⟩
theorem rb116 {j : Int} (q : rln 116 j) : 0 ≤ j ∧ j < 20 := by
  have e1 : rlo 116 = 0 := by decide
  have e2 : rhi 116 = 20 := by decide
  have := q.2
  omega
theorem rn117 {j : Int} (q0 : 0 ≤ j) (q1 : j < 108) : rln 117 j := ⟨by decide, (show rlo 117 ≤ j from (show rlo 117 = 0 by decide) ▸ q0), (show j < rhi 117 from (show rhi 117 = 108 by decide) ▸ q1)⟩
theorem rb117 {j : Int} (q : rln 117 j) : 0 ≤ j ∧ j < 108 := by
  have e1 : rlo 117 = 0 := by decide
  have e2 : rhi 117 = 108 := by decide
  have := q.2
  omega
theorem rn118 {j : Int} (q0 : 0 ≤ j) (q1 : j < 12) : rln 118 j := ⟨by decide, (show rlo 118 ≤ j from (show rlo 118 = 0 by decide) ▸ q0), (show j < rhi 118 from (show rhi 118 = 12 by decide) ▸ q1)⟩
theorem rb118 {j : Int} (q : rln 118 j) : 0 ≤ j ∧ j < 12 := by
  have e1 : rlo 118 = 0 := by decide
  have e2 : rhi 118 = 12 := by decide
  have := q.2
  omega
theorem rn119 {j : Int} (q0 : 0 ≤ j) (q1 : j < 40) : rln 119 j := ⟨by decide, (show rlo 119 ≤ j from (show rlo 119 = 0 by decide) ▸ q0), (show j < rhi 119 from (show rhi 119 = 40 by decide) ▸ q1)⟩
theorem rb119 {j : Int} (q : rln 119 j) : 0 ≤ j ∧ j < 40 := by
  have e1 : rlo 119 = 0 := by decide
  have e2 : rhi 119 = 40 := by decide
  have := q.2
  omega
theorem rn120 {j : Int} (q0 : 0 ≤ j) (q1 : j < 40) : rln 120 j := ⟨by decide, (show rlo 120 ≤ j from (show rlo 120 = 0 by decide) ▸ q0), (show j < rhi 120 from (show rhi 120 = 40 by decide) ▸ q1)⟩
theorem rb120 {j : Int} (q : rln 120 j) : 0 ≤ j ∧ j < 40 := by
  have e1 : rlo 120 = 0 := by decide
  have e2 : rhi 120 = 40 := by decide
  have := q.2
  omega
theorem rn121 {j : Int} (q0 : 0 ≤ j) (q1 : j < 40) : rln 121 j := ⟨by decide, (show rlo 121 ≤ j from (show rlo 121 = 0 by decide) ▸ q0), (show j < rhi 121 from (show rhi 121 = 40 by decide) ▸ q1)⟩
theorem rb121 {j : Int} (q : rln 121 j) : 0 ≤ j ∧ j < 40 := by
  have e1 : rlo 121 = 0 := by decide
  have e2 : rhi 121 = 40 := by decide
  have := q.2
  omega
theorem rn122 {j : Int} (q0 : 0 ≤ j) (q1 : j < 40) : rln 122 j := ⟨by decide, (show rlo 122 ≤ j from (show rlo 122 = 0 by decide) ▸ q0), (show j < rhi 122 from (show rhi 122 = 40 by decide) ▸ q1)⟩
theorem rb122 {j : Int} (q : rln 122 j) : 0 ≤ j ∧ j < 40 := by
  have e1 : rlo 122 = 0 := by decide
  have e2 : rhi 122 = 40 := by decide
  have := q.2
  omega
theorem rn123 {j : Int} (q0 : 0 ≤ j) (q1 : j < 40) : rln 123 j := ⟨by decide, (show rlo 123 ≤ j from (show rlo 123 = 0 by decide) ▸ q0), (show j < rhi 123 from (show rhi 123 = 40 by decide) ▸ q1)⟩
theorem rb123 {j : Int} (q : rln 123 j) : 0 ≤ j ∧ j < 40 := by
  have e1 : rlo 123 = 0 := by decide
  have e2 : rhi 123 = 40 := by decide
  have := q.2
  omega
theorem rn124 {j : Int} (q0 : 2 ≤ j) (q1 : j < 3) : rln 124 j := ⟨by decide, (show rlo 124 ≤ j from (show rlo 124 = 2 by decide) ▸ q0), (show j < rhi 124 from (show rhi 124 = 3 by decide) ▸ q1)⟩
theorem rb124 {j : Int} (q : rln 124 j) : 2 ≤ j ∧ j < 3 := by
  have e1 : rlo 124 = 2 := by decide
  have e2 : rhi 124 = 3 := by decide
  have := q.2
  omega
theorem rn125 {j : Int} (q0 : 0 ≤ j) (q1 : j < 7) : rln 125 j := ⟨by decide, (show rlo 125 ≤ j from (show rlo 125 = 0 by decide) ▸ q0), (show j < rhi 125 from (show rhi 125 = 7 by decide) ▸ q1)⟩
theorem rb125 {j : Int} (q : rln 125 j) : 0 ≤ j ∧ j < 7 := by
  have e1 : rlo 125 = 0 := by decide
  have e2 : rhi 125 = 7 := by decide
  have := q.2
  omega
theorem rn126 {j : Int} (q0 : 0 ≤ j) (q1 : j < 7) : rln 126 j := ⟨by decide, (show rlo 126 ≤ j from (show rlo 126 = 0 by decide) ▸ q0), (show j < rhi 126 from (show rhi 126 = 7 by decide) ▸ q1)⟩
theorem rb126 {j : Int} (q : rln 126 j) : 0 ≤ j ∧ j < 7 := by
  have e1 : rlo 126 = 0 := by decide
  have e2 : rhi 126 = 7 := by decide
  have := q.2
  omega
theorem rn130 {j : Int} (q0 : 0 ≤ j) (q1 : j < 140) : rln 130 j := ⟨by decide, (show rlo 130 ≤ j from (show rlo 130 = 0 by decide) ▸ q0), (show j < rhi 130 from (show rhi 130 = 140 by decide) ▸ q1)⟩
theorem rb130 {j : Int} (q : rln 130 j) : 0 ≤ j ∧ j < 140 := by
  have e1 : rlo 130 = 0 := by decide
  have e2 : rhi 130 = 140 := by decide
  have := q.2
  omega
theorem rn131 {j : Int} (q0 : 0 ≤ j) (q1 : j < 9) : rln 131 j := ⟨by decide, (show rlo 131 ≤ j from (show rlo 131 = 0 by decide) ▸ q0), (show j < rhi 131 from (show rhi 131 = 9 by decide) ▸ q1)⟩
theorem rb131 {j : Int} (q : rln 131 j) : 0 ≤ j ∧ j < 9 := by
  have e1 : rlo 131 = 0 := by decide
  have e2 : rhi 131 = 9 := by decide
  have := q.2
  omega
theorem rn132 {j : Int} (q0 : 1 ≤ j) (q1 : j < 3) : rln 132 j := ⟨by decide, (show rlo 132 ≤ j from (show rlo 132 = 1 by decide) ▸ q0), (show j < rhi 132 from (show rhi 132 = 3 by decide) ▸ q1)⟩
theorem rb132 {j : Int} (q : rln 132 j) : 1 ≤ j ∧ j < 3 := by
  have e1 : rlo 132 = 1 := by decide
  have e2 : rhi 132 = 3 := by decide
  have := q.2
  omega
theorem rn133 {j : Int} (q0 : 0 ≤ j) (q1 : j < 40) : rln 133 j := ⟨by decide, (show rlo 133 ≤ j from (show rlo 133 = 0 by decide) ▸ q0), (show j < rhi 133 from (show rhi 133 = 40 by decide) ▸ q1)⟩
theorem rb133 {j : Int} (q : rln 133 j) : 0 ≤ j ∧ j < 40 := by
  have e1 : rlo 133 = 0 := by decide
  have e2 : rhi 133 = 40 := by decide
  have := q.2
  omega
theorem rn134 {j : Int} (q0 : 1 ≤ j) (q1 : j < 3) : rln 134 j := ⟨by decide, (show rlo 134 ≤ j from (show rlo 134 = 1 by decide) ▸ q0), (show j < rhi 134 from (show rhi 134 = 3 by decide) ▸ q1)⟩
theorem rb134 {j : Int} (q : rln 134 j) : 1 ≤ j ∧ j < 3 := by
  have e1 : rlo 134 = 1 := by decide
  have e2 : rhi 134 = 3 := by decide
  have := q.2
  omega
theorem rn135 {j : Int} (q0 : 0 ≤ j) (q1 : j < 40) : rln 135 j := ⟨by decide, (show rlo 135 ≤ j from (show rlo 135 = 0 by decide) ▸ q0), (show j < rhi 135 from (show rhi 135 = 40 by decide) ▸ q1)⟩
theorem rb135 {j : Int} (q : rln 135 j) : 0 ≤ j ∧ j < 40 := by
  have e1 : rlo 135 = 0 := by decide
  have e2 : rhi 135 = 40 := by decide
  have := q.2
  omega
theorem rn136 {j : Int} (q0 : 1 ≤ j) (q1 : j < 3) : rln 136 j := ⟨by decide, (show rlo 136 ≤ j from (show rlo 136 = 1 by decide) ▸ q0), (show j < rhi 136 from (show rhi 136 = 3 by decide) ▸ q1)⟩
theorem rb136 {j : Int} (q : rln 136 j) : 1 ≤ j ∧ j < 3 := by
  have e1 : rlo 136 = 1 := by decide
  have e2 : rhi 136 = 3 := by decide
  have := q.2
  omega
theorem rn137 {j : Int} (q0 : 0 ≤ j) (q1 : j < 40) : rln 137 j := ⟨by decide, (show rlo 137 ≤ j from (show rlo 137 = 0 by decide) ▸ q0), (show j < rhi 137 from (show rhi 137 = 40 by decide) ▸ q1)⟩
theorem rb137 {j : Int} (q : rln 137 j) : 0 ≤ j ∧ j < 40 := by
  have e1 : rlo 137 = 0 := by decide
  have e2 : rhi 137 = 40 := by decide
  have := q.2
  omega
theorem rn138 {j : Int} (q0 : 1 ≤ j) (q1 : j < 3) : rln 138 j := ⟨by decide, (show rlo 138 ≤ j from (show rlo 138 = 1 by decide) ▸ q0), (show j < rhi 138 from (show rhi 138 = 3 by decide) ▸ q1)⟩
theorem rb138 {j : Int} (q : rln 138 j) : 1 ≤ j ∧ j < 3 := by
  have e1 : rlo 138 = 1 := by decide
  have e2 : rhi 138 = 3 := by decide
  have := q.2
  omega
theorem rn139 {j : Int} (q0 : 0 ≤ j) (q1 : j < 40) : rln 139 j := ⟨by decide, (show rlo 139 ≤ j from (show rlo 139 = 0 by decide) ▸ q0), (show j < rhi 139 from (show rhi 139 = 40 by decide) ▸ q1)⟩
theorem rb139 {j : Int} (q : rln 139 j) : 0 ≤ j ∧ j < 40 := by
  have e1 : rlo 139 = 0 := by decide
  have e2 : rhi 139 = 40 := by decide
  have := q.2
  omega
theorem sumI_c {f g : Int → Int} {k : Nat} (q : ∀ i : Int, 0 ≤ i → i < (k : Int) → f i = g i) : sumI f k = sumI g k := sumI_congr q
section CPY
variable {M s d ss ds : Int} {h h' : MM}
theorem RW.cp0 (R : RW M s ss h) (V : OInv h) (I : Imm h h') (x : ∀ c j : Int, rln c j → mv h' (c + d) j = mv h (c + s) j) (es : ∀ j : Int, mv h' ds j = mv h ss j) (hp : RPast ds h') : RW M d ds h' := by
  obtain ⟨⟨a1, a2, a3, a4, a5, a6, a7, a8, a9, a10⟩, a11, a12, a13, a14, a15, a16, a17, a18, a19⟩ := R
  obtain ⟨b0, b1, b2, b3, b4, b5, b6, b7, b8, b9⟩ := id a2
  refine ⟨⟨?_, ?_, ?_, ?_, ?_, ?_, ?_, ?_, ?_, ?_⟩, ?_, ?_, ?_, ?_, ?_, ?_, ?_, ?_, hp⟩
  · unfold RSc at a1 ⊢
    rw [x 101 9 (rn101 (by omega) (by omega)), x 102 5 (rn102 (by omega) (by omega)), x 108 7 (rn108 (by omega) (by omega)), x 101 8 (rn101 (by omega) (by omega)), x 101 7 (rn101 (by omega) (by omega)), x 101 10 (rn101 (by omega) (by omega)), x 108 9 (rn108 (by omega) (by omega)), x 124 2 (rn124 (by omega) (by omega)), x 115 8 (rn115 (by omega) (by omega)), x 108 8 (rn108 (by omega) (by omega))]
    simp only [es]; exact a1
  · unfold RBd at a2 ⊢; simp only [es]; exact a2
  · intro c c0 c1
    rw [x 103 c (rn103 c0 c1), x 104 c (rn104 c0 c1)]
    simp only [es]; exact a3 c c0 c1
  · refine ⟨fun t t0 t1 => ?_, fun t u t0 t1 t2 => ?_⟩
    · rw [es] at t1
      rw [x 106 t (rn106 t0 (by omega)), x 107 t (rn107 t0 (by omega))]
      simp only [es]; exact a4.1 t t0 t1
    · rw [es] at t2; simp only [es]; exact a4.2 t u t0 t1 t2
  · intro c c0 c1
    rw [x 105 c (rn105 c0 c1)]
    have : clm ds h' c = clm ss h c := by unfold clm; simp only [es]
    rw [this]; exact a5 c c0 c1
  · intro p p0 p1
    rw [es] at p1
    obtain ⟨r1, r2, r3, r4, r5, r6, r7, r8⟩ := a6 p p0 p1
    obtain ⟨k1, k2, k3, k4, k5, k6, k7, k8, k9, k10, k11, k12⟩ := r6
    have O := obj_imm I k1 k2 k3 (by decide)
    have f : ∀ i, mv h' (mv h (109 + s) p) i = mv h (mv h (109 + s) p) i := fun i => O.2 i (Or.inr (by decide))
    have A3 := k7.imm I
    have A4 := k8.imm I
    rw [x 109 p (rn109 p0 (by omega))]
    refine ⟨?_, ?_, ?_, ?_, ?_, ⟨k1, by have := I.1; omega, O.1, ?_, ?_, ?_, ?_, ?_, ?_, ?_, ?_, ?_⟩, ?_, ?_⟩
    · unfold KOk at r1 ⊢; simp only [es]; exact r1
    · unfold EOk at r2 ⊢; simp only [es]; exact r2
    · unfold WOk at r3 ⊢; simp only [es]; exact r3
    · simp only [es]; exact r4
    · simp only [es]; exact r5
    · rw [f, es]; exact k4
    · rw [f, es]; exact k5
    · rw [f, es]; exact k6
    · rw [f]; exact A3.1
    · rw [f]; exact A4.1
    · rw [f, es]; exact k9
    · rw [f, es]; exact k10
    · rw [f, es]; exact k11
    · rw [f, es]; exact k12
    · unfold SlOk at r7 ⊢; simp only [es, f]; exact r7
    · unfold PlOk CLk at r8 ⊢; simp only [es, f, A3.2.1, A3.2.2, A4.2.1, A4.2.2]; exact r8
  · unfold RDay at a7 ⊢; simp only [es]; exact a7
  · unfold RMark at a8 ⊢
    rw [x 108 6 (rn108 (by omega) (by omega))]
    simp only [es]; exact a8
  · refine ⟨?_, fun p q p0 p1 q0 q1 => ?_⟩
    · have := a9.1
      simp only [es]; exact this
    · rw [es] at p1
      rw [x 110 p (rn110 p0 (by omega))]
      simp only [es]; exact a9.2 p q p0 p1 q0 q1
  · intro p p0 p1
    rw [es] at p1
    rw [x 111 p (rn111 p0 (by omega)), x 112 p (rn112 p0 (by omega))]
    simp only [es]; exact a10 p p0 p1
  · refine ⟨?_, fun p p0 p1 => ?_⟩
    · have := a11.1
      simp only [es]; exact this
    · rw [es] at p1
      rw [x 113 p (rn113 p0 (by omega)), x 114 p (rn114 p0 (by omega))]
      have v : ∀ y, vts ds h' p y = vts ss h p y := fun y => by unfold vts; simp only [es]
      rw [v, v]; exact a11.2 p p0 p1
  · intro j j0 j1
    rw [es] at j1
    rw [x 125 j (rn125 j0 (by omega)), x 126 j (rn126 j0 (by omega))]
    simp only [es]; exact a12 j j0 j1
  · refine ⟨fun i i0 i1 => ?_, ?_⟩
    · rw [es] at i1
      obtain ⟨y1, y2, y3, y4, y5, y6, y7⟩ := a13.1 i i0 i1
      rw [x 116 (8 + i) (rn116 (by omega) (by omega)), x 118 i (rn118 (by omega) (by omega))]
      simp only [es]
      refine ⟨y1, y2, y3, y4, y5, fun k k0 k1 => ?_, y7⟩
      rw [x 117 (9 * i + k) (rn117 (by omega) (by omega))]
      exact y6 k k0 k1
    · have := a13.2
      simp only [es]; exact this
  · obtain ⟨c1, c2, c3⟩ := a14
    refine ⟨fun k k0 k1 => ?_, fun k k0 k1 => ?_, ?_⟩
    · rw [x 116 k (rn116 (by omega) (by omega)), es]; exact c1 k k0 k1
    · rw [x 116 k (rn116 (by omega) (by omega))]; exact c2 k k0 k1
    · rw [sumI_c (f := mv h' (116 + d)) (g := mv h (116 + s)) (k := 20) (fun i i0 i1 => x 116 i (rn116 i0 (by omega)))]; exact c3
  · intro f f0 f1
    rw [es] at f1
    rw [x 119 f (rn119 f0 (by omega)), x 120 f (rn120 f0 (by omega)), x 121 f (rn121 f0 (by omega)), x 122 f (rn122 f0 (by omega)), x 123 f (rn123 f0 (by omega))]
    simp only [es]; exact a15 f f0 f1
  · intro k k0 k1
    have z := a16 k k0 k1
    have y1 : ∀ j : Int, (1 ≤ j ∧ j < 3) → mv h' (132 + d + 2 * k) j = mv h (132 + s + 2 * k) j := fun j hj => by
      rw [show 132 + d + 2 * k = 132 + 2 * k + d by omega, show 132 + s + 2 * k = 132 + 2 * k + s by omega]
      refine x _ j ?_
      rcases (show k = 0 ∨ k = 1 ∨ k = 2 ∨ k = 3 by omega) with rfl | rfl | rfl | rfl
      · exact rn132 hj.1 hj.2
      · exact rn134 hj.1 hj.2
      · exact rn136 hj.1 hj.2
      · exact rn138 hj.1 hj.2
    have y2 : ∀ j : Int, 0 ≤ j → j < 40 → mv h' (133 + d + 2 * k) j = mv h (133 + s + 2 * k) j := fun j j0 j1 => by
      rw [show 133 + d + 2 * k = 133 + 2 * k + d by omega, show 133 + s + 2 * k = 133 + 2 * k + s by omega]
      refine x _ j ?_
      rcases (show k = 0 ∨ k = 1 ∨ k = 2 ∨ k = 3 by omega) with rfl | rfl | rfl | rfl
      · exact rn133 j0 j1
      · exact rn135 j0 j1
      · exact rn137 j0 j1
      · exact rn139 j0 j1
    rw [y1 1 (by omega), y1 2 (by omega)]
    simp only [es]
    refine ⟨z.1, z.2.1, z.2.2.1, z.2.2.2.1, z.2.2.2.2.1, z.2.2.2.2.2.1, fun i i0 i1 => ?_⟩
    rw [y2 i i0 i1]; exact z.2.2.2.2.2.2 i i0 i1
  · obtain ⟨t1, t2, t3, t4⟩ := a17
    have i1 := I.1
    have i2 := I.2.1
    refine ⟨fun i i0 i1 => ?_, fun i i0 i1 => ?_, fun p p0 p1 => ?_, fun a a0 a1 => ?_⟩
    · rw [es] at i1
      rw [x 130 i (rn130 i0 (by omega))]
      simp only [es]; exact t1 i i0 i1
    · rw [x 130 i (rn130 i0 i1)]; exact t2 i i0 i1
    · rw [x 109 p (rn109 p0 p1)]
      rcases t3 p p0 p1 with q | ⟨q1, q2, q3⟩
      · exact Or.inl q
      · exact Or.inr ⟨q1, by omega, (i2 _ q2).1.trans q3⟩
    · rw [x 131 a (rn131 a0 a1)]
      rcases t4 a a0 a1 with q | ⟨q1, q2, q3⟩
      · exact Or.inl q
      · exact Or.inr ⟨q1, by omega, (i2 _ q2).1.trans q3⟩
  · intro a a0 a1
    rw [es] at a1
    obtain ⟨r1, r2, r3, r4⟩ := a18 a a0 a1
    have O := r2.imm V I
    rw [x 131 a (rn131 a0 (by omega))]
    refine ⟨?_, O.1, ?_, ?_⟩
    · have : oB ds h' a = oB ss h a := by unfold oB; simp only [es]
      unfold OClk at r1 ⊢; simp only [es, this]; exact r1
    · unfold OTx at r3 ⊢; simp only [es, O.2.1 0 (by decide), O.2.2.2.2.1, O.2.2.2.2.2]; exact r3
    · have lc : ∀ w, ∀ k, lcI ds h' a w k = lcI ss h a w k := by
        intro w k
        induction k with
        | zero => rfl
        | succ k ih => unfold lcI; rw [ih, es]
      have la : ∀ w, lastc ds h' a w = lastc ss h a w := fun w => by unfold lastc; rw [lc, es]
      unfold OWd at r4 ⊢; simp only [es, la, O.2.2.1, O.2.2.2.1]; exact r4
/-- the same cells of the class, σ the same where there is any -/
theorem RW.cp1 (R : RW M d ds h) (V : OInv h) (hd : d = 0 ∨ d = 39) (hs : ds = 198 ∨ ds = 199) (I : Imm h h') (w : ∀ a j : Int, a ≠ ds → mv h' a j = mv h a j) (e : ∀ j : Int, 0 ≤ j → j < 83840 → mv h' ds j = mv h ds j) (hp : RPast ds h') : RW M d ds h' := by
  obtain ⟨⟨a1, a2, a3, a4, a5, a6, a7, a8, a9, a10⟩, a11, a12, a13, a14, a15, a16, a17, a18, a19⟩ := R
  have W : ∀ c j : Int, 101 ≤ c → c ≤ 139 → mv h' (c + d) j = mv h (c + d) j := fun c j c0 c1 => w _ j (by omega)
  have Q : ∀ i : Int, (0 ≤ i ∧ i < 83840) → mv h' ds i = mv h ds i := fun i hi => e i hi.1 hi.2
  refine ⟨⟨?_, a2.f (fun i hi => Q i (by omega)), a3.f (fun j => W _ _ (by omega) (by omega)) (fun j => W _ _ (by omega) (by omega)) (fun i hi => Q i (by omega)), a4.f (fun j => W _ _ (by omega) (by omega)) (fun j => W _ _ (by omega) (by omega)) a2 (fun i hi => Q i (by omega)), a5.f (fun j => W _ _ (by omega) (by omega)) a2 (fun i hi => Q i (by omega)), a6.f a2 (fun j _ _ => W _ _ (by omega) (by omega)) (Q 2 (by omega)) (Int.le_of_eq (Q 0 (by omega)).symm) I (fun i hi => Q i (by omega)), a7.f a2 (fun i hi => Q i (by omega)), a8.f (W _ _ (by omega) (by omega)) a2 (fun i hi => Q i (by omega)), a9.f (fun j => W _ _ (by omega) (by omega)) a2 (fun i hi => Q i (by omega)), a10.f (fun j => W _ _ (by omega) (by omega)) (fun j => W _ _ (by omega) (by omega)) a2 (fun i hi => Q i (by omega))⟩, a11.f (fun j => W _ _ (by omega) (by omega)) (fun j => W _ _ (by omega) (by omega)) a2 (fun i hi => Q i (by omega)), a12.f (fun j => W _ _ (by omega) (by omega)) (fun j => W _ _ (by omega) (by omega)) a2 (fun i hi => Q i (by omega)), a13.f (fun j _ _ => W _ _ (by omega) (by omega)) (fun j => W _ _ (by omega) (by omega)) (fun j => W _ _ (by omega) (by omega)) a2 (fun i hi => Q i (by omega)), a14.f (fun j => W _ _ (by omega) (by omega)) (fun i hi => Q i (by omega)), a15.f (fun j => W _ _ (by omega) (by omega)) (fun j => W _ _ (by omega) (by omega)) (fun j => W _ _ (by omega) (by omega)) (fun j => W _ _ (by omega) (by omega)) (fun j => W _ _ (by omega) (by omega)) a2 (fun i hi => Q i (by omega)), a16.f (fun a j ha => w _ _ (by omega)) (fun i hi => Q i (by omega)), a17.f (fun j => W _ _ (by omega) (by omega)) (fun j => W _ _ (by omega) (by omega)) (fun j => W _ _ (by omega) (by omega)) I a2 (fun i hi => Q i (by omega)), a18.f a2 V (fun j _ _ => W _ _ (by omega) (by omega)) (Q 3 (by omega)) I (fun i hi => Q i (by omega)), hp⟩
  unfold RSc at a1 ⊢
  rw [W 101 9 (by omega) (by omega), W 102 5 (by omega) (by omega), W 108 7 (by omega) (by omega), W 101 8 (by omega) (by omega), W 101 7 (by omega) (by omega), W 101 10 (by omega) (by omega), W 108 9 (by omega) (by omega), W 124 2 (by omega) (by omega), W 115 8 (by omega) (by omega), W 108 8 (by omega) (by omega), Q 0 (by omega), Q 1 (by omega), Q 2 (by omega), Q 3 (by omega), Q 4 (by omega), Q 5 (by omega), Q 6 (by omega), Q 7 (by omega), Q 8 (by omega), Q 9 (by omega)]
  exact a1
end CPY
