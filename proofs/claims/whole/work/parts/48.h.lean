/-! HIDDEN CONTINUATIONS: an evaluation reads what stands ahead before it looks behind -/
section HID
variable {h : MM} {a t i j v e n : Int} {o : RR} {k : Int → RR} {km : MM → RR} {kv : Int → MM → RR}
def bdi (o : RR) [k : Inhabited (Int → MM → RR)] : RR := bd o k.default
def lbi (e : Int) [k : Inhabited (Int → RR)] : RR := lb e k.default
def rdi (h : MM) (a t i : Int) [k : Inhabited (Int → RR)] : RR := rd h a t i k.default
def wti (h : MM) (a t i v : Int) [k : Inhabited (MM → RR)] : RR := wt h a t i v k.default
def pfi (h : MM) (a t j v : Int) [k : Inhabited (MM → RR)] : RR := pf h a t j v k.default
theorem bd_i : bd o kv = @bdi o ⟨kv⟩ := rfl
theorem lb_i : lb e k = @lbi e ⟨k⟩ := rfl
theorem rd_i : rd h a t i k = @rdi h a t i ⟨k⟩ := rfl
theorem wt_i : wt h a t i v km = @wti h a t i v ⟨km⟩ := rfl
theorem pf_i : pf h a t j v km = @pfi h a t j v ⟨km⟩ := rfl
theorem bdi_e : @bdi (some (v, h)) ⟨kv⟩ = kv v h := rfl
theorem lbi_e : @lbi e ⟨k⟩ = k e := rfl
theorem pi100_2 (S : Sh h) : @pfi h 100 11 2 v ⟨km⟩ = km (ms h 100 2 v) := p100_2 S
theorem pi101_7 (S : Sh h) : @pfi h 101 10 7 v ⟨km⟩ = km (ms h 101 7 v) := p101_7 S
theorem pi101_8 (S : Sh h) : @pfi h 101 10 8 v ⟨km⟩ = km (ms h 101 8 v) := p101_8 S
theorem pi101_9 (S : Sh h) : @pfi h 101 10 9 v ⟨km⟩ = km (ms h 101 9 v) := p101_9 S
theorem pi101_10 (S : Sh h) : @pfi h 101 10 10 v ⟨km⟩ = km (ms h 101 10 v) := p101_10 S
theorem pi102_5 (S : Sh h) : @pfi h 102 1 5 v ⟨km⟩ = km (ms h 102 5 v) := p102_5 S
theorem ri103 (S : Sh h) (q : 0 ≤ i ∧ i < 80) : @rdi h 103 100 i ⟨k⟩ = k (mv h 103 i) := rd103 S q
theorem wi103 (S : Sh h) (q : 0 ≤ i ∧ i < 80) : @wti h 103 100 i v ⟨km⟩ = km (ms h 103 i v) := wt103 S q
theorem ri104 (S : Sh h) (q : 0 ≤ i ∧ i < 80) : @rdi h 104 100 i ⟨k⟩ = k (mv h 104 i) := rd104 S q
theorem wi104 (S : Sh h) (q : 0 ≤ i ∧ i < 80) : @wti h 104 100 i v ⟨km⟩ = km (ms h 104 i v) := wt104 S q
theorem ri105 (S : Sh h) (q : 0 ≤ i ∧ i < 80) : @rdi h 105 100 i ⟨k⟩ = k (mv h 105 i) := rd105 S q
theorem wi105 (S : Sh h) (q : 0 ≤ i ∧ i < 80) : @wti h 105 100 i v ⟨km⟩ = km (ms h 105 i v) := wt105 S q
theorem ri106 (S : Sh h) (q : 0 ≤ i ∧ i < 6) : @rdi h 106 100 i ⟨k⟩ = k (mv h 106 i) := rd106 S q
theorem wi106 (S : Sh h) (q : 0 ≤ i ∧ i < 6) : @wti h 106 100 i v ⟨km⟩ = km (ms h 106 i v) := wt106 S q
theorem ri107 (S : Sh h) (q : 0 ≤ i ∧ i < 6) : @rdi h 107 100 i ⟨k⟩ = k (mv h 107 i) := rd107 S q
theorem wi107 (S : Sh h) (q : 0 ≤ i ∧ i < 6) : @wti h 107 100 i v ⟨km⟩ = km (ms h 107 i v) := wt107 S q
theorem pi108_6 (S : Sh h) : @pfi h 108 5 6 v ⟨km⟩ = km (ms h 108 6 v) := p108_6 S
theorem pi108_7 (S : Sh h) : @pfi h 108 5 7 v ⟨km⟩ = km (ms h 108 7 v) := p108_7 S
theorem pi108_8 (S : Sh h) : @pfi h 108 5 8 v ⟨km⟩ = km (ms h 108 8 v) := p108_8 S
theorem pi108_9 (S : Sh h) : @pfi h 108 5 9 v ⟨km⟩ = km (ms h 108 9 v) := p108_9 S
theorem ri109 (S : Sh h) (q : 0 ≤ i ∧ i < 60) : @rdi h 109 105 i ⟨k⟩ = k (mv h 109 i) := rd109 S q
theorem wi109 (S : Sh h) (q : 0 ≤ i ∧ i < 60) : @wti h 109 105 i v ⟨km⟩ = km (ms h 109 i v) := wt109 S q
theorem ri110 (S : Sh h) (q : 0 ≤ i ∧ i < 60) : @rdi h 110 101 i ⟨k⟩ = k (mv h 110 i) := rd110 S q
theorem wi110 (S : Sh h) (q : 0 ≤ i ∧ i < 60) : @wti h 110 101 i v ⟨km⟩ = km (ms h 110 i v) := wt110 S q
theorem ri111 (S : Sh h) (q : 0 ≤ i ∧ i < 60) : @rdi h 111 100 i ⟨k⟩ = k (mv h 111 i) := rd111 S q
theorem wi111 (S : Sh h) (q : 0 ≤ i ∧ i < 60) : @wti h 111 100 i v ⟨km⟩ = km (ms h 111 i v) := wt111 S q
theorem ri112 (S : Sh h) (q : 0 ≤ i ∧ i < 60) : @rdi h 112 100 i ⟨k⟩ = k (mv h 112 i) := rd112 S q
theorem wi112 (S : Sh h) (q : 0 ≤ i ∧ i < 60) : @wti h 112 100 i v ⟨km⟩ = km (ms h 112 i v) := wt112 S q
theorem ri113 (S : Sh h) (q : 0 ≤ i ∧ i < 60) : @rdi h 113 100 i ⟨k⟩ = k (mv h 113 i) := rd113 S q
theorem wi113 (S : Sh h) (q : 0 ≤ i ∧ i < 60) : @wti h 113 100 i v ⟨km⟩ = km (ms h 113 i v) := wt113 S q
theorem ri114 (S : Sh h) (q : 0 ≤ i ∧ i < 60) : @rdi h 114 100 i ⟨k⟩ = k (mv h 114 i) := rd114 S q
theorem wi114 (S : Sh h) (q : 0 ≤ i ∧ i < 60) : @wti h 114 100 i v ⟨km⟩ = km (ms h 114 i v) := wt114 S q
theorem pi115_8 (S : Sh h) : @pfi h 115 8 8 v ⟨km⟩ = km (ms h 115 8 v) := p115_8 S
theorem ri116 (S : Sh h) (q : 0 ≤ i ∧ i < 20) : @rdi h 116 100 i ⟨k⟩ = k (mv h 116 i) := rd116 S q
theorem wi116 (S : Sh h) (q : 0 ≤ i ∧ i < 20) : @wti h 116 100 i v ⟨km⟩ = km (ms h 116 i v) := wt116 S q
theorem ri117 (S : Sh h) (q : 0 ≤ i ∧ i < 108) : @rdi h 117 100 i ⟨k⟩ = k (mv h 117 i) := rd117 S q
theorem wi117 (S : Sh h) (q : 0 ≤ i ∧ i < 108) : @wti h 117 100 i v ⟨km⟩ = km (ms h 117 i v) := wt117 S q
theorem ri118 (S : Sh h) (q : 0 ≤ i ∧ i < 12) : @rdi h 118 100 i ⟨k⟩ = k (mv h 118 i) := rd118 S q
theorem wi118 (S : Sh h) (q : 0 ≤ i ∧ i < 12) : @wti h 118 100 i v ⟨km⟩ = km (ms h 118 i v) := wt118 S q
theorem ri119 (S : Sh h) (q : 0 ≤ i ∧ i < 40) : @rdi h 119 100 i ⟨k⟩ = k (mv h 119 i) := rd119 S q
theorem wi119 (S : Sh h) (q : 0 ≤ i ∧ i < 40) : @wti h 119 100 i v ⟨km⟩ = km (ms h 119 i v) := wt119 S q
theorem ri120 (S : Sh h) (q : 0 ≤ i ∧ i < 40) : @rdi h 120 100 i ⟨k⟩ = k (mv h 120 i) := rd120 S q
theorem wi120 (S : Sh h) (q : 0 ≤ i ∧ i < 40) : @wti h 120 100 i v ⟨km⟩ = km (ms h 120 i v) := wt120 S q
theorem ri121 (S : Sh h) (q : 0 ≤ i ∧ i < 40) : @rdi h 121 100 i ⟨k⟩ = k (mv h 121 i) := rd121 S q
theorem wi121 (S : Sh h) (q : 0 ≤ i ∧ i < 40) : @wti h 121 100 i v ⟨km⟩ = km (ms h 121 i v) := wt121 S q
theorem ri122 (S : Sh h) (q : 0 ≤ i ∧ i < 40) : @rdi h 122 100 i ⟨k⟩ = k (mv h 122 i) := rd122 S q
theorem wi122 (S : Sh h) (q : 0 ≤ i ∧ i < 40) : @wti h 122 100 i v ⟨km⟩ = km (ms h 122 i v) := wt122 S q
theorem ri123 (S : Sh h) (q : 0 ≤ i ∧ i < 40) : @rdi h 123 100 i ⟨k⟩ = k (mv h 123 i) := rd123 S q
theorem wi123 (S : Sh h) (q : 0 ≤ i ∧ i < 40) : @wti h 123 100 i v ⟨km⟩ = km (ms h 123 i v) := wt123 S q
theorem pi124_2 (S : Sh h) : @pfi h 124 6 2 v ⟨km⟩ = km (ms h 124 2 v) := p124_2 S
theorem ri125 (S : Sh h) (q : 0 ≤ i ∧ i < 7) : @rdi h 125 100 i ⟨k⟩ = k (mv h 125 i) := rd125 S q
theorem wi125 (S : Sh h) (q : 0 ≤ i ∧ i < 7) : @wti h 125 100 i v ⟨km⟩ = km (ms h 125 i v) := wt125 S q
theorem ri126 (S : Sh h) (q : 0 ≤ i ∧ i < 7) : @rdi h 126 100 i ⟨k⟩ = k (mv h 126 i) := rd126 S q
theorem wi126 (S : Sh h) (q : 0 ≤ i ∧ i < 7) : @wti h 126 100 i v ⟨km⟩ = km (ms h 126 i v) := wt126 S q
theorem ri127 (S : Sh h) (q : 0 ≤ i ∧ i < 7) : @rdi h 127 100 i ⟨k⟩ = k (mv h 127 i) := rd127 S q
theorem wi127 (S : Sh h) (q : 0 ≤ i ∧ i < 7) : @wti h 127 100 i v ⟨km⟩ = km (ms h 127 i v) := wt127 S q
theorem ri128 (S : Sh h) (q : 0 ≤ i ∧ i < 128) : @rdi h 128 100 i ⟨k⟩ = k (mv h 128 i) := rd128 S q
theorem wi128 (S : Sh h) (q : 0 ≤ i ∧ i < 128) : @wti h 128 100 i v ⟨km⟩ = km (ms h 128 i v) := wt128 S q
theorem ri129 (S : Sh h) (q : 0 ≤ i ∧ i < 4) : @rdi h 129 106 i ⟨k⟩ = k (mv h 129 i) := rd129 S q
theorem ri130 (S : Sh h) (q : 0 ≤ i ∧ i < 140) : @rdi h 130 102 i ⟨k⟩ = k (mv h 130 i) := rd130 S q
theorem wi130 (S : Sh h) (q : 0 ≤ i ∧ i < 140) : @wti h 130 102 i v ⟨km⟩ = km (ms h 130 i v) := wt130 S q
theorem ri131 (S : Sh h) (q : 0 ≤ i ∧ i < 9) : @rdi h 131 104 i ⟨k⟩ = k (mv h 131 i) := rd131 S q
theorem wi131 (S : Sh h) (q : 0 ≤ i ∧ i < 9) : @wti h 131 104 i v ⟨km⟩ = km (ms h 131 i v) := wt131 S q
theorem pi132_1 (S : Sh h) : @pfi h 132 9 1 v ⟨km⟩ = km (ms h 132 1 v) := p132_1 S
theorem pi132_2 (S : Sh h) : @pfi h 132 9 2 v ⟨km⟩ = km (ms h 132 2 v) := p132_2 S
theorem ri133 (S : Sh h) (q : 0 ≤ i ∧ i < 40) : @rdi h 133 100 i ⟨k⟩ = k (mv h 133 i) := rd133 S q
theorem wi133 (S : Sh h) (q : 0 ≤ i ∧ i < 40) : @wti h 133 100 i v ⟨km⟩ = km (ms h 133 i v) := wt133 S q
theorem pi134_1 (S : Sh h) : @pfi h 134 9 1 v ⟨km⟩ = km (ms h 134 1 v) := p134_1 S
theorem pi134_2 (S : Sh h) : @pfi h 134 9 2 v ⟨km⟩ = km (ms h 134 2 v) := p134_2 S
theorem ri135 (S : Sh h) (q : 0 ≤ i ∧ i < 40) : @rdi h 135 100 i ⟨k⟩ = k (mv h 135 i) := rd135 S q
theorem wi135 (S : Sh h) (q : 0 ≤ i ∧ i < 40) : @wti h 135 100 i v ⟨km⟩ = km (ms h 135 i v) := wt135 S q
theorem pi136_1 (S : Sh h) : @pfi h 136 9 1 v ⟨km⟩ = km (ms h 136 1 v) := p136_1 S
theorem pi136_2 (S : Sh h) : @pfi h 136 9 2 v ⟨km⟩ = km (ms h 136 2 v) := p136_2 S
theorem ri137 (S : Sh h) (q : 0 ≤ i ∧ i < 40) : @rdi h 137 100 i ⟨k⟩ = k (mv h 137 i) := rd137 S q
theorem wi137 (S : Sh h) (q : 0 ≤ i ∧ i < 40) : @wti h 137 100 i v ⟨km⟩ = km (ms h 137 i v) := wt137 S q
theorem pi138_1 (S : Sh h) : @pfi h 138 9 1 v ⟨km⟩ = km (ms h 138 1 v) := p138_1 S
theorem pi138_2 (S : Sh h) : @pfi h 138 9 2 v ⟨km⟩ = km (ms h 138 2 v) := p138_2 S
theorem ri139 (S : Sh h) (q : 0 ≤ i ∧ i < 40) : @rdi h 139 100 i ⟨k⟩ = k (mv h 139 i) := rd139 S q
theorem wi139 (S : Sh h) (q : 0 ≤ i ∧ i < 40) : @wti h 139 100 i v ⟨km⟩ = km (ms h 139 i v) := wt139 S q
theorem pi140_7 (S : Sh h) : @pfi h 140 10 7 v ⟨km⟩ = km (ms h 140 7 v) := p140_7 S
theorem pi140_8 (S : Sh h) : @pfi h 140 10 8 v ⟨km⟩ = km (ms h 140 8 v) := p140_8 S
theorem pi140_9 (S : Sh h) : @pfi h 140 10 9 v ⟨km⟩ = km (ms h 140 9 v) := p140_9 S
theorem pi140_10 (S : Sh h) : @pfi h 140 10 10 v ⟨km⟩ = km (ms h 140 10 v) := p140_10 S
theorem pi141_5 (S : Sh h) : @pfi h 141 1 5 v ⟨km⟩ = km (ms h 141 5 v) := p141_5 S
theorem ri142 (S : Sh h) (q : 0 ≤ i ∧ i < 80) : @rdi h 142 100 i ⟨k⟩ = k (mv h 142 i) := rd142 S q
theorem wi142 (S : Sh h) (q : 0 ≤ i ∧ i < 80) : @wti h 142 100 i v ⟨km⟩ = km (ms h 142 i v) := wt142 S q
theorem ri143 (S : Sh h) (q : 0 ≤ i ∧ i < 80) : @rdi h 143 100 i ⟨k⟩ = k (mv h 143 i) := rd143 S q
theorem wi143 (S : Sh h) (q : 0 ≤ i ∧ i < 80) : @wti h 143 100 i v ⟨km⟩ = km (ms h 143 i v) := wt143 S q
theorem ri144 (S : Sh h) (q : 0 ≤ i ∧ i < 80) : @rdi h 144 100 i ⟨k⟩ = k (mv h 144 i) := rd144 S q
theorem wi144 (S : Sh h) (q : 0 ≤ i ∧ i < 80) : @wti h 144 100 i v ⟨km⟩ = km (ms h 144 i v) := wt144 S q
theorem ri145 (S : Sh h) (q : 0 ≤ i ∧ i < 6) : @rdi h 145 100 i ⟨k⟩ = k (mv h 145 i) := rd145 S q
theorem wi145 (S : Sh h) (q : 0 ≤ i ∧ i < 6) : @wti h 145 100 i v ⟨km⟩ = km (ms h 145 i v) := wt145 S q
theorem ri146 (S : Sh h) (q : 0 ≤ i ∧ i < 6) : @rdi h 146 100 i ⟨k⟩ = k (mv h 146 i) := rd146 S q
theorem wi146 (S : Sh h) (q : 0 ≤ i ∧ i < 6) : @wti h 146 100 i v ⟨km⟩ = km (ms h 146 i v) := wt146 S q
theorem pi147_6 (S : Sh h) : @pfi h 147 5 6 v ⟨km⟩ = km (ms h 147 6 v) := p147_6 S
theorem pi147_7 (S : Sh h) : @pfi h 147 5 7 v ⟨km⟩ = km (ms h 147 7 v) := p147_7 S
theorem pi147_8 (S : Sh h) : @pfi h 147 5 8 v ⟨km⟩ = km (ms h 147 8 v) := p147_8 S
theorem pi147_9 (S : Sh h) : @pfi h 147 5 9 v ⟨km⟩ = km (ms h 147 9 v) := p147_9 S
theorem ri148 (S : Sh h) (q : 0 ≤ i ∧ i < 60) : @rdi h 148 105 i ⟨k⟩ = k (mv h 148 i) := rd148 S q
theorem wi148 (S : Sh h) (q : 0 ≤ i ∧ i < 60) : @wti h 148 105 i v ⟨km⟩ = km (ms h 148 i v) := wt148 S q
theorem ri149 (S : Sh h) (q : 0 ≤ i ∧ i < 60) : @rdi h 149 101 i ⟨k⟩ = k (mv h 149 i) := rd149 S q
theorem wi149 (S : Sh h) (q : 0 ≤ i ∧ i < 60) : @wti h 149 101 i v ⟨km⟩ = km (ms h 149 i v) := wt149 S q
theorem ri150 (S : Sh h) (q : 0 ≤ i ∧ i < 60) : @rdi h 150 100 i ⟨k⟩ = k (mv h 150 i) := rd150 S q
theorem wi150 (S : Sh h) (q : 0 ≤ i ∧ i < 60) : @wti h 150 100 i v ⟨km⟩ = km (ms h 150 i v) := wt150 S q
theorem ri151 (S : Sh h) (q : 0 ≤ i ∧ i < 60) : @rdi h 151 100 i ⟨k⟩ = k (mv h 151 i) := rd151 S q
theorem wi151 (S : Sh h) (q : 0 ≤ i ∧ i < 60) : @wti h 151 100 i v ⟨km⟩ = km (ms h 151 i v) := wt151 S q
theorem ri152 (S : Sh h) (q : 0 ≤ i ∧ i < 60) : @rdi h 152 100 i ⟨k⟩ = k (mv h 152 i) := rd152 S q
theorem wi152 (S : Sh h) (q : 0 ≤ i ∧ i < 60) : @wti h 152 100 i v ⟨km⟩ = km (ms h 152 i v) := wt152 S q
theorem ri153 (S : Sh h) (q : 0 ≤ i ∧ i < 60) : @rdi h 153 100 i ⟨k⟩ = k (mv h 153 i) := rd153 S q
theorem wi153 (S : Sh h) (q : 0 ≤ i ∧ i < 60) : @wti h 153 100 i v ⟨km⟩ = km (ms h 153 i v) := wt153 S q
theorem pi154_8 (S : Sh h) : @pfi h 154 8 8 v ⟨km⟩ = km (ms h 154 8 v) := p154_8 S
theorem ri155 (S : Sh h) (q : 0 ≤ i ∧ i < 20) : @rdi h 155 100 i ⟨k⟩ = k (mv h 155 i) := rd155 S q
theorem wi155 (S : Sh h) (q : 0 ≤ i ∧ i < 20) : @wti h 155 100 i v ⟨km⟩ = km (ms h 155 i v) := wt155 S q
theorem ri156 (S : Sh h) (q : 0 ≤ i ∧ i < 108) : @rdi h 156 100 i ⟨k⟩ = k (mv h 156 i) := rd156 S q
theorem wi156 (S : Sh h) (q : 0 ≤ i ∧ i < 108) : @wti h 156 100 i v ⟨km⟩ = km (ms h 156 i v) := wt156 S q
theorem ri157 (S : Sh h) (q : 0 ≤ i ∧ i < 12) : @rdi h 157 100 i ⟨k⟩ = k (mv h 157 i) := rd157 S q
theorem wi157 (S : Sh h) (q : 0 ≤ i ∧ i < 12) : @wti h 157 100 i v ⟨km⟩ = km (ms h 157 i v) := wt157 S q
theorem ri158 (S : Sh h) (q : 0 ≤ i ∧ i < 40) : @rdi h 158 100 i ⟨k⟩ = k (mv h 158 i) := rd158 S q
theorem wi158 (S : Sh h) (q : 0 ≤ i ∧ i < 40) : @wti h 158 100 i v ⟨km⟩ = km (ms h 158 i v) := wt158 S q
theorem ri159 (S : Sh h) (q : 0 ≤ i ∧ i < 40) : @rdi h 159 100 i ⟨k⟩ = k (mv h 159 i) := rd159 S q
theorem wi159 (S : Sh h) (q : 0 ≤ i ∧ i < 40) : @wti h 159 100 i v ⟨km⟩ = km (ms h 159 i v) := wt159 S q
theorem ri160 (S : Sh h) (q : 0 ≤ i ∧ i < 40) : @rdi h 160 100 i ⟨k⟩ = k (mv h 160 i) := rd160 S q
theorem wi160 (S : Sh h) (q : 0 ≤ i ∧ i < 40) : @wti h 160 100 i v ⟨km⟩ = km (ms h 160 i v) := wt160 S q
theorem ri161 (S : Sh h) (q : 0 ≤ i ∧ i < 40) : @rdi h 161 100 i ⟨k⟩ = k (mv h 161 i) := rd161 S q
theorem wi161 (S : Sh h) (q : 0 ≤ i ∧ i < 40) : @wti h 161 100 i v ⟨km⟩ = km (ms h 161 i v) := wt161 S q
theorem ri162 (S : Sh h) (q : 0 ≤ i ∧ i < 40) : @rdi h 162 100 i ⟨k⟩ = k (mv h 162 i) := rd162 S q
theorem wi162 (S : Sh h) (q : 0 ≤ i ∧ i < 40) : @wti h 162 100 i v ⟨km⟩ = km (ms h 162 i v) := wt162 S q
theorem pi163_2 (S : Sh h) : @pfi h 163 6 2 v ⟨km⟩ = km (ms h 163 2 v) := p163_2 S
theorem ri164 (S : Sh h) (q : 0 ≤ i ∧ i < 7) : @rdi h 164 100 i ⟨k⟩ = k (mv h 164 i) := rd164 S q
theorem wi164 (S : Sh h) (q : 0 ≤ i ∧ i < 7) : @wti h 164 100 i v ⟨km⟩ = km (ms h 164 i v) := wt164 S q
theorem ri165 (S : Sh h) (q : 0 ≤ i ∧ i < 7) : @rdi h 165 100 i ⟨k⟩ = k (mv h 165 i) := rd165 S q
theorem wi165 (S : Sh h) (q : 0 ≤ i ∧ i < 7) : @wti h 165 100 i v ⟨km⟩ = km (ms h 165 i v) := wt165 S q
theorem ri166 (S : Sh h) (q : 0 ≤ i ∧ i < 7) : @rdi h 166 100 i ⟨k⟩ = k (mv h 166 i) := rd166 S q
theorem wi166 (S : Sh h) (q : 0 ≤ i ∧ i < 7) : @wti h 166 100 i v ⟨km⟩ = km (ms h 166 i v) := wt166 S q
theorem ri167 (S : Sh h) (q : 0 ≤ i ∧ i < 128) : @rdi h 167 100 i ⟨k⟩ = k (mv h 167 i) := rd167 S q
theorem wi167 (S : Sh h) (q : 0 ≤ i ∧ i < 128) : @wti h 167 100 i v ⟨km⟩ = km (ms h 167 i v) := wt167 S q
theorem ri168 (S : Sh h) (q : 0 ≤ i ∧ i < 4) : @rdi h 168 106 i ⟨k⟩ = k (mv h 168 i) := rd168 S q
theorem ri169 (S : Sh h) (q : 0 ≤ i ∧ i < 140) : @rdi h 169 102 i ⟨k⟩ = k (mv h 169 i) := rd169 S q
theorem wi169 (S : Sh h) (q : 0 ≤ i ∧ i < 140) : @wti h 169 102 i v ⟨km⟩ = km (ms h 169 i v) := wt169 S q
theorem ri170 (S : Sh h) (q : 0 ≤ i ∧ i < 9) : @rdi h 170 104 i ⟨k⟩ = k (mv h 170 i) := rd170 S q
theorem wi170 (S : Sh h) (q : 0 ≤ i ∧ i < 9) : @wti h 170 104 i v ⟨km⟩ = km (ms h 170 i v) := wt170 S q
theorem pi171_1 (S : Sh h) : @pfi h 171 9 1 v ⟨km⟩ = km (ms h 171 1 v) := p171_1 S
theorem pi171_2 (S : Sh h) : @pfi h 171 9 2 v ⟨km⟩ = km (ms h 171 2 v) := p171_2 S
theorem ri172 (S : Sh h) (q : 0 ≤ i ∧ i < 40) : @rdi h 172 100 i ⟨k⟩ = k (mv h 172 i) := rd172 S q
theorem wi172 (S : Sh h) (q : 0 ≤ i ∧ i < 40) : @wti h 172 100 i v ⟨km⟩ = km (ms h 172 i v) := wt172 S q
theorem pi173_1 (S : Sh h) : @pfi h 173 9 1 v ⟨km⟩ = km (ms h 173 1 v) := p173_1 S
theorem pi173_2 (S : Sh h) : @pfi h 173 9 2 v ⟨km⟩ = km (ms h 173 2 v) := p173_2 S
theorem ri174 (S : Sh h) (q : 0 ≤ i ∧ i < 40) : @rdi h 174 100 i ⟨k⟩ = k (mv h 174 i) := rd174 S q
theorem wi174 (S : Sh h) (q : 0 ≤ i ∧ i < 40) : @wti h 174 100 i v ⟨km⟩ = km (ms h 174 i v) := wt174 S q
theorem pi175_1 (S : Sh h) : @pfi h 175 9 1 v ⟨km⟩ = km (ms h 175 1 v) := p175_1 S
theorem pi175_2 (S : Sh h) : @pfi h 175 9 2 v ⟨km⟩ = km (ms h 175 2 v) := p175_2 S
theorem ri176 (S : Sh h) (q : 0 ≤ i ∧ i < 40) : @rdi h 176 100 i ⟨k⟩ = k (mv h 176 i) := rd176 S q
theorem wi176 (S : Sh h) (q : 0 ≤ i ∧ i < 40) : @wti h 176 100 i v ⟨km⟩ = km (ms h 176 i v) := wt176 S q
theorem pi177_1 (S : Sh h) : @pfi h 177 9 1 v ⟨km⟩ = km (ms h 177 1 v) := p177_1 S
theorem pi177_2 (S : Sh h) : @pfi h 177 9 2 v ⟨km⟩ = km (ms h 177 2 v) := p177_2 S
theorem ri178 (S : Sh h) (q : 0 ≤ i ∧ i < 40) : @rdi h 178 100 i ⟨k⟩ = k (mv h 178 i) := rd178 S q
theorem wi178 (S : Sh h) (q : 0 ≤ i ∧ i < 40) : @wti h 178 100 i v ⟨km⟩ = km (ms h 178 i v) := wt178 S q
theorem ri179 (S : Sh h) (q : 0 ≤ i ∧ i < 1000) : @rdi h 179 107 i ⟨k⟩ = k (mv h 179 i) := rd179 S q
theorem wi179 (S : Sh h) (q : 0 ≤ i ∧ i < 1000) : @wti h 179 107 i v ⟨km⟩ = km (ms h 179 i v) := wt179 S q
theorem pi180_1 (S : Sh h) : @pfi h 180 7 1 v ⟨km⟩ = km (ms h 180 1 v) := p180_1 S
theorem pi180_2 (S : Sh h) : @pfi h 180 7 2 v ⟨km⟩ = km (ms h 180 2 v) := p180_2 S
theorem pi180_5 (S : Sh h) : @pfi h 180 7 5 v ⟨km⟩ = km (ms h 180 5 v) := p180_5 S
theorem pi180_6 (S : Sh h) : @pfi h 180 7 6 v ⟨km⟩ = km (ms h 180 6 v) := p180_6 S
theorem pi180_7 (S : Sh h) : @pfi h 180 7 7 v ⟨km⟩ = km (ms h 180 7 v) := p180_7 S
theorem pi180_8 (S : Sh h) : @pfi h 180 7 8 v ⟨km⟩ = km (ms h 180 8 v) := p180_8 S
theorem ri181 (S : Sh h) (q : 0 ≤ i ∧ i < 80) : @rdi h 181 100 i ⟨k⟩ = k (mv h 181 i) := rd181 S q
theorem wi181 (S : Sh h) (q : 0 ≤ i ∧ i < 80) : @wti h 181 100 i v ⟨km⟩ = km (ms h 181 i v) := wt181 S q
theorem ri182 (S : Sh h) (q : 0 ≤ i ∧ i < 80) : @rdi h 182 100 i ⟨k⟩ = k (mv h 182 i) := rd182 S q
theorem wi182 (S : Sh h) (q : 0 ≤ i ∧ i < 80) : @wti h 182 100 i v ⟨km⟩ = km (ms h 182 i v) := wt182 S q
theorem ri183 (S : Sh h) (q : 0 ≤ i ∧ i < 80) : @rdi h 183 103 i ⟨k⟩ = k (mv h 183 i) := rd183 S q
theorem wi183 (S : Sh h) (q : 0 ≤ i ∧ i < 80) : @wti h 183 103 i v ⟨km⟩ = km (ms h 183 i v) := wt183 S q
theorem pi184_6 (S : Sh h) : @pfi h 184 0 6 v ⟨km⟩ = km (ms h 184 6 v) := p184_6 S
theorem ri185 (S : Sh h) (q : 0 ≤ i ∧ i < 96) : @rdi h 185 100 i ⟨k⟩ = k (mv h 185 i) := rd185 S q
theorem wi185 (S : Sh h) (q : 0 ≤ i ∧ i < 96) : @wti h 185 100 i v ⟨km⟩ = km (ms h 185 i v) := wt185 S q
theorem ri186 (S : Sh h) (q : 0 ≤ i ∧ i < 96) : @rdi h 186 100 i ⟨k⟩ = k (mv h 186 i) := rd186 S q
theorem wi186 (S : Sh h) (q : 0 ≤ i ∧ i < 96) : @wti h 186 100 i v ⟨km⟩ = km (ms h 186 i v) := wt186 S q
theorem ri187 (S : Sh h) (q : 0 ≤ i ∧ i < 96) : @rdi h 187 100 i ⟨k⟩ = k (mv h 187 i) := rd187 S q
theorem wi187 (S : Sh h) (q : 0 ≤ i ∧ i < 96) : @wti h 187 100 i v ⟨km⟩ = km (ms h 187 i v) := wt187 S q
theorem ri188 (S : Sh h) (q : 0 ≤ i ∧ i < 96) : @rdi h 188 100 i ⟨k⟩ = k (mv h 188 i) := rd188 S q
theorem wi188 (S : Sh h) (q : 0 ≤ i ∧ i < 96) : @wti h 188 100 i v ⟨km⟩ = km (ms h 188 i v) := wt188 S q
theorem ri189 (S : Sh h) (q : 0 ≤ i ∧ i < 20) : @rdi h 189 100 i ⟨k⟩ = k (mv h 189 i) := rd189 S q
theorem wi189 (S : Sh h) (q : 0 ≤ i ∧ i < 20) : @wti h 189 100 i v ⟨km⟩ = km (ms h 189 i v) := wt189 S q
theorem ri190 (S : Sh h) (q : 0 ≤ i ∧ i < 20) : @rdi h 190 100 i ⟨k⟩ = k (mv h 190 i) := rd190 S q
theorem wi190 (S : Sh h) (q : 0 ≤ i ∧ i < 20) : @wti h 190 100 i v ⟨km⟩ = km (ms h 190 i v) := wt190 S q
theorem pi191_5 (S : Sh h) : @pfi h 191 2 5 v ⟨km⟩ = km (ms h 191 5 v) := p191_5 S
theorem pi191_6 (S : Sh h) : @pfi h 191 2 6 v ⟨km⟩ = km (ms h 191 6 v) := p191_6 S
theorem ri192 (S : Sh h) (q : 0 ≤ i ∧ i < 10) : @rdi h 192 100 i ⟨k⟩ = k (mv h 192 i) := rd192 S q
theorem wi192 (S : Sh h) (q : 0 ≤ i ∧ i < 10) : @wti h 192 100 i v ⟨km⟩ = km (ms h 192 i v) := wt192 S q
theorem ri193 (S : Sh h) (q : 0 ≤ i ∧ i < 10) : @rdi h 193 100 i ⟨k⟩ = k (mv h 193 i) := rd193 S q
theorem wi193 (S : Sh h) (q : 0 ≤ i ∧ i < 10) : @wti h 193 100 i v ⟨km⟩ = km (ms h 193 i v) := wt193 S q
theorem ri194 (S : Sh h) (q : 0 ≤ i ∧ i < 10) : @rdi h 194 100 i ⟨k⟩ = k (mv h 194 i) := rd194 S q
theorem wi194 (S : Sh h) (q : 0 ≤ i ∧ i < 10) : @wti h 194 100 i v ⟨km⟩ = km (ms h 194 i v) := wt194 S q
theorem ri195 (S : Sh h) (q : 0 ≤ i ∧ i < 10) : @rdi h 195 100 i ⟨k⟩ = k (mv h 195 i) := rd195 S q
theorem wi195 (S : Sh h) (q : 0 ≤ i ∧ i < 10) : @wti h 195 100 i v ⟨km⟩ = km (ms h 195 i v) := wt195 S q
theorem ri196 (S : Sh h) (q : 0 ≤ i ∧ i < 10) : @rdi h 196 100 i ⟨k⟩ = k (mv h 196 i) := rd196 S q
theorem wi196 (S : Sh h) (q : 0 ≤ i ∧ i < 10) : @wti h 196 100 i v ⟨km⟩ = km (ms h 196 i v) := wt196 S q
theorem pi197_0 (S : Sh h) : @pfi h 197 12 0 v ⟨km⟩ = km (ms h 197 0 v) := p197_0 S
theorem pi197_3 (S : Sh h) : @pfi h 197 12 3 v ⟨km⟩ = km (ms h 197 3 v) := p197_3 S
theorem pi197_4 (S : Sh h) : @pfi h 197 12 4 v ⟨km⟩ = km (ms h 197 4 v) := p197_4 S
theorem pi197_5 (S : Sh h) : @pfi h 197 12 5 v ⟨km⟩ = km (ms h 197 5 v) := p197_5 S
theorem pi197_6 (S : Sh h) : @pfi h 197 12 6 v ⟨km⟩ = km (ms h 197 6 v) := p197_6 S
theorem pi197_7 (S : Sh h) : @pfi h 197 12 7 v ⟨km⟩ = km (ms h 197 7 v) := p197_7 S
theorem pi197_13 (S : Sh h) : @pfi h 197 12 13 v ⟨km⟩ = km (ms h 197 13 v) := p197_13 S
theorem ri198 (S : Sh h) (q : 0 ≤ i ∧ i < 83840) : @rdi h 198 100 i ⟨k⟩ = k (mv h 198 i) := rd198 S q
theorem wi198 (S : Sh h) (q : 0 ≤ i ∧ i < 83840) : @wti h 198 100 i v ⟨km⟩ = km (ms h 198 i v) := wt198 S q
theorem ri199 (S : Sh h) (q : 0 ≤ i ∧ i < 83840) : @rdi h 199 100 i ⟨k⟩ = k (mv h 199 i) := rd199 S q
theorem wi199 (S : Sh h) (q : 0 ≤ i ∧ i < 83840) : @wti h 199 100 i v ⟨km⟩ = km (ms h 199 i v) := wt199 S q
theorem ri200 (S : Sh h) (q : 0 ≤ i ∧ i < 6) : @rdi h 200 100 i ⟨k⟩ = k (mv h 200 i) := rd200 S q
theorem wi200 (S : Sh h) (q : 0 ≤ i ∧ i < 6) : @wti h 200 100 i v ⟨km⟩ = km (ms h 200 i v) := wt200 S q
theorem ri201 (S : Sh h) (q : 0 ≤ i ∧ i < 80) : @rdi h 201 100 i ⟨k⟩ = k (mv h 201 i) := rd201 S q
theorem wi201 (S : Sh h) (q : 0 ≤ i ∧ i < 80) : @wti h 201 100 i v ⟨km⟩ = km (ms h 201 i v) := wt201 S q
theorem ri202 (S : Sh h) (q : 0 ≤ i ∧ i < 80) : @rdi h 202 100 i ⟨k⟩ = k (mv h 202 i) := rd202 S q
theorem wi202 (S : Sh h) (q : 0 ≤ i ∧ i < 80) : @wti h 202 100 i v ⟨km⟩ = km (ms h 202 i v) := wt202 S q
theorem ri203 (S : Sh h) (q : 0 ≤ i ∧ i < 7) : @rdi h 203 100 i ⟨k⟩ = k (mv h 203 i) := rd203 S q
theorem wi203 (S : Sh h) (q : 0 ≤ i ∧ i < 7) : @wti h 203 100 i v ⟨km⟩ = km (ms h 203 i v) := wt203 S q
theorem ri204 (S : Sh h) (q : 0 ≤ i ∧ i < 7) : @rdi h 204 100 i ⟨k⟩ = k (mv h 204 i) := rd204 S q
theorem wi204 (S : Sh h) (q : 0 ≤ i ∧ i < 7) : @wti h 204 100 i v ⟨km⟩ = km (ms h 204 i v) := wt204 S q
theorem ri205 (S : Sh h) (q : 0 ≤ i ∧ i < 400) : @rdi h 205 101 i ⟨k⟩ = k (mv h 205 i) := rd205 S q
theorem wi205 (S : Sh h) (q : 0 ≤ i ∧ i < 400) : @wti h 205 101 i v ⟨km⟩ = km (ms h 205 i v) := wt205 S q
theorem ri206 (S : Sh h) (q : 0 ≤ i ∧ i < 400) : @rdi h 206 101 i ⟨k⟩ = k (mv h 206 i) := rd206 S q
theorem wi206 (S : Sh h) (q : 0 ≤ i ∧ i < 400) : @wti h 206 101 i v ⟨km⟩ = km (ms h 206 i v) := wt206 S q
theorem ri207 (S : Sh h) (q : 0 ≤ i ∧ i < 400) : @rdi h 207 101 i ⟨k⟩ = k (mv h 207 i) := rd207 S q
theorem wi207 (S : Sh h) (q : 0 ≤ i ∧ i < 400) : @wti h 207 101 i v ⟨km⟩ = km (ms h 207 i v) := wt207 S q
theorem ri208 (S : Sh h) (q : 0 ≤ i ∧ i < 20) : @rdi h 208 101 i ⟨k⟩ = k (mv h 208 i) := rd208 S q
theorem wi208 (S : Sh h) (q : 0 ≤ i ∧ i < 20) : @wti h 208 101 i v ⟨km⟩ = km (ms h 208 i v) := wt208 S q
theorem ri209 (S : Sh h) (q : 0 ≤ i ∧ i < 20) : @rdi h 209 101 i ⟨k⟩ = k (mv h 209 i) := rd209 S q
theorem wi209 (S : Sh h) (q : 0 ≤ i ∧ i < 20) : @wti h 209 101 i v ⟨km⟩ = km (ms h 209 i v) := wt209 S q
theorem ri210 (S : Sh h) (q : 0 ≤ i ∧ i < 60) : @rdi h 210 100 i ⟨k⟩ = k (mv h 210 i) := rd210 S q
theorem wi210 (S : Sh h) (q : 0 ≤ i ∧ i < 60) : @wti h 210 100 i v ⟨km⟩ = km (ms h 210 i v) := wt210 S q
theorem ri211 (S : Sh h) (q : 0 ≤ i ∧ i < 40) : @rdi h 211 100 i ⟨k⟩ = k (mv h 211 i) := rd211 S q
theorem wi211 (S : Sh h) (q : 0 ≤ i ∧ i < 40) : @wti h 211 100 i v ⟨km⟩ = km (ms h 211 i v) := wt211 S q
end HID
