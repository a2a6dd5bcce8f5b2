noncomputable def f_L_law_1923 (n : Nat) (rec18 : Int → MM → RR) (v0 v1 v2 v3 : Int) (h : MM) : RR :=
  lb (wr (v3 + 6)) fun x1 =>
  rec18 x1 h
noncomputable def f_L_law_1348 (n : Nat) (rec18 : Int → MM → RR) (v0 v1 v2 v3 s0 s1 s2 s3 s4 s5 s6 : Int) (h : MM) : RR :=
  gk h s1 12 <|
  bd (f_X12_ask n s1 s2 s3 s4 s5 s6 h) fun r1 h1 =>
  if s0 = r1 then
    f_L_law_1923 n rec18 v0 v1 v2 v3 h1
  else
  ck (isb 0) <|
  some (0, h1)
noncomputable def f_L_law_1311 (n : Nat) (rec18 : Int → MM → RR) (v0 v1 v2 v3 s0 s1 s2 s3 s4 s5 : Int) (h : MM) : RR :=
  gk h s0 11 <|
  bd (f_X11_ask n s0 s1 s2 s3 s4 s5 h) fun r1 h1 =>
  rd h1 v0 100 (wr (v3 + 1)) fun r2 =>
  rd h1 v0 100 (wr (v3 + 2)) fun r3 =>
  rd h1 v0 100 (wr (v3 + 3)) fun r4 =>
  rd h1 v0 100 (wr (v3 + 4)) fun r5 =>
  rd h1 v0 100 (wr (v3 + 5)) fun r6 =>
  if r6 = 0 then
    f_L_law_1348 n rec18 v0 v1 v2 v3 r1 v2 r2 r3 r4 r5 0 h1
  else
  f_L_law_1348 n rec18 v0 v1 v2 v3 r1 v2 r2 r3 r4 r5 1 h1
noncomputable def f_L_law_1081 (n : Nat) (rec18 : Int → MM → RR) (v0 v1 v2 v3 s0 s1 s2 s3 s4 : Int) (h : MM) : RR :=
  gk h s1 12 <|
  bd (f_X12_board n s1 s2 s3 s4 h) fun r1 h1 =>
  if s0 = r1 then
    f_L_law_1923 n rec18 v0 v1 v2 v3 h1
  else
  ck (isb 0) <|
  some (0, h1)
noncomputable def f_L_law_1054 (n : Nat) (rec18 : Int → MM → RR) (v0 v1 v2 v3 s0 s1 s2 s3 : Int) (h : MM) : RR :=
  gk h s0 11 <|
  bd (f_X11_board n s0 s1 s2 s3 h) fun r1 h1 =>
  rd h1 v0 100 (wr (v3 + 1)) fun r2 =>
  rd h1 v0 100 (wr (v3 + 2)) fun r3 =>
  rd h1 v0 100 (wr (v3 + 3)) fun r4 =>
  if r4 = 0 then
    f_L_law_1081 n rec18 v0 v1 v2 v3 r1 v2 r2 r3 0 h1
  else
  f_L_law_1081 n rec18 v0 v1 v2 v3 r1 v2 r2 r3 1 h1
noncomputable def f_L_law_18b (n : Nat) (rec18 : Int → MM → RR) (v0 v1 v2 v3 : Int) (h : MM) : RR :=
  al h v0 100 fun r1 =>
  if wr (r1 - 6) < v3 then
    ck (isb 1) <|
    some (1, h)
  else
  rd h v0 100 v3 fun r4 =>
  if ban r4 63 = 0 then
    rd h v0 100 (wr (v3 + 1)) fun r6 =>
    rd h v0 100 (wr (v3 + 2)) fun r7 =>
    rd h v0 100 (wr (v3 + 3)) fun r8 =>
    gk h v1 11 <|
    bd (f_X11_land n v1 r6 r7 r8 h) fun r9 h9 =>
    rd h9 v0 100 (wr (v3 + 1)) fun r10 =>
    rd h9 v0 100 (wr (v3 + 2)) fun r11 =>
    rd h9 v0 100 (wr (v3 + 3)) fun r12 =>
    gk h9 v2 12 <|
    bd (f_X12_land n v2 r10 r11 r12 h9) fun r13 h13 =>
    if r9 = r13 then
      f_L_law_1923 n rec18 v0 v1 v2 v3 h13
    else
    ck (isb 0) <|
    some (0, h13)
  else
  if ban r4 63 = 1 then
    rd h v0 100 (wr (v3 + 1)) fun r17 =>
    rd h v0 100 (wr (v3 + 2)) fun r18 =>
    gk h v1 11 <|
    bd (f_X11_town n v1 r17 r18 h) fun r19 h19 =>
    rd h19 v0 100 (wr (v3 + 1)) fun r20 =>
    rd h19 v0 100 (wr (v3 + 2)) fun r21 =>
    gk h19 v2 12 <|
    bd (f_X12_town n v2 r20 r21 h19) fun r22 h22 =>
    if r19 = r22 then
      f_L_law_1923 n rec18 v0 v1 v2 v3 h22
    else
    ck (isb 0) <|
    some (0, h22)
  else
  if ban r4 63 = 2 then
    rd h v0 100 (wr (v3 + 1)) fun r26 =>
    rd h v0 100 (wr (v3 + 2)) fun r27 =>
    gk h v1 11 <|
    bd (f_X11_coin n v1 r26 r27 h) fun r28 h28 =>
    rd h28 v0 100 (wr (v3 + 1)) fun r29 =>
    rd h28 v0 100 (wr (v3 + 2)) fun r30 =>
    gk h28 v2 12 <|
    bd (f_X12_coin n v2 r29 r30 h28) fun r31 h31 =>
    if r28 = r31 then
      f_L_law_1923 n rec18 v0 v1 v2 v3 h31
    else
    ck (isb 0) <|
    some (0, h31)
  else
  if ban r4 63 = 3 then
    rd h v0 100 (wr (v3 + 1)) fun r35 =>
    gk h v1 11 <|
    bd (f_X11_man n v1 r35 h) fun r36 h36 =>
    rd h36 v0 100 (wr (v3 + 1)) fun r37 =>
    gk h36 v2 12 <|
    bd (f_X12_man n v2 r37 h36) fun r38 h38 =>
    if r36 = r38 then
      f_L_law_1923 n rec18 v0 v1 v2 v3 h38
    else
    ck (isb 0) <|
    some (0, h38)
  else
  if ban r4 63 = 4 then
    rd h v0 100 (wr (v3 + 1)) fun r42 =>
    rd h v0 100 (wr (v3 + 2)) fun r43 =>
    rd h v0 100 (wr (v3 + 3)) fun r44 =>
    gk h v1 11 <|
    bd (f_X11_feed n v1 (lor (lsl r42 32) (lan r43 4294967295)) r44 h) fun r45 h45 =>
    rd h45 v0 100 (wr (v3 + 1)) fun r46 =>
    rd h45 v0 100 (wr (v3 + 2)) fun r47 =>
    rd h45 v0 100 (wr (v3 + 3)) fun r48 =>
    gk h45 v2 12 <|
    bd (f_X12_feed n v2 (lor (lsl r46 32) (lan r47 4294967295)) r48 h45) fun r49 h49 =>
    if r45 = r49 then
      f_L_law_1923 n rec18 v0 v1 v2 v3 h49
    else
    ck (isb 0) <|
    some (0, h49)
  else
  if ban r4 63 = 5 then
    rd h v0 100 (wr (v3 + 1)) fun r53 =>
    gk h v1 11 <|
    bd (f_X11_text n v1 r53 h) fun r54 h54 =>
    rd h54 v0 100 (wr (v3 + 1)) fun r55 =>
    gk h54 v2 12 <|
    bd (f_X12_text n v2 r55 h54) fun r56 h56 =>
    if r54 = r56 then
      f_L_law_1923 n rec18 v0 v1 v2 v3 h56
    else
    ck (isb 0) <|
    some (0, h56)
  else
  if ban r4 63 = 6 then
    rd h v0 100 (wr (v3 + 1)) fun r60 =>
    rd h v0 100 (wr (v3 + 2)) fun r61 =>
    gk h v1 11 <|
    bd (f_X11_force n v1 r60 r61 h) fun r62 h62 =>
    rd h62 v0 100 (wr (v3 + 1)) fun r63 =>
    rd h62 v0 100 (wr (v3 + 2)) fun r64 =>
    gk h62 v2 12 <|
    bd (f_X12_force n v2 r63 r64 h62) fun r65 h65 =>
    if r62 = r65 then
      f_L_law_1923 n rec18 v0 v1 v2 v3 h65
    else
    ck (isb 0) <|
    some (0, h65)
  else
  if ban r4 63 = 7 then
    rd h v0 100 (wr (v3 + 1)) fun r69 =>
    rd h v0 100 (wr (v3 + 2)) fun r70 =>
    gk h v1 11 <|
    bd (f_X11_why n v1 r69 r70 h) fun r71 h71 =>
    rd h71 v0 100 (wr (v3 + 1)) fun r72 =>
    rd h71 v0 100 (wr (v3 + 2)) fun r73 =>
    gk h71 v2 12 <|
    bd (f_X12_why n v2 r72 r73 h71) fun r74 h74 =>
    if r71 = r74 then
      f_L_law_1923 n rec18 v0 v1 v2 v3 h74
    else
    ck (isb 0) <|
    some (0, h74)
  else
  if ban r4 63 = 8 then
    rd h v0 100 (wr (v3 + 1)) fun r78 =>
    rd h v0 100 (wr (v3 + 2)) fun r79 =>
    rd h v0 100 (wr (v3 + 3)) fun r80 =>
    rd h v0 100 (wr (v3 + 4)) fun r81 =>
    gk h v1 11 <|
    bd (f_X11_scheme n v1 r78 r79 r80 r81 h) fun r82 h82 =>
    rd h82 v0 100 (wr (v3 + 1)) fun r83 =>
    rd h82 v0 100 (wr (v3 + 2)) fun r84 =>
    rd h82 v0 100 (wr (v3 + 3)) fun r85 =>
    rd h82 v0 100 (wr (v3 + 4)) fun r86 =>
    gk h82 v2 12 <|
    bd (f_X12_scheme n v2 r83 r84 r85 r86 h82) fun r87 h87 =>
    if r82 = r87 then
      f_L_law_1923 n rec18 v0 v1 v2 v3 h87
    else
    ck (isb 0) <|
    some (0, h87)
  else
  if ban r4 63 = 9 then
    rd h v0 100 (wr (v3 + 1)) fun r91 =>
    rd h v0 100 (wr (v3 + 2)) fun r92 =>
    rd h v0 100 (wr (v3 + 3)) fun r93 =>
    gk h v1 11 <|
    bd (f_X11_chain n v1 r91 r92 r93 h) fun r94 h94 =>
    rd h94 v0 100 (wr (v3 + 1)) fun r95 =>
    rd h94 v0 100 (wr (v3 + 2)) fun r96 =>
    rd h94 v0 100 (wr (v3 + 3)) fun r97 =>
    gk h94 v2 12 <|
    bd (f_X12_chain n v2 r95 r96 r97 h94) fun r98 h98 =>
    if r94 = r98 then
      f_L_law_1923 n rec18 v0 v1 v2 v3 h98
    else
    ck (isb 0) <|
    some (0, h98)
  else
  if ban r4 63 = 10 then
    rd h v0 100 (wr (v3 + 1)) fun r102 =>
    rd h v0 100 (wr (v3 + 2)) fun r103 =>
    gk h v1 11 <|
    bd (f_X11_way n v1 r102 r103 h) fun r104 h104 =>
    rd h104 v0 100 (wr (v3 + 1)) fun r105 =>
    rd h104 v0 100 (wr (v3 + 2)) fun r106 =>
    gk h104 v2 12 <|
    bd (f_X12_way n v2 r105 r106 h104) fun r107 h107 =>
    if r104 = r107 then
      f_L_law_1923 n rec18 v0 v1 v2 v3 h107
    else
    ck (isb 0) <|
    some (0, h107)
  else
  if ban r4 63 = 11 then
    rd h v0 100 (wr (v3 + 1)) fun r111 =>
    rd h v0 100 (wr (v3 + 2)) fun r112 =>
    gk h v1 11 <|
    bd (f_X11_level n v1 r111 r112 h) fun r113 h113 =>
    rd h113 v0 100 (wr (v3 + 1)) fun r114 =>
    rd h113 v0 100 (wr (v3 + 2)) fun r115 =>
    gk h113 v2 12 <|
    bd (f_X12_level n v2 r114 r115 h113) fun r116 h116 =>
    if r113 = r116 then
      f_L_law_1923 n rec18 v0 v1 v2 v3 h116
    else
    ck (isb 0) <|
    some (0, h116)
  else
  if ban r4 63 = 12 then
    rd h v0 100 (wr (v3 + 1)) fun r120 =>
    rd h v0 100 (wr (v3 + 2)) fun r121 =>
    rd h v0 100 (wr (v3 + 3)) fun r122 =>
    gk h v1 11 <|
    bd (f_X11_close n v1 r120 r121 r122 h) fun r123 h123 =>
    rd h123 v0 100 (wr (v3 + 1)) fun r124 =>
    rd h123 v0 100 (wr (v3 + 2)) fun r125 =>
    rd h123 v0 100 (wr (v3 + 3)) fun r126 =>
    gk h123 v2 12 <|
    bd (f_X12_close n v2 r124 r125 r126 h123) fun r127 h127 =>
    if r123 = r127 then
      f_L_law_1923 n rec18 v0 v1 v2 v3 h127
    else
    ck (isb 0) <|
    some (0, h127)
  else
  if ban r4 63 = 13 then
    rd h v0 100 (wr (v3 + 1)) fun r131 =>
    rd h v0 100 (wr (v3 + 2)) fun r132 =>
    gk h v1 11 <|
    bd (f_X11_quarrel n v1 r131 r132 h) fun r133 h133 =>
    rd h133 v0 100 (wr (v3 + 1)) fun r134 =>
    rd h133 v0 100 (wr (v3 + 2)) fun r135 =>
    gk h133 v2 12 <|
    bd (f_X12_quarrel n v2 r134 r135 h133) fun r136 h136 =>
    if r133 = r136 then
      f_L_law_1923 n rec18 v0 v1 v2 v3 h136
    else
    ck (isb 0) <|
    some (0, h136)
  else
  if ban r4 63 = 14 then
    rd h v0 100 (wr (v3 + 1)) fun r140 =>
    rd h v0 100 (wr (v3 + 2)) fun r141 =>
    rd h v0 100 (wr (v3 + 3)) fun r142 =>
    rd h v0 100 (wr (v3 + 4)) fun r143 =>
    gk h v1 11 <|
    bd (f_X11_slope n v1 r140 r141 r142 r143 h) fun r144 h144 =>
    rd h144 v0 100 (wr (v3 + 1)) fun r145 =>
    rd h144 v0 100 (wr (v3 + 2)) fun r146 =>
    rd h144 v0 100 (wr (v3 + 3)) fun r147 =>
    rd h144 v0 100 (wr (v3 + 4)) fun r148 =>
    gk h144 v2 12 <|
    bd (f_X12_slope n v2 r145 r146 r147 r148 h144) fun r149 h149 =>
    if r144 = r149 then
      f_L_law_1923 n rec18 v0 v1 v2 v3 h149
    else
    ck (isb 0) <|
    some (0, h149)
  else
  if ban r4 63 = 15 then
    rd h v0 100 (wr (v3 + 1)) fun r153 =>
    rd h v0 100 (wr (v3 + 2)) fun r154 =>
    gk h v1 11 <|
    bd (f_X11_claim n v1 r153 r154 h) fun r155 h155 =>
    rd h155 v0 100 (wr (v3 + 1)) fun r156 =>
    rd h155 v0 100 (wr (v3 + 2)) fun r157 =>
    gk h155 v2 12 <|
    bd (f_X12_claim n v2 r156 r157 h155) fun r158 h158 =>
    if r155 = r158 then
      f_L_law_1923 n rec18 v0 v1 v2 v3 h158
    else
    ck (isb 0) <|
    some (0, h158)
  else
  if ban r4 63 = 16 then
    rd h v0 100 (wr (v3 + 1)) fun r162 =>
    gk h v1 11 <|
    bd (f_X11_bill n v1 r162 h) fun r163 h163 =>
    rd h163 v0 100 (wr (v3 + 1)) fun r164 =>
    gk h163 v2 12 <|
    bd (f_X12_bill n v2 r164 h163) fun r165 h165 =>
    if r163 = r165 then
      f_L_law_1923 n rec18 v0 v1 v2 v3 h165
    else
    ck (isb 0) <|
    some (0, h165)
  else
  if ban r4 63 = 17 then
    rd h v0 100 (wr (v3 + 1)) fun r169 =>
    rd h v0 100 (wr (v3 + 2)) fun r170 =>
    gk h v1 11 <|
    bd (f_X11_hear n v1 r169 r170 h) fun r171 h171 =>
    rd h171 v0 100 (wr (v3 + 1)) fun r172 =>
    rd h171 v0 100 (wr (v3 + 2)) fun r173 =>
    gk h171 v2 12 <|
    bd (f_X12_hear n v2 r172 r173 h171) fun r174 h174 =>
    if r171 = r174 then
      f_L_law_1923 n rec18 v0 v1 v2 v3 h174
    else
    ck (isb 0) <|
    some (0, h174)
  else
  if ban r4 63 = 18 then
    rd h v0 100 (wr (v3 + 1)) fun r178 =>
    rd h v0 100 (wr (v3 + 2)) fun r179 =>
    gk h v1 11 <|
    bd (f_X11_bar n v1 r178 r179 h) fun r180 h180 =>
    rd h180 v0 100 (wr (v3 + 1)) fun r181 =>
    rd h180 v0 100 (wr (v3 + 2)) fun r182 =>
    gk h180 v2 12 <|
    bd (f_X12_bar n v2 r181 r182 h180) fun r183 h183 =>
    if r180 = r183 then
      f_L_law_1923 n rec18 v0 v1 v2 v3 h183
    else
    ck (isb 0) <|
    some (0, h183)
  else
  if ban r4 63 = 19 then
    rd h v0 100 (wr (v3 + 1)) fun r187 =>
    gk h v1 11 <|
    bd (f_X11_grant n v1 r187 h) fun r188 h188 =>
    rd h188 v0 100 (wr (v3 + 1)) fun r189 =>
    gk h188 v2 12 <|
    bd (f_X12_grant n v2 r189 h188) fun r190 h190 =>
    if r188 = r190 then
      f_L_law_1923 n rec18 v0 v1 v2 v3 h190
    else
    ck (isb 0) <|
    some (0, h190)
  else
  if ban r4 63 = 20 then
    rd h v0 100 (wr (v3 + 1)) fun r194 =>
    rd h v0 100 (wr (v3 + 2)) fun r195 =>
    gk h v1 11 <|
    bd (f_X11_cast n v1 r194 r195 h) fun r196 h196 =>
    rd h196 v0 100 (wr (v3 + 1)) fun r197 =>
    rd h196 v0 100 (wr (v3 + 2)) fun r198 =>
    gk h196 v2 12 <|
    bd (f_X12_cast n v2 r197 r198 h196) fun r199 h199 =>
    if r196 = r199 then
      f_L_law_1923 n rec18 v0 v1 v2 v3 h199
    else
    ck (isb 0) <|
    some (0, h199)
  else
  if ban r4 63 = 21 then
    rd h v0 100 (wr (v3 + 1)) fun r203 =>
    rd h v0 100 (wr (v3 + 2)) fun r204 =>
    gk h v1 11 <|
    bd (f_X11_about n v1 r203 r204 h) fun r205 h205 =>
    rd h205 v0 100 (wr (v3 + 1)) fun r206 =>
    rd h205 v0 100 (wr (v3 + 2)) fun r207 =>
    gk h205 v2 12 <|
    bd (f_X12_about n v2 r206 r207 h205) fun r208 h208 =>
    if r205 = r208 then
      f_L_law_1923 n rec18 v0 v1 v2 v3 h208
    else
    ck (isb 0) <|
    some (0, h208)
  else
  if ban r4 63 = 22 then
    rd h v0 100 (wr (v3 + 1)) fun r212 =>
    rd h v0 100 (wr (v3 + 2)) fun r213 =>
    rd h v0 100 (wr (v3 + 3)) fun r214 =>
    if r214 = 0 then
      f_L_law_1054 n rec18 v0 v1 v2 v3 v1 r212 r213 0 h
    else
    f_L_law_1054 n rec18 v0 v1 v2 v3 v1 r212 r213 1 h
  else
  if ban r4 63 = 23 then
    gk h v1 11 <|
    bd (f_X11_doubled n v1 h) fun r217 h217 =>
    gk h217 v2 12 <|
    bd (f_X12_doubled n v2 h217) fun r218 h218 =>
    if r217 = r218 then
      f_L_law_1923 n rec18 v0 v1 v2 v3 h218
    else
    ck (isb 0) <|
    some (0, h218)
  else
  if ban r4 63 = 24 then
    rd h v0 100 (wr (v3 + 1)) fun r222 =>
    rd h v0 100 (wr (v3 + 2)) fun r223 =>
    gk h v1 11 <|
    bd (f_X11_hand n v1 r222 r223 h) fun r224 h224 =>
    rd h224 v0 100 (wr (v3 + 1)) fun r225 =>
    rd h224 v0 100 (wr (v3 + 2)) fun r226 =>
    gk h224 v2 12 <|
    bd (f_X12_hand n v2 r225 r226 h224) fun r227 h227 =>
    if r224 = r227 then
      f_L_law_1923 n rec18 v0 v1 v2 v3 h227
    else
    ck (isb 0) <|
    some (0, h227)
  else
  if ban r4 63 = 25 then
    rd h v0 100 (wr (v3 + 1)) fun r231 =>
    rd h v0 100 (wr (v3 + 2)) fun r232 =>
    gk h v1 11 <|
    bd (f_X11_midnight n v1 r231 r232 h) fun r233 h233 =>
    rd h233 v0 100 (wr (v3 + 1)) fun r234 =>
    rd h233 v0 100 (wr (v3 + 2)) fun r235 =>
    gk h233 v2 12 <|
    bd (f_X12_midnight n v2 r234 r235 h233) fun r236 h236 =>
    if r233 = r236 then
      f_L_law_1923 n rec18 v0 v1 v2 v3 h236
    else
    ck (isb 0) <|
    some (0, h236)
  else
  if ban r4 63 = 26 then
    rd h v0 100 (wr (v3 + 1)) fun r240 =>
    rd h v0 100 (wr (v3 + 2)) fun r241 =>
    rd h v0 100 (wr (v3 + 3)) fun r242 =>
    gk h v1 11 <|
    bd (f_X11_scrip n v1 r240 r241 r242 h) fun r243 h243 =>
    rd h243 v0 100 (wr (v3 + 1)) fun r244 =>
    rd h243 v0 100 (wr (v3 + 2)) fun r245 =>
    rd h243 v0 100 (wr (v3 + 3)) fun r246 =>
    gk h243 v2 12 <|
    bd (f_X12_scrip n v2 r244 r245 r246 h243) fun r247 h247 =>
    if r243 = r247 then
      f_L_law_1923 n rec18 v0 v1 v2 v3 h247
    else
    ck (isb 0) <|
    some (0, h247)
  else
  if ban r4 63 = 27 then
    rd h v0 100 (wr (v3 + 1)) fun r251 =>
    rd h v0 100 (wr (v3 + 2)) fun r252 =>
    gk h v1 11 <|
    bd (f_X11_held n v1 r251 r252 h) fun r253 h253 =>
    rd h253 v0 100 (wr (v3 + 1)) fun r254 =>
    rd h253 v0 100 (wr (v3 + 2)) fun r255 =>
    gk h253 v2 12 <|
    bd (f_X12_held n v2 r254 r255 h253) fun r256 h256 =>
    if r253 = r256 then
      f_L_law_1923 n rec18 v0 v1 v2 v3 h256
    else
    ck (isb 0) <|
    some (0, h256)
  else
  if ban r4 63 = 28 then
    rd h v0 100 (wr (v3 + 1)) fun r260 =>
    rd h v0 100 (wr (v3 + 2)) fun r261 =>
    gk h v1 11 <|
    bd (f_X11_purse n v1 r260 r261 h) fun r262 h262 =>
    rd h262 v0 100 (wr (v3 + 1)) fun r263 =>
    rd h262 v0 100 (wr (v3 + 2)) fun r264 =>
    gk h262 v2 12 <|
    bd (f_X12_purse n v2 r263 r264 h262) fun r265 h265 =>
    if r262 = r265 then
      f_L_law_1923 n rec18 v0 v1 v2 v3 h265
    else
    ck (isb 0) <|
    some (0, h265)
  else
  if ban r4 63 = 29 then
    rd h v0 100 (wr (v3 + 1)) fun r269 =>
    rd h v0 100 (wr (v3 + 2)) fun r270 =>
    rd h v0 100 (wr (v3 + 3)) fun r271 =>
    rd h v0 100 (wr (v3 + 4)) fun r272 =>
    rd h v0 100 (wr (v3 + 5)) fun r273 =>
    if r273 = 0 then
      f_L_law_1311 n rec18 v0 v1 v2 v3 v1 r269 r270 r271 r272 0 h
    else
    f_L_law_1311 n rec18 v0 v1 v2 v3 v1 r269 r270 r271 r272 1 h
  else
  if ban r4 63 = 30 then
    rd h v0 100 (wr (v3 + 1)) fun r276 =>
    gk h v1 11 <|
    bd (f_X11_price n v1 r276 h) fun r277 h277 =>
    rd h277 v0 100 (wr (v3 + 1)) fun r278 =>
    gk h277 v2 12 <|
    bd (f_X12_price n v2 r278 h277) fun r279 h279 =>
    if r277 = r279 then
      f_L_law_1923 n rec18 v0 v1 v2 v3 h279
    else
    ck (isb 0) <|
    some (0, h279)
  else
  if ban r4 63 = 31 then
    rd h v0 100 (wr (v3 + 1)) fun r283 =>
    gk h v1 11 <|
    bd (f_X11_read n v1 r283 h) fun r284 h284 =>
    rd h284 v0 100 (wr (v3 + 1)) fun r285 =>
    gk h284 v2 12 <|
    bd (f_X12_read n v2 r285 h284) fun r286 h286 =>
    if r284 = r286 then
      f_L_law_1923 n rec18 v0 v1 v2 v3 h286
    else
    ck (isb 0) <|
    some (0, h286)
  else
  if ban r4 63 = 32 then
    rd h v0 100 (wr (v3 + 1)) fun r290 =>
    rd h v0 100 (wr (v3 + 2)) fun r291 =>
    gk h v1 11 <|
    bd (f_X11_call n v1 r290 r291 h) fun r292 h292 =>
    rd h292 v0 100 (wr (v3 + 1)) fun r293 =>
    rd h292 v0 100 (wr (v3 + 2)) fun r294 =>
    gk h292 v2 12 <|
    bd (f_X12_call n v2 r293 r294 h292) fun r295 h295 =>
    if r292 = r295 then
      f_L_law_1923 n rec18 v0 v1 v2 v3 h295
    else
    ck (isb 0) <|
    some (0, h295)
  else
  if ban r4 63 = 33 then
    rd h v0 100 (wr (v3 + 1)) fun r299 =>
    rd h v0 100 (wr (v3 + 2)) fun r300 =>
    rd h v0 100 (wr (v3 + 3)) fun r301 =>
    gk h v1 11 <|
    bd (f_X11_lend n v1 r299 r300 r301 h) fun r302 h302 =>
    rd h302 v0 100 (wr (v3 + 1)) fun r303 =>
    rd h302 v0 100 (wr (v3 + 2)) fun r304 =>
    rd h302 v0 100 (wr (v3 + 3)) fun r305 =>
    gk h302 v2 12 <|
    bd (f_X12_lend n v2 r303 r304 r305 h302) fun r306 h306 =>
    if r302 = r306 then
      f_L_law_1923 n rec18 v0 v1 v2 v3 h306
    else
    ck (isb 0) <|
    some (0, h306)
  else
  if ban r4 63 = 34 then
    gk h v1 11 <|
    bd (f_X11_settle n v1 h) fun r310 h310 =>
    gk h310 v2 12 <|
    bd (f_X12_settle n v2 h310) fun r311 h311 =>
    if r310 = r311 then
      f_L_law_1923 n rec18 v0 v1 v2 v3 h311
    else
    ck (isb 0) <|
    some (0, h311)
  else
  if ban r4 63 = 35 then
    rd h v0 100 (wr (v3 + 1)) fun r315 =>
    rd h v0 100 (wr (v3 + 2)) fun r316 =>
    gk h v1 11 <|
    bd (f_X11_along n v1 r315 r316 h) fun r317 h317 =>
    rd h317 v0 100 (wr (v3 + 1)) fun r318 =>
    rd h317 v0 100 (wr (v3 + 2)) fun r319 =>
    gk h317 v2 12 <|
    bd (f_X12_along n v2 r318 r319 h317) fun r320 h320 =>
    if r317 = r320 then
      f_L_law_1923 n rec18 v0 v1 v2 v3 h320
    else
    ck (isb 0) <|
    some (0, h320)
  else
  if ban r4 63 = 36 then
    rd h v0 100 (wr (v3 + 1)) fun r324 =>
    gk h v1 11 <|
    bd (f_X11_dig n v1 r324 h) fun r325 h325 =>
    rd h325 v0 100 (wr (v3 + 1)) fun r326 =>
    gk h325 v2 12 <|
    bd (f_X12_dig n v2 r326 h325) fun r327 h327 =>
    if r325 = r327 then
      f_L_law_1923 n rec18 v0 v1 v2 v3 h327
    else
    ck (isb 0) <|
    some (0, h327)
  else
  if ban r4 63 = 37 then
    rd h v0 100 (wr (v3 + 1)) fun r331 =>
    rd h v0 100 (wr (v3 + 2)) fun r332 =>
    gk h v1 11 <|
    bd (f_X11_last n v1 r331 r332 h) fun r333 h333 =>
    rd h333 v0 100 (wr (v3 + 1)) fun r334 =>
    rd h333 v0 100 (wr (v3 + 2)) fun r335 =>
    gk h333 v2 12 <|
    bd (f_X12_last n v2 r334 r335 h333) fun r336 h336 =>
    if r333 = r336 then
      f_L_law_1923 n rec18 v0 v1 v2 v3 h336
    else
    ck (isb 0) <|
    some (0, h336)
  else
  if ban r4 63 = 38 then
    gk h v1 11 <|
    bd (f_X11_meet n v1 h) fun r340 h340 =>
    gk h340 v2 12 <|
    bd (f_X12_meet n v2 h340) fun r341 h341 =>
    if r340 = r341 then
      f_L_law_1923 n rec18 v0 v1 v2 v3 h341
    else
    ck (isb 0) <|
    some (0, h341)
  else
  if ban r4 63 = 39 then
    rd h v0 100 (wr (v3 + 1)) fun r345 =>
    gk h v1 11 <|
    bd (f_X11_gauge n v1 r345 h) fun r346 h346 =>
    rd h346 v0 100 (wr (v3 + 1)) fun r347 =>
    gk h346 v2 12 <|
    bd (f_X12_gauge n v2 r347 h346) fun r348 h348 =>
    if r346 = r348 then
      f_L_law_1923 n rec18 v0 v1 v2 v3 h348
    else
    ck (isb 0) <|
    some (0, h348)
  else
  if ban r4 63 = 40 then
    rd h v0 100 (wr (v3 + 1)) fun r352 =>
    rd h v0 100 (wr (v3 + 2)) fun r353 =>
    rd h v0 100 (wr (v3 + 3)) fun r354 =>
    rd h v0 100 (wr (v3 + 4)) fun r355 =>
    gk h v1 11 <|
    bd (f_X11_plan n v1 r352 r353 r354 r355 h) fun r356 h356 =>
    rd h356 v0 100 (wr (v3 + 1)) fun r357 =>
    rd h356 v0 100 (wr (v3 + 2)) fun r358 =>
    rd h356 v0 100 (wr (v3 + 3)) fun r359 =>
    rd h356 v0 100 (wr (v3 + 4)) fun r360 =>
    gk h356 v2 12 <|
    bd (f_X12_plan n v2 r357 r358 r359 r360 h356) fun r361 h361 =>
    if r356 = r361 then
      f_L_law_1923 n rec18 v0 v1 v2 v3 h361
    else
    ck (isb 0) <|
    some (0, h361)
  else
  if ban r4 63 = 41 then
    rd h v0 100 (wr (v3 + 1)) fun r365 =>
    gk h v1 11 <|
    bd (f_X11_tried n v1 r365 h) fun r366 h366 =>
    rd h366 v0 100 (wr (v3 + 1)) fun r367 =>
    gk h366 v2 12 <|
    bd (f_X12_tried n v2 r367 h366) fun r368 h368 =>
    if r366 = r368 then
      f_L_law_1923 n rec18 v0 v1 v2 v3 h368
    else
    ck (isb 0) <|
    some (0, h368)
  else
  if ban r4 63 = 42 then
    rd h v0 100 (wr (v3 + 1)) fun r372 =>
    rd h v0 100 (wr (v3 + 2)) fun r373 =>
    gk h v1 11 <|
    bd (f_X11_known n v1 r372 r373 h) fun r374 h374 =>
    rd h374 v0 100 (wr (v3 + 1)) fun r375 =>
    rd h374 v0 100 (wr (v3 + 2)) fun r376 =>
    gk h374 v2 12 <|
    bd (f_X12_known n v2 r375 r376 h374) fun r377 h377 =>
    if r374 = r377 then
      f_L_law_1923 n rec18 v0 v1 v2 v3 h377
    else
    ck (isb 0) <|
    some (0, h377)
  else
  if ban r4 63 = 43 then
    gk h v1 11 <|
    bd (f_X11_image n v1 h) fun r381 h381 =>
    gk h381 v2 12 <|
    bd (f_X12_image n v2 h381) fun r382 h382 =>
    if r381 = r382 then
      f_L_law_1923 n rec18 v0 v1 v2 v3 h382
    else
    ck (isb 0) <|
    some (0, h382)
  else
  if ban r4 63 = 44 then
    gk h v1 11 <|
    bd (f_X11_undo n v1 h) fun r386 h386 =>
    gk h386 v2 12 <|
    bd (f_X12_undo n v2 h386) fun r387 h387 =>
    if r386 = r387 then
      f_L_law_1923 n rec18 v0 v1 v2 v3 h387
    else
    ck (isb 0) <|
    some (0, h387)
  else
  if ban r4 63 = 45 then
    rd h v0 100 (wr (v3 + 1)) fun r391 =>
    gk h v1 11 <|
    bd (f_X11_count n v1 r391 h) fun r392 h392 =>
    rd h392 v0 100 (wr (v3 + 1)) fun r393 =>
    gk h392 v2 12 <|
    bd (f_X12_count n v2 r393 h392) fun r394 h394 =>
    if r392 = r394 then
      f_L_law_1923 n rec18 v0 v1 v2 v3 h394
    else
    ck (isb 0) <|
    some (0, h394)
  else
  if ban r4 63 = 46 then
    rd h v0 100 (wr (v3 + 1)) fun r398 =>
    rd h v0 100 (wr (v3 + 2)) fun r399 =>
    rd h v0 100 (wr (v3 + 3)) fun r400 =>
    gk h v1 11 <|
    bd (f_X11_sheet n v1 r398 r399 r400 h) fun r401 h401 =>
    rd h401 v0 100 (wr (v3 + 1)) fun r402 =>
    rd h401 v0 100 (wr (v3 + 2)) fun r403 =>
    rd h401 v0 100 (wr (v3 + 3)) fun r404 =>
    gk h401 v2 12 <|
    bd (f_X12_sheet n v2 r402 r403 r404 h401) fun r405 h405 =>
    if r401 = r405 then
      f_L_law_1923 n rec18 v0 v1 v2 v3 h405
    else
    ck (isb 0) <|
    some (0, h405)
  else
  if ban r4 63 = 47 then
    rd h v0 100 (wr (v3 + 1)) fun r409 =>
    rd h v0 100 (wr (v3 + 2)) fun r410 =>
    rd h v0 100 (wr (v3 + 3)) fun r411 =>
    gk h v1 11 <|
    bd (f_X11_item n v1 r409 r410 r411 h) fun r412 h412 =>
    rd h412 v0 100 (wr (v3 + 1)) fun r413 =>
    rd h412 v0 100 (wr (v3 + 2)) fun r414 =>
    rd h412 v0 100 (wr (v3 + 3)) fun r415 =>
    gk h412 v2 12 <|
    bd (f_X12_item n v2 r413 r414 r415 h412) fun r416 h416 =>
    if r412 = r416 then
      f_L_law_1923 n rec18 v0 v1 v2 v3 h416
    else
    ck (isb 0) <|
    some (0, h416)
  else
  if ban r4 63 = 48 then
    rd h v0 100 (wr (v3 + 1)) fun r420 =>
    rd h v0 100 (wr (v3 + 2)) fun r421 =>
    rd h v0 100 (wr (v3 + 3)) fun r422 =>
    rd h v0 100 (wr (v3 + 4)) fun r423 =>
    rd h v0 100 (wr (v3 + 5)) fun r424 =>
    gk h v1 11 <|
    bd (f_X11_copy n v1 r420 r421 r422 r423 r424 h) fun r425 h425 =>
    rd h425 v0 100 (wr (v3 + 1)) fun r426 =>
    rd h425 v0 100 (wr (v3 + 2)) fun r427 =>
    rd h425 v0 100 (wr (v3 + 3)) fun r428 =>
    rd h425 v0 100 (wr (v3 + 4)) fun r429 =>
    rd h425 v0 100 (wr (v3 + 5)) fun r430 =>
    gk h425 v2 12 <|
    bd (f_X12_copy n v2 r426 r427 r428 r429 r430 h425) fun r431 h431 =>
    if r425 = r431 then
      f_L_law_1923 n rec18 v0 v1 v2 v3 h431
    else
    ck (isb 0) <|
    some (0, h431)
  else
  f_L_law_1923 n rec18 v0 v1 v2 v3 h
noncomputable def f_L_law_18 (n : Nat)  (v0 v1 v2 : Int) : Nat → Int → MM → RR
  | 0, _, _ => none
  | k + 1, v3, h => f_L_law_18b n  (f_L_law_18 n  v0 v1 v2 k) v0 v1 v2 v3 h
noncomputable def f_L_law (n : Nat) (v0 : Int) (h : MM) : RR :=
  nw h 11 7 fun r1 h1 =>
  nz r1 <|
  bd (f_X11_init n r1 h1) fun r2 h2 =>
  nw h2 12 21 fun r3 h3 =>
  nz r3 <|
  bd (f_X12_init n r3 h3) fun r4 h4 =>
  f_L_law_18 n v0 r1 r3 n 0 h4
set_option maxRecDepth 20000 in
theorem b_L_law_1923 {g : GT} {Z : Int × MM} {n : Nat} (C : Cx g code 4 x 2048 84000) (hr : LRt g Z) {v0 v1 v2 v3 : Int}  {rec18 : Int → MM → RR} (L18 : ∀ (u3 : Int) (h : MM), in32 u3 → rec18 u3 h = some Z → G g 18 [(2, v0), (2, v1), (2, v2), (0, u3)] [] h) (cv3 : in32 v3) {h : MM} (hf : f_L_law_1923 n rec18 v0 v1 v2 v3 h = some Z) : G g 1923 [(2, v0), (2, v1), (2, v2), (0, v3)] [] h := by
  unfold f_L_law_1923 at hf
  obtain ⟨x1, e1, hf⟩ := lb_s hf
  have c1 : in32 x1 := by rw [e1]; exact (in32_t _)
  refine r_iincL C dL_law_1923 rfl e1 (Nat.le_of_ble_eq_true rfl) rfl ?_
  refine r_goto C dL_law_1926 (tgt := 18) (by decide) ?_
  exact G.mask [true, true, true, true] rfl rfl (L18 _ _ c1 hf)
set_option maxRecDepth 20000 in
theorem b_L_law_1348 {g : GT} {Z : Int × MM} {n : Nat} (C : Cx g code 4 x 2048 84000) (hr : LRt g Z) {v0 v1 v2 v3 s0 s1 s2 s3 s4 s5 s6 : Int}  {rec18 : Int → MM → RR} (L18 : ∀ (u3 : Int) (h : MM), in32 u3 → rec18 u3 h = some Z → G g 18 [(2, v0), (2, v1), (2, v2), (0, u3)] [] h) (cv3 : in32 v3) (cs0 : in32 s0) (cs2 : in32 s2) (cs3 : in32 s3) (cs4 : in32 s4) (cs5 : in32 s5) (cs6 : in32 s6) {h : MM} (hf : f_L_law_1348 n rec18 v0 v1 v2 v3 s0 s1 s2 s3 s4 s5 s6 h = some Z) : G g 1348 [(2, v0), (2, v1), (2, v2), (0, v3)] [(0, s6), (0, s5), (0, s4), (0, s3), (0, s2), (2, s1), (0, s0)] h := by
  unfold f_L_law_1348 at hf
  obtain ⟨p1, hf⟩ := gk_s hf
  obtain ⟨r1, h1, hq1, hf⟩ := bd_s hf
  refine r_cV5 C (am_X12_ask (gl g) n) cm_X12_ask w_1789 dL_law_1348 ⟨Nat.le_of_ble_eq_true rfl, Nat.le_of_ble_eq_true rfl⟩ p1 rfl cs2 cs3 cs4 cs5 cs6 rfl (Nat.le_of_ble_eq_true rfl) hq1 (by decide) (fun c1 => ?_)
  have c1 : in32 _ := c1
  refine r_icmp_eq C dL_law_1351 (tgt := 1923) (by decide) cs0 c1 (fun n2 => ?_) (fun n2 => ?_)
  · have hf := ite_p n2 hf
    exact G.mask [true, true, true, true] rfl rfl (b_L_law_1923 C hr L18 cv3 hf)
  · have hf := ite_n n2 hf
    refine r_iconst C dL_law_1354 ?_
    obtain ⟨b3, hf⟩ := ck_s hf
    cases hf
    exact (law_no hr.2.2.2).elim
set_option maxRecDepth 20000 in
theorem b_L_law_1311 {g : GT} {Z : Int × MM} {n : Nat} (C : Cx g code 4 x 2048 84000) (hr : LRt g Z) {v0 v1 v2 v3 s0 s1 s2 s3 s4 s5 : Int}  {rec18 : Int → MM → RR} (L18 : ∀ (u3 : Int) (h : MM), in32 u3 → rec18 u3 h = some Z → G g 18 [(2, v0), (2, v1), (2, v2), (0, u3)] [] h) (cv3 : in32 v3) (cs1 : in32 s1) (cs2 : in32 s2) (cs3 : in32 s3) (cs4 : in32 s4) (cs5 : in32 s5) {h : MM} (hf : f_L_law_1311 n rec18 v0 v1 v2 v3 s0 s1 s2 s3 s4 s5 h = some Z) : G g 1311 [(2, v0), (2, v1), (2, v2), (0, v3)] [(0, s5), (0, s4), (0, s3), (0, s2), (0, s1), (2, s0)] h := by
  unfold f_L_law_1311 at hf
  obtain ⟨p1, hf⟩ := gk_s hf
  obtain ⟨r1, h1, hq1, hf⟩ := bd_s hf
  refine r_cV5 C (am_X11_ask (gl g) n) cm_X11_ask w_1117 dL_law_1311 ⟨Nat.le_of_ble_eq_true rfl, Nat.le_of_ble_eq_true rfl⟩ p1 rfl cs1 cs2 cs3 cs4 cs5 rfl (Nat.le_of_ble_eq_true rfl) hq1 (by decide) (fun c1 => ?_)
  have c1 : in32 _ := c1
  refine r_aload_n C dL_law_1314 rfl ?_
  refine r_aload_n C dL_law_1315 rfl ?_
  refine r_iload_n C dL_law_1316 rfl ?_
  refine r_iconst C dL_law_1317 ?_
  refine r_iadd C dL_law_1318 ?_
  obtain ⟨q2, hf⟩ := rd_s hf
  refine r_iald C dL_law_1319 q2 rfl (fun c2 => ?_)
  refine r_aload_n C dL_law_1320 rfl ?_
  refine r_iload_n C dL_law_1321 rfl ?_
  refine r_iconst C dL_law_1322 ?_
  refine r_iadd C dL_law_1323 ?_
  obtain ⟨q3, hf⟩ := rd_s hf
  refine r_iald C dL_law_1324 q3 rfl (fun c3 => ?_)
  refine r_aload_n C dL_law_1325 rfl ?_
  refine r_iload_n C dL_law_1326 rfl ?_
  refine r_iconst C dL_law_1327 ?_
  refine r_iadd C dL_law_1328 ?_
  obtain ⟨q4, hf⟩ := rd_s hf
  refine r_iald C dL_law_1329 q4 rfl (fun c4 => ?_)
  refine r_aload_n C dL_law_1330 rfl ?_
  refine r_iload_n C dL_law_1331 rfl ?_
  refine r_iconst C dL_law_1332 ?_
  refine r_iadd C dL_law_1333 ?_
  obtain ⟨q5, hf⟩ := rd_s hf
  refine r_iald C dL_law_1334 q5 rfl (fun c5 => ?_)
  refine r_aload_n C dL_law_1335 rfl ?_
  refine r_iload_n C dL_law_1336 rfl ?_
  refine r_iconst C dL_law_1337 ?_
  refine r_iadd C dL_law_1338 ?_
  obtain ⟨q6, hf⟩ := rd_s hf
  refine r_iald C dL_law_1339 q6 rfl (fun c6 => ?_)
  refine r_if_eq C dL_law_1340 (tgt := 1347) (by decide) c6 (fun n7 => ?_) (fun n7 => ?_)
  · have hf := ite_p n7 hf
    refine r_iconst C dL_law_1347 ?_
    exact G.mask [true, true, true, true] rfl rfl (b_L_law_1348 C hr L18 cv3 c1 c2 c3 c4 c5 (in32_of rfl) hf)
  · have hf := ite_n n7 hf
    refine r_iconst C dL_law_1343 ?_
    refine r_goto C dL_law_1344 (tgt := 1348) (by decide) ?_
    exact G.mask [true, true, true, true] rfl rfl (b_L_law_1348 C hr L18 cv3 c1 c2 c3 c4 c5 (in32_of rfl) hf)
set_option maxRecDepth 20000 in
theorem b_L_law_1081 {g : GT} {Z : Int × MM} {n : Nat} (C : Cx g code 4 x 2048 84000) (hr : LRt g Z) {v0 v1 v2 v3 s0 s1 s2 s3 s4 : Int}  {rec18 : Int → MM → RR} (L18 : ∀ (u3 : Int) (h : MM), in32 u3 → rec18 u3 h = some Z → G g 18 [(2, v0), (2, v1), (2, v2), (0, u3)] [] h) (cv3 : in32 v3) (cs0 : in32 s0) (cs2 : in32 s2) (cs3 : in32 s3) (cs4 : in32 s4) {h : MM} (hf : f_L_law_1081 n rec18 v0 v1 v2 v3 s0 s1 s2 s3 s4 h = some Z) : G g 1081 [(2, v0), (2, v1), (2, v2), (0, v3)] [(0, s4), (0, s3), (0, s2), (2, s1), (0, s0)] h := by
  unfold f_L_law_1081 at hf
  obtain ⟨p1, hf⟩ := gk_s hf
  obtain ⟨r1, h1, hq1, hf⟩ := bd_s hf
  refine r_cV3 C (am_X12_board (gl g) n) cm_X12_board w_1741 dL_law_1081 ⟨Nat.le_of_ble_eq_true rfl, Nat.le_of_ble_eq_true rfl⟩ p1 rfl cs2 cs3 cs4 rfl (Nat.le_of_ble_eq_true rfl) hq1 (by decide) (fun c1 => ?_)
  have c1 : in32 _ := c1
  refine r_icmp_eq C dL_law_1084 (tgt := 1923) (by decide) cs0 c1 (fun n2 => ?_) (fun n2 => ?_)
  · have hf := ite_p n2 hf
    exact G.mask [true, true, true, true] rfl rfl (b_L_law_1923 C hr L18 cv3 hf)
  · have hf := ite_n n2 hf
    refine r_iconst C dL_law_1087 ?_
    obtain ⟨b3, hf⟩ := ck_s hf
    cases hf
    exact (law_no hr.2.2.2).elim
set_option maxRecDepth 20000 in
theorem b_L_law_1054 {g : GT} {Z : Int × MM} {n : Nat} (C : Cx g code 4 x 2048 84000) (hr : LRt g Z) {v0 v1 v2 v3 s0 s1 s2 s3 : Int}  {rec18 : Int → MM → RR} (L18 : ∀ (u3 : Int) (h : MM), in32 u3 → rec18 u3 h = some Z → G g 18 [(2, v0), (2, v1), (2, v2), (0, u3)] [] h) (cv3 : in32 v3) (cs1 : in32 s1) (cs2 : in32 s2) (cs3 : in32 s3) {h : MM} (hf : f_L_law_1054 n rec18 v0 v1 v2 v3 s0 s1 s2 s3 h = some Z) : G g 1054 [(2, v0), (2, v1), (2, v2), (0, v3)] [(0, s3), (0, s2), (0, s1), (2, s0)] h := by
  unfold f_L_law_1054 at hf
  obtain ⟨p1, hf⟩ := gk_s hf
  obtain ⟨r1, h1, hq1, hf⟩ := bd_s hf
  refine r_cV3 C (am_X11_board (gl g) n) cm_X11_board w_1040 dL_law_1054 ⟨Nat.le_of_ble_eq_true rfl, Nat.le_of_ble_eq_true rfl⟩ p1 rfl cs1 cs2 cs3 rfl (Nat.le_of_ble_eq_true rfl) hq1 (by decide) (fun c1 => ?_)
  have c1 : in32 _ := c1
  refine r_aload_n C dL_law_1057 rfl ?_
  refine r_aload_n C dL_law_1058 rfl ?_
  refine r_iload_n C dL_law_1059 rfl ?_
  refine r_iconst C dL_law_1060 ?_
  refine r_iadd C dL_law_1061 ?_
  obtain ⟨q2, hf⟩ := rd_s hf
  refine r_iald C dL_law_1062 q2 rfl (fun c2 => ?_)
  refine r_aload_n C dL_law_1063 rfl ?_
  refine r_iload_n C dL_law_1064 rfl ?_
  refine r_iconst C dL_law_1065 ?_
  refine r_iadd C dL_law_1066 ?_
  obtain ⟨q3, hf⟩ := rd_s hf
  refine r_iald C dL_law_1067 q3 rfl (fun c3 => ?_)
  refine r_aload_n C dL_law_1068 rfl ?_
  refine r_iload_n C dL_law_1069 rfl ?_
  refine r_iconst C dL_law_1070 ?_
  refine r_iadd C dL_law_1071 ?_
  obtain ⟨q4, hf⟩ := rd_s hf
  refine r_iald C dL_law_1072 q4 rfl (fun c4 => ?_)
  refine r_if_eq C dL_law_1073 (tgt := 1080) (by decide) c4 (fun n5 => ?_) (fun n5 => ?_)
  · have hf := ite_p n5 hf
    refine r_iconst C dL_law_1080 ?_
    exact G.mask [true, true, true, true] rfl rfl (b_L_law_1081 C hr L18 cv3 c1 c2 c3 (in32_of rfl) hf)
  · have hf := ite_n n5 hf
    refine r_iconst C dL_law_1076 ?_
    refine r_goto C dL_law_1077 (tgt := 1081) (by decide) ?_
    exact G.mask [true, true, true, true] rfl rfl (b_L_law_1081 C hr L18 cv3 c1 c2 c3 (in32_of rfl) hf)
set_option maxRecDepth 20000 in
theorem b_L_law_18b {g : GT} {Z : Int × MM} {n : Nat} (C : Cx g code 4 x 2048 84000) (hr : LRt g Z) {v0 v1 v2 v3 : Int}  {rec18 : Int → MM → RR} (L18 : ∀ (u3 : Int) (h : MM), in32 u3 → rec18 u3 h = some Z → G g 18 [(2, v0), (2, v1), (2, v2), (0, u3)] [] h) (cv3 : in32 v3) {h : MM} (hf : f_L_law_18b n rec18 v0 v1 v2 v3 h = some Z) : G g 18 [(2, v0), (2, v1), (2, v2), (0, v3)] [] h := by
  unfold f_L_law_18b at hf
  refine r_iload_n C dL_law_18 rfl ?_
  refine r_aload_n C dL_law_19 rfl ?_
  obtain ⟨q1, hf⟩ := al_s hf
  refine r_alen C (tn := 100) dL_law_20 q1 rfl (by decide) (fun c1 _ => ?_)
  refine r_bipush C dL_law_21 rfl ?_
  refine r_isub C dL_law_23 ?_
  refine r_icmp_gt C dL_law_24 (tgt := 1929) (by decide) cv3 (in32_t _) (fun n2 => ?_) (fun n2 => ?_)
  · have hf := ite_p n2 hf
    refine r_iconst C dL_law_1929 ?_
    obtain ⟨b3, hf⟩ := ck_s hf
    cases hf
    exact r_lawret C hr dL_law_1930 rfl
  · have hf := ite_n n2 hf
    refine r_aload_n C dL_law_27 rfl ?_
    refine r_iload_n C dL_law_28 rfl ?_
    obtain ⟨q4, hf⟩ := rd_s hf
    refine r_iald C dL_law_29 q4 rfl (fun c4 => ?_)
    refine r_bipush C dL_law_30 rfl ?_
    refine r_iand C dL_law_32 ?_
    rcases ite_s hf with ⟨n5, hf⟩ | ⟨n5, hf⟩
    · refine r_tsw C dL_law_33 (tgt := 244) (in32_t _) n5 rfl rfl (by decide) ?_
      refine r_aload_n C dL_law_244 rfl ?_
      refine r_aload_n C dL_law_245 rfl ?_
      refine r_iload_n C dL_law_246 rfl ?_
      refine r_iconst C dL_law_247 ?_
      refine r_iadd C dL_law_248 ?_
      obtain ⟨q6, hf⟩ := rd_s hf
      refine r_iald C dL_law_249 q6 rfl (fun c6 => ?_)
      refine r_aload_n C dL_law_250 rfl ?_
      refine r_iload_n C dL_law_251 rfl ?_
      refine r_iconst C dL_law_252 ?_
      refine r_iadd C dL_law_253 ?_
      obtain ⟨q7, hf⟩ := rd_s hf
      refine r_iald C dL_law_254 q7 rfl (fun c7 => ?_)
      refine r_aload_n C dL_law_255 rfl ?_
      refine r_iload_n C dL_law_256 rfl ?_
      refine r_iconst C dL_law_257 ?_
      refine r_iadd C dL_law_258 ?_
      obtain ⟨q8, hf⟩ := rd_s hf
      refine r_iald C dL_law_259 q8 rfl (fun c8 => ?_)
      obtain ⟨p9, hf⟩ := gk_s hf
      obtain ⟨r9, h9, hq9, hf⟩ := bd_s hf
      refine r_cV3 C (am_X11_land (gl g) n) cm_X11_land w_462 dL_law_260 ⟨Nat.le_of_ble_eq_true rfl, Nat.le_of_ble_eq_true rfl⟩ p9 rfl c6 c7 c8 rfl (Nat.le_of_ble_eq_true rfl) hq9 (by decide) (fun c9 => ?_)
      have c9 : in32 _ := c9
      refine r_aload_n C dL_law_263 rfl ?_
      refine r_aload_n C dL_law_264 rfl ?_
      refine r_iload_n C dL_law_265 rfl ?_
      refine r_iconst C dL_law_266 ?_
      refine r_iadd C dL_law_267 ?_
      obtain ⟨q10, hf⟩ := rd_s hf
      refine r_iald C dL_law_268 q10 rfl (fun c10 => ?_)
      refine r_aload_n C dL_law_269 rfl ?_
      refine r_iload_n C dL_law_270 rfl ?_
      refine r_iconst C dL_law_271 ?_
      refine r_iadd C dL_law_272 ?_
      obtain ⟨q11, hf⟩ := rd_s hf
      refine r_iald C dL_law_273 q11 rfl (fun c11 => ?_)
      refine r_aload_n C dL_law_274 rfl ?_
      refine r_iload_n C dL_law_275 rfl ?_
      refine r_iconst C dL_law_276 ?_
      refine r_iadd C dL_law_277 ?_
      obtain ⟨q12, hf⟩ := rd_s hf
      refine r_iald C dL_law_278 q12 rfl (fun c12 => ?_)
      obtain ⟨p13, hf⟩ := gk_s hf
      obtain ⟨r13, h13, hq13, hf⟩ := bd_s hf
      refine r_cV3 C (am_X12_land (gl g) n) cm_X12_land w_1489 dL_law_279 ⟨Nat.le_of_ble_eq_true rfl, Nat.le_of_ble_eq_true rfl⟩ p13 rfl c10 c11 c12 rfl (Nat.le_of_ble_eq_true rfl) hq13 (by decide) (fun c13 => ?_)
      have c13 : in32 _ := c13
      refine r_icmp_eq C dL_law_282 (tgt := 1923) (by decide) c9 c13 (fun n14 => ?_) (fun n14 => ?_)
      · have hf := ite_p n14 hf
        exact G.mask [true, true, true, true] rfl rfl (b_L_law_1923 C hr L18 cv3 hf)
      · have hf := ite_n n14 hf
        refine r_iconst C dL_law_285 ?_
        obtain ⟨b15, hf⟩ := ck_s hf
        cases hf
        exact (law_no hr.2.2.2).elim
    rcases ite_s hf with ⟨n16, hf⟩ | ⟨n16, hf⟩
    · refine r_tsw C dL_law_33 (tgt := 287) (in32_t _) n16 rfl rfl (by decide) ?_
      refine r_aload_n C dL_law_287 rfl ?_
      refine r_aload_n C dL_law_288 rfl ?_
      refine r_iload_n C dL_law_289 rfl ?_
      refine r_iconst C dL_law_290 ?_
      refine r_iadd C dL_law_291 ?_
      obtain ⟨q17, hf⟩ := rd_s hf
      refine r_iald C dL_law_292 q17 rfl (fun c17 => ?_)
      refine r_aload_n C dL_law_293 rfl ?_
      refine r_iload_n C dL_law_294 rfl ?_
      refine r_iconst C dL_law_295 ?_
      refine r_iadd C dL_law_296 ?_
      obtain ⟨q18, hf⟩ := rd_s hf
      refine r_iald C dL_law_297 q18 rfl (fun c18 => ?_)
      obtain ⟨p19, hf⟩ := gk_s hf
      obtain ⟨r19, h19, hq19, hf⟩ := bd_s hf
      refine r_cV2 C (am_X11_town (gl g) n) cm_X11_town w_469 dL_law_298 ⟨Nat.le_of_ble_eq_true rfl, Nat.le_of_ble_eq_true rfl⟩ p19 rfl c17 c18 rfl (Nat.le_of_ble_eq_true rfl) hq19 (by decide) (fun c19 => ?_)
      have c19 : in32 _ := c19
      refine r_aload_n C dL_law_301 rfl ?_
      refine r_aload_n C dL_law_302 rfl ?_
      refine r_iload_n C dL_law_303 rfl ?_
      refine r_iconst C dL_law_304 ?_
      refine r_iadd C dL_law_305 ?_
      obtain ⟨q20, hf⟩ := rd_s hf
      refine r_iald C dL_law_306 q20 rfl (fun c20 => ?_)
      refine r_aload_n C dL_law_307 rfl ?_
      refine r_iload_n C dL_law_308 rfl ?_
      refine r_iconst C dL_law_309 ?_
      refine r_iadd C dL_law_310 ?_
      obtain ⟨q21, hf⟩ := rd_s hf
      refine r_iald C dL_law_311 q21 rfl (fun c21 => ?_)
      obtain ⟨p22, hf⟩ := gk_s hf
      obtain ⟨r22, h22, hq22, hf⟩ := bd_s hf
      refine r_cV2 C (am_X12_town (gl g) n) cm_X12_town w_1499 dL_law_312 ⟨Nat.le_of_ble_eq_true rfl, Nat.le_of_ble_eq_true rfl⟩ p22 rfl c20 c21 rfl (Nat.le_of_ble_eq_true rfl) hq22 (by decide) (fun c22 => ?_)
      have c22 : in32 _ := c22
      refine r_icmp_eq C dL_law_315 (tgt := 1923) (by decide) c19 c22 (fun n23 => ?_) (fun n23 => ?_)
      · have hf := ite_p n23 hf
        exact G.mask [true, true, true, true] rfl rfl (b_L_law_1923 C hr L18 cv3 hf)
      · have hf := ite_n n23 hf
        refine r_iconst C dL_law_318 ?_
        obtain ⟨b24, hf⟩ := ck_s hf
        cases hf
        exact (law_no hr.2.2.2).elim
    rcases ite_s hf with ⟨n25, hf⟩ | ⟨n25, hf⟩
    · refine r_tsw C dL_law_33 (tgt := 320) (in32_t _) n25 rfl rfl (by decide) ?_
      refine r_aload_n C dL_law_320 rfl ?_
      refine r_aload_n C dL_law_321 rfl ?_
      refine r_iload_n C dL_law_322 rfl ?_
      refine r_iconst C dL_law_323 ?_
      refine r_iadd C dL_law_324 ?_
      obtain ⟨q26, hf⟩ := rd_s hf
      refine r_iald C dL_law_325 q26 rfl (fun c26 => ?_)
      refine r_aload_n C dL_law_326 rfl ?_
      refine r_iload_n C dL_law_327 rfl ?_
      refine r_iconst C dL_law_328 ?_
      refine r_iadd C dL_law_329 ?_
      obtain ⟨q27, hf⟩ := rd_s hf
      refine r_iald C dL_law_330 q27 rfl (fun c27 => ?_)
      obtain ⟨p28, hf⟩ := gk_s hf
      obtain ⟨r28, h28, hq28, hf⟩ := bd_s hf
      refine r_cV2 C (am_X11_coin (gl g) n) cm_X11_coin w_481 dL_law_331 ⟨Nat.le_of_ble_eq_true rfl, Nat.le_of_ble_eq_true rfl⟩ p28 rfl c26 c27 rfl (Nat.le_of_ble_eq_true rfl) hq28 (by decide) (fun c28 => ?_)
      have c28 : in32 _ := c28
      refine r_aload_n C dL_law_334 rfl ?_
      refine r_aload_n C dL_law_335 rfl ?_
      refine r_iload_n C dL_law_336 rfl ?_
      refine r_iconst C dL_law_337 ?_
      refine r_iadd C dL_law_338 ?_
      obtain ⟨q29, hf⟩ := rd_s hf
      refine r_iald C dL_law_339 q29 rfl (fun c29 => ?_)
      refine r_aload_n C dL_law_340 rfl ?_
      refine r_iload_n C dL_law_341 rfl ?_
      refine r_iconst C dL_law_342 ?_
      refine r_iadd C dL_law_343 ?_
      obtain ⟨q30, hf⟩ := rd_s hf
      refine r_iald C dL_law_344 q30 rfl (fun c30 => ?_)
      obtain ⟨p31, hf⟩ := gk_s hf
      obtain ⟨r31, h31, hq31, hf⟩ := bd_s hf
      refine r_cV2 C (am_X12_coin (gl g) n) cm_X12_coin w_1503 dL_law_345 ⟨Nat.le_of_ble_eq_true rfl, Nat.le_of_ble_eq_true rfl⟩ p31 rfl c29 c30 rfl (Nat.le_of_ble_eq_true rfl) hq31 (by decide) (fun c31 => ?_)
      have c31 : in32 _ := c31
      refine r_icmp_eq C dL_law_348 (tgt := 1923) (by decide) c28 c31 (fun n32 => ?_) (fun n32 => ?_)
      · have hf := ite_p n32 hf
        exact G.mask [true, true, true, true] rfl rfl (b_L_law_1923 C hr L18 cv3 hf)
      · have hf := ite_n n32 hf
        refine r_iconst C dL_law_351 ?_
        obtain ⟨b33, hf⟩ := ck_s hf
        cases hf
        exact (law_no hr.2.2.2).elim
    rcases ite_s hf with ⟨n34, hf⟩ | ⟨n34, hf⟩
    · refine r_tsw C dL_law_33 (tgt := 353) (in32_t _) n34 rfl rfl (by decide) ?_
      refine r_aload_n C dL_law_353 rfl ?_
      refine r_aload_n C dL_law_354 rfl ?_
      refine r_iload_n C dL_law_355 rfl ?_
      refine r_iconst C dL_law_356 ?_
      refine r_iadd C dL_law_357 ?_
      obtain ⟨q35, hf⟩ := rd_s hf
      refine r_iald C dL_law_358 q35 rfl (fun c35 => ?_)
      obtain ⟨p36, hf⟩ := gk_s hf
      obtain ⟨r36, h36, hq36, hf⟩ := bd_s hf
      refine r_cV1 C (am_X11_man (gl g) n) cm_X11_man w_489 dL_law_359 ⟨Nat.le_of_ble_eq_true rfl, Nat.le_of_ble_eq_true rfl⟩ p36 rfl c35 rfl (Nat.le_of_ble_eq_true rfl) hq36 (by decide) (fun c36 => ?_)
      have c36 : in32 _ := c36
      refine r_aload_n C dL_law_362 rfl ?_
      refine r_aload_n C dL_law_363 rfl ?_
      refine r_iload_n C dL_law_364 rfl ?_
      refine r_iconst C dL_law_365 ?_
      refine r_iadd C dL_law_366 ?_
      obtain ⟨q37, hf⟩ := rd_s hf
      refine r_iald C dL_law_367 q37 rfl (fun c37 => ?_)
      obtain ⟨p38, hf⟩ := gk_s hf
      obtain ⟨r38, h38, hq38, hf⟩ := bd_s hf
      refine r_cV1 C (am_X12_man (gl g) n) cm_X12_man w_1511 dL_law_368 ⟨Nat.le_of_ble_eq_true rfl, Nat.le_of_ble_eq_true rfl⟩ p38 rfl c37 rfl (Nat.le_of_ble_eq_true rfl) hq38 (by decide) (fun c38 => ?_)
      have c38 : in32 _ := c38
      refine r_icmp_eq C dL_law_371 (tgt := 1923) (by decide) c36 c38 (fun n39 => ?_) (fun n39 => ?_)
      · have hf := ite_p n39 hf
        exact G.mask [true, true, true, true] rfl rfl (b_L_law_1923 C hr L18 cv3 hf)
      · have hf := ite_n n39 hf
        refine r_iconst C dL_law_374 ?_
        obtain ⟨b40, hf⟩ := ck_s hf
        cases hf
        exact (law_no hr.2.2.2).elim
    rcases ite_s hf with ⟨n41, hf⟩ | ⟨n41, hf⟩
    · refine r_tsw C dL_law_33 (tgt := 376) (in32_t _) n41 rfl rfl (by decide) ?_
      refine r_aload_n C dL_law_376 rfl ?_
      refine r_aload_n C dL_law_377 rfl ?_
      refine r_iload_n C dL_law_378 rfl ?_
      refine r_iconst C dL_law_379 ?_
      refine r_iadd C dL_law_380 ?_
      obtain ⟨q42, hf⟩ := rd_s hf
      refine r_iald C dL_law_381 q42 rfl (fun c42 => ?_)
      refine r_i2l C dL_law_382 c42 ?_
      refine r_bipush C dL_law_383 rfl ?_
      refine r_lshl C dL_law_385 ?_
      refine r_aload_n C dL_law_386 rfl ?_
      refine r_iload_n C dL_law_387 rfl ?_
      refine r_iconst C dL_law_388 ?_
      refine r_iadd C dL_law_389 ?_
      obtain ⟨q43, hf⟩ := rd_s hf
      refine r_iald C dL_law_390 q43 rfl (fun c43 => ?_)
      refine r_i2l C dL_law_391 c43 ?_
      refine r_ldc2 C (v := 4294967295) dL_law_392 w_1902 ?_
      refine r_land C dL_law_395 ?_
      refine r_lor C dL_law_396 ?_
      refine r_aload_n C dL_law_397 rfl ?_
      refine r_iload_n C dL_law_398 rfl ?_
      refine r_iconst C dL_law_399 ?_
      refine r_iadd C dL_law_400 ?_
      obtain ⟨q44, hf⟩ := rd_s hf
      refine r_iald C dL_law_401 q44 rfl (fun c44 => ?_)
      obtain ⟨p45, hf⟩ := gk_s hf
      obtain ⟨r45, h45, hq45, hf⟩ := bd_s hf
      refine r_cV2 C (am_X11_feed (gl g) n) cm_X11_feed w_493 dL_law_402 ⟨Nat.le_of_ble_eq_true rfl, Nat.le_of_ble_eq_true rfl⟩ p45 rfl (in64_t _) c44 rfl (Nat.le_of_ble_eq_true rfl) hq45 (by decide) (fun c45 => ?_)
      have c45 : in32 _ := c45
      refine r_aload_n C dL_law_405 rfl ?_
      refine r_aload_n C dL_law_406 rfl ?_
      refine r_iload_n C dL_law_407 rfl ?_
      refine r_iconst C dL_law_408 ?_
      refine r_iadd C dL_law_409 ?_
      obtain ⟨q46, hf⟩ := rd_s hf
      refine r_iald C dL_law_410 q46 rfl (fun c46 => ?_)
      refine r_i2l C dL_law_411 c46 ?_
      refine r_bipush C dL_law_412 rfl ?_
      refine r_lshl C dL_law_414 ?_
      refine r_aload_n C dL_law_415 rfl ?_
      refine r_iload_n C dL_law_416 rfl ?_
      refine r_iconst C dL_law_417 ?_
      refine r_iadd C dL_law_418 ?_
      obtain ⟨q47, hf⟩ := rd_s hf
      refine r_iald C dL_law_419 q47 rfl (fun c47 => ?_)
      refine r_i2l C dL_law_420 c47 ?_
      refine r_ldc2 C (v := 4294967295) dL_law_421 w_1902 ?_
      refine r_land C dL_law_424 ?_
      refine r_lor C dL_law_425 ?_
      refine r_aload_n C dL_law_426 rfl ?_
      refine r_iload_n C dL_law_427 rfl ?_
      refine r_iconst C dL_law_428 ?_
      refine r_iadd C dL_law_429 ?_
      obtain ⟨q48, hf⟩ := rd_s hf
      refine r_iald C dL_law_430 q48 rfl (fun c48 => ?_)
      obtain ⟨p49, hf⟩ := gk_s hf
      obtain ⟨r49, h49, hq49, hf⟩ := bd_s hf
      refine r_cV2 C (am_X12_feed (gl g) n) cm_X12_feed w_1515 dL_law_431 ⟨Nat.le_of_ble_eq_true rfl, Nat.le_of_ble_eq_true rfl⟩ p49 rfl (in64_t _) c48 rfl (Nat.le_of_ble_eq_true rfl) hq49 (by decide) (fun c49 => ?_)
      have c49 : in32 _ := c49
      refine r_icmp_eq C dL_law_434 (tgt := 1923) (by decide) c45 c49 (fun n50 => ?_) (fun n50 => ?_)
      · have hf := ite_p n50 hf
        exact G.mask [true, true, true, true] rfl rfl (b_L_law_1923 C hr L18 cv3 hf)
      · have hf := ite_n n50 hf
        refine r_iconst C dL_law_437 ?_
        obtain ⟨b51, hf⟩ := ck_s hf
        cases hf
        exact (law_no hr.2.2.2).elim
    rcases ite_s hf with ⟨n52, hf⟩ | ⟨n52, hf⟩
    · refine r_tsw C dL_law_33 (tgt := 439) (in32_t _) n52 rfl rfl (by decide) ?_
      refine r_aload_n C dL_law_439 rfl ?_
      refine r_aload_n C dL_law_440 rfl ?_
      refine r_iload_n C dL_law_441 rfl ?_
      refine r_iconst C dL_law_442 ?_
      refine r_iadd C dL_law_443 ?_
      obtain ⟨q53, hf⟩ := rd_s hf
      refine r_iald C dL_law_444 q53 rfl (fun c53 => ?_)
      obtain ⟨p54, hf⟩ := gk_s hf
      obtain ⟨r54, h54, hq54, hf⟩ := bd_s hf
      refine r_cV1 C (am_X11_text (gl g) n) cm_X11_text w_497 dL_law_445 ⟨Nat.le_of_ble_eq_true rfl, Nat.le_of_ble_eq_true rfl⟩ p54 rfl c53 rfl (Nat.le_of_ble_eq_true rfl) hq54 (by decide) (fun c54 => ?_)
      have c54 : in32 _ := c54
      refine r_aload_n C dL_law_448 rfl ?_
      refine r_aload_n C dL_law_449 rfl ?_
      refine r_iload_n C dL_law_450 rfl ?_
      refine r_iconst C dL_law_451 ?_
      refine r_iadd C dL_law_452 ?_
      obtain ⟨q55, hf⟩ := rd_s hf
      refine r_iald C dL_law_453 q55 rfl (fun c55 => ?_)
      obtain ⟨p56, hf⟩ := gk_s hf
      obtain ⟨r56, h56, hq56, hf⟩ := bd_s hf
      refine r_cV1 C (am_X12_text (gl g) n) cm_X12_text w_1520 dL_law_454 ⟨Nat.le_of_ble_eq_true rfl, Nat.le_of_ble_eq_true rfl⟩ p56 rfl c55 rfl (Nat.le_of_ble_eq_true rfl) hq56 (by decide) (fun c56 => ?_)
      have c56 : in32 _ := c56
      refine r_icmp_eq C dL_law_457 (tgt := 1923) (by decide) c54 c56 (fun n57 => ?_) (fun n57 => ?_)
      · have hf := ite_p n57 hf
        exact G.mask [true, true, true, true] rfl rfl (b_L_law_1923 C hr L18 cv3 hf)
      · have hf := ite_n n57 hf
        refine r_iconst C dL_law_460 ?_
        obtain ⟨b58, hf⟩ := ck_s hf
        cases hf
        exact (law_no hr.2.2.2).elim
    rcases ite_s hf with ⟨n59, hf⟩ | ⟨n59, hf⟩
    · refine r_tsw C dL_law_33 (tgt := 462) (in32_t _) n59 rfl rfl (by decide) ?_
      refine r_aload_n C dL_law_462 rfl ?_
      refine r_aload_n C dL_law_463 rfl ?_
      refine r_iload_n C dL_law_464 rfl ?_
      refine r_iconst C dL_law_465 ?_
      refine r_iadd C dL_law_466 ?_
      obtain ⟨q60, hf⟩ := rd_s hf
      refine r_iald C dL_law_467 q60 rfl (fun c60 => ?_)
      refine r_aload_n C dL_law_468 rfl ?_
      refine r_iload_n C dL_law_469 rfl ?_
      refine r_iconst C dL_law_470 ?_
      refine r_iadd C dL_law_471 ?_
      obtain ⟨q61, hf⟩ := rd_s hf
      refine r_iald C dL_law_472 q61 rfl (fun c61 => ?_)
      obtain ⟨p62, hf⟩ := gk_s hf
      obtain ⟨r62, h62, hq62, hf⟩ := bd_s hf
      refine r_cV2 C (am_X11_force (gl g) n) cm_X11_force w_668 dL_law_473 ⟨Nat.le_of_ble_eq_true rfl, Nat.le_of_ble_eq_true rfl⟩ p62 rfl c60 c61 rfl (Nat.le_of_ble_eq_true rfl) hq62 (by decide) (fun c62 => ?_)
      have c62 : in32 _ := c62
      refine r_aload_n C dL_law_476 rfl ?_
      refine r_aload_n C dL_law_477 rfl ?_
      refine r_iload_n C dL_law_478 rfl ?_
      refine r_iconst C dL_law_479 ?_
      refine r_iadd C dL_law_480 ?_
      obtain ⟨q63, hf⟩ := rd_s hf
      refine r_iald C dL_law_481 q63 rfl (fun c63 => ?_)
      refine r_aload_n C dL_law_482 rfl ?_
      refine r_iload_n C dL_law_483 rfl ?_
      refine r_iconst C dL_law_484 ?_
      refine r_iadd C dL_law_485 ?_
      obtain ⟨q64, hf⟩ := rd_s hf
      refine r_iald C dL_law_486 q64 rfl (fun c64 => ?_)
      obtain ⟨p65, hf⟩ := gk_s hf
      obtain ⟨r65, h65, hq65, hf⟩ := bd_s hf
      refine r_cV2 C (am_X12_force (gl g) n) cm_X12_force w_1575 dL_law_487 ⟨Nat.le_of_ble_eq_true rfl, Nat.le_of_ble_eq_true rfl⟩ p65 rfl c63 c64 rfl (Nat.le_of_ble_eq_true rfl) hq65 (by decide) (fun c65 => ?_)
      have c65 : in32 _ := c65
      refine r_icmp_eq C dL_law_490 (tgt := 1923) (by decide) c62 c65 (fun n66 => ?_) (fun n66 => ?_)
      · have hf := ite_p n66 hf
        exact G.mask [true, true, true, true] rfl rfl (b_L_law_1923 C hr L18 cv3 hf)
      · have hf := ite_n n66 hf
        refine r_iconst C dL_law_493 ?_
        obtain ⟨b67, hf⟩ := ck_s hf
        cases hf
        exact (law_no hr.2.2.2).elim
    rcases ite_s hf with ⟨n68, hf⟩ | ⟨n68, hf⟩
    · refine r_tsw C dL_law_33 (tgt := 495) (in32_t _) n68 rfl rfl (by decide) ?_
      refine r_aload_n C dL_law_495 rfl ?_
      refine r_aload_n C dL_law_496 rfl ?_
      refine r_iload_n C dL_law_497 rfl ?_
      refine r_iconst C dL_law_498 ?_
      refine r_iadd C dL_law_499 ?_
      obtain ⟨q69, hf⟩ := rd_s hf
      refine r_iald C dL_law_500 q69 rfl (fun c69 => ?_)
      refine r_aload_n C dL_law_501 rfl ?_
      refine r_iload_n C dL_law_502 rfl ?_
      refine r_iconst C dL_law_503 ?_
      refine r_iadd C dL_law_504 ?_
      obtain ⟨q70, hf⟩ := rd_s hf
      refine r_iald C dL_law_505 q70 rfl (fun c70 => ?_)
      obtain ⟨p71, hf⟩ := gk_s hf
      obtain ⟨r71, h71, hq71, hf⟩ := bd_s hf
      refine r_cV2 C (am_X11_why (gl g) n) cm_X11_why w_687 dL_law_506 ⟨Nat.le_of_ble_eq_true rfl, Nat.le_of_ble_eq_true rfl⟩ p71 rfl c69 c70 rfl (Nat.le_of_ble_eq_true rfl) hq71 (by decide) (fun c71 => ?_)
      have c71 : in32 _ := c71
      refine r_aload_n C dL_law_509 rfl ?_
      refine r_aload_n C dL_law_510 rfl ?_
      refine r_iload_n C dL_law_511 rfl ?_
      refine r_iconst C dL_law_512 ?_
      refine r_iadd C dL_law_513 ?_
      obtain ⟨q72, hf⟩ := rd_s hf
      refine r_iald C dL_law_514 q72 rfl (fun c72 => ?_)
      refine r_aload_n C dL_law_515 rfl ?_
      refine r_iload_n C dL_law_516 rfl ?_
      refine r_iconst C dL_law_517 ?_
      refine r_iadd C dL_law_518 ?_
      obtain ⟨q73, hf⟩ := rd_s hf
      refine r_iald C dL_law_519 q73 rfl (fun c73 => ?_)
      obtain ⟨p74, hf⟩ := gk_s hf
      obtain ⟨r74, h74, hq74, hf⟩ := bd_s hf
      refine r_cV2 C (am_X12_why (gl g) n) cm_X12_why w_1587 dL_law_520 ⟨Nat.le_of_ble_eq_true rfl, Nat.le_of_ble_eq_true rfl⟩ p74 rfl c72 c73 rfl (Nat.le_of_ble_eq_true rfl) hq74 (by decide) (fun c74 => ?_)
      have c74 : in32 _ := c74
      refine r_icmp_eq C dL_law_523 (tgt := 1923) (by decide) c71 c74 (fun n75 => ?_) (fun n75 => ?_)
      · have hf := ite_p n75 hf
        exact G.mask [true, true, true, true] rfl rfl (b_L_law_1923 C hr L18 cv3 hf)
      · have hf := ite_n n75 hf
        refine r_iconst C dL_law_526 ?_
        obtain ⟨b76, hf⟩ := ck_s hf
        cases hf
        exact (law_no hr.2.2.2).elim
    rcases ite_s hf with ⟨n77, hf⟩ | ⟨n77, hf⟩
    · refine r_tsw C dL_law_33 (tgt := 528) (in32_t _) n77 rfl rfl (by decide) ?_
      refine r_aload_n C dL_law_528 rfl ?_
      refine r_aload_n C dL_law_529 rfl ?_
      refine r_iload_n C dL_law_530 rfl ?_
      refine r_iconst C dL_law_531 ?_
      refine r_iadd C dL_law_532 ?_
      obtain ⟨q78, hf⟩ := rd_s hf
      refine r_iald C dL_law_533 q78 rfl (fun c78 => ?_)
      refine r_aload_n C dL_law_534 rfl ?_
      refine r_iload_n C dL_law_535 rfl ?_
      refine r_iconst C dL_law_536 ?_
      refine r_iadd C dL_law_537 ?_
      obtain ⟨q79, hf⟩ := rd_s hf
      refine r_iald C dL_law_538 q79 rfl (fun c79 => ?_)
      refine r_aload_n C dL_law_539 rfl ?_
      refine r_iload_n C dL_law_540 rfl ?_
      refine r_iconst C dL_law_541 ?_
      refine r_iadd C dL_law_542 ?_
      obtain ⟨q80, hf⟩ := rd_s hf
      refine r_iald C dL_law_543 q80 rfl (fun c80 => ?_)
      refine r_aload_n C dL_law_544 rfl ?_
      refine r_iload_n C dL_law_545 rfl ?_
      refine r_iconst C dL_law_546 ?_
      refine r_iadd C dL_law_547 ?_
      obtain ⟨q81, hf⟩ := rd_s hf
      refine r_iald C dL_law_548 q81 rfl (fun c81 => ?_)
      obtain ⟨p82, hf⟩ := gk_s hf
      obtain ⟨r82, h82, hq82, hf⟩ := bd_s hf
      refine r_cV4 C (am_X11_scheme (gl g) n) cm_X11_scheme w_692 dL_law_549 ⟨Nat.le_of_ble_eq_true rfl, Nat.le_of_ble_eq_true rfl⟩ p82 rfl c78 c79 c80 c81 rfl (Nat.le_of_ble_eq_true rfl) hq82 (by decide) (fun c82 => ?_)
      have c82 : in32 _ := c82
      refine r_aload_n C dL_law_552 rfl ?_
      refine r_aload_n C dL_law_553 rfl ?_
      refine r_iload_n C dL_law_554 rfl ?_
      refine r_iconst C dL_law_555 ?_
      refine r_iadd C dL_law_556 ?_
      obtain ⟨q83, hf⟩ := rd_s hf
      refine r_iald C dL_law_557 q83 rfl (fun c83 => ?_)
      refine r_aload_n C dL_law_558 rfl ?_
      refine r_iload_n C dL_law_559 rfl ?_
      refine r_iconst C dL_law_560 ?_
      refine r_iadd C dL_law_561 ?_
      obtain ⟨q84, hf⟩ := rd_s hf
      refine r_iald C dL_law_562 q84 rfl (fun c84 => ?_)
      refine r_aload_n C dL_law_563 rfl ?_
      refine r_iload_n C dL_law_564 rfl ?_
      refine r_iconst C dL_law_565 ?_
      refine r_iadd C dL_law_566 ?_
      obtain ⟨q85, hf⟩ := rd_s hf
      refine r_iald C dL_law_567 q85 rfl (fun c85 => ?_)
      refine r_aload_n C dL_law_568 rfl ?_
      refine r_iload_n C dL_law_569 rfl ?_
      refine r_iconst C dL_law_570 ?_
      refine r_iadd C dL_law_571 ?_
      obtain ⟨q86, hf⟩ := rd_s hf
      refine r_iald C dL_law_572 q86 rfl (fun c86 => ?_)
      obtain ⟨p87, hf⟩ := gk_s hf
      obtain ⟨r87, h87, hq87, hf⟩ := bd_s hf
      refine r_cV4 C (am_X12_scheme (gl g) n) cm_X12_scheme w_1591 dL_law_573 ⟨Nat.le_of_ble_eq_true rfl, Nat.le_of_ble_eq_true rfl⟩ p87 rfl c83 c84 c85 c86 rfl (Nat.le_of_ble_eq_true rfl) hq87 (by decide) (fun c87 => ?_)
      have c87 : in32 _ := c87
      refine r_icmp_eq C dL_law_576 (tgt := 1923) (by decide) c82 c87 (fun n88 => ?_) (fun n88 => ?_)
      · have hf := ite_p n88 hf
        exact G.mask [true, true, true, true] rfl rfl (b_L_law_1923 C hr L18 cv3 hf)
      · have hf := ite_n n88 hf
        refine r_iconst C dL_law_579 ?_
        obtain ⟨b89, hf⟩ := ck_s hf
        cases hf
        exact (law_no hr.2.2.2).elim
    rcases ite_s hf with ⟨n90, hf⟩ | ⟨n90, hf⟩
    · refine r_tsw C dL_law_33 (tgt := 581) (in32_t _) n90 rfl rfl (by decide) ?_
      refine r_aload_n C dL_law_581 rfl ?_
      refine r_aload_n C dL_law_582 rfl ?_
      refine r_iload_n C dL_law_583 rfl ?_
      refine r_iconst C dL_law_584 ?_
      refine r_iadd C dL_law_585 ?_
      obtain ⟨q91, hf⟩ := rd_s hf
      refine r_iald C dL_law_586 q91 rfl (fun c91 => ?_)
      refine r_aload_n C dL_law_587 rfl ?_
      refine r_iload_n C dL_law_588 rfl ?_
      refine r_iconst C dL_law_589 ?_
      refine r_iadd C dL_law_590 ?_
      obtain ⟨q92, hf⟩ := rd_s hf
      refine r_iald C dL_law_591 q92 rfl (fun c92 => ?_)
      refine r_aload_n C dL_law_592 rfl ?_
      refine r_iload_n C dL_law_593 rfl ?_
      refine r_iconst C dL_law_594 ?_
      refine r_iadd C dL_law_595 ?_
      obtain ⟨q93, hf⟩ := rd_s hf
      refine r_iald C dL_law_596 q93 rfl (fun c93 => ?_)
      obtain ⟨p94, hf⟩ := gk_s hf
      obtain ⟨r94, h94, hq94, hf⟩ := bd_s hf
      refine r_cV3 C (am_X11_chain (gl g) n) cm_X11_chain w_794 dL_law_597 ⟨Nat.le_of_ble_eq_true rfl, Nat.le_of_ble_eq_true rfl⟩ p94 rfl c91 c92 c93 rfl (Nat.le_of_ble_eq_true rfl) hq94 (by decide) (fun c94 => ?_)
      have c94 : in32 _ := c94
      refine r_aload_n C dL_law_600 rfl ?_
      refine r_aload_n C dL_law_601 rfl ?_
      refine r_iload_n C dL_law_602 rfl ?_
      refine r_iconst C dL_law_603 ?_
      refine r_iadd C dL_law_604 ?_
      obtain ⟨q95, hf⟩ := rd_s hf
      refine r_iald C dL_law_605 q95 rfl (fun c95 => ?_)
      refine r_aload_n C dL_law_606 rfl ?_
      refine r_iload_n C dL_law_607 rfl ?_
      refine r_iconst C dL_law_608 ?_
      refine r_iadd C dL_law_609 ?_
      obtain ⟨q96, hf⟩ := rd_s hf
      refine r_iald C dL_law_610 q96 rfl (fun c96 => ?_)
      refine r_aload_n C dL_law_611 rfl ?_
      refine r_iload_n C dL_law_612 rfl ?_
      refine r_iconst C dL_law_613 ?_
      refine r_iadd C dL_law_614 ?_
      obtain ⟨q97, hf⟩ := rd_s hf
      refine r_iald C dL_law_615 q97 rfl (fun c97 => ?_)
      obtain ⟨p98, hf⟩ := gk_s hf
      obtain ⟨r98, h98, hq98, hf⟩ := bd_s hf
      refine r_cV3 C (am_X12_chain (gl g) n) cm_X12_chain w_1603 dL_law_616 ⟨Nat.le_of_ble_eq_true rfl, Nat.le_of_ble_eq_true rfl⟩ p98 rfl c95 c96 c97 rfl (Nat.le_of_ble_eq_true rfl) hq98 (by decide) (fun c98 => ?_)
      have c98 : in32 _ := c98
      refine r_icmp_eq C dL_law_619 (tgt := 1923) (by decide) c94 c98 (fun n99 => ?_) (fun n99 => ?_)
      · have hf := ite_p n99 hf
        exact G.mask [true, true, true, true] rfl rfl (b_L_law_1923 C hr L18 cv3 hf)
      · have hf := ite_n n99 hf
        refine r_iconst C dL_law_622 ?_
        obtain ⟨b100, hf⟩ := ck_s hf
        cases hf
        exact (law_no hr.2.2.2).elim
    rcases ite_s hf with ⟨n101, hf⟩ | ⟨n101, hf⟩
    · refine r_tsw C dL_law_33 (tgt := 624) (in32_t _) n101 rfl rfl (by decide) ?_
      refine r_aload_n C dL_law_624 rfl ?_
      refine r_aload_n C dL_law_625 rfl ?_
      refine r_iload_n C dL_law_626 rfl ?_
      refine r_iconst C dL_law_627 ?_
      refine r_iadd C dL_law_628 ?_
      obtain ⟨q102, hf⟩ := rd_s hf
      refine r_iald C dL_law_629 q102 rfl (fun c102 => ?_)
      refine r_aload_n C dL_law_630 rfl ?_
      refine r_iload_n C dL_law_631 rfl ?_
      refine r_iconst C dL_law_632 ?_
      refine r_iadd C dL_law_633 ?_
      obtain ⟨q103, hf⟩ := rd_s hf
      refine r_iald C dL_law_634 q103 rfl (fun c103 => ?_)
      obtain ⟨p104, hf⟩ := gk_s hf
      obtain ⟨r104, h104, hq104, hf⟩ := bd_s hf
      refine r_cV2 C (am_X11_way (gl g) n) cm_X11_way w_850 dL_law_635 ⟨Nat.le_of_ble_eq_true rfl, Nat.le_of_ble_eq_true rfl⟩ p104 rfl c102 c103 rfl (Nat.le_of_ble_eq_true rfl) hq104 (by decide) (fun c104 => ?_)
      have c104 : in32 _ := c104
      refine r_aload_n C dL_law_638 rfl ?_
      refine r_aload_n C dL_law_639 rfl ?_
      refine r_iload_n C dL_law_640 rfl ?_
      refine r_iconst C dL_law_641 ?_
      refine r_iadd C dL_law_642 ?_
      obtain ⟨q105, hf⟩ := rd_s hf
      refine r_iald C dL_law_643 q105 rfl (fun c105 => ?_)
      refine r_aload_n C dL_law_644 rfl ?_
      refine r_iload_n C dL_law_645 rfl ?_
      refine r_iconst C dL_law_646 ?_
      refine r_iadd C dL_law_647 ?_
      obtain ⟨q106, hf⟩ := rd_s hf
      refine r_iald C dL_law_648 q106 rfl (fun c106 => ?_)
      obtain ⟨p107, hf⟩ := gk_s hf
      obtain ⟨r107, h107, hq107, hf⟩ := bd_s hf
      refine r_cV2 C (am_X12_way (gl g) n) cm_X12_way w_1635 dL_law_649 ⟨Nat.le_of_ble_eq_true rfl, Nat.le_of_ble_eq_true rfl⟩ p107 rfl c105 c106 rfl (Nat.le_of_ble_eq_true rfl) hq107 (by decide) (fun c107 => ?_)
      have c107 : in32 _ := c107
      refine r_icmp_eq C dL_law_652 (tgt := 1923) (by decide) c104 c107 (fun n108 => ?_) (fun n108 => ?_)
      · have hf := ite_p n108 hf
        exact G.mask [true, true, true, true] rfl rfl (b_L_law_1923 C hr L18 cv3 hf)
      · have hf := ite_n n108 hf
        refine r_iconst C dL_law_655 ?_
        obtain ⟨b109, hf⟩ := ck_s hf
        cases hf
        exact (law_no hr.2.2.2).elim
    rcases ite_s hf with ⟨n110, hf⟩ | ⟨n110, hf⟩
    · refine r_tsw C dL_law_33 (tgt := 657) (in32_t _) n110 rfl rfl (by decide) ?_
      refine r_aload_n C dL_law_657 rfl ?_
      refine r_aload_n C dL_law_658 rfl ?_
      refine r_iload_n C dL_law_659 rfl ?_
      refine r_iconst C dL_law_660 ?_
      refine r_iadd C dL_law_661 ?_
      obtain ⟨q111, hf⟩ := rd_s hf
      refine r_iald C dL_law_662 q111 rfl (fun c111 => ?_)
      refine r_aload_n C dL_law_663 rfl ?_
      refine r_iload_n C dL_law_664 rfl ?_
      refine r_iconst C dL_law_665 ?_
      refine r_iadd C dL_law_666 ?_
      obtain ⟨q112, hf⟩ := rd_s hf
      refine r_iald C dL_law_667 q112 rfl (fun c112 => ?_)
      obtain ⟨p113, hf⟩ := gk_s hf
      obtain ⟨r113, h113, hq113, hf⟩ := bd_s hf
      refine r_cV2 C (am_X11_level (gl g) n) cm_X11_level w_870 dL_law_668 ⟨Nat.le_of_ble_eq_true rfl, Nat.le_of_ble_eq_true rfl⟩ p113 rfl c111 c112 rfl (Nat.le_of_ble_eq_true rfl) hq113 (by decide) (fun c113 => ?_)
      have c113 : in32 _ := c113
      refine r_aload_n C dL_law_671 rfl ?_
      refine r_aload_n C dL_law_672 rfl ?_
      refine r_iload_n C dL_law_673 rfl ?_
      refine r_iconst C dL_law_674 ?_
      refine r_iadd C dL_law_675 ?_
      obtain ⟨q114, hf⟩ := rd_s hf
      refine r_iald C dL_law_676 q114 rfl (fun c114 => ?_)
      refine r_aload_n C dL_law_677 rfl ?_
      refine r_iload_n C dL_law_678 rfl ?_
      refine r_iconst C dL_law_679 ?_
      refine r_iadd C dL_law_680 ?_
      obtain ⟨q115, hf⟩ := rd_s hf
      refine r_iald C dL_law_681 q115 rfl (fun c115 => ?_)
      obtain ⟨p116, hf⟩ := gk_s hf
      obtain ⟨r116, h116, hq116, hf⟩ := bd_s hf
      refine r_cV2 C (am_X12_level (gl g) n) cm_X12_level w_1650 dL_law_682 ⟨Nat.le_of_ble_eq_true rfl, Nat.le_of_ble_eq_true rfl⟩ p116 rfl c114 c115 rfl (Nat.le_of_ble_eq_true rfl) hq116 (by decide) (fun c116 => ?_)
      have c116 : in32 _ := c116
      refine r_icmp_eq C dL_law_685 (tgt := 1923) (by decide) c113 c116 (fun n117 => ?_) (fun n117 => ?_)
      · have hf := ite_p n117 hf
        exact G.mask [true, true, true, true] rfl rfl (b_L_law_1923 C hr L18 cv3 hf)
      · have hf := ite_n n117 hf
        refine r_iconst C dL_law_688 ?_
        obtain ⟨b118, hf⟩ := ck_s hf
        cases hf
        exact (law_no hr.2.2.2).elim
    rcases ite_s hf with ⟨n119, hf⟩ | ⟨n119, hf⟩
    · refine r_tsw C dL_law_33 (tgt := 690) (in32_t _) n119 rfl rfl (by decide) ?_
      refine r_aload_n C dL_law_690 rfl ?_
      refine r_aload_n C dL_law_691 rfl ?_
      refine r_iload_n C dL_law_692 rfl ?_
      refine r_iconst C dL_law_693 ?_
      refine r_iadd C dL_law_694 ?_
      obtain ⟨q120, hf⟩ := rd_s hf
      refine r_iald C dL_law_695 q120 rfl (fun c120 => ?_)
      refine r_aload_n C dL_law_696 rfl ?_
      refine r_iload_n C dL_law_697 rfl ?_
      refine r_iconst C dL_law_698 ?_
      refine r_iadd C dL_law_699 ?_
      obtain ⟨q121, hf⟩ := rd_s hf
      refine r_iald C dL_law_700 q121 rfl (fun c121 => ?_)
      refine r_aload_n C dL_law_701 rfl ?_
      refine r_iload_n C dL_law_702 rfl ?_
      refine r_iconst C dL_law_703 ?_
      refine r_iadd C dL_law_704 ?_
      obtain ⟨q122, hf⟩ := rd_s hf
      refine r_iald C dL_law_705 q122 rfl (fun c122 => ?_)
      obtain ⟨p123, hf⟩ := gk_s hf
      obtain ⟨r123, h123, hq123, hf⟩ := bd_s hf
      refine r_cV3 C (am_X11_close (gl g) n) cm_X11_close w_875 dL_law_706 ⟨Nat.le_of_ble_eq_true rfl, Nat.le_of_ble_eq_true rfl⟩ p123 rfl c120 c121 c122 rfl (Nat.le_of_ble_eq_true rfl) hq123 (by decide) (fun c123 => ?_)
      have c123 : in32 _ := c123
      refine r_aload_n C dL_law_709 rfl ?_
      refine r_aload_n C dL_law_710 rfl ?_
      refine r_iload_n C dL_law_711 rfl ?_
      refine r_iconst C dL_law_712 ?_
      refine r_iadd C dL_law_713 ?_
      obtain ⟨q124, hf⟩ := rd_s hf
      refine r_iald C dL_law_714 q124 rfl (fun c124 => ?_)
      refine r_aload_n C dL_law_715 rfl ?_
      refine r_iload_n C dL_law_716 rfl ?_
      refine r_iconst C dL_law_717 ?_
      refine r_iadd C dL_law_718 ?_
      obtain ⟨q125, hf⟩ := rd_s hf
      refine r_iald C dL_law_719 q125 rfl (fun c125 => ?_)
      refine r_aload_n C dL_law_720 rfl ?_
      refine r_iload_n C dL_law_721 rfl ?_
      refine r_iconst C dL_law_722 ?_
      refine r_iadd C dL_law_723 ?_
      obtain ⟨q126, hf⟩ := rd_s hf
      refine r_iald C dL_law_724 q126 rfl (fun c126 => ?_)
      obtain ⟨p127, hf⟩ := gk_s hf
      obtain ⟨r127, h127, hq127, hf⟩ := bd_s hf
      refine r_cV3 C (am_X12_close (gl g) n) cm_X12_close w_1654 dL_law_725 ⟨Nat.le_of_ble_eq_true rfl, Nat.le_of_ble_eq_true rfl⟩ p127 rfl c124 c125 c126 rfl (Nat.le_of_ble_eq_true rfl) hq127 (by decide) (fun c127 => ?_)
      have c127 : in32 _ := c127
      refine r_icmp_eq C dL_law_728 (tgt := 1923) (by decide) c123 c127 (fun n128 => ?_) (fun n128 => ?_)
      · have hf := ite_p n128 hf
        exact G.mask [true, true, true, true] rfl rfl (b_L_law_1923 C hr L18 cv3 hf)
      · have hf := ite_n n128 hf
        refine r_iconst C dL_law_731 ?_
        obtain ⟨b129, hf⟩ := ck_s hf
        cases hf
        exact (law_no hr.2.2.2).elim
    rcases ite_s hf with ⟨n130, hf⟩ | ⟨n130, hf⟩
    · refine r_tsw C dL_law_33 (tgt := 733) (in32_t _) n130 rfl rfl (by decide) ?_
      refine r_aload_n C dL_law_733 rfl ?_
      refine r_aload_n C dL_law_734 rfl ?_
      refine r_iload_n C dL_law_735 rfl ?_
      refine r_iconst C dL_law_736 ?_
      refine r_iadd C dL_law_737 ?_
      obtain ⟨q131, hf⟩ := rd_s hf
      refine r_iald C dL_law_738 q131 rfl (fun c131 => ?_)
      refine r_aload_n C dL_law_739 rfl ?_
      refine r_iload_n C dL_law_740 rfl ?_
      refine r_iconst C dL_law_741 ?_
      refine r_iadd C dL_law_742 ?_
      obtain ⟨q132, hf⟩ := rd_s hf
      refine r_iald C dL_law_743 q132 rfl (fun c132 => ?_)
      obtain ⟨p133, hf⟩ := gk_s hf
      obtain ⟨r133, h133, hq133, hf⟩ := bd_s hf
      refine r_cV2 C (am_X11_quarrel (gl g) n) cm_X11_quarrel w_890 dL_law_744 ⟨Nat.le_of_ble_eq_true rfl, Nat.le_of_ble_eq_true rfl⟩ p133 rfl c131 c132 rfl (Nat.le_of_ble_eq_true rfl) hq133 (by decide) (fun c133 => ?_)
      have c133 : in32 _ := c133
      refine r_aload_n C dL_law_747 rfl ?_
      refine r_aload_n C dL_law_748 rfl ?_
      refine r_iload_n C dL_law_749 rfl ?_
      refine r_iconst C dL_law_750 ?_
      refine r_iadd C dL_law_751 ?_
      obtain ⟨q134, hf⟩ := rd_s hf
      refine r_iald C dL_law_752 q134 rfl (fun c134 => ?_)
      refine r_aload_n C dL_law_753 rfl ?_
      refine r_iload_n C dL_law_754 rfl ?_
      refine r_iconst C dL_law_755 ?_
      refine r_iadd C dL_law_756 ?_
      obtain ⟨q135, hf⟩ := rd_s hf
      refine r_iald C dL_law_757 q135 rfl (fun c135 => ?_)
      obtain ⟨p136, hf⟩ := gk_s hf
      obtain ⟨r136, h136, hq136, hf⟩ := bd_s hf
      refine r_cV2 C (am_X12_quarrel (gl g) n) cm_X12_quarrel w_1666 dL_law_758 ⟨Nat.le_of_ble_eq_true rfl, Nat.le_of_ble_eq_true rfl⟩ p136 rfl c134 c135 rfl (Nat.le_of_ble_eq_true rfl) hq136 (by decide) (fun c136 => ?_)
      have c136 : in32 _ := c136
      refine r_icmp_eq C dL_law_761 (tgt := 1923) (by decide) c133 c136 (fun n137 => ?_) (fun n137 => ?_)
      · have hf := ite_p n137 hf
        exact G.mask [true, true, true, true] rfl rfl (b_L_law_1923 C hr L18 cv3 hf)
      · have hf := ite_n n137 hf
        refine r_iconst C dL_law_764 ?_
        obtain ⟨b138, hf⟩ := ck_s hf
        cases hf
        exact (law_no hr.2.2.2).elim
    rcases ite_s hf with ⟨n139, hf⟩ | ⟨n139, hf⟩
    · refine r_tsw C dL_law_33 (tgt := 766) (in32_t _) n139 rfl rfl (by decide) ?_
      refine r_aload_n C dL_law_766 rfl ?_
      refine r_aload_n C dL_law_767 rfl ?_
      refine r_iload_n C dL_law_768 rfl ?_
      refine r_iconst C dL_law_769 ?_
      refine r_iadd C dL_law_770 ?_
      obtain ⟨q140, hf⟩ := rd_s hf
      refine r_iald C dL_law_771 q140 rfl (fun c140 => ?_)
      refine r_aload_n C dL_law_772 rfl ?_
      refine r_iload_n C dL_law_773 rfl ?_
      refine r_iconst C dL_law_774 ?_
      refine r_iadd C dL_law_775 ?_
      obtain ⟨q141, hf⟩ := rd_s hf
      refine r_iald C dL_law_776 q141 rfl (fun c141 => ?_)
      refine r_aload_n C dL_law_777 rfl ?_
      refine r_iload_n C dL_law_778 rfl ?_
      refine r_iconst C dL_law_779 ?_
      refine r_iadd C dL_law_780 ?_
      obtain ⟨q142, hf⟩ := rd_s hf
      refine r_iald C dL_law_781 q142 rfl (fun c142 => ?_)
      refine r_aload_n C dL_law_782 rfl ?_
      refine r_iload_n C dL_law_783 rfl ?_
      refine r_iconst C dL_law_784 ?_
      refine r_iadd C dL_law_785 ?_
      obtain ⟨q143, hf⟩ := rd_s hf
      refine r_iald C dL_law_786 q143 rfl (fun c143 => ?_)
      obtain ⟨p144, hf⟩ := gk_s hf
      obtain ⟨r144, h144, hq144, hf⟩ := bd_s hf
      refine r_cV4 C (am_X11_slope (gl g) n) cm_X11_slope w_898 dL_law_787 ⟨Nat.le_of_ble_eq_true rfl, Nat.le_of_ble_eq_true rfl⟩ p144 rfl c140 c141 c142 c143 rfl (Nat.le_of_ble_eq_true rfl) hq144 (by decide) (fun c144 => ?_)
      have c144 : in32 _ := c144
      refine r_aload_n C dL_law_790 rfl ?_
      refine r_aload_n C dL_law_791 rfl ?_
      refine r_iload_n C dL_law_792 rfl ?_
      refine r_iconst C dL_law_793 ?_
      refine r_iadd C dL_law_794 ?_
      obtain ⟨q145, hf⟩ := rd_s hf
      refine r_iald C dL_law_795 q145 rfl (fun c145 => ?_)
      refine r_aload_n C dL_law_796 rfl ?_
      refine r_iload_n C dL_law_797 rfl ?_
      refine r_iconst C dL_law_798 ?_
      refine r_iadd C dL_law_799 ?_
      obtain ⟨q146, hf⟩ := rd_s hf
      refine r_iald C dL_law_800 q146 rfl (fun c146 => ?_)
      refine r_aload_n C dL_law_801 rfl ?_
      refine r_iload_n C dL_law_802 rfl ?_
      refine r_iconst C dL_law_803 ?_
      refine r_iadd C dL_law_804 ?_
      obtain ⟨q147, hf⟩ := rd_s hf
      refine r_iald C dL_law_805 q147 rfl (fun c147 => ?_)
      refine r_aload_n C dL_law_806 rfl ?_
      refine r_iload_n C dL_law_807 rfl ?_
      refine r_iconst C dL_law_808 ?_
      refine r_iadd C dL_law_809 ?_
      obtain ⟨q148, hf⟩ := rd_s hf
      refine r_iald C dL_law_810 q148 rfl (fun c148 => ?_)
      obtain ⟨p149, hf⟩ := gk_s hf
      obtain ⟨r149, h149, hq149, hf⟩ := bd_s hf
      refine r_cV4 C (am_X12_slope (gl g) n) cm_X12_slope w_1670 dL_law_811 ⟨Nat.le_of_ble_eq_true rfl, Nat.le_of_ble_eq_true rfl⟩ p149 rfl c145 c146 c147 c148 rfl (Nat.le_of_ble_eq_true rfl) hq149 (by decide) (fun c149 => ?_)
      have c149 : in32 _ := c149
      refine r_icmp_eq C dL_law_814 (tgt := 1923) (by decide) c144 c149 (fun n150 => ?_) (fun n150 => ?_)
      · have hf := ite_p n150 hf
        exact G.mask [true, true, true, true] rfl rfl (b_L_law_1923 C hr L18 cv3 hf)
      · have hf := ite_n n150 hf
        refine r_iconst C dL_law_817 ?_
        obtain ⟨b151, hf⟩ := ck_s hf
        cases hf
        exact (law_no hr.2.2.2).elim
    rcases ite_s hf with ⟨n152, hf⟩ | ⟨n152, hf⟩
    · refine r_tsw C dL_law_33 (tgt := 819) (in32_t _) n152 rfl rfl (by decide) ?_
      refine r_aload_n C dL_law_819 rfl ?_
      refine r_aload_n C dL_law_820 rfl ?_
      refine r_iload_n C dL_law_821 rfl ?_
      refine r_iconst C dL_law_822 ?_
      refine r_iadd C dL_law_823 ?_
      obtain ⟨q153, hf⟩ := rd_s hf
      refine r_iald C dL_law_824 q153 rfl (fun c153 => ?_)
      refine r_aload_n C dL_law_825 rfl ?_
      refine r_iload_n C dL_law_826 rfl ?_
      refine r_iconst C dL_law_827 ?_
      refine r_iadd C dL_law_828 ?_
      obtain ⟨q154, hf⟩ := rd_s hf
      refine r_iald C dL_law_829 q154 rfl (fun c154 => ?_)
      obtain ⟨p155, hf⟩ := gk_s hf
      obtain ⟨r155, h155, hq155, hf⟩ := bd_s hf
      refine r_cV2 C (am_X11_claim (gl g) n) cm_X11_claim w_937 dL_law_830 ⟨Nat.le_of_ble_eq_true rfl, Nat.le_of_ble_eq_true rfl⟩ p155 rfl c153 c154 rfl (Nat.le_of_ble_eq_true rfl) hq155 (by decide) (fun c155 => ?_)
      have c155 : in32 _ := c155
      refine r_aload_n C dL_law_833 rfl ?_
      refine r_aload_n C dL_law_834 rfl ?_
      refine r_iload_n C dL_law_835 rfl ?_
      refine r_iconst C dL_law_836 ?_
      refine r_iadd C dL_law_837 ?_
      obtain ⟨q156, hf⟩ := rd_s hf
      refine r_iald C dL_law_838 q156 rfl (fun c156 => ?_)
      refine r_aload_n C dL_law_839 rfl ?_
      refine r_iload_n C dL_law_840 rfl ?_
      refine r_iconst C dL_law_841 ?_
      refine r_iadd C dL_law_842 ?_
      obtain ⟨q157, hf⟩ := rd_s hf
      refine r_iald C dL_law_843 q157 rfl (fun c157 => ?_)
      obtain ⟨p158, hf⟩ := gk_s hf
      obtain ⟨r158, h158, hq158, hf⟩ := bd_s hf
      refine r_cV2 C (am_X12_claim (gl g) n) cm_X12_claim w_1682 dL_law_844 ⟨Nat.le_of_ble_eq_true rfl, Nat.le_of_ble_eq_true rfl⟩ p158 rfl c156 c157 rfl (Nat.le_of_ble_eq_true rfl) hq158 (by decide) (fun c158 => ?_)
      have c158 : in32 _ := c158
      refine r_icmp_eq C dL_law_847 (tgt := 1923) (by decide) c155 c158 (fun n159 => ?_) (fun n159 => ?_)
      · have hf := ite_p n159 hf
        exact G.mask [true, true, true, true] rfl rfl (b_L_law_1923 C hr L18 cv3 hf)
      · have hf := ite_n n159 hf
        refine r_iconst C dL_law_850 ?_
        obtain ⟨b160, hf⟩ := ck_s hf
        cases hf
        exact (law_no hr.2.2.2).elim
    rcases ite_s hf with ⟨n161, hf⟩ | ⟨n161, hf⟩
    · refine r_tsw C dL_law_33 (tgt := 852) (in32_t _) n161 rfl rfl (by decide) ?_
      refine r_aload_n C dL_law_852 rfl ?_
      refine r_aload_n C dL_law_853 rfl ?_
      refine r_iload_n C dL_law_854 rfl ?_
      refine r_iconst C dL_law_855 ?_
      refine r_iadd C dL_law_856 ?_
      obtain ⟨q162, hf⟩ := rd_s hf
      refine r_iald C dL_law_857 q162 rfl (fun c162 => ?_)
      obtain ⟨p163, hf⟩ := gk_s hf
      obtain ⟨r163, h163, hq163, hf⟩ := bd_s hf
      refine r_cV1 C (am_X11_bill (gl g) n) cm_X11_bill w_941 dL_law_858 ⟨Nat.le_of_ble_eq_true rfl, Nat.le_of_ble_eq_true rfl⟩ p163 rfl c162 rfl (Nat.le_of_ble_eq_true rfl) hq163 (by decide) (fun c163 => ?_)
      have c163 : in32 _ := c163
      refine r_aload_n C dL_law_861 rfl ?_
      refine r_aload_n C dL_law_862 rfl ?_
      refine r_iload_n C dL_law_863 rfl ?_
      refine r_iconst C dL_law_864 ?_
      refine r_iadd C dL_law_865 ?_
      obtain ⟨q164, hf⟩ := rd_s hf
      refine r_iald C dL_law_866 q164 rfl (fun c164 => ?_)
      obtain ⟨p165, hf⟩ := gk_s hf
      obtain ⟨r165, h165, hq165, hf⟩ := bd_s hf
      refine r_cV1 C (am_X12_bill (gl g) n) cm_X12_bill w_1686 dL_law_867 ⟨Nat.le_of_ble_eq_true rfl, Nat.le_of_ble_eq_true rfl⟩ p165 rfl c164 rfl (Nat.le_of_ble_eq_true rfl) hq165 (by decide) (fun c165 => ?_)
      have c165 : in32 _ := c165
      refine r_icmp_eq C dL_law_870 (tgt := 1923) (by decide) c163 c165 (fun n166 => ?_) (fun n166 => ?_)
      · have hf := ite_p n166 hf
        exact G.mask [true, true, true, true] rfl rfl (b_L_law_1923 C hr L18 cv3 hf)
      · have hf := ite_n n166 hf
        refine r_iconst C dL_law_873 ?_
        obtain ⟨b167, hf⟩ := ck_s hf
        cases hf
        exact (law_no hr.2.2.2).elim
    rcases ite_s hf with ⟨n168, hf⟩ | ⟨n168, hf⟩
    · refine r_tsw C dL_law_33 (tgt := 875) (in32_t _) n168 rfl rfl (by decide) ?_
      refine r_aload_n C dL_law_875 rfl ?_
      refine r_aload_n C dL_law_876 rfl ?_
      refine r_iload_n C dL_law_877 rfl ?_
      refine r_iconst C dL_law_878 ?_
      refine r_iadd C dL_law_879 ?_
      obtain ⟨q169, hf⟩ := rd_s hf
      refine r_iald C dL_law_880 q169 rfl (fun c169 => ?_)
      refine r_aload_n C dL_law_881 rfl ?_
      refine r_iload_n C dL_law_882 rfl ?_
      refine r_iconst C dL_law_883 ?_
      refine r_iadd C dL_law_884 ?_
      obtain ⟨q170, hf⟩ := rd_s hf
      refine r_iald C dL_law_885 q170 rfl (fun c170 => ?_)
      obtain ⟨p171, hf⟩ := gk_s hf
      obtain ⟨r171, h171, hq171, hf⟩ := bd_s hf
      refine r_cV2 C (am_X11_hear (gl g) n) cm_X11_hear w_960 dL_law_886 ⟨Nat.le_of_ble_eq_true rfl, Nat.le_of_ble_eq_true rfl⟩ p171 rfl c169 c170 rfl (Nat.le_of_ble_eq_true rfl) hq171 (by decide) (fun c171 => ?_)
      have c171 : in32 _ := c171
      refine r_aload_n C dL_law_889 rfl ?_
      refine r_aload_n C dL_law_890 rfl ?_
      refine r_iload_n C dL_law_891 rfl ?_
      refine r_iconst C dL_law_892 ?_
      refine r_iadd C dL_law_893 ?_
      obtain ⟨q172, hf⟩ := rd_s hf
      refine r_iald C dL_law_894 q172 rfl (fun c172 => ?_)
      refine r_aload_n C dL_law_895 rfl ?_
      refine r_iload_n C dL_law_896 rfl ?_
      refine r_iconst C dL_law_897 ?_
      refine r_iadd C dL_law_898 ?_
      obtain ⟨q173, hf⟩ := rd_s hf
      refine r_iald C dL_law_899 q173 rfl (fun c173 => ?_)
      obtain ⟨p174, hf⟩ := gk_s hf
      obtain ⟨r174, h174, hq174, hf⟩ := bd_s hf
      refine r_cV2 C (am_X12_hear (gl g) n) cm_X12_hear w_1690 dL_law_900 ⟨Nat.le_of_ble_eq_true rfl, Nat.le_of_ble_eq_true rfl⟩ p174 rfl c172 c173 rfl (Nat.le_of_ble_eq_true rfl) hq174 (by decide) (fun c174 => ?_)
      have c174 : in32 _ := c174
      refine r_icmp_eq C dL_law_903 (tgt := 1923) (by decide) c171 c174 (fun n175 => ?_) (fun n175 => ?_)
      · have hf := ite_p n175 hf
        exact G.mask [true, true, true, true] rfl rfl (b_L_law_1923 C hr L18 cv3 hf)
      · have hf := ite_n n175 hf
        refine r_iconst C dL_law_906 ?_
        obtain ⟨b176, hf⟩ := ck_s hf
        cases hf
        exact (law_no hr.2.2.2).elim
    rcases ite_s hf with ⟨n177, hf⟩ | ⟨n177, hf⟩
    · refine r_tsw C dL_law_33 (tgt := 908) (in32_t _) n177 rfl rfl (by decide) ?_
      refine r_aload_n C dL_law_908 rfl ?_
      refine r_aload_n C dL_law_909 rfl ?_
      refine r_iload_n C dL_law_910 rfl ?_
      refine r_iconst C dL_law_911 ?_
      refine r_iadd C dL_law_912 ?_
      obtain ⟨q178, hf⟩ := rd_s hf
      refine r_iald C dL_law_913 q178 rfl (fun c178 => ?_)
      refine r_aload_n C dL_law_914 rfl ?_
      refine r_iload_n C dL_law_915 rfl ?_
      refine r_iconst C dL_law_916 ?_
      refine r_iadd C dL_law_917 ?_
      obtain ⟨q179, hf⟩ := rd_s hf
      refine r_iald C dL_law_918 q179 rfl (fun c179 => ?_)
      obtain ⟨p180, hf⟩ := gk_s hf
      obtain ⟨r180, h180, hq180, hf⟩ := bd_s hf
      refine r_cV2 C (am_X11_bar (gl g) n) cm_X11_bar w_981 dL_law_919 ⟨Nat.le_of_ble_eq_true rfl, Nat.le_of_ble_eq_true rfl⟩ p180 rfl c178 c179 rfl (Nat.le_of_ble_eq_true rfl) hq180 (by decide) (fun c180 => ?_)
      have c180 : in32 _ := c180
      refine r_aload_n C dL_law_922 rfl ?_
      refine r_aload_n C dL_law_923 rfl ?_
      refine r_iload_n C dL_law_924 rfl ?_
      refine r_iconst C dL_law_925 ?_
      refine r_iadd C dL_law_926 ?_
      obtain ⟨q181, hf⟩ := rd_s hf
      refine r_iald C dL_law_927 q181 rfl (fun c181 => ?_)
      refine r_aload_n C dL_law_928 rfl ?_
      refine r_iload_n C dL_law_929 rfl ?_
      refine r_iconst C dL_law_930 ?_
      refine r_iadd C dL_law_931 ?_
      obtain ⟨q182, hf⟩ := rd_s hf
      refine r_iald C dL_law_932 q182 rfl (fun c182 => ?_)
      obtain ⟨p183, hf⟩ := gk_s hf
      obtain ⟨r183, h183, hq183, hf⟩ := bd_s hf
      refine r_cV2 C (am_X12_bar (gl g) n) cm_X12_bar w_1706 dL_law_933 ⟨Nat.le_of_ble_eq_true rfl, Nat.le_of_ble_eq_true rfl⟩ p183 rfl c181 c182 rfl (Nat.le_of_ble_eq_true rfl) hq183 (by decide) (fun c183 => ?_)
      have c183 : in32 _ := c183
      refine r_icmp_eq C dL_law_936 (tgt := 1923) (by decide) c180 c183 (fun n184 => ?_) (fun n184 => ?_)
      · have hf := ite_p n184 hf
        exact G.mask [true, true, true, true] rfl rfl (b_L_law_1923 C hr L18 cv3 hf)
      · have hf := ite_n n184 hf
        refine r_iconst C dL_law_939 ?_
        obtain ⟨b185, hf⟩ := ck_s hf
        cases hf
        exact (law_no hr.2.2.2).elim
    rcases ite_s hf with ⟨n186, hf⟩ | ⟨n186, hf⟩
    · refine r_tsw C dL_law_33 (tgt := 941) (in32_t _) n186 rfl rfl (by decide) ?_
      refine r_aload_n C dL_law_941 rfl ?_
      refine r_aload_n C dL_law_942 rfl ?_
      refine r_iload_n C dL_law_943 rfl ?_
      refine r_iconst C dL_law_944 ?_
      refine r_iadd C dL_law_945 ?_
      obtain ⟨q187, hf⟩ := rd_s hf
      refine r_iald C dL_law_946 q187 rfl (fun c187 => ?_)
      obtain ⟨p188, hf⟩ := gk_s hf
      obtain ⟨r188, h188, hq188, hf⟩ := bd_s hf
      refine r_cV1 C (am_X11_grant (gl g) n) cm_X11_grant w_989 dL_law_947 ⟨Nat.le_of_ble_eq_true rfl, Nat.le_of_ble_eq_true rfl⟩ p188 rfl c187 rfl (Nat.le_of_ble_eq_true rfl) hq188 (by decide) (fun c188 => ?_)
      have c188 : in32 _ := c188
      refine r_aload_n C dL_law_950 rfl ?_
      refine r_aload_n C dL_law_951 rfl ?_
      refine r_iload_n C dL_law_952 rfl ?_
      refine r_iconst C dL_law_953 ?_
      refine r_iadd C dL_law_954 ?_
      obtain ⟨q189, hf⟩ := rd_s hf
      refine r_iald C dL_law_955 q189 rfl (fun c189 => ?_)
      obtain ⟨p190, hf⟩ := gk_s hf
      obtain ⟨r190, h190, hq190, hf⟩ := bd_s hf
      refine r_cV1 C (am_X12_grant (gl g) n) cm_X12_grant w_1714 dL_law_956 ⟨Nat.le_of_ble_eq_true rfl, Nat.le_of_ble_eq_true rfl⟩ p190 rfl c189 rfl (Nat.le_of_ble_eq_true rfl) hq190 (by decide) (fun c190 => ?_)
      have c190 : in32 _ := c190
      refine r_icmp_eq C dL_law_959 (tgt := 1923) (by decide) c188 c190 (fun n191 => ?_) (fun n191 => ?_)
      · have hf := ite_p n191 hf
        exact G.mask [true, true, true, true] rfl rfl (b_L_law_1923 C hr L18 cv3 hf)
      · have hf := ite_n n191 hf
        refine r_iconst C dL_law_962 ?_
        obtain ⟨b192, hf⟩ := ck_s hf
        cases hf
        exact (law_no hr.2.2.2).elim
    rcases ite_s hf with ⟨n193, hf⟩ | ⟨n193, hf⟩
    · refine r_tsw C dL_law_33 (tgt := 964) (in32_t _) n193 rfl rfl (by decide) ?_
      refine r_aload_n C dL_law_964 rfl ?_
      refine r_aload_n C dL_law_965 rfl ?_
      refine r_iload_n C dL_law_966 rfl ?_
      refine r_iconst C dL_law_967 ?_
      refine r_iadd C dL_law_968 ?_
      obtain ⟨q194, hf⟩ := rd_s hf
      refine r_iald C dL_law_969 q194 rfl (fun c194 => ?_)
      refine r_aload_n C dL_law_970 rfl ?_
      refine r_iload_n C dL_law_971 rfl ?_
      refine r_iconst C dL_law_972 ?_
      refine r_iadd C dL_law_973 ?_
      obtain ⟨q195, hf⟩ := rd_s hf
      refine r_iald C dL_law_974 q195 rfl (fun c195 => ?_)
      obtain ⟨p196, hf⟩ := gk_s hf
      obtain ⟨r196, h196, hq196, hf⟩ := bd_s hf
      refine r_cV2 C (am_X11_cast (gl g) n) cm_X11_cast w_1014 dL_law_975 ⟨Nat.le_of_ble_eq_true rfl, Nat.le_of_ble_eq_true rfl⟩ p196 rfl c194 c195 rfl (Nat.le_of_ble_eq_true rfl) hq196 (by decide) (fun c196 => ?_)
      have c196 : in32 _ := c196
      refine r_aload_n C dL_law_978 rfl ?_
      refine r_aload_n C dL_law_979 rfl ?_
      refine r_iload_n C dL_law_980 rfl ?_
      refine r_iconst C dL_law_981 ?_
      refine r_iadd C dL_law_982 ?_
      obtain ⟨q197, hf⟩ := rd_s hf
      refine r_iald C dL_law_983 q197 rfl (fun c197 => ?_)
      refine r_aload_n C dL_law_984 rfl ?_
      refine r_iload_n C dL_law_985 rfl ?_
      refine r_iconst C dL_law_986 ?_
      refine r_iadd C dL_law_987 ?_
      obtain ⟨q198, hf⟩ := rd_s hf
      refine r_iald C dL_law_988 q198 rfl (fun c198 => ?_)
      obtain ⟨p199, hf⟩ := gk_s hf
      obtain ⟨r199, h199, hq199, hf⟩ := bd_s hf
      refine r_cV2 C (am_X12_cast (gl g) n) cm_X12_cast w_1726 dL_law_989 ⟨Nat.le_of_ble_eq_true rfl, Nat.le_of_ble_eq_true rfl⟩ p199 rfl c197 c198 rfl (Nat.le_of_ble_eq_true rfl) hq199 (by decide) (fun c199 => ?_)
      have c199 : in32 _ := c199
      refine r_icmp_eq C dL_law_992 (tgt := 1923) (by decide) c196 c199 (fun n200 => ?_) (fun n200 => ?_)
      · have hf := ite_p n200 hf
        exact G.mask [true, true, true, true] rfl rfl (b_L_law_1923 C hr L18 cv3 hf)
      · have hf := ite_n n200 hf
        refine r_iconst C dL_law_995 ?_
        obtain ⟨b201, hf⟩ := ck_s hf
        cases hf
        exact (law_no hr.2.2.2).elim
    rcases ite_s hf with ⟨n202, hf⟩ | ⟨n202, hf⟩
    · refine r_tsw C dL_law_33 (tgt := 997) (in32_t _) n202 rfl rfl (by decide) ?_
      refine r_aload_n C dL_law_997 rfl ?_
      refine r_aload_n C dL_law_998 rfl ?_
      refine r_iload_n C dL_law_999 rfl ?_
      refine r_iconst C dL_law_1000 ?_
      refine r_iadd C dL_law_1001 ?_
      obtain ⟨q203, hf⟩ := rd_s hf
      refine r_iald C dL_law_1002 q203 rfl (fun c203 => ?_)
      refine r_aload_n C dL_law_1003 rfl ?_
      refine r_iload_n C dL_law_1004 rfl ?_
      refine r_iconst C dL_law_1005 ?_
      refine r_iadd C dL_law_1006 ?_
      obtain ⟨q204, hf⟩ := rd_s hf
      refine r_iald C dL_law_1007 q204 rfl (fun c204 => ?_)
      obtain ⟨p205, hf⟩ := gk_s hf
      obtain ⟨r205, h205, hq205, hf⟩ := bd_s hf
      refine r_cV2 C (am_X11_about (gl g) n) cm_X11_about w_1036 dL_law_1008 ⟨Nat.le_of_ble_eq_true rfl, Nat.le_of_ble_eq_true rfl⟩ p205 rfl c203 c204 rfl (Nat.le_of_ble_eq_true rfl) hq205 (by decide) (fun c205 => ?_)
      have c205 : in32 _ := c205
      refine r_aload_n C dL_law_1011 rfl ?_
      refine r_aload_n C dL_law_1012 rfl ?_
      refine r_iload_n C dL_law_1013 rfl ?_
      refine r_iconst C dL_law_1014 ?_
      refine r_iadd C dL_law_1015 ?_
      obtain ⟨q206, hf⟩ := rd_s hf
      refine r_iald C dL_law_1016 q206 rfl (fun c206 => ?_)
      refine r_aload_n C dL_law_1017 rfl ?_
      refine r_iload_n C dL_law_1018 rfl ?_
      refine r_iconst C dL_law_1019 ?_
      refine r_iadd C dL_law_1020 ?_
      obtain ⟨q207, hf⟩ := rd_s hf
      refine r_iald C dL_law_1021 q207 rfl (fun c207 => ?_)
      obtain ⟨p208, hf⟩ := gk_s hf
      obtain ⟨r208, h208, hq208, hf⟩ := bd_s hf
      refine r_cV2 C (am_X12_about (gl g) n) cm_X12_about w_1737 dL_law_1022 ⟨Nat.le_of_ble_eq_true rfl, Nat.le_of_ble_eq_true rfl⟩ p208 rfl c206 c207 rfl (Nat.le_of_ble_eq_true rfl) hq208 (by decide) (fun c208 => ?_)
      have c208 : in32 _ := c208
      refine r_icmp_eq C dL_law_1025 (tgt := 1923) (by decide) c205 c208 (fun n209 => ?_) (fun n209 => ?_)
      · have hf := ite_p n209 hf
        exact G.mask [true, true, true, true] rfl rfl (b_L_law_1923 C hr L18 cv3 hf)
      · have hf := ite_n n209 hf
        refine r_iconst C dL_law_1028 ?_
        obtain ⟨b210, hf⟩ := ck_s hf
        cases hf
        exact (law_no hr.2.2.2).elim
    rcases ite_s hf with ⟨n211, hf⟩ | ⟨n211, hf⟩
    · refine r_tsw C dL_law_33 (tgt := 1030) (in32_t _) n211 rfl rfl (by decide) ?_
      refine r_aload_n C dL_law_1030 rfl ?_
      refine r_aload_n C dL_law_1031 rfl ?_
      refine r_iload_n C dL_law_1032 rfl ?_
      refine r_iconst C dL_law_1033 ?_
      refine r_iadd C dL_law_1034 ?_
      obtain ⟨q212, hf⟩ := rd_s hf
      refine r_iald C dL_law_1035 q212 rfl (fun c212 => ?_)
      refine r_aload_n C dL_law_1036 rfl ?_
      refine r_iload_n C dL_law_1037 rfl ?_
      refine r_iconst C dL_law_1038 ?_
      refine r_iadd C dL_law_1039 ?_
      obtain ⟨q213, hf⟩ := rd_s hf
      refine r_iald C dL_law_1040 q213 rfl (fun c213 => ?_)
      refine r_aload_n C dL_law_1041 rfl ?_
      refine r_iload_n C dL_law_1042 rfl ?_
      refine r_iconst C dL_law_1043 ?_
      refine r_iadd C dL_law_1044 ?_
      obtain ⟨q214, hf⟩ := rd_s hf
      refine r_iald C dL_law_1045 q214 rfl (fun c214 => ?_)
      refine r_if_eq C dL_law_1046 (tgt := 1053) (by decide) c214 (fun n215 => ?_) (fun n215 => ?_)
      · have hf := ite_p n215 hf
        refine r_iconst C dL_law_1053 ?_
        exact G.mask [true, true, true, true] rfl rfl (b_L_law_1054 C hr L18 cv3 c212 c213 (in32_of rfl) hf)
      · have hf := ite_n n215 hf
        refine r_iconst C dL_law_1049 ?_
        refine r_goto C dL_law_1050 (tgt := 1054) (by decide) ?_
        exact G.mask [true, true, true, true] rfl rfl (b_L_law_1054 C hr L18 cv3 c212 c213 (in32_of rfl) hf)
    rcases ite_s hf with ⟨n216, hf⟩ | ⟨n216, hf⟩
    · refine r_tsw C dL_law_33 (tgt := 1089) (in32_t _) n216 rfl rfl (by decide) ?_
      refine r_aload_n C dL_law_1089 rfl ?_
      obtain ⟨p217, hf⟩ := gk_s hf
      obtain ⟨r217, h217, hq217, hf⟩ := bd_s hf
      refine r_cV0 C (am_X11_doubled (gl g) n) cm_X11_doubled w_1048 dL_law_1090 ⟨Nat.le_of_ble_eq_true rfl, Nat.le_of_ble_eq_true rfl⟩ p217 rfl  rfl (Nat.le_of_ble_eq_true rfl) hq217 (by decide) (fun c217 => ?_)
      have c217 : in32 _ := c217
      refine r_aload_n C dL_law_1093 rfl ?_
      obtain ⟨p218, hf⟩ := gk_s hf
      obtain ⟨r218, h218, hq218, hf⟩ := bd_s hf
      refine r_cV0 C (am_X12_doubled (gl g) n) cm_X12_doubled w_1745 dL_law_1094 ⟨Nat.le_of_ble_eq_true rfl, Nat.le_of_ble_eq_true rfl⟩ p218 rfl  rfl (Nat.le_of_ble_eq_true rfl) hq218 (by decide) (fun c218 => ?_)
      have c218 : in32 _ := c218
      refine r_icmp_eq C dL_law_1097 (tgt := 1923) (by decide) c217 c218 (fun n219 => ?_) (fun n219 => ?_)
      · have hf := ite_p n219 hf
        exact G.mask [true, true, true, true] rfl rfl (b_L_law_1923 C hr L18 cv3 hf)
      · have hf := ite_n n219 hf
        refine r_iconst C dL_law_1100 ?_
        obtain ⟨b220, hf⟩ := ck_s hf
        cases hf
        exact (law_no hr.2.2.2).elim
    rcases ite_s hf with ⟨n221, hf⟩ | ⟨n221, hf⟩
    · refine r_tsw C dL_law_33 (tgt := 1102) (in32_t _) n221 rfl rfl (by decide) ?_
      refine r_aload_n C dL_law_1102 rfl ?_
      refine r_aload_n C dL_law_1103 rfl ?_
      refine r_iload_n C dL_law_1104 rfl ?_
      refine r_iconst C dL_law_1105 ?_
      refine r_iadd C dL_law_1106 ?_
      obtain ⟨q222, hf⟩ := rd_s hf
      refine r_iald C dL_law_1107 q222 rfl (fun c222 => ?_)
      refine r_aload_n C dL_law_1108 rfl ?_
      refine r_iload_n C dL_law_1109 rfl ?_
      refine r_iconst C dL_law_1110 ?_
      refine r_iadd C dL_law_1111 ?_
      obtain ⟨q223, hf⟩ := rd_s hf
      refine r_iald C dL_law_1112 q223 rfl (fun c223 => ?_)
      obtain ⟨p224, hf⟩ := gk_s hf
      obtain ⟨r224, h224, hq224, hf⟩ := bd_s hf
      refine r_cV2 C (am_X11_hand (gl g) n) cm_X11_hand w_1056 dL_law_1113 ⟨Nat.le_of_ble_eq_true rfl, Nat.le_of_ble_eq_true rfl⟩ p224 rfl c222 c223 rfl (Nat.le_of_ble_eq_true rfl) hq224 (by decide) (fun c224 => ?_)
      have c224 : in32 _ := c224
      refine r_aload_n C dL_law_1116 rfl ?_
      refine r_aload_n C dL_law_1117 rfl ?_
      refine r_iload_n C dL_law_1118 rfl ?_
      refine r_iconst C dL_law_1119 ?_
      refine r_iadd C dL_law_1120 ?_
      obtain ⟨q225, hf⟩ := rd_s hf
      refine r_iald C dL_law_1121 q225 rfl (fun c225 => ?_)
      refine r_aload_n C dL_law_1122 rfl ?_
      refine r_iload_n C dL_law_1123 rfl ?_
      refine r_iconst C dL_law_1124 ?_
      refine r_iadd C dL_law_1125 ?_
      obtain ⟨q226, hf⟩ := rd_s hf
      refine r_iald C dL_law_1126 q226 rfl (fun c226 => ?_)
      obtain ⟨p227, hf⟩ := gk_s hf
      obtain ⟨r227, h227, hq227, hf⟩ := bd_s hf
      refine r_cV2 C (am_X12_hand (gl g) n) cm_X12_hand w_1749 dL_law_1127 ⟨Nat.le_of_ble_eq_true rfl, Nat.le_of_ble_eq_true rfl⟩ p227 rfl c225 c226 rfl (Nat.le_of_ble_eq_true rfl) hq227 (by decide) (fun c227 => ?_)
      have c227 : in32 _ := c227
      refine r_icmp_eq C dL_law_1130 (tgt := 1923) (by decide) c224 c227 (fun n228 => ?_) (fun n228 => ?_)
      · have hf := ite_p n228 hf
        exact G.mask [true, true, true, true] rfl rfl (b_L_law_1923 C hr L18 cv3 hf)
      · have hf := ite_n n228 hf
        refine r_iconst C dL_law_1133 ?_
        obtain ⟨b229, hf⟩ := ck_s hf
        cases hf
        exact (law_no hr.2.2.2).elim
    rcases ite_s hf with ⟨n230, hf⟩ | ⟨n230, hf⟩
    · refine r_tsw C dL_law_33 (tgt := 1135) (in32_t _) n230 rfl rfl (by decide) ?_
      refine r_aload_n C dL_law_1135 rfl ?_
      refine r_aload_n C dL_law_1136 rfl ?_
      refine r_iload_n C dL_law_1137 rfl ?_
      refine r_iconst C dL_law_1138 ?_
      refine r_iadd C dL_law_1139 ?_
      obtain ⟨q231, hf⟩ := rd_s hf
      refine r_iald C dL_law_1140 q231 rfl (fun c231 => ?_)
      refine r_aload_n C dL_law_1141 rfl ?_
      refine r_iload_n C dL_law_1142 rfl ?_
      refine r_iconst C dL_law_1143 ?_
      refine r_iadd C dL_law_1144 ?_
      obtain ⟨q232, hf⟩ := rd_s hf
      refine r_iald C dL_law_1145 q232 rfl (fun c232 => ?_)
      obtain ⟨p233, hf⟩ := gk_s hf
      obtain ⟨r233, h233, hq233, hf⟩ := bd_s hf
      refine r_cV2 C (am_X11_midnight (gl g) n) cm_X11_midnight w_1064 dL_law_1146 ⟨Nat.le_of_ble_eq_true rfl, Nat.le_of_ble_eq_true rfl⟩ p233 rfl c231 c232 rfl (Nat.le_of_ble_eq_true rfl) hq233 (by decide) (fun c233 => ?_)
      have c233 : in32 _ := c233
      refine r_aload_n C dL_law_1149 rfl ?_
      refine r_aload_n C dL_law_1150 rfl ?_
      refine r_iload_n C dL_law_1151 rfl ?_
      refine r_iconst C dL_law_1152 ?_
      refine r_iadd C dL_law_1153 ?_
      obtain ⟨q234, hf⟩ := rd_s hf
      refine r_iald C dL_law_1154 q234 rfl (fun c234 => ?_)
      refine r_aload_n C dL_law_1155 rfl ?_
      refine r_iload_n C dL_law_1156 rfl ?_
      refine r_iconst C dL_law_1157 ?_
      refine r_iadd C dL_law_1158 ?_
      obtain ⟨q235, hf⟩ := rd_s hf
      refine r_iald C dL_law_1159 q235 rfl (fun c235 => ?_)
      obtain ⟨p236, hf⟩ := gk_s hf
      obtain ⟨r236, h236, hq236, hf⟩ := bd_s hf
      refine r_cV2 C (am_X12_midnight (gl g) n) cm_X12_midnight w_1753 dL_law_1160 ⟨Nat.le_of_ble_eq_true rfl, Nat.le_of_ble_eq_true rfl⟩ p236 rfl c234 c235 rfl (Nat.le_of_ble_eq_true rfl) hq236 (by decide) (fun c236 => ?_)
      have c236 : in32 _ := c236
      refine r_icmp_eq C dL_law_1163 (tgt := 1923) (by decide) c233 c236 (fun n237 => ?_) (fun n237 => ?_)
      · have hf := ite_p n237 hf
        exact G.mask [true, true, true, true] rfl rfl (b_L_law_1923 C hr L18 cv3 hf)
      · have hf := ite_n n237 hf
        refine r_iconst C dL_law_1166 ?_
        obtain ⟨b238, hf⟩ := ck_s hf
        cases hf
        exact (law_no hr.2.2.2).elim
    rcases ite_s hf with ⟨n239, hf⟩ | ⟨n239, hf⟩
    · refine r_tsw C dL_law_33 (tgt := 1168) (in32_t _) n239 rfl rfl (by decide) ?_
      refine r_aload_n C dL_law_1168 rfl ?_
      refine r_aload_n C dL_law_1169 rfl ?_
      refine r_iload_n C dL_law_1170 rfl ?_
      refine r_iconst C dL_law_1171 ?_
      refine r_iadd C dL_law_1172 ?_
      obtain ⟨q240, hf⟩ := rd_s hf
      refine r_iald C dL_law_1173 q240 rfl (fun c240 => ?_)
      refine r_aload_n C dL_law_1174 rfl ?_
      refine r_iload_n C dL_law_1175 rfl ?_
      refine r_iconst C dL_law_1176 ?_
      refine r_iadd C dL_law_1177 ?_
      obtain ⟨q241, hf⟩ := rd_s hf
      refine r_iald C dL_law_1178 q241 rfl (fun c241 => ?_)
      refine r_aload_n C dL_law_1179 rfl ?_
      refine r_iload_n C dL_law_1180 rfl ?_
      refine r_iconst C dL_law_1181 ?_
      refine r_iadd C dL_law_1182 ?_
      obtain ⟨q242, hf⟩ := rd_s hf
      refine r_iald C dL_law_1183 q242 rfl (fun c242 => ?_)
      obtain ⟨p243, hf⟩ := gk_s hf
      obtain ⟨r243, h243, hq243, hf⟩ := bd_s hf
      refine r_cV3 C (am_X11_scrip (gl g) n) cm_X11_scrip w_1093 dL_law_1184 ⟨Nat.le_of_ble_eq_true rfl, Nat.le_of_ble_eq_true rfl⟩ p243 rfl c240 c241 c242 rfl (Nat.le_of_ble_eq_true rfl) hq243 (by decide) (fun c243 => ?_)
      have c243 : in32 _ := c243
      refine r_aload_n C dL_law_1187 rfl ?_
      refine r_aload_n C dL_law_1188 rfl ?_
      refine r_iload_n C dL_law_1189 rfl ?_
      refine r_iconst C dL_law_1190 ?_
      refine r_iadd C dL_law_1191 ?_
      obtain ⟨q244, hf⟩ := rd_s hf
      refine r_iald C dL_law_1192 q244 rfl (fun c244 => ?_)
      refine r_aload_n C dL_law_1193 rfl ?_
      refine r_iload_n C dL_law_1194 rfl ?_
      refine r_iconst C dL_law_1195 ?_
      refine r_iadd C dL_law_1196 ?_
      obtain ⟨q245, hf⟩ := rd_s hf
      refine r_iald C dL_law_1197 q245 rfl (fun c245 => ?_)
      refine r_aload_n C dL_law_1198 rfl ?_
      refine r_iload_n C dL_law_1199 rfl ?_
      refine r_iconst C dL_law_1200 ?_
      refine r_iadd C dL_law_1201 ?_
      obtain ⟨q246, hf⟩ := rd_s hf
      refine r_iald C dL_law_1202 q246 rfl (fun c246 => ?_)
      obtain ⟨p247, hf⟩ := gk_s hf
      obtain ⟨r247, h247, hq247, hf⟩ := bd_s hf
      refine r_cV3 C (am_X12_scrip (gl g) n) cm_X12_scrip w_1761 dL_law_1203 ⟨Nat.le_of_ble_eq_true rfl, Nat.le_of_ble_eq_true rfl⟩ p247 rfl c244 c245 c246 rfl (Nat.le_of_ble_eq_true rfl) hq247 (by decide) (fun c247 => ?_)
      have c247 : in32 _ := c247
      refine r_icmp_eq C dL_law_1206 (tgt := 1923) (by decide) c243 c247 (fun n248 => ?_) (fun n248 => ?_)
      · have hf := ite_p n248 hf
        exact G.mask [true, true, true, true] rfl rfl (b_L_law_1923 C hr L18 cv3 hf)
      · have hf := ite_n n248 hf
        refine r_iconst C dL_law_1209 ?_
        obtain ⟨b249, hf⟩ := ck_s hf
        cases hf
        exact (law_no hr.2.2.2).elim
    rcases ite_s hf with ⟨n250, hf⟩ | ⟨n250, hf⟩
    · refine r_tsw C dL_law_33 (tgt := 1211) (in32_t _) n250 rfl rfl (by decide) ?_
      refine r_aload_n C dL_law_1211 rfl ?_
      refine r_aload_n C dL_law_1212 rfl ?_
      refine r_iload_n C dL_law_1213 rfl ?_
      refine r_iconst C dL_law_1214 ?_
      refine r_iadd C dL_law_1215 ?_
      obtain ⟨q251, hf⟩ := rd_s hf
      refine r_iald C dL_law_1216 q251 rfl (fun c251 => ?_)
      refine r_aload_n C dL_law_1217 rfl ?_
      refine r_iload_n C dL_law_1218 rfl ?_
      refine r_iconst C dL_law_1219 ?_
      refine r_iadd C dL_law_1220 ?_
      obtain ⟨q252, hf⟩ := rd_s hf
      refine r_iald C dL_law_1221 q252 rfl (fun c252 => ?_)
      obtain ⟨p253, hf⟩ := gk_s hf
      obtain ⟨r253, h253, hq253, hf⟩ := bd_s hf
      refine r_cV2 C (am_X11_held (gl g) n) cm_X11_held w_1105 dL_law_1222 ⟨Nat.le_of_ble_eq_true rfl, Nat.le_of_ble_eq_true rfl⟩ p253 rfl c251 c252 rfl (Nat.le_of_ble_eq_true rfl) hq253 (by decide) (fun c253 => ?_)
      have c253 : in32 _ := c253
      refine r_aload_n C dL_law_1225 rfl ?_
      refine r_aload_n C dL_law_1226 rfl ?_
      refine r_iload_n C dL_law_1227 rfl ?_
      refine r_iconst C dL_law_1228 ?_
      refine r_iadd C dL_law_1229 ?_
      obtain ⟨q254, hf⟩ := rd_s hf
      refine r_iald C dL_law_1230 q254 rfl (fun c254 => ?_)
      refine r_aload_n C dL_law_1231 rfl ?_
      refine r_iload_n C dL_law_1232 rfl ?_
      refine r_iconst C dL_law_1233 ?_
      refine r_iadd C dL_law_1234 ?_
      obtain ⟨q255, hf⟩ := rd_s hf
      refine r_iald C dL_law_1235 q255 rfl (fun c255 => ?_)
      obtain ⟨p256, hf⟩ := gk_s hf
      obtain ⟨r256, h256, hq256, hf⟩ := bd_s hf
      refine r_cV2 C (am_X12_held (gl g) n) cm_X12_held w_1781 dL_law_1236 ⟨Nat.le_of_ble_eq_true rfl, Nat.le_of_ble_eq_true rfl⟩ p256 rfl c254 c255 rfl (Nat.le_of_ble_eq_true rfl) hq256 (by decide) (fun c256 => ?_)
      have c256 : in32 _ := c256
      refine r_icmp_eq C dL_law_1239 (tgt := 1923) (by decide) c253 c256 (fun n257 => ?_) (fun n257 => ?_)
      · have hf := ite_p n257 hf
        exact G.mask [true, true, true, true] rfl rfl (b_L_law_1923 C hr L18 cv3 hf)
      · have hf := ite_n n257 hf
        refine r_iconst C dL_law_1242 ?_
        obtain ⟨b258, hf⟩ := ck_s hf
        cases hf
        exact (law_no hr.2.2.2).elim
    rcases ite_s hf with ⟨n259, hf⟩ | ⟨n259, hf⟩
    · refine r_tsw C dL_law_33 (tgt := 1244) (in32_t _) n259 rfl rfl (by decide) ?_
      refine r_aload_n C dL_law_1244 rfl ?_
      refine r_aload_n C dL_law_1245 rfl ?_
      refine r_iload_n C dL_law_1246 rfl ?_
      refine r_iconst C dL_law_1247 ?_
      refine r_iadd C dL_law_1248 ?_
      obtain ⟨q260, hf⟩ := rd_s hf
      refine r_iald C dL_law_1249 q260 rfl (fun c260 => ?_)
      refine r_aload_n C dL_law_1250 rfl ?_
      refine r_iload_n C dL_law_1251 rfl ?_
      refine r_iconst C dL_law_1252 ?_
      refine r_iadd C dL_law_1253 ?_
      obtain ⟨q261, hf⟩ := rd_s hf
      refine r_iald C dL_law_1254 q261 rfl (fun c261 => ?_)
      obtain ⟨p262, hf⟩ := gk_s hf
      obtain ⟨r262, h262, hq262, hf⟩ := bd_s hf
      refine r_cV2 C (am_X11_purse (gl g) n) cm_X11_purse w_1109 dL_law_1255 ⟨Nat.le_of_ble_eq_true rfl, Nat.le_of_ble_eq_true rfl⟩ p262 rfl c260 c261 rfl (Nat.le_of_ble_eq_true rfl) hq262 (by decide) (fun c262 => ?_)
      have c262 : in32 _ := c262
      refine r_aload_n C dL_law_1258 rfl ?_
      refine r_aload_n C dL_law_1259 rfl ?_
      refine r_iload_n C dL_law_1260 rfl ?_
      refine r_iconst C dL_law_1261 ?_
      refine r_iadd C dL_law_1262 ?_
      obtain ⟨q263, hf⟩ := rd_s hf
      refine r_iald C dL_law_1263 q263 rfl (fun c263 => ?_)
      refine r_aload_n C dL_law_1264 rfl ?_
      refine r_iload_n C dL_law_1265 rfl ?_
      refine r_iconst C dL_law_1266 ?_
      refine r_iadd C dL_law_1267 ?_
      obtain ⟨q264, hf⟩ := rd_s hf
      refine r_iald C dL_law_1268 q264 rfl (fun c264 => ?_)
      obtain ⟨p265, hf⟩ := gk_s hf
      obtain ⟨r265, h265, hq265, hf⟩ := bd_s hf
      refine r_cV2 C (am_X12_purse (gl g) n) cm_X12_purse w_1785 dL_law_1269 ⟨Nat.le_of_ble_eq_true rfl, Nat.le_of_ble_eq_true rfl⟩ p265 rfl c263 c264 rfl (Nat.le_of_ble_eq_true rfl) hq265 (by decide) (fun c265 => ?_)
      have c265 : in32 _ := c265
      refine r_icmp_eq C dL_law_1272 (tgt := 1923) (by decide) c262 c265 (fun n266 => ?_) (fun n266 => ?_)
      · have hf := ite_p n266 hf
        exact G.mask [true, true, true, true] rfl rfl (b_L_law_1923 C hr L18 cv3 hf)
      · have hf := ite_n n266 hf
        refine r_iconst C dL_law_1275 ?_
        obtain ⟨b267, hf⟩ := ck_s hf
        cases hf
        exact (law_no hr.2.2.2).elim
    rcases ite_s hf with ⟨n268, hf⟩ | ⟨n268, hf⟩
    · refine r_tsw C dL_law_33 (tgt := 1277) (in32_t _) n268 rfl rfl (by decide) ?_
      refine r_aload_n C dL_law_1277 rfl ?_
      refine r_aload_n C dL_law_1278 rfl ?_
      refine r_iload_n C dL_law_1279 rfl ?_
      refine r_iconst C dL_law_1280 ?_
      refine r_iadd C dL_law_1281 ?_
      obtain ⟨q269, hf⟩ := rd_s hf
      refine r_iald C dL_law_1282 q269 rfl (fun c269 => ?_)
      refine r_aload_n C dL_law_1283 rfl ?_
      refine r_iload_n C dL_law_1284 rfl ?_
      refine r_iconst C dL_law_1285 ?_
      refine r_iadd C dL_law_1286 ?_
      obtain ⟨q270, hf⟩ := rd_s hf
      refine r_iald C dL_law_1287 q270 rfl (fun c270 => ?_)
      refine r_aload_n C dL_law_1288 rfl ?_
      refine r_iload_n C dL_law_1289 rfl ?_
      refine r_iconst C dL_law_1290 ?_
      refine r_iadd C dL_law_1291 ?_
      obtain ⟨q271, hf⟩ := rd_s hf
      refine r_iald C dL_law_1292 q271 rfl (fun c271 => ?_)
      refine r_aload_n C dL_law_1293 rfl ?_
      refine r_iload_n C dL_law_1294 rfl ?_
      refine r_iconst C dL_law_1295 ?_
      refine r_iadd C dL_law_1296 ?_
      obtain ⟨q272, hf⟩ := rd_s hf
      refine r_iald C dL_law_1297 q272 rfl (fun c272 => ?_)
      refine r_aload_n C dL_law_1298 rfl ?_
      refine r_iload_n C dL_law_1299 rfl ?_
      refine r_iconst C dL_law_1300 ?_
      refine r_iadd C dL_law_1301 ?_
      obtain ⟨q273, hf⟩ := rd_s hf
      refine r_iald C dL_law_1302 q273 rfl (fun c273 => ?_)
      refine r_if_eq C dL_law_1303 (tgt := 1310) (by decide) c273 (fun n274 => ?_) (fun n274 => ?_)
      · have hf := ite_p n274 hf
        refine r_iconst C dL_law_1310 ?_
        exact G.mask [true, true, true, true] rfl rfl (b_L_law_1311 C hr L18 cv3 c269 c270 c271 c272 (in32_of rfl) hf)
      · have hf := ite_n n274 hf
        refine r_iconst C dL_law_1306 ?_
        refine r_goto C dL_law_1307 (tgt := 1311) (by decide) ?_
        exact G.mask [true, true, true, true] rfl rfl (b_L_law_1311 C hr L18 cv3 c269 c270 c271 c272 (in32_of rfl) hf)
    rcases ite_s hf with ⟨n275, hf⟩ | ⟨n275, hf⟩
    · refine r_tsw C dL_law_33 (tgt := 1356) (in32_t _) n275 rfl rfl (by decide) ?_
      refine r_aload_n C dL_law_1356 rfl ?_
      refine r_aload_n C dL_law_1357 rfl ?_
      refine r_iload_n C dL_law_1358 rfl ?_
      refine r_iconst C dL_law_1359 ?_
      refine r_iadd C dL_law_1360 ?_
      obtain ⟨q276, hf⟩ := rd_s hf
      refine r_iald C dL_law_1361 q276 rfl (fun c276 => ?_)
      obtain ⟨p277, hf⟩ := gk_s hf
      obtain ⟨r277, h277, hq277, hf⟩ := bd_s hf
      refine r_cV1 C (am_X11_price (gl g) n) cm_X11_price w_1125 dL_law_1362 ⟨Nat.le_of_ble_eq_true rfl, Nat.le_of_ble_eq_true rfl⟩ p277 rfl c276 rfl (Nat.le_of_ble_eq_true rfl) hq277 (by decide) (fun c277 => ?_)
      have c277 : in32 _ := c277
      refine r_aload_n C dL_law_1365 rfl ?_
      refine r_aload_n C dL_law_1366 rfl ?_
      refine r_iload_n C dL_law_1367 rfl ?_
      refine r_iconst C dL_law_1368 ?_
      refine r_iadd C dL_law_1369 ?_
      obtain ⟨q278, hf⟩ := rd_s hf
      refine r_iald C dL_law_1370 q278 rfl (fun c278 => ?_)
      obtain ⟨p279, hf⟩ := gk_s hf
      obtain ⟨r279, h279, hq279, hf⟩ := bd_s hf
      refine r_cV1 C (am_X12_price (gl g) n) cm_X12_price w_1793 dL_law_1371 ⟨Nat.le_of_ble_eq_true rfl, Nat.le_of_ble_eq_true rfl⟩ p279 rfl c278 rfl (Nat.le_of_ble_eq_true rfl) hq279 (by decide) (fun c279 => ?_)
      have c279 : in32 _ := c279
      refine r_icmp_eq C dL_law_1374 (tgt := 1923) (by decide) c277 c279 (fun n280 => ?_) (fun n280 => ?_)
      · have hf := ite_p n280 hf
        exact G.mask [true, true, true, true] rfl rfl (b_L_law_1923 C hr L18 cv3 hf)
      · have hf := ite_n n280 hf
        refine r_iconst C dL_law_1377 ?_
        obtain ⟨b281, hf⟩ := ck_s hf
        cases hf
        exact (law_no hr.2.2.2).elim
    rcases ite_s hf with ⟨n282, hf⟩ | ⟨n282, hf⟩
    · refine r_tsw C dL_law_33 (tgt := 1379) (in32_t _) n282 rfl rfl (by decide) ?_
      refine r_aload_n C dL_law_1379 rfl ?_
      refine r_aload_n C dL_law_1380 rfl ?_
      refine r_iload_n C dL_law_1381 rfl ?_
      refine r_iconst C dL_law_1382 ?_
      refine r_iadd C dL_law_1383 ?_
      obtain ⟨q283, hf⟩ := rd_s hf
      refine r_iald C dL_law_1384 q283 rfl (fun c283 => ?_)
      obtain ⟨p284, hf⟩ := gk_s hf
      obtain ⟨r284, h284, hq284, hf⟩ := bd_s hf
      refine r_cV1 C (am_X11_read (gl g) n) cm_X11_read w_1152 dL_law_1385 ⟨Nat.le_of_ble_eq_true rfl, Nat.le_of_ble_eq_true rfl⟩ p284 rfl c283 rfl (Nat.le_of_ble_eq_true rfl) hq284 (by decide) (fun c284 => ?_)
      have c284 : in32 _ := c284
      refine r_aload_n C dL_law_1388 rfl ?_
      refine r_aload_n C dL_law_1389 rfl ?_
      refine r_iload_n C dL_law_1390 rfl ?_
      refine r_iconst C dL_law_1391 ?_
      refine r_iadd C dL_law_1392 ?_
      obtain ⟨q285, hf⟩ := rd_s hf
      refine r_iald C dL_law_1393 q285 rfl (fun c285 => ?_)
      obtain ⟨p286, hf⟩ := gk_s hf
      obtain ⟨r286, h286, hq286, hf⟩ := bd_s hf
      refine r_cV1 C (am_X12_read (gl g) n) cm_X12_read w_1801 dL_law_1394 ⟨Nat.le_of_ble_eq_true rfl, Nat.le_of_ble_eq_true rfl⟩ p286 rfl c285 rfl (Nat.le_of_ble_eq_true rfl) hq286 (by decide) (fun c286 => ?_)
      have c286 : in32 _ := c286
      refine r_icmp_eq C dL_law_1397 (tgt := 1923) (by decide) c284 c286 (fun n287 => ?_) (fun n287 => ?_)
      · have hf := ite_p n287 hf
        exact G.mask [true, true, true, true] rfl rfl (b_L_law_1923 C hr L18 cv3 hf)
      · have hf := ite_n n287 hf
        refine r_iconst C dL_law_1400 ?_
        obtain ⟨b288, hf⟩ := ck_s hf
        cases hf
        exact (law_no hr.2.2.2).elim
    rcases ite_s hf with ⟨n289, hf⟩ | ⟨n289, hf⟩
    · refine r_tsw C dL_law_33 (tgt := 1402) (in32_t _) n289 rfl rfl (by decide) ?_
      refine r_aload_n C dL_law_1402 rfl ?_
      refine r_aload_n C dL_law_1403 rfl ?_
      refine r_iload_n C dL_law_1404 rfl ?_
      refine r_iconst C dL_law_1405 ?_
      refine r_iadd C dL_law_1406 ?_
      obtain ⟨q290, hf⟩ := rd_s hf
      refine r_iald C dL_law_1407 q290 rfl (fun c290 => ?_)
      refine r_aload_n C dL_law_1408 rfl ?_
      refine r_iload_n C dL_law_1409 rfl ?_
      refine r_iconst C dL_law_1410 ?_
      refine r_iadd C dL_law_1411 ?_
      obtain ⟨q291, hf⟩ := rd_s hf
      refine r_iald C dL_law_1412 q291 rfl (fun c291 => ?_)
      obtain ⟨p292, hf⟩ := gk_s hf
      obtain ⟨r292, h292, hq292, hf⟩ := bd_s hf
      refine r_cV2 C (am_X11_call (gl g) n) cm_X11_call w_1156 dL_law_1413 ⟨Nat.le_of_ble_eq_true rfl, Nat.le_of_ble_eq_true rfl⟩ p292 rfl c290 c291 rfl (Nat.le_of_ble_eq_true rfl) hq292 (by decide) (fun c292 => ?_)
      have c292 : in32 _ := c292
      refine r_aload_n C dL_law_1416 rfl ?_
      refine r_aload_n C dL_law_1417 rfl ?_
      refine r_iload_n C dL_law_1418 rfl ?_
      refine r_iconst C dL_law_1419 ?_
      refine r_iadd C dL_law_1420 ?_
      obtain ⟨q293, hf⟩ := rd_s hf
      refine r_iald C dL_law_1421 q293 rfl (fun c293 => ?_)
      refine r_aload_n C dL_law_1422 rfl ?_
      refine r_iload_n C dL_law_1423 rfl ?_
      refine r_iconst C dL_law_1424 ?_
      refine r_iadd C dL_law_1425 ?_
      obtain ⟨q294, hf⟩ := rd_s hf
      refine r_iald C dL_law_1426 q294 rfl (fun c294 => ?_)
      obtain ⟨p295, hf⟩ := gk_s hf
      obtain ⟨r295, h295, hq295, hf⟩ := bd_s hf
      refine r_cV2 C (am_X12_call (gl g) n) cm_X12_call w_1805 dL_law_1427 ⟨Nat.le_of_ble_eq_true rfl, Nat.le_of_ble_eq_true rfl⟩ p295 rfl c293 c294 rfl (Nat.le_of_ble_eq_true rfl) hq295 (by decide) (fun c295 => ?_)
      have c295 : in32 _ := c295
      refine r_icmp_eq C dL_law_1430 (tgt := 1923) (by decide) c292 c295 (fun n296 => ?_) (fun n296 => ?_)
      · have hf := ite_p n296 hf
        exact G.mask [true, true, true, true] rfl rfl (b_L_law_1923 C hr L18 cv3 hf)
      · have hf := ite_n n296 hf
        refine r_iconst C dL_law_1433 ?_
        obtain ⟨b297, hf⟩ := ck_s hf
        cases hf
        exact (law_no hr.2.2.2).elim
    rcases ite_s hf with ⟨n298, hf⟩ | ⟨n298, hf⟩
    · refine r_tsw C dL_law_33 (tgt := 1435) (in32_t _) n298 rfl rfl (by decide) ?_
      refine r_aload_n C dL_law_1435 rfl ?_
      refine r_aload_n C dL_law_1436 rfl ?_
      refine r_iload_n C dL_law_1437 rfl ?_
      refine r_iconst C dL_law_1438 ?_
      refine r_iadd C dL_law_1439 ?_
      obtain ⟨q299, hf⟩ := rd_s hf
      refine r_iald C dL_law_1440 q299 rfl (fun c299 => ?_)
      refine r_aload_n C dL_law_1441 rfl ?_
      refine r_iload_n C dL_law_1442 rfl ?_
      refine r_iconst C dL_law_1443 ?_
      refine r_iadd C dL_law_1444 ?_
      obtain ⟨q300, hf⟩ := rd_s hf
      refine r_iald C dL_law_1445 q300 rfl (fun c300 => ?_)
      refine r_aload_n C dL_law_1446 rfl ?_
      refine r_iload_n C dL_law_1447 rfl ?_
      refine r_iconst C dL_law_1448 ?_
      refine r_iadd C dL_law_1449 ?_
      obtain ⟨q301, hf⟩ := rd_s hf
      refine r_iald C dL_law_1450 q301 rfl (fun c301 => ?_)
      obtain ⟨p302, hf⟩ := gk_s hf
      obtain ⟨r302, h302, hq302, hf⟩ := bd_s hf
      refine r_cV3 C (am_X11_lend (gl g) n) cm_X11_lend w_1168 dL_law_1451 ⟨Nat.le_of_ble_eq_true rfl, Nat.le_of_ble_eq_true rfl⟩ p302 rfl c299 c300 c301 rfl (Nat.le_of_ble_eq_true rfl) hq302 (by decide) (fun c302 => ?_)
      have c302 : in32 _ := c302
      refine r_aload_n C dL_law_1454 rfl ?_
      refine r_aload_n C dL_law_1455 rfl ?_
      refine r_iload_n C dL_law_1456 rfl ?_
      refine r_iconst C dL_law_1457 ?_
      refine r_iadd C dL_law_1458 ?_
      obtain ⟨q303, hf⟩ := rd_s hf
      refine r_iald C dL_law_1459 q303 rfl (fun c303 => ?_)
      refine r_aload_n C dL_law_1460 rfl ?_
      refine r_iload_n C dL_law_1461 rfl ?_
      refine r_iconst C dL_law_1462 ?_
      refine r_iadd C dL_law_1463 ?_
      obtain ⟨q304, hf⟩ := rd_s hf
      refine r_iald C dL_law_1464 q304 rfl (fun c304 => ?_)
      refine r_aload_n C dL_law_1465 rfl ?_
      refine r_iload_n C dL_law_1466 rfl ?_
      refine r_iconst C dL_law_1467 ?_
      refine r_iadd C dL_law_1468 ?_
      obtain ⟨q305, hf⟩ := rd_s hf
      refine r_iald C dL_law_1469 q305 rfl (fun c305 => ?_)
      obtain ⟨p306, hf⟩ := gk_s hf
      obtain ⟨r306, h306, hq306, hf⟩ := bd_s hf
      refine r_cV3 C (am_X12_lend (gl g) n) cm_X12_lend w_1809 dL_law_1470 ⟨Nat.le_of_ble_eq_true rfl, Nat.le_of_ble_eq_true rfl⟩ p306 rfl c303 c304 c305 rfl (Nat.le_of_ble_eq_true rfl) hq306 (by decide) (fun c306 => ?_)
      have c306 : in32 _ := c306
      refine r_icmp_eq C dL_law_1473 (tgt := 1923) (by decide) c302 c306 (fun n307 => ?_) (fun n307 => ?_)
      · have hf := ite_p n307 hf
        exact G.mask [true, true, true, true] rfl rfl (b_L_law_1923 C hr L18 cv3 hf)
      · have hf := ite_n n307 hf
        refine r_iconst C dL_law_1476 ?_
        obtain ⟨b308, hf⟩ := ck_s hf
        cases hf
        exact (law_no hr.2.2.2).elim
    rcases ite_s hf with ⟨n309, hf⟩ | ⟨n309, hf⟩
    · refine r_tsw C dL_law_33 (tgt := 1478) (in32_t _) n309 rfl rfl (by decide) ?_
      refine r_aload_n C dL_law_1478 rfl ?_
      obtain ⟨p310, hf⟩ := gk_s hf
      obtain ⟨r310, h310, hq310, hf⟩ := bd_s hf
      refine r_cV0 C (am_X11_settle (gl g) n) cm_X11_settle w_1172 dL_law_1479 ⟨Nat.le_of_ble_eq_true rfl, Nat.le_of_ble_eq_true rfl⟩ p310 rfl  rfl (Nat.le_of_ble_eq_true rfl) hq310 (by decide) (fun c310 => ?_)
      have c310 : in32 _ := c310
      refine r_aload_n C dL_law_1482 rfl ?_
      obtain ⟨p311, hf⟩ := gk_s hf
      obtain ⟨r311, h311, hq311, hf⟩ := bd_s hf
      refine r_cV0 C (am_X12_settle (gl g) n) cm_X12_settle w_1829 dL_law_1483 ⟨Nat.le_of_ble_eq_true rfl, Nat.le_of_ble_eq_true rfl⟩ p311 rfl  rfl (Nat.le_of_ble_eq_true rfl) hq311 (by decide) (fun c311 => ?_)
      have c311 : in32 _ := c311
      refine r_icmp_eq C dL_law_1486 (tgt := 1923) (by decide) c310 c311 (fun n312 => ?_) (fun n312 => ?_)
      · have hf := ite_p n312 hf
        exact G.mask [true, true, true, true] rfl rfl (b_L_law_1923 C hr L18 cv3 hf)
      · have hf := ite_n n312 hf
        refine r_iconst C dL_law_1489 ?_
        obtain ⟨b313, hf⟩ := ck_s hf
        cases hf
        exact (law_no hr.2.2.2).elim
    rcases ite_s hf with ⟨n314, hf⟩ | ⟨n314, hf⟩
    · refine r_tsw C dL_law_33 (tgt := 1491) (in32_t _) n314 rfl rfl (by decide) ?_
      refine r_aload_n C dL_law_1491 rfl ?_
      refine r_aload_n C dL_law_1492 rfl ?_
      refine r_iload_n C dL_law_1493 rfl ?_
      refine r_iconst C dL_law_1494 ?_
      refine r_iadd C dL_law_1495 ?_
      obtain ⟨q315, hf⟩ := rd_s hf
      refine r_iald C dL_law_1496 q315 rfl (fun c315 => ?_)
      refine r_aload_n C dL_law_1497 rfl ?_
      refine r_iload_n C dL_law_1498 rfl ?_
      refine r_iconst C dL_law_1499 ?_
      refine r_iadd C dL_law_1500 ?_
      obtain ⟨q316, hf⟩ := rd_s hf
      refine r_iald C dL_law_1501 q316 rfl (fun c316 => ?_)
      obtain ⟨p317, hf⟩ := gk_s hf
      obtain ⟨r317, h317, hq317, hf⟩ := bd_s hf
      refine r_cV2 C (am_X11_along (gl g) n) cm_X11_along w_1224 dL_law_1502 ⟨Nat.le_of_ble_eq_true rfl, Nat.le_of_ble_eq_true rfl⟩ p317 rfl c315 c316 rfl (Nat.le_of_ble_eq_true rfl) hq317 (by decide) (fun c317 => ?_)
      have c317 : in32 _ := c317
      refine r_aload_n C dL_law_1505 rfl ?_
      refine r_aload_n C dL_law_1506 rfl ?_
      refine r_iload_n C dL_law_1507 rfl ?_
      refine r_iconst C dL_law_1508 ?_
      refine r_iadd C dL_law_1509 ?_
      obtain ⟨q318, hf⟩ := rd_s hf
      refine r_iald C dL_law_1510 q318 rfl (fun c318 => ?_)
      refine r_aload_n C dL_law_1511 rfl ?_
      refine r_iload_n C dL_law_1512 rfl ?_
      refine r_iconst C dL_law_1513 ?_
      refine r_iadd C dL_law_1514 ?_
      obtain ⟨q319, hf⟩ := rd_s hf
      refine r_iald C dL_law_1515 q319 rfl (fun c319 => ?_)
      obtain ⟨p320, hf⟩ := gk_s hf
      obtain ⟨r320, h320, hq320, hf⟩ := bd_s hf
      refine r_cV2 C (am_X12_along (gl g) n) cm_X12_along w_1813 dL_law_1516 ⟨Nat.le_of_ble_eq_true rfl, Nat.le_of_ble_eq_true rfl⟩ p320 rfl c318 c319 rfl (Nat.le_of_ble_eq_true rfl) hq320 (by decide) (fun c320 => ?_)
      have c320 : in32 _ := c320
      refine r_icmp_eq C dL_law_1519 (tgt := 1923) (by decide) c317 c320 (fun n321 => ?_) (fun n321 => ?_)
      · have hf := ite_p n321 hf
        exact G.mask [true, true, true, true] rfl rfl (b_L_law_1923 C hr L18 cv3 hf)
      · have hf := ite_n n321 hf
        refine r_iconst C dL_law_1522 ?_
        obtain ⟨b322, hf⟩ := ck_s hf
        cases hf
        exact (law_no hr.2.2.2).elim
    rcases ite_s hf with ⟨n323, hf⟩ | ⟨n323, hf⟩
    · refine r_tsw C dL_law_33 (tgt := 1524) (in32_t _) n323 rfl rfl (by decide) ?_
      refine r_aload_n C dL_law_1524 rfl ?_
      refine r_aload_n C dL_law_1525 rfl ?_
      refine r_iload_n C dL_law_1526 rfl ?_
      refine r_iconst C dL_law_1527 ?_
      refine r_iadd C dL_law_1528 ?_
      obtain ⟨q324, hf⟩ := rd_s hf
      refine r_iald C dL_law_1529 q324 rfl (fun c324 => ?_)
      obtain ⟨p325, hf⟩ := gk_s hf
      obtain ⟨r325, h325, hq325, hf⟩ := bd_s hf
      refine r_cV1 C (am_X11_dig (gl g) n) cm_X11_dig w_1229 dL_law_1530 ⟨Nat.le_of_ble_eq_true rfl, Nat.le_of_ble_eq_true rfl⟩ p325 rfl c324 rfl (Nat.le_of_ble_eq_true rfl) hq325 (by decide) (fun c325 => ?_)
      have c325 : in32 _ := c325
      refine r_aload_n C dL_law_1533 rfl ?_
      refine r_aload_n C dL_law_1534 rfl ?_
      refine r_iload_n C dL_law_1535 rfl ?_
      refine r_iconst C dL_law_1536 ?_
      refine r_iadd C dL_law_1537 ?_
      obtain ⟨q326, hf⟩ := rd_s hf
      refine r_iald C dL_law_1538 q326 rfl (fun c326 => ?_)
      obtain ⟨p327, hf⟩ := gk_s hf
      obtain ⟨r327, h327, hq327, hf⟩ := bd_s hf
      refine r_cV1 C (am_X12_dig (gl g) n) cm_X12_dig w_1833 dL_law_1539 ⟨Nat.le_of_ble_eq_true rfl, Nat.le_of_ble_eq_true rfl⟩ p327 rfl c326 rfl (Nat.le_of_ble_eq_true rfl) hq327 (by decide) (fun c327 => ?_)
      have c327 : in32 _ := c327
      refine r_icmp_eq C dL_law_1542 (tgt := 1923) (by decide) c325 c327 (fun n328 => ?_) (fun n328 => ?_)
      · have hf := ite_p n328 hf
        exact G.mask [true, true, true, true] rfl rfl (b_L_law_1923 C hr L18 cv3 hf)
      · have hf := ite_n n328 hf
        refine r_iconst C dL_law_1545 ?_
        obtain ⟨b329, hf⟩ := ck_s hf
        cases hf
        exact (law_no hr.2.2.2).elim
    rcases ite_s hf with ⟨n330, hf⟩ | ⟨n330, hf⟩
    · refine r_tsw C dL_law_33 (tgt := 1547) (in32_t _) n330 rfl rfl (by decide) ?_
      refine r_aload_n C dL_law_1547 rfl ?_
      refine r_aload_n C dL_law_1548 rfl ?_
      refine r_iload_n C dL_law_1549 rfl ?_
      refine r_iconst C dL_law_1550 ?_
      refine r_iadd C dL_law_1551 ?_
      obtain ⟨q331, hf⟩ := rd_s hf
      refine r_iald C dL_law_1552 q331 rfl (fun c331 => ?_)
      refine r_aload_n C dL_law_1553 rfl ?_
      refine r_iload_n C dL_law_1554 rfl ?_
      refine r_iconst C dL_law_1555 ?_
      refine r_iadd C dL_law_1556 ?_
      obtain ⟨q332, hf⟩ := rd_s hf
      refine r_iald C dL_law_1557 q332 rfl (fun c332 => ?_)
      obtain ⟨p333, hf⟩ := gk_s hf
      obtain ⟨r333, h333, hq333, hf⟩ := bd_s hf
      refine r_cV2 C (am_X11_last (gl g) n) cm_X11_last w_1254 dL_law_1558 ⟨Nat.le_of_ble_eq_true rfl, Nat.le_of_ble_eq_true rfl⟩ p333 rfl c331 c332 rfl (Nat.le_of_ble_eq_true rfl) hq333 (by decide) (fun c333 => ?_)
      have c333 : in32 _ := c333
      refine r_aload_n C dL_law_1561 rfl ?_
      refine r_aload_n C dL_law_1562 rfl ?_
      refine r_iload_n C dL_law_1563 rfl ?_
      refine r_iconst C dL_law_1564 ?_
      refine r_iadd C dL_law_1565 ?_
      obtain ⟨q334, hf⟩ := rd_s hf
      refine r_iald C dL_law_1566 q334 rfl (fun c334 => ?_)
      refine r_aload_n C dL_law_1567 rfl ?_
      refine r_iload_n C dL_law_1568 rfl ?_
      refine r_iconst C dL_law_1569 ?_
      refine r_iadd C dL_law_1570 ?_
      obtain ⟨q335, hf⟩ := rd_s hf
      refine r_iald C dL_law_1571 q335 rfl (fun c335 => ?_)
      obtain ⟨p336, hf⟩ := gk_s hf
      obtain ⟨r336, h336, hq336, hf⟩ := bd_s hf
      refine r_cV2 C (am_X12_last (gl g) n) cm_X12_last w_1845 dL_law_1572 ⟨Nat.le_of_ble_eq_true rfl, Nat.le_of_ble_eq_true rfl⟩ p336 rfl c334 c335 rfl (Nat.le_of_ble_eq_true rfl) hq336 (by decide) (fun c336 => ?_)
      have c336 : in32 _ := c336
      refine r_icmp_eq C dL_law_1575 (tgt := 1923) (by decide) c333 c336 (fun n337 => ?_) (fun n337 => ?_)
      · have hf := ite_p n337 hf
        exact G.mask [true, true, true, true] rfl rfl (b_L_law_1923 C hr L18 cv3 hf)
      · have hf := ite_n n337 hf
        refine r_iconst C dL_law_1578 ?_
        obtain ⟨b338, hf⟩ := ck_s hf
        cases hf
        exact (law_no hr.2.2.2).elim
    rcases ite_s hf with ⟨n339, hf⟩ | ⟨n339, hf⟩
    · refine r_tsw C dL_law_33 (tgt := 1580) (in32_t _) n339 rfl rfl (by decide) ?_
      refine r_aload_n C dL_law_1580 rfl ?_
      obtain ⟨p340, hf⟩ := gk_s hf
      obtain ⟨r340, h340, hq340, hf⟩ := bd_s hf
      refine r_cV0 C (am_X11_meet (gl g) n) cm_X11_meet w_1258 dL_law_1581 ⟨Nat.le_of_ble_eq_true rfl, Nat.le_of_ble_eq_true rfl⟩ p340 rfl  rfl (Nat.le_of_ble_eq_true rfl) hq340 (by decide) (fun c340 => ?_)
      have c340 : in32 _ := c340
      refine r_aload_n C dL_law_1584 rfl ?_
      obtain ⟨p341, hf⟩ := gk_s hf
      obtain ⟨r341, h341, hq341, hf⟩ := bd_s hf
      refine r_cV0 C (am_X12_meet (gl g) n) cm_X12_meet w_1849 dL_law_1585 ⟨Nat.le_of_ble_eq_true rfl, Nat.le_of_ble_eq_true rfl⟩ p341 rfl  rfl (Nat.le_of_ble_eq_true rfl) hq341 (by decide) (fun c341 => ?_)
      have c341 : in32 _ := c341
      refine r_icmp_eq C dL_law_1588 (tgt := 1923) (by decide) c340 c341 (fun n342 => ?_) (fun n342 => ?_)
      · have hf := ite_p n342 hf
        exact G.mask [true, true, true, true] rfl rfl (b_L_law_1923 C hr L18 cv3 hf)
      · have hf := ite_n n342 hf
        refine r_iconst C dL_law_1591 ?_
        obtain ⟨b343, hf⟩ := ck_s hf
        cases hf
        exact (law_no hr.2.2.2).elim
    rcases ite_s hf with ⟨n344, hf⟩ | ⟨n344, hf⟩
    · refine r_tsw C dL_law_33 (tgt := 1593) (in32_t _) n344 rfl rfl (by decide) ?_
      refine r_aload_n C dL_law_1593 rfl ?_
      refine r_aload_n C dL_law_1594 rfl ?_
      refine r_iload_n C dL_law_1595 rfl ?_
      refine r_iconst C dL_law_1596 ?_
      refine r_iadd C dL_law_1597 ?_
      obtain ⟨q345, hf⟩ := rd_s hf
      refine r_iald C dL_law_1598 q345 rfl (fun c345 => ?_)
      obtain ⟨p346, hf⟩ := gk_s hf
      obtain ⟨r346, h346, hq346, hf⟩ := bd_s hf
      refine r_cV1 C (am_X11_gauge (gl g) n) cm_X11_gauge w_1266 dL_law_1599 ⟨Nat.le_of_ble_eq_true rfl, Nat.le_of_ble_eq_true rfl⟩ p346 rfl c345 rfl (Nat.le_of_ble_eq_true rfl) hq346 (by decide) (fun c346 => ?_)
      have c346 : in32 _ := c346
      refine r_aload_n C dL_law_1602 rfl ?_
      refine r_aload_n C dL_law_1603 rfl ?_
      refine r_iload_n C dL_law_1604 rfl ?_
      refine r_iconst C dL_law_1605 ?_
      refine r_iadd C dL_law_1606 ?_
      obtain ⟨q347, hf⟩ := rd_s hf
      refine r_iald C dL_law_1607 q347 rfl (fun c347 => ?_)
      obtain ⟨p348, hf⟩ := gk_s hf
      obtain ⟨r348, h348, hq348, hf⟩ := bd_s hf
      refine r_cV1 C (am_X12_gauge (gl g) n) cm_X12_gauge w_1853 dL_law_1608 ⟨Nat.le_of_ble_eq_true rfl, Nat.le_of_ble_eq_true rfl⟩ p348 rfl c347 rfl (Nat.le_of_ble_eq_true rfl) hq348 (by decide) (fun c348 => ?_)
      have c348 : in32 _ := c348
      refine r_icmp_eq C dL_law_1611 (tgt := 1923) (by decide) c346 c348 (fun n349 => ?_) (fun n349 => ?_)
      · have hf := ite_p n349 hf
        exact G.mask [true, true, true, true] rfl rfl (b_L_law_1923 C hr L18 cv3 hf)
      · have hf := ite_n n349 hf
        refine r_iconst C dL_law_1614 ?_
        obtain ⟨b350, hf⟩ := ck_s hf
        cases hf
        exact (law_no hr.2.2.2).elim
    rcases ite_s hf with ⟨n351, hf⟩ | ⟨n351, hf⟩
    · refine r_tsw C dL_law_33 (tgt := 1616) (in32_t _) n351 rfl rfl (by decide) ?_
      refine r_aload_n C dL_law_1616 rfl ?_
      refine r_aload_n C dL_law_1617 rfl ?_
      refine r_iload_n C dL_law_1618 rfl ?_
      refine r_iconst C dL_law_1619 ?_
      refine r_iadd C dL_law_1620 ?_
      obtain ⟨q352, hf⟩ := rd_s hf
      refine r_iald C dL_law_1621 q352 rfl (fun c352 => ?_)
      refine r_aload_n C dL_law_1622 rfl ?_
      refine r_iload_n C dL_law_1623 rfl ?_
      refine r_iconst C dL_law_1624 ?_
      refine r_iadd C dL_law_1625 ?_
      obtain ⟨q353, hf⟩ := rd_s hf
      refine r_iald C dL_law_1626 q353 rfl (fun c353 => ?_)
      refine r_aload_n C dL_law_1627 rfl ?_
      refine r_iload_n C dL_law_1628 rfl ?_
      refine r_iconst C dL_law_1629 ?_
      refine r_iadd C dL_law_1630 ?_
      obtain ⟨q354, hf⟩ := rd_s hf
      refine r_iald C dL_law_1631 q354 rfl (fun c354 => ?_)
      refine r_aload_n C dL_law_1632 rfl ?_
      refine r_iload_n C dL_law_1633 rfl ?_
      refine r_iconst C dL_law_1634 ?_
      refine r_iadd C dL_law_1635 ?_
      obtain ⟨q355, hf⟩ := rd_s hf
      refine r_iald C dL_law_1636 q355 rfl (fun c355 => ?_)
      obtain ⟨p356, hf⟩ := gk_s hf
      obtain ⟨r356, h356, hq356, hf⟩ := bd_s hf
      refine r_cV4 C (am_X11_plan (gl g) n) cm_X11_plan w_1295 dL_law_1637 ⟨Nat.le_of_ble_eq_true rfl, Nat.le_of_ble_eq_true rfl⟩ p356 rfl c352 c353 c354 c355 rfl (Nat.le_of_ble_eq_true rfl) hq356 (by decide) (fun c356 => ?_)
      have c356 : in32 _ := c356
      refine r_aload_n C dL_law_1640 rfl ?_
      refine r_aload_n C dL_law_1641 rfl ?_
      refine r_iload_n C dL_law_1642 rfl ?_
      refine r_iconst C dL_law_1643 ?_
      refine r_iadd C dL_law_1644 ?_
      obtain ⟨q357, hf⟩ := rd_s hf
      refine r_iald C dL_law_1645 q357 rfl (fun c357 => ?_)
      refine r_aload_n C dL_law_1646 rfl ?_
      refine r_iload_n C dL_law_1647 rfl ?_
      refine r_iconst C dL_law_1648 ?_
      refine r_iadd C dL_law_1649 ?_
      obtain ⟨q358, hf⟩ := rd_s hf
      refine r_iald C dL_law_1650 q358 rfl (fun c358 => ?_)
      refine r_aload_n C dL_law_1651 rfl ?_
      refine r_iload_n C dL_law_1652 rfl ?_
      refine r_iconst C dL_law_1653 ?_
      refine r_iadd C dL_law_1654 ?_
      obtain ⟨q359, hf⟩ := rd_s hf
      refine r_iald C dL_law_1655 q359 rfl (fun c359 => ?_)
      refine r_aload_n C dL_law_1656 rfl ?_
      refine r_iload_n C dL_law_1657 rfl ?_
      refine r_iconst C dL_law_1658 ?_
      refine r_iadd C dL_law_1659 ?_
      obtain ⟨q360, hf⟩ := rd_s hf
      refine r_iald C dL_law_1660 q360 rfl (fun c360 => ?_)
      obtain ⟨p361, hf⟩ := gk_s hf
      obtain ⟨r361, h361, hq361, hf⟩ := bd_s hf
      refine r_cV4 C (am_X12_plan (gl g) n) cm_X12_plan w_1864 dL_law_1661 ⟨Nat.le_of_ble_eq_true rfl, Nat.le_of_ble_eq_true rfl⟩ p361 rfl c357 c358 c359 c360 rfl (Nat.le_of_ble_eq_true rfl) hq361 (by decide) (fun c361 => ?_)
      have c361 : in32 _ := c361
      refine r_icmp_eq C dL_law_1664 (tgt := 1923) (by decide) c356 c361 (fun n362 => ?_) (fun n362 => ?_)
      · have hf := ite_p n362 hf
        exact G.mask [true, true, true, true] rfl rfl (b_L_law_1923 C hr L18 cv3 hf)
      · have hf := ite_n n362 hf
        refine r_iconst C dL_law_1667 ?_
        obtain ⟨b363, hf⟩ := ck_s hf
        cases hf
        exact (law_no hr.2.2.2).elim
    rcases ite_s hf with ⟨n364, hf⟩ | ⟨n364, hf⟩
    · refine r_tsw C dL_law_33 (tgt := 1669) (in32_t _) n364 rfl rfl (by decide) ?_
      refine r_aload_n C dL_law_1669 rfl ?_
      refine r_aload_n C dL_law_1670 rfl ?_
      refine r_iload_n C dL_law_1671 rfl ?_
      refine r_iconst C dL_law_1672 ?_
      refine r_iadd C dL_law_1673 ?_
      obtain ⟨q365, hf⟩ := rd_s hf
      refine r_iald C dL_law_1674 q365 rfl (fun c365 => ?_)
      obtain ⟨p366, hf⟩ := gk_s hf
      obtain ⟨r366, h366, hq366, hf⟩ := bd_s hf
      refine r_cV1 C (am_X11_tried (gl g) n) cm_X11_tried w_1326 dL_law_1675 ⟨Nat.le_of_ble_eq_true rfl, Nat.le_of_ble_eq_true rfl⟩ p366 rfl c365 rfl (Nat.le_of_ble_eq_true rfl) hq366 (by decide) (fun c366 => ?_)
      have c366 : in32 _ := c366
      refine r_aload_n C dL_law_1678 rfl ?_
      refine r_aload_n C dL_law_1679 rfl ?_
      refine r_iload_n C dL_law_1680 rfl ?_
      refine r_iconst C dL_law_1681 ?_
      refine r_iadd C dL_law_1682 ?_
      obtain ⟨q367, hf⟩ := rd_s hf
      refine r_iald C dL_law_1683 q367 rfl (fun c367 => ?_)
      obtain ⟨p368, hf⟩ := gk_s hf
      obtain ⟨r368, h368, hq368, hf⟩ := bd_s hf
      refine r_cV1 C (am_X12_tried (gl g) n) cm_X12_tried w_1869 dL_law_1684 ⟨Nat.le_of_ble_eq_true rfl, Nat.le_of_ble_eq_true rfl⟩ p368 rfl c367 rfl (Nat.le_of_ble_eq_true rfl) hq368 (by decide) (fun c368 => ?_)
      have c368 : in32 _ := c368
      refine r_icmp_eq C dL_law_1687 (tgt := 1923) (by decide) c366 c368 (fun n369 => ?_) (fun n369 => ?_)
      · have hf := ite_p n369 hf
        exact G.mask [true, true, true, true] rfl rfl (b_L_law_1923 C hr L18 cv3 hf)
      · have hf := ite_n n369 hf
        refine r_iconst C dL_law_1690 ?_
        obtain ⟨b370, hf⟩ := ck_s hf
        cases hf
        exact (law_no hr.2.2.2).elim
    rcases ite_s hf with ⟨n371, hf⟩ | ⟨n371, hf⟩
    · refine r_tsw C dL_law_33 (tgt := 1692) (in32_t _) n371 rfl rfl (by decide) ?_
      refine r_aload_n C dL_law_1692 rfl ?_
      refine r_aload_n C dL_law_1693 rfl ?_
      refine r_iload_n C dL_law_1694 rfl ?_
      refine r_iconst C dL_law_1695 ?_
      refine r_iadd C dL_law_1696 ?_
      obtain ⟨q372, hf⟩ := rd_s hf
      refine r_iald C dL_law_1697 q372 rfl (fun c372 => ?_)
      refine r_aload_n C dL_law_1698 rfl ?_
      refine r_iload_n C dL_law_1699 rfl ?_
      refine r_iconst C dL_law_1700 ?_
      refine r_iadd C dL_law_1701 ?_
      obtain ⟨q373, hf⟩ := rd_s hf
      refine r_iald C dL_law_1702 q373 rfl (fun c373 => ?_)
      obtain ⟨p374, hf⟩ := gk_s hf
      obtain ⟨r374, h374, hq374, hf⟩ := bd_s hf
      refine r_cV2 C (am_X11_known (gl g) n) cm_X11_known w_1343 dL_law_1703 ⟨Nat.le_of_ble_eq_true rfl, Nat.le_of_ble_eq_true rfl⟩ p374 rfl c372 c373 rfl (Nat.le_of_ble_eq_true rfl) hq374 (by decide) (fun c374 => ?_)
      have c374 : in32 _ := c374
      refine r_aload_n C dL_law_1706 rfl ?_
      refine r_aload_n C dL_law_1707 rfl ?_
      refine r_iload_n C dL_law_1708 rfl ?_
      refine r_iconst C dL_law_1709 ?_
      refine r_iadd C dL_law_1710 ?_
      obtain ⟨q375, hf⟩ := rd_s hf
      refine r_iald C dL_law_1711 q375 rfl (fun c375 => ?_)
      refine r_aload_n C dL_law_1712 rfl ?_
      refine r_iload_n C dL_law_1713 rfl ?_
      refine r_iconst C dL_law_1714 ?_
      refine r_iadd C dL_law_1715 ?_
      obtain ⟨q376, hf⟩ := rd_s hf
      refine r_iald C dL_law_1716 q376 rfl (fun c376 => ?_)
      obtain ⟨p377, hf⟩ := gk_s hf
      obtain ⟨r377, h377, hq377, hf⟩ := bd_s hf
      refine r_cV2 C (am_X12_known (gl g) n) cm_X12_known w_1874 dL_law_1717 ⟨Nat.le_of_ble_eq_true rfl, Nat.le_of_ble_eq_true rfl⟩ p377 rfl c375 c376 rfl (Nat.le_of_ble_eq_true rfl) hq377 (by decide) (fun c377 => ?_)
      have c377 : in32 _ := c377
      refine r_icmp_eq C dL_law_1720 (tgt := 1923) (by decide) c374 c377 (fun n378 => ?_) (fun n378 => ?_)
      · have hf := ite_p n378 hf
        exact G.mask [true, true, true, true] rfl rfl (b_L_law_1923 C hr L18 cv3 hf)
      · have hf := ite_n n378 hf
        refine r_iconst C dL_law_1723 ?_
        obtain ⟨b379, hf⟩ := ck_s hf
        cases hf
        exact (law_no hr.2.2.2).elim
    rcases ite_s hf with ⟨n380, hf⟩ | ⟨n380, hf⟩
    · refine r_tsw C dL_law_33 (tgt := 1725) (in32_t _) n380 rfl rfl (by decide) ?_
      refine r_aload_n C dL_law_1725 rfl ?_
      obtain ⟨p381, hf⟩ := gk_s hf
      obtain ⟨r381, h381, hq381, hf⟩ := bd_s hf
      refine r_cV0 C (am_X11_image (gl g) n) cm_X11_image w_1347 dL_law_1726 ⟨Nat.le_of_ble_eq_true rfl, Nat.le_of_ble_eq_true rfl⟩ p381 rfl  rfl (Nat.le_of_ble_eq_true rfl) hq381 (by decide) (fun c381 => ?_)
      have c381 : in32 _ := c381
      refine r_aload_n C dL_law_1729 rfl ?_
      obtain ⟨p382, hf⟩ := gk_s hf
      obtain ⟨r382, h382, hq382, hf⟩ := bd_s hf
      refine r_cV0 C (am_X12_image (gl g) n) cm_X12_image w_1878 dL_law_1730 ⟨Nat.le_of_ble_eq_true rfl, Nat.le_of_ble_eq_true rfl⟩ p382 rfl  rfl (Nat.le_of_ble_eq_true rfl) hq382 (by decide) (fun c382 => ?_)
      have c382 : in32 _ := c382
      refine r_icmp_eq C dL_law_1733 (tgt := 1923) (by decide) c381 c382 (fun n383 => ?_) (fun n383 => ?_)
      · have hf := ite_p n383 hf
        exact G.mask [true, true, true, true] rfl rfl (b_L_law_1923 C hr L18 cv3 hf)
      · have hf := ite_n n383 hf
        refine r_iconst C dL_law_1736 ?_
        obtain ⟨b384, hf⟩ := ck_s hf
        cases hf
        exact (law_no hr.2.2.2).elim
    rcases ite_s hf with ⟨n385, hf⟩ | ⟨n385, hf⟩
    · refine r_tsw C dL_law_33 (tgt := 1738) (in32_t _) n385 rfl rfl (by decide) ?_
      refine r_aload_n C dL_law_1738 rfl ?_
      obtain ⟨p386, hf⟩ := gk_s hf
      obtain ⟨r386, h386, hq386, hf⟩ := bd_s hf
      refine r_cV0 C (am_X11_undo (gl g) n) cm_X11_undo w_1381 dL_law_1739 ⟨Nat.le_of_ble_eq_true rfl, Nat.le_of_ble_eq_true rfl⟩ p386 rfl  rfl (Nat.le_of_ble_eq_true rfl) hq386 (by decide) (fun c386 => ?_)
      have c386 : in32 _ := c386
      refine r_aload_n C dL_law_1742 rfl ?_
      obtain ⟨p387, hf⟩ := gk_s hf
      obtain ⟨r387, h387, hq387, hf⟩ := bd_s hf
      refine r_cV0 C (am_X12_undo (gl g) n) cm_X12_undo w_1882 dL_law_1743 ⟨Nat.le_of_ble_eq_true rfl, Nat.le_of_ble_eq_true rfl⟩ p387 rfl  rfl (Nat.le_of_ble_eq_true rfl) hq387 (by decide) (fun c387 => ?_)
      have c387 : in32 _ := c387
      refine r_icmp_eq C dL_law_1746 (tgt := 1923) (by decide) c386 c387 (fun n388 => ?_) (fun n388 => ?_)
      · have hf := ite_p n388 hf
        exact G.mask [true, true, true, true] rfl rfl (b_L_law_1923 C hr L18 cv3 hf)
      · have hf := ite_n n388 hf
        refine r_iconst C dL_law_1749 ?_
        obtain ⟨b389, hf⟩ := ck_s hf
        cases hf
        exact (law_no hr.2.2.2).elim
    rcases ite_s hf with ⟨n390, hf⟩ | ⟨n390, hf⟩
    · refine r_tsw C dL_law_33 (tgt := 1751) (in32_t _) n390 rfl rfl (by decide) ?_
      refine r_aload_n C dL_law_1751 rfl ?_
      refine r_aload_n C dL_law_1752 rfl ?_
      refine r_iload_n C dL_law_1753 rfl ?_
      refine r_iconst C dL_law_1754 ?_
      refine r_iadd C dL_law_1755 ?_
      obtain ⟨q391, hf⟩ := rd_s hf
      refine r_iald C dL_law_1756 q391 rfl (fun c391 => ?_)
      obtain ⟨p392, hf⟩ := gk_s hf
      obtain ⟨r392, h392, hq392, hf⟩ := bd_s hf
      refine r_cV1 C (am_X11_count (gl g) n) cm_X11_count w_1385 dL_law_1757 ⟨Nat.le_of_ble_eq_true rfl, Nat.le_of_ble_eq_true rfl⟩ p392 rfl c391 rfl (Nat.le_of_ble_eq_true rfl) hq392 (by decide) (fun c392 => ?_)
      have c392 : in32 _ := c392
      refine r_aload_n C dL_law_1760 rfl ?_
      refine r_aload_n C dL_law_1761 rfl ?_
      refine r_iload_n C dL_law_1762 rfl ?_
      refine r_iconst C dL_law_1763 ?_
      refine r_iadd C dL_law_1764 ?_
      obtain ⟨q393, hf⟩ := rd_s hf
      refine r_iald C dL_law_1765 q393 rfl (fun c393 => ?_)
      obtain ⟨p394, hf⟩ := gk_s hf
      obtain ⟨r394, h394, hq394, hf⟩ := bd_s hf
      refine r_cV1 C (am_X12_count (gl g) n) cm_X12_count w_1886 dL_law_1766 ⟨Nat.le_of_ble_eq_true rfl, Nat.le_of_ble_eq_true rfl⟩ p394 rfl c393 rfl (Nat.le_of_ble_eq_true rfl) hq394 (by decide) (fun c394 => ?_)
      have c394 : in32 _ := c394
      refine r_icmp_eq C dL_law_1769 (tgt := 1923) (by decide) c392 c394 (fun n395 => ?_) (fun n395 => ?_)
      · have hf := ite_p n395 hf
        exact G.mask [true, true, true, true] rfl rfl (b_L_law_1923 C hr L18 cv3 hf)
      · have hf := ite_n n395 hf
        refine r_iconst C dL_law_1772 ?_
        obtain ⟨b396, hf⟩ := ck_s hf
        cases hf
        exact (law_no hr.2.2.2).elim
    rcases ite_s hf with ⟨n397, hf⟩ | ⟨n397, hf⟩
    · refine r_tsw C dL_law_33 (tgt := 1774) (in32_t _) n397 rfl rfl (by decide) ?_
      refine r_aload_n C dL_law_1774 rfl ?_
      refine r_aload_n C dL_law_1775 rfl ?_
      refine r_iload_n C dL_law_1776 rfl ?_
      refine r_iconst C dL_law_1777 ?_
      refine r_iadd C dL_law_1778 ?_
      obtain ⟨q398, hf⟩ := rd_s hf
      refine r_iald C dL_law_1779 q398 rfl (fun c398 => ?_)
      refine r_aload_n C dL_law_1780 rfl ?_
      refine r_iload_n C dL_law_1781 rfl ?_
      refine r_iconst C dL_law_1782 ?_
      refine r_iadd C dL_law_1783 ?_
      obtain ⟨q399, hf⟩ := rd_s hf
      refine r_iald C dL_law_1784 q399 rfl (fun c399 => ?_)
      refine r_aload_n C dL_law_1785 rfl ?_
      refine r_iload_n C dL_law_1786 rfl ?_
      refine r_iconst C dL_law_1787 ?_
      refine r_iadd C dL_law_1788 ?_
      obtain ⟨q400, hf⟩ := rd_s hf
      refine r_iald C dL_law_1789 q400 rfl (fun c400 => ?_)
      obtain ⟨p401, hf⟩ := gk_s hf
      obtain ⟨r401, h401, hq401, hf⟩ := bd_s hf
      refine r_cV3 C (am_X11_sheet (gl g) n) cm_X11_sheet w_1393 dL_law_1790 ⟨Nat.le_of_ble_eq_true rfl, Nat.le_of_ble_eq_true rfl⟩ p401 rfl c398 c399 c400 rfl (Nat.le_of_ble_eq_true rfl) hq401 (by decide) (fun c401 => ?_)
      have c401 : in32 _ := c401
      refine r_aload_n C dL_law_1793 rfl ?_
      refine r_aload_n C dL_law_1794 rfl ?_
      refine r_iload_n C dL_law_1795 rfl ?_
      refine r_iconst C dL_law_1796 ?_
      refine r_iadd C dL_law_1797 ?_
      obtain ⟨q402, hf⟩ := rd_s hf
      refine r_iald C dL_law_1798 q402 rfl (fun c402 => ?_)
      refine r_aload_n C dL_law_1799 rfl ?_
      refine r_iload_n C dL_law_1800 rfl ?_
      refine r_iconst C dL_law_1801 ?_
      refine r_iadd C dL_law_1802 ?_
      obtain ⟨q403, hf⟩ := rd_s hf
      refine r_iald C dL_law_1803 q403 rfl (fun c403 => ?_)
      refine r_aload_n C dL_law_1804 rfl ?_
      refine r_iload_n C dL_law_1805 rfl ?_
      refine r_iconst C dL_law_1806 ?_
      refine r_iadd C dL_law_1807 ?_
      obtain ⟨q404, hf⟩ := rd_s hf
      refine r_iald C dL_law_1808 q404 rfl (fun c404 => ?_)
      obtain ⟨p405, hf⟩ := gk_s hf
      obtain ⟨r405, h405, hq405, hf⟩ := bd_s hf
      refine r_cV3 C (am_X12_sheet (gl g) n) cm_X12_sheet w_1890 dL_law_1809 ⟨Nat.le_of_ble_eq_true rfl, Nat.le_of_ble_eq_true rfl⟩ p405 rfl c402 c403 c404 rfl (Nat.le_of_ble_eq_true rfl) hq405 (by decide) (fun c405 => ?_)
      have c405 : in32 _ := c405
      refine r_icmp_eq C dL_law_1812 (tgt := 1923) (by decide) c401 c405 (fun n406 => ?_) (fun n406 => ?_)
      · have hf := ite_p n406 hf
        exact G.mask [true, true, true, true] rfl rfl (b_L_law_1923 C hr L18 cv3 hf)
      · have hf := ite_n n406 hf
        refine r_iconst C dL_law_1815 ?_
        obtain ⟨b407, hf⟩ := ck_s hf
        cases hf
        exact (law_no hr.2.2.2).elim
    rcases ite_s hf with ⟨n408, hf⟩ | ⟨n408, hf⟩
    · refine r_tsw C dL_law_33 (tgt := 1817) (in32_t _) n408 rfl rfl (by decide) ?_
      refine r_aload_n C dL_law_1817 rfl ?_
      refine r_aload_n C dL_law_1818 rfl ?_
      refine r_iload_n C dL_law_1819 rfl ?_
      refine r_iconst C dL_law_1820 ?_
      refine r_iadd C dL_law_1821 ?_
      obtain ⟨q409, hf⟩ := rd_s hf
      refine r_iald C dL_law_1822 q409 rfl (fun c409 => ?_)
      refine r_aload_n C dL_law_1823 rfl ?_
      refine r_iload_n C dL_law_1824 rfl ?_
      refine r_iconst C dL_law_1825 ?_
      refine r_iadd C dL_law_1826 ?_
      obtain ⟨q410, hf⟩ := rd_s hf
      refine r_iald C dL_law_1827 q410 rfl (fun c410 => ?_)
      refine r_aload_n C dL_law_1828 rfl ?_
      refine r_iload_n C dL_law_1829 rfl ?_
      refine r_iconst C dL_law_1830 ?_
      refine r_iadd C dL_law_1831 ?_
      obtain ⟨q411, hf⟩ := rd_s hf
      refine r_iald C dL_law_1832 q411 rfl (fun c411 => ?_)
      obtain ⟨p412, hf⟩ := gk_s hf
      obtain ⟨r412, h412, hq412, hf⟩ := bd_s hf
      refine r_cV3 C (am_X11_item (gl g) n) cm_X11_item w_1402 dL_law_1833 ⟨Nat.le_of_ble_eq_true rfl, Nat.le_of_ble_eq_true rfl⟩ p412 rfl c409 c410 c411 rfl (Nat.le_of_ble_eq_true rfl) hq412 (by decide) (fun c412 => ?_)
      have c412 : in32 _ := c412
      refine r_aload_n C dL_law_1836 rfl ?_
      refine r_aload_n C dL_law_1837 rfl ?_
      refine r_iload_n C dL_law_1838 rfl ?_
      refine r_iconst C dL_law_1839 ?_
      refine r_iadd C dL_law_1840 ?_
      obtain ⟨q413, hf⟩ := rd_s hf
      refine r_iald C dL_law_1841 q413 rfl (fun c413 => ?_)
      refine r_aload_n C dL_law_1842 rfl ?_
      refine r_iload_n C dL_law_1843 rfl ?_
      refine r_iconst C dL_law_1844 ?_
      refine r_iadd C dL_law_1845 ?_
      obtain ⟨q414, hf⟩ := rd_s hf
      refine r_iald C dL_law_1846 q414 rfl (fun c414 => ?_)
      refine r_aload_n C dL_law_1847 rfl ?_
      refine r_iload_n C dL_law_1848 rfl ?_
      refine r_iconst C dL_law_1849 ?_
      refine r_iadd C dL_law_1850 ?_
      obtain ⟨q415, hf⟩ := rd_s hf
      refine r_iald C dL_law_1851 q415 rfl (fun c415 => ?_)
      obtain ⟨p416, hf⟩ := gk_s hf
      obtain ⟨r416, h416, hq416, hf⟩ := bd_s hf
      refine r_cV3 C (am_X12_item (gl g) n) cm_X12_item w_1894 dL_law_1852 ⟨Nat.le_of_ble_eq_true rfl, Nat.le_of_ble_eq_true rfl⟩ p416 rfl c413 c414 c415 rfl (Nat.le_of_ble_eq_true rfl) hq416 (by decide) (fun c416 => ?_)
      have c416 : in32 _ := c416
      refine r_icmp_eq C dL_law_1855 (tgt := 1923) (by decide) c412 c416 (fun n417 => ?_) (fun n417 => ?_)
      · have hf := ite_p n417 hf
        exact G.mask [true, true, true, true] rfl rfl (b_L_law_1923 C hr L18 cv3 hf)
      · have hf := ite_n n417 hf
        refine r_iconst C dL_law_1858 ?_
        obtain ⟨b418, hf⟩ := ck_s hf
        cases hf
        exact (law_no hr.2.2.2).elim
    rcases ite_s hf with ⟨n419, hf⟩ | ⟨n419, hf⟩
    · refine r_tsw C dL_law_33 (tgt := 1860) (in32_t _) n419 rfl rfl (by decide) ?_
      refine r_aload_n C dL_law_1860 rfl ?_
      refine r_aload_n C dL_law_1861 rfl ?_
      refine r_iload_n C dL_law_1862 rfl ?_
      refine r_iconst C dL_law_1863 ?_
      refine r_iadd C dL_law_1864 ?_
      obtain ⟨q420, hf⟩ := rd_s hf
      refine r_iald C dL_law_1865 q420 rfl (fun c420 => ?_)
      refine r_aload_n C dL_law_1866 rfl ?_
      refine r_iload_n C dL_law_1867 rfl ?_
      refine r_iconst C dL_law_1868 ?_
      refine r_iadd C dL_law_1869 ?_
      obtain ⟨q421, hf⟩ := rd_s hf
      refine r_iald C dL_law_1870 q421 rfl (fun c421 => ?_)
      refine r_aload_n C dL_law_1871 rfl ?_
      refine r_iload_n C dL_law_1872 rfl ?_
      refine r_iconst C dL_law_1873 ?_
      refine r_iadd C dL_law_1874 ?_
      obtain ⟨q422, hf⟩ := rd_s hf
      refine r_iald C dL_law_1875 q422 rfl (fun c422 => ?_)
      refine r_aload_n C dL_law_1876 rfl ?_
      refine r_iload_n C dL_law_1877 rfl ?_
      refine r_iconst C dL_law_1878 ?_
      refine r_iadd C dL_law_1879 ?_
      obtain ⟨q423, hf⟩ := rd_s hf
      refine r_iald C dL_law_1880 q423 rfl (fun c423 => ?_)
      refine r_aload_n C dL_law_1881 rfl ?_
      refine r_iload_n C dL_law_1882 rfl ?_
      refine r_iconst C dL_law_1883 ?_
      refine r_iadd C dL_law_1884 ?_
      obtain ⟨q424, hf⟩ := rd_s hf
      refine r_iald C dL_law_1885 q424 rfl (fun c424 => ?_)
      obtain ⟨p425, hf⟩ := gk_s hf
      obtain ⟨r425, h425, hq425, hf⟩ := bd_s hf
      refine r_cV5 C (am_X11_copy (gl g) n) cm_X11_copy w_1410 dL_law_1886 ⟨Nat.le_of_ble_eq_true rfl, Nat.le_of_ble_eq_true rfl⟩ p425 rfl c420 c421 c422 c423 c424 rfl (Nat.le_of_ble_eq_true rfl) hq425 (by decide) (fun c425 => ?_)
      have c425 : in32 _ := c425
      refine r_aload_n C dL_law_1889 rfl ?_
      refine r_aload_n C dL_law_1890 rfl ?_
      refine r_iload_n C dL_law_1891 rfl ?_
      refine r_iconst C dL_law_1892 ?_
      refine r_iadd C dL_law_1893 ?_
      obtain ⟨q426, hf⟩ := rd_s hf
      refine r_iald C dL_law_1894 q426 rfl (fun c426 => ?_)
      refine r_aload_n C dL_law_1895 rfl ?_
      refine r_iload_n C dL_law_1896 rfl ?_
      refine r_iconst C dL_law_1897 ?_
      refine r_iadd C dL_law_1898 ?_
      obtain ⟨q427, hf⟩ := rd_s hf
      refine r_iald C dL_law_1899 q427 rfl (fun c427 => ?_)
      refine r_aload_n C dL_law_1900 rfl ?_
      refine r_iload_n C dL_law_1901 rfl ?_
      refine r_iconst C dL_law_1902 ?_
      refine r_iadd C dL_law_1903 ?_
      obtain ⟨q428, hf⟩ := rd_s hf
      refine r_iald C dL_law_1904 q428 rfl (fun c428 => ?_)
      refine r_aload_n C dL_law_1905 rfl ?_
      refine r_iload_n C dL_law_1906 rfl ?_
      refine r_iconst C dL_law_1907 ?_
      refine r_iadd C dL_law_1908 ?_
      obtain ⟨q429, hf⟩ := rd_s hf
      refine r_iald C dL_law_1909 q429 rfl (fun c429 => ?_)
      refine r_aload_n C dL_law_1910 rfl ?_
      refine r_iload_n C dL_law_1911 rfl ?_
      refine r_iconst C dL_law_1912 ?_
      refine r_iadd C dL_law_1913 ?_
      obtain ⟨q430, hf⟩ := rd_s hf
      refine r_iald C dL_law_1914 q430 rfl (fun c430 => ?_)
      obtain ⟨p431, hf⟩ := gk_s hf
      obtain ⟨r431, h431, hq431, hf⟩ := bd_s hf
      refine r_cV5 C (am_X12_copy (gl g) n) cm_X12_copy w_1898 dL_law_1915 ⟨Nat.le_of_ble_eq_true rfl, Nat.le_of_ble_eq_true rfl⟩ p431 rfl c426 c427 c428 c429 c430 rfl (Nat.le_of_ble_eq_true rfl) hq431 (by decide) (fun c431 => ?_)
      have c431 : in32 _ := c431
      refine r_icmp_eq C dL_law_1918 (tgt := 1923) (by decide) c425 c431 (fun n432 => ?_) (fun n432 => ?_)
      · have hf := ite_p n432 hf
        exact G.mask [true, true, true, true] rfl rfl (b_L_law_1923 C hr L18 cv3 hf)
      · have hf := ite_n n432 hf
        refine r_iconst C dL_law_1921 ?_
        obtain ⟨b433, hf⟩ := ck_s hf
        cases hf
        exact (law_no hr.2.2.2).elim
    refine r_tswd C dL_law_33 (tgt := 1923) (in32_t _) (by omega) (by decide) ?_
    exact G.mask [true, true, true, true] rfl rfl (b_L_law_1923 C hr L18 cv3 hf)
set_option maxRecDepth 20000 in
theorem l_L_law_18 {g : GT} {Z : Int × MM} {n : Nat} (C : Cx g code 4 x 2048 84000) (hr : LRt g Z) {v0 v1 v2 : Int}    : ∀ (k : Nat) (v3 : Int) (h : MM), in32 v3 → f_L_law_18 n  v0 v1 v2 k v3 h = some Z → G g 18 [(2, v0), (2, v1), (2, v2), (0, v3)] [] h := by
  intro k
  induction k with
  | zero => intro v3 h cv3 hf; exact absurd hf (by intro z; cases z)
  | succ k ih => intro v3 h cv3 hf; exact b_L_law_18b C hr (rec18 := f_L_law_18 n  v0 v1 v2 k)  ih cv3 (show f_L_law_18b n  (f_L_law_18 n  v0 v1 v2 k) v0 v1 v2 v3 h = some Z from hf)
set_option maxRecDepth 20000 in
theorem e_L_law {g : GT} {Z : Int × MM} {n : Nat} (C : Cx g code 4 x 2048 84000) (hr : LRt g Z) {v0 : Int} (cv0 : cK 2 v0) {h : MM} (hf : f_L_law n v0 h = some Z) : G g 0 [(2, v0), (3, 0), (3, 0), (3, 0)] [] h := by
  unfold f_L_law at hf
  obtain ⟨q1, hf⟩ := nw_s hf
  refine r_new C ct11 cf11 (ti := 11) (ni := 7) dL_law_0 q1 rfl rfl w_108 w_109 w_87 ?_
  refine r_dup C dL_law_3 (by decide) ?_
  obtain ⟨p2, hf⟩ := nz_s hf
  obtain ⟨r2, h2, hq2, hf⟩ := bd_s hf
  refine r_cI0 C (am_X11_init (gl g) n) cm_X11_init w_110 dL_law_4 ⟨Nat.le_of_ble_eq_true rfl, Nat.le_of_ble_eq_true rfl⟩ p2  rfl (Nat.le_of_ble_eq_true rfl) hq2 ?_
  refine r_astore_n C dL_law_7 (Nat.le_of_ble_eq_true rfl) rfl ?_
  obtain ⟨q3, hf⟩ := nw_s hf
  refine r_new C ct12 cf12 (ti := 12) (ni := 21) dL_law_8 q3 rfl rfl w_1419 w_1420 w_97 ?_
  refine r_dup C dL_law_11 (by decide) ?_
  obtain ⟨p4, hf⟩ := nz_s hf
  obtain ⟨r4, h4, hq4, hf⟩ := bd_s hf
  refine r_cI0 C (am_X12_init (gl g) n) cm_X12_init w_1421 dL_law_12 ⟨Nat.le_of_ble_eq_true rfl, Nat.le_of_ble_eq_true rfl⟩ p4  rfl (Nat.le_of_ble_eq_true rfl) hq4 ?_
  refine r_astore_n C dL_law_15 (Nat.le_of_ble_eq_true rfl) rfl ?_
  refine r_iconst C dL_law_16 ?_
  refine r_istore_n C dL_law_17 (Nat.le_of_ble_eq_true rfl) rfl ?_
  exact G.mask [true, true, true, true] rfl rfl (l_L_law_18 C hr   _ _ _ (in32_of rfl) hf)
