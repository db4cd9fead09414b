/-! THE CHECKS of calls and callees, method by method (printed by wip/tools/gen13.py) -/
theorem am_h130 {pc : Nat} {e : am_en} (h : am_f130 pc = some e) : am_ckc 130 e = true := am_cof (n := 86) (t := am_t130) (by decide +kernel) h
theorem am_o130 : am_okm 130 = true := by decide +kernel
theorem am_h131 {pc : Nat} {e : am_en} (h : am_f131 pc = some e) : am_ckc 131 e = true := am_cof (n := 101) (t := am_t131) (by decide +kernel) h
theorem am_o131 : am_okm 131 = true := by decide +kernel
theorem am_h132 {pc : Nat} {e : am_en} (h : am_f132 pc = some e) : am_ckc 132 e = true := am_cof (n := 38) (t := am_t132) (by decide +kernel) h
theorem am_o132 : am_okm 132 = true := by decide +kernel
theorem am_h133 {pc : Nat} {e : am_en} (h : am_f133 pc = some e) : am_ckc 133 e = true := am_cof (n := 53) (t := am_t133) (by decide +kernel) h
theorem am_o133 : am_okm 133 = true := by decide +kernel
theorem am_h134 {pc : Nat} {e : am_en} (h : am_f134 pc = some e) : am_ckc 134 e = true := am_cof (n := 5) (t := am_t134) (by decide +kernel) h
theorem am_o134 : am_okm 134 = true := by decide +kernel
theorem am_h135 {pc : Nat} {e : am_en} (h : am_f135 pc = some e) : am_ckc 135 e = true := am_cof (n := 5) (t := am_t135) (by decide +kernel) h
theorem am_o135 : am_okm 135 = true := by decide +kernel
theorem am_h136 {pc : Nat} {e : am_en} (h : am_f136 pc = some e) : am_ckc 136 e = true := am_cof (n := 5) (t := am_t136) (by decide +kernel) h
theorem am_o136 : am_okm 136 = true := by decide +kernel
theorem am_h137 {pc : Nat} {e : am_en} (h : am_f137 pc = some e) : am_ckc 137 e = true := am_cof (n := 19) (t := am_t137) (by decide +kernel) h
theorem am_o137 : am_okm 137 = true := by decide +kernel
theorem am_h138 {pc : Nat} {e : am_en} (h : am_f138 pc = some e) : am_ckc 138 e = true := am_cof (n := 5) (t := am_t138) (by decide +kernel) h
theorem am_o138 : am_okm 138 = true := by decide +kernel
theorem am_h139 {pc : Nat} {e : am_en} (h : am_f139 pc = some e) : am_ckc 139 e = true := am_cof (n := 21) (t := am_t139) (by decide +kernel) h
theorem am_o139 : am_okm 139 = true := by decide +kernel
theorem am_h140 {pc : Nat} {e : am_en} (h : am_f140 pc = some e) : am_ckc 140 e = true := am_cof (n := 219) (t := am_t140) (by decide +kernel) h
theorem am_o140 : am_okm 140 = true := by decide +kernel
theorem am_h141 {pc : Nat} {e : am_en} (h : am_f141 pc = some e) : am_ckc 141 e = true := am_cof (n := 15) (t := am_t141) (by decide +kernel) h
theorem am_o141 : am_okm 141 = true := by decide +kernel
theorem am_h142 {pc : Nat} {e : am_en} (h : am_f142 pc = some e) : am_ckc 142 e = true := am_cof (n := 29) (t := am_t142) (by decide +kernel) h
theorem am_o142 : am_okm 142 = true := by decide +kernel
theorem am_h143 {pc : Nat} {e : am_en} (h : am_f143 pc = some e) : am_ckc 143 e = true := am_cof (n := 18) (t := am_t143) (by decide +kernel) h
theorem am_o143 : am_okm 143 = true := by decide +kernel
theorem am_h144 {pc : Nat} {e : am_en} (h : am_f144 pc = some e) : am_ckc 144 e = true := am_cof (n := 56) (t := am_t144) (by decide +kernel) h
theorem am_o144 : am_okm 144 = true := by decide +kernel
theorem am_h145 {pc : Nat} {e : am_en} (h : am_f145 pc = some e) : am_ckc 145 e = true := am_cof (n := 51) (t := am_t145) (by decide +kernel) h
theorem am_o145 : am_okm 145 = true := by decide +kernel
theorem am_h146 {pc : Nat} {e : am_en} (h : am_f146 pc = some e) : am_ckc 146 e = true := am_cof (n := 58) (t := am_t146) (by decide +kernel) h
theorem am_o146 : am_okm 146 = true := by decide +kernel
theorem am_h147 {pc : Nat} {e : am_en} (h : am_f147 pc = some e) : am_ckc 147 e = true := am_cof (n := 126) (t := am_t147) (by decide +kernel) h
theorem am_o147 : am_okm 147 = true := by decide +kernel
theorem am_h148 {pc : Nat} {e : am_en} (h : am_f148 pc = some e) : am_ckc 148 e = true := am_cof (n := 35) (t := am_t148) (by decide +kernel) h
theorem am_o148 : am_okm 148 = true := by decide +kernel
theorem am_h149 {pc : Nat} {e : am_en} (h : am_f149 pc = some e) : am_ckc 149 e = true := am_cof (n := 37) (t := am_t149) (by decide +kernel) h
theorem am_o149 : am_okm 149 = true := by decide +kernel
theorem am_h150 {pc : Nat} {e : am_en} (h : am_f150 pc = some e) : am_ckc 150 e = true := am_cof (n := 79) (t := am_t150) (by decide +kernel) h
theorem am_o150 : am_okm 150 = true := by decide +kernel
theorem am_h151 {pc : Nat} {e : am_en} (h : am_f151 pc = some e) : am_ckc 151 e = true := am_cof (n := 163) (t := am_t151) (by decide +kernel) h
theorem am_o151 : am_okm 151 = true := by decide +kernel
theorem am_h152 {pc : Nat} {e : am_en} (h : am_f152 pc = some e) : am_ckc 152 e = true := am_cof (n := 93) (t := am_t152) (by decide +kernel) h
theorem am_o152 : am_okm 152 = true := by decide +kernel
theorem am_h153 {pc : Nat} {e : am_en} (h : am_f153 pc = some e) : am_ckc 153 e = true := am_cof (n := 62) (t := am_t153) (by decide +kernel) h
theorem am_o153 : am_okm 153 = true := by decide +kernel
theorem am_h154 {pc : Nat} {e : am_en} (h : am_f154 pc = some e) : am_ckc 154 e = true := am_cof (n := 522) (t := am_t154) (by decide +kernel) h
theorem am_o154 : am_okm 154 = true := by decide +kernel
theorem am_h155 {pc : Nat} {e : am_en} (h : am_f155 pc = some e) : am_ckc 155 e = true := am_cof (n := 16) (t := am_t155) (by decide +kernel) h
theorem am_o155 : am_okm 155 = true := by decide +kernel
theorem am_h156 {pc : Nat} {e : am_en} (h : am_f156 pc = some e) : am_ckc 156 e = true := am_cof (n := 18) (t := am_t156) (by decide +kernel) h
theorem am_o156 : am_okm 156 = true := by decide +kernel
theorem am_h157 {pc : Nat} {e : am_en} (h : am_f157 pc = some e) : am_ckc 157 e = true := am_cof (n := 7) (t := am_t157) (by decide +kernel) h
theorem am_o157 : am_okm 157 = true := by decide +kernel
theorem am_h158 {pc : Nat} {e : am_en} (h : am_f158 pc = some e) : am_ckc 158 e = true := am_cof (n := 15) (t := am_t158) (by decide +kernel) h
theorem am_o158 : am_okm 158 = true := by decide +kernel
theorem am_h159 {pc : Nat} {e : am_en} (h : am_f159 pc = some e) : am_ckc 159 e = true := am_cof (n := 26) (t := am_t159) (by decide +kernel) h
theorem am_o159 : am_okm 159 = true := by decide +kernel
theorem am_h160 {pc : Nat} {e : am_en} (h : am_f160 pc = some e) : am_ckc 160 e = true := am_cof (n := 7) (t := am_t160) (by decide +kernel) h
theorem am_o160 : am_okm 160 = true := by decide +kernel
theorem am_h161 {pc : Nat} {e : am_en} (h : am_f161 pc = some e) : am_ckc 161 e = true := am_cof (n := 30) (t := am_t161) (by decide +kernel) h
theorem am_o161 : am_okm 161 = true := by decide +kernel
theorem am_h162 {pc : Nat} {e : am_en} (h : am_f162 pc = some e) : am_ckc 162 e = true := am_cof (n := 30) (t := am_t162) (by decide +kernel) h
theorem am_o162 : am_okm 162 = true := by decide +kernel
theorem am_h163 {pc : Nat} {e : am_en} (h : am_f163 pc = some e) : am_ckc 163 e = true := am_cof (n := 60) (t := am_t163) (by decide +kernel) h
theorem am_o163 : am_okm 163 = true := by decide +kernel
theorem am_h164 {pc : Nat} {e : am_en} (h : am_f164 pc = some e) : am_ckc 164 e = true := am_cof (n := 30) (t := am_t164) (by decide +kernel) h
theorem am_o164 : am_okm 164 = true := by decide +kernel
theorem am_h165 {pc : Nat} {e : am_en} (h : am_f165 pc = some e) : am_ckc 165 e = true := am_cof (n := 53) (t := am_t165) (by decide +kernel) h
theorem am_o165 : am_okm 165 = true := by decide +kernel
theorem am_h166 {pc : Nat} {e : am_en} (h : am_f166 pc = some e) : am_ckc 166 e = true := am_cof (n := 22) (t := am_t166) (by decide +kernel) h
theorem am_o166 : am_okm 166 = true := by decide +kernel
theorem am_h167 {pc : Nat} {e : am_en} (h : am_f167 pc = some e) : am_ckc 167 e = true := am_cof (n := 178) (t := am_t167) (by decide +kernel) h
theorem am_o167 : am_okm 167 = true := by decide +kernel
theorem am_h168 {pc : Nat} {e : am_en} (h : am_f168 pc = some e) : am_ckc 168 e = true := am_cof (n := 35) (t := am_t168) (by decide +kernel) h
theorem am_o168 : am_okm 168 = true := by decide +kernel
theorem am_h169 {pc : Nat} {e : am_en} (h : am_f169 pc = some e) : am_ckc 169 e = true := am_cof (n := 33) (t := am_t169) (by decide +kernel) h
theorem am_o169 : am_okm 169 = true := by decide +kernel
theorem am_h170 {pc : Nat} {e : am_en} (h : am_f170 pc = some e) : am_ckc 170 e = true := am_cof (n := 70) (t := am_t170) (by decide +kernel) h
theorem am_o170 : am_okm 170 = true := by decide +kernel
theorem am_h171 {pc : Nat} {e : am_en} (h : am_f171 pc = some e) : am_ckc 171 e = true := am_cof (n := 21) (t := am_t171) (by decide +kernel) h
theorem am_o171 : am_okm 171 = true := by decide +kernel
theorem am_h172 {pc : Nat} {e : am_en} (h : am_f172 pc = some e) : am_ckc 172 e = true := am_cof (n := 7) (t := am_t172) (by decide +kernel) h
theorem am_o172 : am_okm 172 = true := by decide +kernel
theorem am_h173 {pc : Nat} {e : am_en} (h : am_f173 pc = some e) : am_ckc 173 e = true := am_cof (n := 30) (t := am_t173) (by decide +kernel) h
theorem am_o173 : am_okm 173 = true := by decide +kernel
theorem am_h174 {pc : Nat} {e : am_en} (h : am_f174 pc = some e) : am_ckc 174 e = true := am_cof (n := 33) (t := am_t174) (by decide +kernel) h
theorem am_o174 : am_okm 174 = true := by decide +kernel
theorem am_h175 {pc : Nat} {e : am_en} (h : am_f175 pc = some e) : am_ckc 175 e = true := am_cof (n := 13) (t := am_t175) (by decide +kernel) h
theorem am_o175 : am_okm 175 = true := by decide +kernel
theorem am_h176 {pc : Nat} {e : am_en} (h : am_f176 pc = some e) : am_ckc 176 e = true := am_cof (n := 373) (t := am_t176) (by decide +kernel) h
theorem am_o176 : am_okm 176 = true := by decide +kernel
theorem am_h177 {pc : Nat} {e : am_en} (h : am_f177 pc = some e) : am_ckc 177 e = true := am_cof (n := 179) (t := am_t177) (by decide +kernel) h
theorem am_o177 : am_okm 177 = true := by decide +kernel
theorem am_h178 {pc : Nat} {e : am_en} (h : am_f178 pc = some e) : am_ckc 178 e = true := am_cof (n := 141) (t := am_t178) (by decide +kernel) h
theorem am_o178 : am_okm 178 = true := by decide +kernel
theorem am_h179 {pc : Nat} {e : am_en} (h : am_f179 pc = some e) : am_ckc 179 e = true := am_cof (n := 20) (t := am_t179) (by decide +kernel) h
theorem am_o179 : am_okm 179 = true := by decide +kernel
theorem am_h180 {pc : Nat} {e : am_en} (h : am_f180 pc = some e) : am_ckc 180 e = true := am_cof (n := 90) (t := am_t180) (by decide +kernel) h
theorem am_o180 : am_okm 180 = true := by decide +kernel
theorem am_h181 {pc : Nat} {e : am_en} (h : am_f181 pc = some e) : am_ckc 181 e = true := am_cof (n := 17) (t := am_t181) (by decide +kernel) h
theorem am_o181 : am_okm 181 = true := by decide +kernel
theorem am_h182 {pc : Nat} {e : am_en} (h : am_f182 pc = some e) : am_ckc 182 e = true := am_cof (n := 63) (t := am_t182) (by decide +kernel) h
theorem am_o182 : am_okm 182 = true := by decide +kernel
theorem am_h183 {pc : Nat} {e : am_en} (h : am_f183 pc = some e) : am_ckc 183 e = true := am_cof (n := 8) (t := am_t183) (by decide +kernel) h
theorem am_o183 : am_okm 183 = true := by decide +kernel
theorem am_h184 {pc : Nat} {e : am_en} (h : am_f184 pc = some e) : am_ckc 184 e = true := am_cof (n := 28) (t := am_t184) (by decide +kernel) h
theorem am_o184 : am_okm 184 = true := by decide +kernel
theorem am_h185 {pc : Nat} {e : am_en} (h : am_f185 pc = some e) : am_ckc 185 e = true := am_cof (n := 59) (t := am_t185) (by decide +kernel) h
theorem am_o185 : am_okm 185 = true := by decide +kernel
theorem am_h186 {pc : Nat} {e : am_en} (h : am_f186 pc = some e) : am_ckc 186 e = true := am_cof (n := 109) (t := am_t186) (by decide +kernel) h
theorem am_o186 : am_okm 186 = true := by decide +kernel
theorem am_h187 {pc : Nat} {e : am_en} (h : am_f187 pc = some e) : am_ckc 187 e = true := am_cof (n := 22) (t := am_t187) (by decide +kernel) h
theorem am_o187 : am_okm 187 = true := by decide +kernel
theorem am_h188 {pc : Nat} {e : am_en} (h : am_f188 pc = some e) : am_ckc 188 e = true := am_cof (n := 409) (t := am_t188) (by decide +kernel) h
theorem am_o188 : am_okm 188 = true := by decide +kernel
theorem am_h189 {pc : Nat} {e : am_en} (h : am_f189 pc = some e) : am_ckc 189 e = true := am_cof (n := 16) (t := am_t189) (by decide +kernel) h
theorem am_o189 : am_okm 189 = true := by decide +kernel
