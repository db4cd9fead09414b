/-! THE CHECKS of calls and callees, method by method (printed by wip/tools/gen13.py) -/
theorem am_h190 {pc : Nat} {e : am_en} (h : am_f190 pc = some e) : am_ckc 190 e = true := am_cof (n := 409) (t := am_t190) (by decide +kernel) h
theorem am_o190 : am_okm 190 = true := by decide +kernel
theorem am_h191 {pc : Nat} {e : am_en} (h : am_f191 pc = some e) : am_ckc 191 e = true := am_cof (n := 443) (t := am_t191) (by decide +kernel) h
theorem am_o191 : am_okm 191 = true := by decide +kernel
theorem am_h192 {pc : Nat} {e : am_en} (h : am_f192 pc = some e) : am_ckc 192 e = true := am_cof (n := 20) (t := am_t192) (by decide +kernel) h
theorem am_o192 : am_okm 192 = true := by decide +kernel
theorem am_h193 {pc : Nat} {e : am_en} (h : am_f193 pc = some e) : am_ckc 193 e = true := am_cof (n := 89) (t := am_t193) (by decide +kernel) h
theorem am_o193 : am_okm 193 = true := by decide +kernel
theorem am_h194 {pc : Nat} {e : am_en} (h : am_f194 pc = some e) : am_ckc 194 e = true := am_cof (n := 135) (t := am_t194) (by decide +kernel) h
theorem am_o194 : am_okm 194 = true := by decide +kernel
theorem am_h195 {pc : Nat} {e : am_en} (h : am_f195 pc = some e) : am_ckc 195 e = true := am_cof (n := 41) (t := am_t195) (by decide +kernel) h
theorem am_o195 : am_okm 195 = true := by decide +kernel
theorem am_h196 {pc : Nat} {e : am_en} (h : am_f196 pc = some e) : am_ckc 196 e = true := am_cof (n := 32) (t := am_t196) (by decide +kernel) h
theorem am_o196 : am_okm 196 = true := by decide +kernel
theorem am_h197 {pc : Nat} {e : am_en} (h : am_f197 pc = some e) : am_ckc 197 e = true := am_cof (n := 39) (t := am_t197) (by decide +kernel) h
theorem am_o197 : am_okm 197 = true := by decide +kernel
theorem am_h198 {pc : Nat} {e : am_en} (h : am_f198 pc = some e) : am_ckc 198 e = true := am_cof (n := 83) (t := am_t198) (by decide +kernel) h
theorem am_o198 : am_okm 198 = true := by decide +kernel
theorem am_h199 {pc : Nat} {e : am_en} (h : am_f199 pc = some e) : am_ckc 199 e = true := am_cof (n := 24) (t := am_t199) (by decide +kernel) h
theorem am_o199 : am_okm 199 = true := by decide +kernel
theorem am_h200 {pc : Nat} {e : am_en} (h : am_f200 pc = some e) : am_ckc 200 e = true := am_cof (n := 69) (t := am_t200) (by decide +kernel) h
theorem am_o200 : am_okm 200 = true := by decide +kernel
theorem am_h201 {pc : Nat} {e : am_en} (h : am_f201 pc = some e) : am_ckc 201 e = true := am_cof (n := 37) (t := am_t201) (by decide +kernel) h
theorem am_o201 : am_okm 201 = true := by decide +kernel
theorem am_h202 {pc : Nat} {e : am_en} (h : am_f202 pc = some e) : am_ckc 202 e = true := am_cof (n := 48) (t := am_t202) (by decide +kernel) h
theorem am_o202 : am_okm 202 = true := by decide +kernel
theorem am_h203 {pc : Nat} {e : am_en} (h : am_f203 pc = some e) : am_ckc 203 e = true := am_cof (n := 43) (t := am_t203) (by decide +kernel) h
theorem am_o203 : am_okm 203 = true := by decide +kernel
theorem am_h204 {pc : Nat} {e : am_en} (h : am_f204 pc = some e) : am_ckc 204 e = true := am_cof (n := 249) (t := am_t204) (by decide +kernel) h
theorem am_o204 : am_okm 204 = true := by decide +kernel
theorem am_h205 {pc : Nat} {e : am_en} (h : am_f205 pc = some e) : am_ckc 205 e = true := am_cof (n := 84) (t := am_t205) (by decide +kernel) h
theorem am_o205 : am_okm 205 = true := by decide +kernel
theorem am_h206 {pc : Nat} {e : am_en} (h : am_f206 pc = some e) : am_ckc 206 e = true := am_cof (n := 112) (t := am_t206) (by decide +kernel) h
theorem am_o206 : am_okm 206 = true := by decide +kernel
theorem am_h207 {pc : Nat} {e : am_en} (h : am_f207 pc = some e) : am_ckc 207 e = true := am_cof (n := 36) (t := am_t207) (by decide +kernel) h
theorem am_o207 : am_okm 207 = true := by decide +kernel
theorem am_h208 {pc : Nat} {e : am_en} (h : am_f208 pc = some e) : am_ckc 208 e = true := am_cof (n := 63) (t := am_t208) (by decide +kernel) h
theorem am_o208 : am_okm 208 = true := by decide +kernel
theorem am_h209 {pc : Nat} {e : am_en} (h : am_f209 pc = some e) : am_ckc 209 e = true := am_cof (n := 92) (t := am_t209) (by decide +kernel) h
theorem am_o209 : am_okm 209 = true := by decide +kernel
theorem am_h210 {pc : Nat} {e : am_en} (h : am_f210 pc = some e) : am_ckc 210 e = true := am_cof (n := 20) (t := am_t210) (by decide +kernel) h
theorem am_o210 : am_okm 210 = true := by decide +kernel
theorem am_h211 {pc : Nat} {e : am_en} (h : am_f211 pc = some e) : am_ckc 211 e = true := am_cof (n := 20) (t := am_t211) (by decide +kernel) h
theorem am_o211 : am_okm 211 = true := by decide +kernel
theorem am_h212 {pc : Nat} {e : am_en} (h : am_f212 pc = some e) : am_ckc 212 e = true := am_cof (n := 222) (t := am_t212) (by decide +kernel) h
theorem am_o212 : am_okm 212 = true := by decide +kernel
theorem am_h213 {pc : Nat} {e : am_en} (h : am_f213 pc = some e) : am_ckc 213 e = true := am_cof (n := 21) (t := am_t213) (by decide +kernel) h
theorem am_o213 : am_okm 213 = true := by decide +kernel
theorem am_h214 {pc : Nat} {e : am_en} (h : am_f214 pc = some e) : am_ckc 214 e = true := am_cof (n := 9) (t := am_t214) (by decide +kernel) h
theorem am_o214 : am_okm 214 = true := by decide +kernel
theorem am_h215 {pc : Nat} {e : am_en} (h : am_f215 pc = some e) : am_ckc 215 e = true := am_cof (n := 104) (t := am_t215) (by decide +kernel) h
theorem am_o215 : am_okm 215 = true := by decide +kernel
theorem am_h216 {pc : Nat} {e : am_en} (h : am_f216 pc = some e) : am_ckc 216 e = true := am_cof (n := 71) (t := am_t216) (by decide +kernel) h
theorem am_o216 : am_okm 216 = true := by decide +kernel
theorem am_h217 {pc : Nat} {e : am_en} (h : am_f217 pc = some e) : am_ckc 217 e = true := am_cof (n := 54) (t := am_t217) (by decide +kernel) h
theorem am_o217 : am_okm 217 = true := by decide +kernel
theorem am_h218 {pc : Nat} {e : am_en} (h : am_f218 pc = some e) : am_ckc 218 e = true := am_cof (n := 52) (t := am_t218) (by decide +kernel) h
theorem am_o218 : am_okm 218 = true := by decide +kernel
theorem am_h219 {pc : Nat} {e : am_en} (h : am_f219 pc = some e) : am_ckc 219 e = true := am_cof (n := 18) (t := am_t219) (by decide +kernel) h
theorem am_o219 : am_okm 219 = true := by decide +kernel
theorem am_h220 {pc : Nat} {e : am_en} (h : am_f220 pc = some e) : am_ckc 220 e = true := am_cof (n := 26) (t := am_t220) (by decide +kernel) h
theorem am_o220 : am_okm 220 = true := by decide +kernel
theorem am_h221 {pc : Nat} {e : am_en} (h : am_f221 pc = some e) : am_ckc 221 e = true := am_cof (n := 19) (t := am_t221) (by decide +kernel) h
theorem am_o221 : am_okm 221 = true := by decide +kernel
theorem am_h222 {pc : Nat} {e : am_en} (h : am_f222 pc = some e) : am_ckc 222 e = true := am_cof (n := 138) (t := am_t222) (by decide +kernel) h
theorem am_o222 : am_okm 222 = true := by decide +kernel
theorem am_h223 {pc : Nat} {e : am_en} (h : am_f223 pc = some e) : am_ckc 223 e = true := am_cof (n := 154) (t := am_t223) (by decide +kernel) h
theorem am_o223 : am_okm 223 = true := by decide +kernel
theorem am_h224 {pc : Nat} {e : am_en} (h : am_f224 pc = some e) : am_ckc 224 e = true := am_cof (n := 112) (t := am_t224) (by decide +kernel) h
theorem am_o224 : am_okm 224 = true := by decide +kernel
theorem am_h225 {pc : Nat} {e : am_en} (h : am_f225 pc = some e) : am_ckc 225 e = true := am_cof (n := 101) (t := am_t225) (by decide +kernel) h
theorem am_o225 : am_okm 225 = true := by decide +kernel
theorem am_h226 {pc : Nat} {e : am_en} (h : am_f226 pc = some e) : am_ckc 226 e = true := am_cof (n := 125) (t := am_t226) (by decide +kernel) h
theorem am_o226 : am_okm 226 = true := by decide +kernel
theorem am_h227 {pc : Nat} {e : am_en} (h : am_f227 pc = some e) : am_ckc 227 e = true := am_cof (n := 113) (t := am_t227) (by decide +kernel) h
theorem am_o227 : am_okm 227 = true := by decide +kernel
theorem am_h228 {pc : Nat} {e : am_en} (h : am_f228 pc = some e) : am_ckc 228 e = true := am_cof (n := 160) (t := am_t228) (by decide +kernel) h
theorem am_o228 : am_okm 228 = true := by decide +kernel
theorem am_h229 {pc : Nat} {e : am_en} (h : am_f229 pc = some e) : am_ckc 229 e = true := am_cof (n := 20) (t := am_t229) (by decide +kernel) h
theorem am_o229 : am_okm 229 = true := by decide +kernel
theorem am_h230 {pc : Nat} {e : am_en} (h : am_f230 pc = some e) : am_ckc 230 e = true := am_cof (n := 51) (t := am_t230) (by decide +kernel) h
theorem am_o230 : am_okm 230 = true := by decide +kernel
theorem am_h231 {pc : Nat} {e : am_en} (h : am_f231 pc = some e) : am_ckc 231 e = true := am_cof (n := 12) (t := am_t231) (by decide +kernel) h
theorem am_o231 : am_okm 231 = true := by decide +kernel
theorem am_h232 {pc : Nat} {e : am_en} (h : am_f232 pc = some e) : am_ckc 232 e = true := am_cof (n := 39) (t := am_t232) (by decide +kernel) h
theorem am_o232 : am_okm 232 = true := by decide +kernel
theorem am_h233 {pc : Nat} {e : am_en} (h : am_f233 pc = some e) : am_ckc 233 e = true := am_cof (n := 89) (t := am_t233) (by decide +kernel) h
theorem am_o233 : am_okm 233 = true := by decide +kernel
theorem am_h234 {pc : Nat} {e : am_en} (h : am_f234 pc = some e) : am_ckc 234 e = true := am_cof (n := 34) (t := am_t234) (by decide +kernel) h
theorem am_o234 : am_okm 234 = true := by decide +kernel
theorem am_h235 {pc : Nat} {e : am_en} (h : am_f235 pc = some e) : am_ckc 235 e = true := am_cof (n := 32) (t := am_t235) (by decide +kernel) h
theorem am_o235 : am_okm 235 = true := by decide +kernel
theorem am_h236 {pc : Nat} {e : am_en} (h : am_f236 pc = some e) : am_ckc 236 e = true := am_cof (n := 28) (t := am_t236) (by decide +kernel) h
theorem am_o236 : am_okm 236 = true := by decide +kernel
theorem am_h237 {pc : Nat} {e : am_en} (h : am_f237 pc = some e) : am_ckc 237 e = true := am_cof (n := 46) (t := am_t237) (by decide +kernel) h
theorem am_o237 : am_okm 237 = true := by decide +kernel
theorem am_h238 {pc : Nat} {e : am_en} (h : am_f238 pc = some e) : am_ckc 238 e = true := am_cof (n := 17) (t := am_t238) (by decide +kernel) h
theorem am_o238 : am_okm 238 = true := by decide +kernel
theorem am_h239 {pc : Nat} {e : am_en} (h : am_f239 pc = some e) : am_ckc 239 e = true := am_cof (n := 62) (t := am_t239) (by decide +kernel) h
theorem am_o239 : am_okm 239 = true := by decide +kernel
theorem am_h240 {pc : Nat} {e : am_en} (h : am_f240 pc = some e) : am_ckc 240 e = true := am_cof (n := 39) (t := am_t240) (by decide +kernel) h
theorem am_o240 : am_okm 240 = true := by decide +kernel
theorem am_h241 {pc : Nat} {e : am_en} (h : am_f241 pc = some e) : am_ckc 241 e = true := am_cof (n := 91) (t := am_t241) (by decide +kernel) h
theorem am_o241 : am_okm 241 = true := by decide +kernel
theorem am_h242 {pc : Nat} {e : am_en} (h : am_f242 pc = some e) : am_ckc 242 e = true := am_cof (n := 64) (t := am_t242) (by decide +kernel) h
theorem am_o242 : am_okm 242 = true := by decide +kernel
theorem am_h243 {pc : Nat} {e : am_en} (h : am_f243 pc = some e) : am_ckc 243 e = true := am_cof (n := 84) (t := am_t243) (by decide +kernel) h
theorem am_o243 : am_okm 243 = true := by decide +kernel
theorem am_h244 {pc : Nat} {e : am_en} (h : am_f244 pc = some e) : am_ckc 244 e = true := am_cof (n := 34) (t := am_t244) (by decide +kernel) h
theorem am_o244 : am_okm 244 = true := by decide +kernel
theorem am_h245 {pc : Nat} {e : am_en} (h : am_f245 pc = some e) : am_ckc 245 e = true := am_cof (n := 28) (t := am_t245) (by decide +kernel) h
theorem am_o245 : am_okm 245 = true := by decide +kernel
theorem am_h246 {pc : Nat} {e : am_en} (h : am_f246 pc = some e) : am_ckc 246 e = true := am_cof (n := 116) (t := am_t246) (by decide +kernel) h
theorem am_o246 : am_okm 246 = true := by decide +kernel
theorem am_h247 {pc : Nat} {e : am_en} (h : am_f247 pc = some e) : am_ckc 247 e = true := am_cof (n := 5) (t := am_t247) (by decide +kernel) h
theorem am_o247 : am_okm 247 = true := by decide +kernel
theorem am_h248 {pc : Nat} {e : am_en} (h : am_f248 pc = some e) : am_ckc 248 e = true := am_cof (n := 5) (t := am_t248) (by decide +kernel) h
theorem am_o248 : am_okm 248 = true := by decide +kernel
theorem am_h249 {pc : Nat} {e : am_en} (h : am_f249 pc = some e) : am_ckc 249 e = true := am_cof (n := 5) (t := am_t249) (by decide +kernel) h
theorem am_o249 : am_okm 249 = true := by decide +kernel
theorem am_h250 {pc : Nat} {e : am_en} (h : am_f250 pc = some e) : am_ckc 250 e = true := am_cof (n := 223) (t := am_t250) (by decide +kernel) h
theorem am_o250 : am_okm 250 = true := by decide +kernel
theorem am_h251 {pc : Nat} {e : am_en} (h : am_f251 pc = some e) : am_ckc 251 e = true := am_cof (n := 20) (t := am_t251) (by decide +kernel) h
theorem am_o251 : am_okm 251 = true := by decide +kernel
theorem am_h252 {pc : Nat} {e : am_en} (h : am_f252 pc = some e) : am_ckc 252 e = true := am_cof (n := 5) (t := am_t252) (by decide +kernel) h
theorem am_o252 : am_okm 252 = true := by decide +kernel
theorem am_h253 {pc : Nat} {e : am_en} (h : am_f253 pc = some e) : am_ckc 253 e = true := am_cof (n := 20) (t := am_t253) (by decide +kernel) h
theorem am_o253 : am_okm 253 = true := by decide +kernel
theorem am_h254 {pc : Nat} {e : am_en} (h : am_f254 pc = some e) : am_ckc 254 e = true := am_cof (n := 16) (t := am_t254) (by decide +kernel) h
theorem am_o254 : am_okm 254 = true := by decide +kernel
theorem am_h255 {pc : Nat} {e : am_en} (h : am_f255 pc = some e) : am_ckc 255 e = true := am_cof (n := 79) (t := am_t255) (by decide +kernel) h
theorem am_o255 : am_okm 255 = true := by decide +kernel
theorem am_h256 {pc : Nat} {e : am_en} (h : am_f256 pc = some e) : am_ckc 256 e = true := am_cof (n := 123) (t := am_t256) (by decide +kernel) h
theorem am_o256 : am_okm 256 = true := by decide +kernel
theorem am_h257 {pc : Nat} {e : am_en} (h : am_f257 pc = some e) : am_ckc 257 e = true := am_cof (n := 130) (t := am_t257) (by decide +kernel) h
theorem am_o257 : am_okm 257 = true := by decide +kernel
theorem am_h258 {pc : Nat} {e : am_en} (h : am_f258 pc = some e) : am_ckc 258 e = true := am_cof (n := 187) (t := am_t258) (by decide +kernel) h
theorem am_o258 : am_okm 258 = true := by decide +kernel
theorem am_h259 {pc : Nat} {e : am_en} (h : am_f259 pc = some e) : am_ckc 259 e = true := am_cof (n := 53) (t := am_t259) (by decide +kernel) h
theorem am_o259 : am_okm 259 = true := by decide +kernel
theorem am_h260 {pc : Nat} {e : am_en} (h : am_f260 pc = some e) : am_ckc 260 e = true := am_cof (n := 11) (t := am_t260) (by decide +kernel) h
theorem am_h261 {pc : Nat} {e : am_en} (h : am_f261 pc = some e) : am_ckc 261 e = true := am_cof (n := 11) (t := am_t261) (by decide +kernel) h
