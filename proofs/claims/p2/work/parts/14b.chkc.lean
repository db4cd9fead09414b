/-! THE CHECKS of calls and callees, method by method (printed by wip/tools/gen13.py) -/
theorem am_h70 {pc : Nat} {e : am_en} (h : am_f70 pc = some e) : am_ckc 70 e = true := am_cof (n := 121) (t := am_t70) (by decide +kernel) h
theorem am_o70 : am_okm 70 = true := by decide +kernel
theorem am_h71 {pc : Nat} {e : am_en} (h : am_f71 pc = some e) : am_ckc 71 e = true := am_cof (n := 55) (t := am_t71) (by decide +kernel) h
theorem am_o71 : am_okm 71 = true := by decide +kernel
theorem am_h72 {pc : Nat} {e : am_en} (h : am_f72 pc = some e) : am_ckc 72 e = true := am_cof (n := 45) (t := am_t72) (by decide +kernel) h
theorem am_o72 : am_okm 72 = true := by decide +kernel
theorem am_h73 {pc : Nat} {e : am_en} (h : am_f73 pc = some e) : am_ckc 73 e = true := am_cof (n := 79) (t := am_t73) (by decide +kernel) h
theorem am_o73 : am_okm 73 = true := by decide +kernel
theorem am_h74 {pc : Nat} {e : am_en} (h : am_f74 pc = some e) : am_ckc 74 e = true := am_cof (n := 72) (t := am_t74) (by decide +kernel) h
theorem am_o74 : am_okm 74 = true := by decide +kernel
theorem am_h75 {pc : Nat} {e : am_en} (h : am_f75 pc = some e) : am_ckc 75 e = true := am_cof (n := 108) (t := am_t75) (by decide +kernel) h
theorem am_o75 : am_okm 75 = true := by decide +kernel
theorem am_h76 {pc : Nat} {e : am_en} (h : am_f76 pc = some e) : am_ckc 76 e = true := am_cof (n := 80) (t := am_t76) (by decide +kernel) h
theorem am_o76 : am_okm 76 = true := by decide +kernel
theorem am_h77 {pc : Nat} {e : am_en} (h : am_f77 pc = some e) : am_ckc 77 e = true := am_cof (n := 63) (t := am_t77) (by decide +kernel) h
theorem am_o77 : am_okm 77 = true := by decide +kernel
theorem am_h78 {pc : Nat} {e : am_en} (h : am_f78 pc = some e) : am_ckc 78 e = true := am_cof (n := 135) (t := am_t78) (by decide +kernel) h
theorem am_o78 : am_okm 78 = true := by decide +kernel
theorem am_h79 {pc : Nat} {e : am_en} (h : am_f79 pc = some e) : am_ckc 79 e = true := am_cof (n := 78) (t := am_t79) (by decide +kernel) h
theorem am_o79 : am_okm 79 = true := by decide +kernel
theorem am_h80 {pc : Nat} {e : am_en} (h : am_f80 pc = some e) : am_ckc 80 e = true := am_cof (n := 26) (t := am_t80) (by decide +kernel) h
theorem am_o80 : am_okm 80 = true := by decide +kernel
theorem am_h81 {pc : Nat} {e : am_en} (h : am_f81 pc = some e) : am_ckc 81 e = true := am_cof (n := 17) (t := am_t81) (by decide +kernel) h
theorem am_o81 : am_okm 81 = true := by decide +kernel
theorem am_h82 {pc : Nat} {e : am_en} (h : am_f82 pc = some e) : am_ckc 82 e = true := am_cof (n := 37) (t := am_t82) (by decide +kernel) h
theorem am_o82 : am_okm 82 = true := by decide +kernel
theorem am_h83 {pc : Nat} {e : am_en} (h : am_f83 pc = some e) : am_ckc 83 e = true := am_cof (n := 45) (t := am_t83) (by decide +kernel) h
theorem am_o83 : am_okm 83 = true := by decide +kernel
theorem am_h84 {pc : Nat} {e : am_en} (h : am_f84 pc = some e) : am_ckc 84 e = true := am_cof (n := 39) (t := am_t84) (by decide +kernel) h
theorem am_o84 : am_okm 84 = true := by decide +kernel
theorem am_h85 {pc : Nat} {e : am_en} (h : am_f85 pc = some e) : am_ckc 85 e = true := am_cof (n := 114) (t := am_t85) (by decide +kernel) h
theorem am_o85 : am_okm 85 = true := by decide +kernel
theorem am_h86 {pc : Nat} {e : am_en} (h : am_f86 pc = some e) : am_ckc 86 e = true := am_cof (n := 24) (t := am_t86) (by decide +kernel) h
theorem am_o86 : am_okm 86 = true := by decide +kernel
theorem am_h87 {pc : Nat} {e : am_en} (h : am_f87 pc = some e) : am_ckc 87 e = true := am_cof (n := 24) (t := am_t87) (by decide +kernel) h
theorem am_o87 : am_okm 87 = true := by decide +kernel
theorem am_h88 {pc : Nat} {e : am_en} (h : am_f88 pc = some e) : am_ckc 88 e = true := am_cof (n := 79) (t := am_t88) (by decide +kernel) h
theorem am_o88 : am_okm 88 = true := by decide +kernel
theorem am_h89 {pc : Nat} {e : am_en} (h : am_f89 pc = some e) : am_ckc 89 e = true := am_cof (n := 130) (t := am_t89) (by decide +kernel) h
theorem am_o89 : am_okm 89 = true := by decide +kernel
theorem am_h90 {pc : Nat} {e : am_en} (h : am_f90 pc = some e) : am_ckc 90 e = true := am_cof (n := 77) (t := am_t90) (by decide +kernel) h
theorem am_o90 : am_okm 90 = true := by decide +kernel
theorem am_h91 {pc : Nat} {e : am_en} (h : am_f91 pc = some e) : am_ckc 91 e = true := am_cof (n := 51) (t := am_t91) (by decide +kernel) h
theorem am_o91 : am_okm 91 = true := by decide +kernel
theorem am_h92 {pc : Nat} {e : am_en} (h : am_f92 pc = some e) : am_ckc 92 e = true := am_cof (n := 209) (t := am_t92) (by decide +kernel) h
theorem am_o92 : am_okm 92 = true := by decide +kernel
theorem am_h93 {pc : Nat} {e : am_en} (h : am_f93 pc = some e) : am_ckc 93 e = true := am_cof (n := 40) (t := am_t93) (by decide +kernel) h
theorem am_o93 : am_okm 93 = true := by decide +kernel
theorem am_h94 {pc : Nat} {e : am_en} (h : am_f94 pc = some e) : am_ckc 94 e = true := am_cof (n := 47) (t := am_t94) (by decide +kernel) h
theorem am_o94 : am_okm 94 = true := by decide +kernel
theorem am_h95 {pc : Nat} {e : am_en} (h : am_f95 pc = some e) : am_ckc 95 e = true := am_cof (n := 32) (t := am_t95) (by decide +kernel) h
theorem am_o95 : am_okm 95 = true := by decide +kernel
theorem am_h96 {pc : Nat} {e : am_en} (h : am_f96 pc = some e) : am_ckc 96 e = true := am_cof (n := 41) (t := am_t96) (by decide +kernel) h
theorem am_o96 : am_okm 96 = true := by decide +kernel
theorem am_h97 {pc : Nat} {e : am_en} (h : am_f97 pc = some e) : am_ckc 97 e = true := am_cof (n := 126) (t := am_t97) (by decide +kernel) h
theorem am_o97 : am_okm 97 = true := by decide +kernel
theorem am_h98 {pc : Nat} {e : am_en} (h : am_f98 pc = some e) : am_ckc 98 e = true := am_cof (n := 41) (t := am_t98) (by decide +kernel) h
theorem am_o98 : am_okm 98 = true := by decide +kernel
theorem am_h99 {pc : Nat} {e : am_en} (h : am_f99 pc = some e) : am_ckc 99 e = true := am_cof (n := 84) (t := am_t99) (by decide +kernel) h
theorem am_o99 : am_okm 99 = true := by decide +kernel
theorem am_h100 {pc : Nat} {e : am_en} (h : am_f100 pc = some e) : am_ckc 100 e = true := am_cof (n := 41) (t := am_t100) (by decide +kernel) h
theorem am_o100 : am_okm 100 = true := by decide +kernel
theorem am_h101 {pc : Nat} {e : am_en} (h : am_f101 pc = some e) : am_ckc 101 e = true := am_cof (n := 45) (t := am_t101) (by decide +kernel) h
theorem am_o101 : am_okm 101 = true := by decide +kernel
theorem am_h102 {pc : Nat} {e : am_en} (h : am_f102 pc = some e) : am_ckc 102 e = true := am_cof (n := 84) (t := am_t102) (by decide +kernel) h
theorem am_o102 : am_okm 102 = true := by decide +kernel
theorem am_h103 {pc : Nat} {e : am_en} (h : am_f103 pc = some e) : am_ckc 103 e = true := am_cof (n := 76) (t := am_t103) (by decide +kernel) h
theorem am_o103 : am_okm 103 = true := by decide +kernel
theorem am_h104 {pc : Nat} {e : am_en} (h : am_f104 pc = some e) : am_ckc 104 e = true := am_cof (n := 62) (t := am_t104) (by decide +kernel) h
theorem am_o104 : am_okm 104 = true := by decide +kernel
theorem am_h105 {pc : Nat} {e : am_en} (h : am_f105 pc = some e) : am_ckc 105 e = true := am_cof (n := 153) (t := am_t105) (by decide +kernel) h
theorem am_o105 : am_okm 105 = true := by decide +kernel
theorem am_h106 {pc : Nat} {e : am_en} (h : am_f106 pc = some e) : am_ckc 106 e = true := am_cof (n := 168) (t := am_t106) (by decide +kernel) h
theorem am_o106 : am_okm 106 = true := by decide +kernel
theorem am_h107 {pc : Nat} {e : am_en} (h : am_f107 pc = some e) : am_ckc 107 e = true := am_cof (n := 54) (t := am_t107) (by decide +kernel) h
theorem am_o107 : am_okm 107 = true := by decide +kernel
theorem am_h108 {pc : Nat} {e : am_en} (h : am_f108 pc = some e) : am_ckc 108 e = true := am_cof (n := 86) (t := am_t108) (by decide +kernel) h
theorem am_o108 : am_okm 108 = true := by decide +kernel
theorem am_h109 {pc : Nat} {e : am_en} (h : am_f109 pc = some e) : am_ckc 109 e = true := am_cof (n := 39) (t := am_t109) (by decide +kernel) h
theorem am_o109 : am_okm 109 = true := by decide +kernel
theorem am_h110 {pc : Nat} {e : am_en} (h : am_f110 pc = some e) : am_ckc 110 e = true := am_cof (n := 64) (t := am_t110) (by decide +kernel) h
theorem am_o110 : am_okm 110 = true := by decide +kernel
theorem am_h111 {pc : Nat} {e : am_en} (h : am_f111 pc = some e) : am_ckc 111 e = true := am_cof (n := 51) (t := am_t111) (by decide +kernel) h
theorem am_o111 : am_okm 111 = true := by decide +kernel
theorem am_h112 {pc : Nat} {e : am_en} (h : am_f112 pc = some e) : am_ckc 112 e = true := am_cof (n := 76) (t := am_t112) (by decide +kernel) h
theorem am_o112 : am_okm 112 = true := by decide +kernel
theorem am_h113 {pc : Nat} {e : am_en} (h : am_f113 pc = some e) : am_ckc 113 e = true := am_cof (n := 116) (t := am_t113) (by decide +kernel) h
theorem am_o113 : am_okm 113 = true := by decide +kernel
theorem am_h114 {pc : Nat} {e : am_en} (h : am_f114 pc = some e) : am_ckc 114 e = true := am_cof (n := 54) (t := am_t114) (by decide +kernel) h
theorem am_o114 : am_okm 114 = true := by decide +kernel
theorem am_h115 {pc : Nat} {e : am_en} (h : am_f115 pc = some e) : am_ckc 115 e = true := am_cof (n := 70) (t := am_t115) (by decide +kernel) h
theorem am_o115 : am_okm 115 = true := by decide +kernel
theorem am_h116 {pc : Nat} {e : am_en} (h : am_f116 pc = some e) : am_ckc 116 e = true := am_cof (n := 60) (t := am_t116) (by decide +kernel) h
theorem am_o116 : am_okm 116 = true := by decide +kernel
theorem am_h117 {pc : Nat} {e : am_en} (h : am_f117 pc = some e) : am_ckc 117 e = true := am_cof (n := 78) (t := am_t117) (by decide +kernel) h
theorem am_o117 : am_okm 117 = true := by decide +kernel
theorem am_h118 {pc : Nat} {e : am_en} (h : am_f118 pc = some e) : am_ckc 118 e = true := am_cof (n := 108) (t := am_t118) (by decide +kernel) h
theorem am_o118 : am_okm 118 = true := by decide +kernel
theorem am_h119 {pc : Nat} {e : am_en} (h : am_f119 pc = some e) : am_ckc 119 e = true := am_cof (n := 72) (t := am_t119) (by decide +kernel) h
theorem am_o119 : am_okm 119 = true := by decide +kernel
theorem am_h120 {pc : Nat} {e : am_en} (h : am_f120 pc = some e) : am_ckc 120 e = true := am_cof (n := 62) (t := am_t120) (by decide +kernel) h
theorem am_o120 : am_okm 120 = true := by decide +kernel
theorem am_h121 {pc : Nat} {e : am_en} (h : am_f121 pc = some e) : am_ckc 121 e = true := am_cof (n := 26) (t := am_t121) (by decide +kernel) h
theorem am_o121 : am_okm 121 = true := by decide +kernel
theorem am_h122 {pc : Nat} {e : am_en} (h : am_f122 pc = some e) : am_ckc 122 e = true := am_cof (n := 57) (t := am_t122) (by decide +kernel) h
theorem am_o122 : am_okm 122 = true := by decide +kernel
theorem am_h123 {pc : Nat} {e : am_en} (h : am_f123 pc = some e) : am_ckc 123 e = true := am_cof (n := 45) (t := am_t123) (by decide +kernel) h
theorem am_o123 : am_okm 123 = true := by decide +kernel
theorem am_h124 {pc : Nat} {e : am_en} (h : am_f124 pc = some e) : am_ckc 124 e = true := am_cof (n := 44) (t := am_t124) (by decide +kernel) h
theorem am_o124 : am_okm 124 = true := by decide +kernel
theorem am_h125 {pc : Nat} {e : am_en} (h : am_f125 pc = some e) : am_ckc 125 e = true := am_cof (n := 39) (t := am_t125) (by decide +kernel) h
theorem am_o125 : am_okm 125 = true := by decide +kernel
theorem am_h126 {pc : Nat} {e : am_en} (h : am_f126 pc = some e) : am_ckc 126 e = true := am_cof (n := 34) (t := am_t126) (by decide +kernel) h
theorem am_o126 : am_okm 126 = true := by decide +kernel
theorem am_h127 {pc : Nat} {e : am_en} (h : am_f127 pc = some e) : am_ckc 127 e = true := am_cof (n := 22) (t := am_t127) (by decide +kernel) h
theorem am_o127 : am_okm 127 = true := by decide +kernel
theorem am_h128 {pc : Nat} {e : am_en} (h : am_f128 pc = some e) : am_ckc 128 e = true := am_cof (n := 45) (t := am_t128) (by decide +kernel) h
theorem am_o128 : am_okm 128 = true := by decide +kernel
theorem am_h129 {pc : Nat} {e : am_en} (h : am_f129 pc = some e) : am_ckc 129 e = true := am_cof (n := 66) (t := am_t129) (by decide +kernel) h
theorem am_o129 : am_okm 129 = true := by decide +kernel
