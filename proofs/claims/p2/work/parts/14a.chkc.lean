/-! THE CHECKS of calls and callees, method by method (printed by wip/tools/gen13.py) -/
theorem am_h0 {pc : Nat} {e : am_en} (h : am_f0 pc = some e) : am_ckc 0 e = true := am_cof (n := 109) (t := am_t0) (by decide +kernel) h
theorem am_o0 : am_okm 0 = true := by decide +kernel
theorem am_h1 {pc : Nat} {e : am_en} (h : am_f1 pc = some e) : am_ckc 1 e = true := am_cof (n := 75) (t := am_t1) (by decide +kernel) h
theorem am_o1 : am_okm 1 = true := by decide +kernel
theorem am_h2 {pc : Nat} {e : am_en} (h : am_f2 pc = some e) : am_ckc 2 e = true := am_cof (n := 43) (t := am_t2) (by decide +kernel) h
theorem am_o2 : am_okm 2 = true := by decide +kernel
theorem am_h3 {pc : Nat} {e : am_en} (h : am_f3 pc = some e) : am_ckc 3 e = true := am_cof (n := 25) (t := am_t3) (by decide +kernel) h
theorem am_o3 : am_okm 3 = true := by decide +kernel
theorem am_h4 {pc : Nat} {e : am_en} (h : am_f4 pc = some e) : am_ckc 4 e = true := am_cof (n := 83) (t := am_t4) (by decide +kernel) h
theorem am_o4 : am_okm 4 = true := by decide +kernel
theorem am_h5 {pc : Nat} {e : am_en} (h : am_f5 pc = some e) : am_ckc 5 e = true := am_cof (n := 91) (t := am_t5) (by decide +kernel) h
theorem am_o5 : am_okm 5 = true := by decide +kernel
theorem am_h6 {pc : Nat} {e : am_en} (h : am_f6 pc = some e) : am_ckc 6 e = true := am_cof (n := 67) (t := am_t6) (by decide +kernel) h
theorem am_o6 : am_okm 6 = true := by decide +kernel
theorem am_h7 {pc : Nat} {e : am_en} (h : am_f7 pc = some e) : am_ckc 7 e = true := am_cof (n := 39) (t := am_t7) (by decide +kernel) h
theorem am_o7 : am_okm 7 = true := by decide +kernel
theorem am_h8 {pc : Nat} {e : am_en} (h : am_f8 pc = some e) : am_ckc 8 e = true := am_cof (n := 26) (t := am_t8) (by decide +kernel) h
theorem am_o8 : am_okm 8 = true := by decide +kernel
theorem am_h9 {pc : Nat} {e : am_en} (h : am_f9 pc = some e) : am_ckc 9 e = true := am_cof (n := 34) (t := am_t9) (by decide +kernel) h
theorem am_o9 : am_okm 9 = true := by decide +kernel
theorem am_h10 {pc : Nat} {e : am_en} (h : am_f10 pc = some e) : am_ckc 10 e = true := am_cof (n := 55) (t := am_t10) (by decide +kernel) h
theorem am_o10 : am_okm 10 = true := by decide +kernel
theorem am_h11 {pc : Nat} {e : am_en} (h : am_f11 pc = some e) : am_ckc 11 e = true := am_cof (n := 63) (t := am_t11) (by decide +kernel) h
theorem am_o11 : am_okm 11 = true := by decide +kernel
theorem am_h12 {pc : Nat} {e : am_en} (h : am_f12 pc = some e) : am_ckc 12 e = true := am_cof (n := 15) (t := am_t12) (by decide +kernel) h
theorem am_o12 : am_okm 12 = true := by decide +kernel
theorem am_h13 {pc : Nat} {e : am_en} (h : am_f13 pc = some e) : am_ckc 13 e = true := am_cof (n := 124) (t := am_t13) (by decide +kernel) h
theorem am_o13 : am_okm 13 = true := by decide +kernel
theorem am_h14 {pc : Nat} {e : am_en} (h : am_f14 pc = some e) : am_ckc 14 e = true := am_cof (n := 97) (t := am_t14) (by decide +kernel) h
theorem am_o14 : am_okm 14 = true := by decide +kernel
theorem am_h15 {pc : Nat} {e : am_en} (h : am_f15 pc = some e) : am_ckc 15 e = true := am_cof (n := 93) (t := am_t15) (by decide +kernel) h
theorem am_o15 : am_okm 15 = true := by decide +kernel
theorem am_h16 {pc : Nat} {e : am_en} (h : am_f16 pc = some e) : am_ckc 16 e = true := am_cof (n := 22) (t := am_t16) (by decide +kernel) h
theorem am_o16 : am_okm 16 = true := by decide +kernel
theorem am_h17 {pc : Nat} {e : am_en} (h : am_f17 pc = some e) : am_ckc 17 e = true := am_cof (n := 46) (t := am_t17) (by decide +kernel) h
theorem am_o17 : am_okm 17 = true := by decide +kernel
theorem am_h18 {pc : Nat} {e : am_en} (h : am_f18 pc = some e) : am_ckc 18 e = true := am_cof (n := 16) (t := am_t18) (by decide +kernel) h
theorem am_o18 : am_okm 18 = true := by decide +kernel
theorem am_h19 {pc : Nat} {e : am_en} (h : am_f19 pc = some e) : am_ckc 19 e = true := am_cof (n := 63) (t := am_t19) (by decide +kernel) h
theorem am_o19 : am_okm 19 = true := by decide +kernel
theorem am_h20 {pc : Nat} {e : am_en} (h : am_f20 pc = some e) : am_ckc 20 e = true := am_cof (n := 59) (t := am_t20) (by decide +kernel) h
theorem am_o20 : am_okm 20 = true := by decide +kernel
theorem am_h21 {pc : Nat} {e : am_en} (h : am_f21 pc = some e) : am_ckc 21 e = true := am_cof (n := 154) (t := am_t21) (by decide +kernel) h
theorem am_o21 : am_okm 21 = true := by decide +kernel
theorem am_h22 {pc : Nat} {e : am_en} (h : am_f22 pc = some e) : am_ckc 22 e = true := am_cof (n := 155) (t := am_t22) (by decide +kernel) h
theorem am_o22 : am_okm 22 = true := by decide +kernel
theorem am_h23 {pc : Nat} {e : am_en} (h : am_f23 pc = some e) : am_ckc 23 e = true := am_cof (n := 165) (t := am_t23) (by decide +kernel) h
theorem am_o23 : am_okm 23 = true := by decide +kernel
theorem am_h24 {pc : Nat} {e : am_en} (h : am_f24 pc = some e) : am_ckc 24 e = true := am_cof (n := 47) (t := am_t24) (by decide +kernel) h
theorem am_o24 : am_okm 24 = true := by decide +kernel
theorem am_h25 {pc : Nat} {e : am_en} (h : am_f25 pc = some e) : am_ckc 25 e = true := am_cof (n := 74) (t := am_t25) (by decide +kernel) h
theorem am_o25 : am_okm 25 = true := by decide +kernel
theorem am_h26 {pc : Nat} {e : am_en} (h : am_f26 pc = some e) : am_ckc 26 e = true := am_cof (n := 76) (t := am_t26) (by decide +kernel) h
theorem am_o26 : am_okm 26 = true := by decide +kernel
theorem am_h27 {pc : Nat} {e : am_en} (h : am_f27 pc = some e) : am_ckc 27 e = true := am_cof (n := 83) (t := am_t27) (by decide +kernel) h
theorem am_o27 : am_okm 27 = true := by decide +kernel
theorem am_h28 {pc : Nat} {e : am_en} (h : am_f28 pc = some e) : am_ckc 28 e = true := am_cof (n := 72) (t := am_t28) (by decide +kernel) h
theorem am_o28 : am_okm 28 = true := by decide +kernel
theorem am_h29 {pc : Nat} {e : am_en} (h : am_f29 pc = some e) : am_ckc 29 e = true := am_cof (n := 41) (t := am_t29) (by decide +kernel) h
theorem am_o29 : am_okm 29 = true := by decide +kernel
theorem am_h30 {pc : Nat} {e : am_en} (h : am_f30 pc = some e) : am_ckc 30 e = true := am_cof (n := 96) (t := am_t30) (by decide +kernel) h
theorem am_o30 : am_okm 30 = true := by decide +kernel
theorem am_h31 {pc : Nat} {e : am_en} (h : am_f31 pc = some e) : am_ckc 31 e = true := am_cof (n := 17) (t := am_t31) (by decide +kernel) h
theorem am_o31 : am_okm 31 = true := by decide +kernel
theorem am_h32 {pc : Nat} {e : am_en} (h : am_f32 pc = some e) : am_ckc 32 e = true := am_cof (n := 54) (t := am_t32) (by decide +kernel) h
theorem am_o32 : am_okm 32 = true := by decide +kernel
theorem am_h33 {pc : Nat} {e : am_en} (h : am_f33 pc = some e) : am_ckc 33 e = true := am_cof (n := 41) (t := am_t33) (by decide +kernel) h
theorem am_o33 : am_okm 33 = true := by decide +kernel
theorem am_h34 {pc : Nat} {e : am_en} (h : am_f34 pc = some e) : am_ckc 34 e = true := am_cof (n := 60) (t := am_t34) (by decide +kernel) h
theorem am_o34 : am_okm 34 = true := by decide +kernel
theorem am_h35 {pc : Nat} {e : am_en} (h : am_f35 pc = some e) : am_ckc 35 e = true := am_cof (n := 82) (t := am_t35) (by decide +kernel) h
theorem am_o35 : am_okm 35 = true := by decide +kernel
theorem am_h36 {pc : Nat} {e : am_en} (h : am_f36 pc = some e) : am_ckc 36 e = true := am_cof (n := 202) (t := am_t36) (by decide +kernel) h
theorem am_o36 : am_okm 36 = true := by decide +kernel
theorem am_h37 {pc : Nat} {e : am_en} (h : am_f37 pc = some e) : am_ckc 37 e = true := am_cof (n := 32) (t := am_t37) (by decide +kernel) h
theorem am_o37 : am_okm 37 = true := by decide +kernel
theorem am_h38 {pc : Nat} {e : am_en} (h : am_f38 pc = some e) : am_ckc 38 e = true := am_cof (n := 40) (t := am_t38) (by decide +kernel) h
theorem am_o38 : am_okm 38 = true := by decide +kernel
theorem am_h39 {pc : Nat} {e : am_en} (h : am_f39 pc = some e) : am_ckc 39 e = true := am_cof (n := 26) (t := am_t39) (by decide +kernel) h
theorem am_o39 : am_okm 39 = true := by decide +kernel
theorem am_h40 {pc : Nat} {e : am_en} (h : am_f40 pc = some e) : am_ckc 40 e = true := am_cof (n := 72) (t := am_t40) (by decide +kernel) h
theorem am_o40 : am_okm 40 = true := by decide +kernel
theorem am_h41 {pc : Nat} {e : am_en} (h : am_f41 pc = some e) : am_ckc 41 e = true := am_cof (n := 53) (t := am_t41) (by decide +kernel) h
theorem am_o41 : am_okm 41 = true := by decide +kernel
theorem am_h42 {pc : Nat} {e : am_en} (h : am_f42 pc = some e) : am_ckc 42 e = true := am_cof (n := 118) (t := am_t42) (by decide +kernel) h
theorem am_o42 : am_okm 42 = true := by decide +kernel
theorem am_h43 {pc : Nat} {e : am_en} (h : am_f43 pc = some e) : am_ckc 43 e = true := am_cof (n := 83) (t := am_t43) (by decide +kernel) h
theorem am_o43 : am_okm 43 = true := by decide +kernel
theorem am_h44 {pc : Nat} {e : am_en} (h : am_f44 pc = some e) : am_ckc 44 e = true := am_cof (n := 36) (t := am_t44) (by decide +kernel) h
theorem am_o44 : am_okm 44 = true := by decide +kernel
theorem am_h45 {pc : Nat} {e : am_en} (h : am_f45 pc = some e) : am_ckc 45 e = true := am_cof (n := 44) (t := am_t45) (by decide +kernel) h
theorem am_o45 : am_okm 45 = true := by decide +kernel
theorem am_h46 {pc : Nat} {e : am_en} (h : am_f46 pc = some e) : am_ckc 46 e = true := am_cof (n := 149) (t := am_t46) (by decide +kernel) h
theorem am_o46 : am_okm 46 = true := by decide +kernel
theorem am_h47 {pc : Nat} {e : am_en} (h : am_f47 pc = some e) : am_ckc 47 e = true := am_cof (n := 112) (t := am_t47) (by decide +kernel) h
theorem am_o47 : am_okm 47 = true := by decide +kernel
theorem am_h48 {pc : Nat} {e : am_en} (h : am_f48 pc = some e) : am_ckc 48 e = true := am_cof (n := 63) (t := am_t48) (by decide +kernel) h
theorem am_o48 : am_okm 48 = true := by decide +kernel
theorem am_h49 {pc : Nat} {e : am_en} (h : am_f49 pc = some e) : am_ckc 49 e = true := am_cof (n := 7) (t := am_t49) (by decide +kernel) h
theorem am_o49 : am_okm 49 = true := by decide +kernel
theorem am_h50 {pc : Nat} {e : am_en} (h : am_f50 pc = some e) : am_ckc 50 e = true := am_cof (n := 14) (t := am_t50) (by decide +kernel) h
theorem am_o50 : am_okm 50 = true := by decide +kernel
theorem am_h51 {pc : Nat} {e : am_en} (h : am_f51 pc = some e) : am_ckc 51 e = true := am_cof (n := 35) (t := am_t51) (by decide +kernel) h
theorem am_o51 : am_okm 51 = true := by decide +kernel
theorem am_h52 {pc : Nat} {e : am_en} (h : am_f52 pc = some e) : am_ckc 52 e = true := am_cof (n := 100) (t := am_t52) (by decide +kernel) h
theorem am_o52 : am_okm 52 = true := by decide +kernel
theorem am_h53 {pc : Nat} {e : am_en} (h : am_f53 pc = some e) : am_ckc 53 e = true := am_cof (n := 40) (t := am_t53) (by decide +kernel) h
theorem am_o53 : am_okm 53 = true := by decide +kernel
theorem am_h54 {pc : Nat} {e : am_en} (h : am_f54 pc = some e) : am_ckc 54 e = true := am_cof (n := 69) (t := am_t54) (by decide +kernel) h
theorem am_o54 : am_okm 54 = true := by decide +kernel
theorem am_h55 {pc : Nat} {e : am_en} (h : am_f55 pc = some e) : am_ckc 55 e = true := am_cof (n := 40) (t := am_t55) (by decide +kernel) h
theorem am_o55 : am_okm 55 = true := by decide +kernel
theorem am_h56 {pc : Nat} {e : am_en} (h : am_f56 pc = some e) : am_ckc 56 e = true := am_cof (n := 26) (t := am_t56) (by decide +kernel) h
theorem am_o56 : am_okm 56 = true := by decide +kernel
theorem am_h57 {pc : Nat} {e : am_en} (h : am_f57 pc = some e) : am_ckc 57 e = true := am_cof (n := 29) (t := am_t57) (by decide +kernel) h
theorem am_o57 : am_okm 57 = true := by decide +kernel
theorem am_h58 {pc : Nat} {e : am_en} (h : am_f58 pc = some e) : am_ckc 58 e = true := am_cof (n := 16) (t := am_t58) (by decide +kernel) h
theorem am_o58 : am_okm 58 = true := by decide +kernel
theorem am_h59 {pc : Nat} {e : am_en} (h : am_f59 pc = some e) : am_ckc 59 e = true := am_cof (n := 33) (t := am_t59) (by decide +kernel) h
theorem am_o59 : am_okm 59 = true := by decide +kernel
theorem am_h60 {pc : Nat} {e : am_en} (h : am_f60 pc = some e) : am_ckc 60 e = true := am_cof (n := 46) (t := am_t60) (by decide +kernel) h
theorem am_o60 : am_okm 60 = true := by decide +kernel
theorem am_h61 {pc : Nat} {e : am_en} (h : am_f61 pc = some e) : am_ckc 61 e = true := am_cof (n := 28) (t := am_t61) (by decide +kernel) h
theorem am_o61 : am_okm 61 = true := by decide +kernel
theorem am_h62 {pc : Nat} {e : am_en} (h : am_f62 pc = some e) : am_ckc 62 e = true := am_cof (n := 26) (t := am_t62) (by decide +kernel) h
theorem am_o62 : am_okm 62 = true := by decide +kernel
theorem am_h63 {pc : Nat} {e : am_en} (h : am_f63 pc = some e) : am_ckc 63 e = true := am_cof (n := 26) (t := am_t63) (by decide +kernel) h
theorem am_o63 : am_okm 63 = true := by decide +kernel
theorem am_h64 {pc : Nat} {e : am_en} (h : am_f64 pc = some e) : am_ckc 64 e = true := am_cof (n := 65) (t := am_t64) (by decide +kernel) h
theorem am_o64 : am_okm 64 = true := by decide +kernel
theorem am_h65 {pc : Nat} {e : am_en} (h : am_f65 pc = some e) : am_ckc 65 e = true := am_cof (n := 40) (t := am_t65) (by decide +kernel) h
theorem am_o65 : am_okm 65 = true := by decide +kernel
theorem am_h66 {pc : Nat} {e : am_en} (h : am_f66 pc = some e) : am_ckc 66 e = true := am_cof (n := 27) (t := am_t66) (by decide +kernel) h
theorem am_o66 : am_okm 66 = true := by decide +kernel
theorem am_h67 {pc : Nat} {e : am_en} (h : am_f67 pc = some e) : am_ckc 67 e = true := am_cof (n := 34) (t := am_t67) (by decide +kernel) h
theorem am_o67 : am_okm 67 = true := by decide +kernel
theorem am_h68 {pc : Nat} {e : am_en} (h : am_f68 pc = some e) : am_ckc 68 e = true := am_cof (n := 162) (t := am_t68) (by decide +kernel) h
theorem am_o68 : am_okm 68 = true := by decide +kernel
theorem am_h69 {pc : Nat} {e : am_en} (h : am_f69 pc = some e) : am_ckc 69 e = true := am_cof (n := 99) (t := am_t69) (by decide +kernel) h
theorem am_o69 : am_okm 69 = true := by decide +kernel
