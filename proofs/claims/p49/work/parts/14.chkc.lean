/-! THE CHECKS of calls and callees (printed by wip/tools/fast.py) -/
theorem am_oA : ((List.range 260).all fun z => am_okmq z) = true := by decide +kernel
theorem am_oq {z : Nat} (h : z < 260) : am_okm z = true := am_okmq_ok (List.all_eq_true.mp am_oA z (List.mem_range.mpr h))
theorem am_h0 {pc : Nat} {e : am_en} (h : am_f0 pc = some e) : am_ckc 0 e = true := am_coq (n := 109) (t := am_t0) (by decide +kernel) h
theorem am_o0 : am_okm 0 = true := am_oq (by decide)
theorem am_h1 {pc : Nat} {e : am_en} (h : am_f1 pc = some e) : am_ckc 1 e = true := am_coq (n := 75) (t := am_t1) (by decide +kernel) h
theorem am_o1 : am_okm 1 = true := am_oq (by decide)
theorem am_h2 {pc : Nat} {e : am_en} (h : am_f2 pc = some e) : am_ckc 2 e = true := am_coq (n := 43) (t := am_t2) (by decide +kernel) h
theorem am_o2 : am_okm 2 = true := am_oq (by decide)
theorem am_h3 {pc : Nat} {e : am_en} (h : am_f3 pc = some e) : am_ckc 3 e = true := am_coq (n := 25) (t := am_t3) (by decide +kernel) h
theorem am_o3 : am_okm 3 = true := am_oq (by decide)
theorem am_h4 {pc : Nat} {e : am_en} (h : am_f4 pc = some e) : am_ckc 4 e = true := am_coq (n := 83) (t := am_t4) (by decide +kernel) h
theorem am_o4 : am_okm 4 = true := am_oq (by decide)
theorem am_h5 {pc : Nat} {e : am_en} (h : am_f5 pc = some e) : am_ckc 5 e = true := am_coq (n := 91) (t := am_t5) (by decide +kernel) h
theorem am_o5 : am_okm 5 = true := am_oq (by decide)
theorem am_h6 {pc : Nat} {e : am_en} (h : am_f6 pc = some e) : am_ckc 6 e = true := am_coq (n := 67) (t := am_t6) (by decide +kernel) h
theorem am_o6 : am_okm 6 = true := am_oq (by decide)
theorem am_h7 {pc : Nat} {e : am_en} (h : am_f7 pc = some e) : am_ckc 7 e = true := am_coq (n := 39) (t := am_t7) (by decide +kernel) h
theorem am_o7 : am_okm 7 = true := am_oq (by decide)
theorem am_h8 {pc : Nat} {e : am_en} (h : am_f8 pc = some e) : am_ckc 8 e = true := am_coq (n := 26) (t := am_t8) (by decide +kernel) h
theorem am_o8 : am_okm 8 = true := am_oq (by decide)
theorem am_h9 {pc : Nat} {e : am_en} (h : am_f9 pc = some e) : am_ckc 9 e = true := am_coq (n := 34) (t := am_t9) (by decide +kernel) h
theorem am_o9 : am_okm 9 = true := am_oq (by decide)
theorem am_h10 {pc : Nat} {e : am_en} (h : am_f10 pc = some e) : am_ckc 10 e = true := am_coq (n := 55) (t := am_t10) (by decide +kernel) h
theorem am_o10 : am_okm 10 = true := am_oq (by decide)
theorem am_h11 {pc : Nat} {e : am_en} (h : am_f11 pc = some e) : am_ckc 11 e = true := am_coq (n := 63) (t := am_t11) (by decide +kernel) h
theorem am_o11 : am_okm 11 = true := am_oq (by decide)
theorem am_h12 {pc : Nat} {e : am_en} (h : am_f12 pc = some e) : am_ckc 12 e = true := am_coq (n := 15) (t := am_t12) (by decide +kernel) h
theorem am_o12 : am_okm 12 = true := am_oq (by decide)
theorem am_h13 {pc : Nat} {e : am_en} (h : am_f13 pc = some e) : am_ckc 13 e = true := am_coq (n := 124) (t := am_t13) (by decide +kernel) h
theorem am_o13 : am_okm 13 = true := am_oq (by decide)
theorem am_h14 {pc : Nat} {e : am_en} (h : am_f14 pc = some e) : am_ckc 14 e = true := am_coq (n := 97) (t := am_t14) (by decide +kernel) h
theorem am_o14 : am_okm 14 = true := am_oq (by decide)
theorem am_h15 {pc : Nat} {e : am_en} (h : am_f15 pc = some e) : am_ckc 15 e = true := am_coq (n := 93) (t := am_t15) (by decide +kernel) h
theorem am_o15 : am_okm 15 = true := am_oq (by decide)
theorem am_h16 {pc : Nat} {e : am_en} (h : am_f16 pc = some e) : am_ckc 16 e = true := am_coq (n := 22) (t := am_t16) (by decide +kernel) h
theorem am_o16 : am_okm 16 = true := am_oq (by decide)
theorem am_h17 {pc : Nat} {e : am_en} (h : am_f17 pc = some e) : am_ckc 17 e = true := am_coq (n := 46) (t := am_t17) (by decide +kernel) h
theorem am_o17 : am_okm 17 = true := am_oq (by decide)
theorem am_h18 {pc : Nat} {e : am_en} (h : am_f18 pc = some e) : am_ckc 18 e = true := am_coq (n := 16) (t := am_t18) (by decide +kernel) h
theorem am_o18 : am_okm 18 = true := am_oq (by decide)
theorem am_h19 {pc : Nat} {e : am_en} (h : am_f19 pc = some e) : am_ckc 19 e = true := am_coq (n := 63) (t := am_t19) (by decide +kernel) h
theorem am_o19 : am_okm 19 = true := am_oq (by decide)
theorem am_h20 {pc : Nat} {e : am_en} (h : am_f20 pc = some e) : am_ckc 20 e = true := am_coq (n := 59) (t := am_t20) (by decide +kernel) h
theorem am_o20 : am_okm 20 = true := am_oq (by decide)
theorem am_h21 {pc : Nat} {e : am_en} (h : am_f21 pc = some e) : am_ckc 21 e = true := am_coq (n := 154) (t := am_t21) (by decide +kernel) h
theorem am_o21 : am_okm 21 = true := am_oq (by decide)
theorem am_h22 {pc : Nat} {e : am_en} (h : am_f22 pc = some e) : am_ckc 22 e = true := am_coq (n := 155) (t := am_t22) (by decide +kernel) h
theorem am_o22 : am_okm 22 = true := am_oq (by decide)
theorem am_h23 {pc : Nat} {e : am_en} (h : am_f23 pc = some e) : am_ckc 23 e = true := am_coq (n := 165) (t := am_t23) (by decide +kernel) h
theorem am_o23 : am_okm 23 = true := am_oq (by decide)
theorem am_h24 {pc : Nat} {e : am_en} (h : am_f24 pc = some e) : am_ckc 24 e = true := am_coq (n := 47) (t := am_t24) (by decide +kernel) h
theorem am_o24 : am_okm 24 = true := am_oq (by decide)
theorem am_h25 {pc : Nat} {e : am_en} (h : am_f25 pc = some e) : am_ckc 25 e = true := am_coq (n := 74) (t := am_t25) (by decide +kernel) h
theorem am_o25 : am_okm 25 = true := am_oq (by decide)
theorem am_h26 {pc : Nat} {e : am_en} (h : am_f26 pc = some e) : am_ckc 26 e = true := am_coq (n := 76) (t := am_t26) (by decide +kernel) h
theorem am_o26 : am_okm 26 = true := am_oq (by decide)
theorem am_h27 {pc : Nat} {e : am_en} (h : am_f27 pc = some e) : am_ckc 27 e = true := am_coq (n := 83) (t := am_t27) (by decide +kernel) h
theorem am_o27 : am_okm 27 = true := am_oq (by decide)
theorem am_h28 {pc : Nat} {e : am_en} (h : am_f28 pc = some e) : am_ckc 28 e = true := am_coq (n := 72) (t := am_t28) (by decide +kernel) h
theorem am_o28 : am_okm 28 = true := am_oq (by decide)
theorem am_h29 {pc : Nat} {e : am_en} (h : am_f29 pc = some e) : am_ckc 29 e = true := am_coq (n := 41) (t := am_t29) (by decide +kernel) h
theorem am_o29 : am_okm 29 = true := am_oq (by decide)
theorem am_h30 {pc : Nat} {e : am_en} (h : am_f30 pc = some e) : am_ckc 30 e = true := am_coq (n := 96) (t := am_t30) (by decide +kernel) h
theorem am_o30 : am_okm 30 = true := am_oq (by decide)
theorem am_h31 {pc : Nat} {e : am_en} (h : am_f31 pc = some e) : am_ckc 31 e = true := am_coq (n := 17) (t := am_t31) (by decide +kernel) h
theorem am_o31 : am_okm 31 = true := am_oq (by decide)
theorem am_h32 {pc : Nat} {e : am_en} (h : am_f32 pc = some e) : am_ckc 32 e = true := am_coq (n := 54) (t := am_t32) (by decide +kernel) h
theorem am_o32 : am_okm 32 = true := am_oq (by decide)
theorem am_h33 {pc : Nat} {e : am_en} (h : am_f33 pc = some e) : am_ckc 33 e = true := am_coq (n := 41) (t := am_t33) (by decide +kernel) h
theorem am_o33 : am_okm 33 = true := am_oq (by decide)
theorem am_h34 {pc : Nat} {e : am_en} (h : am_f34 pc = some e) : am_ckc 34 e = true := am_coq (n := 60) (t := am_t34) (by decide +kernel) h
theorem am_o34 : am_okm 34 = true := am_oq (by decide)
theorem am_h35 {pc : Nat} {e : am_en} (h : am_f35 pc = some e) : am_ckc 35 e = true := am_coq (n := 82) (t := am_t35) (by decide +kernel) h
theorem am_o35 : am_okm 35 = true := am_oq (by decide)
theorem am_h36 {pc : Nat} {e : am_en} (h : am_f36 pc = some e) : am_ckc 36 e = true := am_coq (n := 202) (t := am_t36) (by decide +kernel) h
theorem am_o36 : am_okm 36 = true := am_oq (by decide)
theorem am_h37 {pc : Nat} {e : am_en} (h : am_f37 pc = some e) : am_ckc 37 e = true := am_coq (n := 32) (t := am_t37) (by decide +kernel) h
theorem am_o37 : am_okm 37 = true := am_oq (by decide)
theorem am_h38 {pc : Nat} {e : am_en} (h : am_f38 pc = some e) : am_ckc 38 e = true := am_coq (n := 40) (t := am_t38) (by decide +kernel) h
theorem am_o38 : am_okm 38 = true := am_oq (by decide)
theorem am_h39 {pc : Nat} {e : am_en} (h : am_f39 pc = some e) : am_ckc 39 e = true := am_coq (n := 26) (t := am_t39) (by decide +kernel) h
theorem am_o39 : am_okm 39 = true := am_oq (by decide)
theorem am_h40 {pc : Nat} {e : am_en} (h : am_f40 pc = some e) : am_ckc 40 e = true := am_coq (n := 72) (t := am_t40) (by decide +kernel) h
theorem am_o40 : am_okm 40 = true := am_oq (by decide)
theorem am_h41 {pc : Nat} {e : am_en} (h : am_f41 pc = some e) : am_ckc 41 e = true := am_coq (n := 53) (t := am_t41) (by decide +kernel) h
theorem am_o41 : am_okm 41 = true := am_oq (by decide)
theorem am_h42 {pc : Nat} {e : am_en} (h : am_f42 pc = some e) : am_ckc 42 e = true := am_coq (n := 118) (t := am_t42) (by decide +kernel) h
theorem am_o42 : am_okm 42 = true := am_oq (by decide)
theorem am_h43 {pc : Nat} {e : am_en} (h : am_f43 pc = some e) : am_ckc 43 e = true := am_coq (n := 83) (t := am_t43) (by decide +kernel) h
theorem am_o43 : am_okm 43 = true := am_oq (by decide)
theorem am_h44 {pc : Nat} {e : am_en} (h : am_f44 pc = some e) : am_ckc 44 e = true := am_coq (n := 36) (t := am_t44) (by decide +kernel) h
theorem am_o44 : am_okm 44 = true := am_oq (by decide)
theorem am_h45 {pc : Nat} {e : am_en} (h : am_f45 pc = some e) : am_ckc 45 e = true := am_coq (n := 44) (t := am_t45) (by decide +kernel) h
theorem am_o45 : am_okm 45 = true := am_oq (by decide)
theorem am_h46 {pc : Nat} {e : am_en} (h : am_f46 pc = some e) : am_ckc 46 e = true := am_coq (n := 149) (t := am_t46) (by decide +kernel) h
theorem am_o46 : am_okm 46 = true := am_oq (by decide)
theorem am_h47 {pc : Nat} {e : am_en} (h : am_f47 pc = some e) : am_ckc 47 e = true := am_coq (n := 112) (t := am_t47) (by decide +kernel) h
theorem am_o47 : am_okm 47 = true := am_oq (by decide)
theorem am_h48 {pc : Nat} {e : am_en} (h : am_f48 pc = some e) : am_ckc 48 e = true := am_coq (n := 63) (t := am_t48) (by decide +kernel) h
theorem am_o48 : am_okm 48 = true := am_oq (by decide)
theorem am_h49 {pc : Nat} {e : am_en} (h : am_f49 pc = some e) : am_ckc 49 e = true := am_coq (n := 7) (t := am_t49) (by decide +kernel) h
theorem am_o49 : am_okm 49 = true := am_oq (by decide)
theorem am_h50 {pc : Nat} {e : am_en} (h : am_f50 pc = some e) : am_ckc 50 e = true := am_coq (n := 14) (t := am_t50) (by decide +kernel) h
theorem am_o50 : am_okm 50 = true := am_oq (by decide)
theorem am_h51 {pc : Nat} {e : am_en} (h : am_f51 pc = some e) : am_ckc 51 e = true := am_coq (n := 35) (t := am_t51) (by decide +kernel) h
theorem am_o51 : am_okm 51 = true := am_oq (by decide)
theorem am_h52 {pc : Nat} {e : am_en} (h : am_f52 pc = some e) : am_ckc 52 e = true := am_coq (n := 100) (t := am_t52) (by decide +kernel) h
theorem am_o52 : am_okm 52 = true := am_oq (by decide)
theorem am_h53 {pc : Nat} {e : am_en} (h : am_f53 pc = some e) : am_ckc 53 e = true := am_coq (n := 40) (t := am_t53) (by decide +kernel) h
theorem am_o53 : am_okm 53 = true := am_oq (by decide)
theorem am_h54 {pc : Nat} {e : am_en} (h : am_f54 pc = some e) : am_ckc 54 e = true := am_coq (n := 69) (t := am_t54) (by decide +kernel) h
theorem am_o54 : am_okm 54 = true := am_oq (by decide)
theorem am_h55 {pc : Nat} {e : am_en} (h : am_f55 pc = some e) : am_ckc 55 e = true := am_coq (n := 40) (t := am_t55) (by decide +kernel) h
theorem am_o55 : am_okm 55 = true := am_oq (by decide)
theorem am_h56 {pc : Nat} {e : am_en} (h : am_f56 pc = some e) : am_ckc 56 e = true := am_coq (n := 26) (t := am_t56) (by decide +kernel) h
theorem am_o56 : am_okm 56 = true := am_oq (by decide)
theorem am_h57 {pc : Nat} {e : am_en} (h : am_f57 pc = some e) : am_ckc 57 e = true := am_coq (n := 29) (t := am_t57) (by decide +kernel) h
theorem am_o57 : am_okm 57 = true := am_oq (by decide)
theorem am_h58 {pc : Nat} {e : am_en} (h : am_f58 pc = some e) : am_ckc 58 e = true := am_coq (n := 16) (t := am_t58) (by decide +kernel) h
theorem am_o58 : am_okm 58 = true := am_oq (by decide)
theorem am_h59 {pc : Nat} {e : am_en} (h : am_f59 pc = some e) : am_ckc 59 e = true := am_coq (n := 33) (t := am_t59) (by decide +kernel) h
theorem am_o59 : am_okm 59 = true := am_oq (by decide)
theorem am_h60 {pc : Nat} {e : am_en} (h : am_f60 pc = some e) : am_ckc 60 e = true := am_coq (n := 46) (t := am_t60) (by decide +kernel) h
theorem am_o60 : am_okm 60 = true := am_oq (by decide)
theorem am_h61 {pc : Nat} {e : am_en} (h : am_f61 pc = some e) : am_ckc 61 e = true := am_coq (n := 28) (t := am_t61) (by decide +kernel) h
theorem am_o61 : am_okm 61 = true := am_oq (by decide)
theorem am_h62 {pc : Nat} {e : am_en} (h : am_f62 pc = some e) : am_ckc 62 e = true := am_coq (n := 26) (t := am_t62) (by decide +kernel) h
theorem am_o62 : am_okm 62 = true := am_oq (by decide)
theorem am_h63 {pc : Nat} {e : am_en} (h : am_f63 pc = some e) : am_ckc 63 e = true := am_coq (n := 26) (t := am_t63) (by decide +kernel) h
theorem am_o63 : am_okm 63 = true := am_oq (by decide)
theorem am_h64 {pc : Nat} {e : am_en} (h : am_f64 pc = some e) : am_ckc 64 e = true := am_coq (n := 65) (t := am_t64) (by decide +kernel) h
theorem am_o64 : am_okm 64 = true := am_oq (by decide)
theorem am_h65 {pc : Nat} {e : am_en} (h : am_f65 pc = some e) : am_ckc 65 e = true := am_coq (n := 40) (t := am_t65) (by decide +kernel) h
theorem am_o65 : am_okm 65 = true := am_oq (by decide)
theorem am_h66 {pc : Nat} {e : am_en} (h : am_f66 pc = some e) : am_ckc 66 e = true := am_coq (n := 27) (t := am_t66) (by decide +kernel) h
theorem am_o66 : am_okm 66 = true := am_oq (by decide)
theorem am_h67 {pc : Nat} {e : am_en} (h : am_f67 pc = some e) : am_ckc 67 e = true := am_coq (n := 34) (t := am_t67) (by decide +kernel) h
theorem am_o67 : am_okm 67 = true := am_oq (by decide)
theorem am_h68 {pc : Nat} {e : am_en} (h : am_f68 pc = some e) : am_ckc 68 e = true := am_coq (n := 162) (t := am_t68) (by decide +kernel) h
theorem am_o68 : am_okm 68 = true := am_oq (by decide)
theorem am_h69 {pc : Nat} {e : am_en} (h : am_f69 pc = some e) : am_ckc 69 e = true := am_coq (n := 99) (t := am_t69) (by decide +kernel) h
theorem am_o69 : am_okm 69 = true := am_oq (by decide)
theorem am_h70 {pc : Nat} {e : am_en} (h : am_f70 pc = some e) : am_ckc 70 e = true := am_coq (n := 121) (t := am_t70) (by decide +kernel) h
theorem am_o70 : am_okm 70 = true := am_oq (by decide)
theorem am_h71 {pc : Nat} {e : am_en} (h : am_f71 pc = some e) : am_ckc 71 e = true := am_coq (n := 55) (t := am_t71) (by decide +kernel) h
theorem am_o71 : am_okm 71 = true := am_oq (by decide)
theorem am_h72 {pc : Nat} {e : am_en} (h : am_f72 pc = some e) : am_ckc 72 e = true := am_coq (n := 45) (t := am_t72) (by decide +kernel) h
theorem am_o72 : am_okm 72 = true := am_oq (by decide)
theorem am_h73 {pc : Nat} {e : am_en} (h : am_f73 pc = some e) : am_ckc 73 e = true := am_coq (n := 79) (t := am_t73) (by decide +kernel) h
theorem am_o73 : am_okm 73 = true := am_oq (by decide)
theorem am_h74 {pc : Nat} {e : am_en} (h : am_f74 pc = some e) : am_ckc 74 e = true := am_coq (n := 72) (t := am_t74) (by decide +kernel) h
theorem am_o74 : am_okm 74 = true := am_oq (by decide)
theorem am_h75 {pc : Nat} {e : am_en} (h : am_f75 pc = some e) : am_ckc 75 e = true := am_coq (n := 108) (t := am_t75) (by decide +kernel) h
theorem am_o75 : am_okm 75 = true := am_oq (by decide)
theorem am_h76 {pc : Nat} {e : am_en} (h : am_f76 pc = some e) : am_ckc 76 e = true := am_coq (n := 80) (t := am_t76) (by decide +kernel) h
theorem am_o76 : am_okm 76 = true := am_oq (by decide)
theorem am_h77 {pc : Nat} {e : am_en} (h : am_f77 pc = some e) : am_ckc 77 e = true := am_coq (n := 63) (t := am_t77) (by decide +kernel) h
theorem am_o77 : am_okm 77 = true := am_oq (by decide)
theorem am_h78 {pc : Nat} {e : am_en} (h : am_f78 pc = some e) : am_ckc 78 e = true := am_coq (n := 135) (t := am_t78) (by decide +kernel) h
theorem am_o78 : am_okm 78 = true := am_oq (by decide)
theorem am_h79 {pc : Nat} {e : am_en} (h : am_f79 pc = some e) : am_ckc 79 e = true := am_coq (n := 78) (t := am_t79) (by decide +kernel) h
theorem am_o79 : am_okm 79 = true := am_oq (by decide)
theorem am_h80 {pc : Nat} {e : am_en} (h : am_f80 pc = some e) : am_ckc 80 e = true := am_coq (n := 26) (t := am_t80) (by decide +kernel) h
theorem am_o80 : am_okm 80 = true := am_oq (by decide)
theorem am_h81 {pc : Nat} {e : am_en} (h : am_f81 pc = some e) : am_ckc 81 e = true := am_coq (n := 17) (t := am_t81) (by decide +kernel) h
theorem am_o81 : am_okm 81 = true := am_oq (by decide)
theorem am_h82 {pc : Nat} {e : am_en} (h : am_f82 pc = some e) : am_ckc 82 e = true := am_coq (n := 37) (t := am_t82) (by decide +kernel) h
theorem am_o82 : am_okm 82 = true := am_oq (by decide)
theorem am_h83 {pc : Nat} {e : am_en} (h : am_f83 pc = some e) : am_ckc 83 e = true := am_coq (n := 45) (t := am_t83) (by decide +kernel) h
theorem am_o83 : am_okm 83 = true := am_oq (by decide)
theorem am_h84 {pc : Nat} {e : am_en} (h : am_f84 pc = some e) : am_ckc 84 e = true := am_coq (n := 39) (t := am_t84) (by decide +kernel) h
theorem am_o84 : am_okm 84 = true := am_oq (by decide)
theorem am_h85 {pc : Nat} {e : am_en} (h : am_f85 pc = some e) : am_ckc 85 e = true := am_coq (n := 114) (t := am_t85) (by decide +kernel) h
theorem am_o85 : am_okm 85 = true := am_oq (by decide)
theorem am_h86 {pc : Nat} {e : am_en} (h : am_f86 pc = some e) : am_ckc 86 e = true := am_coq (n := 24) (t := am_t86) (by decide +kernel) h
theorem am_o86 : am_okm 86 = true := am_oq (by decide)
theorem am_h87 {pc : Nat} {e : am_en} (h : am_f87 pc = some e) : am_ckc 87 e = true := am_coq (n := 24) (t := am_t87) (by decide +kernel) h
theorem am_o87 : am_okm 87 = true := am_oq (by decide)
theorem am_h88 {pc : Nat} {e : am_en} (h : am_f88 pc = some e) : am_ckc 88 e = true := am_coq (n := 79) (t := am_t88) (by decide +kernel) h
theorem am_o88 : am_okm 88 = true := am_oq (by decide)
theorem am_h89 {pc : Nat} {e : am_en} (h : am_f89 pc = some e) : am_ckc 89 e = true := am_coq (n := 130) (t := am_t89) (by decide +kernel) h
theorem am_o89 : am_okm 89 = true := am_oq (by decide)
theorem am_h90 {pc : Nat} {e : am_en} (h : am_f90 pc = some e) : am_ckc 90 e = true := am_coq (n := 77) (t := am_t90) (by decide +kernel) h
theorem am_o90 : am_okm 90 = true := am_oq (by decide)
theorem am_h91 {pc : Nat} {e : am_en} (h : am_f91 pc = some e) : am_ckc 91 e = true := am_coq (n := 51) (t := am_t91) (by decide +kernel) h
theorem am_o91 : am_okm 91 = true := am_oq (by decide)
theorem am_h92 {pc : Nat} {e : am_en} (h : am_f92 pc = some e) : am_ckc 92 e = true := am_coq (n := 209) (t := am_t92) (by decide +kernel) h
theorem am_o92 : am_okm 92 = true := am_oq (by decide)
theorem am_h93 {pc : Nat} {e : am_en} (h : am_f93 pc = some e) : am_ckc 93 e = true := am_coq (n := 40) (t := am_t93) (by decide +kernel) h
theorem am_o93 : am_okm 93 = true := am_oq (by decide)
theorem am_h94 {pc : Nat} {e : am_en} (h : am_f94 pc = some e) : am_ckc 94 e = true := am_coq (n := 47) (t := am_t94) (by decide +kernel) h
theorem am_o94 : am_okm 94 = true := am_oq (by decide)
theorem am_h95 {pc : Nat} {e : am_en} (h : am_f95 pc = some e) : am_ckc 95 e = true := am_coq (n := 32) (t := am_t95) (by decide +kernel) h
theorem am_o95 : am_okm 95 = true := am_oq (by decide)
theorem am_h96 {pc : Nat} {e : am_en} (h : am_f96 pc = some e) : am_ckc 96 e = true := am_coq (n := 41) (t := am_t96) (by decide +kernel) h
theorem am_o96 : am_okm 96 = true := am_oq (by decide)
theorem am_h97 {pc : Nat} {e : am_en} (h : am_f97 pc = some e) : am_ckc 97 e = true := am_coq (n := 126) (t := am_t97) (by decide +kernel) h
theorem am_o97 : am_okm 97 = true := am_oq (by decide)
theorem am_h98 {pc : Nat} {e : am_en} (h : am_f98 pc = some e) : am_ckc 98 e = true := am_coq (n := 41) (t := am_t98) (by decide +kernel) h
theorem am_o98 : am_okm 98 = true := am_oq (by decide)
theorem am_h99 {pc : Nat} {e : am_en} (h : am_f99 pc = some e) : am_ckc 99 e = true := am_coq (n := 84) (t := am_t99) (by decide +kernel) h
theorem am_o99 : am_okm 99 = true := am_oq (by decide)
theorem am_h100 {pc : Nat} {e : am_en} (h : am_f100 pc = some e) : am_ckc 100 e = true := am_coq (n := 41) (t := am_t100) (by decide +kernel) h
theorem am_o100 : am_okm 100 = true := am_oq (by decide)
theorem am_h101 {pc : Nat} {e : am_en} (h : am_f101 pc = some e) : am_ckc 101 e = true := am_coq (n := 45) (t := am_t101) (by decide +kernel) h
theorem am_o101 : am_okm 101 = true := am_oq (by decide)
theorem am_h102 {pc : Nat} {e : am_en} (h : am_f102 pc = some e) : am_ckc 102 e = true := am_coq (n := 84) (t := am_t102) (by decide +kernel) h
theorem am_o102 : am_okm 102 = true := am_oq (by decide)
theorem am_h103 {pc : Nat} {e : am_en} (h : am_f103 pc = some e) : am_ckc 103 e = true := am_coq (n := 76) (t := am_t103) (by decide +kernel) h
theorem am_o103 : am_okm 103 = true := am_oq (by decide)
theorem am_h104 {pc : Nat} {e : am_en} (h : am_f104 pc = some e) : am_ckc 104 e = true := am_coq (n := 62) (t := am_t104) (by decide +kernel) h
theorem am_o104 : am_okm 104 = true := am_oq (by decide)
theorem am_h105 {pc : Nat} {e : am_en} (h : am_f105 pc = some e) : am_ckc 105 e = true := am_coq (n := 153) (t := am_t105) (by decide +kernel) h
theorem am_o105 : am_okm 105 = true := am_oq (by decide)
theorem am_h106 {pc : Nat} {e : am_en} (h : am_f106 pc = some e) : am_ckc 106 e = true := am_coq (n := 168) (t := am_t106) (by decide +kernel) h
theorem am_o106 : am_okm 106 = true := am_oq (by decide)
theorem am_h107 {pc : Nat} {e : am_en} (h : am_f107 pc = some e) : am_ckc 107 e = true := am_coq (n := 54) (t := am_t107) (by decide +kernel) h
theorem am_o107 : am_okm 107 = true := am_oq (by decide)
theorem am_h108 {pc : Nat} {e : am_en} (h : am_f108 pc = some e) : am_ckc 108 e = true := am_coq (n := 86) (t := am_t108) (by decide +kernel) h
theorem am_o108 : am_okm 108 = true := am_oq (by decide)
theorem am_h109 {pc : Nat} {e : am_en} (h : am_f109 pc = some e) : am_ckc 109 e = true := am_coq (n := 39) (t := am_t109) (by decide +kernel) h
theorem am_o109 : am_okm 109 = true := am_oq (by decide)
theorem am_h110 {pc : Nat} {e : am_en} (h : am_f110 pc = some e) : am_ckc 110 e = true := am_coq (n := 64) (t := am_t110) (by decide +kernel) h
theorem am_o110 : am_okm 110 = true := am_oq (by decide)
theorem am_h111 {pc : Nat} {e : am_en} (h : am_f111 pc = some e) : am_ckc 111 e = true := am_coq (n := 51) (t := am_t111) (by decide +kernel) h
theorem am_o111 : am_okm 111 = true := am_oq (by decide)
theorem am_h112 {pc : Nat} {e : am_en} (h : am_f112 pc = some e) : am_ckc 112 e = true := am_coq (n := 76) (t := am_t112) (by decide +kernel) h
theorem am_o112 : am_okm 112 = true := am_oq (by decide)
theorem am_h113 {pc : Nat} {e : am_en} (h : am_f113 pc = some e) : am_ckc 113 e = true := am_coq (n := 116) (t := am_t113) (by decide +kernel) h
theorem am_o113 : am_okm 113 = true := am_oq (by decide)
theorem am_h114 {pc : Nat} {e : am_en} (h : am_f114 pc = some e) : am_ckc 114 e = true := am_coq (n := 54) (t := am_t114) (by decide +kernel) h
theorem am_o114 : am_okm 114 = true := am_oq (by decide)
theorem am_h115 {pc : Nat} {e : am_en} (h : am_f115 pc = some e) : am_ckc 115 e = true := am_coq (n := 70) (t := am_t115) (by decide +kernel) h
theorem am_o115 : am_okm 115 = true := am_oq (by decide)
theorem am_h116 {pc : Nat} {e : am_en} (h : am_f116 pc = some e) : am_ckc 116 e = true := am_coq (n := 60) (t := am_t116) (by decide +kernel) h
theorem am_o116 : am_okm 116 = true := am_oq (by decide)
theorem am_h117 {pc : Nat} {e : am_en} (h : am_f117 pc = some e) : am_ckc 117 e = true := am_coq (n := 78) (t := am_t117) (by decide +kernel) h
theorem am_o117 : am_okm 117 = true := am_oq (by decide)
theorem am_h118 {pc : Nat} {e : am_en} (h : am_f118 pc = some e) : am_ckc 118 e = true := am_coq (n := 108) (t := am_t118) (by decide +kernel) h
theorem am_o118 : am_okm 118 = true := am_oq (by decide)
theorem am_h119 {pc : Nat} {e : am_en} (h : am_f119 pc = some e) : am_ckc 119 e = true := am_coq (n := 72) (t := am_t119) (by decide +kernel) h
theorem am_o119 : am_okm 119 = true := am_oq (by decide)
theorem am_h120 {pc : Nat} {e : am_en} (h : am_f120 pc = some e) : am_ckc 120 e = true := am_coq (n := 62) (t := am_t120) (by decide +kernel) h
theorem am_o120 : am_okm 120 = true := am_oq (by decide)
theorem am_h121 {pc : Nat} {e : am_en} (h : am_f121 pc = some e) : am_ckc 121 e = true := am_coq (n := 26) (t := am_t121) (by decide +kernel) h
theorem am_o121 : am_okm 121 = true := am_oq (by decide)
theorem am_h122 {pc : Nat} {e : am_en} (h : am_f122 pc = some e) : am_ckc 122 e = true := am_coq (n := 57) (t := am_t122) (by decide +kernel) h
theorem am_o122 : am_okm 122 = true := am_oq (by decide)
theorem am_h123 {pc : Nat} {e : am_en} (h : am_f123 pc = some e) : am_ckc 123 e = true := am_coq (n := 45) (t := am_t123) (by decide +kernel) h
theorem am_o123 : am_okm 123 = true := am_oq (by decide)
theorem am_h124 {pc : Nat} {e : am_en} (h : am_f124 pc = some e) : am_ckc 124 e = true := am_coq (n := 44) (t := am_t124) (by decide +kernel) h
theorem am_o124 : am_okm 124 = true := am_oq (by decide)
theorem am_h125 {pc : Nat} {e : am_en} (h : am_f125 pc = some e) : am_ckc 125 e = true := am_coq (n := 39) (t := am_t125) (by decide +kernel) h
theorem am_o125 : am_okm 125 = true := am_oq (by decide)
theorem am_h126 {pc : Nat} {e : am_en} (h : am_f126 pc = some e) : am_ckc 126 e = true := am_coq (n := 34) (t := am_t126) (by decide +kernel) h
theorem am_o126 : am_okm 126 = true := am_oq (by decide)
theorem am_h127 {pc : Nat} {e : am_en} (h : am_f127 pc = some e) : am_ckc 127 e = true := am_coq (n := 22) (t := am_t127) (by decide +kernel) h
theorem am_o127 : am_okm 127 = true := am_oq (by decide)
theorem am_h128 {pc : Nat} {e : am_en} (h : am_f128 pc = some e) : am_ckc 128 e = true := am_coq (n := 45) (t := am_t128) (by decide +kernel) h
theorem am_o128 : am_okm 128 = true := am_oq (by decide)
theorem am_h129 {pc : Nat} {e : am_en} (h : am_f129 pc = some e) : am_ckc 129 e = true := am_coq (n := 66) (t := am_t129) (by decide +kernel) h
theorem am_o129 : am_okm 129 = true := am_oq (by decide)
theorem am_h130 {pc : Nat} {e : am_en} (h : am_f130 pc = some e) : am_ckc 130 e = true := am_coq (n := 86) (t := am_t130) (by decide +kernel) h
theorem am_o130 : am_okm 130 = true := am_oq (by decide)
theorem am_h131 {pc : Nat} {e : am_en} (h : am_f131 pc = some e) : am_ckc 131 e = true := am_coq (n := 101) (t := am_t131) (by decide +kernel) h
theorem am_o131 : am_okm 131 = true := am_oq (by decide)
theorem am_h132 {pc : Nat} {e : am_en} (h : am_f132 pc = some e) : am_ckc 132 e = true := am_coq (n := 38) (t := am_t132) (by decide +kernel) h
theorem am_o132 : am_okm 132 = true := am_oq (by decide)
theorem am_h133 {pc : Nat} {e : am_en} (h : am_f133 pc = some e) : am_ckc 133 e = true := am_coq (n := 53) (t := am_t133) (by decide +kernel) h
theorem am_o133 : am_okm 133 = true := am_oq (by decide)
theorem am_h134 {pc : Nat} {e : am_en} (h : am_f134 pc = some e) : am_ckc 134 e = true := am_coq (n := 5) (t := am_t134) (by decide +kernel) h
theorem am_o134 : am_okm 134 = true := am_oq (by decide)
theorem am_h135 {pc : Nat} {e : am_en} (h : am_f135 pc = some e) : am_ckc 135 e = true := am_coq (n := 5) (t := am_t135) (by decide +kernel) h
theorem am_o135 : am_okm 135 = true := am_oq (by decide)
theorem am_h136 {pc : Nat} {e : am_en} (h : am_f136 pc = some e) : am_ckc 136 e = true := am_coq (n := 5) (t := am_t136) (by decide +kernel) h
theorem am_o136 : am_okm 136 = true := am_oq (by decide)
theorem am_h137 {pc : Nat} {e : am_en} (h : am_f137 pc = some e) : am_ckc 137 e = true := am_coq (n := 19) (t := am_t137) (by decide +kernel) h
theorem am_o137 : am_okm 137 = true := am_oq (by decide)
theorem am_h138 {pc : Nat} {e : am_en} (h : am_f138 pc = some e) : am_ckc 138 e = true := am_coq (n := 5) (t := am_t138) (by decide +kernel) h
theorem am_o138 : am_okm 138 = true := am_oq (by decide)
theorem am_h139 {pc : Nat} {e : am_en} (h : am_f139 pc = some e) : am_ckc 139 e = true := am_coq (n := 21) (t := am_t139) (by decide +kernel) h
theorem am_o139 : am_okm 139 = true := am_oq (by decide)
theorem am_h140 {pc : Nat} {e : am_en} (h : am_f140 pc = some e) : am_ckc 140 e = true := am_coq (n := 219) (t := am_t140) (by decide +kernel) h
theorem am_o140 : am_okm 140 = true := am_oq (by decide)
theorem am_h141 {pc : Nat} {e : am_en} (h : am_f141 pc = some e) : am_ckc 141 e = true := am_coq (n := 15) (t := am_t141) (by decide +kernel) h
theorem am_o141 : am_okm 141 = true := am_oq (by decide)
theorem am_h142 {pc : Nat} {e : am_en} (h : am_f142 pc = some e) : am_ckc 142 e = true := am_coq (n := 29) (t := am_t142) (by decide +kernel) h
theorem am_o142 : am_okm 142 = true := am_oq (by decide)
theorem am_h143 {pc : Nat} {e : am_en} (h : am_f143 pc = some e) : am_ckc 143 e = true := am_coq (n := 18) (t := am_t143) (by decide +kernel) h
theorem am_o143 : am_okm 143 = true := am_oq (by decide)
theorem am_h144 {pc : Nat} {e : am_en} (h : am_f144 pc = some e) : am_ckc 144 e = true := am_coq (n := 56) (t := am_t144) (by decide +kernel) h
theorem am_o144 : am_okm 144 = true := am_oq (by decide)
theorem am_h145 {pc : Nat} {e : am_en} (h : am_f145 pc = some e) : am_ckc 145 e = true := am_coq (n := 51) (t := am_t145) (by decide +kernel) h
theorem am_o145 : am_okm 145 = true := am_oq (by decide)
theorem am_h146 {pc : Nat} {e : am_en} (h : am_f146 pc = some e) : am_ckc 146 e = true := am_coq (n := 58) (t := am_t146) (by decide +kernel) h
theorem am_o146 : am_okm 146 = true := am_oq (by decide)
theorem am_h147 {pc : Nat} {e : am_en} (h : am_f147 pc = some e) : am_ckc 147 e = true := am_coq (n := 126) (t := am_t147) (by decide +kernel) h
theorem am_o147 : am_okm 147 = true := am_oq (by decide)
theorem am_h148 {pc : Nat} {e : am_en} (h : am_f148 pc = some e) : am_ckc 148 e = true := am_coq (n := 35) (t := am_t148) (by decide +kernel) h
theorem am_o148 : am_okm 148 = true := am_oq (by decide)
theorem am_h149 {pc : Nat} {e : am_en} (h : am_f149 pc = some e) : am_ckc 149 e = true := am_coq (n := 37) (t := am_t149) (by decide +kernel) h
theorem am_o149 : am_okm 149 = true := am_oq (by decide)
theorem am_h150 {pc : Nat} {e : am_en} (h : am_f150 pc = some e) : am_ckc 150 e = true := am_coq (n := 79) (t := am_t150) (by decide +kernel) h
theorem am_o150 : am_okm 150 = true := am_oq (by decide)
theorem am_h151 {pc : Nat} {e : am_en} (h : am_f151 pc = some e) : am_ckc 151 e = true := am_coq (n := 163) (t := am_t151) (by decide +kernel) h
theorem am_o151 : am_okm 151 = true := am_oq (by decide)
theorem am_h152 {pc : Nat} {e : am_en} (h : am_f152 pc = some e) : am_ckc 152 e = true := am_coq (n := 93) (t := am_t152) (by decide +kernel) h
theorem am_o152 : am_okm 152 = true := am_oq (by decide)
theorem am_h153 {pc : Nat} {e : am_en} (h : am_f153 pc = some e) : am_ckc 153 e = true := am_coq (n := 62) (t := am_t153) (by decide +kernel) h
theorem am_o153 : am_okm 153 = true := am_oq (by decide)
theorem am_h154 {pc : Nat} {e : am_en} (h : am_f154 pc = some e) : am_ckc 154 e = true := am_coq (n := 522) (t := am_t154) (by decide +kernel) h
theorem am_o154 : am_okm 154 = true := am_oq (by decide)
theorem am_h155 {pc : Nat} {e : am_en} (h : am_f155 pc = some e) : am_ckc 155 e = true := am_coq (n := 16) (t := am_t155) (by decide +kernel) h
theorem am_o155 : am_okm 155 = true := am_oq (by decide)
theorem am_h156 {pc : Nat} {e : am_en} (h : am_f156 pc = some e) : am_ckc 156 e = true := am_coq (n := 18) (t := am_t156) (by decide +kernel) h
theorem am_o156 : am_okm 156 = true := am_oq (by decide)
theorem am_h157 {pc : Nat} {e : am_en} (h : am_f157 pc = some e) : am_ckc 157 e = true := am_coq (n := 7) (t := am_t157) (by decide +kernel) h
theorem am_o157 : am_okm 157 = true := am_oq (by decide)
theorem am_h158 {pc : Nat} {e : am_en} (h : am_f158 pc = some e) : am_ckc 158 e = true := am_coq (n := 15) (t := am_t158) (by decide +kernel) h
theorem am_o158 : am_okm 158 = true := am_oq (by decide)
theorem am_h159 {pc : Nat} {e : am_en} (h : am_f159 pc = some e) : am_ckc 159 e = true := am_coq (n := 26) (t := am_t159) (by decide +kernel) h
theorem am_o159 : am_okm 159 = true := am_oq (by decide)
theorem am_h160 {pc : Nat} {e : am_en} (h : am_f160 pc = some e) : am_ckc 160 e = true := am_coq (n := 7) (t := am_t160) (by decide +kernel) h
theorem am_o160 : am_okm 160 = true := am_oq (by decide)
theorem am_h161 {pc : Nat} {e : am_en} (h : am_f161 pc = some e) : am_ckc 161 e = true := am_coq (n := 30) (t := am_t161) (by decide +kernel) h
theorem am_o161 : am_okm 161 = true := am_oq (by decide)
theorem am_h162 {pc : Nat} {e : am_en} (h : am_f162 pc = some e) : am_ckc 162 e = true := am_coq (n := 30) (t := am_t162) (by decide +kernel) h
theorem am_o162 : am_okm 162 = true := am_oq (by decide)
theorem am_h163 {pc : Nat} {e : am_en} (h : am_f163 pc = some e) : am_ckc 163 e = true := am_coq (n := 60) (t := am_t163) (by decide +kernel) h
theorem am_o163 : am_okm 163 = true := am_oq (by decide)
theorem am_h164 {pc : Nat} {e : am_en} (h : am_f164 pc = some e) : am_ckc 164 e = true := am_coq (n := 30) (t := am_t164) (by decide +kernel) h
theorem am_o164 : am_okm 164 = true := am_oq (by decide)
theorem am_h165 {pc : Nat} {e : am_en} (h : am_f165 pc = some e) : am_ckc 165 e = true := am_coq (n := 53) (t := am_t165) (by decide +kernel) h
theorem am_o165 : am_okm 165 = true := am_oq (by decide)
theorem am_h166 {pc : Nat} {e : am_en} (h : am_f166 pc = some e) : am_ckc 166 e = true := am_coq (n := 22) (t := am_t166) (by decide +kernel) h
theorem am_o166 : am_okm 166 = true := am_oq (by decide)
theorem am_h167 {pc : Nat} {e : am_en} (h : am_f167 pc = some e) : am_ckc 167 e = true := am_coq (n := 178) (t := am_t167) (by decide +kernel) h
theorem am_o167 : am_okm 167 = true := am_oq (by decide)
theorem am_h168 {pc : Nat} {e : am_en} (h : am_f168 pc = some e) : am_ckc 168 e = true := am_coq (n := 35) (t := am_t168) (by decide +kernel) h
theorem am_o168 : am_okm 168 = true := am_oq (by decide)
theorem am_h169 {pc : Nat} {e : am_en} (h : am_f169 pc = some e) : am_ckc 169 e = true := am_coq (n := 33) (t := am_t169) (by decide +kernel) h
theorem am_o169 : am_okm 169 = true := am_oq (by decide)
theorem am_h170 {pc : Nat} {e : am_en} (h : am_f170 pc = some e) : am_ckc 170 e = true := am_coq (n := 70) (t := am_t170) (by decide +kernel) h
theorem am_o170 : am_okm 170 = true := am_oq (by decide)
theorem am_h171 {pc : Nat} {e : am_en} (h : am_f171 pc = some e) : am_ckc 171 e = true := am_coq (n := 21) (t := am_t171) (by decide +kernel) h
theorem am_o171 : am_okm 171 = true := am_oq (by decide)
theorem am_h172 {pc : Nat} {e : am_en} (h : am_f172 pc = some e) : am_ckc 172 e = true := am_coq (n := 7) (t := am_t172) (by decide +kernel) h
theorem am_o172 : am_okm 172 = true := am_oq (by decide)
theorem am_h173 {pc : Nat} {e : am_en} (h : am_f173 pc = some e) : am_ckc 173 e = true := am_coq (n := 30) (t := am_t173) (by decide +kernel) h
theorem am_o173 : am_okm 173 = true := am_oq (by decide)
theorem am_h174 {pc : Nat} {e : am_en} (h : am_f174 pc = some e) : am_ckc 174 e = true := am_coq (n := 33) (t := am_t174) (by decide +kernel) h
theorem am_o174 : am_okm 174 = true := am_oq (by decide)
theorem am_h175 {pc : Nat} {e : am_en} (h : am_f175 pc = some e) : am_ckc 175 e = true := am_coq (n := 13) (t := am_t175) (by decide +kernel) h
theorem am_o175 : am_okm 175 = true := am_oq (by decide)
theorem am_h176 {pc : Nat} {e : am_en} (h : am_f176 pc = some e) : am_ckc 176 e = true := am_coq (n := 373) (t := am_t176) (by decide +kernel) h
theorem am_o176 : am_okm 176 = true := am_oq (by decide)
theorem am_h177 {pc : Nat} {e : am_en} (h : am_f177 pc = some e) : am_ckc 177 e = true := am_coq (n := 179) (t := am_t177) (by decide +kernel) h
theorem am_o177 : am_okm 177 = true := am_oq (by decide)
theorem am_h178 {pc : Nat} {e : am_en} (h : am_f178 pc = some e) : am_ckc 178 e = true := am_coq (n := 141) (t := am_t178) (by decide +kernel) h
theorem am_o178 : am_okm 178 = true := am_oq (by decide)
theorem am_h179 {pc : Nat} {e : am_en} (h : am_f179 pc = some e) : am_ckc 179 e = true := am_coq (n := 20) (t := am_t179) (by decide +kernel) h
theorem am_o179 : am_okm 179 = true := am_oq (by decide)
theorem am_h180 {pc : Nat} {e : am_en} (h : am_f180 pc = some e) : am_ckc 180 e = true := am_coq (n := 90) (t := am_t180) (by decide +kernel) h
theorem am_o180 : am_okm 180 = true := am_oq (by decide)
theorem am_h181 {pc : Nat} {e : am_en} (h : am_f181 pc = some e) : am_ckc 181 e = true := am_coq (n := 17) (t := am_t181) (by decide +kernel) h
theorem am_o181 : am_okm 181 = true := am_oq (by decide)
theorem am_h182 {pc : Nat} {e : am_en} (h : am_f182 pc = some e) : am_ckc 182 e = true := am_coq (n := 63) (t := am_t182) (by decide +kernel) h
theorem am_o182 : am_okm 182 = true := am_oq (by decide)
theorem am_h183 {pc : Nat} {e : am_en} (h : am_f183 pc = some e) : am_ckc 183 e = true := am_coq (n := 8) (t := am_t183) (by decide +kernel) h
theorem am_o183 : am_okm 183 = true := am_oq (by decide)
theorem am_h184 {pc : Nat} {e : am_en} (h : am_f184 pc = some e) : am_ckc 184 e = true := am_coq (n := 28) (t := am_t184) (by decide +kernel) h
theorem am_o184 : am_okm 184 = true := am_oq (by decide)
theorem am_h185 {pc : Nat} {e : am_en} (h : am_f185 pc = some e) : am_ckc 185 e = true := am_coq (n := 59) (t := am_t185) (by decide +kernel) h
theorem am_o185 : am_okm 185 = true := am_oq (by decide)
theorem am_h186 {pc : Nat} {e : am_en} (h : am_f186 pc = some e) : am_ckc 186 e = true := am_coq (n := 109) (t := am_t186) (by decide +kernel) h
theorem am_o186 : am_okm 186 = true := am_oq (by decide)
theorem am_h187 {pc : Nat} {e : am_en} (h : am_f187 pc = some e) : am_ckc 187 e = true := am_coq (n := 22) (t := am_t187) (by decide +kernel) h
theorem am_o187 : am_okm 187 = true := am_oq (by decide)
theorem am_h188 {pc : Nat} {e : am_en} (h : am_f188 pc = some e) : am_ckc 188 e = true := am_coq (n := 409) (t := am_t188) (by decide +kernel) h
theorem am_o188 : am_okm 188 = true := am_oq (by decide)
theorem am_h189 {pc : Nat} {e : am_en} (h : am_f189 pc = some e) : am_ckc 189 e = true := am_coq (n := 16) (t := am_t189) (by decide +kernel) h
theorem am_o189 : am_okm 189 = true := am_oq (by decide)
theorem am_h190 {pc : Nat} {e : am_en} (h : am_f190 pc = some e) : am_ckc 190 e = true := am_coq (n := 409) (t := am_t190) (by decide +kernel) h
theorem am_o190 : am_okm 190 = true := am_oq (by decide)
theorem am_h191 {pc : Nat} {e : am_en} (h : am_f191 pc = some e) : am_ckc 191 e = true := am_coq (n := 443) (t := am_t191) (by decide +kernel) h
theorem am_o191 : am_okm 191 = true := am_oq (by decide)
theorem am_h192 {pc : Nat} {e : am_en} (h : am_f192 pc = some e) : am_ckc 192 e = true := am_coq (n := 20) (t := am_t192) (by decide +kernel) h
theorem am_o192 : am_okm 192 = true := am_oq (by decide)
theorem am_h193 {pc : Nat} {e : am_en} (h : am_f193 pc = some e) : am_ckc 193 e = true := am_coq (n := 89) (t := am_t193) (by decide +kernel) h
theorem am_o193 : am_okm 193 = true := am_oq (by decide)
theorem am_h194 {pc : Nat} {e : am_en} (h : am_f194 pc = some e) : am_ckc 194 e = true := am_coq (n := 135) (t := am_t194) (by decide +kernel) h
theorem am_o194 : am_okm 194 = true := am_oq (by decide)
theorem am_h195 {pc : Nat} {e : am_en} (h : am_f195 pc = some e) : am_ckc 195 e = true := am_coq (n := 41) (t := am_t195) (by decide +kernel) h
theorem am_o195 : am_okm 195 = true := am_oq (by decide)
theorem am_h196 {pc : Nat} {e : am_en} (h : am_f196 pc = some e) : am_ckc 196 e = true := am_coq (n := 32) (t := am_t196) (by decide +kernel) h
theorem am_o196 : am_okm 196 = true := am_oq (by decide)
theorem am_h197 {pc : Nat} {e : am_en} (h : am_f197 pc = some e) : am_ckc 197 e = true := am_coq (n := 39) (t := am_t197) (by decide +kernel) h
theorem am_o197 : am_okm 197 = true := am_oq (by decide)
theorem am_h198 {pc : Nat} {e : am_en} (h : am_f198 pc = some e) : am_ckc 198 e = true := am_coq (n := 83) (t := am_t198) (by decide +kernel) h
theorem am_o198 : am_okm 198 = true := am_oq (by decide)
theorem am_h199 {pc : Nat} {e : am_en} (h : am_f199 pc = some e) : am_ckc 199 e = true := am_coq (n := 24) (t := am_t199) (by decide +kernel) h
theorem am_o199 : am_okm 199 = true := am_oq (by decide)
theorem am_h200 {pc : Nat} {e : am_en} (h : am_f200 pc = some e) : am_ckc 200 e = true := am_coq (n := 69) (t := am_t200) (by decide +kernel) h
theorem am_o200 : am_okm 200 = true := am_oq (by decide)
theorem am_h201 {pc : Nat} {e : am_en} (h : am_f201 pc = some e) : am_ckc 201 e = true := am_coq (n := 37) (t := am_t201) (by decide +kernel) h
theorem am_o201 : am_okm 201 = true := am_oq (by decide)
theorem am_h202 {pc : Nat} {e : am_en} (h : am_f202 pc = some e) : am_ckc 202 e = true := am_coq (n := 48) (t := am_t202) (by decide +kernel) h
theorem am_o202 : am_okm 202 = true := am_oq (by decide)
theorem am_h203 {pc : Nat} {e : am_en} (h : am_f203 pc = some e) : am_ckc 203 e = true := am_coq (n := 43) (t := am_t203) (by decide +kernel) h
theorem am_o203 : am_okm 203 = true := am_oq (by decide)
theorem am_h204 {pc : Nat} {e : am_en} (h : am_f204 pc = some e) : am_ckc 204 e = true := am_coq (n := 249) (t := am_t204) (by decide +kernel) h
theorem am_o204 : am_okm 204 = true := am_oq (by decide)
theorem am_h205 {pc : Nat} {e : am_en} (h : am_f205 pc = some e) : am_ckc 205 e = true := am_coq (n := 84) (t := am_t205) (by decide +kernel) h
theorem am_o205 : am_okm 205 = true := am_oq (by decide)
theorem am_h206 {pc : Nat} {e : am_en} (h : am_f206 pc = some e) : am_ckc 206 e = true := am_coq (n := 112) (t := am_t206) (by decide +kernel) h
theorem am_o206 : am_okm 206 = true := am_oq (by decide)
theorem am_h207 {pc : Nat} {e : am_en} (h : am_f207 pc = some e) : am_ckc 207 e = true := am_coq (n := 36) (t := am_t207) (by decide +kernel) h
theorem am_o207 : am_okm 207 = true := am_oq (by decide)
theorem am_h208 {pc : Nat} {e : am_en} (h : am_f208 pc = some e) : am_ckc 208 e = true := am_coq (n := 63) (t := am_t208) (by decide +kernel) h
theorem am_o208 : am_okm 208 = true := am_oq (by decide)
theorem am_h209 {pc : Nat} {e : am_en} (h : am_f209 pc = some e) : am_ckc 209 e = true := am_coq (n := 92) (t := am_t209) (by decide +kernel) h
theorem am_o209 : am_okm 209 = true := am_oq (by decide)
theorem am_h210 {pc : Nat} {e : am_en} (h : am_f210 pc = some e) : am_ckc 210 e = true := am_coq (n := 20) (t := am_t210) (by decide +kernel) h
theorem am_o210 : am_okm 210 = true := am_oq (by decide)
theorem am_h211 {pc : Nat} {e : am_en} (h : am_f211 pc = some e) : am_ckc 211 e = true := am_coq (n := 20) (t := am_t211) (by decide +kernel) h
theorem am_o211 : am_okm 211 = true := am_oq (by decide)
theorem am_h212 {pc : Nat} {e : am_en} (h : am_f212 pc = some e) : am_ckc 212 e = true := am_coq (n := 222) (t := am_t212) (by decide +kernel) h
theorem am_o212 : am_okm 212 = true := am_oq (by decide)
theorem am_h213 {pc : Nat} {e : am_en} (h : am_f213 pc = some e) : am_ckc 213 e = true := am_coq (n := 21) (t := am_t213) (by decide +kernel) h
theorem am_o213 : am_okm 213 = true := am_oq (by decide)
theorem am_h214 {pc : Nat} {e : am_en} (h : am_f214 pc = some e) : am_ckc 214 e = true := am_coq (n := 9) (t := am_t214) (by decide +kernel) h
theorem am_o214 : am_okm 214 = true := am_oq (by decide)
theorem am_h215 {pc : Nat} {e : am_en} (h : am_f215 pc = some e) : am_ckc 215 e = true := am_coq (n := 104) (t := am_t215) (by decide +kernel) h
theorem am_o215 : am_okm 215 = true := am_oq (by decide)
theorem am_h216 {pc : Nat} {e : am_en} (h : am_f216 pc = some e) : am_ckc 216 e = true := am_coq (n := 71) (t := am_t216) (by decide +kernel) h
theorem am_o216 : am_okm 216 = true := am_oq (by decide)
theorem am_h217 {pc : Nat} {e : am_en} (h : am_f217 pc = some e) : am_ckc 217 e = true := am_coq (n := 54) (t := am_t217) (by decide +kernel) h
theorem am_o217 : am_okm 217 = true := am_oq (by decide)
theorem am_h218 {pc : Nat} {e : am_en} (h : am_f218 pc = some e) : am_ckc 218 e = true := am_coq (n := 52) (t := am_t218) (by decide +kernel) h
theorem am_o218 : am_okm 218 = true := am_oq (by decide)
theorem am_h219 {pc : Nat} {e : am_en} (h : am_f219 pc = some e) : am_ckc 219 e = true := am_coq (n := 18) (t := am_t219) (by decide +kernel) h
theorem am_o219 : am_okm 219 = true := am_oq (by decide)
theorem am_h220 {pc : Nat} {e : am_en} (h : am_f220 pc = some e) : am_ckc 220 e = true := am_coq (n := 26) (t := am_t220) (by decide +kernel) h
theorem am_o220 : am_okm 220 = true := am_oq (by decide)
theorem am_h221 {pc : Nat} {e : am_en} (h : am_f221 pc = some e) : am_ckc 221 e = true := am_coq (n := 19) (t := am_t221) (by decide +kernel) h
theorem am_o221 : am_okm 221 = true := am_oq (by decide)
theorem am_h222 {pc : Nat} {e : am_en} (h : am_f222 pc = some e) : am_ckc 222 e = true := am_coq (n := 138) (t := am_t222) (by decide +kernel) h
theorem am_o222 : am_okm 222 = true := am_oq (by decide)
theorem am_h223 {pc : Nat} {e : am_en} (h : am_f223 pc = some e) : am_ckc 223 e = true := am_coq (n := 154) (t := am_t223) (by decide +kernel) h
theorem am_o223 : am_okm 223 = true := am_oq (by decide)
theorem am_h224 {pc : Nat} {e : am_en} (h : am_f224 pc = some e) : am_ckc 224 e = true := am_coq (n := 112) (t := am_t224) (by decide +kernel) h
theorem am_o224 : am_okm 224 = true := am_oq (by decide)
theorem am_h225 {pc : Nat} {e : am_en} (h : am_f225 pc = some e) : am_ckc 225 e = true := am_coq (n := 101) (t := am_t225) (by decide +kernel) h
theorem am_o225 : am_okm 225 = true := am_oq (by decide)
theorem am_h226 {pc : Nat} {e : am_en} (h : am_f226 pc = some e) : am_ckc 226 e = true := am_coq (n := 125) (t := am_t226) (by decide +kernel) h
theorem am_o226 : am_okm 226 = true := am_oq (by decide)
theorem am_h227 {pc : Nat} {e : am_en} (h : am_f227 pc = some e) : am_ckc 227 e = true := am_coq (n := 113) (t := am_t227) (by decide +kernel) h
theorem am_o227 : am_okm 227 = true := am_oq (by decide)
theorem am_h228 {pc : Nat} {e : am_en} (h : am_f228 pc = some e) : am_ckc 228 e = true := am_coq (n := 160) (t := am_t228) (by decide +kernel) h
theorem am_o228 : am_okm 228 = true := am_oq (by decide)
theorem am_h229 {pc : Nat} {e : am_en} (h : am_f229 pc = some e) : am_ckc 229 e = true := am_coq (n := 20) (t := am_t229) (by decide +kernel) h
theorem am_o229 : am_okm 229 = true := am_oq (by decide)
theorem am_h230 {pc : Nat} {e : am_en} (h : am_f230 pc = some e) : am_ckc 230 e = true := am_coq (n := 51) (t := am_t230) (by decide +kernel) h
theorem am_o230 : am_okm 230 = true := am_oq (by decide)
theorem am_h231 {pc : Nat} {e : am_en} (h : am_f231 pc = some e) : am_ckc 231 e = true := am_coq (n := 12) (t := am_t231) (by decide +kernel) h
theorem am_o231 : am_okm 231 = true := am_oq (by decide)
theorem am_h232 {pc : Nat} {e : am_en} (h : am_f232 pc = some e) : am_ckc 232 e = true := am_coq (n := 39) (t := am_t232) (by decide +kernel) h
theorem am_o232 : am_okm 232 = true := am_oq (by decide)
theorem am_h233 {pc : Nat} {e : am_en} (h : am_f233 pc = some e) : am_ckc 233 e = true := am_coq (n := 89) (t := am_t233) (by decide +kernel) h
theorem am_o233 : am_okm 233 = true := am_oq (by decide)
theorem am_h234 {pc : Nat} {e : am_en} (h : am_f234 pc = some e) : am_ckc 234 e = true := am_coq (n := 34) (t := am_t234) (by decide +kernel) h
theorem am_o234 : am_okm 234 = true := am_oq (by decide)
theorem am_h235 {pc : Nat} {e : am_en} (h : am_f235 pc = some e) : am_ckc 235 e = true := am_coq (n := 32) (t := am_t235) (by decide +kernel) h
theorem am_o235 : am_okm 235 = true := am_oq (by decide)
theorem am_h236 {pc : Nat} {e : am_en} (h : am_f236 pc = some e) : am_ckc 236 e = true := am_coq (n := 28) (t := am_t236) (by decide +kernel) h
theorem am_o236 : am_okm 236 = true := am_oq (by decide)
theorem am_h237 {pc : Nat} {e : am_en} (h : am_f237 pc = some e) : am_ckc 237 e = true := am_coq (n := 46) (t := am_t237) (by decide +kernel) h
theorem am_o237 : am_okm 237 = true := am_oq (by decide)
theorem am_h238 {pc : Nat} {e : am_en} (h : am_f238 pc = some e) : am_ckc 238 e = true := am_coq (n := 17) (t := am_t238) (by decide +kernel) h
theorem am_o238 : am_okm 238 = true := am_oq (by decide)
theorem am_h239 {pc : Nat} {e : am_en} (h : am_f239 pc = some e) : am_ckc 239 e = true := am_coq (n := 62) (t := am_t239) (by decide +kernel) h
theorem am_o239 : am_okm 239 = true := am_oq (by decide)
theorem am_h240 {pc : Nat} {e : am_en} (h : am_f240 pc = some e) : am_ckc 240 e = true := am_coq (n := 39) (t := am_t240) (by decide +kernel) h
theorem am_o240 : am_okm 240 = true := am_oq (by decide)
theorem am_h241 {pc : Nat} {e : am_en} (h : am_f241 pc = some e) : am_ckc 241 e = true := am_coq (n := 91) (t := am_t241) (by decide +kernel) h
theorem am_o241 : am_okm 241 = true := am_oq (by decide)
theorem am_h242 {pc : Nat} {e : am_en} (h : am_f242 pc = some e) : am_ckc 242 e = true := am_coq (n := 64) (t := am_t242) (by decide +kernel) h
theorem am_o242 : am_okm 242 = true := am_oq (by decide)
theorem am_h243 {pc : Nat} {e : am_en} (h : am_f243 pc = some e) : am_ckc 243 e = true := am_coq (n := 84) (t := am_t243) (by decide +kernel) h
theorem am_o243 : am_okm 243 = true := am_oq (by decide)
theorem am_h244 {pc : Nat} {e : am_en} (h : am_f244 pc = some e) : am_ckc 244 e = true := am_coq (n := 34) (t := am_t244) (by decide +kernel) h
theorem am_o244 : am_okm 244 = true := am_oq (by decide)
theorem am_h245 {pc : Nat} {e : am_en} (h : am_f245 pc = some e) : am_ckc 245 e = true := am_coq (n := 28) (t := am_t245) (by decide +kernel) h
theorem am_o245 : am_okm 245 = true := am_oq (by decide)
theorem am_h246 {pc : Nat} {e : am_en} (h : am_f246 pc = some e) : am_ckc 246 e = true := am_coq (n := 116) (t := am_t246) (by decide +kernel) h
theorem am_o246 : am_okm 246 = true := am_oq (by decide)
theorem am_h247 {pc : Nat} {e : am_en} (h : am_f247 pc = some e) : am_ckc 247 e = true := am_coq (n := 5) (t := am_t247) (by decide +kernel) h
theorem am_o247 : am_okm 247 = true := am_oq (by decide)
theorem am_h248 {pc : Nat} {e : am_en} (h : am_f248 pc = some e) : am_ckc 248 e = true := am_coq (n := 5) (t := am_t248) (by decide +kernel) h
theorem am_o248 : am_okm 248 = true := am_oq (by decide)
theorem am_h249 {pc : Nat} {e : am_en} (h : am_f249 pc = some e) : am_ckc 249 e = true := am_coq (n := 5) (t := am_t249) (by decide +kernel) h
theorem am_o249 : am_okm 249 = true := am_oq (by decide)
theorem am_h250 {pc : Nat} {e : am_en} (h : am_f250 pc = some e) : am_ckc 250 e = true := am_coq (n := 223) (t := am_t250) (by decide +kernel) h
theorem am_o250 : am_okm 250 = true := am_oq (by decide)
theorem am_h251 {pc : Nat} {e : am_en} (h : am_f251 pc = some e) : am_ckc 251 e = true := am_coq (n := 20) (t := am_t251) (by decide +kernel) h
theorem am_o251 : am_okm 251 = true := am_oq (by decide)
theorem am_h252 {pc : Nat} {e : am_en} (h : am_f252 pc = some e) : am_ckc 252 e = true := am_coq (n := 5) (t := am_t252) (by decide +kernel) h
theorem am_o252 : am_okm 252 = true := am_oq (by decide)
theorem am_h253 {pc : Nat} {e : am_en} (h : am_f253 pc = some e) : am_ckc 253 e = true := am_coq (n := 20) (t := am_t253) (by decide +kernel) h
theorem am_o253 : am_okm 253 = true := am_oq (by decide)
theorem am_h254 {pc : Nat} {e : am_en} (h : am_f254 pc = some e) : am_ckc 254 e = true := am_coq (n := 16) (t := am_t254) (by decide +kernel) h
theorem am_o254 : am_okm 254 = true := am_oq (by decide)
theorem am_h255 {pc : Nat} {e : am_en} (h : am_f255 pc = some e) : am_ckc 255 e = true := am_coq (n := 79) (t := am_t255) (by decide +kernel) h
theorem am_o255 : am_okm 255 = true := am_oq (by decide)
theorem am_h256 {pc : Nat} {e : am_en} (h : am_f256 pc = some e) : am_ckc 256 e = true := am_coq (n := 123) (t := am_t256) (by decide +kernel) h
theorem am_o256 : am_okm 256 = true := am_oq (by decide)
theorem am_h257 {pc : Nat} {e : am_en} (h : am_f257 pc = some e) : am_ckc 257 e = true := am_coq (n := 130) (t := am_t257) (by decide +kernel) h
theorem am_o257 : am_okm 257 = true := am_oq (by decide)
theorem am_h258 {pc : Nat} {e : am_en} (h : am_f258 pc = some e) : am_ckc 258 e = true := am_coq (n := 187) (t := am_t258) (by decide +kernel) h
theorem am_o258 : am_okm 258 = true := am_oq (by decide)
theorem am_h259 {pc : Nat} {e : am_en} (h : am_f259 pc = some e) : am_ckc 259 e = true := am_coq (n := 53) (t := am_t259) (by decide +kernel) h
theorem am_o259 : am_okm 259 = true := am_oq (by decide)
theorem am_h260 {pc : Nat} {e : am_en} (h : am_f260 pc = some e) : am_ckc 260 e = true := am_coq (n := 11) (t := am_t260) (by decide +kernel) h
theorem am_h261 {pc : Nat} {e : am_en} (h : am_f261 pc = some e) : am_ckc 261 e = true := am_coq (n := 11) (t := am_t261) (by decide +kernel) h
