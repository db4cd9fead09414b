/-! THE CASES of the law (printed by wip/tools/genlaw.py) -/
noncomputable def lg_cs (l : Launch) (a : Nat → Int32) (σ : tI) (τ : tL) (ρ : tR) (cn : tN) (ln : tM) (R : tI → tL → tR → tN → tM → Prop) : Nat → Prop
  | 0 => LGn l 93 163 [aI (a 1), aI (a 2)] σ τ ρ cn ln R
  | 1 => LGn l 94 164 [aI (a 1), aI (a 2), aI (a 3)] σ τ ρ cn ln R
  | 2 => LGn l 95 165 [aI (a 1), aI (a 2)] σ τ ρ cn ln R
  | 3 => LGn l 96 166 [aI (a 1)] σ τ ρ cn ln R
  | 4 => LGn l 97 167 [aI (a 1), aI (a 2), aI (a 3), aI (a 4), aI (a 5)] σ τ ρ cn ln R
  | 5 => LGn l 98 169 [aI (a 1), aI (a 2)] σ τ ρ cn ln R
  | 6 => LGn l 99 170 [aI (a 1), aI (a 2), aI (a 3)] σ τ ρ cn ln R
  | 7 => LGn l 100 171 [aI (a 1)] σ τ ρ cn ln R
  | 8 => LGn l 101 179 [aI (a 1)] σ τ ρ cn ln R
  | 9 => LGn l 102 180 [aI (a 1), aI (a 2)] σ τ ρ cn ln R
  | 10 => LGn l 103 182 [aI (a 1), aI (a 2), aI (a 3)] σ τ ρ cn ln R
  | 11 => LGn l 104 186 [aI (a 1), aI (a 2)] σ τ ρ cn ln R
  | 12 => LGn l 105 188 [aI (a 1), aI (a 2), aI (a 3), aI (a 4)] σ τ ρ cn ln R
  | 13 => LGn l 106 191 [aI (a 1), aI (a 2), aI (a 3), aI (a 4)] σ τ ρ cn ln R
  | 14 => LGn l 107 192 [aI (a 1)] σ τ ρ cn ln R
  | 15 => LGn l 108 193 [aI (a 1)] σ τ ρ cn ln R
  | 16 => LGn l 109 196 [aI (a 1), aI (a 2), aI (a 3)] σ τ ρ cn ln R
  | 17 => LGn l 110 195 [aI (a 1), aI (a 2), aI (a 3)] σ τ ρ cn ln R
  | 18 => LGn l 111 197 [aI (a 1), aI (a 2), aI (a 3)] σ τ ρ cn ln R
  | 19 => LGn l 112 198 [aI (a 1), aI (a 2), aI (a 3)] σ τ ρ cn ln R
  | 20 => LGn l 113 202 [] σ τ ρ cn ln R
  | 21 => LGn l 114 205 [] σ τ ρ cn ln R
  | 22 => LGn l 115 206 [aI (a 1)] σ τ ρ cn ln R
  | 23 => LGn l 116 207 [aI (a 1)] σ τ ρ cn ln R
  | 24 => LGn l 117 208 [aI (a 1), aI (a 2), aI (a 3), aI (a 4)] σ τ ρ cn ln R
  | 25 => LGn l 118 212 [aI (a 1), aI (a 2), aI (a 3), aI (a 4), aI (a 5), aI (a 6)] σ τ ρ cn ln R
  | 26 => LGn l 119 215 [aI (a 1), aI (a 2), aI (a 3), aI (a 4)] σ τ ρ cn ln R
  | 27 => LGn l 120 217 [aI (a 1), aI (a 2)] σ τ ρ cn ln R
  | 28 => LGn l 121 229 [] σ τ ρ cn ln R
  | 29 => LGn l 122 230 [aI (a 1)] σ τ ρ cn ln R
  | 30 => LGn l 123 232 [aI (a 1)] σ τ ρ cn ln R
  | 31 => LGn l 124 234 [aI (a 1), aI (a 2)] σ τ ρ cn ln R
  | 32 => LGn l 125 235 [aI (a 1), aI (a 2)] σ τ ρ cn ln R
  | 33 => LGn l 126 236 [aI (a 1)] σ τ ρ cn ln R
  | 34 => LGn l 127 238 [aI (a 1)] σ τ ρ cn ln R
  | 35 => LGn l 128 240 [aI (a 1), aI (a 2)] σ τ ρ cn ln R
  | 36 => LGn l 129 241 [aI (a 1), aI (a 2)] σ τ ρ cn ln R
  | 37 => LGn l 130 242 [aI (a 1), aI (a 2)] σ τ ρ cn ln R
  | 38 => LGn l 131 243 [aI (a 1)] σ τ ρ cn ln R
  | 39 => LGn l 132 245 [aI (a 1), aI (a 2)] σ τ ρ cn ln R
  | 40 => LGn l 133 246 [] σ τ ρ cn ln R
  | 41 => LGn l 134 247 [] σ τ ρ cn ln R
  | 42 => LGn l 135 248 [] σ τ ρ cn ln R
  | 43 => LGn l 136 249 [] σ τ ρ cn ln R
  | 44 => LGn l 137 251 [aI (a 1)] σ τ ρ cn ln R
  | 45 => LGn l 138 252 [] σ τ ρ cn ln R
  | 46 => LGn l 139 253 [aI (a 1)] σ τ ρ cn ln R
  | 47 => LG l 140 258 [] σ τ ρ cn ln R
  | _ => True
theorem lg_k0 : lg_ckn 240 93 163 2 13 17 592 1396 = true := by decide +kernel -- row
theorem lg_k1 : lg_ckn 273 94 164 3 18 22 611 1410 = true := by decide +kernel -- lay
theorem lg_k2 : lg_ckn 316 95 165 2 23 26 619 1426 = true := by decide +kernel -- at
theorem lg_k3 : lg_ckn 349 96 166 1 27 31 623 1427 = true := by decide +kernel -- tear
theorem lg_k4 : lg_ckn 372 97 167 5 32 36 627 1431 = true := by decide +kernel -- copy
theorem lg_k5 : lg_ckn 435 98 169 2 37 40 638 1435 = true := by decide +kernel -- text
theorem lg_k6 : lg_ckn 468 99 170 3 41 44 642 1443 = true := by decide +kernel -- put
theorem lg_k7 : lg_ckn 511 100 171 1 45 48 646 1451 = true := by decide +kernel -- size
theorem lg_k8 : lg_ckn 534 101 179 1 49 52 650 1455 = true := by decide +kernel -- fault
theorem lg_k9 : lg_ckn 557 102 180 2 53 56 697 1482 = true := by decide +kernel -- shape
theorem lg_k10 : lg_ckn 590 103 182 3 57 60 710 1489 = true := by decide +kernel -- item
theorem lg_k11 : lg_ckn 633 104 186 2 61 64 718 1501 = true := by decide +kernel -- fields
theorem lg_k12 : lg_ckn 666 105 188 4 65 69 738 1512 = true := by decide +kernel -- write
theorem lg_k13 : lg_ckn 719 106 191 4 70 73 772 1521 = true := by decide +kernel -- read
theorem lg_k14 : lg_ckn 772 107 192 1 74 77 822 1538 = true := by decide +kernel -- names
theorem lg_k15 : lg_ckn 795 108 193 1 78 81 826 1542 = true := by decide +kernel -- handOn
theorem lg_k16 : lg_ckn 818 109 196 3 82 85 831 1554 = true := by decide +kernel -- fits
theorem lg_k17 : lg_ckn 861 110 195 3 86 89 844 1546 = true := by decide +kernel -- unlike
theorem lg_k18 : lg_ckn 904 111 197 3 90 93 848 1559 = true := by decide +kernel -- version
theorem lg_k19 : lg_ckn 947 112 198 3 94 97 852 1563 = true := by decide +kernel -- door
theorem lg_k20 : lg_ckn 990 113 202 0 98 102 859 1567 = true := by decide +kernel -- clash
theorem lg_k21 : lg_ckn 1003 114 205 0 103 106 868 1579 = true := by decide +kernel -- order
theorem lg_k22 : lg_ckn 1016 115 206 1 107 110 916 1598 = true := by decide +kernel -- orderAt
theorem lg_k23 : lg_ckn 1039 116 207 1 111 114 920 1602 = true := by decide +kernel -- putIn
theorem lg_k24 : lg_ckn 1062 117 208 4 115 118 928 1606 = true := by decide +kernel -- service
theorem lg_k25 : lg_ckn 1115 118 212 6 119 123 932 1610 = true := by decide +kernel -- call
theorem lg_k26 : lg_ckn 1190 119 215 4 124 127 952 1622 = true := by decide +kernel -- breaks
theorem lg_k27 : lg_ckn 1243 120 217 2 128 131 965 1632 = true := by decide +kernel -- ping
theorem lg_k28 : lg_ckn 1276 121 229 0 132 135 970 1636 = true := by decide +kernel -- tick
theorem lg_k29 : lg_ckn 1289 122 230 1 136 139 1043 1692 = true := by decide +kernel -- run
theorem lg_k30 : lg_ckn 1312 123 232 1 140 143 1047 1696 = true := by decide +kernel -- cancel
theorem lg_k31 : lg_ckn 1335 124 234 2 144 147 1052 1704 = true := by decide +kernel -- told
theorem lg_k32 : lg_ckn 1368 125 235 2 148 151 1060 1712 = true := by decide +kernel -- where
theorem lg_k33 : lg_ckn 1401 126 236 1 152 155 1064 1716 = true := by decide +kernel -- queue
theorem lg_k34 : lg_ckn 1424 127 238 1 156 159 1068 1720 = true := by decide +kernel -- kept
theorem lg_k35 : lg_ckn 1447 128 240 2 160 163 1076 1728 = true := by decide +kernel -- frame
theorem lg_k36 : lg_ckn 1480 129 241 2 164 167 1084 1736 = true := by decide +kernel -- mark
theorem lg_k37 : lg_ckn 1513 130 242 2 168 171 1096 1740 = true := by decide +kernel -- credit
theorem lg_k38 : lg_ckn 1546 131 243 1 172 175 1101 1744 = true := by decide +kernel -- piece
theorem lg_k39 : lg_ckn 1569 132 245 2 176 179 1105 1748 = true := by decide +kernel -- stream
theorem lg_k40 : lg_ckn 1602 133 246 0 180 183 1113 1756 = true := by decide +kernel -- mean
theorem lg_k41 : lg_ckn 1615 134 247 0 184 187 1128 1760 = true := by decide +kernel -- asked
theorem lg_k42 : lg_ckn 1628 135 248 0 188 192 1132 1764 = true := by decide +kernel -- upper
theorem lg_k43 : lg_ckn 1641 136 249 0 193 196 1136 1768 = true := by decide +kernel -- lower
theorem lg_k44 : lg_ckn 1654 137 251 1 197 200 1140 1772 = true := by decide +kernel -- count
theorem lg_k45 : lg_ckn 1677 138 252 0 201 204 1155 1780 = true := by decide +kernel -- finding
theorem lg_k46 : lg_ckn 1690 139 253 1 205 208 1159 1784 = true := by decide +kernel -- findings
theorem lg_k47 : lg_ck 1713 140 258 0 209 212 1163 1788 = true := by decide +kernel -- digest
set_option maxHeartbeats 4000000 in
theorem lg_sw {p : Program} {l : Launch} {e : Env} {s : State} {m : MethodId} {below : List Frame} {meth : Method} {c : Code} {D : va_G} {ca : Nat → ClassId} {b L : Nat} {xs : Nat → Int32} {u w i0 : Nat} {σ : tI} {τ : tL} {ρ : tR} {cn : tN} {ln : tM} {R : tI → tL → tR → tN → tM → Prop} (C : lg_X p s m meth c D ca b L xs) (hi : i0 + 7 ≤ L) (HL : ∀ j, j < 48 → lg_cs l (fun k => xs (i0 + k)) σ τ ρ cn ln R j) (hR : R σ τ ρ cn ln) (h11 : 0 < cn 11) (h12 : 0 < cn 12) (hu : u ≤ 600000 ∧ w ≤ 7302250)
    (K : ∀ σ2 τ2 ρ2 cn2 ln2, R σ2 τ2 ρ2 cn2 ln2 → 0 < cn2 11 → 0 < cn2 12 → lg_J l p e s m below meth c D ca b u w 1727 (lg_ls (nI i0)) [] σ2 τ2 ρ2 cn2 ln2) : lg_J l p e s m below meth c D ca b u w 33 (lg_ls (nI i0)) [aI (xs i0 &&& 63)] σ τ ρ cn ln := by
  obtain ⟨j, hj, ej⟩ := pk_andE (xs i0) (m := 63) 6 (by decide)
  rw [ej]
  by_cases h48 : j < 48
  · have hc := HL j h48
    match j, h48, hc with
    | 0, _, hc => exact lg_tab C (by decide) (off := 207) (tgt := 240) rfl (by decide) (lg_casen C hi lg_k0 (by decide) (fun _ _ => rfl) hc h11 h12 hu K)
    | 1, _, hc => exact lg_tab C (by decide) (off := 240) (tgt := 273) rfl (by decide) (lg_casen C hi lg_k1 (by decide) (fun _ _ => rfl) hc h11 h12 hu K)
    | 2, _, hc => exact lg_tab C (by decide) (off := 283) (tgt := 316) rfl (by decide) (lg_casen C hi lg_k2 (by decide) (fun _ _ => rfl) hc h11 h12 hu K)
    | 3, _, hc => exact lg_tab C (by decide) (off := 316) (tgt := 349) rfl (by decide) (lg_casen C hi lg_k3 (by decide) (fun _ _ => rfl) hc h11 h12 hu K)
    | 4, _, hc => exact lg_tab C (by decide) (off := 339) (tgt := 372) rfl (by decide) (lg_casen C hi lg_k4 (by decide) (fun _ _ => rfl) hc h11 h12 hu K)
    | 5, _, hc => exact lg_tab C (by decide) (off := 402) (tgt := 435) rfl (by decide) (lg_casen C hi lg_k5 (by decide) (fun _ _ => rfl) hc h11 h12 hu K)
    | 6, _, hc => exact lg_tab C (by decide) (off := 435) (tgt := 468) rfl (by decide) (lg_casen C hi lg_k6 (by decide) (fun _ _ => rfl) hc h11 h12 hu K)
    | 7, _, hc => exact lg_tab C (by decide) (off := 478) (tgt := 511) rfl (by decide) (lg_casen C hi lg_k7 (by decide) (fun _ _ => rfl) hc h11 h12 hu K)
    | 8, _, hc => exact lg_tab C (by decide) (off := 501) (tgt := 534) rfl (by decide) (lg_casen C hi lg_k8 (by decide) (fun _ _ => rfl) hc h11 h12 hu K)
    | 9, _, hc => exact lg_tab C (by decide) (off := 524) (tgt := 557) rfl (by decide) (lg_casen C hi lg_k9 (by decide) (fun _ _ => rfl) hc h11 h12 hu K)
    | 10, _, hc => exact lg_tab C (by decide) (off := 557) (tgt := 590) rfl (by decide) (lg_casen C hi lg_k10 (by decide) (fun _ _ => rfl) hc h11 h12 hu K)
    | 11, _, hc => exact lg_tab C (by decide) (off := 600) (tgt := 633) rfl (by decide) (lg_casen C hi lg_k11 (by decide) (fun _ _ => rfl) hc h11 h12 hu K)
    | 12, _, hc => exact lg_tab C (by decide) (off := 633) (tgt := 666) rfl (by decide) (lg_casen C hi lg_k12 (by decide) (fun _ _ => rfl) hc h11 h12 hu K)
    | 13, _, hc => exact lg_tab C (by decide) (off := 686) (tgt := 719) rfl (by decide) (lg_casen C hi lg_k13 (by decide) (fun _ _ => rfl) hc h11 h12 hu K)
    | 14, _, hc => exact lg_tab C (by decide) (off := 739) (tgt := 772) rfl (by decide) (lg_casen C hi lg_k14 (by decide) (fun _ _ => rfl) hc h11 h12 hu K)
    | 15, _, hc => exact lg_tab C (by decide) (off := 762) (tgt := 795) rfl (by decide) (lg_casen C hi lg_k15 (by decide) (fun _ _ => rfl) hc h11 h12 hu K)
    | 16, _, hc => exact lg_tab C (by decide) (off := 785) (tgt := 818) rfl (by decide) (lg_casen C hi lg_k16 (by decide) (fun _ _ => rfl) hc h11 h12 hu K)
    | 17, _, hc => exact lg_tab C (by decide) (off := 828) (tgt := 861) rfl (by decide) (lg_casen C hi lg_k17 (by decide) (fun _ _ => rfl) hc h11 h12 hu K)
    | 18, _, hc => exact lg_tab C (by decide) (off := 871) (tgt := 904) rfl (by decide) (lg_casen C hi lg_k18 (by decide) (fun _ _ => rfl) hc h11 h12 hu K)
    | 19, _, hc => exact lg_tab C (by decide) (off := 914) (tgt := 947) rfl (by decide) (lg_casen C hi lg_k19 (by decide) (fun _ _ => rfl) hc h11 h12 hu K)
    | 20, _, hc => exact lg_tab C (by decide) (off := 957) (tgt := 990) rfl (by decide) (lg_casen C hi lg_k20 (by decide) (fun _ _ => rfl) hc h11 h12 hu K)
    | 21, _, hc => exact lg_tab C (by decide) (off := 970) (tgt := 1003) rfl (by decide) (lg_casen C hi lg_k21 (by decide) (fun _ _ => rfl) hc h11 h12 hu K)
    | 22, _, hc => exact lg_tab C (by decide) (off := 983) (tgt := 1016) rfl (by decide) (lg_casen C hi lg_k22 (by decide) (fun _ _ => rfl) hc h11 h12 hu K)
    | 23, _, hc => exact lg_tab C (by decide) (off := 1006) (tgt := 1039) rfl (by decide) (lg_casen C hi lg_k23 (by decide) (fun _ _ => rfl) hc h11 h12 hu K)
    | 24, _, hc => exact lg_tab C (by decide) (off := 1029) (tgt := 1062) rfl (by decide) (lg_casen C hi lg_k24 (by decide) (fun _ _ => rfl) hc h11 h12 hu K)
    | 25, _, hc => exact lg_tab C (by decide) (off := 1082) (tgt := 1115) rfl (by decide) (lg_casen C hi lg_k25 (by decide) (fun _ _ => rfl) hc h11 h12 hu K)
    | 26, _, hc => exact lg_tab C (by decide) (off := 1157) (tgt := 1190) rfl (by decide) (lg_casen C hi lg_k26 (by decide) (fun _ _ => rfl) hc h11 h12 hu K)
    | 27, _, hc => exact lg_tab C (by decide) (off := 1210) (tgt := 1243) rfl (by decide) (lg_casen C hi lg_k27 (by decide) (fun _ _ => rfl) hc h11 h12 hu K)
    | 28, _, hc => exact lg_tab C (by decide) (off := 1243) (tgt := 1276) rfl (by decide) (lg_casen C hi lg_k28 (by decide) (fun _ _ => rfl) hc h11 h12 hu K)
    | 29, _, hc => exact lg_tab C (by decide) (off := 1256) (tgt := 1289) rfl (by decide) (lg_casen C hi lg_k29 (by decide) (fun _ _ => rfl) hc h11 h12 hu K)
    | 30, _, hc => exact lg_tab C (by decide) (off := 1279) (tgt := 1312) rfl (by decide) (lg_casen C hi lg_k30 (by decide) (fun _ _ => rfl) hc h11 h12 hu K)
    | 31, _, hc => exact lg_tab C (by decide) (off := 1302) (tgt := 1335) rfl (by decide) (lg_casen C hi lg_k31 (by decide) (fun _ _ => rfl) hc h11 h12 hu K)
    | 32, _, hc => exact lg_tab C (by decide) (off := 1335) (tgt := 1368) rfl (by decide) (lg_casen C hi lg_k32 (by decide) (fun _ _ => rfl) hc h11 h12 hu K)
    | 33, _, hc => exact lg_tab C (by decide) (off := 1368) (tgt := 1401) rfl (by decide) (lg_casen C hi lg_k33 (by decide) (fun _ _ => rfl) hc h11 h12 hu K)
    | 34, _, hc => exact lg_tab C (by decide) (off := 1391) (tgt := 1424) rfl (by decide) (lg_casen C hi lg_k34 (by decide) (fun _ _ => rfl) hc h11 h12 hu K)
    | 35, _, hc => exact lg_tab C (by decide) (off := 1414) (tgt := 1447) rfl (by decide) (lg_casen C hi lg_k35 (by decide) (fun _ _ => rfl) hc h11 h12 hu K)
    | 36, _, hc => exact lg_tab C (by decide) (off := 1447) (tgt := 1480) rfl (by decide) (lg_casen C hi lg_k36 (by decide) (fun _ _ => rfl) hc h11 h12 hu K)
    | 37, _, hc => exact lg_tab C (by decide) (off := 1480) (tgt := 1513) rfl (by decide) (lg_casen C hi lg_k37 (by decide) (fun _ _ => rfl) hc h11 h12 hu K)
    | 38, _, hc => exact lg_tab C (by decide) (off := 1513) (tgt := 1546) rfl (by decide) (lg_casen C hi lg_k38 (by decide) (fun _ _ => rfl) hc h11 h12 hu K)
    | 39, _, hc => exact lg_tab C (by decide) (off := 1536) (tgt := 1569) rfl (by decide) (lg_casen C hi lg_k39 (by decide) (fun _ _ => rfl) hc h11 h12 hu K)
    | 40, _, hc => exact lg_tab C (by decide) (off := 1569) (tgt := 1602) rfl (by decide) (lg_casen C hi lg_k40 (by decide) (fun _ _ => rfl) hc h11 h12 hu K)
    | 41, _, hc => exact lg_tab C (by decide) (off := 1582) (tgt := 1615) rfl (by decide) (lg_casen C hi lg_k41 (by decide) (fun _ _ => rfl) hc h11 h12 hu K)
    | 42, _, hc => exact lg_tab C (by decide) (off := 1595) (tgt := 1628) rfl (by decide) (lg_casen C hi lg_k42 (by decide) (fun _ _ => rfl) hc h11 h12 hu K)
    | 43, _, hc => exact lg_tab C (by decide) (off := 1608) (tgt := 1641) rfl (by decide) (lg_casen C hi lg_k43 (by decide) (fun _ _ => rfl) hc h11 h12 hu K)
    | 44, _, hc => exact lg_tab C (by decide) (off := 1621) (tgt := 1654) rfl (by decide) (lg_casen C hi lg_k44 (by decide) (fun _ _ => rfl) hc h11 h12 hu K)
    | 45, _, hc => exact lg_tab C (by decide) (off := 1644) (tgt := 1677) rfl (by decide) (lg_casen C hi lg_k45 (by decide) (fun _ _ => rfl) hc h11 h12 hu K)
    | 46, _, hc => exact lg_tab C (by decide) (off := 1657) (tgt := 1690) rfl (by decide) (lg_casen C hi lg_k46 (by decide) (fun _ _ => rfl) hc h11 h12 hu K)
    | 47, _, hc => exact lg_tab C (by decide) (off := 1680) (tgt := 1713) rfl (by decide) (lg_case C hi lg_k47 (by decide) (fun _ _ => rfl) hc h11 h12 hu K)
    | j + 48, h, _ => exact absurd h (by omega)
  · exact lg_out C (by omega) hj (K _ _ _ _ _ hR h11 h12)
def lgR : tI → tL → tR → tN → tM → Prop := fun σ τ ρ cn ln => ∃ t, ρ = rX t ∧ cn = cX ∧ ln = lX ∧ Rall σ τ
theorem LR_all {l : Launch} {σ : tI} {τ : tL} {t : Option (Nat × Nat)} (h : Rall σ τ) (a : Nat → Int32) : ∀ j, j < 48 → lg_cs l a σ τ (rX t) cX lX lgR j
  | 0, _ => LGn.of_LCn (LC.n (LC_row h _ _) rfl) (fun _ _ t2 h2 => ⟨t2, rfl, rfl, rfl, h2⟩)
  | 1, _ => LGn.of_LCn (LC.n (LC_lay h _ _ _) rfl) (fun _ _ t2 h2 => ⟨t2, rfl, rfl, rfl, h2⟩)
  | 2, _ => LGn.of_LCn (LC.n (LC_at h _ _) rfl) (fun _ _ t2 h2 => ⟨t2, rfl, rfl, rfl, h2⟩)
  | 3, _ => LGn.of_LCn (LC.n (LC_tear h _) rfl) (fun _ _ t2 h2 => ⟨t2, rfl, rfl, rfl, h2⟩)
  | 4, _ => LGn.of_LCn (LC.n (LC_copy h _ _ _ _ _) rfl) (fun _ _ t2 h2 => ⟨t2, rfl, rfl, rfl, h2⟩)
  | 5, _ => LGn.of_LCn (LC.n (LC_text h _ _) rfl) (fun _ _ t2 h2 => ⟨t2, rfl, rfl, rfl, h2⟩)
  | 6, _ => LGn.of_LCn (LC.n (LC_put h _ _ _) rfl) (fun _ _ t2 h2 => ⟨t2, rfl, rfl, rfl, h2⟩)
  | 7, _ => LGn.of_LCn (LC.n (LC_size h _) rfl) (fun _ _ t2 h2 => ⟨t2, rfl, rfl, rfl, h2⟩)
  | 8, _ => LGn.of_LCn (LC.n (LC_fault h _) rfl) (fun _ _ t2 h2 => ⟨t2, rfl, rfl, rfl, h2⟩)
  | 9, _ => LGn.of_LCn (LC.n (LC_shape h _ _) rfl) (fun _ _ t2 h2 => ⟨t2, rfl, rfl, rfl, h2⟩)
  | 10, _ => LGn.of_LCn (LC.n (LC_item h _ _ _) rfl) (fun _ _ t2 h2 => ⟨t2, rfl, rfl, rfl, h2⟩)
  | 11, _ => LGn.of_LCn (LC.n (LC_fields h _ _) rfl) (fun _ _ t2 h2 => ⟨t2, rfl, rfl, rfl, h2⟩)
  | 12, _ => LGn.of_LCn (LC.n (LC_write h _ _ _ _) rfl) (fun _ _ t2 h2 => ⟨t2, rfl, rfl, rfl, h2⟩)
  | 13, _ => LGn.of_LCn (LC.n (LC_read h _ _ _ _) rfl) (fun _ _ t2 h2 => ⟨t2, rfl, rfl, rfl, h2⟩)
  | 14, _ => LGn.of_LCn (LC.n (LC_names h _) rfl) (fun _ _ t2 h2 => ⟨t2, rfl, rfl, rfl, h2⟩)
  | 15, _ => LGn.of_LCn (LC.n (LC_handOn h _) rfl) (fun _ _ t2 h2 => ⟨t2, rfl, rfl, rfl, h2⟩)
  | 16, _ => LGn.of_LCn (LC.n (LC_fits h _ _ _) rfl) (fun _ _ t2 h2 => ⟨t2, rfl, rfl, rfl, h2⟩)
  | 17, _ => LGn.of_LCn (LC.n (LC_unlike h _ _ _) rfl) (fun _ _ t2 h2 => ⟨t2, rfl, rfl, rfl, h2⟩)
  | 18, _ => LGn.of_LCn (LC.n (LC_version h _ _ _) rfl) (fun _ _ t2 h2 => ⟨t2, rfl, rfl, rfl, h2⟩)
  | 19, _ => LGn.of_LCn (LC.n (LC_door h _ _ _) rfl) (fun _ _ t2 h2 => ⟨t2, rfl, rfl, rfl, h2⟩)
  | 20, _ => LGn.of_LCn (LC.n (LC_clash h) rfl) (fun _ _ t2 h2 => ⟨t2, rfl, rfl, rfl, h2⟩)
  | 21, _ => LGn.of_LCn (LC.n (LC_order h) rfl) (fun _ _ t2 h2 => ⟨t2, rfl, rfl, rfl, h2⟩)
  | 22, _ => LGn.of_LCn (LC.n (LC_orderAt h _) rfl) (fun _ _ t2 h2 => ⟨t2, rfl, rfl, rfl, h2⟩)
  | 23, _ => LGn.of_LCn (LC.n (LC_putIn h _) rfl) (fun _ _ t2 h2 => ⟨t2, rfl, rfl, rfl, h2⟩)
  | 24, _ => LGn.of_LCn (LC.n (LC_service h _ _ _ _) rfl) (fun _ _ t2 h2 => ⟨t2, rfl, rfl, rfl, h2⟩)
  | 25, _ => LGn.of_LCn (LC.n (LC_call h _ _ _ _ _ _) rfl) (fun _ _ t2 h2 => ⟨t2, rfl, rfl, rfl, h2⟩)
  | 26, _ => LGn.of_LCn (LC.n (LC_breaks h _ _ _ _) rfl) (fun _ _ t2 h2 => ⟨t2, rfl, rfl, rfl, h2⟩)
  | 27, _ => LGn.of_LCn (LC.n (LC_ping h _ _) rfl) (fun _ _ t2 h2 => ⟨t2, rfl, rfl, rfl, h2⟩)
  | 28, _ => LGn.of_LCn (LC.n (LC_tick h) rfl) (fun _ _ t2 h2 => ⟨t2, rfl, rfl, rfl, h2⟩)
  | 29, _ => LGn.of_LCn (LC.n (LC_run h _) rfl) (fun _ _ t2 h2 => ⟨t2, rfl, rfl, rfl, h2⟩)
  | 30, _ => LGn.of_LCn (LC.n (LC_cancel h _) rfl) (fun _ _ t2 h2 => ⟨t2, rfl, rfl, rfl, h2⟩)
  | 31, _ => LGn.of_LCn (LC.n (LC_told h _ _) rfl) (fun _ _ t2 h2 => ⟨t2, rfl, rfl, rfl, h2⟩)
  | 32, _ => LGn.of_LCn (LC.n (LC_where h _ _) rfl) (fun _ _ t2 h2 => ⟨t2, rfl, rfl, rfl, h2⟩)
  | 33, _ => LGn.of_LCn (LC.n (LC_queue h _) rfl) (fun _ _ t2 h2 => ⟨t2, rfl, rfl, rfl, h2⟩)
  | 34, _ => LGn.of_LCn (LC.n (LC_kept h _) rfl) (fun _ _ t2 h2 => ⟨t2, rfl, rfl, rfl, h2⟩)
  | 35, _ => LGn.of_LCn (LC.n (LC_frame h _ _) rfl) (fun _ _ t2 h2 => ⟨t2, rfl, rfl, rfl, h2⟩)
  | 36, _ => LGn.of_LCn (LC.n (LC_mark h _ _) rfl) (fun _ _ t2 h2 => ⟨t2, rfl, rfl, rfl, h2⟩)
  | 37, _ => LGn.of_LCn (LC.n (LC_credit h _ _) rfl) (fun _ _ t2 h2 => ⟨t2, rfl, rfl, rfl, h2⟩)
  | 38, _ => LGn.of_LCn (LC.n (LC_piece h _) rfl) (fun _ _ t2 h2 => ⟨t2, rfl, rfl, rfl, h2⟩)
  | 39, _ => LGn.of_LCn (LC.n (LC_stream h _ _) rfl) (fun _ _ t2 h2 => ⟨t2, rfl, rfl, rfl, h2⟩)
  | 40, _ => LGn.of_LCn (LC.n (LC_mean h) rfl) (fun _ _ t2 h2 => ⟨t2, rfl, rfl, rfl, h2⟩)
  | 41, _ => LGn.of_LCn (LC.n (LC_asked h) rfl) (fun _ _ t2 h2 => ⟨t2, rfl, rfl, rfl, h2⟩)
  | 42, _ => LGn.of_LCn (LC.n (LC_upper h) rfl) (fun _ _ t2 h2 => ⟨t2, rfl, rfl, rfl, h2⟩)
  | 43, _ => LGn.of_LCn (LC.n (LC_lower h) rfl) (fun _ _ t2 h2 => ⟨t2, rfl, rfl, rfl, h2⟩)
  | 44, _ => LGn.of_LCn (LC.n (LC_count h _) rfl) (fun _ _ t2 h2 => ⟨t2, rfl, rfl, rfl, h2⟩)
  | 45, _ => LGn.of_LCn (LC_finding h) (fun _ _ t2 h2 => ⟨t2, rfl, rfl, rfl, h2⟩)
  | 46, _ => LGn.of_LCn (LC_findings h _) (fun _ _ t2 h2 => ⟨t2, rfl, rfl, rfl, h2⟩)
  | 47, _ => LG.of_LC (LC_digest h) (fun _ _ t2 h2 => ⟨t2, rfl, rfl, rfl, h2⟩)
  | j + 48, h => absurd h (by omega)
