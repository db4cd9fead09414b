/-! EVERY STEP of the small machine is one of the machine -/
theorem am_look : ∀ (ps : List (Int × Int)) (d x : Int), (∃ q ∈ ps, q.1 = x ∧ Op.lookupswitch.offset ps d x = q.2) ∨ ((∀ q ∈ ps, q.1 ≠ x) ∧ Op.lookupswitch.offset ps d x = d)
  | [], d, x => Or.inr ⟨fun q hq => absurd hq List.not_mem_nil, rfl⟩
  | (a, b) :: r, d, x => by
    rw [Op.lookupswitch.offset_cons]
    by_cases h : a = x
    · subst h
      exact Or.inl ⟨(a, b), List.mem_cons_self, rfl, by simp⟩
    · rcases am_look r d x with ⟨q, h1, h2, h3⟩ | ⟨h1, h2⟩
      · refine Or.inl ⟨q, List.mem_cons_of_mem _ h1, h2, ?_⟩
        rw [if_neg (by first | exact h | exact fun z => h z.symm), h3]
      · refine Or.inr ⟨fun q hq => ?_, ?_⟩
        · rcases List.mem_cons.mp hq with rfl | hq
          · exact h
          · exact h1 q hq
        · rw [if_neg (by first | exact h | exact fun z => h z.symm), h2]
section AMK
variable {l : Launch} {y : Nat} {Q : tQ} {u w pc : Nat} {ls : am_ls} {st : List am_V} {σ : tI} {τ : tL} {ρ : tR} {cn : tN} {ln : tM}
set_option maxHeartbeats 4000000 in
theorem am_sw_table {dflt lo hi : Int} {offs : Array Int} {len a : Nat} {x : Int32} {sl : List (Int32 × Nat)} {st : List am_V} (hd : decode (am_cb y) pc = .ok (.tableswitch dflt lo hi offs, len)) (h1 : (pc : Int) + dflt = a) (h2 : sl.map (fun q => (q.1.toInt, (q.2 : Int))) = (List.range offs.size).map (fun (k : Nat) => (lo + (k : Int), (pc : Int) + offs.getD k 0))) (h3 : hi = lo + offs.size - 1)
    (K1 : ∀ q ∈ sl, x = q.1 → am_G l y Q u w q.2 ls st σ τ ρ cn ln) (K2 : (∀ q ∈ sl, x ≠ q.1) → am_G l y Q u w a ls st σ τ ρ cn ln) : am_G l y Q u w pc ls (.inl x :: st) σ τ ρ cn ln := by
  by_cases hx : ∃ q ∈ sl, x = q.1
  · obtain ⟨q, hq, hxq⟩ := hx
    have hm : (q.1.toInt, (q.2 : Int)) ∈ (List.range offs.size).map (fun (k : Nat) => (lo + (k : Int), (pc : Int) + offs.getD k 0)) := by rw [← h2]; exact List.mem_map.mpr ⟨q, hq, rfl⟩
    obtain ⟨k, hk, hkk⟩ := List.mem_map.mp hm
    rw [List.mem_range] at hk
    simp only [Prod.mk.injEq] at hkk
    have K := K1 q hq hxq
    subst hxq
    intro p e s m args below meth cc D ca ad0 L0 A ad L H locs lsA hX hL hY hS hl hVl hV
    exact lv_tableIn hX.1 hX.2.1 hd (by omega) (by omega) (off := offs.getD k 0) (by rw [show (q.1.toInt - lo).toNat = k by omega]; simp [Array.getD, hk]) hkk.2 (K p e s m args below meth cc D ca ad0 L0 A ad L H locs lsA hX hL hY hS hl hVl hV.2)
  · have K := K2 (fun q hq e => hx ⟨q, hq, e⟩)
    have hout : x.toInt < lo ∨ hi < x.toInt := by
      by_cases h4 : x.toInt < lo
      · exact Or.inl h4
      · by_cases h5 : hi < x.toInt
        · exact Or.inr h5
        · exfalso
          have hk : (x.toInt - lo).toNat < offs.size := by omega
          have hm : (lo + (((x.toInt - lo).toNat : Nat) : Int), (pc : Int) + offs.getD (x.toInt - lo).toNat 0) ∈ sl.map (fun q => (q.1.toInt, (q.2 : Int))) := by
            rw [h2]
            exact List.mem_map.mpr ⟨_, List.mem_range.mpr hk, rfl⟩
          obtain ⟨q, hq, he⟩ := List.mem_map.mp hm
          simp only [Prod.mk.injEq] at he
          exact hx ⟨q, hq, Int32.toInt_inj.mp (by omega)⟩
    intro p e s m args below meth cc D ca ad0 L0 A ad L H locs lsA hX hL hY hS hl hVl hV
    exact lv_tableOut hX.1 hX.2.1 hd hout h1 (K p e s m args below meth cc D ca ad0 L0 A ad L H locs lsA hX hL hY hS hl hVl hV.2)
set_option maxHeartbeats 4000000 in
theorem am_sw_look {dflt : Int} {ps : Array (Int × Int)} {len a : Nat} {x : Int32} {sl : List (Int32 × Nat)} {st : List am_V} (hd : decode (am_cb y) pc = .ok (.lookupswitch dflt ps, len)) (h1 : (pc : Int) + dflt = a) (h2 : sl.map (fun q => (q.1.toInt, (q.2 : Int))) = ps.toList.map (fun q => (q.1, (pc : Int) + q.2))) (h3 : (ps.toList.zip (ps.toList.drop 1)).all (fun (a, next) => a.1 < next.1) = true)
    (K1 : ∀ q ∈ sl, x = q.1 → am_G l y Q u w q.2 ls st σ τ ρ cn ln) (K2 : (∀ q ∈ sl, x ≠ q.1) → am_G l y Q u w a ls st σ τ ρ cn ln) : am_G l y Q u w pc ls (.inl x :: st) σ τ ρ cn ln := by
  rcases am_look ps.toList dflt x.toInt with ⟨q, hq, hqx, hoff⟩ | ⟨hn, hoff⟩
  · have hm : (q.1, (pc : Int) + q.2) ∈ sl.map (fun q => (q.1.toInt, (q.2 : Int))) := by rw [h2]; exact List.mem_map.mpr ⟨q, hq, rfl⟩
    obtain ⟨r, hr, he⟩ := List.mem_map.mp hm
    simp only [Prod.mk.injEq] at he
    have K := K1 r hr (Int32.toInt_inj.mp (by rw [he.1, hqx]))
    intro p e s m args below meth cc D ca ad0 L0 A ad L H locs lsA hX hL hY hS hl hVl hV
    exact lv_lookup hX.1 hX.2.1 hd h3 hoff he.2.symm (K p e s m args below meth cc D ca ad0 L0 A ad L H locs lsA hX hL hY hS hl hVl hV.2)
  · have K := K2 (fun r hr e => by
      have hm : (r.1.toInt, (r.2 : Int)) ∈ ps.toList.map (fun q => (q.1, (pc : Int) + q.2)) := by rw [← h2]; exact List.mem_map.mpr ⟨r, hr, rfl⟩
      obtain ⟨q, hq, he⟩ := List.mem_map.mp hm
      simp only [Prod.mk.injEq] at he
      exact hn q hq (by rw [he.1, e]))
    intro p e s m args below meth cc D ca ad0 L0 A ad L H locs lsA hX hL hY hS hl hVl hV
    exact lv_lookup hX.1 hX.2.1 hd h3 hoff h1 (K p e s m args below meth cc D ca ad0 L0 A ad L H locs lsA hX hL hY hS hl hVl hV.2)
set_option maxHeartbeats 16000000 in
theorem am_step_ok {nx : Nat → am_ls → List am_V → Prop} {nc : am_C → Nat → List am_V → Prop} {nu : Nat → List am_V → tI → tL → tR → Prop} {ns : am_C → Nat → List am_V → tI → tL → tR → Prop} {na : am_C → Nat → Nat → List am_V → tI → tL → tR → tN → tM → Prop} {br : am_C → Nat → Nat → List am_V → Prop} {sw : Int32 → List (Int32 × Nat) → Nat → List am_V → Prop} {ot : Prop}
    {i : Instr} {len n a b c d : Nat} {v : am_V} {sl : List (Int32 × Nat)} (h : am_step False nx nc nu ns na br sw ot i n a b d v sl ls st σ τ ρ cn ln) (hck : am_ck y pc (i, len, n, a, b, c, d, v, sl) = true)
    (hnx : ∀ pc2 ls2 st2, nx pc2 ls2 st2 → am_G l y Q u w pc2 ls2 st2 σ τ ρ cn ln)
    (hnc : ∀ c pc2 st2, nc c pc2 st2 → c.1 ∧ am_G l y Q u w pc2 ls st2 σ τ ρ cn ln)
    (hnu : ∀ pc2 st2 σ2 τ2 ρ2, nu pc2 st2 σ2 τ2 ρ2 → am_G l y Q u w pc2 ls st2 σ2 τ2 ρ2 cn ln)
    (hns : ∀ c pc2 st2 σ2 τ2 ρ2, ns c pc2 st2 σ2 τ2 ρ2 → c.1 ∧ am_G l y Q u w pc2 ls st2 σ2 τ2 ρ2 cn ln)
    (hna : ∀ c k pc2 st2 σ2 τ2 ρ2 cn2 ln2, na c k pc2 st2 σ2 τ2 ρ2 cn2 ln2 → c.1 ∧ u + 1 ≤ (am_rm y).cells ∧ w + k ≤ (am_rm y).slots ∧ am_G l y Q (u + 1) (w + k) pc2 ls st2 σ2 τ2 ρ2 cn2 ln2)
    (hbr : ∀ c p1 p2 st2, br c p1 p2 st2 → (c.1 → am_G l y Q u w p1 ls st2 σ τ ρ cn ln) ∧ (¬ c.1 → am_G l y Q u w p2 ls st2 σ τ ρ cn ln))
    (hsw : ∀ x sl d st2, sw x sl d st2 → (∀ q ∈ sl, x = q.1 → am_G l y Q u w q.2 ls st2 σ τ ρ cn ln) ∧ ((∀ q ∈ sl, x ≠ q.1) → am_G l y Q u w d ls st2 σ τ ρ cn ln))
    (hot : ot → am_G l y Q u w pc ls st σ τ ρ cn ln) : am_G l y Q u w pc ls st σ τ ρ cn ln := by
  obtain ⟨hd, hn, hk⟩ := am_ck_inv hck
  subst hn
  cases i
  case iconst k =>
    simp only [am_cki, Bool.and_eq_true, decide_eq_true_eq] at hk
    obtain ⟨hk1, rfl⟩ := hk
    obtain rfl := am_beq hk1
    have K := hnx _ _ _ h
    intro p e s m args below meth cc D ca ad0 L0 A ad L H locs lsA hX hL hY hS hl hVl hV
    exact lv_iconst hX.1 hX.2.1 hd rfl (K p e s m args below meth cc D ca ad0 L0 A ad L H locs lsA hX hL hY hS hl hVl ⟨trivial, hV⟩)
  case bipush k =>
    simp only [am_cki, Bool.and_eq_true, decide_eq_true_eq] at hk
    obtain ⟨hk1, rfl⟩ := hk
    obtain rfl := am_beq hk1
    have K := hnx _ _ _ h
    intro p e s m args below meth cc D ca ad0 L0 A ad L H locs lsA hX hL hY hS hl hVl hV
    exact lv_bipush hX.1 hX.2.1 hd rfl (K p e s m args below meth cc D ca ad0 L0 A ad L H locs lsA hX hL hY hS hl hVl ⟨trivial, hV⟩)
  case sipush k =>
    simp only [am_cki, Bool.and_eq_true, decide_eq_true_eq] at hk
    obtain ⟨hk1, rfl⟩ := hk
    obtain rfl := am_beq hk1
    have K := hnx _ _ _ h
    intro p e s m args below meth cc D ca ad0 L0 A ad L H locs lsA hX hL hY hS hl hVl hV
    exact lv_sipush hX.1 hX.2.1 hd rfl (K p e s m args below meth cc D ca ad0 L0 A ad L H locs lsA hX hL hY hS hl hVl ⟨trivial, hV⟩)
  case lconst k =>
    simp only [am_cki, Bool.and_eq_true, decide_eq_true_eq] at hk
    obtain ⟨hk1, rfl⟩ := hk
    obtain rfl := am_beq hk1
    have K := hnx _ _ _ h
    intro p e s m args below meth cc D ca ad0 L0 A ad L H locs lsA hX hL hY hS hl hVl hV
    exact lv_lconst hX.1 hX.2.1 hd rfl (K p e s m args below meth cc D ca ad0 L0 A ad L H locs lsA hX hL hY hS hl hVl ⟨trivial, hV⟩)
  case aconst_null =>
    simp only [am_cki, Bool.and_eq_true, decide_eq_true_eq] at hk
    obtain ⟨hk1, rfl⟩ := hk
    obtain rfl := am_beq hk1
    have K := hnx _ _ _ h
    intro p e s m args below meth cc D ca ad0 L0 A ad L H locs lsA hX hL hY hS hl hVl hV
    exact lv_null hX.1 hX.2.1 hd (K p e s m args below meth cc D ca ad0 L0 A ad L H locs lsA hX hL hY hS hl hVl ⟨trivial, hV⟩)
  case ldc k =>
    have K := hnx _ _ _ h
    rcases v with g | g | g
    · simp only [am_cki, Bool.and_eq_true] at hk
      obtain rfl := am_beq hk.1
      have hw := am_has_in hk.2
      intro p e s m args below meth cc D ca ad0 L0 A ad L H locs lsA hX hL hY hS hl hVl hV
      exact lv_ldc hX.1 hX.2.1 hX.2.2.2.2.2.1 (am_word hX.2.2.2.2.1 hw) hd (K p e s m args below meth cc D ca ad0 L0 A ad L H locs lsA hX hL hY hS hl hVl ⟨trivial, hV⟩)
    · simp [am_cki] at hk
    · simp [am_cki] at hk
  case ldc_w k =>
    have K := hnx _ _ _ h
    rcases v with g | g | g
    · simp only [am_cki, Bool.and_eq_true] at hk
      obtain rfl := am_beq hk.1
      have hw := am_has_in hk.2
      intro p e s m args below meth cc D ca ad0 L0 A ad L H locs lsA hX hL hY hS hl hVl hV
      exact lv_ldcw hX.1 hX.2.1 hX.2.2.2.2.2.1 (am_word hX.2.2.2.2.1 hw) hd (K p e s m args below meth cc D ca ad0 L0 A ad L H locs lsA hX hL hY hS hl hVl ⟨trivial, hV⟩)
    · simp [am_cki] at hk
    · simp [am_cki] at hk
  case ldc2_w k =>
    have K := hnx _ _ _ h
    rcases v with g | g | g
    · simp [am_cki] at hk
    · simp only [am_cki, Bool.and_eq_true] at hk
      obtain rfl := am_beq hk.1
      have hw := am_has_in hk.2
      intro p e s m args below meth cc D ca ad0 L0 A ad L H locs lsA hX hL hY hS hl hVl hV
      exact lv_ldc2 hX.1 hX.2.1 hX.2.2.2.2.2.1 (am_word hX.2.2.2.2.1 hw) hd (K p e s m args below meth cc D ca ad0 L0 A ad L H locs lsA hX hL hY hS hl hVl ⟨trivial, hV⟩)
    · simp [am_cki] at hk
  case iload_n k =>
    obtain rfl := am_beq hk
    obtain ⟨x, hg, h⟩ := am_lI_inv h
    have K := hnx _ _ _ h
    intro p e s m args below meth cc D ca ad0 L0 A ad L H locs lsA hX hL hY hS hl hVl hV
    exact lv_iload_n hX.1 hX.2.1 hd rfl (am_lg_at hl hg) (K p e s m args below meth cc D ca ad0 L0 A ad L H locs lsA hX hL hY hS hl hVl ⟨am_lg_V hVl hg, hV⟩)
  case iload k =>
    obtain rfl := am_beq hk
    obtain ⟨x, hg, h⟩ := am_lI_inv h
    have K := hnx _ _ _ h
    intro p e s m args below meth cc D ca ad0 L0 A ad L H locs lsA hX hL hY hS hl hVl hV
    exact lv_iload hX.1 hX.2.1 hd (am_lg_at hl hg) (K p e s m args below meth cc D ca ad0 L0 A ad L H locs lsA hX hL hY hS hl hVl ⟨am_lg_V hVl hg, hV⟩)
  case lload_n k =>
    obtain rfl := am_beq hk
    obtain ⟨x, hg, h⟩ := am_lL_inv h
    have K := hnx _ _ _ h
    intro p e s m args below meth cc D ca ad0 L0 A ad L H locs lsA hX hL hY hS hl hVl hV
    exact lv_lload_n hX.1 hX.2.1 hd rfl (am_lg_at hl hg) (K p e s m args below meth cc D ca ad0 L0 A ad L H locs lsA hX hL hY hS hl hVl ⟨am_lg_V hVl hg, hV⟩)
  case lload k =>
    obtain rfl := am_beq hk
    obtain ⟨x, hg, h⟩ := am_lL_inv h
    have K := hnx _ _ _ h
    intro p e s m args below meth cc D ca ad0 L0 A ad L H locs lsA hX hL hY hS hl hVl hV
    exact lv_lload hX.1 hX.2.1 hd (am_lg_at hl hg) (K p e s m args below meth cc D ca ad0 L0 A ad L H locs lsA hX hL hY hS hl hVl ⟨am_lg_V hVl hg, hV⟩)
  case aload_n k =>
    obtain rfl := am_beq hk
    obtain ⟨x, x2, hg, h⟩ := am_lR_inv h
    have K := hnx _ _ _ h
    intro p e s m args below meth cc D ca ad0 L0 A ad L H locs lsA hX hL hY hS hl hVl hV
    exact lv_aload_n hX.1 hX.2.1 hd rfl (am_lg_at hl hg) (K p e s m args below meth cc D ca ad0 L0 A ad L H locs lsA hX hL hY hS hl hVl ⟨am_lg_V hVl hg, hV⟩)
  case aload k =>
    obtain rfl := am_beq hk
    obtain ⟨x, x2, hg, h⟩ := am_lR_inv h
    have K := hnx _ _ _ h
    intro p e s m args below meth cc D ca ad0 L0 A ad L H locs lsA hX hL hY hS hl hVl hV
    exact lv_aload hX.1 hX.2.1 hd (am_lg_at hl hg) (K p e s m args below meth cc D ca ad0 L0 A ad L H locs lsA hX hL hY hS hl hVl ⟨am_lg_V hVl hg, hV⟩)
  case istore_n k =>
    simp only [am_cki, Bool.and_eq_true] at hk
    obtain rfl := am_beq hk.1
    obtain ⟨x, st1, rfl, h⟩ := am_pI_inv h
    have K := hnx _ _ _ h
    intro p e s m args below meth cc D ca ad0 L0 A ad L H locs lsA hX hL hY hS hl hVl hV
    exact lv_istore_n hX.1 hX.2.1 hd rfl hl (Nat.le_of_ble_eq_true hk.2) (am_lc_st1 (v := .inl x)) (fun ls2 hl2 => K p e s m args below meth cc D ca ad0 L0 A ad L H locs ls2 hX hL hY hS hl2 ⟨hV.1, am_Vl_filter _ hVl⟩ hV.2)
  case istore k =>
    simp only [am_cki, Bool.and_eq_true] at hk
    obtain rfl := am_beq hk.1
    obtain ⟨x, st1, rfl, h⟩ := am_pI_inv h
    have K := hnx _ _ _ h
    intro p e s m args below meth cc D ca ad0 L0 A ad L H locs lsA hX hL hY hS hl hVl hV
    exact lv_istore hX.1 hX.2.1 hd hl (Nat.le_of_ble_eq_true hk.2) (am_lc_st1 (v := .inl x)) (fun ls2 hl2 => K p e s m args below meth cc D ca ad0 L0 A ad L H locs ls2 hX hL hY hS hl2 ⟨hV.1, am_Vl_filter _ hVl⟩ hV.2)
  case astore_n k =>
    simp only [am_cki, Bool.and_eq_true] at hk
    obtain rfl := am_beq hk.1
    obtain ⟨x, x2, st1, rfl, h⟩ := am_pR_inv h
    have K := hnx _ _ _ h
    intro p e s m args below meth cc D ca ad0 L0 A ad L H locs lsA hX hL hY hS hl hVl hV
    exact lv_astore_n hX.1 hX.2.1 hd rfl hl (Nat.le_of_ble_eq_true hk.2) (am_lc_st1 (v := .inr (.inr (some (x, x2))))) (fun ls2 hl2 => K p e s m args below meth cc D ca ad0 L0 A ad L H locs ls2 hX hL hY hS hl2 ⟨hV.1, am_Vl_filter _ hVl⟩ hV.2)
  case astore k =>
    simp only [am_cki, Bool.and_eq_true] at hk
    obtain rfl := am_beq hk.1
    obtain ⟨x, x2, st1, rfl, h⟩ := am_pR_inv h
    have K := hnx _ _ _ h
    intro p e s m args below meth cc D ca ad0 L0 A ad L H locs lsA hX hL hY hS hl hVl hV
    exact lv_astore hX.1 hX.2.1 hd hl (Nat.le_of_ble_eq_true hk.2) (am_lc_st1 (v := .inr (.inr (some (x, x2))))) (fun ls2 hl2 => K p e s m args below meth cc D ca ad0 L0 A ad L H locs ls2 hX hL hY hS hl2 ⟨hV.1, am_Vl_filter _ hVl⟩ hV.2)
  case lstore_n k =>
    simp only [am_cki, Bool.and_eq_true] at hk
    obtain rfl := am_beq hk.1
    obtain ⟨x, st1, rfl, h⟩ := am_pL_inv h
    have K := hnx _ _ _ h
    intro p e s m args below meth cc D ca ad0 L0 A ad L H locs lsA hX hL hY hS hl hVl hV
    exact lv_lstore_n hX.1 hX.2.1 hd rfl hl (Nat.le_of_ble_eq_true hk.2) (am_lc_st2 (v := .inr (.inl x))) (fun ls2 hl2 => K p e s m args below meth cc D ca ad0 L0 A ad L H locs ls2 hX hL hY hS hl2 ⟨hV.1, am_Vl_filter _ hVl⟩ hV.2)
  case lstore k =>
    simp only [am_cki, Bool.and_eq_true] at hk
    obtain rfl := am_beq hk.1
    obtain ⟨x, st1, rfl, h⟩ := am_pL_inv h
    have K := hnx _ _ _ h
    intro p e s m args below meth cc D ca ad0 L0 A ad L H locs lsA hX hL hY hS hl hVl hV
    exact lv_lstore hX.1 hX.2.1 hd hl (Nat.le_of_ble_eq_true hk.2) (am_lc_st2 (v := .inr (.inl x))) (fun ls2 hl2 => K p e s m args below meth cc D ca ad0 L0 A ad L H locs ls2 hX hL hY hS hl2 ⟨hV.1, am_Vl_filter _ hVl⟩ hV.2)
  case iinc k g =>
    simp only [am_cki, Bool.and_eq_true, decide_eq_true_eq] at hk
    obtain ⟨hk1, rfl, hk3⟩ := hk
    obtain rfl := am_beq hk1
    obtain ⟨x, hg, h⟩ := am_lI_inv h
    have K := hnx _ _ _ h
    intro p e s m args below meth cc D ca ad0 L0 A ad L H locs lsA hX hL hY hS hl hVl hV
    obtain ⟨k0, hk0⟩ := List.getElem?_of_mem (am_lg_mem (ad := ad) hg)
    exact lv_iinc hX.1 hX.2.1 hd hl hk0 rfl (Nat.le_of_ble_eq_true hk3) (am_lc_st1 (v := .inl (x + Int32.ofInt g))) (fun ls2 hl2 => K p e s m args below meth cc D ca ad0 L0 A ad L H locs ls2 hX hL hY hS hl2 ⟨trivial, am_Vl_filter _ hVl⟩ hV)
  case iadd =>
    obtain rfl := am_beq hk
    obtain ⟨x2, st1, rfl, h⟩ := am_pI_inv h
    obtain ⟨x, st2, rfl, h⟩ := am_pI_inv h
    have K := hnx _ _ _ h
    intro p e s m args below meth cc D ca ad0 L0 A ad L H locs lsA hX hL hY hS hl hVl hV
    exact lv_iadd hX.1 hX.2.1 hd (K p e s m args below meth cc D ca ad0 L0 A ad L H locs lsA hX hL hY hS hl hVl ⟨trivial, hV.2.2⟩)
  case isub =>
    obtain rfl := am_beq hk
    obtain ⟨x2, st1, rfl, h⟩ := am_pI_inv h
    obtain ⟨x, st2, rfl, h⟩ := am_pI_inv h
    have K := hnx _ _ _ h
    intro p e s m args below meth cc D ca ad0 L0 A ad L H locs lsA hX hL hY hS hl hVl hV
    exact lv_isub hX.1 hX.2.1 hd (K p e s m args below meth cc D ca ad0 L0 A ad L H locs lsA hX hL hY hS hl hVl ⟨trivial, hV.2.2⟩)
  case imul =>
    obtain rfl := am_beq hk
    obtain ⟨x2, st1, rfl, h⟩ := am_pI_inv h
    obtain ⟨x, st2, rfl, h⟩ := am_pI_inv h
    have K := hnx _ _ _ h
    intro p e s m args below meth cc D ca ad0 L0 A ad L H locs lsA hX hL hY hS hl hVl hV
    exact lv_imul hX.1 hX.2.1 hd (K p e s m args below meth cc D ca ad0 L0 A ad L H locs lsA hX hL hY hS hl hVl ⟨trivial, hV.2.2⟩)
  case iand =>
    obtain rfl := am_beq hk
    obtain ⟨x2, st1, rfl, h⟩ := am_pI_inv h
    obtain ⟨x, st2, rfl, h⟩ := am_pI_inv h
    have K := hnx _ _ _ h
    intro p e s m args below meth cc D ca ad0 L0 A ad L H locs lsA hX hL hY hS hl hVl hV
    exact lv_iand hX.1 hX.2.1 hd (K p e s m args below meth cc D ca ad0 L0 A ad L H locs lsA hX hL hY hS hl hVl ⟨trivial, hV.2.2⟩)
  case ior =>
    obtain rfl := am_beq hk
    obtain ⟨x2, st1, rfl, h⟩ := am_pI_inv h
    obtain ⟨x, st2, rfl, h⟩ := am_pI_inv h
    have K := hnx _ _ _ h
    intro p e s m args below meth cc D ca ad0 L0 A ad L H locs lsA hX hL hY hS hl hVl hV
    exact lv_ior hX.1 hX.2.1 hd (K p e s m args below meth cc D ca ad0 L0 A ad L H locs lsA hX hL hY hS hl hVl ⟨trivial, hV.2.2⟩)
  case ixor =>
    obtain rfl := am_beq hk
    obtain ⟨x2, st1, rfl, h⟩ := am_pI_inv h
    obtain ⟨x, st2, rfl, h⟩ := am_pI_inv h
    have K := hnx _ _ _ h
    intro p e s m args below meth cc D ca ad0 L0 A ad L H locs lsA hX hL hY hS hl hVl hV
    exact lv_ixor hX.1 hX.2.1 hd (K p e s m args below meth cc D ca ad0 L0 A ad L H locs lsA hX hL hY hS hl hVl ⟨trivial, hV.2.2⟩)
  case ishl =>
    obtain rfl := am_beq hk
    obtain ⟨x2, st1, rfl, h⟩ := am_pI_inv h
    obtain ⟨x, st2, rfl, h⟩ := am_pI_inv h
    have K := hnx _ _ _ h
    intro p e s m args below meth cc D ca ad0 L0 A ad L H locs lsA hX hL hY hS hl hVl hV
    exact lv_ishl hX.1 hX.2.1 hd (K p e s m args below meth cc D ca ad0 L0 A ad L H locs lsA hX hL hY hS hl hVl ⟨trivial, hV.2.2⟩)
  case ishr =>
    obtain rfl := am_beq hk
    obtain ⟨x2, st1, rfl, h⟩ := am_pI_inv h
    obtain ⟨x, st2, rfl, h⟩ := am_pI_inv h
    have K := hnx _ _ _ h
    intro p e s m args below meth cc D ca ad0 L0 A ad L H locs lsA hX hL hY hS hl hVl hV
    exact lv_ishr hX.1 hX.2.1 hd (K p e s m args below meth cc D ca ad0 L0 A ad L H locs lsA hX hL hY hS hl hVl ⟨trivial, hV.2.2⟩)
  case iushr =>
    obtain rfl := am_beq hk
    obtain ⟨x2, st1, rfl, h⟩ := am_pI_inv h
    obtain ⟨x, st2, rfl, h⟩ := am_pI_inv h
    have K := hnx _ _ _ h
    intro p e s m args below meth cc D ca ad0 L0 A ad L H locs lsA hX hL hY hS hl hVl hV
    exact lv_iushr hX.1 hX.2.1 hd rfl (K p e s m args below meth cc D ca ad0 L0 A ad L H locs lsA hX hL hY hS hl hVl ⟨trivial, hV.2.2⟩)
  case ladd =>
    obtain rfl := am_beq hk
    obtain ⟨x2, st1, rfl, h⟩ := am_pL_inv h
    obtain ⟨x, st2, rfl, h⟩ := am_pL_inv h
    have K := hnx _ _ _ h
    intro p e s m args below meth cc D ca ad0 L0 A ad L H locs lsA hX hL hY hS hl hVl hV
    exact lv_ladd hX.1 hX.2.1 hd (K p e s m args below meth cc D ca ad0 L0 A ad L H locs lsA hX hL hY hS hl hVl ⟨trivial, hV.2.2⟩)
  case lsub =>
    obtain rfl := am_beq hk
    obtain ⟨x2, st1, rfl, h⟩ := am_pL_inv h
    obtain ⟨x, st2, rfl, h⟩ := am_pL_inv h
    have K := hnx _ _ _ h
    intro p e s m args below meth cc D ca ad0 L0 A ad L H locs lsA hX hL hY hS hl hVl hV
    exact lv_lsub hX.1 hX.2.1 hd (K p e s m args below meth cc D ca ad0 L0 A ad L H locs lsA hX hL hY hS hl hVl ⟨trivial, hV.2.2⟩)
  case lmul =>
    obtain rfl := am_beq hk
    obtain ⟨x2, st1, rfl, h⟩ := am_pL_inv h
    obtain ⟨x, st2, rfl, h⟩ := am_pL_inv h
    have K := hnx _ _ _ h
    intro p e s m args below meth cc D ca ad0 L0 A ad L H locs lsA hX hL hY hS hl hVl hV
    exact lv_lmul hX.1 hX.2.1 hd (K p e s m args below meth cc D ca ad0 L0 A ad L H locs lsA hX hL hY hS hl hVl ⟨trivial, hV.2.2⟩)
  case lcmp =>
    obtain rfl := am_beq hk
    obtain ⟨x2, st1, rfl, h⟩ := am_pL_inv h
    obtain ⟨x, st2, rfl, h⟩ := am_pL_inv h
    have K := hnx _ _ _ h
    intro p e s m args below meth cc D ca ad0 L0 A ad L H locs lsA hX hL hY hS hl hVl hV
    exact W.lcmp hX.1 hX.2.1 hd (K p e s m args below meth cc D ca ad0 L0 A ad L H locs lsA hX hL hY hS hl hVl ⟨trivial, hV.2.2⟩)
  case idiv =>
    obtain rfl := am_beq hk
    obtain ⟨x2, st1, rfl, h⟩ := am_pI_inv h
    obtain ⟨x, st2, rfl, h⟩ := am_pI_inv h
    obtain ⟨hc, K⟩ := hnc _ _ _ h
    intro p e s m args below meth cc D ca ad0 L0 A ad L H locs lsA hX hL hY hS hl hVl hV
    exact lv_idiv hX.1 hX.2.1 hd hc (K p e s m args below meth cc D ca ad0 L0 A ad L H locs lsA hX hL hY hS hl hVl ⟨trivial, hV.2.2⟩)
  case irem =>
    obtain rfl := am_beq hk
    obtain ⟨x2, st1, rfl, h⟩ := am_pI_inv h
    obtain ⟨x, st2, rfl, h⟩ := am_pI_inv h
    obtain ⟨hc, K⟩ := hnc _ _ _ h
    intro p e s m args below meth cc D ca ad0 L0 A ad L H locs lsA hX hL hY hS hl hVl hV
    exact lv_irem hX.1 hX.2.1 hd hc (K p e s m args below meth cc D ca ad0 L0 A ad L H locs lsA hX hL hY hS hl hVl ⟨trivial, hV.2.2⟩)
  case ldiv =>
    obtain rfl := am_beq hk
    obtain ⟨x2, st1, rfl, h⟩ := am_pL_inv h
    obtain ⟨x, st2, rfl, h⟩ := am_pL_inv h
    obtain ⟨hc, K⟩ := hnc _ _ _ h
    intro p e s m args below meth cc D ca ad0 L0 A ad L H locs lsA hX hL hY hS hl hVl hV
    exact lv_ldiv hX.1 hX.2.1 hd hc (K p e s m args below meth cc D ca ad0 L0 A ad L H locs lsA hX hL hY hS hl hVl ⟨trivial, hV.2.2⟩)
  case lrem =>
    obtain rfl := am_beq hk
    obtain ⟨x2, st1, rfl, h⟩ := am_pL_inv h
    obtain ⟨x, st2, rfl, h⟩ := am_pL_inv h
    obtain ⟨hc, K⟩ := hnc _ _ _ h
    intro p e s m args below meth cc D ca ad0 L0 A ad L H locs lsA hX hL hY hS hl hVl hV
    exact lv_lrem hX.1 hX.2.1 hd hc (K p e s m args below meth cc D ca ad0 L0 A ad L H locs lsA hX hL hY hS hl hVl ⟨trivial, hV.2.2⟩)
  case i2l =>
    obtain rfl := am_beq hk
    obtain ⟨x, st1, rfl, h⟩ := am_pI_inv h
    have K := hnx _ _ _ h
    intro p e s m args below meth cc D ca ad0 L0 A ad L H locs lsA hX hL hY hS hl hVl hV
    exact lv_i2l hX.1 hX.2.1 hd rfl (K p e s m args below meth cc D ca ad0 L0 A ad L H locs lsA hX hL hY hS hl hVl ⟨trivial, hV.2⟩)
  case i2b =>
    obtain rfl := am_beq hk
    obtain ⟨x, st1, rfl, h⟩ := am_pI_inv h
    have K := hnx _ _ _ h
    intro p e s m args below meth cc D ca ad0 L0 A ad L H locs lsA hX hL hY hS hl hVl hV
    exact lv_i2b hX.1 hX.2.1 hd rfl (K p e s m args below meth cc D ca ad0 L0 A ad L H locs lsA hX hL hY hS hl hVl ⟨trivial, hV.2⟩)
  case dup =>
    obtain rfl := am_beq hk
    simp only [am_step] at h
    obtain ⟨x, st1, rfl, hc, h⟩ := am_p1_inv h
    have K := hnx _ _ _ h
    intro p e s m args below meth cc D ca ad0 L0 A ad L H locs lsA hX hL hY hS hl hVl hV
    exact lv_dup hX.1 hX.2.1 hd (by rw [am_cv_cat]; exact hc) (K p e s m args below meth cc D ca ad0 L0 A ad L H locs lsA hX hL hY hS hl hVl ⟨hV.1, hV.1, hV.2⟩)
  case pop =>
    obtain rfl := am_beq hk
    simp only [am_step] at h
    obtain ⟨x, st1, rfl, hc, h⟩ := am_p1_inv h
    have K := hnx _ _ _ h
    intro p e s m args below meth cc D ca ad0 L0 A ad L H locs lsA hX hL hY hS hl hVl hV
    exact lv_pop hX.1 hX.2.1 hd (by rw [am_cv_cat]; exact hc) (K p e s m args below meth cc D ca ad0 L0 A ad L H locs lsA hX hL hY hS hl hVl hV.2)
  case dup2 =>
    obtain rfl := am_beq hk
    simp only [am_step] at h
    obtain ⟨x, st1, rfl, hc, h⟩ := am_p1_inv h
    obtain ⟨x2, st2, rfl, hc2, h⟩ := am_p1_inv h
    have K := hnx _ _ _ h
    intro p e s m args below meth cc D ca ad0 L0 A ad L H locs lsA hX hL hY hS hl hVl hV
    exact lv_dup2_11 hX.1 hX.2.1 hd (by rw [am_cv_cat]; exact hc) (by rw [am_cv_cat]; exact hc2) (K p e s m args below meth cc D ca ad0 L0 A ad L H locs lsA hX hL hY hS hl hVl ⟨hV.1, hV.2.1, hV.1, hV.2.1, hV.2.2⟩)
  case getfield x =>
    simp only [am_cki, Bool.and_eq_true] at hk
    obtain rfl := am_beq hk.1
    obtain ⟨k, o, st1, rfl, h⟩ := am_pR_inv h
    obtain ⟨hb, h⟩ := am_bif h
    refine am_getf hd hk.2 (am_beq hb) ?_
    cases h1 : Nat.beq d 1 with
    | true => rw [h1] at h; exact hnx _ _ _ h
    | false =>
      rw [h1] at h
      cases h2 : Nat.beq d 2 with
      | true => rw [h2] at h; exact hnx _ _ _ h
      | false => rw [h2] at h; exact hnx _ _ _ h
  case putfield x =>
    simp only [am_cki, Bool.and_eq_true] at hk
    obtain rfl := am_beq hk.1
    have hk := hk.2
    simp only [am_step] at h
    cases h1 : Nat.beq d 1 with
    | true =>
      rw [h1] at h
      have hA := h
      obtain ⟨x1, st1, rfl, hB⟩ := am_pL_inv hA
      obtain ⟨k, o, st2, rfl, hC⟩ := am_pR_inv hB
      obtain ⟨hb, hE⟩ := am_bif hC
      obtain rfl := am_beq hb
      have hd1 := am_beq h1
      subst hd1
      exact am_putf hd hk rfl (fun _ _ => rfl) (fun q hq => u3_ne τ hq) (fun _ _ => rfl) (fun _ _ => rfl) (fun j hj => u3_j τ x1 hj) (fun _ _ => rfl) (fun ad hdf => by unfold am_fv; rw [← hdf, u3_eq]; rfl) (fun ad ty hty => by cases ty <;> first | exact ⟨rfl, rfl⟩ | (cases hty)) (fun hv _ _ => hv) (hnu _ _ _ _ _ hE)
    | false =>
      rw [h1] at h
      cases h2 : Nat.beq d 2 with
      | true =>
        rw [h2] at h
        have hA := h
        obtain ⟨x1, st1, rfl, hB⟩ := am_pA_inv hA
        obtain ⟨k, o, st2, rfl, hC⟩ := am_pR_inv hB
        obtain ⟨hb, hE⟩ := am_bif hC
        obtain rfl := am_beq hb
        have hd1 := am_beq h2
        subst hd1
        exact am_putf hd hk rfl (fun _ _ => rfl) (fun _ _ => rfl) (fun q hq => u3_ne ρ hq) (fun _ _ => rfl) (fun _ _ => rfl) (fun j hj => u3_j ρ x1 hj) (fun ad hdf => by unfold am_fv; rw [← hdf, u3_eq]; exact am_cv_rf _) (fun ad ty hty => by cases x1 <;> cases ty <;> first | exact ⟨rfl, rfl⟩ | (cases hty)) (fun hv hx _ => am_VR_u3 hv (fun q hq => by subst hq; exact hx)) (hnu _ _ _ _ _ hE)
      | false =>
        rw [h2] at h
        cases h3 : Nat.beq d 3 with
        | true =>
          rw [h3] at h
          have hA := h
          obtain ⟨x1, st1, rfl, hB⟩ := am_pI_inv hA
          obtain ⟨k, o, st2, rfl, hC⟩ := am_pR_inv hB
          obtain ⟨hb, hE⟩ := am_bif hC
          obtain rfl := am_beq hb
          obtain ⟨hx, K⟩ := hns _ _ _ _ _ _ hE
          have hx : x1 = 0 ∨ x1 = 1 := hx
          have hd1 := am_beq h3
          subst hd1
          exact am_putf hd hk rfl (fun q hq => u3_ne σ hq) (fun _ _ => rfl) (fun _ _ => rfl) (fun j hj => u3_j σ x1 hj) (fun _ _ => rfl) (fun _ _ => rfl) (fun ad hdf => by unfold am_fv; rw [← hdf, u3_eq]; rfl) (fun ad ty hty => by rcases hx with rfl | rfl <;> cases ty <;> first | exact ⟨rfl, rfl⟩ | exact ⟨by decide +kernel, by decide +kernel⟩ | (cases hty)) (fun hv _ _ => hv) K
        | false =>
          rw [h3] at h
          skip
          have hA := h
          obtain ⟨x1, st1, rfl, hB⟩ := am_pI_inv hA
          obtain ⟨k, o, st2, rfl, hC⟩ := am_pR_inv hB
          obtain ⟨hb, hE⟩ := am_bif hC
          obtain rfl := am_beq hb
          have hd0 : d = 0 := by
            obtain ⟨C, T, N, -, -, -, -, hty, -⟩ := am_fk_inv hk
            cases hp : parseFieldDescriptor (T b).2.2.1 with
            | none => rw [hp] at hty; cases hty
            | some ty =>
              rw [hp] at hty
              cases ty <;> first | exact (am_beq hty : d = 0) | (have e : d = 1 := am_beq hty; subst e; exact absurd h1 (by decide)) | (have e : d = 2 := am_beq hty; subst e; exact absurd h2 (by decide)) | (have e : d = 3 := am_beq hty; subst e; exact absurd h3 (by decide)) | (cases hty)
          subst hd0
          exact am_putf hd hk rfl (fun q hq => u3_ne σ hq) (fun _ _ => rfl) (fun _ _ => rfl) (fun j hj => u3_j σ x1 hj) (fun _ _ => rfl) (fun _ _ => rfl) (fun ad hdf => by unfold am_fv; rw [← hdf, u3_eq]; rfl) (fun ad ty hty => by cases ty <;> first | exact ⟨rfl, rfl⟩ | (cases hty)) (fun hv _ _ => hv) (hnu _ _ _ _ _ hE)
  case iaload =>
    obtain rfl := am_beq hk
    obtain ⟨x, st1, rfl, h⟩ := am_pI_inv h
    obtain ⟨k, o, st2, rfl, h⟩ := am_pR_inv h
    obtain ⟨hb, h⟩ := am_bif h
    obtain ⟨hc, K⟩ := hnc _ _ _ h
    exact am_iald hd (am_beq hb) hc K
  case baload =>
    obtain rfl := am_beq hk
    obtain ⟨x, st1, rfl, h⟩ := am_pI_inv h
    obtain ⟨k, o, st2, rfl, h⟩ := am_pR_inv h
    obtain ⟨hb, h⟩ := am_bif h
    obtain ⟨hc, K⟩ := hnc _ _ _ h
    exact am_zald hd (am_beq hb) hc K
  case aaload =>
    obtain rfl := am_beq hk
    obtain ⟨x, st1, rfl, h⟩ := am_pI_inv h
    obtain ⟨k, o, st2, rfl, h⟩ := am_pR_inv h
    obtain ⟨hb, h⟩ := am_bif h
    rw [Bool.and_eq_true] at hb
    obtain ⟨hc, K⟩ := hnc _ _ _ h
    exact am_aald hd (Nat.le_of_ble_eq_true hb.1) (Nat.le_of_ble_eq_true hb.2) hc K
  case arraylength =>
    obtain rfl := am_beq hk
    obtain ⟨k, o, st2, rfl, h⟩ := am_pR_inv h
    obtain ⟨hb, h⟩ := am_bif h
    exact am_alen hd (Nat.le_of_ble_eq_true hb) (hnx _ _ _ h)
  case iastore =>
    obtain rfl := am_beq hk
    obtain ⟨g, st0, rfl, h⟩ := am_pI_inv h
    obtain ⟨x, st1, rfl, h⟩ := am_pI_inv h
    obtain ⟨k, o, st2, rfl, h⟩ := am_pR_inv h
    obtain ⟨hb, h⟩ := am_bif h
    obtain ⟨hc, K⟩ := hns _ _ _ _ _ _ h
    exact am_iast hd (am_beq hb) hc K
  case bastore =>
    obtain rfl := am_beq hk
    obtain ⟨g, st0, rfl, h⟩ := am_pI_inv h
    obtain ⟨x, st1, rfl, h⟩ := am_pI_inv h
    obtain ⟨k, o, st2, rfl, h⟩ := am_pR_inv h
    obtain ⟨hb, h⟩ := am_bif h
    obtain ⟨hc, K⟩ := hns _ _ _ _ _ _ h
    have hc : vp_in x (ln k o) ∧ (g = 0 ∨ g = 1) := hc
    exact am_zast hd (am_beq hb) hc.1 hc.2 K
  case aastore =>
    obtain rfl := am_beq hk
    obtain ⟨kv, ov, st0, rfl, h⟩ := am_pR_inv h
    obtain ⟨x, st1, rfl, h⟩ := am_pI_inv h
    obtain ⟨k, o, st2, rfl, h⟩ := am_pR_inv h
    obtain ⟨hb, h⟩ := am_bif h
    simp only [Bool.and_eq_true] at hb
    obtain ⟨hc, K⟩ := hns _ _ _ _ _ _ h
    exact am_aast hd (Nat.le_of_ble_eq_true hb.1.1) (Nat.le_of_ble_eq_true hb.1.2) (am_beq hb.2) hc K
  case new x =>
    simp only [am_cki, Bool.and_eq_true] at hk
    obtain rfl := am_beq hk.1
    have hk := hk.2
    obtain ⟨-, hu, hw, K⟩ := hna _ _ _ _ _ _ _ _ _ h
    split at hk
    · rename_i C T N hc
      rw [Bool.and_eq_true] at hk
      obtain rfl := am_beq hk.2
      exact am_newo (c := c) hd hc (am_has_in hk.1) hu hw K
    · cases hk
  case newarray t =>
    simp only [am_cki, Bool.and_eq_true] at hk
    obtain rfl := am_beq hk.1
    have hk := hk.2
    obtain ⟨x, st1, rfl, h⟩ := am_pI_inv h
    obtain ⟨hc, hu, hw, K⟩ := hna _ _ _ _ _ _ _ _ _ h
    cases t <;> first | exact am_newi hd (am_beq hk) hc hu hw K | exact am_newz hd (am_beq hk) hc hu hw K | (cases hk)
  case anewarray x =>
    simp only [am_cki, Bool.and_eq_true] at hk
    obtain rfl := am_beq hk.1
    obtain ⟨x1, st1, rfl, h⟩ := am_pI_inv h
    obtain ⟨hc, hu, hw, K⟩ := hna _ _ _ _ _ _ _ _ _ h
    exact am_newq hd (Nat.le_of_ble_eq_true hk.2.1) (Nat.le_of_ble_eq_true hk.2.2.1) (am_has_in hk.2.2.2) hc hu hw K
  case ifCond cd off =>
    simp only [am_cki, Bool.and_eq_true, decide_eq_true_eq] at hk
    obtain rfl := am_beq hk.1
    have ho := hk.2
    obtain ⟨x, st1, rfl, h⟩ := am_pI_inv h
    cases cd
    case eq =>
      obtain ⟨kt, kf⟩ := hbr _ _ _ _ h
      intro p e s m args below meth cc D ca ad0 L0 A ad L H locs lsA hX hL hY hS hl hVl hV
      exact lv_if_eq hX.1 hX.2.1 hd ho (fun hc => kt hc p e s m args below meth cc D ca ad0 L0 A ad L H locs lsA hX hL hY hS hl hVl hV.2) (fun hc => kf hc p e s m args below meth cc D ca ad0 L0 A ad L H locs lsA hX hL hY hS hl hVl hV.2)
    case ne =>
      obtain ⟨kt, kf⟩ := hbr _ _ _ _ h
      intro p e s m args below meth cc D ca ad0 L0 A ad L H locs lsA hX hL hY hS hl hVl hV
      exact lv_if_ne hX.1 hX.2.1 hd ho (fun hc => kf hc p e s m args below meth cc D ca ad0 L0 A ad L H locs lsA hX hL hY hS hl hVl hV.2) (fun hc => kt hc p e s m args below meth cc D ca ad0 L0 A ad L H locs lsA hX hL hY hS hl hVl hV.2)
    case lt =>
      obtain ⟨kt, kf⟩ := hbr _ _ _ _ h
      intro p e s m args below meth cc D ca ad0 L0 A ad L H locs lsA hX hL hY hS hl hVl hV
      exact lv_if_lt hX.1 hX.2.1 hd ho (fun hc => kt hc p e s m args below meth cc D ca ad0 L0 A ad L H locs lsA hX hL hY hS hl hVl hV.2) (fun hc => kf hc p e s m args below meth cc D ca ad0 L0 A ad L H locs lsA hX hL hY hS hl hVl hV.2)
    case ge =>
      obtain ⟨kt, kf⟩ := hbr _ _ _ _ h
      intro p e s m args below meth cc D ca ad0 L0 A ad L H locs lsA hX hL hY hS hl hVl hV
      exact lv_if_ge hX.1 hX.2.1 hd ho (fun hc => kt hc p e s m args below meth cc D ca ad0 L0 A ad L H locs lsA hX hL hY hS hl hVl hV.2) (fun hc => kf hc p e s m args below meth cc D ca ad0 L0 A ad L H locs lsA hX hL hY hS hl hVl hV.2)
    case gt =>
      obtain ⟨kt, kf⟩ := hbr _ _ _ _ h
      intro p e s m args below meth cc D ca ad0 L0 A ad L H locs lsA hX hL hY hS hl hVl hV
      exact lv_if_gt hX.1 hX.2.1 hd ho (fun hc => kt hc p e s m args below meth cc D ca ad0 L0 A ad L H locs lsA hX hL hY hS hl hVl hV.2) (fun hc => kf hc p e s m args below meth cc D ca ad0 L0 A ad L H locs lsA hX hL hY hS hl hVl hV.2)
    case le =>
      obtain ⟨kt, kf⟩ := hbr _ _ _ _ h
      intro p e s m args below meth cc D ca ad0 L0 A ad L H locs lsA hX hL hY hS hl hVl hV
      exact lv_if_le hX.1 hX.2.1 hd ho (fun hc => kt hc p e s m args below meth cc D ca ad0 L0 A ad L H locs lsA hX hL hY hS hl hVl hV.2) (fun hc => kf hc p e s m args below meth cc D ca ad0 L0 A ad L H locs lsA hX hL hY hS hl hVl hV.2)
  case if_icmp cd off =>
    simp only [am_cki, Bool.and_eq_true, decide_eq_true_eq] at hk
    obtain rfl := am_beq hk.1
    have ho := hk.2
    obtain ⟨x2, st1, rfl, h⟩ := am_pI_inv h
    obtain ⟨x, st2, rfl, h⟩ := am_pI_inv h
    cases cd
    case eq =>
      obtain ⟨kt, kf⟩ := hbr _ _ _ _ h
      intro p e s m args below meth cc D ca ad0 L0 A ad L H locs lsA hX hL hY hS hl hVl hV
      exact lv_icmp_eq hX.1 hX.2.1 hd ho (fun hc => kt hc p e s m args below meth cc D ca ad0 L0 A ad L H locs lsA hX hL hY hS hl hVl hV.2.2) (fun hc => kf hc p e s m args below meth cc D ca ad0 L0 A ad L H locs lsA hX hL hY hS hl hVl hV.2.2)
    case ne =>
      obtain ⟨kt, kf⟩ := hbr _ _ _ _ h
      intro p e s m args below meth cc D ca ad0 L0 A ad L H locs lsA hX hL hY hS hl hVl hV
      exact lv_icmp_ne hX.1 hX.2.1 hd ho (fun hc => kf hc p e s m args below meth cc D ca ad0 L0 A ad L H locs lsA hX hL hY hS hl hVl hV.2.2) (fun hc => kt hc p e s m args below meth cc D ca ad0 L0 A ad L H locs lsA hX hL hY hS hl hVl hV.2.2)
    case lt =>
      obtain ⟨kt, kf⟩ := hbr _ _ _ _ h
      intro p e s m args below meth cc D ca ad0 L0 A ad L H locs lsA hX hL hY hS hl hVl hV
      exact lv_icmp_lt hX.1 hX.2.1 hd ho (fun hc => kt hc p e s m args below meth cc D ca ad0 L0 A ad L H locs lsA hX hL hY hS hl hVl hV.2.2) (fun hc => kf hc p e s m args below meth cc D ca ad0 L0 A ad L H locs lsA hX hL hY hS hl hVl hV.2.2)
    case ge =>
      obtain ⟨kt, kf⟩ := hbr _ _ _ _ h
      intro p e s m args below meth cc D ca ad0 L0 A ad L H locs lsA hX hL hY hS hl hVl hV
      exact lv_icmp_ge hX.1 hX.2.1 hd ho (fun hc => kt hc p e s m args below meth cc D ca ad0 L0 A ad L H locs lsA hX hL hY hS hl hVl hV.2.2) (fun hc => kf hc p e s m args below meth cc D ca ad0 L0 A ad L H locs lsA hX hL hY hS hl hVl hV.2.2)
    case gt =>
      obtain ⟨kt, kf⟩ := hbr _ _ _ _ h
      intro p e s m args below meth cc D ca ad0 L0 A ad L H locs lsA hX hL hY hS hl hVl hV
      exact lv_icmp_gt hX.1 hX.2.1 hd ho (fun hc => kt hc p e s m args below meth cc D ca ad0 L0 A ad L H locs lsA hX hL hY hS hl hVl hV.2.2) (fun hc => kf hc p e s m args below meth cc D ca ad0 L0 A ad L H locs lsA hX hL hY hS hl hVl hV.2.2)
    case le =>
      obtain ⟨kt, kf⟩ := hbr _ _ _ _ h
      intro p e s m args below meth cc D ca ad0 L0 A ad L H locs lsA hX hL hY hS hl hVl hV
      exact lv_icmp_le hX.1 hX.2.1 hd ho (fun hc => kt hc p e s m args below meth cc D ca ad0 L0 A ad L H locs lsA hX hL hY hS hl hVl hV.2.2) (fun hc => kf hc p e s m args below meth cc D ca ad0 L0 A ad L H locs lsA hX hL hY hS hl hVl hV.2.2)
  case goto off =>
    simp only [am_cki, Bool.and_eq_true, decide_eq_true_eq] at hk
    obtain rfl := am_beq hk.1
    have ho := hk.2
    have K := hnx _ _ _ h
    intro p e s m args below meth cc D ca ad0 L0 A ad L H locs lsA hX hL hY hS hl hVl hV
    exact lv_goto hX.1 hX.2.1 hd ho (K p e s m args below meth cc D ca ad0 L0 A ad L H locs lsA hX hL hY hS hl hVl hV)
  case ifnull off =>
    simp only [am_cki, Bool.and_eq_true, decide_eq_true_eq] at hk
    obtain rfl := am_beq hk.1
    have ho := hk.2
    obtain ⟨r, st1, rfl, h⟩ := am_pA_inv h
    cases r with
    | none =>
      have K := hnx _ _ _ h
      intro p e s m args below meth cc D ca ad0 L0 A ad L H locs lsA hX hL hY hS hl hVl hV
      exact lv_ifnullN hX.1 hX.2.1 hd ho (K p e s m args below meth cc D ca ad0 L0 A ad L H locs lsA hX hL hY hS hl hVl hV.2)
    | some q =>
      have K := hnx _ _ _ h
      intro p e s m args below meth cc D ca ad0 L0 A ad L H locs lsA hX hL hY hS hl hVl hV
      exact lv_ifnull hX.1 hX.2.1 hd (K p e s m args below meth cc D ca ad0 L0 A ad L H locs lsA hX hL hY hS hl hVl hV.2)
  case tableswitch df lo hi offs =>
    simp only [am_cki, Bool.and_eq_true, decide_eq_true_eq] at hk
    obtain ⟨x, st1, rfl, h⟩ := am_pI_inv h
    obtain ⟨K1, K2⟩ := hsw _ _ _ _ h
    exact am_sw_table hd hk.1 hk.2.1 hk.2.2 K1 K2
  case lookupswitch df ps =>
    simp only [am_cki, Bool.and_eq_true, decide_eq_true_eq] at hk
    obtain ⟨x, st1, rfl, h⟩ := am_pI_inv h
    obtain ⟨K1, K2⟩ := hsw _ _ _ _ h
    exact am_sw_look hd hk.1 hk.2.1 hk.2.2 K1 K2
  case invokevirtual x =>
    exact hot h
  case invokestatic x =>
    exact hot h
  case invokespecial x =>
    exact hot h
  case ireturn =>
    exact hot h
  case lreturn =>
    exact hot h
  case return_ =>
    exact hot h
  all_goals exact False.elim h
end AMK
