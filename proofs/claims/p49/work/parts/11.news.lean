/-! NEW CELLS of the small machine -/
section AMN
variable {l : Launch} {y : Nat} {Q : tQ} {u w pc : Nat} {ls : am_ls} {st : List am_V} {σ σ2 : tI} {τ τ2 : tL} {ρ ρ2 : tR} {cn cn2 : tN} {ln ln2 : tM}
theorem am_cv_same {ad ad2 : tM} (h : ∀ k i, i < cn k → ad2 k i = ad k i) : ∀ {v : am_V}, am_VO cn v → am_cv ad2 v = am_cv ad v
  | .inl _, _ => rfl
  | .inr (.inl _), _ => rfl
  | .inr (.inr none), _ => rfl
  | .inr (.inr (some q)), hv => congrArg Value.ref (h q.1 q.2 hv)
theorem am_map_same {ad ad2 : tM} (h : ∀ k i, i < cn k → ad2 k i = ad k i) : ∀ {st : List am_V}, am_Vs cn st → st.map (am_cv ad2) = st.map (am_cv ad)
  | [], _ => rfl
  | v :: r, hv => by rw [List.map_cons, List.map_cons, am_cv_same h hv.1, am_map_same h hv.2]
theorem am_lc_same {ad ad2 : tM} (h : ∀ k i, i < cn k → ad2 k i = ad k i) : ∀ {ls : am_ls}, am_Vl cn ls → am_lc ad2 ls = am_lc ad ls
  | [], _ => rfl
  | q :: r, hv => by
    have h2 := am_lc_same h (ls := r) hv.2
    unfold am_lc at h2 ⊢
    rw [List.map_cons, List.map_cons, am_cv_same h hv.1, h2]
theorem am_VO_mono (h : ∀ k, cn k ≤ cn2 k) : ∀ {v : am_V}, am_VO cn v → am_VO cn2 v
  | .inl _, _ => trivial
  | .inr (.inl _), _ => trivial
  | .inr (.inr none), _ => trivial
  | .inr (.inr (some q)), hv => Nat.lt_of_lt_of_le hv (h q.1)
theorem am_Vs_mono (h : ∀ k, cn k ≤ cn2 k) : ∀ {st : List am_V}, am_Vs cn st → am_Vs cn2 st
  | [], _ => trivial
  | _ :: _, hv => ⟨am_VO_mono h hv.1, am_Vs_mono h hv.2⟩
theorem am_Vl_mono (h : ∀ k, cn k ≤ cn2 k) : ∀ {ls : am_ls}, am_Vl cn ls → am_Vl cn2 ls
  | [], _ => trivial
  | _ :: _, hv => ⟨am_VO_mono h hv.1, am_Vl_mono h hv.2⟩
theorem am_u2_same {ad : tM} {a q : Nat} : ∀ k i, i < cn k → u2 ad a (cn a) q k i = ad k i := by
  intro k i hi
  unfold u2
  split
  · rename_i hk
    subst hk
    rw [if_neg (by omega)]
  · rfl
theorem am_u1_mono {a : Nat} : ∀ k, cn k ≤ u1 cn a (cn a + 1) k := by
  intro k
  unfold u1
  split
  · rename_i hk
    subst hk
    omega
  · omega
theorem am_ce_ad {ca : Nat → ClassId} {ad ad2 : tM} (h : ∀ k i, i < cn k → ad2 k i = ad k i) (hVR : am_VR ρ cn ln) {q : Nat × Nat} (hq : q.2 < cn q.1) : am_ce ca ad2 σ τ ρ ln q = am_ce ca ad σ τ ρ ln q := by
  have key : ∀ j, (13 ≤ q.1 → j < ln q.1 q.2) → (ρ q.1 q.2 j).map (fun r => ad2 r.1 r.2) = (ρ q.1 q.2 j).map (fun r => ad r.1 r.2) := by
    intro j hj
    cases hr : ρ q.1 q.2 j with
    | none => rfl
    | some r => exact congrArg some (h r.1 r.2 (hVR q.1 q.2 j r hq hj hr))
  unfold am_ce
  split
  · rename_i hk
    have e : am_fv ad2 σ τ ρ q.1 q.2 = am_fv ad σ τ ρ q.1 q.2 := by
      funext j
      unfold am_fv
      rw [key j (fun z => absurd z (by omega))]
    rw [e]
  · split
    · rfl
    · congr 7
      funext j
      split
      · rename_i hj
        exact key j (fun _ => hj)
      · rfl
theorem am_Y.push {D : va_G} {ca : Nat → ClassId} {A : Nat → Prop} {ad : tM} {L : List (Nat × Nat)} {H H1 : Heap} (h : am_Y D ca A ad L H σ τ ρ cn ln) {a q : Nat} {e : va_E} (hP : va_P D vwCl (am_wl ca ad σ τ ρ ln L ++ [(q, e)]) H1) (hD : va_D A (am_wl ca ad σ τ ρ ln L ++ [(q, e)]))
    (h1 : ∀ r : Nat × Nat, r ≠ (a, cn a) → σ2 r.1 r.2 = σ r.1 r.2) (h2 : ∀ r : Nat × Nat, r ≠ (a, cn a) → τ2 r.1 r.2 = τ r.1 r.2) (h3 : ∀ r : Nat × Nat, r ≠ (a, cn a) → ρ2 r.1 r.2 = ρ r.1 r.2) (h4 : ∀ r : Nat × Nat, r ≠ (a, cn a) → ln2 r.1 r.2 = ln r.1 r.2) (h5 : ∀ j, ρ2 a (cn a) j = none)
    (he : am_ce ca (u2 ad a (cn a) q) σ2 τ2 ρ2 ln2 (a, cn a) = e) : am_Y D ca A (u2 ad a (cn a) q) (L ++ [(a, cn a)]) H1 σ2 τ2 ρ2 (u1 cn a (cn a + 1)) ln2 := by
  have hne : ∀ r : Nat × Nat, r.2 < cn r.1 → r ≠ (a, cn a) := by
    rintro ⟨r1, r2⟩ hr e
    cases e
    exact Nat.lt_irrefl _ hr
  have e1 : am_wl ca (u2 ad a (cn a) q) σ2 τ2 ρ2 ln2 (L ++ [(a, cn a)]) = am_wl ca ad σ τ ρ ln L ++ [(q, e)] := by
    unfold am_wl
    rw [List.map_append]
    congr 1
    · apply List.map_congr_left
      intro r hr
      have hv := (h.1 r).mp hr
      have hn := hne r hv
      rw [am_u2_same r.1 r.2 hv]
      congr 1
      rw [← am_ce_ad (am_u2_same (a := a) (q := q)) h.2.1 hv]
      simp only [am_ce, am_fv_congr (ad := u2 ad a (cn a) q) (h1 r hn) (h2 r hn) (h3 r hn), h1 r hn, h3 r hn, h4 r hn]
    · rw [List.map_cons, List.map_nil, he]
      simp [u2]
  refine ⟨fun r => ?_, fun k i j r hk hj hr => ?_, e1 ▸ hP, e1 ▸ hD⟩
  · rw [List.mem_append, List.mem_singleton, h.1 r]
    unfold u1
    constructor
    · rintro (hr | hr)
      · split
        · rename_i hk
          rw [hk] at hr
          omega
        · exact hr
      · subst hr
        simp
    · intro hr
      split at hr
      · rename_i hk
        by_cases hz : r.2 = cn a
        · exact Or.inr (Prod.ext hk hz)
        · left
          rw [hk]
          omega
      · exact Or.inl hr
  · by_cases hz : ((k, i) : Nat × Nat) = (a, cn a)
    · cases hz
      rw [h5 j] at hr
      cases hr
    · have g3 := h3 (k, i) hz
      have g4 := h4 (k, i) hz
      simp only at g3 g4
      rw [g3] at hr
      have hi : i < cn k := by
        unfold u1 at hk
        split at hk
        · rename_i hka
          have : i ≠ cn a := fun z => hz (by rw [hka, z])
          rw [hka]
          omega
        · exact hk
      exact Nat.lt_of_lt_of_le (h.2.1 k i j r hi (fun z => by rw [← g4]; exact hj z) hr) (am_u1_mono r.1)
theorem z2_ne {α : Type} (f : Nat → Nat → Nat → α) {k i : Nat} {v : α} {q : Nat × Nat} (h : q ≠ (k, i)) : z2 f k i v q.1 q.2 = f q.1 q.2 := by
  funext c
  by_cases h1 : q.1 = k
  · have h2 : q.2 ≠ i := fun z => h (Prod.ext h1 z)
    simp [z2, h2]
  · simp [z2, h1]
theorem u2_ne (f : tM) {k i v : Nat} {q : Nat × Nat} (h : q ≠ (k, i)) : u2 f k i v q.1 q.2 = f q.1 q.2 := by
  by_cases h1 : q.1 = k
  · have h2 : q.2 ≠ i := fun z => h (Prod.ext h1 z)
    simp [u2, h2]
  · simp [u2, h1]
/-- going on with one new cell -/
theorem am_go {p : Program} {e : Env} {s : State} {m : MethodId} {args : Array Value} {below : List Frame} {meth : Method} {c : Code} {D : va_G} {ca : Nat → ClassId} {ad0 : tM} {L0 : List (Nat × Nat)} {A : Nat → Prop} {ad : tM} {L : List (Nat × Nat)} {H : Heap} {locs : List Loc} {lsA : Array Slot} {a q u2' w2 pc2 : Nat}
    (K : am_G l y Q u2' w2 pc2 ls (.inr (.inr (some (a, cn a))) :: st) σ2 τ2 ρ2 (u1 cn a (cn a + 1)) ln2) (hX : am_X y p s m args meth c D ca A) (hL : ∀ q ∈ L0, ad q.1 q.2 = ad0 q.1 q.2 ∧ q ∈ L) (hY0 : ∀ q : Nat × Nat, q ∈ L ↔ q.2 < cn q.1) (hY : am_Y D ca A (u2 ad a (cn a) q) (L ++ [(a, cn a)]) H σ2 τ2 ρ2 (u1 cn a (cn a + 1)) ln2) (hS : va_S A s.heap H locs) (hl : lv_has lsA (am_ml y) (am_lc ad ls)) (hVl : am_Vl cn ls) (hV : am_Vs cn st) :
    W p l e (am_rm y) s m args below meth c H locs u2' w2 (MQ below (am_Q D ca ad0 L0 A Q) args s (am_rm y).cells (am_rm y).slots A) (F0 m pc2 lsA (.ref q :: st.map (am_cv ad))) := by
  have h1 := K p e s m args below meth c D ca ad0 L0 A (u2 ad a (cn a) q) (L ++ [(a, cn a)]) H locs lsA hX (fun r hr => ⟨(am_u2_same r.1 r.2 ((hY0 r).mp (hL r hr).2)).trans (hL r hr).1, List.mem_append_left _ (hL r hr).2⟩) hY hS (by rw [am_lc_same am_u2_same hVl]; exact hl) (am_Vl_mono am_u1_mono hVl) ⟨by simp [am_VO, u1], am_Vs_mono am_u1_mono hV⟩
  rw [List.map_cons, am_map_same am_u2_same hV] at h1
  simpa [am_cv, u2] using h1
set_option maxHeartbeats 4000000 in
theorem am_newo {x a b c : Nat} (hd : decode (am_cb y) pc = .ok (.new x, 3)) {C : String} {T : u_T} (hc : vwCl[a]? = some (C, T, b)) (hcl : Cond.classLink (am_nm y).cls x C ∈ am_gd) (hu : u + 1 ≤ (am_rm y).cells) (hw : w + b ≤ (am_rm y).slots)
    (K : am_G l y Q (u + 1) (w + b) (pc + 3) ls (.inr (.inr (some (a, cn a))) :: st) (z2 σ a (cn a) 0) (z2 τ a (cn a) 0) (z2 ρ a (cn a) none) (u1 cn a (cn a + 1)) ln) : am_G l y Q u w pc ls st σ τ ρ cn ln := by
  obtain ⟨ha, hok, -, ty0, hty0⟩ := am_cl hc
  have hN := am_cl_N hok
  intro p e s m args below meth cc D ca ad0 L0 A ad L H locs lsA hX hL hY hS hl hVl hV
  refine va_new (D := D) (cl := vwCl) (ws := am_wl ca ad σ τ ρ ln L) (tys := am_ty ca) (ci := a) (fs := (List.range b).map (fun j => if am_ft a j = 1 then .long 0 else if am_ft a j = 2 then .null else .int 0)) hX.1 hX.2.1 (fun w hw => am_word hX.2.2.2.2.1 hw) (fun w hw => am_cl_w hok w (List.mem_append_left _ hw)) ty0 hty0 hX.2.2.2.2.2.1 (am_word hX.2.2.2.2.1 hcl) (am_word hX.2.2.2.2.1 (am_cl_w hok _ (List.mem_append_right _ List.mem_cons_self))) (am_word hX.2.2.2.2.1 (am_cl_w hok _ (List.mem_append_right _ (List.mem_cons_of_mem _ List.mem_cons_self)))) hX.2.2.2.2.2.2.2.2.1 hY.2.2.1 hY.2.2.2 hS hX.2.2.2.2.2.2.2.2.2.2 hc ?_ hu hw hd (fun q H1 hP1 hD1 hS1 => ?_)
  · intro j hj
    have h1 := am_cl_t hok hj
    rw [hty0 j hj] at h1
    rw [am_ty_def h1]
    simp [vp_V, hj]
  · refine am_go (q := q) K hX hL hY.1 (hY.push hP1 hD1 (fun r hr => z2_ne σ hr) (fun r hr => z2_ne τ hr) (fun r hr => z2_ne ρ hr) (fun _ _ => rfl) (fun j => by simp [z2]) ?_) hS1 hl hVl hV
    rw [am_ce_obj ha, ← hN]
    congr 3
    funext j
    simp [am_fv, z2, va_rf]
theorem am_arrI : Cond.arrayClass .int ∈ am_gd := am_gd_all (ws := [Cond.arrayClass .int]) (by decide +kernel) _ List.mem_cons_self
theorem am_arrZ : Cond.arrayClass .boolean ∈ am_gd := am_gd_all (ws := [Cond.arrayClass .boolean]) (by decide +kernel) _ List.mem_cons_self
set_option maxHeartbeats 4000000 in
theorem am_newi {a : Nat} {x : Int32} (hd : decode (am_cb y) pc = .ok (.newarray .int, 2)) (he : am_ek a = 0) (h0 : ¬ x < 0 ∧ x.toNatClampNeg ≤ 100000) (hu : u + 1 ≤ (am_rm y).cells) (hw : w + x.toNatClampNeg ≤ (am_rm y).slots)
    (K : am_G l y Q (u + 1) (w + x.toNatClampNeg) (pc + 2) ls (.inr (.inr (some (a, cn a))) :: st) (z2 σ a (cn a) 0) τ (z2 ρ a (cn a) none) (u1 cn a (cn a + 1)) (u2 ln a (cn a) x.toNatClampNeg)) : am_G l y Q u w pc ls (.inl x :: st) σ τ ρ cn ln := by
  intro p e s m args below meth cc D ca ad0 L0 A ad L H locs lsA hX hL hY hS hl hVl hV
  refine va_newa (D := D) (cl := vwCl) (ws := am_wl ca ad σ τ ρ ln L) (tys := am_ty ca) (atype := .int) (ty := .int) (n := x) (N' := x.toNatClampNeg) (a0 := (x.toNatClampNeg, .inl (fun _ => 0))) hX.1 hX.2.1 (am_word hX.2.2.2.2.1 am_arrI) rfl hX.2.2.2.2.2.2.2.2.1 hY.2.2.1 hY.2.2.2 hS hX.2.2.2.2.2.2.2.2.2.2 (fun _ => rfl) h0.1 rfl (by show _ * 4 ≤ _; omega) hu hw hd (fun q cA H1 hK1 hP1 hD1 hS1 => ?_)
  have hcA : cA = ca 0 := by
    have z1 : s.vm.findClass ("[" ++ FieldType.int.toString) = some cA := (hK1.2 6 (cA, .int) rfl).2
    have z2 : s.vm.findClass ("[" ++ FieldType.int.toString) = some (ca 0) := (hX.2.2.2.2.2.2.2.2.1.2 0 (ca 0, .int) rfl).2
    exact Option.some.inj (z1.symm.trans z2)
  subst hcA
  refine am_go (q := q) K hX hL hY.1 (hY.push hP1 hD1 (fun r hr => z2_ne σ hr) (fun _ _ => rfl) (fun r hr => z2_ne ρ hr) (fun r hr => u2_ne ln hr) (fun j => by simp [z2]) ?_) hS1 hl hVl hV.2
  rw [am_ce_int (by omega), he]
  simp [z2, u2]
set_option maxHeartbeats 4000000 in
theorem am_newz {a : Nat} {x : Int32} (hd : decode (am_cb y) pc = .ok (.newarray .boolean, 2)) (he : am_ek a = 1) (h0 : ¬ x < 0 ∧ x.toNatClampNeg ≤ 100000) (hu : u + 1 ≤ (am_rm y).cells) (hw : w + x.toNatClampNeg ≤ (am_rm y).slots)
    (K : am_G l y Q (u + 1) (w + x.toNatClampNeg) (pc + 2) ls (.inr (.inr (some (a, cn a))) :: st) (z2 σ a (cn a) 0) τ (z2 ρ a (cn a) none) (u1 cn a (cn a + 1)) (u2 ln a (cn a) x.toNatClampNeg)) : am_G l y Q u w pc ls (.inl x :: st) σ τ ρ cn ln := by
  intro p e s m args below meth cc D ca ad0 L0 A ad L H locs lsA hX hL hY hS hl hVl hV
  refine va_newa (D := D) (cl := vwCl) (ws := am_wl ca ad σ τ ρ ln L) (tys := am_ty ca) (atype := .boolean) (ty := .boolean) (n := x) (N' := x.toNatClampNeg) (a0 := (x.toNatClampNeg, .inl (fun _ => 0))) hX.1 hX.2.1 (am_word hX.2.2.2.2.1 am_arrZ) rfl hX.2.2.2.2.2.2.2.2.1 hY.2.2.1 hY.2.2.2 hS hX.2.2.2.2.2.2.2.2.2.2 (fun _ => rfl) h0.1 rfl (by show _ * 1 ≤ _; omega) hu hw hd (fun q cA H1 hK1 hP1 hD1 hS1 => ?_)
  have hcA : cA = ca 1 := by
    have z1 : s.vm.findClass ("[" ++ FieldType.boolean.toString) = some cA := (hK1.2 6 (cA, .boolean) rfl).2
    have z2 : s.vm.findClass ("[" ++ FieldType.boolean.toString) = some (ca 1) := (hX.2.2.2.2.2.2.2.2.1.2 1 (ca 1, .boolean) rfl).2
    exact Option.some.inj (z1.symm.trans z2)
  subst hcA
  refine am_go (q := q) K hX hL hY.1 (hY.push hP1 hD1 (fun r hr => z2_ne σ hr) (fun _ _ => rfl) (fun r hr => z2_ne ρ hr) (fun r hr => u2_ne ln hr) (fun j => by simp [z2]) ?_) hS1 hl hVl hV.2
  rw [am_ce_int (by omega), he]
  simp [z2, u2]
theorem am_Xt.over {s : State} (h : am_Xt s) {e : Nat} (h1 : 1 < e) (h2 : e < 6) : va_AO (am_ec e) s := by
  rcases (show e = 2 ∨ e = 3 ∨ e = 4 ∨ e = 5 by omega) with rfl | rfl | rfl | rfl
  · exact h.2.1
  · exact h.2.2.1
  · exact h.2.2.2.1
  · exact h.2.2.2.2
set_option maxHeartbeats 4000000 in
theorem am_newq {a cx : Nat} {x : Int32} (hd : decode (am_cb y) pc = .ok (.anewarray cx, 3)) (he1 : 1 < am_ek a) (he2 : am_ek a < 6) (hcl : Cond.classLink (am_nm y).cls cx (am_ec (am_ek a)) ∈ am_gd) (h0 : ¬ x < 0 ∧ x.toNatClampNeg ≤ 100000) (hu : u + 1 ≤ (am_rm y).cells) (hw : w + x.toNatClampNeg ≤ (am_rm y).slots)
    (K : am_G l y Q (u + 1) (w + x.toNatClampNeg) (pc + 3) ls (.inr (.inr (some (a, cn a))) :: st) σ τ (z2 ρ a (cn a) none) (u1 cn a (cn a + 1)) (u2 ln a (cn a) x.toNatClampNeg)) : am_G l y Q u w pc ls (.inl x :: st) σ τ ρ cn ln := by
  intro p e s m args below meth cc D ca ad0 L0 A ad L H locs lsA hX hL hY hS hl hVl hV
  refine va_newq (D := D) (cl := vwCl) (ws := am_wl ca ad σ τ ρ ln L) (tys := am_ty ca) (C := am_ec (am_ek a)) (n := x) (N' := x.toNatClampNeg) hX.1 hX.2.1 hX.2.2.2.2.2.1 (am_word hX.2.2.2.2.1 hcl) (hX.2.2.2.2.2.2.2.2.2.1.over he1 he2) hX.2.2.2.2.2.2.2.2.1 hY.2.2.1 hY.2.2.2 hS hX.2.2.2.2.2.2.2.2.2.2 h0.1 rfl (by omega) hu hw hd (fun q cA H1 hK1 hP1 hD1 hS1 => ?_)
  have hcA : cA = ca (am_ek a) := by
    obtain ⟨-, -, -, -, -, z1⟩ := (hK1.2 6 (cA, .object (am_ec (am_ek a))) rfl).2
    obtain ⟨-, -, -, -, -, z2⟩ := (hX.2.2.2.2.2.2.2.2.1.2 (am_ek a) (ca (am_ek a), .object (am_ec (am_ek a))) (am_tygetr ca he1 he2)).2
    exact Option.some.inj (z1.symm.trans z2)
  subst hcA
  refine am_go (q := q) K hX hL hY.1 (hY.push hP1 hD1 (fun _ _ => rfl) (fun _ _ => rfl) (fun r hr => z2_ne ρ hr) (fun r hr => u2_ne ln hr) (fun j => by simp [z2]) ?_) hS1 hl hVl hV.2
  rw [am_ce_ref (by omega) he2]
  simp [z2, u2]
end AMN
