/-! A STEP of the small machine is a step of the machine -/
section AMO
variable {l : Launch} {y : Nat} {Q : tQ} {u w pc : Nat} {ls : am_ls} {st : List am_V} {σ : tI} {τ : tL} {ρ : tR} {cn : tN} {ln : tM}
theorem am_word {y : Nat} {args : Array Value} {s : State} {w : Cond} (h : ∀ w ∈ am_ws y, w.before args s = true) (hw : w ∈ am_gd) : w.before args s = true := h w (List.mem_cons_of_mem _ hw)
theorem am_beq {a b : Nat} (h : Nat.beq a b = true) : a = b := Nat.eq_of_beq_eq_true h
set_option maxHeartbeats 4000000 in
/-- getfield -/
theorem am_getf {x a b c d k o : Nat} {st : List am_V} (hd : decode (am_cb y) pc = .ok (.getfield x, 3)) (hk : am_fk y x a b c d true = true) (ho : k = a)
    (K : am_G l y Q u w (pc + 3) ls ((bif Nat.beq d 1 then .inr (.inl (τ a o b)) else bif Nat.beq d 2 then .inr (.inr (ρ a o b)) else .inl (σ a o b)) :: st) σ τ ρ cn ln) : am_G l y Q u w pc ls (.inr (.inr (some (k, o))) :: st) σ τ ρ cn ln := by
  subst ho
  obtain ⟨C, T, N, hc, hl1, hb, hdf, hty, -⟩ := am_fk_inv hk
  obtain ⟨ha, hok, -, -⟩ := am_cl hc
  have hN := am_cl_N hok
  intro p e s m args below meth cc D ca ad0 L0 A ad L H locs lsA hX hL hY hS hl hVl hV
  obtain ⟨q0, hq1, hq2⟩ := hY.at (k := k) (i := o) hV.1
  rw [am_ce_obj ha] at hq2
  have hv : am_fv ad σ τ ρ k o b = am_cv ad (bif Nat.beq d 1 then .inr (.inl (τ k o b)) else bif Nat.beq d 2 then .inr (.inr (ρ k o b)) else .inl (σ k o b)) := by
    unfold am_fv
    rw [← hdf]
    by_cases e1 : d = 1
    · subst e1; rfl
    · by_cases e2 : d = 2
      · subst e2
        exact am_cv_rf _
      · have f1 : Nat.beq d 1 = false := by cases hh : Nat.beq d 1 with | false => rfl | true => exact absurd (am_beq hh) e1
        have f2 : Nat.beq d 2 = false := by cases hh : Nat.beq d 2 with | false => rfl | true => exact absurd (am_beq hh) e2
        rw [if_neg e1, if_neg e2, f1, f2]; rfl
  have hVn : am_VO cn (bif Nat.beq d 1 then .inr (.inl (τ k o b)) else bif Nat.beq d 2 then .inr (.inr (ρ k o b)) else .inl (σ k o b)) := by
    cases Nat.beq d 1 with
    | true => exact trivial
    | false =>
      cases Nat.beq d 2 with
      | false => exact trivial
      | true =>
        show am_VO cn (.inr (.inr (ρ k o b)))
        cases hr : ρ k o b with
        | none => exact trivial
        | some q => exact hY.2.1 k o b q hV.1 (fun z => absurd z (by omega)) hr
  refine va_get (D := D) (cl := vwCl) (ws := am_wl ca ad σ τ ρ ln L) (tys := am_ty ca) (ci := k) (v := am_fv ad σ τ ρ k o b) hX.1 hX.2.1 (fun w hw => am_word hX.2.2.2.2.1 hw) (fun w hw => am_cl_w hok w (List.mem_append_left _ hw)) hX.2.2.2.2.2.1 hX.2.2.2.2.2.2.2.2.1 hY.2.2.1 q0 hq2 hc b hb (am_word hX.2.2.2.2.1 hl1) (fun _ h9 => h9) (am_rg_get (by omega)) hd ?_
  rw [hv]
  exact K p e s m args below meth cc D ca ad0 L0 A ad L H locs lsA hX hL hY hS hl hVl ⟨hVn, hV.2⟩
theorem am_fv_u {ad : tM} {σ2 : tI} {τ2 : tL} {ρ2 : tR} {k o b : Nat} (h1 : ∀ j, j ≠ b → σ2 k o j = σ k o j) (h2 : ∀ j, j ≠ b → τ2 k o j = τ k o j) (h3 : ∀ j, j ≠ b → ρ2 k o j = ρ k o j) : ∀ j, j ≠ b → am_fv ad σ2 τ2 ρ2 k o j = am_fv ad σ τ ρ k o j := by
  intro j hj
  simp only [am_fv, h1 j hj, h2 j hj, h3 j hj]
set_option maxHeartbeats 4000000 in
/-- putfield: any change of one field's place -/
theorem am_putf {x a b c d k o : Nat} {st : List am_V} {v : am_V} {σ2 : tI} {τ2 : tL} {ρ2 : tR} (hd : decode (am_cb y) pc = .ok (.putfield x, 3)) (hk : am_fk y x a b c d false = true) (ho : k = a)
    (h1 : ∀ q : Nat × Nat, q ≠ (k, o) → σ2 q.1 q.2 = σ q.1 q.2) (h2 : ∀ q : Nat × Nat, q ≠ (k, o) → τ2 q.1 q.2 = τ q.1 q.2) (h3 : ∀ q : Nat × Nat, q ≠ (k, o) → ρ2 q.1 q.2 = ρ q.1 q.2)
    (g1 : ∀ j, j ≠ b → σ2 k o j = σ k o j) (g2 : ∀ j, j ≠ b → τ2 k o j = τ k o j) (g3 : ∀ j, j ≠ b → ρ2 k o j = ρ k o j)
    (hv : ∀ ad : tM, d = am_ft k b → am_fv ad σ2 τ2 ρ2 k o b = am_cv ad v) (hfit : ∀ (ad : tM) (ty : FieldType), am_tyok (some ty) d = true → narrow ty (am_cv ad v) = am_cv ad v ∧ fits ty (am_cv ad v) = true) (hVR : am_VR ρ cn ln → am_VO cn v → o < cn k → am_VR ρ2 cn ln)
    (K : am_G l y Q u w (pc + 3) ls st σ2 τ2 ρ2 cn ln) : am_G l y Q u w pc ls (v :: .inr (.inr (some (k, o))) :: st) σ τ ρ cn ln := by
  subst ho
  obtain ⟨C, T, N, hc, hl1, hb, hdf, hty, hfin⟩ := am_fk_inv hk
  obtain ⟨ha, hok, hnm, ty0, hty0⟩ := am_cl hc
  have hN := am_cl_N hok
  intro p e s m args below meth cc D ca ad0 L0 A ad L H locs lsA hX hL hY hS hl hVl hV
  obtain ⟨q0, hq1, hq2⟩ := hY.at (k := k) (i := o) hV.2.1
  rw [am_ce_obj ha] at hq2
  have hp := hty0 b hb
  rw [hp] at hty
  obtain ⟨f1, f2⟩ := hfit ad (ty0 b) hty
  have hlen : b < ((List.range (am_nf k)).map (am_fv ad σ τ ρ k o)).length := by simp; omega
  have KK : ∀ (H1 : Heap) (locs1 : List Loc), va_P D vwCl ((am_wl ca ad σ τ ρ ln L).set q0 (ad k o, .inr (k, ((List.range (am_nf k)).map (am_fv ad σ τ ρ k o)).set b (am_cv ad v)))) H1 → va_D A ((am_wl ca ad σ τ ρ ln L).set q0 (ad k o, .inr (k, ((List.range (am_nf k)).map (am_fv ad σ τ ρ k o)).set b (am_cv ad v)))) → va_S A s.heap H1 locs1 → W p l e (am_rm y) s m args below meth cc H1 locs1 u w (MQ below (am_Q D ca ad0 L0 A Q) args s (am_rm y).cells (am_rm y).slots A) (F0 m (pc + 3) lsA (st.map (am_cv ad))) := by
    intro H1 locs1 hP1 hD1 hS1
    have hY1 : am_Y D ca A ad L H1 σ2 τ2 ρ2 cn ln := by
      refine hY.put hq1 hP1 hD1 ?_ (fun q hq => am_ce_congr (h1 q hq) (h2 q hq) (h3 q hq)) (hVR hY.2.1 hV.1 hV.2.1)
      rw [am_ce_obj ha, am_rg_set (g := am_fv ad σ2 τ2 ρ2 k o) (hv ad hdf) (am_fv_u g1 g2 g3)]
    exact K p e s m args below meth cc D ca ad0 L0 A ad L H1 locs1 lsA hX hL hY1 hS1 hl hVl hV.2.2
  cases hf : (T b).2.2.2 with
  | false => exact va_put (D := D) (cl := vwCl) (ws := am_wl ca ad σ τ ρ ln L) (tys := am_ty ca) (ci := k) (v := am_cv ad v) (ty := ty0 b) hX.1 hX.2.1 (fun w hw => am_word hX.2.2.2.2.1 hw) (fun w hw => am_cl_w hok w (List.mem_append_left _ hw)) ty0 hty0 hnm hX.2.2.2.2.2.1 hX.2.2.2.2.2.2.2.2.1 hY.2.2.1 hY.2.2.2 hS q0 hq2 hc b hb (am_word hX.2.2.2.2.1 hl1) (fun _ h9 => h9) hf hp f1 f2 hlen hd KK
  | true =>
    rw [hf] at hfin
    simp only [Bool.false_or, Bool.not_true, Bool.and_eq_true, decide_eq_true_eq] at hfin
    exact va_putF (D := D) (cl := vwCl) (ws := am_wl ca ad σ τ ρ ln L) (tys := am_ty ca) (ci := k) (v := am_cv ad v) (ty := ty0 b) hX.1 hX.2.1 (fun w hw => am_word hX.2.2.2.2.1 hw) (fun w hw => am_cl_w hok w (List.mem_append_left _ hw)) ty0 hty0 hnm hX.2.2.2.2.2.1 hX.2.2.2.2.2.2.2.2.1 hY.2.2.1 hY.2.2.2 hS q0 hq2 hc b hb (am_word hX.2.2.2.2.1 hl1) (fun _ h9 => h9) hf (hX.2.2.2.2.2.2.2.1.trans hfin.1) hfin.2 hp f1 f2 hlen hd KK
theorem am_tyget (ca : Nat → ClassId) {e : Nat} (h : e = 0) : (am_ty ca)[e]? = some (ca e, .int) := by subst h; rfl
theorem am_tygetz (ca : Nat → ClassId) {e : Nat} (h : e = 1) : (am_ty ca)[e]? = some (ca e, .boolean) := by subst h; rfl
theorem am_tygetr (ca : Nat → ClassId) {e : Nat} (h1 : 1 < e) (h2 : e < 6) : (am_ty ca)[e]? = some (ca e, .object (am_ec e)) := by
  rcases (show e = 2 ∨ e = 3 ∨ e = 4 ∨ e = 5 by omega) with rfl | rfl | rfl | rfl <;> rfl
theorem am_tygeta (ca : Nat → ClassId) {e : Nat} (h2 : e < 6) : ∃ ty, (am_ty ca)[e]? = some (ca e, ty) := by
  rcases (show e = 0 ∨ e = 1 ∨ e = 2 ∨ e = 3 ∨ e = 4 ∨ e = 5 by omega) with rfl | rfl | rfl | rfl | rfl | rfl <;> exact ⟨_, rfl⟩
theorem am_iald {k o : Nat} {x : Int32} {st : List am_V} (hd : decode (am_cb y) pc = .ok (.iaload, 1)) (he : am_ek k = 0) (hx : vp_in x (ln k o)) (K : am_G l y Q u w (pc + 1) ls (.inl (σ k o x.toNatClampNeg) :: st) σ τ ρ cn ln) : am_G l y Q u w pc ls (.inl x :: .inr (.inr (some (k, o))) :: st) σ τ ρ cn ln := by
  intro p e s m args below meth cc D ca ad0 L0 A ad L H locs lsA hX hL hY hS hl hVl hV
  obtain ⟨q0, hq1, hq2⟩ := hY.at (k := k) (i := o) hV.2.1
  rw [am_ce_int (by omega)] at hq2
  exact va_iald (D := D) (cl := vwCl) (ws := am_wl ca ad σ τ ρ ln L) (tys := am_ty ca) hX.1 hX.2.1 hX.2.2.2.2.2.2.2.2.1 hY.2.2.1 q0 (am_ek k) hq2 (am_tyget ca he) hx hd (K p e s m args below meth cc D ca ad0 L0 A ad L H locs lsA hX hL hY hS hl hVl ⟨trivial, hV.2.2⟩)
theorem am_zald {k o : Nat} {x : Int32} {st : List am_V} (hd : decode (am_cb y) pc = .ok (.baload, 1)) (he : am_ek k = 1) (hx : vp_in x (ln k o)) (K : am_G l y Q u w (pc + 1) ls (.inl (σ k o x.toNatClampNeg) :: st) σ τ ρ cn ln) : am_G l y Q u w pc ls (.inl x :: .inr (.inr (some (k, o))) :: st) σ τ ρ cn ln := by
  intro p e s m args below meth cc D ca ad0 L0 A ad L H locs lsA hX hL hY hS hl hVl hV
  obtain ⟨q0, hq1, hq2⟩ := hY.at (k := k) (i := o) hV.2.1
  rw [am_ce_int (by omega)] at hq2
  exact va_zald (D := D) (cl := vwCl) (ws := am_wl ca ad σ τ ρ ln L) (tys := am_ty ca) hX.1 hX.2.1 hX.2.2.2.2.2.2.2.2.1 hY.2.2.1 q0 (am_ek k) hq2 (am_tygetz ca he) hx hd (K p e s m args below meth cc D ca ad0 L0 A ad L H locs lsA hX hL hY hS hl hVl ⟨trivial, hV.2.2⟩)
theorem am_aald {k o : Nat} {x : Int32} {st : List am_V} (hd : decode (am_cb y) pc = .ok (.aaload, 1)) (h1 : 1 < am_ek k) (h2 : am_ek k < 6) (hx : vp_in x (ln k o)) (K : am_G l y Q u w (pc + 1) ls (.inr (.inr (ρ k o x.toNatClampNeg)) :: st) σ τ ρ cn ln) : am_G l y Q u w pc ls (.inl x :: .inr (.inr (some (k, o))) :: st) σ τ ρ cn ln := by
  intro p e s m args below meth cc D ca ad0 L0 A ad L H locs lsA hX hL hY hS hl hVl hV
  obtain ⟨q0, hq1, hq2⟩ := hY.at (k := k) (i := o) hV.2.1
  rw [am_ce_ref (by omega) h2] at hq2
  have hlt : x.toNatClampNeg < ln k o := Nat.not_le.mp fun q => hx (Or.inr q)
  have hVn : am_VO cn (.inr (.inr (ρ k o x.toNatClampNeg))) := by
    cases hr : ρ k o x.toNatClampNeg with
    | none => exact trivial
    | some q => exact hY.2.1 k o _ q hV.2.1 (fun _ => hlt) hr
  refine va_aldq (D := D) (cl := vwCl) (ws := am_wl ca ad σ τ ρ ln L) (tys := am_ty ca) hX.1 hX.2.1 hX.2.2.2.2.2.2.2.2.1 hY.2.2.1 q0 (am_ek k) hq2 (am_tygetr ca h1 h2) hx hd ?_
  rw [if_pos hlt, am_cv_rf]
  exact K p e s m args below meth cc D ca ad0 L0 A ad L H locs lsA hX hL hY hS hl hVl ⟨hVn, hV.2.2⟩
theorem am_alen {k o : Nat} {st : List am_V} (hd : decode (am_cb y) pc = .ok (.arraylength, 1)) (h2 : am_ek k < 6) (K : am_G l y Q u w (pc + 1) ls (.inl (nI (ln k o)) :: st) σ τ ρ cn ln) : am_G l y Q u w pc ls (.inr (.inr (some (k, o))) :: st) σ τ ρ cn ln := by
  intro p e s m args below meth cc D ca ad0 L0 A ad L H locs lsA hX hL hY hS hl hVl hV
  obtain ⟨q0, hq1, hq2⟩ := hY.at (k := k) (i := o) hV.1
  obtain ⟨ty, hty⟩ := am_tygeta ca h2
  by_cases hz : am_ek k < 2
  · rw [am_ce_int hz] at hq2
    exact va_alen (D := D) (cl := vwCl) (ws := am_wl ca ad σ τ ρ ln L) (tys := am_ty ca) hX.1 hX.2.1 hX.2.2.2.2.2.2.2.2.1 hY.2.2.1 q0 (am_ek k) hq2 hty rfl hd (K p e s m args below meth cc D ca ad0 L0 A ad L H locs lsA hX hL hY hS hl hVl ⟨trivial, hV.2⟩)
  · rw [am_ce_ref hz h2] at hq2
    exact va_alen (D := D) (cl := vwCl) (ws := am_wl ca ad σ τ ρ ln L) (tys := am_ty ca) hX.1 hX.2.1 hX.2.2.2.2.2.2.2.2.1 hY.2.2.1 q0 (am_ek k) hq2 hty rfl hd (K p e s m args below meth cc D ca ad0 L0 A ad L H locs lsA hX hL hY hS hl hVl ⟨trivial, hV.2⟩)
theorem am_iast {k o : Nat} {g x : Int32} {st : List am_V} (hd : decode (am_cb y) pc = .ok (.iastore, 1)) (he : am_ek k = 0) (hx : vp_in x (ln k o)) (K : am_G l y Q u w (pc + 1) ls st (u3 σ k o x.toNatClampNeg g) τ ρ cn ln) : am_G l y Q u w pc ls (.inl g :: .inl x :: .inr (.inr (some (k, o))) :: st) σ τ ρ cn ln := by
  intro p e s m args below meth cc D ca ad0 L0 A ad L H locs lsA hX hL hY hS hl hVl hV
  obtain ⟨q0, hq1, hq2⟩ := hY.at (k := k) (i := o) hV.2.2.1
  rw [am_ce_int (by omega)] at hq2
  refine va_iast (D := D) (cl := vwCl) (ws := am_wl ca ad σ τ ρ ln L) (tys := am_ty ca) hX.1 hX.2.1 hX.2.2.2.2.2.2.2.2.1 hY.2.2.1 hY.2.2.2 hS q0 (am_ek k) hq2 (am_tyget ca he) hx hd fun H1 locs1 hP1 hD1 hS1 => ?_
  have hY1 : am_Y D ca A ad L H1 (u3 σ k o x.toNatClampNeg g) τ ρ cn ln := by
    refine hY.put hq1 hP1 hD1 ?_ (fun q hq => am_ce_congr (u3_ne σ hq) rfl rfl) hY.2.1
    rw [am_ce_int (by omega)]
    congr 4
    funext j
    simp [u3, upd]
  exact K p e s m args below meth cc D ca ad0 L0 A ad L H1 locs1 lsA hX hL hY1 hS1 hl hVl hV.2.2.2
theorem am_nz {g : Int32} (h : g = 0 ∨ g = 1) : vp_nar .boolean g = g := by rcases h with rfl | rfl <;> decide +kernel
theorem am_zast {k o : Nat} {g x : Int32} {st : List am_V} (hd : decode (am_cb y) pc = .ok (.bastore, 1)) (he : am_ek k = 1) (hx : vp_in x (ln k o)) (hg : g = 0 ∨ g = 1) (K : am_G l y Q u w (pc + 1) ls st (u3 σ k o x.toNatClampNeg g) τ ρ cn ln) : am_G l y Q u w pc ls (.inl g :: .inl x :: .inr (.inr (some (k, o))) :: st) σ τ ρ cn ln := by
  intro p e s m args below meth cc D ca ad0 L0 A ad L H locs lsA hX hL hY hS hl hVl hV
  obtain ⟨q0, hq1, hq2⟩ := hY.at (k := k) (i := o) hV.2.2.1
  rw [am_ce_int (by omega)] at hq2
  refine va_zast (D := D) (cl := vwCl) (ws := am_wl ca ad σ τ ρ ln L) (tys := am_ty ca) hX.1 hX.2.1 hX.2.2.2.2.2.2.2.2.1 hY.2.2.1 hY.2.2.2 hS q0 (am_ek k) hq2 (am_tygetz ca he) hx hd fun H1 locs1 hP1 hD1 hS1 => ?_
  have hY1 : am_Y D ca A ad L H1 (u3 σ k o x.toNatClampNeg g) τ ρ cn ln := by
    refine hY.put hq1 hP1 hD1 ?_ (fun q hq => am_ce_congr (u3_ne σ hq) rfl rfl) hY.2.1
    rw [am_ce_int (by omega), am_nz hg]
    congr 4
    funext j
    simp [u3, upd]
  exact K p e s m args below meth cc D ca ad0 L0 A ad L H1 locs1 lsA hX hL hY1 hS1 hl hVl hV.2.2.2
theorem am_en_ec {e : Nat} (h1 : 1 < e) (h2 : e < 6) : ∃ r : vw_C, vwCl[am_en_cls e]? = some r ∧ r.1 = am_ec e ∧ am_en_cls e < 13 := by
  rcases (show e = 2 ∨ e = 3 ∨ e = 4 ∨ e = 5 by omega) with rfl | rfl | rfl | rfl <;> exact ⟨_, rfl, rfl, by decide⟩
theorem am_VR_u3 {k o j : Nat} {r : Option (Nat × Nat)} (h : am_VR ρ cn ln) (hr : ∀ q, r = some q → q.2 < cn q.1) : am_VR (u3 ρ k o j r) cn ln := by
  intro a b c q h1 h2 h3
  unfold u3 at h3
  split at h3
  · split at h3
    · split at h3
      · exact hr q h3
      · exact h a b c q h1 h2 h3
    · exact h a b c q h1 h2 h3
  · exact h a b c q h1 h2 h3
theorem am_aast {k o kv ov : Nat} {x : Int32} {st : List am_V} (hd : decode (am_cb y) pc = .ok (.aastore, 1)) (h1 : 1 < am_ek k) (h2 : am_ek k < 6) (hkv : kv = am_en_cls (am_ek k)) (hx : vp_in x (ln k o)) (K : am_G l y Q u w (pc + 1) ls st σ τ (u3 ρ k o x.toNatClampNeg (some (kv, ov))) cn ln) : am_G l y Q u w pc ls (.inr (.inr (some (kv, ov))) :: .inl x :: .inr (.inr (some (k, o))) :: st) σ τ ρ cn ln := by
  intro p e s m args below meth cc D ca ad0 L0 A ad L H locs lsA hX hL hY hS hl hVl hV
  obtain ⟨q0, hq1, hq2⟩ := hY.at (k := k) (i := o) hV.2.2.1
  rw [am_ce_ref (by omega) h2] at hq2
  obtain ⟨r, hr, hr1, hr2⟩ := am_en_ec h1 h2
  rw [← hkv] at hr hr2
  obtain ⟨qv, hv1, hv2⟩ := hY.at (k := kv) (i := ov) hV.1
  rw [am_ce_obj hr2] at hv2
  have hlt : x.toNatClampNeg < ln k o := Nat.not_le.mp fun q => hx (Or.inr q)
  refine va_astq (D := D) (cl := vwCl) (ws := am_wl ca ad σ τ ρ ln L) (tys := am_ty ca) hX.1 hX.2.1 hX.2.2.2.2.2.2.2.2.1 hY.2.2.1 hY.2.2.2 hS q0 (am_ek k) qv kv (r := r) hq2 (by rw [hr1]; exact am_tygetr ca h1 h2) hv2 hr hx hd fun H1 locs1 hP1 hD1 hS1 => ?_
  have hY1 : am_Y D ca A ad L H1 σ τ (u3 ρ k o x.toNatClampNeg (some (kv, ov))) cn ln := by
    refine hY.put hq1 hP1 hD1 ?_ (fun q hq => am_ce_congr rfl rfl (u3_ne ρ hq)) (am_VR_u3 hY.2.1 (fun q hq => by cases hq; exact hV.1))
    rw [am_ce_ref (by omega) h2]
    congr 7
    funext j
    by_cases hj : j = x.toNatClampNeg
    · subst hj
      simp [u3, va_up, hlt]
    · simp [u3, va_up, hj]
  exact K p e s m args below meth cc D ca ad0 L0 A ad L H1 locs1 lsA hX hL hY1 hS1 hl hVl hV.2.2.2
end AMO
