/-! CALLS of the small machine -/
section AMC
variable {l : Launch} {y : Nat} {Q : tQ} {u w pc : Nat} {ls : am_ls} {st : List am_V} {σ : tI} {τ : tL} {ρ : tR} {cn : tN} {ln : tM}
theorem am_P_pre {D : va_G} {ca : Nat → ClassId} {A : Nat → Prop} {ad : tM} {L : List (Nat × Nat)} {H : Heap} {s U : State} {vs : List am_V} (hY : am_Y D ca A ad L H σ τ ρ cn ln) (hK : va_K D vwCl (am_ty ca) s) (hXt : am_Xt s) (hU : U.heap = H) (hW : s.WarmedH U.vm) (hV : am_Vs cn vs) : am_P D ca ad L σ τ ρ cn ln vs H.size (vs.map (am_cv ad)).toArray U :=
  ⟨rfl, by rw [hU], ⟨hY.1, hY.2.1, by rw [hU]; exact hY.2.2.1, hY.2.2.2.weaken (fun _ _ _ _ => trivial)⟩, va_K.moved hW.alike hK, hXt.warm hW, hV⟩
theorem am_cats_sum {ad : tM} : ∀ (st : List am_V), ((st.map (am_cv ad)).map fun v => v.category).sum = am_cats st
  | [] => rfl
  | v :: r => by
    rw [List.map_cons, List.map_cons, List.sum_cons, am_cats_sum r, am_cv_cat]
    rfl
theorem am_okm_inv {z : Nat} (h : am_okm z = true) : Cond.code (am_nm z) (am_cb z) (am_ml z) (am_rt z) ∈ am_gd ∧ Cond.initialized (am_nm z).cls ∈ am_gd ∧ ((am_nm z).cls ≠ "java/lang/invoke/MethodHandle" ∧ (am_nm z).cls ≠ "java/lang/invoke/VarHandle") ∧ plainName (am_nm z).cls = true ∧
    (am_fl z = 0 → Cond.instanceMethod (am_nm z) ∈ am_gd ∧ Cond.selects (am_nm z).cls (am_nm z) (am_nm z) ∈ am_gd ∧ (vwCl[am_cx z]?).map (fun q => q.1) = some (am_nm z).cls) ∧ (am_fl z = 1 → Cond.static (am_nm z) ∈ am_gd) ∧ (am_fl z = 2 → Cond.instanceMethod (am_nm z) ∈ am_gd ∧ (am_nm z).name = "<init>" ∧ am_rt z = none) ∧ (am_fl z ≠ 2 → (am_rm z).cells = 0 ∧ (am_rm z).slots = 0) := by
  unfold am_okm at h
  simp only [Bool.and_eq_true, decide_eq_true_eq] at h
  obtain ⟨h1, h2, h3, h4, h5⟩ := h
  refine ⟨am_in_in h1, am_in_in h2, h3, h4, fun e => ?_, fun e => ?_, fun e => ?_, fun e => ?_⟩
  · rw [e] at h5
    simp only [Bool.and_eq_true, decide_eq_true_eq] at h5
    exact ⟨am_in_in h5.1, am_in_in h5.2.1, h5.2.2.1⟩
  · rw [e] at h5
    simp only [Bool.and_eq_true] at h5
    exact am_in_in h5.1
  · rw [e] at h5
    simp only [Bool.and_eq_true, decide_eq_true_eq] at h5
    exact ⟨am_in_in h5.1, h5.2.1, h5.2.2⟩
  · split at h5
    · simp only [Bool.and_eq_true] at h5
      exact ⟨am_beq h5.2.2.2.1, am_beq h5.2.2.2.2⟩
    · simp only [Bool.and_eq_true] at h5
      exact ⟨am_beq h5.2.1, am_beq h5.2.2⟩
    · rename_i e2
      exact absurd e2 e
    · cases h5
theorem am_lnk_inv {x z b c d : Nat} (h : am_lnk y x z b c d = true) : (bif Nat.beq d 0 then am_has c (.methodLink (am_nm y).cls x (am_nm z)) else decide (Cond.methodLinkNest (am_nm y).cls x (am_nm z) "DoorCalls" ∈ lw_tbl)) = true ∧ (parseMethodDescriptor (am_nm z).desc).map (fun d => d.parameters.length) = some b ∧ (am_rm z).frames + 1 ≤ (am_rm y).frames ∧ 8 + (am_ml z + 11) + (am_rm z).locals ≤ (am_rm y).locals := by
  unfold am_lnk at h
  simp only [Bool.and_eq_true, decide_eq_true_eq] at h
  exact ⟨h.1, h.2.1, Nat.le_of_ble_eq_true h.2.2.1, Nat.le_of_ble_eq_true h.2.2.2⟩
theorem am_nest {s : State} {x z : Nat} (hXt : am_Xt s) (h : Cond.methodLinkNest (am_nm y).cls x (am_nm z) "DoorCalls" ∈ lw_tbl) : va_Nw (.methodLinkNest (am_nm y).cls x (am_nm z) "DoorCalls") s :=
  hXt.1 _ (List.mem_filter.mpr ⟨h, rfl⟩)
set_option maxHeartbeats 8000000 in
theorem am_callS {x z b c d : Nat} {vs rest : List am_V} {Q2 : tQ} (hd : decode (am_cb y) pc = .ok (.invokestatic x, 3)) (hz : am_okm z = true) (hfl : am_fl z = 1) (hlk : am_lnk y x z b c d = true) (hs : am_spl (b) st [] = some (vs, rest)) (hW : am_cats rest ≤ 8) (hf : u + (am_rm z).cells ≤ (am_rm y).cells ∧ w + (am_rm z).slots ≤ (am_rm y).slots) (hE : am_E l z vs σ τ ρ cn ln Q2)
    (K : ∀ v σ2 τ2 ρ2 cn2 ln2, Q2 v σ2 τ2 ρ2 cn2 ln2 → am_G l y Q (u + (am_rm z).cells) (w + (am_rm z).slots) (pc + 3) ls (am_push v rest) σ2 τ2 ρ2 cn2 ln2) : am_G l y Q u w pc ls st σ τ ρ cn ln := by
  obtain ⟨o1, o2, o3, o4, o5, o6, o7, -⟩ := am_okm_inv hz
  obtain ⟨k1, k2, k3, k4⟩ := am_lnk_inv hlk
  obtain ⟨as, a1, a2, a3⟩ := am_spl_ok _ _ _ _ _ hs
  subst a2
  rw [List.append_nil] at a3
  intro p e s m args below meth cc D ca ad0 L0 A ad L H locs lsA hX hL hY hS hl hVl hV
  obtain ⟨hVa, hVr⟩ := am_Vs_app hV
  have hVvs : am_Vs cn vs := by rw [a3]; exact am_Vs_rev hVa
  have hst : (as ++ rest).map (am_cv ad) = (vs.map (am_cv ad)).reverse ++ rest.map (am_cv ad) := by rw [a3, List.map_append, List.map_reverse, List.reverse_reverse]
  have hWr : 2 * (F0 m pc lsA ((as ++ rest).map (am_cv ad))).monitorRoom + ((rest.map (am_cv ad)).map fun v => v.category).sum ≤ 8 := by
    show 2 * 0 + _ ≤ 8
    rw [am_cats_sum]
    omega
  have hfix : CallFix p m cc (am_cb y) (am_ml y) s args (am_ws y) (am_nm y).cls := ⟨hX.1, hX.2.1, hX.2.2.2.1, hX.2.2.2.2.2.1, hX.2.2.2.2.1⟩
  have hts := hX.2.2.2.2.1
  have hlen : (vs.map (am_cv ad)).length = b := by rw [a3]; simp [a1]
  have hp : PreS s H (am_P D ca ad L σ τ ρ cn ln vs H.size) (vs.map (am_cv ad)) := ⟨am_P_blind, fun U hU hWU => am_P_pre hY hX.2.2.2.2.2.2.2.2.1 hX.2.2.2.2.2.2.2.2.2.1 hU hWU hVvs⟩
  cases hd0 : Nat.beq d 0 with
  | true =>
    rw [hd0] at k1
    exact am_after (va_runS (Ts := am_ws y) (own := (am_nm y).cls) hfix (hE D ca ad L H.size) ⟨callB_of b hts (am_good o1) rfl rfl rfl (am_word hts o2) (am_word hts (am_in_in k1)) ⟨o3.1, o3.2, k2⟩ ⟨k3, k4⟩, am_word hts (o6 hfl)⟩ hp rfl hlen hl.1 hst hWr hd hf) hX hL hY hS hl hVl hVr K
  | false =>
    rw [hd0] at k1
    exact am_after (va_runSN (Ts := am_ws y) (own := (am_nm y).cls) hfix (hE D ca ad L H.size) ⟨va_cnB b hts (am_good o1) rfl rfl rfl (am_nest hX.2.2.2.2.2.2.2.2.2.1 (of_decide_eq_true k1)) (am_word hts o2) ⟨o3.1, o3.2, k2⟩ ⟨k3, k4⟩, am_word hts (o6 hfl), trivial⟩ hp rfl hlen hl.1 hst hWr hd hf) hX hL hY hS hl hVl hVr K
set_option maxHeartbeats 8000000 in
theorem am_callV {x z b c d k o : Nat} {vs rest : List am_V} {Q2 : tQ} (hd : decode (am_cb y) pc = .ok (.invokevirtual x, 3)) (hz : am_okm z = true) (hfl : am_fl z = 0) (hlk : am_lnk y x z b c d = true) (hs : am_spl (b + 1) st [] = some ((.inr (.inr (some (k, o))) :: vs), rest)) (hW : am_cats rest ≤ 8) (hr : Nat.beq k (am_cx z) = true) (hf : u + (am_rm z).cells ≤ (am_rm y).cells ∧ w + (am_rm z).slots ≤ (am_rm y).slots) (hE : am_E l z (.inr (.inr (some (k, o))) :: vs) σ τ ρ cn ln Q2)
    (K : ∀ v σ2 τ2 ρ2 cn2 ln2, Q2 v σ2 τ2 ρ2 cn2 ln2 → am_G l y Q (u + (am_rm z).cells) (w + (am_rm z).slots) (pc + 3) ls (am_push v rest) σ2 τ2 ρ2 cn2 ln2) : am_G l y Q u w pc ls st σ τ ρ cn ln := by
  obtain ⟨o1, o2, o3, o4, o5, o6, o7, -⟩ := am_okm_inv hz
  obtain ⟨k1, k2, k3, k4⟩ := am_lnk_inv hlk
  obtain ⟨as, a1, a2, a3⟩ := am_spl_ok _ _ _ _ _ hs
  subst a2
  rw [List.append_nil] at a3
  intro p e s m args below meth cc D ca ad0 L0 A ad L H locs lsA hX hL hY hS hl hVl hV
  obtain ⟨hVa, hVr⟩ := am_Vs_app hV
  have hVvs : am_Vs cn (.inr (.inr (some (k, o))) :: vs) := by rw [a3]; exact am_Vs_rev hVa
  have hst : (as ++ rest).map (am_cv ad) = ((.inr (.inr (some (k, o))) :: vs).map (am_cv ad)).reverse ++ rest.map (am_cv ad) := by rw [a3, List.map_append, List.map_reverse, List.reverse_reverse]
  have hWr : 2 * (F0 m pc lsA ((as ++ rest).map (am_cv ad))).monitorRoom + ((rest.map (am_cv ad)).map fun v => v.category).sum ≤ 8 := by
    show 2 * 0 + _ ≤ 8
    rw [am_cats_sum]
    omega
  have hfix : CallFix p m cc (am_cb y) (am_ml y) s args (am_ws y) (am_nm y).cls := ⟨hX.1, hX.2.1, hX.2.2.2.1, hX.2.2.2.2.2.1, hX.2.2.2.2.1⟩
  have hts := hX.2.2.2.2.1
  have hst2 : (as ++ rest).map (am_cv ad) = (vs.map (am_cv ad)).reverse ++ .ref (ad k o) :: rest.map (am_cv ad) := by
    rw [hst, List.map_cons, List.reverse_cons, List.append_assoc]
    rfl
  have hlen : (vs.map (am_cv ad)).length = b := by
    have h1 := congrArg List.length a3
    simp only [List.length_cons, List.length_reverse, a1] at h1
    simp only [List.length_map]
    omega
  obtain ⟨g1, g2, g3⟩ := o5 hfl
  obtain rfl := am_beq hr
  cases hvw : vwCl[am_cx z]? with
  | none => rw [hvw] at g3; cases g3
  | some r =>
    rw [hvw] at g3
    have g3 : r.1 = (am_nm z).cls := Option.some.inj g3
    obtain ⟨rC, rT, rN⟩ := r
    obtain ⟨q0, hq1, hq2⟩ := hY.at (k := am_cx z) (i := o) hVvs.1
    rw [am_ce_obj (am_cl hvw).1] at hq2
    have hrecv := va_recv hX.2.2.2.2.2.2.2.2.1 hY.2.2.1 hvw hq2
    rw [g3] at hrecv
    have hp : PreV s H (am_nm z).cls (ad (am_cx z) o) (am_P D ca ad L σ τ ρ cn ln (.inr (.inr (some (am_cx z, o))) :: vs) H.size) (vs.map (am_cv ad)) := ⟨am_P_blind, hrecv, fun U hU hWU => am_P_pre hY hX.2.2.2.2.2.2.2.2.1 hX.2.2.2.2.2.2.2.2.2.1 hU hWU hVvs⟩
    cases hd0 : Nat.beq d 0 with
    | true =>
      rw [hd0] at k1
      exact am_after (va_runV (Ts := am_ws y) (own := (am_nm y).cls) hfix (hE D ca ad L H.size) ⟨callB_of b hts (am_good o1) rfl rfl rfl (am_word hts o2) (am_word hts (am_in_in k1)) ⟨o3.1, o3.2, k2⟩ ⟨k3, k4⟩, am_word hts g1, am_word hts g2⟩ hp rfl hlen hl.1 hst2 hWr hd hf) hX hL hY hS hl hVl hVr K
    | false =>
      rw [hd0] at k1
      exact am_after (va_runVN (Ts := am_ws y) (own := (am_nm y).cls) hfix (hE D ca ad L H.size) ⟨va_cnB b hts (am_good o1) rfl rfl rfl (am_nest hX.2.2.2.2.2.2.2.2.2.1 (of_decide_eq_true k1)) (am_word hts o2) ⟨o3.1, o3.2, k2⟩ ⟨k3, k4⟩, am_word hts g1, am_word hts g2⟩ hp rfl hlen hl.1 hst2 hWr hd hf) hX hL hY hS hl hVl hVr K
set_option maxHeartbeats 8000000 in
theorem am_callI {x z b c d k o : Nat} {vs rest : List am_V} {Q2 : tQ} (hd : decode (am_cb y) pc = .ok (.invokespecial x, 3)) (hz : am_okm z = true) (hfl : am_fl z = 2) (hlk : am_lnk y x z b c d = true) (hs : am_spl (b + 1) st [] = some ((.inr (.inr (some (k, o))) :: vs), rest)) (hW : am_cats rest ≤ 8) (hf : u + (am_rm z).cells ≤ (am_rm y).cells ∧ w + (am_rm z).slots ≤ (am_rm y).slots) (hE : am_E l z (.inr (.inr (some (k, o))) :: vs) σ τ ρ cn ln Q2)
    (K : ∀ v σ2 τ2 ρ2 cn2 ln2, Q2 v σ2 τ2 ρ2 cn2 ln2 → am_G l y Q (u + (am_rm z).cells) (w + (am_rm z).slots) (pc + 3) ls (am_push v rest) σ2 τ2 ρ2 cn2 ln2) : am_G l y Q u w pc ls st σ τ ρ cn ln := by
  obtain ⟨o1, o2, o3, o4, o5, o6, o7, -⟩ := am_okm_inv hz
  obtain ⟨k1, k2, k3, k4⟩ := am_lnk_inv hlk
  obtain ⟨as, a1, a2, a3⟩ := am_spl_ok _ _ _ _ _ hs
  subst a2
  rw [List.append_nil] at a3
  intro p e s m args below meth cc D ca ad0 L0 A ad L H locs lsA hX hL hY hS hl hVl hV
  obtain ⟨hVa, hVr⟩ := am_Vs_app hV
  have hVvs : am_Vs cn (.inr (.inr (some (k, o))) :: vs) := by rw [a3]; exact am_Vs_rev hVa
  have hst : (as ++ rest).map (am_cv ad) = ((.inr (.inr (some (k, o))) :: vs).map (am_cv ad)).reverse ++ rest.map (am_cv ad) := by rw [a3, List.map_append, List.map_reverse, List.reverse_reverse]
  have hWr : 2 * (F0 m pc lsA ((as ++ rest).map (am_cv ad))).monitorRoom + ((rest.map (am_cv ad)).map fun v => v.category).sum ≤ 8 := by
    show 2 * 0 + _ ≤ 8
    rw [am_cats_sum]
    omega
  have hfix : CallFix p m cc (am_cb y) (am_ml y) s args (am_ws y) (am_nm y).cls := ⟨hX.1, hX.2.1, hX.2.2.2.1, hX.2.2.2.2.2.1, hX.2.2.2.2.1⟩
  have hts := hX.2.2.2.2.1
  have hst2 : (as ++ rest).map (am_cv ad) = (vs.map (am_cv ad)).reverse ++ .ref (ad k o) :: rest.map (am_cv ad) := by
    rw [hst, List.map_cons, List.reverse_cons, List.append_assoc]
    rfl
  have hlen : (vs.map (am_cv ad)).length = b := by
    have h1 := congrArg List.length a3
    simp only [List.length_cons, List.length_reverse, a1] at h1
    simp only [List.length_map]
    omega
  obtain ⟨g1, g2, g3⟩ := o7 hfl
  have o1' : Cond.code (am_nm z) (am_cb z) (am_ml z) none ∈ am_gd := by rw [← g3]; exact o1
  have hws : am_ws z = Cond.code (am_nm z) (am_cb z) (am_ml z) none :: am_gd := by unfold am_ws; rw [g3]
  have hp : PreS s H (am_P D ca ad L σ τ ρ cn ln (.inr (.inr (some (k, o))) :: vs) H.size) (.ref (ad k o) :: vs.map (am_cv ad)) := ⟨am_P_blind, fun U hU hWU => am_P_pre hY hX.2.2.2.2.2.2.2.2.1 hX.2.2.2.2.2.2.2.2.2.1 hU hWU hVvs⟩
  cases hd0 : Nat.beq d 0 with
  | true =>
    rw [hd0] at k1
    exact am_after (va_runI (Ts := am_ws y) (own := (am_nm y).cls) hfix (hE D ca ad L H.size) (cwI b hts (am_good o1) hws rfl rfl (am_word hts o2) (am_word hts (am_in_in k1)) (am_word hts g1) g2 ⟨o3.1, o3.2, k2⟩ ⟨k3, k4⟩) hp rfl hlen hl.1 hst2 hWr hd hf) hX hL hY hS hl hVl hVr K
  | false =>
    rw [hd0] at k1
    exact am_after (va_runIN (Ts := am_ws y) (own := (am_nm y).cls) hfix (hE D ca ad L H.size) ⟨va_cnB b hts (am_good o1) hws rfl rfl (am_nest hX.2.2.2.2.2.2.2.2.2.1 (of_decide_eq_true k1)) (am_word hts o2) ⟨o3.1, o3.2, k2⟩ ⟨k3, k4⟩, g2, am_word hts g1⟩ hp rfl hlen hl.1 hst2 hWr hd hf) hX hL hY hS hl hVl hVr K
theorem am_oi : Cond.instanceMethod objectInit ∈ am_gd ∧ Cond.code objectInit ⟨#[0xb1]⟩ 1 none ∈ am_gd := ⟨am_gd_all (ws := [Cond.instanceMethod objectInit, Cond.code objectInit ⟨#[0xb1]⟩ 1 none]) (by decide +kernel) _ List.mem_cons_self, am_gd_all (ws := [Cond.instanceMethod objectInit, Cond.code objectInit ⟨#[0xb1]⟩ 1 none]) (by decide +kernel) _ (List.mem_cons_of_mem _ List.mem_cons_self)⟩
theorem am_callO {x c k i : Nat} {rest : List am_V} (hd : decode (am_cb y) pc = .ok (.invokespecial x, 3)) (hlk : (am_has c (.methodLink (am_nm y).cls x objectInit) && (Nat.ble 1 (am_rm y).frames && Nat.ble 20 (am_rm y).locals)) = true) (hW : am_cats rest ≤ 8) (K : am_G l y Q u w (pc + 3) ls rest σ τ ρ cn ln) : am_G l y Q u w pc ls (.inr (.inr (some (k, i))) :: rest) σ τ ρ cn ln := by
  simp only [Bool.and_eq_true] at hlk
  intro p e s m args below meth cc D ca ad0 L0 A ad L H locs lsA hX hL hY hS hl hVl hV
  have hlo := Nat.le_of_ble_eq_true hlk.2.2
  exact W.objInit hX.1 hX.2.1 hX.2.2.2.2.2.1 (am_word hX.2.2.2.2.1 (am_in_in hlk.1)) (am_word hX.2.2.2.2.1 am_oi.1) (am_word hX.2.2.2.2.1 am_oi.2) rfl (by rw [hX.2.2.2.1]; exact hl.1) rfl hd (Nat.le_of_ble_eq_true hlk.2.1) (by show 2 * 0 + _ + 12 ≤ _; rw [am_cats_sum]; omega) (K p e s m args below meth cc D ca ad0 L0 A ad L H locs lsA hX hL hY hS hl hVl hV.2)
def cp3 (σ : tI) (k1 o1 k0 o0 sp dp n : Nat) : tI := fun a b c => if a = k1 then if b = o1 then if dp ≤ c ∧ c < dp + n then σ k0 o0 (sp + (c - dp)) else σ a b c else σ a b c else σ a b c
theorem cp3_ne (σ : tI) {k1 o1 k0 o0 sp dp n : Nat} {q : Nat × Nat} (h : q ≠ (k1, o1)) : cp3 σ k1 o1 k0 o0 sp dp n q.1 q.2 = σ q.1 q.2 := by
  funext c
  by_cases h1 : q.1 = k1
  · have h2 : q.2 ≠ o1 := fun z => h (Prod.ext h1 z)
    simp [cp3, h2]
  · simp [cp3, h1]
theorem am_ac : Cond.native arraycopyName ∈ am_gd ∧ Cond.static arraycopyName ∈ am_gd ∧ Cond.initialized "java/lang/System" ∈ am_gd := ⟨am_gd_all (ws := [Cond.native arraycopyName, Cond.static arraycopyName, Cond.initialized "java/lang/System"]) (by decide +kernel) _ List.mem_cons_self, am_gd_all (ws := [Cond.native arraycopyName, Cond.static arraycopyName, Cond.initialized "java/lang/System"]) (by decide +kernel) _ (List.mem_cons_of_mem _ List.mem_cons_self), am_gd_all (ws := [Cond.native arraycopyName, Cond.static arraycopyName, Cond.initialized "java/lang/System"]) (by decide +kernel) _ (List.mem_cons_of_mem _ (List.mem_cons_of_mem _ List.mem_cons_self))⟩
theorem am_nfw : nativeFrameWords "java/lang/System" "arraycopy" 5 = 7 := by decide +kernel
set_option maxHeartbeats 4000000 in
theorem am_callA {x c k0 o0 k1 o1 : Nat} {sp dp n : Int32} {rest : List am_V} (hd : decode (am_cb y) pc = .ok (.invokestatic x, 3)) (hlk : (am_has c (.methodLink (am_nm y).cls x arraycopyName) && (Nat.ble 1 (am_rm y).frames && Nat.ble 26 (am_rm y).locals)) = true) (hW : am_cats rest ≤ 8) (h0 : am_ek k0 = 0) (h1 : am_ek k1 = 0) (c1 : ¬ sp < 0) (c2 : ¬ dp < 0) (c3 : ¬ n < 0) (c4 : sp.toNatClampNeg + n.toNatClampNeg ≤ ln k0 o0) (c5 : dp.toNatClampNeg + n.toNatClampNeg ≤ ln k1 o1)
    (K : am_G l y Q u w (pc + 3) ls rest (cp3 σ k1 o1 k0 o0 sp.toNatClampNeg dp.toNatClampNeg n.toNatClampNeg) τ ρ cn ln) : am_G l y Q u w pc ls (.inl n :: .inl dp :: .inr (.inr (some (k1, o1))) :: .inl sp :: .inr (.inr (some (k0, o0))) :: rest) σ τ ρ cn ln := by
  simp only [Bool.and_eq_true] at hlk
  intro p e s m args below meth cc D ca ad0 L0 A ad L H locs lsA hX hL hY hS hl hVl hV
  have hlo := Nat.le_of_ble_eq_true hlk.2.2
  obtain ⟨q0, hq1, hq2⟩ := hY.at (k := k0) (i := o0) hV.2.2.2.2.1
  rw [am_ce_int (by omega)] at hq2
  obtain ⟨r0, hr1, hr2⟩ := hY.at (k := k1) (i := o1) hV.2.2.1
  rw [am_ce_int (by omega)] at hr2
  refine va_copyi (D := D) (cl := vwCl) (ws := am_wl ca ad σ τ ρ ln L) (tys := am_ty ca) (ty := .int) hX.1 hX.2.1 (by rw [hX.2.2.2.1]; exact hl.1.symm) hX.2.2.2.2.2.1 (am_word hX.2.2.2.2.1 (am_in_in hlk.1)) (am_word hX.2.2.2.2.1 am_ac.1) (am_word hX.2.2.2.2.1 am_ac.2.1) (am_word hX.2.2.2.2.1 am_ac.2.2) hX.2.2.2.2.2.2.2.2.1 hY.2.2.1 hY.2.2.2 hS q0 r0 (am_ek k0) (am_ek k1) hq2 hr2 (am_tyget ca h0) (am_tyget ca h1) rfl c1 c2 c3 c4 c5 (fun _ _ => rfl) (Nat.le_of_ble_eq_true hlk.2.1) (by rw [am_cats_sum, am_nfw]; omega) hd (fun H1 locs1 hP1 hD1 hS1 => ?_)
  have hY1 : am_Y D ca A ad L H1 (cp3 σ k1 o1 k0 o0 sp.toNatClampNeg dp.toNatClampNeg n.toNatClampNeg) τ ρ cn ln := by
    refine hY.put hr1 hP1 hD1 ?_ (fun q hq => am_ce_congr (cp3_ne σ hq) rfl rfl) hY.2.1
    rw [am_ce_int (by omega)]
    congr 4
    funext j
    simp [cp3, va_cpy]
  exact K p e s m args below meth cc D ca ad0 L0 A ad L H1 locs1 lsA hX hL hY1 hS1 hl hVl hV.2.2.2.2.2
theorem am_mm : Cond.static Lib.Math.max.name ∈ am_gd ∧ Cond.static Lib.Math.min.name ∈ am_gd ∧ Cond.initialized "java/lang/Math" ∈ am_gd ∧ Cond.code Lib.Math.max.name Lib.Math.max.code 2 (some .int) ∈ am_gd ∧ Cond.code Lib.Math.min.name Lib.Math.min.code 2 (some .int) ∈ am_gd := by
  have h := am_gd_all (ws := [Cond.static Lib.Math.max.name, Cond.static Lib.Math.min.name, Cond.initialized "java/lang/Math", Cond.code Lib.Math.max.name Lib.Math.max.code 2 (some .int), Cond.code Lib.Math.min.name Lib.Math.min.code 2 (some .int)]) (by decide +kernel)
  exact ⟨h _ (by simp), h _ (by simp), h _ (by simp), h _ (by simp), h _ (by simp)⟩
theorem am_mml : am_ml 260 = 2 ∧ am_ml 261 = 2 := by decide +kernel
theorem am_mmn : am_nm 260 = Lib.Math.max.name ∧ am_nm 261 = Lib.Math.min.name := by decide +kernel
theorem am_callMax {x b c : Nat} {g h : Int32} {rest : List am_V} (hd : decode (am_cb y) pc = .ok (.invokestatic x, 3)) (hlk : am_lnk y x 260 b c 0 = true) (hW : am_cats rest ≤ 8) (hu : u ≤ (am_rm y).cells) (hw : w ≤ (am_rm y).slots)
    (K : am_G l y Q u w (pc + 3) ls (.inl (if g < h then h else g) :: rest) σ τ ρ cn ln) : am_G l y Q u w pc ls (.inl h :: .inl g :: rest) σ τ ρ cn ln := by
  obtain ⟨k1, -, k3, k4⟩ := am_lnk_inv hlk
  have k1 := am_in_in (show am_has c (.methodLink (am_nm y).cls x (am_nm 260)) = true from k1)
  rw [am_mmn.1] at k1
  have hm2 := am_mml.1
  intro p e s m args below meth cc D ca ad0 L0 A ad L H locs lsA hX hL hY hS hl hVl hV
  exact va_mmax hX.1 hX.2.1 (by rw [hX.2.2.2.1]; exact hl.1.symm) hX.2.2.2.2.2.1 (am_word hX.2.2.2.2.1 k1) (am_word hX.2.2.2.2.1 am_mm.1) (am_word hX.2.2.2.2.1 am_mm.2.2.1) (am_word hX.2.2.2.2.1 am_mm.2.2.2.1) (by omega) (by rw [am_cats_sum]; omega) hu hw hd (K p e s m args below meth cc D ca ad0 L0 A ad L H locs lsA hX hL hY hS hl hVl ⟨trivial, hV.2.2⟩)
theorem am_callMin {x b c : Nat} {g h : Int32} {rest : List am_V} (hd : decode (am_cb y) pc = .ok (.invokestatic x, 3)) (hlk : am_lnk y x 261 b c 0 = true) (hW : am_cats rest ≤ 8) (hu : u ≤ (am_rm y).cells) (hw : w ≤ (am_rm y).slots)
    (K : am_G l y Q u w (pc + 3) ls (.inl (if h < g then h else g) :: rest) σ τ ρ cn ln) : am_G l y Q u w pc ls (.inl h :: .inl g :: rest) σ τ ρ cn ln := by
  obtain ⟨k1, -, k3, k4⟩ := am_lnk_inv hlk
  have k1 := am_in_in (show am_has c (.methodLink (am_nm y).cls x (am_nm 261)) = true from k1)
  rw [am_mmn.2] at k1
  have hm2 := am_mml.2
  intro p e s m args below meth cc D ca ad0 L0 A ad L H locs lsA hX hL hY hS hl hVl hV
  exact va_mmin hX.1 hX.2.1 (by rw [hX.2.2.2.1]; exact hl.1.symm) hX.2.2.2.2.2.1 (am_word hX.2.2.2.2.1 k1) (am_word hX.2.2.2.2.1 am_mm.2.1) (am_word hX.2.2.2.2.1 am_mm.2.2.1) (am_word hX.2.2.2.2.1 am_mm.2.2.2.2) (by omega) (by rw [am_cats_sum]; omega) hu hw hd (K p e s m args below meth cc D ca ad0 L0 A ad L H locs lsA hX hL hY hS hl hVl ⟨trivial, hV.2.2⟩)
end AMC
