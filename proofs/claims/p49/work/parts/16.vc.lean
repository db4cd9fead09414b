/-! THE WALK of a method without news, as a proposition that unfolds by itself -/
def am_stop : List Nat → Nat → Bool
  | [], _ => false
  | a :: r, pc => bif Nat.beq a pc then true else am_stop r pc
def am_vs1 (K : Nat → Prop) (x : Int32) : List (Int32 × Nat) → Prop
  | [] => True
  | (c, t) :: r => (x = c → K t) ∧ am_vs1 K x r
def am_vs2 (x : Int32) (P : Prop) : List (Int32 × Nat) → Prop
  | [] => P
  | (c, _) :: r => ¬ x = c → am_vs2 x P r
def am_vsw (K : Nat → Prop) (x : Int32) (sl : List (Int32 × Nat)) (d : Nat) : Prop := am_vs1 K x sl ∧ am_vs2 x (K d) sl
noncomputable def am_vc (l : Launch) (y : Nat) (Q : tQ) (f : Nat → Option am_en) (sp : List Nat) : Nat → Nat → am_ls → List am_V → tI → tL → tR → tN → tM → Prop
  | 0, pc, ls, st, σ, τ, ρ, cn, ln => am_G l y Q 0 0 pc ls st σ τ ρ cn ln
  | n + 1, pc, ls, st, σ, τ, ρ, cn, ln => match f pc with
    | none => False
    | some (i, _, nx, a, b, _, d, v, sl) => am_step False
        (fun pc2 ls2 st2 => bif am_stop sp pc2 then am_G l y Q 0 0 pc2 ls2 st2 σ τ ρ cn ln else am_vc l y Q f sp n pc2 ls2 st2 σ τ ρ cn ln)
        (fun c pc2 st2 => match c with
          | ⟨c, _⟩ => c ∧ (bif am_stop sp pc2 then am_G l y Q 0 0 pc2 ls st2 σ τ ρ cn ln else am_vc l y Q f sp n pc2 ls st2 σ τ ρ cn ln))
        (fun pc2 st2 σ2 τ2 ρ2 => bif am_stop sp pc2 then am_G l y Q 0 0 pc2 ls st2 σ2 τ2 ρ2 cn ln else am_vc l y Q f sp n pc2 ls st2 σ2 τ2 ρ2 cn ln)
        (fun c pc2 st2 σ2 τ2 ρ2 => match c with
          | ⟨c, _⟩ => c ∧ (bif am_stop sp pc2 then am_G l y Q 0 0 pc2 ls st2 σ2 τ2 ρ2 cn ln else am_vc l y Q f sp n pc2 ls st2 σ2 τ2 ρ2 cn ln))
        (fun _ _ _ _ _ _ _ _ _ => False)
        (fun c p1 p2 st2 => match c with
          | ⟨c, _⟩ => (c → (bif am_stop sp p1 then am_G l y Q 0 0 p1 ls st2 σ τ ρ cn ln else am_vc l y Q f sp n p1 ls st2 σ τ ρ cn ln)) ∧ (¬ c → (bif am_stop sp p2 then am_G l y Q 0 0 p2 ls st2 σ τ ρ cn ln else am_vc l y Q f sp n p2 ls st2 σ τ ρ cn ln)))
        (fun x sl d st2 => am_vsw (fun pc2 => bif am_stop sp pc2 then am_G l y Q 0 0 pc2 ls st2 σ τ ρ cn ln else am_vc l y Q f sp n pc2 ls st2 σ τ ρ cn ln) x sl d)
        (am_G l y Q 0 0 pc ls st σ τ ρ cn ln)
        i nx a b d v sl ls st σ τ ρ cn ln
theorem am_vs1_ok {K : Nat → Prop} {x : Int32} : ∀ {sl : List (Int32 × Nat)}, am_vs1 K x sl → ∀ q ∈ sl, x = q.1 → K q.2
  | [], _, _, hq, _ => absurd hq List.not_mem_nil
  | (c, t) :: r, h, q, hq, e => by
    rcases List.mem_cons.mp hq with rfl | hq
    · exact h.1 e
    · exact am_vs1_ok h.2 q hq e
theorem am_vs2_ok {P : Prop} {x : Int32} : ∀ {sl : List (Int32 × Nat)}, am_vs2 x P sl → (∀ q ∈ sl, x ≠ q.1) → P
  | [], h, _ => h
  | (c, t) :: r, h, hn => am_vs2_ok (h (hn (c, t) List.mem_cons_self)) (fun q hq => hn q (List.mem_cons_of_mem _ hq))
section AMV
variable {l : Launch} {y : Nat} {Q : tQ} {f : Nat → Option am_en}
theorem am_vc_ok (hf : ∀ {pc : Nat} {e : am_en}, f pc = some e → am_ck y pc e = true) (sp : List Nat) : ∀ (n : Nat) {pc : Nat} {ls : am_ls} {st : List am_V} {σ : tI} {τ : tL} {ρ : tR} {cn : tN} {ln : tM}, am_vc l y Q f sp n pc ls st σ τ ρ cn ln → am_G l y Q 0 0 pc ls st σ τ ρ cn ln
  | 0, _, _, _, _, _, _, _, _, h => h
  | n + 1, pc, ls, st, σ, τ, ρ, cn, ln, h => by
    have bf : ∀ {pc2 : Nat} {ls2 : am_ls} {st2 : List am_V} {σ2 : tI} {τ2 : tL} {ρ2 : tR}, (bif am_stop sp pc2 then am_G l y Q 0 0 pc2 ls2 st2 σ2 τ2 ρ2 cn ln else am_vc l y Q f sp n pc2 ls2 st2 σ2 τ2 ρ2 cn ln) → am_G l y Q 0 0 pc2 ls2 st2 σ2 τ2 ρ2 cn ln := by
      intro pc2 ls2 st2 σ2 τ2 ρ2 hb
      cases hc : am_stop sp pc2 with
      | true => rw [hc] at hb; exact hb
      | false => rw [hc] at hb; exact am_vc_ok hf sp n hb
    rw [am_vc] at h
    cases he : f pc with
    | none => rw [he] at h; exact h.elim
    | some en =>
      obtain ⟨i, len, nx, a, b, c, d, v, sl⟩ := en
      rw [he] at h
      refine am_step_ok h (hf he) (fun _ _ _ h => bf h) (fun _ _ _ h => ⟨h.1, bf h.2⟩) (fun _ _ _ _ _ h => bf h) (fun _ _ _ _ _ _ h => ⟨h.1, bf h.2⟩) (fun _ _ _ _ _ _ _ _ _ h => h.elim) (fun _ _ _ _ h => ⟨fun hc => bf (h.1 hc), fun hc => bf (h.2 hc)⟩) (fun _ _ _ _ h => ⟨fun q hq e => bf (am_vs1_ok h.1 q hq e), fun hn => bf (am_vs2_ok h.2 hn)⟩) (fun h => h)
/-- a method's contract that names its answer and its end -/
noncomputable def am_D (l : Launch) (z : Nat) (vs : List am_V) (σ : tI) (τ : tL) (ρ : tR) (cn : tN) (ln : tM) (r : Option am_V) (σ2 : tI) (τ2 : tL) (ρ2 : tR) : Prop :=
  am_okm z = true ∧ am_E l z vs σ τ ρ cn ln (fun v s t p c n => v = r ∧ s = σ2 ∧ t = τ2 ∧ p = ρ2 ∧ c = cn ∧ n = ln)
variable {pc : Nat} {ls : am_ls} {st : List am_V} {σ : tI} {τ : tL} {ρ : tR} {cn : tN} {ln : tM}
theorem am_D_of {vs : List am_V} {r : Option am_V} {σ2 : tI} {τ2 : tL} {ρ2 : tR} {m : Nat} (ho : am_okm y = true) (hm : am_ml y = m) (hc : Nat.ble (am_cats vs) m = true) (hG : am_G l y (fun v s t p c n => v = r ∧ s = σ2 ∧ t = τ2 ∧ p = ρ2 ∧ c = cn ∧ n = ln) 0 0 0 (am_args 0 vs) [] σ τ ρ cn ln) : am_D l y vs σ τ ρ cn ln r σ2 τ2 ρ2 :=
  ⟨ho, am_E_of (am_okm_inv ho).2.2.2.1 (by rw [hm]; exact Nat.le_of_ble_eq_true hc) hG⟩
theorem am_vI (hf : ∀ {pc : Nat} {e : am_en}, f pc = some e → am_ck y pc e = true) (hr : am_rt y = some .int) {x : Int32} {n a b c d : Nat} {v : am_V} {sl : List (Int32 × Nat)} (e : f pc = some (.ireturn, 1, n, a, b, c, d, v, sl)) (hQ : Q (some (.inl x)) σ τ ρ cn ln) : am_G l y Q 0 0 pc ls [.inl x] σ τ ρ cn ln :=
  am_zret (am_ck_inv (hf e)).1 hr rfl (Nat.zero_le _) (Nat.zero_le _) hQ
theorem am_vZ (hf : ∀ {pc : Nat} {e : am_en}, f pc = some e → am_ck y pc e = true) (hr : am_rt y = some .boolean) {x : Int32} {n a b c d : Nat} {v : am_V} {sl : List (Int32 × Nat)} (e : f pc = some (.ireturn, 1, n, a, b, c, d, v, sl)) (hx : x = 0 ∨ x = 1) (hQ : Q (some (.inl x)) σ τ ρ cn ln) : am_G l y Q 0 0 pc ls [.inl x] σ τ ρ cn ln :=
  am_zret (am_ck_inv (hf e)).1 hr (by rcases hx with rfl | rfl <;> decide +kernel) (Nat.zero_le _) (Nat.zero_le _) hQ
theorem am_vL (hf : ∀ {pc : Nat} {e : am_en}, f pc = some e → am_ck y pc e = true) (hr : am_rt y = some .long) {x : Int64} {n a b c d : Nat} {v : am_V} {sl : List (Int32 × Nat)} (e : f pc = some (.lreturn, 1, n, a, b, c, d, v, sl)) (hQ : Q (some (.inr (.inl x))) σ τ ρ cn ln) : am_G l y Q 0 0 pc ls [.inr (.inl x)] σ τ ρ cn ln :=
  am_lret (am_ck_inv (hf e)).1 hr (Nat.zero_le _) (Nat.zero_le _) hQ
theorem am_vV (hf : ∀ {pc : Nat} {e : am_en}, f pc = some e → am_ck y pc e = true) (hr : am_rt y = none) {n a b c d : Nat} {v : am_V} {sl : List (Int32 × Nat)} (e : f pc = some (.return_, 1, n, a, b, c, d, v, sl)) (hQ : Q none σ τ ρ cn ln) : am_G l y Q 0 0 pc ls [] σ τ ρ cn ln :=
  am_vret (am_ck_inv (hf e)).1 hr (Nat.zero_le _) (Nat.zero_le _) hQ
theorem am_rm0 {z : Nat} (h : am_okm z = true) (hz : am_fl z ≠ 2) : (am_rm z).cells = 0 ∧ (am_rm z).slots = 0 := (am_okm_inv h).2.2.2.2.2.2.2 hz
/-- a static call, by the callee's contract -/
theorem am_vS (hf : ∀ {pc : Nat} {e : am_en}, f pc = some e → am_ck y pc e = true) (hh : ∀ {pc : Nat} {e : am_en}, f pc = some e → am_ckc y e = true) {x n z b c d : Nat} {v : am_V} {sl : List (Int32 × Nat)} {vs rest : List am_V} {r : Option am_V} {σ2 : tI} {τ2 : tL} {ρ2 : tR} (e : f pc = some (.invokestatic x, 3, n, z, b, c, d, v, sl)) (hz : Nat.beq z 1001 = false) (hs : am_spl b st [] = some (vs, rest)) (hW : Nat.ble (am_cats rest) 8 = true) (hD : am_D l z vs σ τ ρ cn ln r σ2 τ2 ρ2)
    (K : am_G l y Q 0 0 n ls (am_push r rest) σ2 τ2 ρ2 cn ln) : am_G l y Q 0 0 pc ls st σ τ ρ cn ln := by
  obtain ⟨h1, h2, -⟩ := am_ck_inv (hf e)
  have h3 : (am_lnk y x z b c d && Nat.beq (am_fl z) 1) = true := by
    have h := hh e
    unfold am_ckc at h
    simp only [hz] at h
    exact h
  rw [Bool.and_eq_true] at h3
  have hfl := am_beq h3.2
  have h0 := am_rm0 hD.1 (by rw [hfl]; decide)
  subst h2
  refine am_callS h1 hD.1 hfl h3.1 hs (Nat.le_of_ble_eq_true hW) (by rw [h0.1, h0.2]; exact ⟨Nat.zero_le _, Nat.zero_le _⟩) hD.2 ?_
  rintro v2 s2 t2 p2 c2 n2 ⟨rfl, rfl, rfl, rfl, rfl, rfl⟩
  rw [h0.1, h0.2]
  exact K
/-- a call of an object's method, by the callee's contract -/
theorem am_vO (hf : ∀ {pc : Nat} {e : am_en}, f pc = some e → am_ck y pc e = true) (hh : ∀ {pc : Nat} {e : am_en}, f pc = some e → am_ckc y e = true) {x n z b c d k o : Nat} {v : am_V} {sl : List (Int32 × Nat)} {vs rest : List am_V} {r : Option am_V} {σ2 : tI} {τ2 : tL} {ρ2 : tR} (e : f pc = some (.invokevirtual x, 3, n, z, b, c, d, v, sl)) (hs : am_spl (b + 1) st [] = some (.inr (.inr (some (k, o))) :: vs, rest)) (hr : Nat.beq k (am_cx z) = true) (hW : Nat.ble (am_cats rest) 8 = true) (hD : am_D l z (.inr (.inr (some (k, o))) :: vs) σ τ ρ cn ln r σ2 τ2 ρ2)
    (K : am_G l y Q 0 0 n ls (am_push r rest) σ2 τ2 ρ2 cn ln) : am_G l y Q 0 0 pc ls st σ τ ρ cn ln := by
  obtain ⟨h1, h2, -⟩ := am_ck_inv (hf e)
  have h3 : (am_lnk y x z b c d && Nat.beq (am_fl z) 0) = true := hh e
  rw [Bool.and_eq_true] at h3
  have hfl := am_beq h3.2
  have h0 := am_rm0 hD.1 (by rw [hfl]; decide)
  subst h2
  refine am_callV h1 hD.1 hfl h3.1 hs (Nat.le_of_ble_eq_true hW) hr (by rw [h0.1, h0.2]; exact ⟨Nat.zero_le _, Nat.zero_le _⟩) hD.2 ?_
  rintro v2 s2 t2 p2 c2 n2 ⟨rfl, rfl, rfl, rfl, rfl, rfl⟩
  rw [h0.1, h0.2]
  exact K
/-- System.arraycopy over ints -/
theorem am_vA (hf : ∀ {pc : Nat} {e : am_en}, f pc = some e → am_ck y pc e = true) (hh : ∀ {pc : Nat} {e : am_en}, f pc = some e → am_ckc y e = true) {x n b c d k0 o0 k1 o1 : Nat} {sp dp k : Int32} {v : am_V} {sl : List (Int32 × Nat)} {rest : List am_V} (e : f pc = some (.invokestatic x, 3, n, 1001, b, c, d, v, sl)) (hW : Nat.ble (am_cats rest) 8 = true) (h0 : am_ek k0 = 0) (h1 : am_ek k1 = 0) (c1 : ¬ sp < 0) (c2 : ¬ dp < 0) (c3 : ¬ k < 0) (c4 : sp.toNatClampNeg + k.toNatClampNeg ≤ ln k0 o0) (c5 : dp.toNatClampNeg + k.toNatClampNeg ≤ ln k1 o1)
    (K : am_G l y Q 0 0 n ls rest (cp3 σ k1 o1 k0 o0 sp.toNatClampNeg dp.toNatClampNeg k.toNatClampNeg) τ ρ cn ln) : am_G l y Q 0 0 pc ls (.inl k :: .inl dp :: .inr (.inr (some (k1, o1))) :: .inl sp :: .inr (.inr (some (k0, o0))) :: rest) σ τ ρ cn ln := by
  obtain ⟨g1, g2, -⟩ := am_ck_inv (hf e)
  subst g2
  exact am_callA g1 (hh e) (Nat.le_of_ble_eq_true hW) h0 h1 c1 c2 c3 c4 c5 K
theorem am_vMin (hf : ∀ {pc : Nat} {e : am_en}, f pc = some e → am_ck y pc e = true) (hh : ∀ {pc : Nat} {e : am_en}, f pc = some e → am_ckc y e = true) {x n b c : Nat} {g h : Int32} {v : am_V} {sl : List (Int32 × Nat)} {rest : List am_V} (e : f pc = some (.invokestatic x, 3, n, 261, b, c, 0, v, sl)) (hW : Nat.ble (am_cats rest) 8 = true)
    (K : am_G l y Q 0 0 n ls (.inl (if h < g then h else g) :: rest) σ τ ρ cn ln) : am_G l y Q 0 0 pc ls (.inl h :: .inl g :: rest) σ τ ρ cn ln := by
  obtain ⟨g1, g2, -⟩ := am_ck_inv (hf e)
  have h3 : (am_lnk y x 261 b c 0 && Nat.beq (am_fl 261) 1) = true := hh e
  rw [Bool.and_eq_true] at h3
  subst g2
  exact am_callMin g1 h3.1 (Nat.le_of_ble_eq_true hW) (Nat.zero_le _) (Nat.zero_le _) K
theorem am_vMax (hf : ∀ {pc : Nat} {e : am_en}, f pc = some e → am_ck y pc e = true) (hh : ∀ {pc : Nat} {e : am_en}, f pc = some e → am_ckc y e = true) {x n b c : Nat} {g h : Int32} {v : am_V} {sl : List (Int32 × Nat)} {rest : List am_V} (e : f pc = some (.invokestatic x, 3, n, 260, b, c, 0, v, sl)) (hW : Nat.ble (am_cats rest) 8 = true)
    (K : am_G l y Q 0 0 n ls (.inl (if g < h then h else g) :: rest) σ τ ρ cn ln) : am_G l y Q 0 0 pc ls (.inl h :: .inl g :: rest) σ τ ρ cn ln := by
  obtain ⟨g1, g2, -⟩ := am_ck_inv (hf e)
  have h3 : (am_lnk y x 260 b c 0 && Nat.beq (am_fl 260) 1) = true := hh e
  rw [Bool.and_eq_true] at h3
  subst g2
  exact am_callMax g1 h3.1 (Nat.le_of_ble_eq_true hW) (Nat.zero_le _) (Nat.zero_le _) K
end AMV
