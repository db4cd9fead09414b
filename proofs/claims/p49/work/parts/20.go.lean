/-! THE SMALL MACHINE RUN, for the constructors -/
section AMNAT
variable {R R2 : Type}
theorem am_nat (φ : R → R2) {z : R} {nx : Nat → am_ls → List am_V → R} {nc : am_C → Nat → List am_V → R} {nu : Nat → List am_V → tI → tL → tR → R} {ns : am_C → Nat → List am_V → tI → tL → tR → R} {na : am_C → Nat → Nat → List am_V → tI → tL → tR → tN → tM → R} {br : am_C → Nat → Nat → List am_V → R} {sw : Int32 → List (Int32 × Nat) → Nat → List am_V → R} {ot : R} (i : Instr) (n a b d : Nat) (v : am_V) (sl : List (Int32 × Nat)) (ls : am_ls) (st : List am_V) (σ : tI) (τ : tL) (ρ : tR) (cn : tN) (ln : tM) :
    φ (am_step z nx nc nu ns na br sw ot i n a b d v sl ls st σ τ ρ cn ln) = am_step (φ z) (fun p l s => φ (nx p l s)) (fun c p s => φ (nc c p s)) (fun p s x y g => φ (nu p s x y g)) (fun c p s x y g => φ (ns c p s x y g)) (fun c k p s x y g e f => φ (na c k p s x y g e f)) (fun c p q s => φ (br c p q s)) (fun x l d s => φ (sw x l d s)) (φ ot) i n a b d v sl ls st σ τ ρ cn ln := by
  have hI : ∀ (st : List am_V) (k : Int32 → List am_V → R), φ (am_pI z st k) = am_pI (φ z) st (fun x r => φ (k x r)) := by
    intro st k
    unfold am_pI
    split <;> rfl
  have hL : ∀ (st : List am_V) (k : Int64 → List am_V → R), φ (am_pL z st k) = am_pL (φ z) st (fun x r => φ (k x r)) := by
    intro st k
    unfold am_pL
    split <;> rfl
  have hA : ∀ (st : List am_V) (k : Option (Nat × Nat) → List am_V → R), φ (am_pA z st k) = am_pA (φ z) st (fun x r => φ (k x r)) := by
    intro st k
    unfold am_pA
    split <;> rfl
  have hR : ∀ (st : List am_V) (k : Nat → Nat → List am_V → R), φ (am_pR z st k) = am_pR (φ z) st (fun x y r => φ (k x y r)) := by
    intro st k
    unfold am_pR
    split <;> rfl
  have h1 : ∀ (st : List am_V) (k : am_V → List am_V → R), φ (am_p1 z st k) = am_p1 (φ z) st (fun x r => φ (k x r)) := by
    intro st k
    unfold am_p1
    split <;> rfl
  have lI : ∀ (ls : am_ls) (i : Nat) (k : Int32 → R), φ (am_lI z ls i k) = am_lI (φ z) ls i (fun x => φ (k x)) := by
    intro ls i k
    unfold am_lI
    split <;> rfl
  have lL : ∀ (ls : am_ls) (i : Nat) (k : Int64 → R), φ (am_lL z ls i k) = am_lL (φ z) ls i (fun x => φ (k x)) := by
    intro ls i k
    unfold am_lL
    split <;> rfl
  have lR : ∀ (ls : am_ls) (i : Nat) (k : Nat → Nat → R), φ (am_lR z ls i k) = am_lR (φ z) ls i (fun x y => φ (k x y)) := by
    intro ls i k
    unfold am_lR
    split <;> rfl
  have hb : ∀ (c : Bool) (x y : R), φ (bif c then x else y) = bif c then φ x else φ y := by
    intro c x y
    cases c <;> rfl
  cases i
  case ifCond c off => cases c <;> simp only [am_step, hI]
  case if_icmp c off => cases c <;> simp only [am_step, hI]
  case iinc k g => rcases v with g | g <;> simp only [am_step, lI]
  case ifnull off =>
    simp only [am_step, hA]
    congr 1
    funext r st
    cases r <;> rfl
  all_goals first | rfl | simp only [am_step, hI, hL, hA, hR, h1, lI, lL, lR, hb]
end AMNAT
abbrev am_res : Type := Option am_V × tI × tL × tR × tN × tM
/-- the constructors' tables -/
noncomputable def am_Fc (y : Nat) : Nat → Option am_en :=
  bif Nat.beq y 0 then am_f0 else bif Nat.beq y 4 then am_f4 else bif Nat.beq y 9 then am_f9 else bif Nat.beq y 13 then am_f13 else bif Nat.beq y 35 then am_f35 else bif Nat.beq y 45 then am_f45 else bif Nat.beq y 56 then am_f56 else bif Nat.beq y 63 then am_f63 else bif Nat.beq y 73 then am_f73 else bif Nat.beq y 74 then am_f74 else bif Nat.beq y 87 then am_f87 else bif Nat.beq y 92 then am_f92 else bif Nat.beq y 154 then am_f154 else (fun _ => none)
theorem am_Fc_ok {y pc : Nat} {e : am_en} (h : am_Fc y pc = some e) : am_ck y pc e = true ∧ am_ckc y e = true := by
  unfold am_Fc at h
  cases h0 : Nat.beq y 0 with
  | true => rw [h0] at h; obtain rfl := am_beq h0; exact ⟨am_k0 h, am_h0 h⟩
  | false =>
  rw [h0] at h
  cases h1 : Nat.beq y 4 with
  | true => rw [h1] at h; obtain rfl := am_beq h1; exact ⟨am_k4 h, am_h4 h⟩
  | false =>
  rw [h1] at h
  cases h2 : Nat.beq y 9 with
  | true => rw [h2] at h; obtain rfl := am_beq h2; exact ⟨am_k9 h, am_h9 h⟩
  | false =>
  rw [h2] at h
  cases h3 : Nat.beq y 13 with
  | true => rw [h3] at h; obtain rfl := am_beq h3; exact ⟨am_k13 h, am_h13 h⟩
  | false =>
  rw [h3] at h
  cases h4 : Nat.beq y 35 with
  | true => rw [h4] at h; obtain rfl := am_beq h4; exact ⟨am_k35 h, am_h35 h⟩
  | false =>
  rw [h4] at h
  cases h5 : Nat.beq y 45 with
  | true => rw [h5] at h; obtain rfl := am_beq h5; exact ⟨am_k45 h, am_h45 h⟩
  | false =>
  rw [h5] at h
  cases h6 : Nat.beq y 56 with
  | true => rw [h6] at h; obtain rfl := am_beq h6; exact ⟨am_k56 h, am_h56 h⟩
  | false =>
  rw [h6] at h
  cases h7 : Nat.beq y 63 with
  | true => rw [h7] at h; obtain rfl := am_beq h7; exact ⟨am_k63 h, am_h63 h⟩
  | false =>
  rw [h7] at h
  cases h8 : Nat.beq y 73 with
  | true => rw [h8] at h; obtain rfl := am_beq h8; exact ⟨am_k73 h, am_h73 h⟩
  | false =>
  rw [h8] at h
  cases h9 : Nat.beq y 74 with
  | true => rw [h9] at h; obtain rfl := am_beq h9; exact ⟨am_k74 h, am_h74 h⟩
  | false =>
  rw [h9] at h
  cases ha : Nat.beq y 87 with
  | true => rw [ha] at h; obtain rfl := am_beq ha; exact ⟨am_k87 h, am_h87 h⟩
  | false =>
  rw [ha] at h
  cases hb : Nat.beq y 92 with
  | true => rw [hb] at h; obtain rfl := am_beq hb; exact ⟨am_k92 h, am_h92 h⟩
  | false =>
  rw [hb] at h
  cases hc : Nat.beq y 154 with
  | true => rw [hc] at h; obtain rfl := am_beq hc; exact ⟨am_k154 h, am_h154 h⟩
  | false => rw [hc] at h; cases h
noncomputable def am_run : Nat → Nat → Nat → Nat → Nat → am_ls → List am_V → tI → tL → tR → tN → tM → Option am_res
  | 0, _, _, _, _, _, _, _, _, _, _, _ => none
  | N + 1, y, u, w, pc, ls, st, σ, τ, ρ, cn, ln => match am_Fc y pc with
    | none => none
    | some (i, _, n, a, b, _, d, v, sl) => match i with
      | .return_ => match st with
        | [] => bif Nat.ble u (am_rm y).cells && Nat.ble w (am_rm y).slots then some (none, σ, τ, ρ, cn, ln) else none
        | _ => none
      | .invokespecial _ => bif Nat.beq a 1000 then (match st with
          | .inr (.inr (some _)) :: r => bif Nat.ble (am_cats r) 8 then am_run N y u w n ls r σ τ ρ cn ln else none
          | _ => none)
        else (match am_spl (b + 1) st [] with
          | some (.inr (.inr (some q)) :: vs, rest) => bif am_okm a && (Nat.ble (am_cats rest) 8 && (Nat.ble (am_cats (.inr (.inr (some q)) :: vs)) (am_ml a) && (Nat.ble (u + (am_rm a).cells) (am_rm y).cells && Nat.ble (w + (am_rm a).slots) (am_rm y).slots))) then
              (match am_run N a 0 0 0 (am_args 0 (.inr (.inr (some q)) :: vs)) [] σ τ ρ cn ln with
              | some (r, σ2, τ2, ρ2, cn2, ln2) => am_run N y (u + (am_rm a).cells) (w + (am_rm a).slots) n ls (am_push r rest) σ2 τ2 ρ2 cn2 ln2
              | none => none) else none
          | _ => none)
      | .invokestatic _ => bif Nat.beq a 260 && Nat.beq d 0 then (match st with
          | .inl h :: .inl g :: r => bif Nat.ble (am_cats r) 8 && (Nat.ble u (am_rm y).cells && Nat.ble w (am_rm y).slots) then am_run N y u w n ls (.inl (if g < h then h else g) :: r) σ τ ρ cn ln else none
          | _ => none) else none
      | _ => am_step none
          (fun pc2 ls2 st2 => am_run N y u w pc2 ls2 st2 σ τ ρ cn ln)
          (fun c pc2 st2 => match c with
            | ⟨c, h⟩ => bif @decide c h then am_run N y u w pc2 ls st2 σ τ ρ cn ln else none)
          (fun pc2 st2 σ2 τ2 ρ2 => am_run N y u w pc2 ls st2 σ2 τ2 ρ2 cn ln)
          (fun c pc2 st2 σ2 τ2 ρ2 => match c with
            | ⟨c, h⟩ => bif @decide c h then am_run N y u w pc2 ls st2 σ2 τ2 ρ2 cn ln else none)
          (fun c k pc2 st2 σ2 τ2 ρ2 cn2 ln2 => match c with
            | ⟨c, h⟩ => bif @decide c h && (Nat.ble (u + 1) (am_rm y).cells && Nat.ble (w + k) (am_rm y).slots) then am_run N y (u + 1) (w + k) pc2 ls st2 σ2 τ2 ρ2 cn2 ln2 else none)
          (fun c p1 p2 st2 => match c with
            | ⟨c, h⟩ => bif @decide c h then am_run N y u w p1 ls st2 σ τ ρ cn ln else am_run N y u w p2 ls st2 σ τ ρ cn ln)
          (fun _ _ _ _ => none) none i n a b d v sl ls st σ τ ρ cn ln
theorem am_bifs {α : Type} {c : Bool} {x : Option α} {r : α} (h : (bif c then x else none) = some r) : c = true ∧ x = some r := by
  cases c
  · cases h
  · exact ⟨rfl, h⟩
theorem am_dec {c : Prop} {h : Decidable c} (e : @decide c h = true) : c := of_decide_eq_true e
set_option maxHeartbeats 4000000 in
/-- a run of the small machine is a walk of the machine -/
theorem am_run_ok {l : Launch} : ∀ (N : Nat) {Q : tQ} {y u w pc : Nat} {ls : am_ls} {st : List am_V} {σ : tI} {τ : tL} {ρ : tR} {cn : tN} {ln : tM} {r : Option am_V} {σ2 : tI} {τ2 : tL} {ρ2 : tR} {cn2 : tN} {ln2 : tM}, am_run N y u w pc ls st σ τ ρ cn ln = some (r, σ2, τ2, ρ2, cn2, ln2) → am_rt y = none → Q r σ2 τ2 ρ2 cn2 ln2 → am_G l y Q u w pc ls st σ τ ρ cn ln
  | 0, _, _, _, _, _, _, _, _, _, _, _, _, _, _, _, _, _, _, h, _, _ => by cases h
  | N + 1, Q, y, u, w, pc, ls, st, σ, τ, ρ, cn, ln, r, σ2, τ2, ρ2, cn2, ln2, h, hrt, hQ => by
    unfold am_run at h
    cases he : am_Fc y pc with
    | none => rw [he] at h; cases h
    | some en =>
      obtain ⟨i, len, n, a, b, c, d, v, sl⟩ := en
      rw [he] at h
      obtain ⟨hck, hcc⟩ := am_Fc_ok he
      have dflt : ∀ (hh : am_step none
          (fun pc2 ls2 st2 => am_run N y u w pc2 ls2 st2 σ τ ρ cn ln)
          (fun c pc2 st2 => match c with
            | ⟨c, h⟩ => bif @decide c h then am_run N y u w pc2 ls st2 σ τ ρ cn ln else none)
          (fun pc2 st2 σ2 τ2 ρ2 => am_run N y u w pc2 ls st2 σ2 τ2 ρ2 cn ln)
          (fun c pc2 st2 σ2 τ2 ρ2 => match c with
            | ⟨c, h⟩ => bif @decide c h then am_run N y u w pc2 ls st2 σ2 τ2 ρ2 cn ln else none)
          (fun c k pc2 st2 σ2 τ2 ρ2 cn2 ln2 => match c with
            | ⟨c, h⟩ => bif @decide c h && (Nat.ble (u + 1) (am_rm y).cells && Nat.ble (w + k) (am_rm y).slots) then am_run N y (u + 1) (w + k) pc2 ls st2 σ2 τ2 ρ2 cn2 ln2 else none)
          (fun c p1 p2 st2 => match c with
            | ⟨c, h⟩ => bif @decide c h then am_run N y u w p1 ls st2 σ τ ρ cn ln else am_run N y u w p2 ls st2 σ τ ρ cn ln)
          (fun _ _ _ _ => none) none i n a b d v sl ls st σ τ ρ cn ln = some (r, σ2, τ2, ρ2, cn2, ln2)), am_G l y Q u w pc ls st σ τ ρ cn ln := by
        intro hh
        have h2 := (am_nat (fun o : Option am_res => o = some (r, σ2, τ2, ρ2, cn2, ln2)) i n a b d v sl ls st σ τ ρ cn ln).mp hh
        have hz : ((none : Option am_res) = some (r, σ2, τ2, ρ2, cn2, ln2)) = False := eq_false (fun e => by cases e)
        simp only [hz] at h2
        refine am_step_ok h2 hck (fun pc2 ls2 st2 e => am_run_ok N e hrt hQ) ?_ (fun pc2 st2 s2 t2 p2 e => am_run_ok N e hrt hQ) ?_ ?_ ?_ (fun x sl d st2 e => e.elim) (fun e => e.elim)
        · rintro ⟨c, hc⟩ pc2 st2 e
          obtain ⟨e1, e2⟩ := am_bifs e
          exact ⟨am_dec e1, am_run_ok N e2 hrt hQ⟩
        · rintro ⟨c, hc⟩ pc2 st2 s2 t2 p2 e
          obtain ⟨e1, e2⟩ := am_bifs e
          exact ⟨am_dec e1, am_run_ok N e2 hrt hQ⟩
        · rintro ⟨c, hc⟩ k pc2 st2 s2 t2 p2 c2 n2 e
          obtain ⟨e1, e2⟩ := am_bifs e
          simp only [Bool.and_eq_true] at e1
          exact ⟨am_dec e1.1, Nat.le_of_ble_eq_true e1.2.1, Nat.le_of_ble_eq_true e1.2.2, am_run_ok N e2 hrt hQ⟩
        · rintro ⟨c, hc⟩ p1 p2 st2 e
          refine ⟨fun hcc => ?_, fun hcc => ?_⟩
          · have e3 : @decide c hc = true := decide_eq_true hcc
            simp only [e3, cond_true] at e
            exact am_run_ok N e hrt hQ
          · have e3 : @decide c hc = false := decide_eq_false hcc
            simp only [e3, cond_false] at e
            exact am_run_ok N e hrt hQ
      obtain ⟨hd, hn, hk⟩ := am_ck_inv hck
      cases i
      case return_ =>
        cases st with
        | cons _ _ => cases h
        | nil =>
          obtain ⟨e1, e2⟩ := am_bifs h
          rw [Bool.and_eq_true] at e1
          cases e2
          obtain rfl := am_beq hk
          exact am_vret hd hrt (Nat.le_of_ble_eq_true e1.1) (Nat.le_of_ble_eq_true e1.2) hQ
      case invokespecial x =>
        obtain rfl := am_beq hk
        subst hn
        cases hz : Nat.beq a 1000 with
        | true =>
          simp only [hz, cond_true] at h
          have hlk : (am_has c (.methodLink (am_nm y).cls x objectInit) && (Nat.ble 1 (am_rm y).frames && Nat.ble 20 (am_rm y).locals)) = true := by
            have h3 := hcc
            unfold am_ckc at h3
            simp only [hz, cond_true] at h3
            exact h3
          split at h
          · rename_i q rs
            obtain ⟨e1, e2⟩ := am_bifs h
            exact am_callO hd hlk (Nat.le_of_ble_eq_true e1) (am_run_ok N e2 hrt hQ)
          · cases h
        | false =>
          simp only [hz, cond_false] at h
          have hlk : (am_lnk y x a b c d && Nat.beq (am_fl a) 2) = true := by
            have h3 := hcc
            unfold am_ckc at h3
            simp only [hz, cond_false] at h3
            exact h3
          rw [Bool.and_eq_true] at hlk
          split at h
          · rename_i q vs rest hs
            obtain ⟨e1, e2⟩ := am_bifs h
            simp only [Bool.and_eq_true] at e1
            obtain ⟨o1, o2, o3, o4, o5⟩ := e1
            split at e2
            · rename_i r3 s3 t3 p3 c3 n3 hrun
              have hfl := am_beq hlk.2
              have hrt2 := ((am_okm_inv o1).2.2.2.2.2.2.1 hfl).2.2
              refine am_callI hd o1 hfl hlk.1 hs (Nat.le_of_ble_eq_true o2) ⟨Nat.le_of_ble_eq_true o4, Nat.le_of_ble_eq_true o5⟩ (am_E_of (am_okm_inv o1).2.2.2.1 (Nat.le_of_ble_eq_true o3) (am_run_ok N (Q := fun v s t p c n => v = r3 ∧ s = s3 ∧ t = t3 ∧ p = p3 ∧ c = c3 ∧ n = n3) hrun hrt2 ⟨rfl, rfl, rfl, rfl, rfl, rfl⟩)) ?_
              rintro v4 s4 t4 p4 c4 n4 ⟨rfl, rfl, rfl, rfl, rfl, rfl⟩
              exact am_run_ok N e2 hrt hQ
            · cases e2
          · cases h
      case invokestatic x =>
        obtain rfl := am_beq hk
        subst hn
        obtain ⟨e0, e1⟩ := am_bifs h
        rw [Bool.and_eq_true] at e0
        obtain rfl := am_beq e0.1
        obtain rfl := am_beq e0.2
        split at e1
        · rename_i g1 g2 rs
          obtain ⟨e2, e3⟩ := am_bifs e1
          simp only [Bool.and_eq_true] at e2
          have hlk : (am_lnk y x 260 b c 0 && Nat.beq (am_fl 260) 1) = true := hcc
          rw [Bool.and_eq_true] at hlk
          exact am_callMax hd hlk.1 (Nat.le_of_ble_eq_true e2.1) (Nat.le_of_ble_eq_true e2.2.1) (Nat.le_of_ble_eq_true e2.2.2) (am_run_ok N e3 hrt hQ)
        · cases e1
      all_goals exact dflt h
