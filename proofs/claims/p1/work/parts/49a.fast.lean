/-! THE INTERPRETER with a dispatch by numbers (printed by wip/tools/gen49a.py) -/
noncomputable def am_ci (c : ClassFile.Cond) : Nat := ClassFile.Cond.rec (motive := fun _ => Nat) 0 1 2 3 4 5 c
noncomputable def am_io (i : Instr) : Nat × Nat := Instr.rec (motive := fun _ => Nat × Nat) ((23, 0)) ((0, 0)) ((0, 0)) (fun x0 => (3, x0)) (fun x0 => (3, x0.val)) (fun _ => (0, 0)) ((0, 0)) ((0, 0)) (fun x0 => (5, x0)) (fun x0 => (5, x0.val)) ((0, 0)) ((22, 0)) ((25, 0)) (fun x0 => (1, 0)) ((0, 0)) ((0, 0)) (fun _ => (0, 0)) ((0, 0)) ((0, 0)) ((0, 0)) ((0, 0)) ((0, 0)) ((0, 0)) (fun _ => (0, 0)) (fun _ => (0, 0)) ((0, 0)) (fun _ => (0, 0)) (fun _ => (0, 0)) ((0, 0)) ((0, 0)) ((0, 0)) ((0, 0)) (fun _ => (0, 0)) (fun _ => (0, 0)) ((0, 0)) ((17, 0)) ((0, 0)) ((0, 0)) ((0, 0)) ((0, 0)) ((0, 0)) ((0, 0)) ((0, 0)) ((0, 0)) ((0, 0)) ((0, 0)) ((0, 0)) (fun _ => (0, 0)) (fun _ => (0, 0)) ((0, 0)) (fun _ => (0, 0)) (fun _ => (0, 0)) ((0, 0)) ((0, 0)) ((0, 0)) ((0, 0)) (fun _ => (0, 0)) (fun _ => (0, 0)) ((0, 0)) (fun x0 => (19, 0)) (fun _ => (0, 0)) (fun x0 => (38, 0)) (fun _ => (0, 0)) ((0, 0)) ((0, 0)) ((0, 0)) ((0, 0)) ((0, 0)) ((0, 0)) ((7, 0)) ((21, 0)) ((10, 0)) ((24, 0)) (fun x0 => (1, 0)) ((15, 0)) (fun _ => fun _ => (0, 0)) (fun x0 => fun x1 => (32 + am_ci x0, 0)) (fun x0 => fun x1 => (26 + am_ci x0, 0)) (fun _ => (0, 0)) (fun _ => (0, 0)) (fun x0 => fun x1 => (6, x0)) (fun x0 => (2, x0)) (fun x0 => (2, x0.val)) ((9, 0)) ((0, 0)) (fun _ => (0, 0)) (fun _ => (0, 0)) (fun _ => fun _ => (0, 0)) (fun _ => (0, 0)) (fun x0 => (40, 0)) (fun x0 => (39, 0)) ((11, 0)) ((16, 0)) ((41, 0)) ((13, 0)) ((14, 0)) (fun x0 => (4, x0)) (fun x0 => (4, x0.val)) ((8, 0)) ((0, 0)) ((12, 0)) (fun _ => (0, 0)) (fun _ => (0, 0)) ((0, 0)) ((0, 0)) ((0, 0)) ((0, 0)) ((0, 0)) ((0, 0)) ((0, 0)) ((0, 0)) (fun _ => (0, 0)) (fun x0 => (1, 0)) (fun x0 => (1, 0)) (fun x0 => (1, 0)) ((0, 0)) (fun _ => (0, 0)) (fun _ => (0, 0)) ((0, 0)) ((0, 0)) (fun _ => fun _ => (0, 0)) ((0, 0)) ((0, 0)) ((0, 0)) ((0, 0)) ((0, 0)) (fun _ => (0, 0)) (fun _ => (0, 0)) ((0, 0)) ((0, 0)) ((0, 0)) ((0, 0)) ((0, 0)) (fun _ => fun _ => (0, 0)) (fun _ => (0, 0)) (fun _ => (0, 0)) ((0, 0)) ((18, 0)) ((0, 0)) (fun x0 => (20, 0)) (fun _ => (0, 0)) (fun _ => (0, 0)) ((42, 0)) ((0, 0)) ((0, 0)) (fun x0 => (1, 0)) ((0, 0)) (fun _ => fun _ => fun _ => fun _ => (0, 0)) i
abbrev am_gt : Type := Nat → (Nat → Option am_en) → Nat → Nat → am_ls → List am_V → tI → tL → tR → Option am_re
noncomputable def fa_0 (go : am_gt) (y : Nat) (f : Nat → Option am_en) (r n a b d o : Nat) (v : am_V) (ls : am_ls) (st : List am_V) (σ : tI) (τ : tL) (ρ : tR) (cn : tN) (ln : tM) : Option am_re := none
noncomputable def fa_1 (go : am_gt) (y : Nat) (f : Nat → Option am_en) (r n a b d o : Nat) (v : am_V) (ls : am_ls) (st : List am_V) (σ : tI) (τ : tL) (ρ : tR) (cn : tN) (ln : tM) : Option am_re := go y f r n ls (v :: st) σ τ ρ
noncomputable def fa_2 (go : am_gt) (y : Nat) (f : Nat → Option am_en) (r n a b d o : Nat) (v : am_V) (ls : am_ls) (st : List am_V) (σ : tI) (τ : tL) (ρ : tR) (cn : tN) (ln : tM) : Option am_re := am_lI none ls o fun x => go y f r n ls (.inl x :: st) σ τ ρ
noncomputable def fa_3 (go : am_gt) (y : Nat) (f : Nat → Option am_en) (r n a b d o : Nat) (v : am_V) (ls : am_ls) (st : List am_V) (σ : tI) (τ : tL) (ρ : tR) (cn : tN) (ln : tM) : Option am_re := am_lR none ls o fun x z => go y f r n ls (.inr (.inr (some (x, z))) :: st) σ τ ρ
noncomputable def fa_4 (go : am_gt) (y : Nat) (f : Nat → Option am_en) (r n a b d o : Nat) (v : am_V) (ls : am_ls) (st : List am_V) (σ : tI) (τ : tL) (ρ : tR) (cn : tN) (ln : tM) : Option am_re := am_pI none st fun x st => go y f r n (am_st1 o (.inl x) ls) st σ τ ρ
noncomputable def fa_5 (go : am_gt) (y : Nat) (f : Nat → Option am_en) (r n a b d o : Nat) (v : am_V) (ls : am_ls) (st : List am_V) (σ : tI) (τ : tL) (ρ : tR) (cn : tN) (ln : tM) : Option am_re := am_pR none st fun x z st => go y f r n (am_st1 o (.inr (.inr (some (x, z)))) ls) st σ τ ρ
noncomputable def fa_6 (go : am_gt) (y : Nat) (f : Nat → Option am_en) (r n a b d o : Nat) (v : am_V) (ls : am_ls) (st : List am_V) (σ : tI) (τ : tL) (ρ : tR) (cn : tN) (ln : tM) : Option am_re := am_lI none ls o fun x => match v with
  | .inl g => go y f r n (am_st1 o (.inl (x + g)) ls) st σ τ ρ
  | _ => none
noncomputable def fa_7 (go : am_gt) (y : Nat) (f : Nat → Option am_en) (r n a b d o : Nat) (v : am_V) (ls : am_ls) (st : List am_V) (σ : tI) (τ : tL) (ρ : tR) (cn : tN) (ln : tM) : Option am_re := am_pI none st fun y2 st => am_pI none st fun x st => go y f r n ls (.inl (x + y2) :: st) σ τ ρ
noncomputable def fa_8 (go : am_gt) (y : Nat) (f : Nat → Option am_en) (r n a b d o : Nat) (v : am_V) (ls : am_ls) (st : List am_V) (σ : tI) (τ : tL) (ρ : tR) (cn : tN) (ln : tM) : Option am_re := am_pI none st fun y2 st => am_pI none st fun x st => go y f r n ls (.inl (x - y2) :: st) σ τ ρ
noncomputable def fa_9 (go : am_gt) (y : Nat) (f : Nat → Option am_en) (r n a b d o : Nat) (v : am_V) (ls : am_ls) (st : List am_V) (σ : tI) (τ : tL) (ρ : tR) (cn : tN) (ln : tM) : Option am_re := am_pI none st fun y2 st => am_pI none st fun x st => go y f r n ls (.inl (x * y2) :: st) σ τ ρ
noncomputable def fa_10 (go : am_gt) (y : Nat) (f : Nat → Option am_en) (r n a b d o : Nat) (v : am_V) (ls : am_ls) (st : List am_V) (σ : tI) (τ : tL) (ρ : tR) (cn : tN) (ln : tM) : Option am_re := am_pI none st fun y2 st => am_pI none st fun x st => go y f r n ls (.inl (x &&& y2) :: st) σ τ ρ
noncomputable def fa_11 (go : am_gt) (y : Nat) (f : Nat → Option am_en) (r n a b d o : Nat) (v : am_V) (ls : am_ls) (st : List am_V) (σ : tI) (τ : tL) (ρ : tR) (cn : tN) (ln : tM) : Option am_re := am_pI none st fun y2 st => am_pI none st fun x st => go y f r n ls (.inl (x ||| y2) :: st) σ τ ρ
noncomputable def fa_12 (go : am_gt) (y : Nat) (f : Nat → Option am_en) (r n a b d o : Nat) (v : am_V) (ls : am_ls) (st : List am_V) (σ : tI) (τ : tL) (ρ : tR) (cn : tN) (ln : tM) : Option am_re := am_pI none st fun y2 st => am_pI none st fun x st => go y f r n ls (.inl (x ^^^ y2) :: st) σ τ ρ
noncomputable def fa_13 (go : am_gt) (y : Nat) (f : Nat → Option am_en) (r n a b d o : Nat) (v : am_V) (ls : am_ls) (st : List am_V) (σ : tI) (τ : tL) (ρ : tR) (cn : tN) (ln : tM) : Option am_re := am_pI none st fun y2 st => am_pI none st fun x st => go y f r n ls (.inl (x <<< (y2 &&& 31)) :: st) σ τ ρ
noncomputable def fa_14 (go : am_gt) (y : Nat) (f : Nat → Option am_en) (r n a b d o : Nat) (v : am_V) (ls : am_ls) (st : List am_V) (σ : tI) (τ : tL) (ρ : tR) (cn : tN) (ln : tM) : Option am_re := am_pI none st fun y2 st => am_pI none st fun x st => go y f r n ls (.inl (x >>> (y2 &&& 31)) :: st) σ τ ρ
noncomputable def fa_15 (go : am_gt) (y : Nat) (f : Nat → Option am_en) (r n a b d o : Nat) (v : am_V) (ls : am_ls) (st : List am_V) (σ : tI) (τ : tL) (ρ : tR) (cn : tN) (ln : tM) : Option am_re := am_pI none st fun y2 st => am_pI none st fun x st => bif decide (¬ y2 = 0) then go y f r n ls (.inl (x / y2) :: st) σ τ ρ else none
noncomputable def fa_16 (go : am_gt) (y : Nat) (f : Nat → Option am_en) (r n a b d o : Nat) (v : am_V) (ls : am_ls) (st : List am_V) (σ : tI) (τ : tL) (ρ : tR) (cn : tN) (ln : tM) : Option am_re := am_pI none st fun y2 st => am_pI none st fun x st => bif decide (¬ y2 = 0) then go y f r n ls (.inl (x - x / y2 * y2) :: st) σ τ ρ else none
noncomputable def fa_17 (go : am_gt) (y : Nat) (f : Nat → Option am_en) (r n a b d o : Nat) (v : am_V) (ls : am_ls) (st : List am_V) (σ : tI) (τ : tL) (ρ : tR) (cn : tN) (ln : tM) : Option am_re := am_p1 none st fun w st => go y f r n ls (w :: w :: st) σ τ ρ
noncomputable def fa_18 (go : am_gt) (y : Nat) (f : Nat → Option am_en) (r n a b d o : Nat) (v : am_V) (ls : am_ls) (st : List am_V) (σ : tI) (τ : tL) (ρ : tR) (cn : tN) (ln : tM) : Option am_re := am_p1 none st fun _ st => go y f r n ls st σ τ ρ
noncomputable def fa_19 (go : am_gt) (y : Nat) (f : Nat → Option am_en) (r n a b d o : Nat) (v : am_V) (ls : am_ls) (st : List am_V) (σ : tI) (τ : tL) (ρ : tR) (cn : tN) (ln : tM) : Option am_re := am_pR none st fun k q st => bif Nat.beq k a then (bif Nat.beq d 1 then go y f r n ls (.inr (.inl (τ a q b)) :: st) σ τ ρ else bif Nat.beq d 2 then go y f r n ls (.inr (.inr (ρ a q b)) :: st) σ τ ρ else go y f r n ls (.inl (σ a q b) :: st) σ τ ρ) else none
noncomputable def fa_20 (go : am_gt) (y : Nat) (f : Nat → Option am_en) (r n a b d o : Nat) (v : am_V) (ls : am_ls) (st : List am_V) (σ : tI) (τ : tL) (ρ : tR) (cn : tN) (ln : tM) : Option am_re := bif Nat.beq d 1 then none else bif Nat.beq d 2 then none else bif Nat.beq d 3 then none else (am_pI none st fun x st => am_pR none st fun k q st => bif Nat.beq k a then go y f r n ls st (u3 σ a q b x) τ ρ else none)
noncomputable def fa_21 (go : am_gt) (y : Nat) (f : Nat → Option am_en) (r n a b d o : Nat) (v : am_V) (ls : am_ls) (st : List am_V) (σ : tI) (τ : tL) (ρ : tR) (cn : tN) (ln : tM) : Option am_re := am_pI none st fun x st => am_pR none st fun k q st => bif Nat.beq (am_ek k) 0 then (bif decide (¬ (x < 0 ∨ ln k q ≤ x.toNatClampNeg)) then go y f r n ls (.inl (σ k q x.toNatClampNeg) :: st) σ τ ρ else none) else none
noncomputable def fa_22 (go : am_gt) (y : Nat) (f : Nat → Option am_en) (r n a b d o : Nat) (v : am_V) (ls : am_ls) (st : List am_V) (σ : tI) (τ : tL) (ρ : tR) (cn : tN) (ln : tM) : Option am_re := am_pI none st fun x st => am_pR none st fun k q st => bif Nat.beq (am_ek k) 1 then (bif decide (¬ (x < 0 ∨ ln k q ≤ x.toNatClampNeg)) then go y f r n ls (.inl (σ k q x.toNatClampNeg) :: st) σ τ ρ else none) else none
noncomputable def fa_23 (go : am_gt) (y : Nat) (f : Nat → Option am_en) (r n a b d o : Nat) (v : am_V) (ls : am_ls) (st : List am_V) (σ : tI) (τ : tL) (ρ : tR) (cn : tN) (ln : tM) : Option am_re := am_pI none st fun x st => am_pR none st fun k q st => bif Nat.blt 1 (am_ek k) && Nat.blt (am_ek k) 6 then (bif decide (¬ (x < 0 ∨ ln k q ≤ x.toNatClampNeg)) then go y f r n ls (.inr (.inr (ρ k q x.toNatClampNeg)) :: st) σ τ ρ else none) else none
noncomputable def fa_24 (go : am_gt) (y : Nat) (f : Nat → Option am_en) (r n a b d o : Nat) (v : am_V) (ls : am_ls) (st : List am_V) (σ : tI) (τ : tL) (ρ : tR) (cn : tN) (ln : tM) : Option am_re := am_pI none st fun g st => am_pI none st fun x st => am_pR none st fun k q st => bif Nat.beq (am_ek k) 0 then (bif decide (¬ (x < 0 ∨ ln k q ≤ x.toNatClampNeg)) then go y f r n ls st (u3 σ k q x.toNatClampNeg g) τ ρ else none) else none
noncomputable def fa_25 (go : am_gt) (y : Nat) (f : Nat → Option am_en) (r n a b d o : Nat) (v : am_V) (ls : am_ls) (st : List am_V) (σ : tI) (τ : tL) (ρ : tR) (cn : tN) (ln : tM) : Option am_re := am_pI none st fun g st => am_pI none st fun x st => am_pR none st fun k q st => bif Nat.beq (am_ek k) 1 then (bif decide (¬ (x < 0 ∨ ln k q ≤ x.toNatClampNeg) ∧ (g = 0 ∨ g = 1)) then go y f r n ls st (u3 σ k q x.toNatClampNeg g) τ ρ else none) else none
noncomputable def fa_26 (go : am_gt) (y : Nat) (f : Nat → Option am_en) (r n a b d o : Nat) (v : am_V) (ls : am_ls) (st : List am_V) (σ : tI) (τ : tL) (ρ : tR) (cn : tN) (ln : tM) : Option am_re := am_pI none st fun x st => bif decide (x = 0) then go y f r a ls st σ τ ρ else go y f r n ls st σ τ ρ
noncomputable def fa_27 (go : am_gt) (y : Nat) (f : Nat → Option am_en) (r n a b d o : Nat) (v : am_V) (ls : am_ls) (st : List am_V) (σ : tI) (τ : tL) (ρ : tR) (cn : tN) (ln : tM) : Option am_re := am_pI none st fun x st => bif decide (x = 0) then go y f r n ls st σ τ ρ else go y f r a ls st σ τ ρ
noncomputable def fa_28 (go : am_gt) (y : Nat) (f : Nat → Option am_en) (r n a b d o : Nat) (v : am_V) (ls : am_ls) (st : List am_V) (σ : tI) (τ : tL) (ρ : tR) (cn : tN) (ln : tM) : Option am_re := am_pI none st fun x st => bif decide (x < 0) then go y f r a ls st σ τ ρ else go y f r n ls st σ τ ρ
noncomputable def fa_29 (go : am_gt) (y : Nat) (f : Nat → Option am_en) (r n a b d o : Nat) (v : am_V) (ls : am_ls) (st : List am_V) (σ : tI) (τ : tL) (ρ : tR) (cn : tN) (ln : tM) : Option am_re := am_pI none st fun x st => bif decide (0 ≤ x) then go y f r a ls st σ τ ρ else go y f r n ls st σ τ ρ
noncomputable def fa_30 (go : am_gt) (y : Nat) (f : Nat → Option am_en) (r n a b d o : Nat) (v : am_V) (ls : am_ls) (st : List am_V) (σ : tI) (τ : tL) (ρ : tR) (cn : tN) (ln : tM) : Option am_re := am_pI none st fun x st => bif decide (0 < x) then go y f r a ls st σ τ ρ else go y f r n ls st σ τ ρ
noncomputable def fa_31 (go : am_gt) (y : Nat) (f : Nat → Option am_en) (r n a b d o : Nat) (v : am_V) (ls : am_ls) (st : List am_V) (σ : tI) (τ : tL) (ρ : tR) (cn : tN) (ln : tM) : Option am_re := am_pI none st fun x st => bif decide (x ≤ 0) then go y f r a ls st σ τ ρ else go y f r n ls st σ τ ρ
noncomputable def fa_32 (go : am_gt) (y : Nat) (f : Nat → Option am_en) (r n a b d o : Nat) (v : am_V) (ls : am_ls) (st : List am_V) (σ : tI) (τ : tL) (ρ : tR) (cn : tN) (ln : tM) : Option am_re := am_pI none st fun y2 st => am_pI none st fun x st => bif decide (x = y2) then go y f r a ls st σ τ ρ else go y f r n ls st σ τ ρ
noncomputable def fa_33 (go : am_gt) (y : Nat) (f : Nat → Option am_en) (r n a b d o : Nat) (v : am_V) (ls : am_ls) (st : List am_V) (σ : tI) (τ : tL) (ρ : tR) (cn : tN) (ln : tM) : Option am_re := am_pI none st fun y2 st => am_pI none st fun x st => bif decide (x = y2) then go y f r n ls st σ τ ρ else go y f r a ls st σ τ ρ
noncomputable def fa_34 (go : am_gt) (y : Nat) (f : Nat → Option am_en) (r n a b d o : Nat) (v : am_V) (ls : am_ls) (st : List am_V) (σ : tI) (τ : tL) (ρ : tR) (cn : tN) (ln : tM) : Option am_re := am_pI none st fun y2 st => am_pI none st fun x st => bif decide (x < y2) then go y f r a ls st σ τ ρ else go y f r n ls st σ τ ρ
noncomputable def fa_35 (go : am_gt) (y : Nat) (f : Nat → Option am_en) (r n a b d o : Nat) (v : am_V) (ls : am_ls) (st : List am_V) (σ : tI) (τ : tL) (ρ : tR) (cn : tN) (ln : tM) : Option am_re := am_pI none st fun y2 st => am_pI none st fun x st => bif decide (y2 ≤ x) then go y f r a ls st σ τ ρ else go y f r n ls st σ τ ρ
noncomputable def fa_36 (go : am_gt) (y : Nat) (f : Nat → Option am_en) (r n a b d o : Nat) (v : am_V) (ls : am_ls) (st : List am_V) (σ : tI) (τ : tL) (ρ : tR) (cn : tN) (ln : tM) : Option am_re := am_pI none st fun y2 st => am_pI none st fun x st => bif decide (y2 < x) then go y f r a ls st σ τ ρ else go y f r n ls st σ τ ρ
noncomputable def fa_37 (go : am_gt) (y : Nat) (f : Nat → Option am_en) (r n a b d o : Nat) (v : am_V) (ls : am_ls) (st : List am_V) (σ : tI) (τ : tL) (ρ : tR) (cn : tN) (ln : tM) : Option am_re := am_pI none st fun y2 st => am_pI none st fun x st => bif decide (x ≤ y2) then go y f r a ls st σ τ ρ else go y f r n ls st σ τ ρ
noncomputable def fa_38 (go : am_gt) (y : Nat) (f : Nat → Option am_en) (r n a b d o : Nat) (v : am_V) (ls : am_ls) (st : List am_V) (σ : tI) (τ : tL) (ρ : tR) (cn : tN) (ln : tM) : Option am_re := go y f r a ls st σ τ ρ
noncomputable def fa_39 (go : am_gt) (y : Nat) (f : Nat → Option am_en) (r n a b d o : Nat) (v : am_V) (ls : am_ls) (st : List am_V) (σ : tI) (τ : tL) (ρ : tR) (cn : tN) (ln : tM) : Option am_re := match am_spl (b + 1) st [] with
  | some (.inr (.inr (some q)) :: vs, rest) => match am_Fd a with
    | some (g, m, s) => bif Nat.beq q.1 (am_cx a) && (Nat.ble (am_cats rest) 8 && Nat.ble (am_cats (.inr (.inr (some q)) :: vs)) m) then (match go a g s 0 (am_args 0 (.inr (.inr (some q)) :: vs)) [] σ τ ρ with
      | some (w, σ2, τ2, ρ2) => go y f r n ls (am_push w rest) σ2 τ2 ρ2
      | none => none) else none
    | none => none
  | _ => none
noncomputable def fa_40 (go : am_gt) (y : Nat) (f : Nat → Option am_en) (r n a b d o : Nat) (v : am_V) (ls : am_ls) (st : List am_V) (σ : tI) (τ : tL) (ρ : tR) (cn : tN) (ln : tM) : Option am_re := bif Nat.beq a 1001 then none else (match am_spl b st [] with
  | some (vs, rest) => match am_Fd a with
    | some (g, m, s) => bif Nat.ble (am_cats rest) 8 && Nat.ble (am_cats vs) m then (match go a g s 0 (am_args 0 vs) [] σ τ ρ with
      | some (w, σ2, τ2, ρ2) => go y f r n ls (am_push w rest) σ2 τ2 ρ2
      | none => none) else none
    | none => none
  | none => none)
noncomputable def fa_41 (go : am_gt) (y : Nat) (f : Nat → Option am_en) (r n a b d o : Nat) (v : am_V) (ls : am_ls) (st : List am_V) (σ : tI) (τ : tL) (ρ : tR) (cn : tN) (ln : tM) : Option am_re := match st with
  | [.inl x] => bif Nat.beq r 1 || (Nat.beq r 2 && decide (x = 0 ∨ x = 1)) then some (some (.inl x), σ, τ, ρ) else none
  | _ => none
noncomputable def fa_42 (go : am_gt) (y : Nat) (f : Nat → Option am_en) (r n a b d o : Nat) (v : am_V) (ls : am_ls) (st : List am_V) (σ : tI) (τ : tL) (ρ : tR) (cn : tN) (ln : tM) : Option am_re := match st with
  | [] => bif Nat.beq r 0 then some (none, σ, τ, ρ) else none
  | _ => none
noncomputable def fb_0_2 (c : Nat) (go : am_gt) (y : Nat) (f : Nat → Option am_en) (r n a b d o : Nat) (v : am_V) (ls : am_ls) (st : List am_V) (σ : tI) (τ : tL) (ρ : tR) (cn : tN) (ln : tM) : Option am_re := bif Nat.blt c 1 then fa_0 go y f r n a b d o v ls st σ τ ρ cn ln else fa_1 go y f r n a b d o v ls st σ τ ρ cn ln
noncomputable def fb_3_5 (c : Nat) (go : am_gt) (y : Nat) (f : Nat → Option am_en) (r n a b d o : Nat) (v : am_V) (ls : am_ls) (st : List am_V) (σ : tI) (τ : tL) (ρ : tR) (cn : tN) (ln : tM) : Option am_re := bif Nat.blt c 4 then fa_3 go y f r n a b d o v ls st σ τ ρ cn ln else fa_4 go y f r n a b d o v ls st σ τ ρ cn ln
noncomputable def fb_2_5 (c : Nat) (go : am_gt) (y : Nat) (f : Nat → Option am_en) (r n a b d o : Nat) (v : am_V) (ls : am_ls) (st : List am_V) (σ : tI) (τ : tL) (ρ : tR) (cn : tN) (ln : tM) : Option am_re := bif Nat.blt c 3 then fa_2 go y f r n a b d o v ls st σ τ ρ cn ln else fb_3_5 c go y f r n a b d o v ls st σ τ ρ cn ln
noncomputable def fb_0_5 (c : Nat) (go : am_gt) (y : Nat) (f : Nat → Option am_en) (r n a b d o : Nat) (v : am_V) (ls : am_ls) (st : List am_V) (σ : tI) (τ : tL) (ρ : tR) (cn : tN) (ln : tM) : Option am_re := bif Nat.blt c 2 then fb_0_2 c go y f r n a b d o v ls st σ τ ρ cn ln else fb_2_5 c go y f r n a b d o v ls st σ τ ρ cn ln
noncomputable def fb_5_7 (c : Nat) (go : am_gt) (y : Nat) (f : Nat → Option am_en) (r n a b d o : Nat) (v : am_V) (ls : am_ls) (st : List am_V) (σ : tI) (τ : tL) (ρ : tR) (cn : tN) (ln : tM) : Option am_re := bif Nat.blt c 6 then fa_5 go y f r n a b d o v ls st σ τ ρ cn ln else fa_6 go y f r n a b d o v ls st σ τ ρ cn ln
noncomputable def fb_8_10 (c : Nat) (go : am_gt) (y : Nat) (f : Nat → Option am_en) (r n a b d o : Nat) (v : am_V) (ls : am_ls) (st : List am_V) (σ : tI) (τ : tL) (ρ : tR) (cn : tN) (ln : tM) : Option am_re := bif Nat.blt c 9 then fa_8 go y f r n a b d o v ls st σ τ ρ cn ln else fa_9 go y f r n a b d o v ls st σ τ ρ cn ln
noncomputable def fb_7_10 (c : Nat) (go : am_gt) (y : Nat) (f : Nat → Option am_en) (r n a b d o : Nat) (v : am_V) (ls : am_ls) (st : List am_V) (σ : tI) (τ : tL) (ρ : tR) (cn : tN) (ln : tM) : Option am_re := bif Nat.blt c 8 then fa_7 go y f r n a b d o v ls st σ τ ρ cn ln else fb_8_10 c go y f r n a b d o v ls st σ τ ρ cn ln
noncomputable def fb_5_10 (c : Nat) (go : am_gt) (y : Nat) (f : Nat → Option am_en) (r n a b d o : Nat) (v : am_V) (ls : am_ls) (st : List am_V) (σ : tI) (τ : tL) (ρ : tR) (cn : tN) (ln : tM) : Option am_re := bif Nat.blt c 7 then fb_5_7 c go y f r n a b d o v ls st σ τ ρ cn ln else fb_7_10 c go y f r n a b d o v ls st σ τ ρ cn ln
noncomputable def fb_0_10 (c : Nat) (go : am_gt) (y : Nat) (f : Nat → Option am_en) (r n a b d o : Nat) (v : am_V) (ls : am_ls) (st : List am_V) (σ : tI) (τ : tL) (ρ : tR) (cn : tN) (ln : tM) : Option am_re := bif Nat.blt c 5 then fb_0_5 c go y f r n a b d o v ls st σ τ ρ cn ln else fb_5_10 c go y f r n a b d o v ls st σ τ ρ cn ln
noncomputable def fb_10_12 (c : Nat) (go : am_gt) (y : Nat) (f : Nat → Option am_en) (r n a b d o : Nat) (v : am_V) (ls : am_ls) (st : List am_V) (σ : tI) (τ : tL) (ρ : tR) (cn : tN) (ln : tM) : Option am_re := bif Nat.blt c 11 then fa_10 go y f r n a b d o v ls st σ τ ρ cn ln else fa_11 go y f r n a b d o v ls st σ τ ρ cn ln
noncomputable def fb_13_15 (c : Nat) (go : am_gt) (y : Nat) (f : Nat → Option am_en) (r n a b d o : Nat) (v : am_V) (ls : am_ls) (st : List am_V) (σ : tI) (τ : tL) (ρ : tR) (cn : tN) (ln : tM) : Option am_re := bif Nat.blt c 14 then fa_13 go y f r n a b d o v ls st σ τ ρ cn ln else fa_14 go y f r n a b d o v ls st σ τ ρ cn ln
noncomputable def fb_12_15 (c : Nat) (go : am_gt) (y : Nat) (f : Nat → Option am_en) (r n a b d o : Nat) (v : am_V) (ls : am_ls) (st : List am_V) (σ : tI) (τ : tL) (ρ : tR) (cn : tN) (ln : tM) : Option am_re := bif Nat.blt c 13 then fa_12 go y f r n a b d o v ls st σ τ ρ cn ln else fb_13_15 c go y f r n a b d o v ls st σ τ ρ cn ln
noncomputable def fb_10_15 (c : Nat) (go : am_gt) (y : Nat) (f : Nat → Option am_en) (r n a b d o : Nat) (v : am_V) (ls : am_ls) (st : List am_V) (σ : tI) (τ : tL) (ρ : tR) (cn : tN) (ln : tM) : Option am_re := bif Nat.blt c 12 then fb_10_12 c go y f r n a b d o v ls st σ τ ρ cn ln else fb_12_15 c go y f r n a b d o v ls st σ τ ρ cn ln
noncomputable def fb_16_18 (c : Nat) (go : am_gt) (y : Nat) (f : Nat → Option am_en) (r n a b d o : Nat) (v : am_V) (ls : am_ls) (st : List am_V) (σ : tI) (τ : tL) (ρ : tR) (cn : tN) (ln : tM) : Option am_re := bif Nat.blt c 17 then fa_16 go y f r n a b d o v ls st σ τ ρ cn ln else fa_17 go y f r n a b d o v ls st σ τ ρ cn ln
noncomputable def fb_15_18 (c : Nat) (go : am_gt) (y : Nat) (f : Nat → Option am_en) (r n a b d o : Nat) (v : am_V) (ls : am_ls) (st : List am_V) (σ : tI) (τ : tL) (ρ : tR) (cn : tN) (ln : tM) : Option am_re := bif Nat.blt c 16 then fa_15 go y f r n a b d o v ls st σ τ ρ cn ln else fb_16_18 c go y f r n a b d o v ls st σ τ ρ cn ln
noncomputable def fb_19_21 (c : Nat) (go : am_gt) (y : Nat) (f : Nat → Option am_en) (r n a b d o : Nat) (v : am_V) (ls : am_ls) (st : List am_V) (σ : tI) (τ : tL) (ρ : tR) (cn : tN) (ln : tM) : Option am_re := bif Nat.blt c 20 then fa_19 go y f r n a b d o v ls st σ τ ρ cn ln else fa_20 go y f r n a b d o v ls st σ τ ρ cn ln
noncomputable def fb_18_21 (c : Nat) (go : am_gt) (y : Nat) (f : Nat → Option am_en) (r n a b d o : Nat) (v : am_V) (ls : am_ls) (st : List am_V) (σ : tI) (τ : tL) (ρ : tR) (cn : tN) (ln : tM) : Option am_re := bif Nat.blt c 19 then fa_18 go y f r n a b d o v ls st σ τ ρ cn ln else fb_19_21 c go y f r n a b d o v ls st σ τ ρ cn ln
noncomputable def fb_15_21 (c : Nat) (go : am_gt) (y : Nat) (f : Nat → Option am_en) (r n a b d o : Nat) (v : am_V) (ls : am_ls) (st : List am_V) (σ : tI) (τ : tL) (ρ : tR) (cn : tN) (ln : tM) : Option am_re := bif Nat.blt c 18 then fb_15_18 c go y f r n a b d o v ls st σ τ ρ cn ln else fb_18_21 c go y f r n a b d o v ls st σ τ ρ cn ln
noncomputable def fb_10_21 (c : Nat) (go : am_gt) (y : Nat) (f : Nat → Option am_en) (r n a b d o : Nat) (v : am_V) (ls : am_ls) (st : List am_V) (σ : tI) (τ : tL) (ρ : tR) (cn : tN) (ln : tM) : Option am_re := bif Nat.blt c 15 then fb_10_15 c go y f r n a b d o v ls st σ τ ρ cn ln else fb_15_21 c go y f r n a b d o v ls st σ τ ρ cn ln
noncomputable def fb_0_21 (c : Nat) (go : am_gt) (y : Nat) (f : Nat → Option am_en) (r n a b d o : Nat) (v : am_V) (ls : am_ls) (st : List am_V) (σ : tI) (τ : tL) (ρ : tR) (cn : tN) (ln : tM) : Option am_re := bif Nat.blt c 10 then fb_0_10 c go y f r n a b d o v ls st σ τ ρ cn ln else fb_10_21 c go y f r n a b d o v ls st σ τ ρ cn ln
noncomputable def fb_21_23 (c : Nat) (go : am_gt) (y : Nat) (f : Nat → Option am_en) (r n a b d o : Nat) (v : am_V) (ls : am_ls) (st : List am_V) (σ : tI) (τ : tL) (ρ : tR) (cn : tN) (ln : tM) : Option am_re := bif Nat.blt c 22 then fa_21 go y f r n a b d o v ls st σ τ ρ cn ln else fa_22 go y f r n a b d o v ls st σ τ ρ cn ln
noncomputable def fb_24_26 (c : Nat) (go : am_gt) (y : Nat) (f : Nat → Option am_en) (r n a b d o : Nat) (v : am_V) (ls : am_ls) (st : List am_V) (σ : tI) (τ : tL) (ρ : tR) (cn : tN) (ln : tM) : Option am_re := bif Nat.blt c 25 then fa_24 go y f r n a b d o v ls st σ τ ρ cn ln else fa_25 go y f r n a b d o v ls st σ τ ρ cn ln
noncomputable def fb_23_26 (c : Nat) (go : am_gt) (y : Nat) (f : Nat → Option am_en) (r n a b d o : Nat) (v : am_V) (ls : am_ls) (st : List am_V) (σ : tI) (τ : tL) (ρ : tR) (cn : tN) (ln : tM) : Option am_re := bif Nat.blt c 24 then fa_23 go y f r n a b d o v ls st σ τ ρ cn ln else fb_24_26 c go y f r n a b d o v ls st σ τ ρ cn ln
noncomputable def fb_21_26 (c : Nat) (go : am_gt) (y : Nat) (f : Nat → Option am_en) (r n a b d o : Nat) (v : am_V) (ls : am_ls) (st : List am_V) (σ : tI) (τ : tL) (ρ : tR) (cn : tN) (ln : tM) : Option am_re := bif Nat.blt c 23 then fb_21_23 c go y f r n a b d o v ls st σ τ ρ cn ln else fb_23_26 c go y f r n a b d o v ls st σ τ ρ cn ln
noncomputable def fb_27_29 (c : Nat) (go : am_gt) (y : Nat) (f : Nat → Option am_en) (r n a b d o : Nat) (v : am_V) (ls : am_ls) (st : List am_V) (σ : tI) (τ : tL) (ρ : tR) (cn : tN) (ln : tM) : Option am_re := bif Nat.blt c 28 then fa_27 go y f r n a b d o v ls st σ τ ρ cn ln else fa_28 go y f r n a b d o v ls st σ τ ρ cn ln
noncomputable def fb_26_29 (c : Nat) (go : am_gt) (y : Nat) (f : Nat → Option am_en) (r n a b d o : Nat) (v : am_V) (ls : am_ls) (st : List am_V) (σ : tI) (τ : tL) (ρ : tR) (cn : tN) (ln : tM) : Option am_re := bif Nat.blt c 27 then fa_26 go y f r n a b d o v ls st σ τ ρ cn ln else fb_27_29 c go y f r n a b d o v ls st σ τ ρ cn ln
noncomputable def fb_30_32 (c : Nat) (go : am_gt) (y : Nat) (f : Nat → Option am_en) (r n a b d o : Nat) (v : am_V) (ls : am_ls) (st : List am_V) (σ : tI) (τ : tL) (ρ : tR) (cn : tN) (ln : tM) : Option am_re := bif Nat.blt c 31 then fa_30 go y f r n a b d o v ls st σ τ ρ cn ln else fa_31 go y f r n a b d o v ls st σ τ ρ cn ln
noncomputable def fb_29_32 (c : Nat) (go : am_gt) (y : Nat) (f : Nat → Option am_en) (r n a b d o : Nat) (v : am_V) (ls : am_ls) (st : List am_V) (σ : tI) (τ : tL) (ρ : tR) (cn : tN) (ln : tM) : Option am_re := bif Nat.blt c 30 then fa_29 go y f r n a b d o v ls st σ τ ρ cn ln else fb_30_32 c go y f r n a b d o v ls st σ τ ρ cn ln
noncomputable def fb_26_32 (c : Nat) (go : am_gt) (y : Nat) (f : Nat → Option am_en) (r n a b d o : Nat) (v : am_V) (ls : am_ls) (st : List am_V) (σ : tI) (τ : tL) (ρ : tR) (cn : tN) (ln : tM) : Option am_re := bif Nat.blt c 29 then fb_26_29 c go y f r n a b d o v ls st σ τ ρ cn ln else fb_29_32 c go y f r n a b d o v ls st σ τ ρ cn ln
noncomputable def fb_21_32 (c : Nat) (go : am_gt) (y : Nat) (f : Nat → Option am_en) (r n a b d o : Nat) (v : am_V) (ls : am_ls) (st : List am_V) (σ : tI) (τ : tL) (ρ : tR) (cn : tN) (ln : tM) : Option am_re := bif Nat.blt c 26 then fb_21_26 c go y f r n a b d o v ls st σ τ ρ cn ln else fb_26_32 c go y f r n a b d o v ls st σ τ ρ cn ln
noncomputable def fb_32_34 (c : Nat) (go : am_gt) (y : Nat) (f : Nat → Option am_en) (r n a b d o : Nat) (v : am_V) (ls : am_ls) (st : List am_V) (σ : tI) (τ : tL) (ρ : tR) (cn : tN) (ln : tM) : Option am_re := bif Nat.blt c 33 then fa_32 go y f r n a b d o v ls st σ τ ρ cn ln else fa_33 go y f r n a b d o v ls st σ τ ρ cn ln
noncomputable def fb_35_37 (c : Nat) (go : am_gt) (y : Nat) (f : Nat → Option am_en) (r n a b d o : Nat) (v : am_V) (ls : am_ls) (st : List am_V) (σ : tI) (τ : tL) (ρ : tR) (cn : tN) (ln : tM) : Option am_re := bif Nat.blt c 36 then fa_35 go y f r n a b d o v ls st σ τ ρ cn ln else fa_36 go y f r n a b d o v ls st σ τ ρ cn ln
noncomputable def fb_34_37 (c : Nat) (go : am_gt) (y : Nat) (f : Nat → Option am_en) (r n a b d o : Nat) (v : am_V) (ls : am_ls) (st : List am_V) (σ : tI) (τ : tL) (ρ : tR) (cn : tN) (ln : tM) : Option am_re := bif Nat.blt c 35 then fa_34 go y f r n a b d o v ls st σ τ ρ cn ln else fb_35_37 c go y f r n a b d o v ls st σ τ ρ cn ln
noncomputable def fb_32_37 (c : Nat) (go : am_gt) (y : Nat) (f : Nat → Option am_en) (r n a b d o : Nat) (v : am_V) (ls : am_ls) (st : List am_V) (σ : tI) (τ : tL) (ρ : tR) (cn : tN) (ln : tM) : Option am_re := bif Nat.blt c 34 then fb_32_34 c go y f r n a b d o v ls st σ τ ρ cn ln else fb_34_37 c go y f r n a b d o v ls st σ τ ρ cn ln
noncomputable def fb_38_40 (c : Nat) (go : am_gt) (y : Nat) (f : Nat → Option am_en) (r n a b d o : Nat) (v : am_V) (ls : am_ls) (st : List am_V) (σ : tI) (τ : tL) (ρ : tR) (cn : tN) (ln : tM) : Option am_re := bif Nat.blt c 39 then fa_38 go y f r n a b d o v ls st σ τ ρ cn ln else fa_39 go y f r n a b d o v ls st σ τ ρ cn ln
noncomputable def fb_37_40 (c : Nat) (go : am_gt) (y : Nat) (f : Nat → Option am_en) (r n a b d o : Nat) (v : am_V) (ls : am_ls) (st : List am_V) (σ : tI) (τ : tL) (ρ : tR) (cn : tN) (ln : tM) : Option am_re := bif Nat.blt c 38 then fa_37 go y f r n a b d o v ls st σ τ ρ cn ln else fb_38_40 c go y f r n a b d o v ls st σ τ ρ cn ln
noncomputable def fb_41_43 (c : Nat) (go : am_gt) (y : Nat) (f : Nat → Option am_en) (r n a b d o : Nat) (v : am_V) (ls : am_ls) (st : List am_V) (σ : tI) (τ : tL) (ρ : tR) (cn : tN) (ln : tM) : Option am_re := bif Nat.blt c 42 then fa_41 go y f r n a b d o v ls st σ τ ρ cn ln else fa_42 go y f r n a b d o v ls st σ τ ρ cn ln
noncomputable def fb_40_43 (c : Nat) (go : am_gt) (y : Nat) (f : Nat → Option am_en) (r n a b d o : Nat) (v : am_V) (ls : am_ls) (st : List am_V) (σ : tI) (τ : tL) (ρ : tR) (cn : tN) (ln : tM) : Option am_re := bif Nat.blt c 41 then fa_40 go y f r n a b d o v ls st σ τ ρ cn ln else fb_41_43 c go y f r n a b d o v ls st σ τ ρ cn ln
noncomputable def fb_37_43 (c : Nat) (go : am_gt) (y : Nat) (f : Nat → Option am_en) (r n a b d o : Nat) (v : am_V) (ls : am_ls) (st : List am_V) (σ : tI) (τ : tL) (ρ : tR) (cn : tN) (ln : tM) : Option am_re := bif Nat.blt c 40 then fb_37_40 c go y f r n a b d o v ls st σ τ ρ cn ln else fb_40_43 c go y f r n a b d o v ls st σ τ ρ cn ln
noncomputable def fb_32_43 (c : Nat) (go : am_gt) (y : Nat) (f : Nat → Option am_en) (r n a b d o : Nat) (v : am_V) (ls : am_ls) (st : List am_V) (σ : tI) (τ : tL) (ρ : tR) (cn : tN) (ln : tM) : Option am_re := bif Nat.blt c 37 then fb_32_37 c go y f r n a b d o v ls st σ τ ρ cn ln else fb_37_43 c go y f r n a b d o v ls st σ τ ρ cn ln
noncomputable def fb_21_43 (c : Nat) (go : am_gt) (y : Nat) (f : Nat → Option am_en) (r n a b d o : Nat) (v : am_V) (ls : am_ls) (st : List am_V) (σ : tI) (τ : tL) (ρ : tR) (cn : tN) (ln : tM) : Option am_re := bif Nat.blt c 32 then fb_21_32 c go y f r n a b d o v ls st σ τ ρ cn ln else fb_32_43 c go y f r n a b d o v ls st σ τ ρ cn ln
noncomputable def fb_0_43 (c : Nat) (go : am_gt) (y : Nat) (f : Nat → Option am_en) (r n a b d o : Nat) (v : am_V) (ls : am_ls) (st : List am_V) (σ : tI) (τ : tL) (ρ : tR) (cn : tN) (ln : tM) : Option am_re := bif Nat.blt c 21 then fb_0_21 c go y f r n a b d o v ls st σ τ ρ cn ln else fb_21_43 c go y f r n a b d o v ls st σ τ ρ cn ln
noncomputable def am_rv (cn : tN) (ln : tM) : Nat → am_gt
  | 0 => fun _ _ _ _ _ _ _ _ _ => none
  | N + 1 => fun y f r pc ls st σ τ ρ => match f pc with
    | none => none
    | some (i, _, n, a, b, _, d, v, _) => fb_0_43 (am_io i).1 (am_rv cn ln N) y f r n a b d (am_io i).2 v ls st σ τ ρ cn ln
section FA
variable {α : Type} {x : α}
theorem mI {st : List am_V} {F G : Int32 → List am_V → Option α} (h : am_pI none st F = some x) (k : ∀ a s, F a s = some x → G a s = some x) : am_pI none st G = some x := by
  unfold am_pI at h ⊢
  split at h
  · exact k _ _ h
  · cases h
theorem mR {st : List am_V} {F G : Nat → Nat → List am_V → Option α} (h : am_pR none st F = some x) (k : ∀ a b s, F a b s = some x → G a b s = some x) : am_pR none st G = some x := by
  unfold am_pR at h ⊢
  split at h
  · exact k _ _ _ h
  · cases h
theorem m1 {st : List am_V} {F G : am_V → List am_V → Option α} (h : am_p1 none st F = some x) (k : ∀ a s, F a s = some x → G a s = some x) : am_p1 none st G = some x := by
  unfold am_p1 at h ⊢
  split at h
  · exact k _ _ h
  · exact k _ _ h
  · cases h
theorem mlI {ls : am_ls} {o : Nat} {F G : Int32 → Option α} (h : am_lI none ls o F = some x) (k : ∀ a, F a = some x → G a = some x) : am_lI none ls o G = some x := by
  unfold am_lI at h ⊢
  split at h
  · exact k _ h
  · cases h
theorem mlR {ls : am_ls} {o : Nat} {F G : Nat → Nat → Option α} (h : am_lR none ls o F = some x) (k : ∀ a b, F a b = some x → G a b = some x) : am_lR none ls o G = some x := by
  unfold am_lR at h ⊢
  split at h
  · exact k _ _ h
  · cases h
theorem mB {c : Bool} {F G : Option α} (h : (bif c then F else none) = some x) (k : F = some x → G = some x) : (bif c then G else none) = some x := by
  cases c
  · cases h
  · exact k h
theorem mC {c : Bool} {F1 F2 G1 G2 : Option α} (h : (bif c then F1 else F2) = some x) (k1 : F1 = some x → G1 = some x) (k2 : F2 = some x → G2 = some x) : (bif c then G1 else G2) = some x := by
  cases c
  · exact k2 h
  · exact k1 h
end FA
set_option maxHeartbeats 8000000 in
theorem am_rv_ru {cn : tN} {ln : tM} : ∀ (N : Nat) {y : Nat} {f : Nat → Option am_en} {r pc : Nat} {ls : am_ls} {st : List am_V} {σ : tI} {τ : tL} {ρ : tR} {x : am_re}, am_rv cn ln N y f r pc ls st σ τ ρ = some x → am_ru N y f r pc ls st σ τ ρ cn ln = some x := by
  intro N
  induction N with
  | zero => intro y f r pc ls st σ τ ρ x h; cases h
  | succ N ih =>
    intro y f r pc ls st σ τ ρ x h
    rw [am_rv] at h
    dsimp only at h
    unfold am_ru
    cases he : f pc with
    | none => rw [he] at h; cases h
    | some en =>
      obtain ⟨i, len, n, a, b, c, d, v, sl⟩ := en
      rw [he] at h
      dsimp only at h
      cases i
      case aaload => exact mI h fun _ _ h => mR h fun _ _ _ h => mB h fun h => mB h fun h => ih h
      case aastore => cases h
      case aconst_null => cases h
      case aload => exact mlR h fun _ _ h => ih h
      case aload_n => exact mlR h fun _ _ h => ih h
      case anewarray => cases h
      case areturn => cases h
      case arraylength => cases h
      case astore => exact mR h fun _ _ _ h => ih h
      case astore_n => exact mR h fun _ _ _ h => ih h
      case athrow => cases h
      case baload => exact mI h fun _ _ h => mR h fun _ _ _ h => mB h fun h => mB h fun h => ih h
      case bastore => exact mI h fun _ _ h => mI h fun _ _ h => mR h fun _ _ _ h => mB h fun h => mB h fun h => ih h
      case bipush => exact ih h
      case caload => cases h
      case castore => cases h
      case checkcast => cases h
      case d2f => cases h
      case d2i => cases h
      case d2l => cases h
      case dadd => cases h
      case daload => cases h
      case dastore => cases h
      case dcmp => cases h
      case dconst => cases h
      case ddiv => cases h
      case dload => cases h
      case dload_n => cases h
      case dmul => cases h
      case dneg => cases h
      case drem => cases h
      case dreturn => cases h
      case dstore => cases h
      case dstore_n => cases h
      case dsub => cases h
      case dup =>
        have h : fa_17 (am_rv cn ln N) y f r n a b d 0 v ls st σ τ ρ cn ln = some x := h
        unfold fa_17 at h
        exact m1 h fun _ _ h => ih h
      case dup_x1 => cases h
      case dup_x2 => cases h
      case dup2 => cases h
      case dup2_x1 => cases h
      case dup2_x2 => cases h
      case f2d => cases h
      case f2i => cases h
      case f2l => cases h
      case fadd => cases h
      case faload => cases h
      case fastore => cases h
      case fcmp => cases h
      case fconst => cases h
      case fdiv => cases h
      case fload => cases h
      case fload_n => cases h
      case fmul => cases h
      case fneg => cases h
      case frem => cases h
      case freturn => cases h
      case fstore => cases h
      case fstore_n => cases h
      case fsub => cases h
      case getfield => exact mR h fun _ _ _ h => mB h fun h => mC h (fun h => ih h) (fun h => mC h (fun h => ih h) (fun h => ih h))
      case getstatic => cases h
      case goto => exact ih h
      case goto_w => cases h
      case i2b => cases h
      case i2c => cases h
      case i2d => cases h
      case i2f => cases h
      case i2l => cases h
      case i2s => cases h
      case iadd => exact mI h fun _ _ h => mI h fun _ _ h => ih h
      case iaload => exact mI h fun _ _ h => mR h fun _ _ _ h => mB h fun h => mB h fun h => ih h
      case iand => exact mI h fun _ _ h => mI h fun _ _ h => ih h
      case iastore => exact mI h fun _ _ h => mI h fun _ _ h => mR h fun _ _ _ h => mB h fun h => mB h fun h => ih h
      case iconst => exact ih h
      case idiv => exact mI h fun _ _ h => mI h fun _ _ h => mB h fun h => ih h
      case if_acmp => cases h
      case if_icmp c2 off =>
        cases c2
        all_goals exact mI h fun _ _ h => mI h fun _ _ h => mC h (fun h => ih h) (fun h => ih h)
      case ifCond c2 off =>
        cases c2
        all_goals exact mI h fun _ _ h => mC h (fun h => ih h) (fun h => ih h)
      case ifnonnull => cases h
      case ifnull => cases h
      case iinc k g =>
        refine mlI h fun z h => ?_
        rcases v with q | q
        · exact ih h
        · cases h
      case iload => exact mlI h fun _ h => ih h
      case iload_n => exact mlI h fun _ h => ih h
      case imul => exact mI h fun _ _ h => mI h fun _ _ h => ih h
      case ineg => cases h
      case instanceof => cases h
      case invokedynamic => cases h
      case invokeinterface => cases h
      case invokespecial => cases h
      case invokestatic z =>
        have h : fa_40 (am_rv cn ln N) y f r n a b d 0 v ls st σ τ ρ cn ln = some x := h
        unfold fa_40 at h
        dsimp only
        cases h1 : Nat.beq a 1001 with
        | true => rw [h1] at h; cases h
        | false =>
          rw [h1, cond_false] at h
          rw [cond_false]
          split at h
          · rename_i vs rest hs
            split at h
            · rename_i g m s hg
              rw [hs, hg]
              dsimp only
              refine mB h fun h => ?_
              split at h
              · rename_i w σ2 τ2 ρ2 hr
                rw [ih hr]
                exact ih h
              · cases h
            · cases h
          · cases h
      case invokevirtual z =>
        have h : fa_39 (am_rv cn ln N) y f r n a b d 0 v ls st σ τ ρ cn ln = some x := h
        unfold fa_39 at h
        dsimp only
        split at h
        · rename_i q vs rest hs
          split at h
          · rename_i g m s hg
            rw [hs, hg]
            dsimp only
            refine mB h fun h => ?_
            split at h
            · rename_i w σ2 τ2 ρ2 hr
              rw [ih hr]
              exact ih h
            · cases h
          · cases h
        · cases h
      case ior => exact mI h fun _ _ h => mI h fun _ _ h => ih h
      case irem => exact mI h fun _ _ h => mI h fun _ _ h => mB h fun h => ih h
      case ireturn => exact h
      case ishl => exact mI h fun _ _ h => mI h fun _ _ h => ih h
      case ishr => exact mI h fun _ _ h => mI h fun _ _ h => ih h
      case istore => exact mI h fun _ _ h => ih h
      case istore_n => exact mI h fun _ _ h => ih h
      case isub => exact mI h fun _ _ h => mI h fun _ _ h => ih h
      case iushr => cases h
      case ixor => exact mI h fun _ _ h => mI h fun _ _ h => ih h
      case jsr => cases h
      case jsr_w => cases h
      case l2d => cases h
      case l2f => cases h
      case l2i => cases h
      case ladd => cases h
      case laload => cases h
      case land => cases h
      case lastore => cases h
      case lcmp => cases h
      case lconst => cases h
      case ldc => exact ih h
      case ldc_w => exact ih h
      case ldc2_w => exact ih h
      case ldiv => cases h
      case lload => cases h
      case lload_n => cases h
      case lmul => cases h
      case lneg => cases h
      case lookupswitch => cases h
      case lor => cases h
      case lrem => cases h
      case lreturn => cases h
      case lshl => cases h
      case lshr => cases h
      case lstore => cases h
      case lstore_n => cases h
      case lsub => cases h
      case lushr => cases h
      case lxor => cases h
      case monitorenter => cases h
      case monitorexit => cases h
      case multianewarray => cases h
      case new => cases h
      case newarray => cases h
      case nop => cases h
      case pop =>
        have h : fa_18 (am_rv cn ln N) y f r n a b d 0 v ls st σ τ ρ cn ln = some x := h
        unfold fa_18 at h
        exact m1 h fun _ _ h => ih h
      case pop2 => cases h
      case putfield z =>
        have h : (bif Nat.beq d 1 then none else bif Nat.beq d 2 then none else bif Nat.beq d 3 then none else _) = some x := h
        cases h1 : Nat.beq d 1 with
        | true => rw [h1] at h; cases h
        | false =>
          cases h2 : Nat.beq d 2 with
          | true => rw [h1, h2] at h; cases h
          | false =>
            cases h3 : Nat.beq d 3 with
            | true => rw [h1, h2, h3] at h; cases h
            | false =>
              rw [h1, h2, h3] at h
              simp only [am_step, h1, h2, h3, cond_false]
              exact mI h fun _ _ h => mR h fun _ _ _ h => mB h fun h => ih h
      case putstatic => cases h
      case ret => cases h
      case return_ => exact h
      case saload => cases h
      case sastore => cases h
      case sipush => exact ih h
      case swap => cases h
      case tableswitch => cases h
noncomputable def am_rvD (N z : Nat) (vs : List am_V) (σ : tI) (τ : tL) (ρ : tR) (cn : tN) (ln : tM) : Option am_re := match am_Fd z with
  | some (f, m, r) => bif Nat.ble (am_cats vs) m then am_rv cn ln N z f r 0 (am_args 0 vs) [] σ τ ρ else none
  | none => none
theorem am_rvD_ok {l : Launch} {N z : Nat} {vs : List am_V} {σ : tI} {τ : tL} {ρ : tR} {cn : tN} {ln : tM} {x : Option am_V} {σ2 : tI} {τ2 : tL} {ρ2 : tR} (h : am_rvD N z vs σ τ ρ cn ln = some (x, σ2, τ2, ρ2)) : am_D l z vs σ τ ρ cn ln x σ2 τ2 ρ2 := by
  refine am_ruD_ok (N := N) ?_
  unfold am_rvD at h
  unfold am_ruD
  split at h
  · rename_i f m r hg
    rw [hg]
    exact mB h fun h => am_rv_ru N h
  · cases h
noncomputable def am_gv (N zx zm : Nat) (as : List am_V) (σ : tI) (τ : tL) (ρ : tR) (cn : tN) (ln : tM) : Bool := match am_rvD N zx (aR 11 0 :: as) σ τ ρ cn ln with
  | some (some v, σ1, τ1, ρ1) => am_num zx (some v) && (match am_rvD N zm (aR 12 0 :: as) σ1 τ1 ρ1 cn ln with
    | some (some v2, _) => decide (v2 = v)
    | _ => false)
  | _ => false
theorem am_gv_ok {l : Launch} {N zx zm : Nat} {as : List am_V} {σ : tI} {τ : tL} {ρ : tR} {cn : tN} {ln : tM} (h : am_gv N zx zm as σ τ ρ cn ln = true) : LG l zx zm as σ τ ρ cn ln lgT := by
  unfold am_gv at h
  split at h
  · rename_i v σ1 τ1 ρ1 h1
    rw [Bool.and_eq_true] at h
    obtain ⟨hn, h2⟩ := h
    split at h2
    · rename_i v2 q h3
      obtain ⟨σ2, τ2, ρ2⟩ := q
      obtain rfl := of_decide_eq_true h2
      exact LG.of (am_rvD_ok h1) (am_rvD_ok h3) trivial hn
    · cases h2
  · cases h
