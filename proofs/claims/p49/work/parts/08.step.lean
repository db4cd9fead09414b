/-! ONE STEP of the small machine, for any kind of answer R -/
def am_lg : am_ls → Nat → Option am_V
  | [], _ => none
  | (j, v) :: r, i => bif Nat.beq j i then some v else am_lg r i
def am_st1 (i : Nat) (v : am_V) (ls : am_ls) : am_ls := (i, v) :: ls.filter (fun q => !(q.1 == i) && !(q.1 + 1 == i && am_cat q.2 == 2))
def am_st2 (i : Nat) (v : am_V) (ls : am_ls) : am_ls := (i, v) :: ls.filter (fun q => !(q.1 == i) && (!(q.1 == i + 1) && !(q.1 + 1 == i && am_cat q.2 == 2)))
def am_pI {R : Type} (z : R) (st : List am_V) (k : Int32 → List am_V → R) : R := match st with
  | .inl x :: r => k x r
  | _ => z
def am_pL {R : Type} (z : R) (st : List am_V) (k : Int64 → List am_V → R) : R := match st with
  | .inr (.inl x) :: r => k x r
  | _ => z
def am_pA {R : Type} (z : R) (st : List am_V) (k : Option (Nat × Nat) → List am_V → R) : R := match st with
  | .inr (.inr x) :: r => k x r
  | _ => z
def am_pR {R : Type} (z : R) (st : List am_V) (k : Nat → Nat → List am_V → R) : R := match st with
  | .inr (.inr (some (a, b))) :: r => k a b r
  | _ => z
def am_p1 {R : Type} (z : R) (st : List am_V) (k : am_V → List am_V → R) : R := match st with
  | .inl x :: r => k (.inl x) r
  | .inr (.inr x) :: r => k (.inr (.inr x)) r
  | _ => z
def am_lI {R : Type} (z : R) (ls : am_ls) (i : Nat) (k : Int32 → R) : R := match am_lg ls i with
  | some (.inl x) => k x
  | _ => z
def am_lL {R : Type} (z : R) (ls : am_ls) (i : Nat) (k : Int64 → R) : R := match am_lg ls i with
  | some (.inr (.inl x)) => k x
  | _ => z
def am_lR {R : Type} (z : R) (ls : am_ls) (i : Nat) (k : Nat → Nat → R) : R := match am_lg ls i with
  | some (.inr (.inr (some (a, b)))) => k a b
  | _ => z
theorem am_pI_inv {st : List am_V} {k : Int32 → List am_V → Prop} (h : am_pI False st k) : ∃ x r, st = .inl x :: r ∧ k x r := by
  unfold am_pI at h
  split at h
  · exact ⟨_, _, rfl, h⟩
  · exact h.elim
theorem am_pL_inv {st : List am_V} {k : Int64 → List am_V → Prop} (h : am_pL False st k) : ∃ x r, st = .inr (.inl x) :: r ∧ k x r := by
  unfold am_pL at h
  split at h
  · exact ⟨_, _, rfl, h⟩
  · exact h.elim
theorem am_pA_inv {st : List am_V} {k : Option (Nat × Nat) → List am_V → Prop} (h : am_pA False st k) : ∃ x r, st = .inr (.inr x) :: r ∧ k x r := by
  unfold am_pA at h
  split at h
  · exact ⟨_, _, rfl, h⟩
  · exact h.elim
theorem am_pR_inv {st : List am_V} {k : Nat → Nat → List am_V → Prop} (h : am_pR False st k) : ∃ a b r, st = .inr (.inr (some (a, b))) :: r ∧ k a b r := by
  unfold am_pR at h
  split at h
  · exact ⟨_, _, _, rfl, h⟩
  · exact h.elim
theorem am_p1_inv {st : List am_V} {k : am_V → List am_V → Prop} (h : am_p1 False st k) : ∃ x r, st = x :: r ∧ am_cat x = 1 ∧ k x r := by
  unfold am_p1 at h
  split at h
  · exact ⟨_, _, rfl, rfl, h⟩
  · exact ⟨_, _, rfl, rfl, h⟩
  · exact h.elim
theorem am_lI_inv {ls : am_ls} {i : Nat} {k : Int32 → Prop} (h : am_lI False ls i k) : ∃ x, am_lg ls i = some (.inl x) ∧ k x := by
  unfold am_lI at h
  split at h
  · rename_i x e
    exact ⟨x, e, h⟩
  · exact h.elim
theorem am_lL_inv {ls : am_ls} {i : Nat} {k : Int64 → Prop} (h : am_lL False ls i k) : ∃ x, am_lg ls i = some (.inr (.inl x)) ∧ k x := by
  unfold am_lL at h
  split at h
  · rename_i x e
    exact ⟨x, e, h⟩
  · exact h.elim
theorem am_lR_inv {ls : am_ls} {i : Nat} {k : Nat → Nat → Prop} (h : am_lR False ls i k) : ∃ a b, am_lg ls i = some (.inr (.inr (some (a, b)))) ∧ k a b := by
  unfold am_lR at h
  split at h
  · rename_i a b e
    exact ⟨a, b, e, h⟩
  · exact h.elim
theorem am_bif {c : Bool} {A : Prop} (h : (bif c then A else False)) : c = true ∧ A := by
  cases c
  · exact h.elim
  · exact ⟨rfl, h⟩
theorem am_bif2 {c : Bool} {A : Prop} (h : (bif c then False else A)) : c = false ∧ A := by
  cases c
  · exact ⟨rfl, h⟩
  · exact h.elim
def am_vin (i : Int32) (n : Nat) : am_C := ⟨vp_in i n, inferInstanceAs (Decidable (¬ (i < 0 ∨ n ≤ i.toNatClampNeg)))⟩
def am_vinz (i : Int32) (n : Nat) (x : Int32) : am_C := ⟨vp_in i n ∧ (x = 0 ∨ x = 1), inferInstanceAs (Decidable (¬ (i < 0 ∨ n ≤ i.toNatClampNeg) ∧ (x = 0 ∨ x = 1)))⟩
section AMS
variable {R : Type}
noncomputable def am_step (z : R) (nx : Nat → am_ls → List am_V → R) (nc : am_C → Nat → List am_V → R) (nu : Nat → List am_V → tI → tL → tR → R) (ns : am_C → Nat → List am_V → tI → tL → tR → R) (na : am_C → Nat → Nat → List am_V → tI → tL → tR → tN → tM → R) (br : am_C → Nat → Nat → List am_V → R) (sw : Int32 → List (Int32 × Nat) → Nat → List am_V → R) (ot : R)
    (i : Instr) (n a b d : Nat) (v : am_V) (sl : List (Int32 × Nat)) (ls : am_ls) (st : List am_V) (σ : tI) (τ : tL) (ρ : tR) (cn : tN) (ln : tM) : R := match i with
  | .iconst _ => nx n ls (v :: st)
  | .bipush _ => nx n ls (v :: st)
  | .sipush _ => nx n ls (v :: st)
  | .ldc _ => nx n ls (v :: st)
  | .ldc_w _ => nx n ls (v :: st)
  | .ldc2_w _ => nx n ls (v :: st)
  | .lconst _ => nx n ls (v :: st)
  | .aconst_null => nx n ls (v :: st)
  | .iload_n k => am_lI z ls k.val fun x => nx n ls (.inl x :: st)
  | .iload k => am_lI z ls k fun x => nx n ls (.inl x :: st)
  | .lload_n k => am_lL z ls k.val fun x => nx n ls (.inr (.inl x) :: st)
  | .lload k => am_lL z ls k fun x => nx n ls (.inr (.inl x) :: st)
  | .aload_n k => am_lR z ls k.val fun x y => nx n ls (.inr (.inr (some (x, y))) :: st)
  | .aload k => am_lR z ls k fun x y => nx n ls (.inr (.inr (some (x, y))) :: st)
  | .istore_n k => am_pI z st fun x st => nx n (am_st1 k.val (.inl x) ls) st
  | .istore k => am_pI z st fun x st => nx n (am_st1 k (.inl x) ls) st
  | .lstore_n k => am_pL z st fun x st => nx n (am_st2 k.val (.inr (.inl x)) ls) st
  | .lstore k => am_pL z st fun x st => nx n (am_st2 k (.inr (.inl x)) ls) st
  | .astore_n k => am_pR z st fun x y st => nx n (am_st1 k.val (.inr (.inr (some (x, y)))) ls) st
  | .astore k => am_pR z st fun x y st => nx n (am_st1 k (.inr (.inr (some (x, y)))) ls) st
  | .iinc k _ => am_lI z ls k fun x => match v with
    | .inl g => nx n (am_st1 k (.inl (x + g)) ls) st
    | _ => z
  | .iadd => am_pI z st fun y st => am_pI z st fun x st => nx n ls (.inl (x + y) :: st)
  | .isub => am_pI z st fun y st => am_pI z st fun x st => nx n ls (.inl (x - y) :: st)
  | .imul => am_pI z st fun y st => am_pI z st fun x st => nx n ls (.inl (x * y) :: st)
  | .iand => am_pI z st fun y st => am_pI z st fun x st => nx n ls (.inl (x &&& y) :: st)
  | .ior => am_pI z st fun y st => am_pI z st fun x st => nx n ls (.inl (x ||| y) :: st)
  | .ixor => am_pI z st fun y st => am_pI z st fun x st => nx n ls (.inl (x ^^^ y) :: st)
  | .ishl => am_pI z st fun y st => am_pI z st fun x st => nx n ls (.inl (x <<< (y &&& 31)) :: st)
  | .ishr => am_pI z st fun y st => am_pI z st fun x st => nx n ls (.inl (x >>> (y &&& 31)) :: st)
  | .iushr => am_pI z st fun y st => am_pI z st fun x st => nx n ls (.inl (x.toUInt32 >>> (y.toUInt32 &&& Int32.toUInt32 31)).toInt32 :: st)
  | .idiv => am_pI z st fun y st => am_pI z st fun x st => nc (am_if (¬ y = 0)) n (.inl (x / y) :: st)
  | .irem => am_pI z st fun y st => am_pI z st fun x st => nc (am_if (¬ y = 0)) n (.inl (x - x / y * y) :: st)
  | .ladd => am_pL z st fun y st => am_pL z st fun x st => nx n ls (.inr (.inl (x + y)) :: st)
  | .lsub => am_pL z st fun y st => am_pL z st fun x st => nx n ls (.inr (.inl (x - y)) :: st)
  | .lmul => am_pL z st fun y st => am_pL z st fun x st => nx n ls (.inr (.inl (x * y)) :: st)
  | .ldiv => am_pL z st fun y st => am_pL z st fun x st => nc (am_if (¬ y = 0)) n (.inr (.inl (x / y)) :: st)
  | .lrem => am_pL z st fun y st => am_pL z st fun x st => nc (am_if (¬ y = 0)) n (.inr (.inl (x - x / y * y)) :: st)
  | .lcmp => am_pL z st fun y st => am_pL z st fun x st => nx n ls (.inl (lg_cmp x y) :: st)
  | .i2l => am_pI z st fun x st => nx n ls (.inr (.inl x.toInt64) :: st)
  | .i2b => am_pI z st fun x st => nx n ls (.inl x.toInt8.toInt32 :: st)
  | .dup => am_p1 z st fun w st => nx n ls (w :: w :: st)
  | .pop => am_p1 z st fun _ st => nx n ls st
  | .dup2 => am_p1 z st fun w st => am_p1 z st fun w2 st => nx n ls (w :: w2 :: w :: w2 :: st)
  | .getfield _ => am_pR z st fun k o st => bif Nat.beq k a then
      (bif Nat.beq d 1 then nx n ls (.inr (.inl (τ a o b)) :: st) else bif Nat.beq d 2 then nx n ls (.inr (.inr (ρ a o b)) :: st) else nx n ls (.inl (σ a o b) :: st)) else z
  | .putfield _ => bif Nat.beq d 1 then (am_pL z st fun x st => am_pR z st fun k o st => bif Nat.beq k a then nu n st σ (u3 τ a o b x) ρ else z)
      else bif Nat.beq d 2 then (am_pA z st fun x st => am_pR z st fun k o st => bif Nat.beq k a then nu n st σ τ (u3 ρ a o b x) else z)
      else bif Nat.beq d 3 then (am_pI z st fun x st => am_pR z st fun k o st => bif Nat.beq k a then ns (am_if (x = 0 ∨ x = 1)) n st (u3 σ a o b x) τ ρ else z)
      else (am_pI z st fun x st => am_pR z st fun k o st => bif Nat.beq k a then nu n st (u3 σ a o b x) τ ρ else z)
  | .iaload => am_pI z st fun x st => am_pR z st fun k o st => bif Nat.beq (am_ek k) 0 then nc (am_vin x (ln k o)) n (.inl (σ k o x.toNatClampNeg) :: st) else z
  | .baload => am_pI z st fun x st => am_pR z st fun k o st => bif Nat.beq (am_ek k) 1 then nc (am_vin x (ln k o)) n (.inl (σ k o x.toNatClampNeg) :: st) else z
  | .aaload => am_pI z st fun x st => am_pR z st fun k o st => bif Nat.blt 1 (am_ek k) && Nat.blt (am_ek k) 6 then nc (am_vin x (ln k o)) n (.inr (.inr (ρ k o x.toNatClampNeg)) :: st) else z
  | .iastore => am_pI z st fun g st => am_pI z st fun x st => am_pR z st fun k o st => bif Nat.beq (am_ek k) 0 then ns (am_vin x (ln k o)) n st (u3 σ k o x.toNatClampNeg g) τ ρ else z
  | .bastore => am_pI z st fun g st => am_pI z st fun x st => am_pR z st fun k o st => bif Nat.beq (am_ek k) 1 then ns (am_vinz x (ln k o) g) n st (u3 σ k o x.toNatClampNeg g) τ ρ else z
  | .aastore => am_pR z st fun kv ov st => am_pI z st fun x st => am_pR z st fun k o st => bif Nat.blt 1 (am_ek k) && Nat.blt (am_ek k) 6 && Nat.beq kv (am_en_cls (am_ek k)) then ns (am_vin x (ln k o)) n st σ τ (u3 ρ k o x.toNatClampNeg (some (kv, ov))) else z
  | .arraylength => am_pR z st fun k o st => bif Nat.blt (am_ek k) 6 then nx n ls (.inl (nI (ln k o)) :: st) else z
  | .new _ => na (am_if True) b n (.inr (.inr (some (a, cn a))) :: st) (z2 σ a (cn a) 0) (z2 τ a (cn a) 0) (z2 ρ a (cn a) none) (u1 cn a (cn a + 1)) ln
  | .newarray _ => am_pI z st fun x st => na (am_if (¬ x < 0 ∧ x.toNatClampNeg ≤ 100000)) x.toNatClampNeg n (.inr (.inr (some (a, cn a))) :: st) (z2 σ a (cn a) 0) τ (z2 ρ a (cn a) none) (u1 cn a (cn a + 1)) (u2 ln a (cn a) x.toNatClampNeg)
  | .anewarray _ => am_pI z st fun x st => na (am_if (¬ x < 0 ∧ x.toNatClampNeg ≤ 100000)) x.toNatClampNeg n (.inr (.inr (some (a, cn a))) :: st) σ τ (z2 ρ a (cn a) none) (u1 cn a (cn a + 1)) (u2 ln a (cn a) x.toNatClampNeg)
  | .ifCond c _ => am_pI z st fun x st => match c with
    | .eq => br (am_if (x = 0)) a n st
    | .ne => br (am_if (x = 0)) n a st
    | .lt => br (am_if (x < 0)) a n st
    | .ge => br (am_if (0 ≤ x)) a n st
    | .gt => br (am_if (0 < x)) a n st
    | .le => br (am_if (x ≤ 0)) a n st
  | .if_icmp c _ => am_pI z st fun y st => am_pI z st fun x st => match c with
    | .eq => br (am_if (x = y)) a n st
    | .ne => br (am_if (x = y)) n a st
    | .lt => br (am_if (x < y)) a n st
    | .ge => br (am_if (y ≤ x)) a n st
    | .gt => br (am_if (y < x)) a n st
    | .le => br (am_if (x ≤ y)) a n st
  | .goto _ => nx a ls st
  | .ifnull _ => am_pA z st fun r st => match r with
    | none => nx a ls st
    | some _ => nx n ls st
  | .tableswitch _ _ _ _ => am_pI z st fun x st => sw x sl a st
  | .lookupswitch _ _ => am_pI z st fun x st => sw x sl a st
  | .invokevirtual _ => ot
  | .invokestatic _ => ot
  | .invokespecial _ => ot
  | .ireturn => ot
  | .lreturn => ot
  | .return_ => ot
  | _ => z
end AMS
