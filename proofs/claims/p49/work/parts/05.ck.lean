/-! THE CHECKS of a table entry against the class files and the words -/
-- the checks of an entry
noncomputable def am_fk (y x a b c d : Nat) (fin : Bool) : Bool := match vwCl[a]? with
  | some (C, T, N) => am_has c (.fieldLink (am_nm y).cls x (T b).1 (T b).2.1 (T b).2.2.1) && (Nat.blt b N && (Nat.beq d (am_ft a b) && (am_tyok (parseFieldDescriptor (T b).2.2.1) d && (fin || !(T b).2.2.2 || (decide ((am_nm y).name = "<init>") && decide ((T b).1 = (am_nm y).cls))))))
  | none => false
noncomputable def am_cki (y pc : Nat) (i : Instr) (l a b c d : Nat) (v : am_V) (sl : List (Int32 × Nat)) : Bool := match i with
  | .iconst k => Nat.beq l 1 && decide (v = .inl (Int32.ofInt k))
  | .bipush k => Nat.beq l 2 && decide (v = .inl (Int8.ofInt k).toInt32)
  | .sipush k => Nat.beq l 3 && decide (v = .inl (Int16.ofInt k).toInt32)
  | .ldc x => Nat.beq l 2 && (match v with
    | .inl g => am_has c (.constant (am_nm y).cls x g)
    | _ => false)
  | .ldc_w x => Nat.beq l 3 && (match v with
    | .inl g => am_has c (.constant (am_nm y).cls x g)
    | _ => false)
  | .ldc2_w x => Nat.beq l 3 && (match v with
    | .inr (.inl g) => am_has c (.constantLong (am_nm y).cls x g)
    | _ => false)
  | .lconst k => Nat.beq l 1 && decide (v = .inr (.inl (Int64.ofNat k.val)))
  | .aconst_null => Nat.beq l 1 && decide (v = aN)
  | .iload_n _ | .lload_n _ | .aload_n _ => Nat.beq l 1
  | .iload _ | .lload _ | .aload _ => Nat.beq l 2
  | .istore_n k | .astore_n k => Nat.beq l 1 && Nat.blt k.val (am_ml y)
  | .istore k | .astore k => Nat.beq l 2 && Nat.blt k (am_ml y)
  | .lstore_n k => Nat.beq l 1 && Nat.blt (k.val + 1) (am_ml y)
  | .lstore k => Nat.beq l 2 && Nat.blt (k + 1) (am_ml y)
  | .iinc k g => Nat.beq l 3 && (decide (v = .inl (Int32.ofInt g)) && Nat.blt k (am_ml y))
  | .getfield x => Nat.beq l 3 && am_fk y x a b c d true
  | .putfield x => Nat.beq l 3 && am_fk y x a b c d false
  | .new x => Nat.beq l 3 && (match vwCl[a]? with
    | some (C, _, N) => am_has c (.classLink (am_nm y).cls x C) && Nat.beq b N
    | none => false)
  | .newarray t => Nat.beq l 2 && (match t with
    | .int => Nat.beq (am_ek a) 0
    | .boolean => Nat.beq (am_ek a) 1
    | _ => false)
  | .anewarray x => Nat.beq l 3 && (Nat.blt 1 (am_ek a) && (Nat.blt (am_ek a) 6 && am_has c (.classLink (am_nm y).cls x (am_ec (am_ek a)))))
  | .ifCond _ off => Nat.beq l 3 && decide ((pc : Int) + off = a)
  | .if_icmp _ off => Nat.beq l 3 && decide ((pc : Int) + off = a)
  | .goto off => Nat.beq l 3 && decide ((pc : Int) + off = a)
  | .ifnull off => Nat.beq l 3 && decide ((pc : Int) + off = a)
  | .tableswitch dflt lo hi offs => decide ((pc : Int) + dflt = a) && (decide (sl.map (fun q => (q.1.toInt, (q.2 : Int))) = (List.range offs.size).map (fun (k : Nat) => (lo + (k : Int), (pc : Int) + offs.getD k 0))) && decide (hi = lo + offs.size - 1))
  | .lookupswitch dflt ps => decide ((pc : Int) + dflt = a) && (decide (sl.map (fun q => (q.1.toInt, (q.2 : Int))) = ps.toList.map (fun q => (q.1, (pc : Int) + q.2))) && (ps.toList.zip (ps.toList.drop 1)).all (fun (a, next) => a.1 < next.1))
  | .invokevirtual _ | .invokestatic _ | .invokespecial _ => Nat.beq l 3
  | _ => Nat.beq l 1
noncomputable def am_ck (y pc : Nat) (e : am_en) : Bool := match e with
  | (i, l, n, a, b, c, d, v, sl) => (match decode (am_cb y) pc with
    | .ok (i2, l2) => decide (i2 = i) && Nat.beq l2 l
    | _ => false) && (Nat.beq n (pc + l) && am_cki y pc i l a b c d v sl)
theorem am_ck_inv {y pc l n a b c d : Nat} {i : Instr} {v : am_V} {sl : List (Int32 × Nat)} (h : am_ck y pc (i, l, n, a, b, c, d, v, sl) = true) : decode (am_cb y) pc = .ok (i, l) ∧ n = pc + l ∧ am_cki y pc i l a b c d v sl = true := by
  unfold am_ck at h
  simp only [Bool.and_eq_true] at h
  obtain ⟨h1, h2, h3⟩ := h
  refine ⟨?_, Nat.eq_of_beq_eq_true h2, h3⟩
  split at h1
  · rename_i i2 l2 e
    simp only [Bool.and_eq_true, decide_eq_true_eq] at h1
    rw [e, h1.1, Nat.eq_of_beq_eq_true h1.2]
  · cases h1
