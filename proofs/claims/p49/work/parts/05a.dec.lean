/-! DECODING out of the bytes that are left -/
noncomputable def dq_f (pc : Nat) : Nat → Jvm.ClassFile.Decoder Jvm.ClassFile.Instr := by
  refine (fun (f : Nat → Jvm.ClassFile.Decoder Jvm.ClassFile.Instr) (_ : Jvm.ClassFile.Decoder.instr pc = (Jvm.ClassFile.Reader.u1 >>= f)) => f) ?_ ?_
  rotate_left
  exact rfl
section DQ
variable {code : ByteArray} {pc : Nat} {b : UInt8} {r : List UInt8}
theorem dq_u1 (h : code.data.toList.drop pc = b :: r) : (Jvm.ClassFile.Reader.u1 : Jvm.ClassFile.Decoder Nat) code pc = .ok (b.toNat, pc + 1) := by
  have h1 : code.data.toList[pc]? = some b := by
    have h2 := congrArg (fun l => l[0]?) h
    simpa [List.getElem?_drop] using h2
  obtain ⟨h3, h4⟩ := List.getElem?_eq_some_iff.mp h1
  have h5 : pc < code.size := by
    rw [Array.length_toList] at h3
    exact h3
  have h6 : (Jvm.ClassFile.Reader.u1 : Jvm.ClassFile.Decoder Nat) code pc = .ok ((code[pc]'h5).toNat, pc + 1) := by
    unfold Jvm.ClassFile.Reader.u1
    show (if h : pc < code.size then _ else _ : Jvm.ClassFile.Decoder Nat) code pc = _
    rw [dif_pos h5]
    rfl
  rw [h6, ← h4]
  rfl
theorem dq_next {l : List UInt8} {r : List UInt8} (h : l.drop pc = b :: r) : l.drop (pc + 1) = r := by
  rw [← List.drop_drop, h]
  rfl
theorem dq_of (h : code.data.toList.drop pc = b :: r) {i : Jvm.ClassFile.Instr} {n : Nat} (hi : dq_f pc b.toNat code (pc + 1) = .ok (i, n)) : decode code pc = .ok (i, n - pc) := by
  have h1 : Jvm.ClassFile.Decoder.instr pc code pc = .ok (i, n) := by
    show Except.bind ((Jvm.ClassFile.Reader.u1 : Jvm.ClassFile.Decoder Nat) code pc) (fun x => dq_f pc x.1 code x.2) = _
    rw [dq_u1 h]
    exact hi
  show Except.bind (Jvm.ClassFile.Decoder.instr pc code pc) (fun x => .ok (x.1, x.2 - pc)) = _
  rw [h1]
  rfl
theorem dq_0 {i : Jvm.ClassFile.Instr} {k : Nat} (hf : dq_f pc k = Pure.pure i) (h : code.data.toList.drop pc = b :: r) (hb : Nat.beq b.toNat k = true) : decode code pc = .ok (i, 1) := by
  have hi : dq_f pc b.toNat code (pc + 1) = .ok (i, pc + 1) := by
    rw [Nat.eq_of_beq_eq_true hb, hf]
    rfl
  rw [dq_of h hi, Nat.add_sub_cancel_left]
theorem dq_1 {mk : Nat → Jvm.ClassFile.Instr} {k : Nat} {c : UInt8} (hf : dq_f pc k = (do Pure.pure (mk (← Jvm.ClassFile.Reader.u1)))) (h : code.data.toList.drop pc = b :: c :: r) (hb : Nat.beq b.toNat k = true) : decode code pc = .ok (mk c.toNat, 2) := by
  have hi : dq_f pc b.toNat code (pc + 1) = .ok (mk c.toNat, pc + 2) := by
    rw [Nat.eq_of_beq_eq_true hb, hf]
    show Except.bind ((Jvm.ClassFile.Reader.u1 : Jvm.ClassFile.Decoder Nat) code (pc + 1)) (fun x => .ok (mk x.1, x.2)) = _
    rw [dq_u1 (dq_next h)]
    rfl
  rw [dq_of h hi, Nat.add_sub_cancel_left]
theorem dq_2 {mk : Nat → Jvm.ClassFile.Instr} {k : Nat} {c d : UInt8} (hf : dq_f pc k = (do Pure.pure (mk (← Jvm.ClassFile.Reader.u2)))) (h : code.data.toList.drop pc = b :: c :: d :: r) (hb : Nat.beq b.toNat k = true) : decode code pc = .ok (mk (c.toNat * 256 + d.toNat), 3) := by
  have hi : dq_f pc b.toNat code (pc + 1) = .ok (mk (c.toNat * 256 + d.toNat), pc + 3) := by
    rw [Nat.eq_of_beq_eq_true hb, hf]
    show Except.bind (Except.bind ((Jvm.ClassFile.Reader.u1 : Jvm.ClassFile.Decoder Nat) code (pc + 1)) (fun x => Except.bind ((Jvm.ClassFile.Reader.u1 : Jvm.ClassFile.Decoder Nat) code x.2) (fun y => .ok (x.1 * 256 + y.1, y.2)))) (fun x => .ok (mk x.1, x.2)) = _
    rw [dq_u1 (dq_next h)]
    show Except.bind (Except.bind ((Jvm.ClassFile.Reader.u1 : Jvm.ClassFile.Decoder Nat) code (pc + 1 + 1)) (fun y => .ok (c.toNat * 256 + y.1, y.2))) (fun x => .ok (mk x.1, x.2)) = _
    rw [dq_u1 (dq_next (dq_next h))]
    rfl
  rw [dq_of h hi, Nat.add_sub_cancel_left]
theorem dq_s1e {mk : Int → Jvm.ClassFile.Instr} : (do Pure.pure (mk (← Jvm.ClassFile.Reader.s1)) : Jvm.ClassFile.Decoder Jvm.ClassFile.Instr) = (do Pure.pure (mk (Jvm.ClassFile.Reader.signed 8 (← Jvm.ClassFile.Reader.u1)))) := by
  funext code pc
  show Except.bind (Except.bind ((Jvm.ClassFile.Reader.u1 : Jvm.ClassFile.Decoder Nat) code pc) (fun x => .ok (Jvm.ClassFile.Reader.signed 8 x.1, x.2))) (fun x => .ok (mk x.1, x.2)) = Except.bind ((Jvm.ClassFile.Reader.u1 : Jvm.ClassFile.Decoder Nat) code pc) (fun x => .ok (mk (Jvm.ClassFile.Reader.signed 8 x.1), x.2))
  cases (Jvm.ClassFile.Reader.u1 : Jvm.ClassFile.Decoder Nat) code pc <;> rfl
theorem dq_s2e {mk : Int → Jvm.ClassFile.Instr} : (do Pure.pure (mk (← Jvm.ClassFile.Reader.s2)) : Jvm.ClassFile.Decoder Jvm.ClassFile.Instr) = (do Pure.pure (mk (Jvm.ClassFile.Reader.signed 16 (← Jvm.ClassFile.Reader.u2)))) := by
  funext code pc
  show Except.bind (Except.bind ((Jvm.ClassFile.Reader.u2 : Jvm.ClassFile.Decoder Nat) code pc) (fun x => .ok (Jvm.ClassFile.Reader.signed 16 x.1, x.2))) (fun x => .ok (mk x.1, x.2)) = Except.bind ((Jvm.ClassFile.Reader.u2 : Jvm.ClassFile.Decoder Nat) code pc) (fun x => .ok (mk (Jvm.ClassFile.Reader.signed 16 x.1), x.2))
  cases (Jvm.ClassFile.Reader.u2 : Jvm.ClassFile.Decoder Nat) code pc <;> rfl
theorem dq_1s {mk : Int → Jvm.ClassFile.Instr} {k : Nat} {c : UInt8} (hf : dq_f pc k = (do Pure.pure (mk (← Jvm.ClassFile.Reader.s1)))) (h : code.data.toList.drop pc = b :: c :: r) (hb : Nat.beq b.toNat k = true) : decode code pc = .ok (mk (Jvm.ClassFile.Reader.signed 8 c.toNat), 2) :=
  dq_1 (mk := fun n => mk (Jvm.ClassFile.Reader.signed 8 n)) (hf.trans dq_s1e) h hb
theorem dq_2s {mk : Int → Jvm.ClassFile.Instr} {k : Nat} {c d : UInt8} (hf : dq_f pc k = (do Pure.pure (mk (← Jvm.ClassFile.Reader.s2)))) (h : code.data.toList.drop pc = b :: c :: d :: r) (hb : Nat.beq b.toNat k = true) : decode code pc = .ok (mk (Jvm.ClassFile.Reader.signed 16 (c.toNat * 256 + d.toNat)), 3) :=
  dq_2 (mk := fun n => mk (Jvm.ClassFile.Reader.signed 16 n)) (hf.trans dq_s2e) h hb
theorem dq_11 {mk : Nat → Int → Jvm.ClassFile.Instr} {k : Nat} {c d : UInt8} (hf : dq_f pc k = (do Pure.pure (mk (← Jvm.ClassFile.Reader.u1) (← Jvm.ClassFile.Reader.s1)))) (h : code.data.toList.drop pc = b :: c :: d :: r) (hb : Nat.beq b.toNat k = true) : decode code pc = .ok (mk c.toNat (Jvm.ClassFile.Reader.signed 8 d.toNat), 3) := by
  have hi : dq_f pc b.toNat code (pc + 1) = .ok (mk c.toNat (Jvm.ClassFile.Reader.signed 8 d.toNat), pc + 3) := by
    rw [Nat.eq_of_beq_eq_true hb, hf]
    show Except.bind ((Jvm.ClassFile.Reader.u1 : Jvm.ClassFile.Decoder Nat) code (pc + 1)) (fun x => Except.bind (Except.bind ((Jvm.ClassFile.Reader.u1 : Jvm.ClassFile.Decoder Nat) code x.2) (fun y => .ok (Jvm.ClassFile.Reader.signed 8 y.1, y.2))) (fun y => .ok (mk x.1 y.1, y.2))) = _
    rw [dq_u1 (dq_next h)]
    show Except.bind (Except.bind ((Jvm.ClassFile.Reader.u1 : Jvm.ClassFile.Decoder Nat) code (pc + 1 + 1)) (fun y => .ok (Jvm.ClassFile.Reader.signed 8 y.1, y.2))) (fun y => .ok (mk c.toNat y.1, y.2)) = _
    rw [dq_u1 (dq_next (dq_next h))]
    rfl
  rw [dq_of h hi, Nat.add_sub_cancel_left]
/-- the opcode of an instruction of one byte; 0: none of those that are looked at -/
noncomputable def dq_o (i : Jvm.ClassFile.Instr) : Nat := match i with
  | .aconst_null => 1
  | .iaload => 46
  | .aaload => 50
  | .baload => 51
  | .iastore => 79
  | .aastore => 83
  | .bastore => 84
  | .pop => 87
  | .pop2 => 88
  | .dup => 89
  | .dup2 => 92
  | .iadd => 96
  | .ladd => 97
  | .isub => 100
  | .lsub => 101
  | .imul => 104
  | .lmul => 105
  | .idiv => 108
  | .ldiv => 109
  | .irem => 112
  | .lrem => 113
  | .ishl => 120
  | .ishr => 122
  | .iushr => 124
  | .iand => 126
  | .ior => 128
  | .ixor => 130
  | .i2l => 133
  | .l2i => 136
  | .i2b => 145
  | .lcmp => 148
  | .ireturn => 172
  | .lreturn => 173
  | .areturn => 176
  | .return_ => 177
  | .arraylength => 190
  | .land => 127
  | .lor => 129
  | .lxor => 131
  | .lshl => 121
  | .lshr => 123
  | .lushr => 125
  | .ineg => 116
  | .lneg => 117
  | .i2c => 146
  | .i2s => 147
  | .dup_x1 => 90
  | .swap => 95
  | .iload_n k => 26 + k.val
  | .lload_n k => 30 + k.val
  | .aload_n k => 42 + k.val
  | .istore_n k => 59 + k.val
  | .lstore_n k => 63 + k.val
  | .astore_n k => 75 + k.val
  | .lconst k => 9 + k.val
  | .iconst k => (match k with
    | .ofNat m => bif Nat.blt m 6 then 3 + m else 0
    | .negSucc m => bif Nat.beq m 0 then 2 else 0)
  | _ => 0
theorem dq_o_ok {i : Jvm.ClassFile.Instr} (h : Nat.beq (dq_o i) 0 = false) : dq_f pc (dq_o i) = Pure.pure i := by
  cases i with
  | iload_n k =>
    rcases k with ⟨k, hk⟩
    rcases k with _ | _ | _ | _ | k
    · rfl
    · rfl
    · rfl
    · rfl
    · exact absurd hk (by omega)
  | lload_n k =>
    rcases k with ⟨k, hk⟩
    rcases k with _ | _ | _ | _ | k
    · rfl
    · rfl
    · rfl
    · rfl
    · exact absurd hk (by omega)
  | aload_n k =>
    rcases k with ⟨k, hk⟩
    rcases k with _ | _ | _ | _ | k
    · rfl
    · rfl
    · rfl
    · rfl
    · exact absurd hk (by omega)
  | istore_n k =>
    rcases k with ⟨k, hk⟩
    rcases k with _ | _ | _ | _ | k
    · rfl
    · rfl
    · rfl
    · rfl
    · exact absurd hk (by omega)
  | lstore_n k =>
    rcases k with ⟨k, hk⟩
    rcases k with _ | _ | _ | _ | k
    · rfl
    · rfl
    · rfl
    · rfl
    · exact absurd hk (by omega)
  | astore_n k =>
    rcases k with ⟨k, hk⟩
    rcases k with _ | _ | _ | _ | k
    · rfl
    · rfl
    · rfl
    · rfl
    · exact absurd hk (by omega)
  | lconst k =>
    rcases k with ⟨k, hk⟩
    rcases k with _ | _ | k
    · rfl
    · rfl
    · exact absurd hk (by omega)
  | iconst k =>
    rcases k with k | k
    · rcases k with _ | _ | _ | _ | _ | _ | k
      · rfl
      · rfl
      · rfl
      · rfl
      · rfl
      · rfl
      · exfalso
        have e : dq_o (.iconst (Int.ofNat (k + 1 + 1 + 1 + 1 + 1 + 1))) = 0 := by
          show (bif Nat.blt (k + 1 + 1 + 1 + 1 + 1 + 1) 6 then 3 + (k + 1 + 1 + 1 + 1 + 1 + 1) else 0) = 0
          rw [show Nat.blt (k + 1 + 1 + 1 + 1 + 1 + 1) 6 = false from Bool.eq_false_iff.mpr fun z => absurd (Nat.le_of_ble_eq_true z) (by omega)]
          rfl
        rw [e] at h
        cases h
    · rcases k with _ | k
      · rfl
      · exact Bool.noConfusion (show true = false from h)
  | aconst_null => rfl
  | iaload => rfl
  | aaload => rfl
  | baload => rfl
  | iastore => rfl
  | aastore => rfl
  | bastore => rfl
  | pop => rfl
  | pop2 => rfl
  | dup => rfl
  | dup2 => rfl
  | iadd => rfl
  | ladd => rfl
  | isub => rfl
  | lsub => rfl
  | imul => rfl
  | lmul => rfl
  | idiv => rfl
  | ldiv => rfl
  | irem => rfl
  | lrem => rfl
  | ishl => rfl
  | ishr => rfl
  | iushr => rfl
  | iand => rfl
  | ior => rfl
  | ixor => rfl
  | i2l => rfl
  | l2i => rfl
  | i2b => rfl
  | lcmp => rfl
  | ireturn => rfl
  | lreturn => rfl
  | areturn => rfl
  | return_ => rfl
  | arraylength => rfl
  | land => rfl
  | lor => rfl
  | lxor => rfl
  | lshl => rfl
  | lshr => rfl
  | lushr => rfl
  | ineg => rfl
  | lneg => rfl
  | i2c => rfl
  | i2s => rfl
  | dup_x1 => rfl
  | swap => rfl
  | _ => exact Bool.noConfusion (show true = false from h)
end DQ
noncomputable def dq_n1 (k x l : Nat) (b : UInt8) (bs : List UInt8) : Bool := match bs with
  | c :: _ => Nat.beq b.toNat k && (Nat.beq c.toNat x && Nat.beq l 2)
  | [] => false
noncomputable def dq_n2 (k x l : Nat) (b : UInt8) (bs : List UInt8) : Bool := match bs with
  | c :: d :: _ => Nat.beq b.toNat k && (Nat.beq (c.toNat * 256 + d.toNat) x && Nat.beq l 3)
  | _ => false
noncomputable def dq_z1 (k : Nat) (x : Int) (l : Nat) (b : UInt8) (bs : List UInt8) : Bool := match bs with
  | c :: _ => Nat.beq b.toNat k && (decide (Jvm.ClassFile.Reader.signed 8 c.toNat = x) && Nat.beq l 2)
  | [] => false
noncomputable def dq_z2 (k : Nat) (x : Int) (l : Nat) (b : UInt8) (bs : List UInt8) : Bool := match bs with
  | c :: d :: _ => Nat.beq b.toNat k && (decide (Jvm.ClassFile.Reader.signed 16 (c.toNat * 256 + d.toNat) = x) && Nat.beq l 3)
  | _ => false
noncomputable def dq_nz (k x : Nat) (z : Int) (l : Nat) (b : UInt8) (bs : List UInt8) : Bool := match bs with
  | c :: d :: _ => Nat.beq b.toNat k && (Nat.beq c.toNat x && (decide (Jvm.ClassFile.Reader.signed 8 d.toNat = z) && Nat.beq l 3))
  | _ => false
noncomputable def dq_cc (c : Jvm.ClassFile.Cond) : Nat := match c with
  | .eq => 0
  | .ne => 1
  | .lt => 2
  | .ge => 3
  | .gt => 4
  | .le => 5
noncomputable def dq_c (i : Jvm.ClassFile.Instr) (l : Nat) (b : UInt8) (bs : List UInt8) : Bool := match i with
  | .iload x => dq_n1 21 x l b bs
  | .lload x => dq_n1 22 x l b bs
  | .aload x => dq_n1 25 x l b bs
  | .istore x => dq_n1 54 x l b bs
  | .lstore x => dq_n1 55 x l b bs
  | .astore x => dq_n1 58 x l b bs
  | .ldc x => dq_n1 18 x l b bs
  | .getfield x => dq_n2 180 x l b bs
  | .putfield x => dq_n2 181 x l b bs
  | .invokevirtual x => dq_n2 182 x l b bs
  | .invokespecial x => dq_n2 183 x l b bs
  | .invokestatic x => dq_n2 184 x l b bs
  | .new x => dq_n2 187 x l b bs
  | .anewarray x => dq_n2 189 x l b bs
  | .ldc_w x => dq_n2 19 x l b bs
  | .ldc2_w x => dq_n2 20 x l b bs
  | .bipush x => dq_z1 16 x l b bs
  | .sipush x => dq_z2 17 x l b bs
  | .ifCond c x => dq_z2 (153 + dq_cc c) x l b bs
  | .if_icmp c x => dq_z2 (159 + dq_cc c) x l b bs
  | .goto x => dq_z2 167 x l b bs
  | .iinc x z => dq_nz 132 x z l b bs
  | i => Nat.beq l 1 && (!(Nat.beq (dq_o i) 0) && Nat.beq b.toNat (dq_o i))
section DQC
variable {code : ByteArray} {pc l : Nat} {b : UInt8} {bs : List UInt8}
theorem dq_n1_ok {k x : Nat} {mk : Nat → Jvm.ClassFile.Instr} (hf : dq_f pc k = (do Pure.pure (mk (← Jvm.ClassFile.Reader.u1)))) (h : code.data.toList.drop pc = b :: bs) (hc : dq_n1 k x l b bs = true) : decode code pc = .ok (mk x, l) := by
  unfold dq_n1 at hc
  split at hc
  · simp only [Bool.and_eq_true] at hc
    rw [dq_1 hf h hc.1, Nat.eq_of_beq_eq_true hc.2.1, Nat.eq_of_beq_eq_true hc.2.2]
  · cases hc
theorem dq_n2_ok {k x : Nat} {mk : Nat → Jvm.ClassFile.Instr} (hf : dq_f pc k = (do Pure.pure (mk (← Jvm.ClassFile.Reader.u2)))) (h : code.data.toList.drop pc = b :: bs) (hc : dq_n2 k x l b bs = true) : decode code pc = .ok (mk x, l) := by
  unfold dq_n2 at hc
  split at hc
  · simp only [Bool.and_eq_true] at hc
    rw [dq_2 hf h hc.1, Nat.eq_of_beq_eq_true hc.2.1, Nat.eq_of_beq_eq_true hc.2.2]
  · cases hc
theorem dq_z1_ok {k : Nat} {x : Int} {mk : Int → Jvm.ClassFile.Instr} (hf : dq_f pc k = (do Pure.pure (mk (← Jvm.ClassFile.Reader.s1)))) (h : code.data.toList.drop pc = b :: bs) (hc : dq_z1 k x l b bs = true) : decode code pc = .ok (mk x, l) := by
  unfold dq_z1 at hc
  split at hc
  · simp only [Bool.and_eq_true, decide_eq_true_eq] at hc
    rw [dq_1s hf h hc.1, hc.2.1, Nat.eq_of_beq_eq_true hc.2.2]
  · cases hc
theorem dq_z2_ok {k : Nat} {x : Int} {mk : Int → Jvm.ClassFile.Instr} (hf : dq_f pc k = (do Pure.pure (mk (← Jvm.ClassFile.Reader.s2)))) (h : code.data.toList.drop pc = b :: bs) (hc : dq_z2 k x l b bs = true) : decode code pc = .ok (mk x, l) := by
  unfold dq_z2 at hc
  split at hc
  · simp only [Bool.and_eq_true, decide_eq_true_eq] at hc
    rw [dq_2s hf h hc.1, hc.2.1, Nat.eq_of_beq_eq_true hc.2.2]
  · cases hc
theorem dq_nz_ok {k x : Nat} {z : Int} {mk : Nat → Int → Jvm.ClassFile.Instr} (hf : dq_f pc k = (do Pure.pure (mk (← Jvm.ClassFile.Reader.u1) (← Jvm.ClassFile.Reader.s1)))) (h : code.data.toList.drop pc = b :: bs) (hc : dq_nz k x z l b bs = true) : decode code pc = .ok (mk x z, l) := by
  unfold dq_nz at hc
  split at hc
  · simp only [Bool.and_eq_true, decide_eq_true_eq] at hc
    rw [dq_11 hf h hc.1, hc.2.2.1, Nat.eq_of_beq_eq_true hc.2.1, Nat.eq_of_beq_eq_true hc.2.2.2]
  · cases hc
theorem dq_c_ok {i : Jvm.ClassFile.Instr} (h : code.data.toList.drop pc = b :: bs) (hc : dq_c i l b bs = true) : decode code pc = .ok (i, l) := by
  have K : (Nat.beq l 1 && (!(Nat.beq (dq_o i) 0) && Nat.beq b.toNat (dq_o i))) = true → decode code pc = .ok (i, l) := by
    intro hk
    simp only [Bool.and_eq_true, Bool.not_eq_true'] at hk
    rw [dq_0 (dq_o_ok hk.2.1) h hk.2.2, Nat.eq_of_beq_eq_true hk.1]
  cases i with
  | iload x => exact dq_n1_ok rfl h hc
  | lload x => exact dq_n1_ok rfl h hc
  | aload x => exact dq_n1_ok rfl h hc
  | istore x => exact dq_n1_ok rfl h hc
  | lstore x => exact dq_n1_ok rfl h hc
  | astore x => exact dq_n1_ok rfl h hc
  | ldc x => exact dq_n1_ok rfl h hc
  | getfield x => exact dq_n2_ok rfl h hc
  | putfield x => exact dq_n2_ok rfl h hc
  | invokevirtual x => exact dq_n2_ok rfl h hc
  | invokespecial x => exact dq_n2_ok rfl h hc
  | invokestatic x => exact dq_n2_ok rfl h hc
  | new x => exact dq_n2_ok rfl h hc
  | anewarray x => exact dq_n2_ok rfl h hc
  | ldc_w x => exact dq_n2_ok rfl h hc
  | ldc2_w x => exact dq_n2_ok rfl h hc
  | bipush x => exact dq_z1_ok rfl h hc
  | sipush x => exact dq_z2_ok rfl h hc
  | ifCond c x => cases c <;> exact dq_z2_ok rfl h hc
  | if_icmp c x => cases c <;> exact dq_z2_ok rfl h hc
  | goto x => exact dq_z2_ok rfl h hc
  | iinc x z => exact dq_nz_ok rfl h hc
  | _ => exact K hc
end DQC
