/-! THE CONSTRUCTORS, run; the world behind them -/
def s0I : tI := fun _ _ _ => 0
def s0L : tL := fun _ _ _ => 0
def s0R : tR := fun _ _ _ => none
def s0N : tN := fun k => if k = 11 then 1 else 0
def s0M : tM := fun _ _ => 0
noncomputable def gX : Option am_res := am_run 1000 92 0 0 0 [(0, aR 11 0)] [] s0I s0L s0R s0N s0M
noncomputable def gMf (g : Option am_res) : Option am_res := match g with
  | some (_, σ, τ, ρ, cn, ln) => am_run 1000 154 0 0 0 [(0, aR 12 0)] [] (z2 σ 12 0 0) (z2 τ 12 0 0) (z2 ρ 12 0 none) (u1 cn 12 1) ln
  | none => none
noncomputable def gM : Option am_res := gMf gX
/-- ints at the start -/
def e0 : tI := fun k _ j =>
  bif Nat.beq k 0 then (bif Nat.beq j 8 then -9 else bif Nat.beq j 15 then -9 else 0) else
  bif Nat.beq k 8 then (bif Nat.beq j 2 then 1 else bif Nat.beq j 3 then 3 else bif Nat.beq j 4 then 20 else 0) else
  bif Nat.beq k 31 then -9 else bif Nat.beq k 44 then -9 else bif Nat.beq k 47 then -9 else bif Nat.beq k 49 then -9 else bif Nat.beq k 59 then -9 else
  bif Nat.beq k 62 then 1 else bif Nat.beq k 63 then 3 else bif Nat.beq k 64 then 20 else 0
theorem rX_VR : ((List.range 94).all (fun k => (List.range (cX k)).all (fun i => (List.range (bif Nat.blt k 13 then am_nf k else lX k i)).all (fun j => match rX none k i j with | some q => Nat.blt q.2 (cX q.1) | none => true)))) = true := by decide +kernel
noncomputable def am_fin1 (s : Option am_res) : Bool := match s with
  | some (v, σ, τ, ρ, cn, ln) => v.isNone && (decide (τ 11 0 12 = 0 ∧ τ 11 0 13 = 1 ∧ τ 12 0 3 = 0 ∧ τ 12 0 4 = 1) && (List.range 94).all (fun k => Nat.beq (cn k) (cX k) && (List.range (cX k)).all (fun i => Nat.blt k 13 || Nat.beq (ln k i) (lX k i))))
  | none => false
