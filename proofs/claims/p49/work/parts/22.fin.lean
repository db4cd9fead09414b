/-! THE WORLD behind the constructors: references, ints -/
noncomputable def am_fin2 (ks : List Nat) (s : Option am_res) : Bool := match s with
  | some (_, _, _, ρ, _, _) => ks.all (fun k => (List.range (cX k)).all (fun i => (List.range (bif Nat.blt k 13 then am_nf k else bif Nat.blt (am_ek k) 2 then 0 else lX k i)).all (fun j => decide (ρ k i j = rX none k i j))))
  | none => false
noncomputable def am_fin3 (ks : List Nat) (s : Option am_res) : Bool := match s with
  | some (_, σ, _, _, _, _) => ks.all (fun k => (List.range (cX k)).all (fun i => (List.range (bif Nat.blt k 13 then am_nf k else lX k i)).all (fun j => decide (σ k i j = e0 k i j))))
  | none => false
noncomputable def gXq (g : Option am_res) : Bool := match g with | some (v, _, _, _, cn, _) => v.isNone && Nat.beq (cn 12) 0 | none => false
theorem gM_all : (gM.isSome && (gXq gX && (am_fin1 gM && (am_fin2 [0] gM && (am_fin2 [1, 2, 3, 4, 5, 6, 7, 8, 9, 10, 11, 12, 24, 25, 39, 40, 41] gM && (am_fin3 [0] gM && (am_fin3 [1, 2, 3, 4, 5, 6, 7, 8, 9, 10, 11, 12, 31, 42, 43, 44, 47, 49, 55, 57, 58, 59, 62, 63, 64] gM && (am_fin3 [13, 72, 73, 77, 78, 81, 82, 83] gM && (am_fin3 [80] gM))))))))) = true := by decide +kernel
theorem gM_sp {p q : Bool} (h : (p && q) = true) : p = true ∧ q = true := (Bool.and_eq_true _ _).mp h
theorem gM_some : gM.isSome = true := (gM_sp gM_all).1
theorem gX_12 : gXq gX = true := (gM_sp (gM_sp gM_all).2).1
theorem gM_fin1 : am_fin1 gM = true := (gM_sp (gM_sp (gM_sp gM_all).2).2).1
theorem gM_fin2a : am_fin2 [0] gM = true := (gM_sp (gM_sp (gM_sp (gM_sp gM_all).2).2).2).1
theorem gM_fin2b : am_fin2 [1, 2, 3, 4, 5, 6, 7, 8, 9, 10, 11, 12, 24, 25, 39, 40, 41] gM = true := (gM_sp (gM_sp (gM_sp (gM_sp (gM_sp gM_all).2).2).2).2).1
theorem gM_fin3a : am_fin3 [0] gM = true := (gM_sp (gM_sp (gM_sp (gM_sp (gM_sp (gM_sp gM_all).2).2).2).2).2).1
theorem gM_fin3b : am_fin3 [1, 2, 3, 4, 5, 6, 7, 8, 9, 10, 11, 12, 31, 42, 43, 44, 47, 49, 55, 57, 58, 59, 62, 63, 64] gM = true := (gM_sp (gM_sp (gM_sp (gM_sp (gM_sp (gM_sp (gM_sp gM_all).2).2).2).2).2).2).1
theorem gM_fin3c : am_fin3 [13, 72, 73, 77, 78, 81, 82, 83] gM = true := (gM_sp (gM_sp (gM_sp (gM_sp (gM_sp (gM_sp (gM_sp (gM_sp gM_all).2).2).2).2).2).2).2).1
theorem gM_fin3d : am_fin3 [80] gM = true := (gM_sp (gM_sp (gM_sp (gM_sp (gM_sp (gM_sp (gM_sp (gM_sp gM_all).2).2).2).2).2).2).2).2
