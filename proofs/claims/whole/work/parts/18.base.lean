/-! FIRST CONTRACTS: small methods of the class -/
abbrev bI (p : Prop) [Decidable p] : Int32 := if p then 1 else 0
section XB
variable {l : Launch} {σ : tI} {τ : tL} {ρ : tR} {cn : tN} {ln : tM}
theorem x_within {i n : Int32} : am_D l 141 [aI i, aI n] σ τ ρ cn ln (some (aI (bI (0 ≤ i ∧ i < n)))) σ τ ρ := by
  refine am_D_of am_o141 am_l141 rfl ?_
  refine am_vc_ok am_k141 [] 20 ?_
  refine And.intro (fun h1 => ?_) (fun h1 => ?_)
  · refine am_vZ am_k141 am_r141 rfl (Or.inl rfl) ⟨?_, rfl, rfl, rfl, rfl, rfl⟩
    trace_state
    simp
  · refine And.intro (fun h2 => ?_) (fun h2 => ?_)
    · trace_state
      refine am_vZ am_k141 am_r141 rfl (Or.inl rfl) ⟨?_, rfl, rfl, rfl, rfl, rfl⟩
      sorry
    · refine am_vZ am_k141 am_r141 rfl (Or.inr rfl) ⟨?_, rfl, rfl, rfl, rfl, rfl⟩
      sorry
/-- Row.add(v) -/
theorem x_add {t : Option (Nat × Nat)} {r : Nat} {v : Int32} : am_D l 59 [aR 6 r, aI v] σ τ (rX t) cX lX none σ τ (rX t) := by
  refine am_D_of am_o59 am_l59 rfl ?_
  refine am_vc_ok am_k59 [] 40 ?_
  refine And.intro (fun h1 => ?_) (fun h1 => ?_)
  · trace_state
    sorry
  · trace_state
    sorry
end XB
