/-! EVERY CASE OF THE LAW on fresh objects -/
section FR
variable {l : Launch}
theorem eqz {α : Type} {a b : α} (v : α) (h1 : a = v) (h2 : b = v) : a = b := h1.trans h2.symm
theorem Rall1 : Rall e1 t1L := by
  refine ⟨fun r hr => ⟨0, by omega, rfl, Or.inl ⟨rfl, rfl⟩⟩, fun r hr => ⟨⟨0, by omega, rfl, Or.inl ⟨rfl, rfl⟩⟩, fun j _ h _ => absurd rfl h⟩, fun s hs => Or.inl ⟨rfl, rfl⟩, ⟨eqz 0 rfl rfl, eqz 0 rfl rfl, eqz 0 rfl rfl, 0, by omega, rfl, rfl, fun j hj => absurd hj (by omega)⟩, fun a ha => ⟨⟨0, 0, by omega, by omega, rfl, rfl, rfl, rfl⟩, fun b hb => ⟨eqz (-9) rfl rfl, Or.inl rfl⟩⟩, ⟨trivial, trivial, eqz 0 rfl rfl, eqz 0 rfl rfl, eqz 1 rfl rfl⟩, 0, 0, 0, 0, 0, ?_⟩
  refine ⟨⟨rfl, rfl, by omega⟩, ⟨rfl, rfl, by omega⟩, fun c hc => absurd hc (by omega), fun c _ _ => ⟨rfl, rfl, rfl, rfl, rfl, rfl, rfl, rfl, rfl, rfl, rfl, rfl, rfl, rfl, rfl, rfl, fun j _ => ⟨rfl, rfl⟩⟩, rfl, fun a ha => ⟨eqz 1 rfl rfl, eqz 3 rfl rfl, eqz 20 rfl rfl, ⟨1, by omega, by omega, rfl⟩, ⟨3, by omega, rfl⟩, ⟨20, by omega, rfl⟩, rfl, rfl⟩, ⟨rfl, rfl⟩, fun f hf => absurd hf (by omega), rfl, ⟨rfl, Nat.le_refl 0, fun f hf => absurd hf (by omega), fun f _ hf => absurd hf (by omega)⟩, fun f c _ hf => absurd hf (by omega), ⟨rfl, rfl, by omega, fun i hi => absurd hi (by omega)⟩, 0, 0, fun _ => 0, fun _ => 0, rfl, rfl, by omega, rfl, rfl, by omega, rfl, fun c hc => absurd hc (by omega)⟩
end FR
