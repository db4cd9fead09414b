/-! fits, unlike: items by their names -/
section L24
variable {l : Launch} {σ σ2 s : tI} {τ τ2 : tL} {t : Option (Nat × Nat)}
/-- the last k below n with p -/
def lastM (p : Nat → Bool) : Nat → Option Nat
  | 0 => none
  | n + 1 => if p n = true then some n else lastM p n
theorem lastM_cg {p q : Nat → Bool} : ∀ {n : Nat}, (∀ c, c < n → p c = q c) → lastM p n = lastM q n
  | 0, _ => rfl
  | n + 1, h => by
    unfold lastM
    rw [h n (by omega), lastM_cg (fun c hc => h c (by omega))]
theorem lastM_some {p : Nat → Bool} {k : Nat} : ∀ {n : Nat}, lastM p n = some k → k < n ∧ p k = true
  | 0, h => by cases h
  | n + 1, h => by
    unfold lastM at h
    by_cases e : p n = true
    · rw [if_pos e] at h
      cases h
      exact ⟨by omega, e⟩
    · rw [if_neg e] at h
      obtain ⟨h1, h2⟩ := lastM_some h
      exact ⟨by omega, h2⟩
theorem lastM_none {p : Nat → Bool} : ∀ {n : Nat}, lastM p n = none → ∀ k, k < n → ¬ p k = true
  | 0, _, k, hk => absurd hk (by omega)
  | n + 1, h, k, hk => by
    unfold lastM at h
    by_cases e : p n = true
    · rw [if_pos e] at h; cases h
    · rw [if_neg e] at h
      by_cases hkn : k = n
      · subst hkn; exact e
      · exact lastM_none h k (by omega)
def inP (f g h : Nat → Int32) (v a : Int32) : Nat → Bool := fun k => decide ((f k ≤ v ∧ v ≤ g k) ∧ h k = a)
theorem m_named_lp {Q : tQ} {s n : Nat} {v a : Int32} (hs : s < 4) (hn : σ 49 0 s = nI n) (hn2 : n ≤ 12) (K : am_G l 185 Q 0 0 56 [(5, aI (nI n)), (4, aI (pI (lastM (inP (mA σ s 3) (mA σ s 4) (mA σ s 0) v a) n))), (0, aR 12 0), (1, aI (nI s)), (2, aI v), (3, aI a)] [] σ τ (rX t) cX lX) : ∀ (d k : Nat), k + d = n → am_G l 185 Q 0 0 7 [(5, aI (nI k)), (4, aI (pI (lastM (inP (mA σ s 3) (mA σ s 4) (mA σ s 0) v a) k))), (0, aR 12 0), (1, aI (nI s)), (2, aI v), (3, aI a)] [] σ τ (rX t) cX lX
  | 0, k, h => by
    obtain rfl : k = n := by omega
    refine am_vc_ok am_k185 [7, 56] 100 ?_
    refine And.intro (vp_in_nI (N := 4) hs (by decide)) ?_
    rw [nI_clamp (n := s) (by omega), hn]
    exact And.intro (fun _ => K) (fun h1 => absurd (Int32.le_refl _) h1)
  | d + 1, k, h => by
    have K2 := m_named_lp hs hn hn2 K d (k + 1) (by omega)
    have u1 : inP (mA σ s 3) (mA σ s 4) (mA σ s 0) v a k = true → lastM (inP (mA σ s 3) (mA σ s 4) (mA σ s 0) v a) (k + 1) = some k := fun e => by unfold lastM; rw [if_pos e]
    have u0 : ¬ inP (mA σ s 3) (mA σ s 4) (mA σ s 0) v a k = true → lastM (inP (mA σ s 3) (mA σ s 4) (mA σ s 0) v a) (k + 1) = lastM (inP (mA σ s 3) (mA σ s 4) (mA σ s 0) v a) k := fun e => by rw [lastM, if_neg e]
    refine am_vc_ok am_k185 [7, 56] 100 ?_
    refine And.intro (vp_in_nI (N := 4) hs (by decide)) ?_
    rw [nI_clamp (n := s) (by omega), hn]
    refine And.intro (fun h1 => absurd h1 (nI_ge (b := n) (by omega) (by omega))) (fun _ => ?_)
    refine am_vO am_k185 am_h185 rfl rfl rfl rfl (m_isOf (i := k) hs (by omega)) ?_
    refine am_vc_ok am_k185 [7, 56] 100 ?_
    refine And.intro (fun e => ?_) (fun e => ?_)
    · have e := bI_0.mp e
      rw [u0 (by simp [inP]; intro z1 z2; exact absurd ⟨z1, z2⟩ e), ← nI_1 k] at K2
      exact K2
    · have e := bI_1.mp e
      refine am_vO am_k185 am_h185 rfl rfl rfl rfl (m_part (i := k) (w := 0) hs (by omega) (by decide)) ?_
      refine am_vc_ok am_k185 [7, 56] 100 ?_
      refine And.intro (fun e3 => ?_) (fun e3 => ?_)
      · have e3 : mA σ s 0 k = a := e3
        rw [u1 (by simp [inP, e, e3]), ← nI_1 k] at K2
        exact K2
      · have e3 : ¬ mA σ s 0 k = a := e3
        rw [u0 (by simp [inP, e3]), ← nI_1 k] at K2
        exact K2
theorem m_named {s n : Nat} {v a : Int32} (hs : s < 4) (hn : σ 49 0 s = nI n) (hn2 : n ≤ 12) : am_D l 185 [aR 12 0, aI (nI s), aI v, aI a] σ τ (rX t) cX lX (some (aI (pI (lastM (inP (mA σ s 3) (mA σ s 4) (mA σ s 0) v a) n)))) σ τ (rX t) := by
  refine am_D_of am_o185 am_l185 rfl ?_
  refine am_vc_ok am_k185 [7] 100 ?_
  refine m_named_lp hs hn hn2 ?_ n 0 (by omega)
  refine am_vc_ok am_k185 [] 100 ?_
  exact am_vI am_k185 am_r185 rfl ⟨rfl, rfl, rfl, rfl, rfl, rfl⟩
/-- an item of that sort -/
def likeO (f : Nat → Int32) (so : Int32) (o : Option Nat) : Option Nat := match o with
  | none => none
  | some k => if f k = so then some k else none
theorem x_itemLike {i v a n : Nat} {so : Int32} {o : Option Nat} (hv : v < 10) (ha : a < 16) (ho : σ 38 i (16 * v + a) = pI o) (ho2 : ∀ k, o = some k → k < 12) : am_D l 84 [aR 9 i, aI (nI v), aI (nI a), aI so] σ τ (rX t) cX lX (some (aI (pI (likeO (σ 33 i) so o)))) σ τ (rX t) := by
  have e1 : nI v * 16 + nI a = nI (16 * v + a) := by
    rw [show (16 : Int32) = nI 16 from rfl, pk_mul, nI_add, Nat.mul_comm]
  refine am_D_of am_o84 am_l84 rfl ?_
  refine am_vc_ok am_k84 [] 100 ?_
  refine And.intro (by rw [e1]; exact vp_in_nI (N := 160) (by omega) (by decide)) ?_
  rw [e1, nI_clamp (n := 16 * v + a) (by omega), ho]
  cases o with
  | none =>
    refine And.intro (fun _ => ?_) (fun g => absurd rfl g)
    exact am_vI am_k84 am_r84 rfl ⟨rfl, rfl, rfl, rfl, rfl, rfl⟩
  | some k =>
    have hk := ho2 k rfl
    refine And.intro (fun g => absurd g (n9_4 (by omega))) (fun _ => ?_)
    refine And.intro (vp_in_nI (N := 12) hk (by decide)) ?_
    rw [show pI (some k) = nI k from rfl, nI_clamp (n := k) (by omega)]
    refine And.intro (fun e => ?_) (fun e => ?_)
    · have e : σ 33 i k = so := e
      refine am_vI am_k84 am_r84 rfl ⟨by simp only [likeO, if_pos e]; rfl, rfl, rfl, rfl, rfl, rfl⟩
    · have e : ¬ σ 33 i k = so := e
      refine am_vI am_k84 am_r84 rfl ⟨by simp only [likeO, if_neg e]; rfl, rfl, rfl, rfl, rfl, rfl⟩
end L24
