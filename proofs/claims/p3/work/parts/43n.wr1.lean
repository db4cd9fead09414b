/-! writing: one pure writer; the class's Writing -/
section L58
abbrev i2b (v : Int32) : Int32 := v.toInt8.toInt32
abbrev wO : Type := Nat × (Nat → Int32)
def wps (o : wO) (v : Int32) : wO := (o.1 + 1, pshF o.2 o.1 v)
def hiI (S : aSh) (i : Nat) : Int32 := if sSo S i = 0 then 255 else if sSo S i = 1 then 65535 else if sSo S i = 2 then 9 else nI (sCh S i) - 1
def wrM (g : Nat → Int32) (M : Nat) : Nat → Nat → wO → Option (Nat × wO)
  | 0, nx, o => some (nx, o)
  | k + 1, nx, o => if nx < M ∧ 0 ≤ g nx ∧ g nx ≤ 255 then wrM g M k (nx + 1) (wps o (i2b (g nx))) else none
/-- what stands ahead of a row's own bytes -/
def wrH (S : aSh) (i : Nat) (x : Int32) (o : wO) : wO := wps (if sSo S i = 1 then wps (wps o (nI (16 * sSo S i + sNm S i))) (i2b (x >>> 8)) else wps o (nI (16 * sSo S i + sNm S i))) (i2b x)
def wrF (S : aSh) (g : Nat → Int32) (M i nx : Nat) (o : wO) : Option (Nat × wO) := if nx < M ∧ 0 ≤ g nx ∧ g nx ≤ hiI S i then (if sSo S i = 2 then wrM g M (g nx).toNatClampNeg (nx + 1) (wrH S i (g nx) o) else some (nx + 1, wrH S i (g nx) o)) else none
def wrP (S : aSh) (v : Nat) (g : Nat → Int32) (M : Nat) : Nat → Nat → Nat → wO → Option wO
  | 0, _, nx, o => if nx = M then some o else none
  | d + 1, i, nx, o => if sSi S i ≤ v ∧ v ≤ sTi S i then (match wrF S g M i nx o with
    | none => none
    | some p => wrP S v g M d (i + 1) p.1 p.2) else wrP S v g M d (i + 1) nx o
theorem wrM_len {g : Nat → Int32} {M : Nat} : ∀ (k nx nx2 : Nat) (o o2 : wO), nx ≤ M → wrM g M k nx o = some (nx2, o2) → nx2 = nx + k ∧ o2.1 = o.1 + k ∧ nx2 ≤ M
  | 0, nx, nx2, o, o2, h, e => by cases e; exact ⟨rfl, rfl, h⟩
  | k + 1, nx, nx2, o, o2, h, e => by
    unfold wrM at e
    split at e
    · rename_i hc
      obtain ⟨h1, h2, h3⟩ := wrM_len k (nx + 1) nx2 _ o2 (by omega) e
      exact ⟨by omega, by rw [h2]; show o.1 + 1 + k = _; omega, h3⟩
    · cases e
theorem wrM_no {g : Nat → Int32} {M : Nat} : ∀ (k nx : Nat) (o : wO), nx ≤ M → M < nx + k → wrM g M k nx o = none
  | 0, nx, o, h, h2 => by omega
  | k + 1, nx, o, h, h2 => by
    unfold wrM
    split
    · rename_i hc
      exact wrM_no k (nx + 1) _ (by omega) (by omega)
    · rfl
theorem wrH_len {S : aSh} {i : Nat} {x : Int32} {o : wO} : (wrH S i x o).1 ≤ o.1 + 3 ∧ (sSo S i = 2 → (wrH S i x o).1 = o.1 + 2) := by
  unfold wrH
  split
  · exact ⟨Nat.le_refl _, fun z => by omega⟩
  · exact ⟨by show o.1 + 1 + 1 ≤ _; omega, fun _ => rfl⟩
theorem hi9 {S : aSh} {i : Nat} {x : Int32} (h2 : sSo S i = 2) (h : 0 ≤ x ∧ x ≤ hiI S i) : ∃ k, k ≤ 9 ∧ x = nI k := by
  unfold hiI at h
  rw [if_neg (by omega), if_neg (by omega), if_pos h2] at h
  obtain ⟨k, hk, rfl⟩ := ix_le (n := 10) (by decide) h
  exact ⟨k, by omega, rfl⟩
theorem wrF_len {S : aSh} {g : Nat → Int32} {M i nx nx2 : Nat} {o o2 : wO} (e : wrF S g M i nx o = some (nx2, o2)) : o2.1 ≤ o.1 + 11 ∧ nx2 ≤ M := by
  unfold wrF at e
  split at e
  · rename_i hc
    have hl := wrH_len (S := S) (i := i) (x := g nx) (o := o)
    split at e
    · rename_i h2
      obtain ⟨k, hk, hk2⟩ := hi9 h2 hc.2
      rw [hk2, nI_clamp (by omega)] at e
      obtain ⟨-, e2, e3⟩ := wrM_len _ _ _ _ _ (by omega) e
      have := hl.2 h2
      rw [hk2] at this
      exact ⟨by rw [e2, this]; omega, e3⟩
    · cases e
      exact ⟨by have := hl.1; omega, by omega⟩
  · cases e
end L58
section L59
variable {l : Launch} {σ σ2 : tI} {τ τ2 : tL} {t : Option (Nat × Nat)}
/-- only what is written with has changed -/
def wxF (σ s : tI) : Prop := (∀ q, q ≠ 6 → q ≠ 10 → q ≠ 30 → s q = σ q) ∧ ∀ q i, q ≠ 10 → i ≠ 0 → s q i = σ q i
theorem wxF.refl : wxF σ σ := ⟨fun _ _ _ _ => rfl, fun _ _ _ _ => rfl⟩
theorem wxF.tr {s s2 : tI} (h : wxF σ s) (h2 : wxF s s2) : wxF σ s2 := ⟨fun q a b c => (h2.1 q a b c).trans (h.1 q a b c), fun q i a b => (h2.2 q i a b).trans (h.2 q i a b)⟩
theorem wxF.u {s : tI} {q j : Nat} {v : Int32} (h : wxF σ s) (hq : q = 6 ∨ q = 10 ∨ q = 30) : wxF σ (u3 s q 0 j v) := by
  refine ⟨fun k a b c => by rw [u3_kk _ _ (by omega)]; exact h.1 k a b c, fun k i a b => ?_⟩
  rw [← h.2 k i a b]
  funext x
  rw [u3_i _ _ b]
def wI (s : tI) (nx : Nat) (o : wO) : Prop := s 10 0 1 = nI nx ∧ s 6 0 1 = nI o.1 ∧ ∀ j, j < o.1 → s 30 0 j = o.2 j
theorem wI.ps {s : tI} {nx : Nat} {o : wO} {v : Int32} (h : wI s nx o) : wI (u3 (u3 s 30 0 o.1 v) 6 0 1 (nI (o.1 + 1))) nx (wps o v) := by
  obtain ⟨h1, h2, h3⟩ := h
  refine ⟨by rw [u3_k _ _ (by decide), u3_k _ _ (by decide)]; exact h1, u3_eq _ _ _ _ _, fun j hj => ?_⟩
  have hj : j < o.1 + 1 := hj
  rw [u3_k _ _ (by decide)]
  show _ = pshF o.2 o.1 v j
  unfold pshF
  by_cases e : j = o.1
  · rw [if_pos e, e, u3_eq]
  · rw [if_neg e, u3_j _ _ e]
    exact h3 j (by omega)
theorem wI.nx {s : tI} {nx : Nat} {o : wO} (h : wI s nx o) : wI (u3 s 10 0 1 (s 10 0 1 + 1)) (nx + 1) o :=
  ⟨by rw [u3_eq, h.1, nI_1], by rw [u3_k _ _ (by decide)]; exact h.2.1, fun j hj => by rw [u3_k _ _ (by decide)]; exact h.2.2 j hj⟩
/-- Row.add of the bytes -/
theorem x_wadd {s : tI} {nx : Nat} {o : wO} {v : Int32} (h : wI s nx o) (ho : o.1 < 132) : am_D l 59 [aR 6 0, aI v] s τ (rX t) cX lX none (u3 (u3 s 30 0 o.1 v) 6 0 1 (nI (o.1 + 1))) τ (rX t) := x_add h.2.1 (show o.1 < 132 from ho) (by decide)
/-- the row that is written -/
def W0 (σ : tI) (r M : Nat) (g : Nat → Int32) : Prop := σ 6 r 1 = nI M ∧ M ≤ 60 ∧ 2 ≤ r ∧ σ 30 r = g
theorem W0.fr {s : tI} {r M : Nat} {g : Nat → Int32} (h : W0 σ r M g) (hs : wxF σ s) : W0 s r M g := by
  obtain ⟨h1, h2, h3, h4⟩ := h
  exact ⟨by rw [hs.2 6 r (by decide) (by omega)]; exact h1, h2, h3, by rw [hs.2 30 r (by decide) (by omega)]; exact h4⟩
def wmQ (σ : tI) (R : Option (Nat × wO)) (v : Option am_V) (s : tI) : Prop := wxF σ s ∧ match R with
  | none => v = some (aI 3) ∨ v = some (aI 5)
  | some p => v = some (aI (-9)) ∧ wI s p.1 p.2
variable {r M : Nat} {g : Nat → Int32}
theorem x_wm_lp {Q : tQ} {m : Nat} (hm : m ≤ 9) (h : W0 σ r M g) {R : Option (Nat × wO)} (hQ : ∀ v s, wmQ σ R v s → Q v s τ (rX t) cX lX) : ∀ (d k nx : Nat) (o : wO) (s : tI), k + d = m → nx + d ≤ M → o.1 + d ≤ 132 → wrM g M d nx o = R → wxF σ s → wI s nx o → am_G l 90 Q 0 0 17 [(3, aI (nI k)), (0, aR 10 0), (1, aI (nI m)), (2, aR 6 r)] [] s τ (rX t) cX lX
  | 0, k, nx, o, s, hk, h1, h2, hR, hf, hI => by
    obtain rfl : k = m := by omega
    refine am_vc_ok am_k90 [17] 100 ?_
    refine And.intro (fun _ => ?_) (fun z => absurd (nI_le (Nat.le_refl _) (by omega)) z)
    refine am_vI am_k90 am_r90 rfl (hQ _ _ ⟨hf, ?_⟩)
    rw [← hR]
    exact ⟨rfl, hI⟩
  | d + 1, k, nx, o, s, hk, h1, h2, hR, hf, hI => by
    have hW := h.fr hf
    have hM := h.2.1
    have e10 := hI.1
    have no : ¬ (0 ≤ g nx ∧ g nx ≤ 255) → R = none := by
      intro z
      rw [← hR]
      unfold wrM
      exact if_neg (fun y => z y.2)
    have K2 : 0 ≤ g nx ∧ g nx ≤ 255 → am_G l 90 Q 0 0 17 [(3, aI (nI k + 1)), (0, aR 10 0), (1, aI (nI m)), (2, aR 6 r)] [] (u3 (u3 (u3 s 10 0 1 (s 10 0 1 + 1)) 30 0 o.1 (i2b (g nx))) 6 0 1 (nI (o.1 + 1))) τ (rX t) cX lX := by
      intro z
      rw [show nI k + 1 = nI (k + 1) from nI_1 k]
      refine x_wm_lp hm h hQ d (k + 1) (nx + 1) (wps o (i2b (g nx))) _ (by omega) (by omega) (by show o.1 + 1 + d ≤ 132; omega) ?_ ?_ hI.nx.ps
      · rw [← hR, wrM, if_pos ⟨by omega, z⟩]
      · exact ((hf.u (by decide)).u (by decide)).u (by decide)
    refine am_vc_ok am_k90 [17] 100 ?_
    refine And.intro (fun z => absurd z (nI_ge (by omega) (by omega))) (fun _ => ?_)
    refine And.intro (by rw [e10, lX_row h.2.2.1]; exact vp_in_nI (by omega) (by decide)) ?_
    rw [e10, nI_clamp (n := nx) (by omega), hW.2.2.2]
    have bad : ¬ (0 ≤ g nx ∧ g nx ≤ 255) → Q (some (aI 3)) (u3 s 10 0 1 (s 10 0 1 + 1)) τ (rX t) cX lX := by
      intro z
      refine hQ _ _ ⟨hf.u (by decide), ?_⟩
      rw [no z]
      exact Or.inl rfl
    refine And.intro (fun z => ?_) (fun z => ?_)
    · have z : g nx < 0 := z
      exact am_vI am_k90 am_r90 rfl (bad (fun y => absurd y.1 (Int32.not_le.mpr z)))
    · have z : 0 ≤ g nx := Int32.not_lt.mp z
      refine And.intro (fun y => ?_) (fun y => ?_)
      · have y : g nx ≤ 255 := y
        refine am_vO am_k90 am_h90 rfl rfl rfl rfl (x_wadd hI.nx (by omega)) ?_
        refine am_vc_ok am_k90 [17] 100 ?_
        exact am_Gp [0, 2, 3, 4] rfl (K2 ⟨z, y⟩)
      · have y : ¬ g nx ≤ 255 := y
        exact am_vI am_k90 am_r90 rfl (bad (fun q => y q.2))
theorem x_many {m nx : Nat} {o : wO} (hm : m ≤ 9) (h : W0 σ r M g) (hnx : nx ≤ M) (ho : o.1 + m ≤ 132) (hI : wI σ nx o) : am_T l 90 [aR 10 0, aI (nI m), aR 6 r] σ τ t (fun v s τ2 t2 => τ2 = τ ∧ t2 = t ∧ wmQ σ (wrM g M m nx o) v s) := by
  have hM := h.2.1
  have e : σ 10 0 1 + nI m = nI (nx + m) := by rw [hI.1, nI_add]
  refine am_T_of am_o90 am_l90 rfl ?_
  refine am_vc_ok am_k90 [17] 100 ?_
  refine And.intro (fun z => ?_) (fun z => ?_)
  · have z : σ 10 0 1 + nI m ≤ σ 6 r 1 := z
    rw [e, h.1, nI_leI (by omega) (by omega)] at z
    refine am_Gp (ls2 := [(3, aI (nI 0)), (0, aR 10 0), (1, aI (nI m)), (2, aR 6 r)]) [0, 1, 2, 3] rfl ?_
    refine x_wm_lp hm h ?_ m 0 nx o σ (by omega) z ho rfl wxF.refl hI
    intro v s hs
    exact ⟨_, rfl, rfl, rfl, rfl, rfl, hs⟩
  · have z : ¬ σ 10 0 1 + nI m ≤ σ 6 r 1 := z
    rw [e, h.1, nI_leI (by omega) (by omega)] at z
    refine am_vI am_k90 am_r90 rfl ⟨_, rfl, rfl, rfl, rfl, rfl, wxF.refl, ?_⟩
    rw [wrM_no m nx o hnx (by omega)]
    exact Or.inr rfl
theorem x_highest {i k : Nat} {S : aSh} (hS : ShOK S) (hk : k < sN S) (hX : XItems σ i S) : am_D l 91 [aR 9 i, aI (nI k)] σ τ (rX t) cX lX (some (aI (hiI S k))) σ τ (rX t) := by
  have s12 := hS.1
  obtain ⟨b1, b2, b3, b4, -⟩ := hS.2.1 k hk
  obtain ⟨x1, x2, x3, -⟩ := hX k hk
  refine am_D_of am_o91 am_l91 rfl ?_
  refine am_vc_ok am_k91 [] 100 ?_
  refine And.intro (vp_in_nI (N := 12) (by omega) (by decide)) ?_
  rw [nI_clamp (n := k) (by omega), x2]
  unfold hiI
  generalize sSo S k = so at *
  obtain rfl | rfl | rfl | rfl : so = 0 ∨ so = 1 ∨ so = 2 ∨ so = 3 := by omega
  · refine am_sw 32 (by decide +kernel) ?_
    exact am_vI am_k91 am_r91 rfl ⟨rfl, rfl, rfl, rfl, rfl, rfl⟩
  · refine am_sw 36 (by decide +kernel) ?_
    exact am_vI am_k91 am_r91 rfl ⟨rfl, rfl, rfl, rfl, rfl, rfl⟩
  · refine am_sw 39 (by decide +kernel) ?_
    exact am_vI am_k91 am_r91 rfl ⟨rfl, rfl, rfl, rfl, rfl, rfl⟩
  · refine am_sw 42 (by decide +kernel) ?_
    refine And.intro (vp_in_nI (N := 12) (by omega) (by decide)) ?_
    rw [nI_clamp (n := k) (by omega), x3]
    exact am_vI am_k91 am_r91 rfl ⟨rfl, rfl, rfl, rfl, rfl, rfl⟩
theorem x_field {i k nx : Nat} {o : wO} {S : aSh} (hi : i < 5) (hS : ShOK S) (hk : k < sN S) (hX : XItems σ i S) (h : W0 σ r M g) (hnx : nx ≤ M) (ho : o.1 + 11 ≤ 132) (hI : wI σ nx o) : am_T l 89 [aR 10 0, aR 9 i, aI (nI k), aR 6 r] σ τ t (fun v s τ2 t2 => τ2 = τ ∧ t2 = t ∧ wmQ σ (wrF S g M k nx o) v s) := by
  have s12 := hS.1
  have hM := h.2.1
  obtain ⟨b1, b2, b3, b4, -⟩ := hS.2.1 k hk
  obtain ⟨x1, x2, x3, -⟩ := hX k hk
  have bk : vp_in (nI k) 12 := vp_in_nI (by omega) (by decide)
  have ek : (nI k).toNatClampNeg = k := nI_clamp (by omega)
  have hQ : ∀ v s, wmQ σ (wrF S g M k nx o) v s → xQ (fun v s τ2 t2 => τ2 = τ ∧ t2 = t ∧ wmQ σ (wrF S g M k nx o) v s) v s τ (rX t) cX lX := fun v s hs => ⟨_, rfl, rfl, rfl, rfl, rfl, hs⟩
  have bad : ∀ (w : Int32) s, (w = 3 ∨ w = 5) → wxF σ s → ¬ (nx < M ∧ 0 ≤ g nx ∧ g nx ≤ hiI S k) → wmQ σ (wrF S g M k nx o) (some (aI w)) s := by
    intro w s hw hs hn
    refine ⟨hs, ?_⟩
    unfold wrF
    rw [if_neg hn]
    rcases hw with rfl | rfl
    · exact Or.inl rfl
    · exact Or.inr rfl
  refine am_T_of am_o89 am_l89 rfl ?_
  refine am_vc_ok am_k89 [107] 100 ?_
  refine And.intro (fun z => ?_) (fun z => ?_)
  · have z : σ 10 0 1 < σ 6 r 1 := z
    rw [hI.1, h.1, nI_ltI (by omega) (by omega)] at z
    refine And.intro (by rw [hI.1, lX_row h.2.2.1]; exact vp_in_nI (by omega) (by decide)) ?_
    rw [hI.1, nI_clamp (n := nx) (by omega), h.2.2.2]
    have hf1 : wxF σ (u3 σ 10 0 1 (σ 10 0 1 + 1)) := wxF.refl.u (by decide)
    have hX1 : XItems (u3 σ 10 0 1 (σ 10 0 1 + 1)) i S := hX.fr (Nat.le_refl _) (fun q k a b _ => by rw [u3_k _ _ (by omega)])
    have hI1 := hI.nx
    refine And.intro (fun y => ?_) (fun y => ?_)
    · have y : g nx < 0 := y
      exact am_vI am_k89 am_r89 rfl (hQ _ _ (bad 3 _ (Or.inl rfl) hf1 (fun q => absurd q.2.1 (Int32.not_le.mpr y))))
    have y : 0 ≤ g nx := Int32.not_lt.mp y
    refine am_vS am_k89 am_h89 rfl rfl rfl rfl (x_highest hS hk hX1) ?_
    refine am_vc_ok am_k89 [107] 100 ?_
    refine And.intro (fun w => ?_) (fun w => ?_)
    · have w : g nx ≤ hiI S k := w
      have hok : nx < M ∧ 0 ≤ g nx ∧ g nx ≤ hiI S k := ⟨z, y, w⟩
      generalize hs1 : u3 σ 10 0 1 (σ 10 0 1 + 1) = s1 at *
      have ehd : nI (sSo S k) * 16 + nI (sNm S k) = nI (16 * sSo S k + sNm S k) := by rw [show (16 : Int32) = nI 16 from rfl, pk_mul, nI_add, Nat.mul_comm]
      have hl := wrH_len (S := S) (i := k) (x := g nx) (o := o)
      have fin : ∀ s2, wxF σ s2 → wI s2 (nx + 1) (wrH S k (g nx) o) → am_G l 89 (xQ (fun v s τ2 t2 => τ2 = τ ∧ t2 = t ∧ wmQ σ (wrF S g M k nx o) v s)) 0 0 107 [(4, aI (g nx)), (0, aR 10 0), (1, aR 9 i), (2, aI (nI k)), (3, aR 6 r)] [] s2 τ (rX t) cX lX := by
        intro s2 hf2 hI2
        have x22 : s2 33 i k = nI (sSo S k) := by rw [hf2.1 33 (by decide) (by decide) (by decide)]; exact x2
        refine am_vc_ok am_k89 [] 100 ?_
        refine And.intro (bk) ?_
        rw [ek, x22]
        refine And.intro (fun q => ?_) (fun q => ?_)
        · have q : sSo S k = 2 := nI_inj' (by omega) (by decide) (show nI (sSo S k) = nI 2 from q)
          obtain ⟨mm, hmm, hmm2⟩ := hi9 q ⟨y, w⟩
          have e : wrF S g M k nx o = wrM g M mm (nx + 1) (wrH S k (g nx) o) := by
            unfold wrF
            rw [if_pos hok, if_pos q, hmm2, nI_clamp (by omega)]
          have hmany := x_many (l := l) (τ := τ) (t := t) (σ := s2) hmm (h.fr hf2) (nx := nx + 1) (by omega) (by rw [hl.2 q]; omega) hI2
          rw [← hmm2] at hmany
          refine am_vOT am_k89 am_h89 rfl rfl rfl rfl (hmany) ?_
          rintro v s3 τ3 t3 ⟨rfl, rfl, hf3, h3⟩
          obtain ⟨vv, rfl⟩ : ∃ vv : Int32, v = some (aI vv) := by
            cases e3 : wrM g M mm (nx + 1) (wrH S k (g nx) o) with
            | none => rw [e3] at h3; exact h3.elim (fun q => ⟨_, q⟩) (fun q => ⟨_, q⟩)
            | some p => rw [e3] at h3; exact ⟨_, h3.1⟩
          refine am_vc_ok am_k89 [] 100 ?_
          refine am_vI am_k89 am_r89 rfl (hQ _ _ ⟨hf2.tr hf3, ?_⟩)
          rw [e]
          exact h3
        · have q : ¬ sSo S k = 2 := fun p => q (by rw [p]; rfl)
          refine am_vI am_k89 am_r89 rfl (hQ _ _ ⟨hf2, ?_⟩)
          have e : wrF S g M k nx o = some (nx + 1, wrH S k (g nx) o) := by
            unfold wrF
            rw [if_pos hok, if_neg q]
          rw [e]
          exact ⟨rfl, hI2⟩
      have y2 : s1 33 i k = nI (sSo S k) := by rw [hf1.1 33 (by decide) (by decide) (by decide)]; exact x2
      have y1 : s1 32 i k = nI (sNm S k) := by rw [hf1.1 32 (by decide) (by decide) (by decide)]; exact x1
      refine And.intro (bk) ?_
      rw [ek, y2]
      refine And.intro (bk) ?_
      rw [ek, y1]
      have hadd := x_wadd (l := l) (τ := τ) (t := t) (v := nI (16 * sSo S k + sNm S k)) hI1 (by omega)
      rw [← ehd] at hadd
      refine am_vO am_k89 am_h89 rfl rfl rfl rfl (hadd) ?_
      refine am_vc_ok am_k89 [107] 100 ?_
      rw [ehd]
      have hI2 := hI1.ps (v := nI (16 * sSo S k + sNm S k))
      have hf2 : wxF σ (u3 (u3 s1 30 0 o.1 (nI (16 * sSo S k + sNm S k))) 6 0 1 (nI (o.1 + 1))) := (hf1.u (by decide)).u (by decide)
      generalize hs2 : u3 (u3 s1 30 0 o.1 (nI (16 * sSo S k + sNm S k))) 6 0 1 (nI (o.1 + 1)) = s2 at *
      have z2 : s2 33 i k = nI (sSo S k) := by rw [hf2.1 33 (by decide) (by decide) (by decide)]; exact x2
      refine And.intro (bk) ?_
      rw [ek, z2]
      refine And.intro (fun q => ?_) (fun q => ?_)
      · have q : sSo S k = 1 := nI_inj' (by omega) (by decide) (show nI (sSo S k) = nI 1 from q)
        refine am_vO am_k89 am_h89 rfl rfl rfl rfl (x_wadd hI2 (show o.1 + 1 < 132 by omega)) ?_
        refine am_vc_ok am_k89 [107] 100 ?_
        have hI3 := hI2.ps (v := i2b (g nx >>> 8))
        refine am_vO am_k89 am_h89 rfl rfl rfl rfl (x_wadd hI3 (show o.1 + 1 + 1 < 132 by omega)) ?_
        refine fin _ ?_ ?_
        · exact (((hf2.u (by decide)).u (by decide)).u (by decide)).u (by decide)
        have e : wrH S k (g nx) o = wps (wps (wps o (nI (16 * sSo S k + sNm S k))) (i2b (g nx >>> 8))) (i2b (g nx)) := by
          unfold wrH
          rw [if_pos q]
        rw [e]
        exact hI3.ps
      · have q : ¬ sSo S k = 1 := fun p => q (by rw [p]; rfl)
        refine am_vO am_k89 am_h89 rfl rfl rfl rfl (x_wadd hI2 (show o.1 + 1 < 132 by omega)) ?_
        refine fin _ ?_ ?_
        · exact (hf2.u (by decide)).u (by decide)
        have e : wrH S k (g nx) o = wps (wps o (nI (16 * sSo S k + sNm S k))) (i2b (g nx)) := by
          unfold wrH
          rw [if_neg q]
        rw [e]
        exact hI2.ps
    · have w : ¬ g nx ≤ hiI S k := w
      exact am_vI am_k89 am_r89 rfl (hQ _ _ (bad 3 _ (Or.inl rfl) hf1 (fun q => w q.2.2)))
  · have z : ¬ σ 10 0 1 < σ 6 r 1 := z
    rw [hI.1, h.1, nI_ltI (by omega) (by omega)] at z
    exact am_vI am_k89 am_r89 rfl (hQ _ _ (bad 5 _ (Or.inr rfl) wxF.refl (fun q => z q.1)))
end L59
