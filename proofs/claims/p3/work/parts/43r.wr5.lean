/-! CASES OF THE LAW: write -/
section L63
variable {l : Launch} {σ σ2 : tI} {τ τ2 : tL} {t : Option (Nat × Nat)} {r M : Nat} {g : Nat → Int32}
theorem Rall.gen (h : Rall σ τ) (hr : Rrows σ2) (ht : Rtexts σ2) (hsh : Rshapes σ2) (hrd : Rread σ2) (hm : Rmisc σ2 τ) (hk : ∀ q, (kNet q = true ∨ q = 8 ∨ q = 31 ∨ q = 49 ∨ q = 57 ∨ q = 58 ∨ q = 59) → σ2 q = σ q) (h12 : ∀ j, jNet j = true → σ2 12 0 j = σ 12 0 j) : Rall σ2 τ := by
  obtain ⟨-, -, -, -, z5, -, T, n, m, lo, kk, z7⟩ := h
  exact ⟨hr, ht, hsh, hrd, z5.fr (fun a _ => by rw [hk 8 (by decide)]; exact ⟨rfl, rfl⟩) (hk 57 (by decide)) (hk 58 (by decide)) (hk 31 (by decide)) (hk 59 (by decide)) (fun s' _ z => by rw [hk 49 (by decide)]; exact z), hm, T, n, m, lo, kk, z7.fr (fun k z => hk k (Or.inl z)) h12 (fun a j _ _ => by rw [hk 8 (by decide)])⟩
def wOB (o : wO) : Prop := ∀ j, j < o.1 → isB (o.2 j)
theorem wOB.ps {o : wO} {v : Int32} (h : wOB o) (hv : isB v) : wOB (wps o v) := by
  intro j hj
  have hj : j < o.1 + 1 := hj
  show isB (pshF o.2 o.1 v j)
  unfold pshF
  split
  · exact hv
  · exact h j (by omega)
theorem isB_64 {k : Nat} (h : k < 64) : isB (nI k) := by
  rw [← i2b_64 k h]
  exact isB_i2b _
theorem wrM_B {g : Nat → Int32} {M : Nat} : ∀ (k nx nx2 : Nat) (o o2 : wO), wOB o → wrM g M k nx o = some (nx2, o2) → wOB o2
  | 0, nx, nx2, o, o2, h, e => by cases e; exact h
  | k + 1, nx, nx2, o, o2, h, e => by
    unfold wrM at e
    split at e
    · exact wrM_B k (nx + 1) nx2 _ o2 (h.ps (isB_i2b _)) e
    · cases e
theorem wrH_B {S : aSh} {i : Nat} {x : Int32} {o : wO} (hS : ShOK S) (hi : i < sN S) (h : wOB o) : wOB (wrH S i x o) := by
  obtain ⟨b1, b2, -⟩ := hS.2.1 i hi
  unfold wrH
  split
  · exact ((h.ps (isB_64 (by omega))).ps (isB_i2b _)).ps (isB_i2b _)
  · exact (h.ps (isB_64 (by omega))).ps (isB_i2b _)
theorem wrF_B {S : aSh} {g : Nat → Int32} {M i nx nx2 : Nat} {o o2 : wO} (hS : ShOK S) (hi : i < sN S) (h : wOB o) (e : wrF S g M i nx o = some (nx2, o2)) : wOB o2 := by
  unfold wrF at e
  split at e
  · split at e
    · exact wrM_B _ _ _ _ _ (wrH_B hS hi h) e
    · cases e
      exact wrH_B hS hi h
  · cases e
theorem wrP_B {S : aSh} {v M : Nat} {g : Nat → Int32} (hS : ShOK S) : ∀ (d i nx : Nat) (o o2 : wO), i + d = sN S → wOB o → wrP S v g M d i nx o = some o2 → wOB o2
  | 0, i, nx, o, o2, _, h, e => by
    unfold wrP at e
    split at e
    · cases e; exact h
    · cases e
  | d + 1, i, nx, o, o2, hd, h, e => by
    unfold wrP at e
    split at e
    · cases e3 : wrF S g M i nx o with
      | none => rw [e3] at e; cases e
      | some p =>
        obtain ⟨nx3, o3⟩ := p
        rw [e3] at e
        exact wrP_B hS d (i + 1) nx3 o3 o2 (by omega) (wrF_B hS (by omega) h e3) e
    · exact wrP_B hS d (i + 1) nx o o2 (by omega) h e
/-- facts of become -/
theorem xbec_k {s : tI} {r q n k : Nat} (h6 : k ≠ 6) (h30 : k ≠ 30) : xbec s r q n k = s k := by
  rw [xbec, xapp, u3_kk _ _ h6, cp3_kk h30, u3_kk _ _ h6, u3_kk _ _ h6]
theorem xbec_i {s : tI} {r q n k i : Nat} (hi : i ≠ r) : xbec s r q n k i = s k i := by
  funext c
  rw [xbec, xapp, u3_i _ _ hi, cp3_ii hi, u3_i _ _ hi, u3_i _ _ hi]
theorem xbec_0 {s : tI} {r q n : Nat} : xbec s r q n 6 r 0 = 1 := by
  rw [xbec, xapp, u3_j _ _ (by decide), cp3_kk (by decide), u3_j _ _ (by decide), u3_eq]
theorem xbec_1 {s : tI} {r q n : Nat} : xbec s r q n 6 r 1 = nI n := by
  rw [xbec, xapp, u3_eq, Nat.zero_add]
theorem xbec_p {s : tI} {r q n j : Nat} (hj : j < n) : xbec s r q n 30 r j = s 30 q j := by
  rw [xbec, xapp, u3_k _ _ (by decide), cp3_at hj, u3_k _ _ (by decide), u3_k _ _ (by decide)]
/-- a refusal with a finding, whatever was used meanwhile -/
theorem Rall.fnd (h : Rall σ τ) {s1 s3 : tI} {w w2 : Nat} (hf : wxF σ s1) (hm : wmF (xfind w s1) s3) : Rall (mmeets w2 s3) τ := by
  have g : ∀ q, q ≠ 6 ∧ q ≠ 10 ∧ q ≠ 30 ∧ q ≠ 12 ∧ q ≠ 52 ∧ q ≠ 11 ∧ q ≠ 42 ∧ q ≠ 43 → mmeets w2 s3 q = σ q := fun q ⟨a1, a2, a3, a4, a5, a6, a7, a8⟩ => by
    rw [mmeets, u3_kk _ _ a8, u3_kk _ _ a4, hm.1 q a4 a5, xfind, u3_kk _ _ a7, u3_kk _ _ a6, hf.1 q a1 a2 a3]
  have gi : ∀ q i, (q = 6 ∨ q = 30) → i ≠ 0 → mmeets w2 s3 q i = σ q i := fun q i hq hi => by
    rw [mmeets, u3_kk _ _ (by omega), u3_kk _ _ (by omega), hm.1 q (by omega) (by omega), xfind, u3_kk _ _ (by omega), u3_kk _ _ (by omega), hf.2 q i (by omega) hi]
  have g12 : ∀ j, j ≠ 0 → j ≠ 16 → mmeets w2 s3 12 0 j = σ 12 0 j := fun j h0 h16 => by
    rw [mmeets, u3_k _ _ (by decide), u3_j _ _ h0, hm.2 j h16, xfind, u3_k _ _ (by decide), u3_k _ _ (by decide), hf.1 12 (by decide) (by decide) (by decide)]
  have g11 : mmeets w2 s3 11 0 11 = σ 11 0 11 := by
    rw [mmeets, u3_k _ _ (by decide), u3_k _ _ (by decide), hm.1 11 (by decide) (by decide), xfind, u3_k _ _ (by decide), u3_j _ _ (by decide), hf.1 11 (by decide) (by decide) (by decide)]
  refine h.gen (h.1.fr (fun r _ => gi 6 _ (Or.inl rfl) (by omega)) (fun r _ => gi 30 _ (Or.inr rfl) (by omega)) (g 44 (by decide)) (g 45 (by decide))) (h.2.1.fr (fun r _ => gi 6 _ (Or.inl rfl) (by omega)) (fun r _ => gi 30 _ (Or.inr rfl) (by omega)) (g 47 (by decide)) (g 48 (by decide))) (h.2.2.1.fr (fun k hk => g k ?_)) (h.2.2.2.1.fr (g 4 (by decide)) (g 55 (by decide)) (g 56 (by decide)) (gi 6 2 (Or.inl rfl) (by decide)) (gi 30 2 (Or.inr rfl) (by decide)) (g12 24 (by decide) (by decide))) ?_ (fun q hq => g q ?_) (fun j hj => g12 j ?_ ?_)
  · simp only [kShapes, Bool.or_eq_true, Bool.and_eq_true, Nat.ble_eq, Nat.beq_eq] at hk
    omega
  · have z := h.2.2.2.2.2.1
    unfold Rmisc at z ⊢
    rw [g11, g12 2 (by decide) (by decide)]
    exact z
  · simp only [kNet, Bool.or_eq_true, Bool.and_eq_true, Nat.ble_eq] at hq
    omega
  · rintro rfl; exact absurd hj (by decide)
  · rintro rfl; exact absurd hj (by decide)
theorem LC_write (h : Rall σ τ) (a b c d : Int32) : LC l 105 188 [aI a, aI b, aI c, aI d] σ τ t := by
  by_cases hc : (0 ≤ a ∧ a < 4) ∧ (0 ≤ b ∧ b < 10) ∧ (0 ≤ c ∧ c < 6) ∧ (0 ≤ d ∧ d < 6)
  · obtain ⟨ha, hb, hc, hd⟩ := hc
    obtain ⟨s, hs, rfl⟩ := ix_lt (n := 4) (by decide) ha
    obtain ⟨v, hv, rfl⟩ := ix_lt (n := 10) (by decide) hb
    obtain ⟨rr, hr, rfl⟩ := ix_lt (n := 6) (by decide) hc
    obtain ⟨x, hx, rfl⟩ := ix_lt (n := 6) (by decide) hd
    rcases h.2.2.1 s hs with ⟨y1, y2⟩ | ⟨S, hS⟩
    · refine LC.of (x_write_no hs hv hr hx (Or.inl y1)) (m_write_no hs hv hr hx (Or.inl ?_)) (h.find (by decide))
      simp [u3, y2]
    obtain ⟨M, hM, hd1, hcr⟩ := h.1 rr hr
    rcases hcr with ⟨h0, hz⟩ | ⟨h0, hz, hp⟩
    · refine LC.of (x_write_no hs hv hr hx (Or.inr h0)) (m_write_no hs hv hr hx (Or.inr ?_)) (h.find (by decide))
      simp [u3, hz]
    obtain ⟨w1, w2, w3, w4, w5, w6, w7⟩ := hS
    have hW : W0 σ (4 + rr) M (σ 30 (4 + rr)) := ⟨hd1, hM, by omega, rfl⟩
    refine am_T.mono (x_write hs hv hr hx (by rw [w2]; decide) (by rw [h0]; decide) w1 w3 w5 hW) ?_
    rintro w s2 τ2 t2 ⟨rfl, rfl, hQ⟩
    have mgo : ∀ s2, (∀ q, q = 49 ∨ q = 50 ∨ q = 44 ∨ q = 45 → s2 q = σ q) → am_T l 188 [aR 12 0, aI (nI s), aI (nI v), aI (nI rr), aI (nI x)] s2 τ2 t2 (fun w s3 τ3 t3 => τ3 = τ2 ∧ t3 = t2 ∧ mwQ s2 x (wrP S v (σ 30 (4 + rr)) M (sN S) 0 0 o0) w s3) := by
      intro s2 hk
      refine m_write hs hv hx w1 (by rw [hk 49 (by decide)]; exact w4) ?_ ⟨by rw [hk 44 (by decide)]; exact hz, hM, hr, fun j hj => by rw [hk 45 (by decide)]; exact (hp j hj).symm⟩
      unfold MItems
      rw [hk 50 (by decide)]
      exact w7
    cases e : wrP S v (σ 30 (4 + rr)) M (sN S) 0 0 o0 with
    | none =>
      rw [e] at hQ mgo
      obtain ⟨rfl, s1, wf, hwf, hf, rfl⟩ := hQ
      refine ⟨rfl, am_T.mono (mgo _ (fun q hq => by rw [xfind, u3_kk _ _ (by omega), u3_kk _ _ (by omega), hf.1 q (by omega) (by omega) (by omega)])) ?_⟩
      rintro w3 s3 τ3 t3 ⟨rfl, rfl, rfl, s4, wf2, hwf2, hf2, rfl⟩
      exact ⟨rfl, h.fnd hf hf2⟩
    | some o =>
      rw [e] at hQ mgo
      by_cases ho : o.1 ≤ 60
      · unfold wwQ at hQ
        simp only [if_pos ho] at hQ
        obtain ⟨rfl, s1, hf, hb1, rfl⟩ := hQ
        refine ⟨rfl, am_T.mono (mgo _ (fun q hq => by rw [xbec_k (by omega) (by omega), hf.1 q (by omega) (by omega) (by omega)])) ?_⟩
        rintro w3 s3 τ3 t3 ⟨rfl, rfl, hQ2⟩
        unfold mwQ at hQ2
        simp only [if_pos ho] at hQ2
        obtain ⟨rfl, s4, hf2, hb2, rfl⟩ := hQ2
        refine ⟨rfl, ?_⟩
        have hOB : wOB o := wrP_B w1 _ _ _ _ _ (by omega) (fun j hj => absurd hj (Nat.not_lt_zero j)) e
        generalize hF : cp3 (mfill (u3 s4 47 0 x (nI o.1)) 48 (60 * x) 60 32) 48 0 52 0 0 (60 * x) o.1 = F
        have k4 : ∀ q, q ≠ 47 → q ≠ 48 → F q = s4 q := fun q a1 a2 => by
          rw [← hF, cp3_kk a2]
          funext b c
          simp [mfill, u3, a1, a2]
        have g : ∀ q, q ≠ 6 ∧ q ≠ 10 ∧ q ≠ 30 ∧ q ≠ 12 ∧ q ≠ 52 ∧ q ≠ 47 ∧ q ≠ 48 → F q = σ q := fun q ⟨a1, a2, a3, a4, a5, a6, a7⟩ => by
          rw [k4 q a6 a7, hf2.1 q a4 a5, xbec_k a1 a3, hf.1 q a1 a2 a3]
        have gi : ∀ q i, (q = 6 ∨ q = 30) → i ≠ 0 → i ≠ 10 + x → F q i = σ q i := fun q i hq hi hi2 => by
          rw [k4 q (by omega) (by omega), hf2.1 q (by omega) (by omega), xbec_i hi2, hf.2 q i (by omega) hi]
        have g12 : ∀ j, j ≠ 16 → F 12 0 j = σ 12 0 j := fun j h16 => by
          rw [k4 12 (by decide) (by decide), hf2.2 j h16, xbec_k (by decide) (by decide), hf.1 12 (by decide) (by decide) (by decide)]
        have c0 : F 6 (10 + x) 0 = 1 := by rw [k4 6 (by decide) (by decide), hf2.1 6 (by decide) (by decide), xbec_0]
        have c1 : F 6 (10 + x) 1 = nI o.1 := by rw [k4 6 (by decide) (by decide), hf2.1 6 (by decide) (by decide), xbec_1]
        have cp : ∀ j, j < o.1 → F 30 (10 + x) j = o.2 j := fun j hj => by
          rw [k4 30 (by decide) (by decide), hf2.1 30 (by decide) (by decide), xbec_p hj]
          exact hb1 j hj
        have m47 : F 47 0 x = nI o.1 := by rw [← hF, cp3_kk (by decide)]; simp [mfill, u3]
        have n47 : ∀ q, q ≠ x → F 47 0 q = σ 47 0 q := fun q hq => by
          rw [← hF, cp3_kk (by decide)]
          have : mfill (u3 s4 47 0 x (nI o.1)) 48 (60 * x) 60 32 47 0 q = s4 47 0 q := by simp [mfill, u3, hq]
          rw [this, hf2.1 47 (by decide) (by decide), xbec_k (by decide) (by decide), hf.1 47 (by decide) (by decide) (by decide)]
        have mp : ∀ j, j < o.1 → F 48 0 (60 * x + j) = o.2 j := fun j hj => by
          rw [← hF]
          have e1 : cp3 (mfill (u3 s4 47 0 x (nI o.1)) 48 (60 * x) 60 32) 48 0 52 0 0 (60 * x) o.1 48 0 (60 * x + j) = s4 52 0 j := by
            have e2 : 60 * x + j < 60 * x + o.1 := by omega
            have e3 : 60 * x + j - 60 * x = j := by omega
            simp [cp3, mfill, u3, e2, e3]
          rw [e1]
          exact hb2 j hj
        have np : ∀ j, (j < 60 * x ∨ 60 * x + 60 ≤ j) → F 48 0 j = σ 48 0 j := fun j hj => by
          rw [← hF]
          have e1 : cp3 (mfill (u3 s4 47 0 x (nI o.1)) 48 (60 * x) 60 32) 48 0 52 0 0 (60 * x) o.1 48 0 j = s4 48 0 j := by
            have e2 : ¬ (60 * x ≤ j ∧ j < 60 * x + o.1) := by omega
            have e3 : ¬ (60 * x ≤ j ∧ j < 60 * x + 60) := by omega
            simp [cp3, mfill, u3, e2, e3]
          rw [e1, hf2.1 48 (by decide) (by decide), xbec_k (by decide) (by decide), hf.1 48 (by decide) (by decide) (by decide)]
        refine h.gen (h.1.fr (fun r _ => gi 6 _ (Or.inl rfl) (by omega) (by omega)) (fun r _ => gi 30 _ (Or.inr rfl) (by omega) (by omega)) (g 44 (by decide)) (g 45 (by decide))) (fun q hq => ?_) (h.2.2.1.fr (fun k hk => g k ?_)) (h.2.2.2.1.fr (g 4 (by decide)) (g 55 (by decide)) (g 56 (by decide)) (gi 6 2 (Or.inl rfl) (by decide) (by omega)) (gi 30 2 (Or.inr rfl) (by decide) (by omega)) (g12 24 (by decide))) ?_ (fun q hq => g q ?_) (fun j hj => g12 j ?_)
        · by_cases eq : q = x
          · subst eq
            refine ⟨⟨o.1, ho, c1, Or.inr ⟨c0, m47, fun j hj => (cp j hj).trans (mp j hj).symm⟩⟩, fun j hj _ hj2 => ?_⟩
            rw [m47, nI_ltI (by omega) (by omega)] at hj2
            rw [cp j hj2]
            exact hOB j hj2
          · rw [gi 6 (10 + q) (Or.inl rfl) (by omega) (by omega), gi 30 (10 + q) (Or.inr rfl) (by omega) (by omega), n47 q eq]
            obtain ⟨⟨n, z1, z2, z3⟩, z4⟩ := h.2.1 q hq
            refine ⟨⟨n, z1, z2, ?_⟩, z4⟩
            rcases z3 with z3 | ⟨z5, z6, z7⟩
            · exact Or.inl z3
            · exact Or.inr ⟨z5, z6, fun j hj => (z7 j hj).trans (np _ (by omega)).symm⟩
        · simp only [kShapes, Bool.or_eq_true, Bool.and_eq_true, Nat.ble_eq, Nat.beq_eq] at hk
          omega
        · have z := h.2.2.2.2.2.1
          unfold Rmisc at z ⊢
          rw [g 11 (by decide), g12 2 (by decide)]
          exact z
        · simp only [kNet, Bool.or_eq_true, Bool.and_eq_true, Nat.ble_eq] at hq
          omega
        · rintro rfl; exact absurd hj (by decide)
      · unfold wwQ at hQ
        simp only [if_neg ho] at hQ
        obtain ⟨rfl, s1, wf, hwf, hf, rfl⟩ := hQ
        refine ⟨rfl, am_T.mono (mgo _ (fun q hq => by rw [xfind, u3_kk _ _ (by omega), u3_kk _ _ (by omega), hf.1 q (by omega) (by omega) (by omega)])) ?_⟩
        rintro w3 s3 τ3 t3 ⟨rfl, rfl, hQ2⟩
        unfold mwQ at hQ2
        simp only [if_neg ho] at hQ2
        obtain ⟨rfl, s4, wf2, hwf2, hf2, rfl⟩ := hQ2
        exact ⟨rfl, h.fnd hf hf2⟩
  · refine LC.of (x_writeB hc) (m_writeB ?_) h
    rintro ⟨z1, z2, z3, z4⟩
    obtain ⟨j, hj, rfl⟩ := ix_le (n := 4) (by decide) z1
    obtain ⟨k, hk, rfl⟩ := ix_le (n := 10) (by decide) z2
    obtain ⟨m, hm, rfl⟩ := ix_le (n := 6) (by decide) z3
    obtain ⟨n, hn, rfl⟩ := ix_le (n := 6) (by decide) z4
    exact hc ⟨in4 hj, in10 hk, in6 hm, in6 hn⟩
end L63
