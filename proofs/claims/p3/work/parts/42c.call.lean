/-! CASES OF THE LAW: call -/
section L20
variable {l : Launch} {σ σ2 s : tI} {τ τ2 : tL} {t : Option (Nat × Nat)}
theorem mop_comm {Y : tI} {n q i j : Nat} {a b s w h p v : Int32} (hq : q ≤ 11 ∨ (13 ≤ q ∧ q ≤ 64) ∨ 84 ≤ q) : mop (u3 Y q i j v) n a b s w h p = u3 (mop Y n a b s w h p) q i j v := by
  unfold mop
  rw [u3_k Y v (show 12 ≠ q by omega), u3_k Y v (show 12 ≠ q by omega)]
  rw [u3_comm (show q ≠ 12 by omega), u3_comm (show q ≠ 65 by omega), u3_comm (show q ≠ 66 by omega), u3_comm (show q ≠ 67 by omega), u3_comm (show q ≠ 68 by omega), u3_comm (show q ≠ 69 by omega), u3_comm (show q ≠ 70 by omega), u3_comm (show q ≠ 71 by omega), u3_comm (show q ≠ 74 by omega), u3_comm (show q ≠ 75 by omega), u3_comm (show q ≠ 79 by omega), u3_comm (show q ≠ 76 by omega)]
abbrev xop1 (σ : tI) (n : Nat) (a b s w h p : Int32) : tI := u3 (xop σ n a b s w h p) 0 n 10 (σ 3 0 4)
abbrev sopn (σ : tI) (n : Nat) (a b s w h p : Int32) : tI := mop (xop1 σ n a b s w h p) n a b s w h p
theorem call_eq {n m : Nat} {a b s w h p : Int32} : mopen (xopen σ n m a b s w h p) n m a b s w h p = ssnd (sopn σ n a b s w h p) m n 1 a b 0 0 := by
  have e1 : xop σ n a b s w h p 0 n 0 = a := by simp [xop, u3]
  have e2 : xop σ n a b s w h p 0 n 1 = b := by simp [xop, u3]
  have e3 : xop σ n a b s w h p 3 0 4 = σ 3 0 4 := by simp [xop, u3]
  have e4 : ∀ Y : tI, mop Y n a b s w h p 65 0 n = a := fun Y => by simp [mop, u3]
  have e5 : ∀ Y : tI, mop Y n a b s w h p 66 0 n = b := fun Y => by simp [mop, u3]
  have e6 : ∀ (Y : tI) (q i j : Nat), q ≤ 11 → mop Y n a b s w h p q i j = Y q i j := fun Y q i j hq => by
    unfold mop
    rw [u3_k _ _ (show q ≠ 76 by omega), u3_k _ _ (show q ≠ 79 by omega), u3_k _ _ (show q ≠ 75 by omega), u3_k _ _ (show q ≠ 74 by omega), u3_k _ _ (show q ≠ 71 by omega), u3_k _ _ (show q ≠ 70 by omega), u3_k _ _ (show q ≠ 69 by omega), u3_k _ _ (show q ≠ 68 by omega), u3_k _ _ (show q ≠ 67 by omega), u3_k _ _ (show q ≠ 66 by omega), u3_k _ _ (show q ≠ 65 by omega), u3_k _ _ (show q ≠ 12 by omega)]
  unfold mopen xopen
  rw [e1, e2, e3, e4, e5]
  show msend (mop (xsend (xop1 σ n a b s w h p) m n 1 a b 0) n a b s w h p) m 1 a b (nI n) 0 = msend (xsend (sopn σ n a b s w h p) m n (nI 1) a b 0) m (nI 1) a b (nI n) 0
  have e7 : mop (xsend (xop1 σ n a b s w h p) m n 1 a b 0) n a b s w h p = xsend (sopn σ n a b s w h p) m n 1 a b 0 := by
    unfold xsend xadd
    rw [mop_comm (by omega), mop_comm (by omega), mop_comm (by omega), mop_comm (by omega), mop_comm (by omega), mop_comm (by omega), mop_comm (by omega), mop_comm (by omega), mop_comm (by omega)]
    have e8 : sopn σ n a b s w h p 0 n 11 = xop1 σ n a b s w h p 0 n 11 := e6 _ 0 n 11 (by omega)
    have e9 : sopn σ n a b s w h p 3 0 4 = xop1 σ n a b s w h p 3 0 4 := e6 _ 3 0 4 (by omega)
    rw [e8, e9]
  rw [e7]
  rfl
theorem sopn_k {n q : Nat} {a b s w h p : Int32} (h0 : q ≠ 0) (h3 : q ≠ 3) (h12 : q ≠ 12) (hq : q < 65 ∨ 80 ≤ q ∨ q = 72 ∨ q = 73 ∨ q = 77 ∨ q = 78) : sopn σ n a b s w h p q = σ q := by
  unfold sopn mop xop1 xop
  rw [u3_kk _ _ (show q ≠ 76 by omega), u3_kk _ _ (show q ≠ 79 by omega), u3_kk _ _ (show q ≠ 75 by omega), u3_kk _ _ (show q ≠ 74 by omega), u3_kk _ _ (show q ≠ 71 by omega), u3_kk _ _ (show q ≠ 70 by omega), u3_kk _ _ (show q ≠ 69 by omega), u3_kk _ _ (show q ≠ 68 by omega), u3_kk _ _ (show q ≠ 67 by omega), u3_kk _ _ (show q ≠ 66 by omega), u3_kk _ _ (show q ≠ 65 by omega), u3_kk _ _ h12, u3_kk _ _ h0, u3_kk _ _ h3, u3_kk _ _ h3, u3_kk _ _ h0, u3_kk _ _ h0, u3_kk _ _ h0, u3_kk _ _ h0, u3_kk _ _ h0, u3_kk _ _ h0, u3_kk _ _ h0]
theorem sopn_c {n q c : Nat} {a b s w h p : Int32} (h0 : q ≠ 0) (h3 : q ≠ 3) (h12 : q ≠ 12) (hc : c ≠ n) : sopn σ n a b s w h p q 0 c = σ q 0 c := by
  simp [sopn, mop, xop1, xop, u3, h0, h3, h12, hc]
theorem sopn_0 {n c : Nat} {a b s w h p : Int32} (hc : c ≠ n) : sopn σ n a b s w h p 0 c = σ 0 c := by
  funext j
  simp [sopn, mop, xop1, xop, u3, hc]
theorem cntN_s {p q : Nat → Bool} {n : Nat} (h : ∀ c, c < n → p c = q c) : cntN p (n + 1) = cntN q n + (if p n = true then 1 else 0) := by
  show cntN p n + _ = _
  rw [cntN_cg h]
theorem nI_inj' {a b : Nat} (ha : a < 2 ^ 31) (hb : b < 2 ^ 31) (h : nI a = nI b) : a = b := by
  have e := congrArg Int32.toInt h
  rw [nI_toInt ha, nI_toInt hb] at e
  omega
set_option maxHeartbeats 4000000 in
theorem Rnet0.opn {T n m lo k : Nat} {a b s w h p : Int32} (hN : Rnet0 σ T n m lo k) (hn : n < 30) (ha : ∃ x y, x < 6 ∧ y < 6 ∧ x ≠ y ∧ a = nI x ∧ b = nI y) (hs : ∃ x, x < 3 ∧ s = nI x) (hw : ∃ x, 1 ≤ x ∧ x ≤ 9 ∧ w = nI x) (hp : ∃ x, x ≤ 5 ∧ p = nI x) : Rnet0 (sopn σ n a b s w h p) T (n + 1) m lo k := by
  obtain ⟨h1, h2, h3, h4, h5, h6, h7, h8, h9, h10, h11, h12⟩ := hN
  obtain ⟨f7, f8, f9, f11, f12, f14, f15, f16, f17, f18, f72, f73, f77, f81, f82, f83, fS⟩ := h4 n (Nat.le_refl n) hn
  have K : ∀ q, q ≠ 0 → q ≠ 3 → q ≠ 12 → (q < 65 ∨ 80 ≤ q ∨ q = 72 ∨ q = 73 ∨ q = 77 ∨ q = 78) → sopn σ n a b s w h p q = σ q := fun q => sopn_k
  have hno : ∀ f, f < m → ¬ σ 89 0 f = nI n := by
    intro f hf e
    rcases (h8 f hf).2 with ⟨-, z⟩ | ⟨kd, c, -, -, hc, -, z, -⟩
    · rw [z] at e
      exact n9_4 (q := n) (by omega) e.symm
    · rw [z] at e
      have := nI_inj' (by omega) (by omega) e
      omega
  have hU : ∀ c, undU (sopn σ n a b s w h p) lo m c = undU σ lo m c := fun c => by
    unfold undU
    rw [K 89 (by decide) (by decide) (by decide) (by decide)]
  have hUn : undU σ lo m n = 0 := by
    have e : undU σ lo m n = cntN (fun _ => false) m := cntN_cg (fun f hf => by simp [hno f hf])
    rw [e]
    clear e
    induction m with
    | zero => rfl
    | succ m ih =>
      show cntN _ m + _ = 0
      have z : ∀ j, cntN (fun _ => false) j = 0 := by
        intro j
        induction j with
        | zero => rfl
        | succ j ih => show cntN _ j + _ = 0; rw [ih]; rfl
      rw [z]
      rfl
  have c71 : ∀ c, c < n → sopn σ n a b s w h p 71 0 c = σ 71 0 c := fun c hc => sopn_c (by decide) (by decide) (by decide) (by omega)
  have c66 : ∀ c, c < n → sopn σ n a b s w h p 66 0 c = σ 66 0 c := fun c hc => sopn_c (by decide) (by decide) (by decide) (by omega)
  have e77 := K 77 (by decide) (by decide) (by decide) (by decide)
  refine ⟨?_, ?_, ?_, ?_, ?_, ?_, ?_, ?_, ?_, ?_, ?_, ?_⟩
  · refine ⟨?_, ?_, h1.2.2⟩
    · rw [← h1.1]; simp [sopn, mop, xop1, xop, u3]
    · rw [← h1.2.1]; simp [sopn, mop, xop1, xop, u3]
  · refine ⟨?_, ?_, by omega⟩
    · have e : sopn σ n a b s w h p 3 0 5 = σ 3 0 5 + 1 := by simp [sopn, mop, xop1, xop, u3]
      rw [e, h2.1, nI_1 n]
    · have e : sopn σ n a b s w h p 12 0 34 = σ 12 0 34 + 1 := by simp [sopn, mop, xop1, xop, u3]
      rw [e, h2.2.1, nI_1 n]
  · intro c hc
    rw [hU]
    by_cases hcn : c = n
    · subst hcn
      refine ⟨?_, ?_, ?_⟩
      · unfold Rcall
        refine ⟨?_, ?_, ?_, ?_, ?_, ?_, ?_, ?_, ?_, ?_, ?_, ?_, ?_, ?_, ?_, ?_, ?_, ?_, fun j hj => ?_⟩
        · simp [sopn, mop, xop1, xop, u3]
        · simp [sopn, mop, xop1, xop, u3]
        · simp [sopn, mop, xop1, xop, u3]
        · simp [sopn, mop, xop1, xop, u3]
        · simp [sopn, mop, xop1, xop, u3]
        · simp [sopn, mop, xop1, xop, u3, h1.1, h1.2.1]
        · simp [sopn, mop, xop1, xop, u3, h1.1, h1.2.1]
        · simp [sopn, mop, xop1, xop, u3, f7]
        · simp [sopn, mop, xop1, xop, u3, f8]
        · simp [sopn, mop, xop1, xop, u3, f9, f72]
        · simp [sopn, mop, xop1, xop, u3, h1.1, h1.2.1]
        · simp [sopn, mop, xop1, xop, u3, f12, f77]
        · simp [sopn, mop, xop1, xop, u3, f14, f73]
        · simp [sopn, mop, xop1, xop, u3, f15]
        · simp [sopn, mop, xop1, xop, u3, f16, f81]
        · simp [sopn, mop, xop1, xop, u3, f17, f82]
        · simp [sopn, mop, xop1, xop, u3, f18, f83]
        · rw [e77, f77]; intro z; exact absurd z (by decide)
        · rw [K 13 (by decide) (by decide) (by decide) (by decide), K 80 (by decide) (by decide) (by decide) (by decide), (fS j hj).1, (fS j hj).2]
      · obtain ⟨x, y, x1, y1, xy, rfl, rfl⟩ := ha
        obtain ⟨x2, x3, rfl⟩ := hs
        obtain ⟨x4, x5, x6, rfl⟩ := hw
        obtain ⟨x7, x8, rfl⟩ := hp
        refine ⟨⟨x, y, x1, y1, xy, ?_, ?_⟩, ⟨x2, x3, ?_⟩, ⟨x4, x5, x6, ?_, ?_⟩, ⟨0, x7, by omega, ?_, ?_⟩, Or.inl ?_, ⟨0, by omega, ?_⟩, 0, 0, by omega, by omega, ?_, ?_⟩
        · simp [sopn, mop, xop1, xop, u3]
        · simp [sopn, mop, xop1, xop, u3]
        · simp [sopn, mop, xop1, xop, u3]
        · simp [sopn, mop, xop1, xop, u3]
        · rw [e77, f77]; intro z; exact absurd z (by decide)
        · rw [K 72 (by decide) (by decide) (by decide) (by decide), f72]; rfl
        · simp [sopn, mop, xop1, xop, u3]
        · rw [e77, f77]
        · simp [sopn, mop, xop1, xop, u3]; rfl
        · rw [K 82 (by decide) (by decide) (by decide) (by decide), f82]; rfl
        · rw [K 81 (by decide) (by decide) (by decide) (by decide), f81]; rfl
      · rw [hUn]
        simp [sopn, mop, xop1, xop, u3, f11]; rfl
    · have hc2 : c < n := by omega
      obtain ⟨g1, g2, g3⟩ := h3 c hc2
      have C : ∀ q, q ≠ 0 → q ≠ 3 → q ≠ 12 → sopn σ n a b s w h p q 0 c = σ q 0 c := fun q z1 z2 z3 => sopn_c z1 z2 z3 hcn
      have C0 := sopn_0 (σ := σ) (n := n) (a := a) (b := b) (s := s) (w := w) (h := h) (p := p) hcn
      have k13 := K 13 (by decide) (by decide) (by decide) (by decide)
      have k80 := K 80 (by decide) (by decide) (by decide) (by decide)
      refine ⟨?_, ?_, ?_⟩
      · unfold Rcall at g1 ⊢
        rw [C0, k13, k80, C 65 (by decide) (by decide) (by decide), C 66 (by decide) (by decide) (by decide), C 67 (by decide) (by decide) (by decide), C 68 (by decide) (by decide) (by decide), C 69 (by decide) (by decide) (by decide), C 70 (by decide) (by decide) (by decide), C 71 (by decide) (by decide) (by decide), C 72 (by decide) (by decide) (by decide), C 73 (by decide) (by decide) (by decide), C 74 (by decide) (by decide) (by decide), C 75 (by decide) (by decide) (by decide), C 76 (by decide) (by decide) (by decide), C 77 (by decide) (by decide) (by decide), C 78 (by decide) (by decide) (by decide), C 79 (by decide) (by decide) (by decide), C 81 (by decide) (by decide) (by decide), C 82 (by decide) (by decide) (by decide), C 83 (by decide) (by decide) (by decide)]
        exact g1
      · unfold Ocall at g2 ⊢
        rw [C 65 (by decide) (by decide) (by decide), C 66 (by decide) (by decide) (by decide), C 67 (by decide) (by decide) (by decide), C 68 (by decide) (by decide) (by decide), C 70 (by decide) (by decide) (by decide), C 71 (by decide) (by decide) (by decide), C 72 (by decide) (by decide) (by decide), C 77 (by decide) (by decide) (by decide), C 78 (by decide) (by decide) (by decide), C 81 (by decide) (by decide) (by decide), C 82 (by decide) (by decide) (by decide)]
        exact g2
      · rw [C0]; exact g3
  · intro c hc1 hc2
    have g := h4 c (by omega) hc2
    have hcn : c ≠ n := by omega
    have C0 := sopn_0 (σ := σ) (n := n) (a := a) (b := b) (s := s) (w := w) (h := h) (p := p) hcn
    unfold Fcall at g ⊢
    rw [C0, K 13 (by decide) (by decide) (by decide) (by decide), K 80 (by decide) (by decide) (by decide) (by decide), K 72 (by decide) (by decide) (by decide) (by decide), K 73 (by decide) (by decide) (by decide) (by decide), e77, K 81 (by decide) (by decide) (by decide) (by decide), K 82 (by decide) (by decide) (by decide) (by decide), K 83 (by decide) (by decide) (by decide) (by decide)]
    exact g
  · have e : sopn σ n a b s w h p 3 0 6 = σ 3 0 6 + 1 := by simp [sopn, mop, xop1, xop, u3]
    have e2 : sopn σ n a b s w h p 71 0 n = 0 := by simp [sopn, mop, xop1, xop, u3]
    rw [e, h5, cntN_s (q := fun c => decide (σ 71 0 c = 0)) (fun c hc => by rw [c71 c hc])]
    simp only [e2, decide_true, if_true]
    exact nI_1 _
  · intro x hx
    obtain ⟨g1, g2, g3, g4, g5, g6, g7, g8⟩ := h6 x hx
    rw [K 8 (by decide) (by decide) (by decide) (by decide), K 62 (by decide) (by decide) (by decide) (by decide), K 63 (by decide) (by decide) (by decide) (by decide), K 64 (by decide) (by decide) (by decide) (by decide), e77]
    refine ⟨g1, g2, g3, g4, g5, g6, ?_, ?_⟩
    · rw [cntN_s (q := fun c => decide (σ 66 0 c = nI x ∧ σ 77 0 c = 1)) (fun c hc => by rw [c66 c hc])]
      simpa [f77] using g7
    · rw [cntN_s (q := fun c => decide (σ 66 0 c = nI x ∧ σ 77 0 c = 2)) (fun c hc => by rw [c66 c hc])]
      simpa [f77] using g8
  · rw [K 1 (by decide) (by decide) (by decide) (by decide)]
    exact ⟨h7.1, by rw [← h7.2]; simp [sopn, mop, xop1, xop, u3]⟩
  · intro f hf
    obtain ⟨g1, g2⟩ := h8 f hf
    have k84 := K 84 (by decide) (by decide) (by decide) (by decide)
    have k89 := K 89 (by decide) (by decide) (by decide) (by decide)
    refine ⟨?_, ?_⟩
    · unfold Rframe at g1 ⊢
      rw [K 14 (by decide) (by decide) (by decide) (by decide), K 15 (by decide) (by decide) (by decide) (by decide), K 16 (by decide) (by decide) (by decide) (by decide), K 17 (by decide) (by decide) (by decide) (by decide), K 18 (by decide) (by decide) (by decide) (by decide), K 19 (by decide) (by decide) (by decide) (by decide), K 20 (by decide) (by decide) (by decide) (by decide), k84, K 85 (by decide) (by decide) (by decide) (by decide), K 86 (by decide) (by decide) (by decide) (by decide), K 87 (by decide) (by decide) (by decide) (by decide), K 88 (by decide) (by decide) (by decide) (by decide), k89, K 90 (by decide) (by decide) (by decide) (by decide)]
      exact g1
    · unfold Oframe at g2 ⊢
      rw [k84, k89, K 90 (by decide) (by decide) (by decide) (by decide)]
      rcases g2 with g2 | ⟨kd, c, c1, c2, c3, c4, c5⟩
      · exact Or.inl g2
      · exact Or.inr ⟨kd, c, c1, c2, by omega, c4, c5⟩
  · rw [K 1 (by decide) (by decide) (by decide) (by decide), K 88 (by decide) (by decide) (by decide) (by decide)]
    exact h9
  · rw [K 1 (by decide) (by decide) (by decide) (by decide), K 88 (by decide) (by decide) (by decide) (by decide)]
    exact h10
  · intro f c z1 z2 z3 z4 z5
    rw [K 84 (by decide) (by decide) (by decide) (by decide)] at z3
    rw [K 89 (by decide) (by decide) (by decide) (by decide)] at z4
    rw [K 90 (by decide) (by decide) (by decide) (by decide), K 72 (by decide) (by decide) (by decide) (by decide)]
    by_cases hcn : c = n
    · subst hcn
      exact absurd z4 (hno f z2)
    · exact h11 f c z1 z2 z3 z4 (by omega)
  · rw [K 2 (by decide) (by decide) (by decide) (by decide), K 21 (by decide) (by decide) (by decide) (by decide), K 22 (by decide) (by decide) (by decide) (by decide), K 23 (by decide) (by decide) (by decide) (by decide), K 91 (by decide) (by decide) (by decide) (by decide), K 92 (by decide) (by decide) (by decide) (by decide), K 93 (by decide) (by decide) (by decide) (by decide)]
    exact ⟨h12.1, by rw [← h12.2.1]; simp [sopn, mop, xop1, xop, u3], h12.2.2⟩
theorem sumN_cg {f g : Nat → Nat} : ∀ {n : Nat}, (∀ c, c < n → f c = g c) → sumN f n = sumN g n
  | 0, _ => rfl
  | n + 1, h => by
    show sumN f n + f n = sumN g n + g n
    rw [sumN_cg (fun c hc => h c (by omega)), h n (by omega)]
set_option maxHeartbeats 2000000 in
theorem Rnet.opn {T n m lo k : Nat} {a b s w h p : Int32} (hN : Rnet σ T n m lo k) (hn : n < 30) (ha : ∃ x y, x < 6 ∧ y < 6 ∧ x ≠ y ∧ a = nI x ∧ b = nI y) (hs : ∃ x, x < 3 ∧ s = nI x) (hw : ∃ x, 1 ≤ x ∧ x ≤ 9 ∧ w = nI x) (hp : ∃ x, x ≤ 5 ∧ p = nI x) : Rnet (ssnd (sopn σ n a b s w h p) m n 1 a b 0 0) T (n + 1) (m + 1) lo k := by
  obtain ⟨h0, P, S, Rp, Kc, g1, g2, g3, g4, g5, g6, g7, g8⟩ := hN.split
  have hF := h0.2.2.2.1 n (Nat.le_refl n) hn
  have f72 := hF.2.2.2.2.2.2.2.2.2.2.1
  have f77 := hF.2.2.2.2.2.2.2.2.2.2.2.2.1
  have h8 := h0.2.2.2.2.2.2.2.1
  have hlo := h0.2.2.2.2.2.2.2.2.2.1.2.1
  have hno : ∀ f, f < m → ¬ σ 89 0 f = nI n := by
    intro f hf e
    rcases (h8 f hf).2 with ⟨-, z⟩ | ⟨kd, c, -, -, hc, -, z, -⟩
    · rw [z] at e
      exact n9_4 (q := n) (by omega) e.symm
    · rw [z] at e
      have := nI_inj' (by omega) (by omega) e
      omega
  have s72 : sopn σ n a b s w h p 72 = σ 72 := sopn_k (by decide) (by decide) (by decide) (by decide)
  have f81 := hF.2.2.2.2.2.2.2.2.2.2.2.2.2.1
  have s81 : sopn σ n a b s w h p 81 = σ 81 := sopn_k (by decide) (by decide) (by decide) (by decide)
  have s77 : sopn σ n a b s w h p 77 = σ 77 := sopn_k (by decide) (by decide) (by decide) (by decide)
  refine Rnet.join ((h0.opn hn ha hs hw hp).snd (by decide) (by omega) (fun z => absurd rfl z) (fun _ => by rw [s72, f72]) (fun z => absurd z (by decide)) (fun z => absurd z (by decide))) ?_
  have e72 : ssnd (sopn σ n a b s w h p) m n 1 a b 0 0 72 = σ 72 := by rw [ssnd_k (by decide) (by decide) (by decide) rfl, s72]
  have e77 : ssnd (sopn σ n a b s w h p) m n 1 a b 0 0 77 = σ 77 := by rw [ssnd_k (by decide) (by decide) (by decide) rfl, s77]
  have e81 : ssnd (sopn σ n a b s w h p) m n 1 a b 0 0 81 = σ 81 := by rw [ssnd_k (by decide) (by decide) (by decide) rfl, s81]
  have e71 : ∀ c, c < n → ssnd (sopn σ n a b s w h p) m n 1 a b 0 0 71 0 c = σ 71 0 c := fun c hc => by
    rw [ssnd_k (by decide) (by decide) (by decide) rfl, sopn_c (by decide) (by decide) (by decide) (by omega)]
  have v84 : ssnd (sopn σ n a b s w h p) m n 1 a b 0 0 84 0 m = 1 := by simp [ssnd, msend, xsend, xadd, u3]; rfl
  have v89 : ssnd (sopn σ n a b s w h p) m n 1 a b 0 0 89 0 m = nI n := by simp [ssnd, msend, xsend, xadd, u3]
  have hA : ∀ c, c < 30 → asksU (ssnd (sopn σ n a b s w h p) m n 1 a b 0 0) lo (m + 1) c = asksU σ lo m c + (if c = n then 1 else 0) := by
    intro c hc
    show cntN _ m + _ = _
    have e1 : cntN (fun f => decide (lo ≤ f ∧ ssnd (sopn σ n a b s w h p) m n 1 a b 0 0 84 0 f = 1 ∧ ssnd (sopn σ n a b s w h p) m n 1 a b 0 0 89 0 f = nI c)) m = asksU σ lo m c := by
      refine cntN_cg (fun f hf => ?_)
      rw [ssnd_f (q := 84) rfl (by omega), ssnd_f (q := 89) rfl (by omega), sopn_k (q := 84) (by decide) (by decide) (by decide) (by decide), sopn_k (q := 89) (by decide) (by decide) (by decide) (by decide)]
    rw [e1]
    congr 1
    by_cases hcn : c = n
    · subst hcn
      simp [v84, v89, hlo]
    · have e2 : ¬ nI n = nI c := fun z => hcn (nI_inj' (by omega) (by omega) z).symm
      simp [v89, e2, hcn]
  have hA0 : asksU σ lo m n = 0 := by
    have e : asksU σ lo m n = cntN (fun _ => false) m := cntN_cg (fun f hf => by simp [hno f hf])
    rw [e]
    have z : ∀ j, cntN (fun _ => false) j = 0 := by
      intro j
      induction j with
      | zero => rfl
      | succ j ih => show cntN _ j + _ = 0; rw [ih]; rfl
    exact z m
  refine ⟨P, S, fun c => if c = n then 0 else Rp c, fun c => if c = n then 0 else Kc c, ?_, ?_, g3, ?_, ?_, g6, ?_, ?_⟩
  · rw [← g1]; simp [ssnd, sopn, mop, xop1, xop, msend, xsend, xadd, u3]
  · rw [← g2]; simp [ssnd, sopn, mop, xop1, xop, msend, xsend, xadd, u3]
  · rw [← g4]; simp [ssnd, sopn, mop, xop1, xop, msend, xsend, xadd, u3]
  · rw [← g5]; simp [ssnd, sopn, mop, xop1, xop, msend, xsend, xadd, u3]
  · rw [e72]
    show m + 1 = P + S + (sumN _ n + _)
    rw [sumN_cg (g := fun c => (σ 72 0 c).toNatClampNeg + 1 + Rp c + Kc c) (fun c hc => by simp [show c ≠ n by omega])]
    have e : ((0 : Int32)).toNatClampNeg = 0 := rfl
    simp only [if_pos, f72, e]
    omega
  · intro c hc
    rw [hA c (by omega), e72, e77, e81]
    by_cases hcn : c = n
    · subst hcn
      rw [hA0, f72, f77, f81]
      simp
    · have hc2 : c < n := by omega
      rw [e71 c hc2]
      simpa [hcn] using g8 c hc2
theorem x_call_full {a b s w h p : Int32} (hb : ((0 ≤ a ∧ a < 6) ∧ (0 ≤ b ∧ b < 6) ∧ a ≠ b) ∧ (0 ≤ s ∧ s < 3) ∧ (1 ≤ w ∧ w ≤ 9) ∧ (1 ≤ h ∧ h ≤ 99) ∧ (0 ≤ p ∧ p ≤ 5)) (hn : σ 3 0 5 = nI 30) : am_D l 118 [aR 11 0, aI a, aI b, aI s, aI w, aI h, aI p] σ τ (rX t) cX lX (some (aI (-2))) σ τ (rX t) := by
  obtain ⟨b1, b2, b3, b4, b5⟩ := hb
  refine am_D_of am_o118 am_l118 rfl ?_
  refine am_vc_ok am_k118 [] 100 ?_
  refine am_vS am_k118 am_h118 rfl rfl rfl rfl (x_isPair) ?_
  refine am_vc_ok am_k118 [] 100 ?_
  refine And.intro (fun g => absurd b1 (bI_0.mp g)) (fun _ => ?_)
  refine am_vS am_k118 am_h118 rfl rfl rfl rfl (x_within) ?_
  refine am_vc_ok am_k118 [] 100 ?_
  refine And.intro (fun g => absurd b2 (bI_0.mp g)) (fun _ => ?_)
  refine And.intro (fun g => absurd b3.1 (Int32.not_le.mpr g)) (fun _ => ?_)
  refine And.intro (fun _ => ?_) (fun g => absurd b3.2 g)
  refine And.intro (fun g => absurd b4.1 (Int32.not_le.mpr g)) (fun _ => ?_)
  refine And.intro (fun g => absurd b4.2 (Int32.not_le.mpr g)) (fun _ => ?_)
  refine And.intro (fun g => absurd b5.1 (Int32.not_le.mpr g)) (fun _ => ?_)
  refine And.intro (fun _ => ?_) (fun g => absurd b5.2 g)
  refine And.intro (fun g => absurd g (by rw [hn]; decide)) (fun _ => ?_)
  exact am_vI am_k118 am_r118 rfl ⟨rfl, rfl, rfl, rfl, rfl, rfl⟩
theorem x_call_late {n : Nat} {a b s w h p : Int32} (hb : ((0 ≤ a ∧ a < 6) ∧ (0 ≤ b ∧ b < 6) ∧ a ≠ b) ∧ (0 ≤ s ∧ s < 3) ∧ (1 ≤ w ∧ w ≤ 9) ∧ (1 ≤ h ∧ h ≤ 99) ∧ (0 ≤ p ∧ p ≤ 5)) (hn : σ 3 0 5 = nI n) (hn2 : n < 30) (hT : ¬ σ 3 0 4 + h ≤ 9999) : am_D l 118 [aR 11 0, aI a, aI b, aI s, aI w, aI h, aI p] σ τ (rX t) cX lX (some (aI (-4))) σ τ (rX t) := by
  obtain ⟨b1, b2, b3, b4, b5⟩ := hb
  refine am_D_of am_o118 am_l118 rfl ?_
  refine am_vc_ok am_k118 [] 100 ?_
  refine am_vS am_k118 am_h118 rfl rfl rfl rfl (x_isPair) ?_
  refine am_vc_ok am_k118 [] 100 ?_
  refine And.intro (fun g => absurd b1 (bI_0.mp g)) (fun _ => ?_)
  refine am_vS am_k118 am_h118 rfl rfl rfl rfl (x_within) ?_
  refine am_vc_ok am_k118 [] 100 ?_
  refine And.intro (fun g => absurd b2 (bI_0.mp g)) (fun _ => ?_)
  refine And.intro (fun g => absurd b3.1 (Int32.not_le.mpr g)) (fun _ => ?_)
  refine And.intro (fun _ => ?_) (fun g => absurd b3.2 g)
  refine And.intro (fun g => absurd b4.1 (Int32.not_le.mpr g)) (fun _ => ?_)
  refine And.intro (fun g => absurd b4.2 (Int32.not_le.mpr g)) (fun _ => ?_)
  refine And.intro (fun g => absurd b5.1 (Int32.not_le.mpr g)) (fun _ => ?_)
  refine And.intro (fun _ => ?_) (fun g => absurd b5.2 g)
  refine And.intro (fun _ => ?_) (fun g => absurd (by rw [hn]; exact nI_lt (b := 30) hn2 (by decide)) g)
  refine And.intro (fun g => absurd g hT) (fun _ => ?_)
  exact am_vI am_k118 am_r118 rfl ⟨rfl, rfl, rfl, rfl, rfl, rfl⟩
theorem m_call_full {a b s w h p : Int32} (hb : ((0 ≤ a ∧ a ≤ 5) ∧ (0 ≤ b ∧ b ≤ 5) ∧ a ≠ b) ∧ (0 ≤ s ∧ s ≤ 2) ∧ (1 ≤ w ∧ w ≤ 9) ∧ (1 ≤ h ∧ h ≤ 99) ∧ (0 ≤ p ∧ p ≤ 5)) (hn : σ 12 0 34 = nI 30) : am_D l 212 [aR 12 0, aI a, aI b, aI s, aI w, aI h, aI p] σ τ (rX t) cX lX (some (aI (-2))) σ τ (rX t) := by
  obtain ⟨b1, b2, b3, b4, b5⟩ := hb
  refine am_D_of am_o212 am_l212 rfl ?_
  refine am_vc_ok am_k212 [] 100 ?_
  refine am_vS am_k212 am_h212 rfl rfl rfl rfl (m_isSix) ?_
  refine am_vc_ok am_k212 [] 100 ?_
  refine And.intro (fun g => absurd b1.1 (bI_0.mp g)) (fun _ => ?_)
  refine am_vS am_k212 am_h212 rfl rfl rfl rfl (m_isSix) ?_
  refine am_vc_ok am_k212 [] 100 ?_
  refine And.intro (fun g => absurd b1.2.1 (bI_0.mp g)) (fun _ => ?_)
  refine And.intro (fun g => absurd g b1.2.2) (fun _ => ?_)
  refine am_vS am_k212 am_h212 rfl rfl rfl rfl (m_in) ?_
  refine am_vc_ok am_k212 [] 100 ?_
  refine And.intro (fun g => absurd b2 (bI_0.mp g)) (fun _ => ?_)
  refine am_vS am_k212 am_h212 rfl rfl rfl rfl (m_in) ?_
  refine am_vc_ok am_k212 [] 100 ?_
  refine And.intro (fun g => absurd b3 (bI_0.mp g)) (fun _ => ?_)
  refine am_vS am_k212 am_h212 rfl rfl rfl rfl (m_in) ?_
  refine am_vc_ok am_k212 [] 100 ?_
  refine And.intro (fun g => absurd b4 (bI_0.mp g)) (fun _ => ?_)
  refine am_vS am_k212 am_h212 rfl rfl rfl rfl (m_in) ?_
  refine am_vc_ok am_k212 [] 100 ?_
  refine And.intro (fun g => absurd b5 (bI_0.mp g)) (fun _ => ?_)
  refine And.intro (fun _ => ?_) (fun g => absurd hn g)
  exact am_vI am_k212 am_r212 rfl ⟨rfl, rfl, rfl, rfl, rfl, rfl⟩
theorem m_call_late {n : Nat} {a b s w h p : Int32} (hb : ((0 ≤ a ∧ a ≤ 5) ∧ (0 ≤ b ∧ b ≤ 5) ∧ a ≠ b) ∧ (0 ≤ s ∧ s ≤ 2) ∧ (1 ≤ w ∧ w ≤ 9) ∧ (1 ≤ h ∧ h ≤ 99) ∧ (0 ≤ p ∧ p ≤ 5)) (hn : σ 12 0 34 = nI n) (hn2 : n < 30) (hT : ¬ σ 12 0 5 + h ≤ 9999) : am_D l 212 [aR 12 0, aI a, aI b, aI s, aI w, aI h, aI p] σ τ (rX t) cX lX (some (aI (-4))) σ τ (rX t) := by
  obtain ⟨b1, b2, b3, b4, b5⟩ := hb
  refine am_D_of am_o212 am_l212 rfl ?_
  refine am_vc_ok am_k212 [] 100 ?_
  refine am_vS am_k212 am_h212 rfl rfl rfl rfl (m_isSix) ?_
  refine am_vc_ok am_k212 [] 100 ?_
  refine And.intro (fun g => absurd b1.1 (bI_0.mp g)) (fun _ => ?_)
  refine am_vS am_k212 am_h212 rfl rfl rfl rfl (m_isSix) ?_
  refine am_vc_ok am_k212 [] 100 ?_
  refine And.intro (fun g => absurd b1.2.1 (bI_0.mp g)) (fun _ => ?_)
  refine And.intro (fun g => absurd g b1.2.2) (fun _ => ?_)
  refine am_vS am_k212 am_h212 rfl rfl rfl rfl (m_in) ?_
  refine am_vc_ok am_k212 [] 100 ?_
  refine And.intro (fun g => absurd b2 (bI_0.mp g)) (fun _ => ?_)
  refine am_vS am_k212 am_h212 rfl rfl rfl rfl (m_in) ?_
  refine am_vc_ok am_k212 [] 100 ?_
  refine And.intro (fun g => absurd b3 (bI_0.mp g)) (fun _ => ?_)
  refine am_vS am_k212 am_h212 rfl rfl rfl rfl (m_in) ?_
  refine am_vc_ok am_k212 [] 100 ?_
  refine And.intro (fun g => absurd b4 (bI_0.mp g)) (fun _ => ?_)
  refine am_vS am_k212 am_h212 rfl rfl rfl rfl (m_in) ?_
  refine am_vc_ok am_k212 [] 100 ?_
  refine And.intro (fun g => absurd b5 (bI_0.mp g)) (fun _ => ?_)
  refine And.intro (fun g => absurd (hn.symm.trans g) (fun e => absurd (nI_inj' (by omega) (by omega) (show nI n = nI 30 from e)) (by omega))) (fun _ => ?_)
  refine And.intro (fun g => absurd g hT) (fun _ => ?_)
  exact am_vI am_k212 am_r212 rfl ⟨rfl, rfl, rfl, rfl, rfl, rfl⟩
theorem LC_call (h : Rall σ τ) (a b s w hh p : Int32) : LC l 118 212 [aI a, aI b, aI s, aI w, aI hh, aI p] σ τ t := by
  have e6 : ∀ x : Int32, (0 ≤ x ∧ x ≤ 5) ↔ (0 ≤ x ∧ x < 6) := fun x => leN (n := 6) (N := 6) (by decide) (by decide)
  have e3 : ∀ x : Int32, (0 ≤ x ∧ x ≤ 2) ↔ (0 ≤ x ∧ x < 3) := fun x => leN (n := 3) (N := 3) (by decide) (by decide)
  obtain ⟨-, -, -, -, -, -, T, n, m, lo, k, hN⟩ := id h
  have h0 := hN.split.1
  have hm := h0.2.2.2.2.2.2.1
  have hn := h0.2.1
  have hT := h0.1
  by_cases hb : ((0 ≤ a ∧ a < 6) ∧ (0 ≤ b ∧ b < 6) ∧ a ≠ b) ∧ (0 ≤ s ∧ s < 3) ∧ (1 ≤ w ∧ w ≤ 9) ∧ (1 ≤ hh ∧ hh ≤ 99) ∧ (0 ≤ p ∧ p ≤ 5)
  · have hb2 : ((0 ≤ a ∧ a ≤ 5) ∧ (0 ≤ b ∧ b ≤ 5) ∧ a ≠ b) ∧ (0 ≤ s ∧ s ≤ 2) ∧ (1 ≤ w ∧ w ≤ 9) ∧ (1 ≤ hh ∧ hh ≤ 99) ∧ (0 ≤ p ∧ p ≤ 5) := by rw [e6, e6, e3]; exact hb
    by_cases hn3 : n < 30
    · by_cases hT2 : σ 3 0 4 + hh ≤ 9999
      · have ha : ∃ x y, x < 6 ∧ y < 6 ∧ x ≠ y ∧ a = nI x ∧ b = nI y := by
          obtain ⟨⟨z1, z2, z3⟩, -⟩ := hb
          obtain ⟨x, x1, rfl⟩ := ix_lt (n := 6) (by decide) z1
          obtain ⟨y, y1, rfl⟩ := ix_lt (n := 6) (by decide) z2
          exact ⟨x, y, x1, y1, fun z => z3 (by rw [z]), rfl, rfl⟩
        have hs : ∃ x, x < 3 ∧ s = nI x := ix_lt (n := 3) (by decide) hb.2.1
        have hw : ∃ x, 1 ≤ x ∧ x ≤ 9 ∧ w = nI x := by
          obtain ⟨x, x1, rfl⟩ := ix_le (n := 10) (N := 9) (by decide) ⟨Int32.le_trans (by decide) hb.2.2.1.1, hb.2.2.1.2⟩
          exact ⟨x, (nI_leI (a := 1) (by decide) (by omega)).mp hb.2.2.1.1, by omega, rfl⟩
        have hp : ∃ x, x ≤ 5 ∧ p = nI x := by
          obtain ⟨x, x1, rfl⟩ := ix_le (n := 6) (N := 5) (by decide) hb.2.2.2.2
          exact ⟨x, by omega, rfl⟩
        have hN2 := hN.opn (h := hh) hn3 ha hs hw hp
        have hm2 := hN2.m_le
        have x1 : xopen σ n m a b s w hh p 12 0 34 = σ 12 0 34 := by simp [xopen, xsend, xadd, xop, u3]
        have x2 : xopen σ n m a b s w hh p 12 0 5 = σ 12 0 5 := by simp [xopen, xsend, xadd, xop, u3]
        have x3 : xopen σ n m a b s w hh p 12 0 54 = σ 12 0 54 := by simp [xopen, xsend, xadd, xop, u3]
        have hM := m_call (l := l) (σ := xopen σ n m a b s w hh p) (τ := τ) (t := t) (m := m) hb2 (by rw [x1]; exact hn.2.1) hn3 (by rw [x2, hT.2.1, ← hT.1]; exact hT2) (by rw [x3]; exact hm.2) (by omega)
        rw [call_eq] at hM
        refine LC.of (x_call hb hn.1 hn3 hT2 hm.1 (by omega)) hM ?_
        refine h.net (fun q z1 z2 z3 => ?_) (fun c2 hc2 => ?_) (fun j z => ?_) hN2
        · have d : ∀ c, kNet c = true → q ≠ c := fun c hc e => by rw [e, hc] at z1; cases z1
          rw [ssnd_k (d 0 rfl) (d 1 rfl) z3 (kNet_fr z1)]
          refine sopn_k (d 0 rfl) (d 3 rfl) z3 ?_
          have d62 : ¬ (62 ≤ q ∧ q ≤ 93) := by
            rintro ⟨y1, y2⟩
            unfold kNet at z1
            simp only [Bool.or_eq_false_iff, Bool.and_eq_false_iff] at z1
            rcases z1.2 with z | z
            · exact absurd (Nat.ble_eq.mpr y1) (by rw [z]; decide)
            · exact absurd (Nat.ble_eq.mpr y2) (by rw [z]; decide)
          omega
        · have e8 : ssnd (sopn σ n a b s w hh p) m n 1 a b 0 0 8 = σ 8 := by rw [ssnd_k (by decide) (by decide) (by decide) rfl, sopn_k (by decide) (by decide) (by decide) (by decide)]
          rw [e8]
          exact ⟨rfl, rfl⟩
        · have d1 : j ≠ 54 := fun e => by rw [e] at z; cases z
          have d2 : j ≠ 34 := fun e => by rw [e] at z; cases z
          simp [ssnd, sopn, mop, xop1, xop, msend, xsend, xadd, u3, d1, d2]
      · exact LC.of (x_call_late hb hn.1 hn3 hT2) (m_call_late hb2 hn.2.1 hn3 (by rw [hT.2.1, ← hT.1]; exact hT2)) h
    · obtain rfl : n = 30 := by omega
      exact LC.of (x_call_full hb hn.1) (m_call_full hb2 hn.2.1) h
  · refine LC.of (x_call_bad hb) (m_call_bad ?_) h
    rw [e6, e6, e3]
    exact hb
end L20
