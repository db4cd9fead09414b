/-! CASES OF THE LAW: call -/
section L20
variable {l : Launch} {σ σ2 s : tI} {τ τ2 : tL} {t : Option (Nat × Nat)}
theorem mop_comm {Y : tI} {n q i j : Nat} {a b s w h p v : Int32} (hq : q ≤ 11 ∨ (13 ≤ q ∧ q ≤ 64) ∨ 84 ≤ q) : mop (u3 Y q i j v) n a b s w h p = u3 (mop Y n a b s w h p) q i j v := by
  unfold mop
  rw [u3_k Y v (show 12 ≠ q by omega), u3_k Y v (show 12 ≠ q by omega)]
  rw [u3_comm (show q ≠ 12 by omega), u3_comm (show q ≠ 65 by omega), u3_comm (show q ≠ 66 by omega), u3_comm (show q ≠ 67 by omega), u3_comm (show q ≠ 68 by omega), u3_comm (show q ≠ 69 by omega), u3_comm (show q ≠ 70 by omega), u3_comm (show q ≠ 71 by omega), u3_comm (show q ≠ 74 by omega), u3_comm (show q ≠ 75 by omega), u3_comm (show q ≠ 79 by omega), u3_comm (show q ≠ 76 by omega)]
abbrev xop1 (σ : tI) (n : Nat) (a b s w h p : Int32) : tI := u3 (xop σ n a b s w h p) 0 n 10 (σ 3 0 4)
abbrev sopn (σ : tI) (n : Nat) (a b s w h p : Int32) : tI := mop (xop1 σ n a b s w h p) n a b s w h p
theorem call_eq {n m : Nat} {a b s w h p : Int32} : mopen (xopen σ n m a b s w h p) n m a b s w h p = ssnd (sopn σ n a b s w h p) m n 1 a b 0 0 := by
  have e1 : xop σ n a b s w h p 0 n 0 = a := by simp [xop, u3]
  have e2 : xop σ n a b s w h p 0 n 1 = b := by simp [xop, u3]
  have e3 : xop σ n a b s w h p 3 0 4 = σ 3 0 4 := by simp [xop, u3]
  have e4 : ∀ Y : tI, mop Y n a b s w h p 65 0 n = a := fun Y => by simp [mop, u3]
  have e5 : ∀ Y : tI, mop Y n a b s w h p 66 0 n = b := fun Y => by simp [mop, u3]
  have e6 : ∀ (Y : tI) (q i j : Nat), q ≤ 11 → mop Y n a b s w h p q i j = Y q i j := fun Y q i j hq => by
    unfold mop
    rw [u3_k _ _ (show q ≠ 76 by omega), u3_k _ _ (show q ≠ 79 by omega), u3_k _ _ (show q ≠ 75 by omega), u3_k _ _ (show q ≠ 74 by omega), u3_k _ _ (show q ≠ 71 by omega), u3_k _ _ (show q ≠ 70 by omega), u3_k _ _ (show q ≠ 69 by omega), u3_k _ _ (show q ≠ 68 by omega), u3_k _ _ (show q ≠ 67 by omega), u3_k _ _ (show q ≠ 66 by omega), u3_k _ _ (show q ≠ 65 by omega), u3_k _ _ (show q ≠ 12 by omega)]
  unfold mopen xopen
  rw [e1, e2, e3, e4, e5]
  show msend (mop (xsend (xop1 σ n a b s w h p) m n 1 a b 0) n a b s w h p) m 1 a b (nI n) 0 = msend (xsend (sopn σ n a b s w h p) m n (nI 1) a b 0) m (nI 1) a b (nI n) 0
  have e7 : mop (xsend (xop1 σ n a b s w h p) m n 1 a b 0) n a b s w h p = xsend (sopn σ n a b s w h p) m n 1 a b 0 := by
    unfold xsend xadd
    rw [mop_comm (by omega), mop_comm (by omega), mop_comm (by omega), mop_comm (by omega), mop_comm (by omega), mop_comm (by omega), mop_comm (by omega), mop_comm (by omega), mop_comm (by omega)]
    have e8 : sopn σ n a b s w h p 0 n 11 = xop1 σ n a b s w h p 0 n 11 := e6 _ 0 n 11 (by omega)
    have e9 : sopn σ n a b s w h p 3 0 4 = xop1 σ n a b s w h p 3 0 4 := e6 _ 3 0 4 (by omega)
    rw [e8, e9]
  rw [e7]
  rfl
theorem sopn_k {n q : Nat} {a b s w h p : Int32} (h0 : q ≠ 0) (h3 : q ≠ 3) (h12 : q ≠ 12) (hq : q < 65 ∨ 80 ≤ q ∨ q = 72 ∨ q = 73 ∨ q = 77 ∨ q = 78) : sopn σ n a b s w h p q = σ q := by
  unfold sopn mop xop1 xop
  rw [u3_kk _ _ (show q ≠ 76 by omega), u3_kk _ _ (show q ≠ 79 by omega), u3_kk _ _ (show q ≠ 75 by omega), u3_kk _ _ (show q ≠ 74 by omega), u3_kk _ _ (show q ≠ 71 by omega), u3_kk _ _ (show q ≠ 70 by omega), u3_kk _ _ (show q ≠ 69 by omega), u3_kk _ _ (show q ≠ 68 by omega), u3_kk _ _ (show q ≠ 67 by omega), u3_kk _ _ (show q ≠ 66 by omega), u3_kk _ _ (show q ≠ 65 by omega), u3_kk _ _ h12, u3_kk _ _ h0, u3_kk _ _ h3, u3_kk _ _ h3, u3_kk _ _ h0, u3_kk _ _ h0, u3_kk _ _ h0, u3_kk _ _ h0, u3_kk _ _ h0, u3_kk _ _ h0, u3_kk _ _ h0]
theorem sopn_c {n q c : Nat} {a b s w h p : Int32} (h0 : q ≠ 0) (h3 : q ≠ 3) (h12 : q ≠ 12) (hc : c ≠ n) : sopn σ n a b s w h p q 0 c = σ q 0 c := by
  simp [sopn, mop, xop1, xop, u3, h0, h3, h12, hc]
theorem sopn_0 {n c : Nat} {a b s w h p : Int32} (hc : c ≠ n) : sopn σ n a b s w h p 0 c = σ 0 c := by
  funext j
  simp [sopn, mop, xop1, xop, u3, hc]
theorem cntN_s {p q : Nat → Bool} {n : Nat} (h : ∀ c, c < n → p c = q c) : cntN p (n + 1) = cntN q n + (if p n = true then 1 else 0) := by
  show cntN p n + _ = _
  rw [cntN_cg h]
theorem nI_inj' {a b : Nat} (ha : a < 2 ^ 31) (hb : b < 2 ^ 31) (h : nI a = nI b) : a = b := by
  have e := congrArg Int32.toInt h
  rw [nI_toInt ha, nI_toInt hb] at e
  omega
set_option maxHeartbeats 4000000 in
theorem Rnet0.opn {T n m lo k : Nat} {a b s w h p : Int32} (hN : Rnet0 σ T n m lo k) (hn : n < 30) (ha : ∃ x y, x < 6 ∧ y < 6 ∧ x ≠ y ∧ a = nI x ∧ b = nI y) (hs : ∃ x, x < 3 ∧ s = nI x) (hw : ∃ x, 1 ≤ x ∧ x ≤ 9 ∧ w = nI x) (hp : ∃ x, x ≤ 5 ∧ p = nI x) : Rnet0 (sopn σ n a b s w h p) T (n + 1) m lo k := by
  obtain ⟨h1, h2, h3, h4, h5, h6, h7, h8, h9, h10, h11, h12⟩ := hN
  obtain ⟨f7, f8, f9, f11, f12, f14, f15, f16, f17, f18, f72, f73, f77, f81, f82, f83, fS⟩ := h4 n (Nat.le_refl n) hn
  have K : ∀ q, q ≠ 0 → q ≠ 3 → q ≠ 12 → (q < 65 ∨ 80 ≤ q ∨ q = 72 ∨ q = 73 ∨ q = 77 ∨ q = 78) → sopn σ n a b s w h p q = σ q := fun q => sopn_k
  have hno : ∀ f, f < m → ¬ σ 89 0 f = nI n := by
    intro f hf e
    rcases (h8 f hf).2 with ⟨-, z⟩ | ⟨kd, c, -, -, hc, -, z, -⟩
    · rw [z] at e
      exact n9_4 (q := n) (by omega) e.symm
    · rw [z] at e
      have := nI_inj' (by omega) (by omega) e
      omega
  have hU : ∀ c, undU (sopn σ n a b s w h p) lo m c = undU σ lo m c := fun c => by
    unfold undU
    rw [K 89 (by decide) (by decide) (by decide) (by decide)]
  have hUn : undU σ lo m n = 0 := by
    have e : undU σ lo m n = cntN (fun _ => false) m := cntN_cg (fun f hf => by simp [hno f hf])
    rw [e]
    clear e
    induction m with
    | zero => rfl
    | succ m ih =>
      show cntN _ m + _ = 0
      have z : ∀ j, cntN (fun _ => false) j = 0 := by
        intro j
        induction j with
        | zero => rfl
        | succ j ih => show cntN _ j + _ = 0; rw [ih]; rfl
      rw [z]
      rfl
  have c71 : ∀ c, c < n → sopn σ n a b s w h p 71 0 c = σ 71 0 c := fun c hc => sopn_c (by decide) (by decide) (by decide) (by omega)
  have c66 : ∀ c, c < n → sopn σ n a b s w h p 66 0 c = σ 66 0 c := fun c hc => sopn_c (by decide) (by decide) (by decide) (by omega)
  have e77 := K 77 (by decide) (by decide) (by decide) (by decide)
  refine ⟨?_, ?_, ?_, ?_, ?_, ?_, ?_, ?_, ?_, ?_, ?_, ?_⟩
  · refine ⟨?_, ?_, h1.2.2⟩
    · rw [← h1.1]; simp [sopn, mop, xop1, xop, u3]
    · rw [← h1.2.1]; simp [sopn, mop, xop1, xop, u3]
  · refine ⟨?_, ?_, by omega⟩
    · have e : sopn σ n a b s w h p 3 0 5 = σ 3 0 5 + 1 := by simp [sopn, mop, xop1, xop, u3]
      rw [e, h2.1, nI_1 n]
    · have e : sopn σ n a b s w h p 12 0 34 = σ 12 0 34 + 1 := by simp [sopn, mop, xop1, xop, u3]
      rw [e, h2.2.1, nI_1 n]
  · intro c hc
    rw [hU]
    by_cases hcn : c = n
    · subst hcn
      refine ⟨?_, ?_, ?_⟩
      · unfold Rcall
        refine ⟨?_, ?_, ?_, ?_, ?_, ?_, ?_, ?_, ?_, ?_, ?_, ?_, ?_, ?_, ?_, ?_, ?_, ?_, fun j hj => ?_⟩
        · simp [sopn, mop, xop1, xop, u3]
        · simp [sopn, mop, xop1, xop, u3]
        · simp [sopn, mop, xop1, xop, u3]
        · simp [sopn, mop, xop1, xop, u3]
        · simp [sopn, mop, xop1, xop, u3]
        · simp [sopn, mop, xop1, xop, u3, h1.1, h1.2.1]
        · simp [sopn, mop, xop1, xop, u3, h1.1, h1.2.1]
        · simp [sopn, mop, xop1, xop, u3, f7]
        · simp [sopn, mop, xop1, xop, u3, f8]
        · simp [sopn, mop, xop1, xop, u3, f9, f72]
        · simp [sopn, mop, xop1, xop, u3, h1.1, h1.2.1]
        · simp [sopn, mop, xop1, xop, u3, f12, f77]
        · simp [sopn, mop, xop1, xop, u3, f14, f73]
        · simp [sopn, mop, xop1, xop, u3, f15]
        · simp [sopn, mop, xop1, xop, u3, f16, f81]
        · simp [sopn, mop, xop1, xop, u3, f17, f82]
        · simp [sopn, mop, xop1, xop, u3, f18, f83]
        · rw [e77, f77]; intro z; exact absurd z (by decide)
        · rw [K 13 (by decide) (by decide) (by decide) (by decide), K 80 (by decide) (by decide) (by decide) (by decide), (fS j hj).1, (fS j hj).2]
      · obtain ⟨x, y, x1, y1, xy, rfl, rfl⟩ := ha
        obtain ⟨x2, x3, rfl⟩ := hs
        obtain ⟨x4, x5, x6, rfl⟩ := hw
        obtain ⟨x7, x8, rfl⟩ := hp
        refine ⟨⟨x, y, x1, y1, xy, ?_, ?_⟩, ⟨x2, x3, ?_⟩, ⟨x4, x5, x6, ?_, ?_⟩, ⟨0, x7, by omega, ?_, ?_⟩, Or.inl ?_, ⟨0, by omega, ?_⟩, 0, 0, by omega, by omega, ?_, ?_⟩
        · simp [sopn, mop, xop1, xop, u3]
        · simp [sopn, mop, xop1, xop, u3]
        · simp [sopn, mop, xop1, xop, u3]
        · simp [sopn, mop, xop1, xop, u3]
        · rw [e77, f77]; intro z; exact absurd z (by decide)
        · rw [K 72 (by decide) (by decide) (by decide) (by decide), f72]; rfl
        · simp [sopn, mop, xop1, xop, u3]
        · rw [e77, f77]
        · simp [sopn, mop, xop1, xop, u3]; rfl
        · rw [K 82 (by decide) (by decide) (by decide) (by decide), f82]; rfl
        · rw [K 81 (by decide) (by decide) (by decide) (by decide), f81]; rfl
      · rw [hUn]
        simp [sopn, mop, xop1, xop, u3, f11]; rfl
    · have hc2 : c < n := by omega
      obtain ⟨g1, g2, g3⟩ := h3 c hc2
      have C : ∀ q, q ≠ 0 → q ≠ 3 → q ≠ 12 → sopn σ n a b s w h p q 0 c = σ q 0 c := fun q z1 z2 z3 => sopn_c z1 z2 z3 hcn
      have C0 := sopn_0 (σ := σ) (n := n) (a := a) (b := b) (s := s) (w := w) (h := h) (p := p) hcn
      have k13 := K 13 (by decide) (by decide) (by decide) (by decide)
      have k80 := K 80 (by decide) (by decide) (by decide) (by decide)
      refine ⟨?_, ?_, ?_⟩
      · unfold Rcall at g1 ⊢
        rw [C0, k13, k80, C 65 (by decide) (by decide) (by decide), C 66 (by decide) (by decide) (by decide), C 67 (by decide) (by decide) (by decide), C 68 (by decide) (by decide) (by decide), C 69 (by decide) (by decide) (by decide), C 70 (by decide) (by decide) (by decide), C 71 (by decide) (by decide) (by decide), C 72 (by decide) (by decide) (by decide), C 73 (by decide) (by decide) (by decide), C 74 (by decide) (by decide) (by decide), C 75 (by decide) (by decide) (by decide), C 76 (by decide) (by decide) (by decide), C 77 (by decide) (by decide) (by decide), C 78 (by decide) (by decide) (by decide), C 79 (by decide) (by decide) (by decide), C 81 (by decide) (by decide) (by decide), C 82 (by decide) (by decide) (by decide), C 83 (by decide) (by decide) (by decide)]
        exact g1
      · unfold Ocall at g2 ⊢
        rw [C 65 (by decide) (by decide) (by decide), C 66 (by decide) (by decide) (by decide), C 67 (by decide) (by decide) (by decide), C 68 (by decide) (by decide) (by decide), C 70 (by decide) (by decide) (by decide), C 71 (by decide) (by decide) (by decide), C 72 (by decide) (by decide) (by decide), C 77 (by decide) (by decide) (by decide), C 78 (by decide) (by decide) (by decide), C 81 (by decide) (by decide) (by decide), C 82 (by decide) (by decide) (by decide)]
        exact g2
      · rw [C0]; exact g3
  · intro c hc1 hc2
    have g := h4 c (by omega) hc2
    have hcn : c ≠ n := by omega
    have C0 := sopn_0 (σ := σ) (n := n) (a := a) (b := b) (s := s) (w := w) (h := h) (p := p) hcn
    unfold Fcall at g ⊢
    rw [C0, K 13 (by decide) (by decide) (by decide) (by decide), K 80 (by decide) (by decide) (by decide) (by decide), K 72 (by decide) (by decide) (by decide) (by decide), K 73 (by decide) (by decide) (by decide) (by decide), e77, K 81 (by decide) (by decide) (by decide) (by decide), K 82 (by decide) (by decide) (by decide) (by decide), K 83 (by decide) (by decide) (by decide) (by decide)]
    exact g
  · have e : sopn σ n a b s w h p 3 0 6 = σ 3 0 6 + 1 := by simp [sopn, mop, xop1, xop, u3]
    have e2 : sopn σ n a b s w h p 71 0 n = 0 := by simp [sopn, mop, xop1, xop, u3]
    rw [e, h5, cntN_s (q := fun c => decide (σ 71 0 c = 0)) (fun c hc => by rw [c71 c hc])]
    simp only [e2, decide_true, if_true]
    exact nI_1 _
  · intro x hx
    obtain ⟨g1, g2, g3, g4, g5, g6, g7, g8⟩ := h6 x hx
    rw [K 8 (by decide) (by decide) (by decide) (by decide), K 62 (by decide) (by decide) (by decide) (by decide), K 63 (by decide) (by decide) (by decide) (by decide), K 64 (by decide) (by decide) (by decide) (by decide), e77]
    refine ⟨g1, g2, g3, g4, g5, g6, ?_, ?_⟩
    · rw [cntN_s (q := fun c => decide (σ 66 0 c = nI x ∧ σ 77 0 c = 1)) (fun c hc => by rw [c66 c hc])]
      simpa [f77] using g7
    · rw [cntN_s (q := fun c => decide (σ 66 0 c = nI x ∧ σ 77 0 c = 2)) (fun c hc => by rw [c66 c hc])]
      simpa [f77] using g8
  · rw [K 1 (by decide) (by decide) (by decide) (by decide)]
    exact ⟨h7.1, by rw [← h7.2]; simp [sopn, mop, xop1, xop, u3]⟩
  · intro f hf
    obtain ⟨g1, g2⟩ := h8 f hf
    have k84 := K 84 (by decide) (by decide) (by decide) (by decide)
    have k89 := K 89 (by decide) (by decide) (by decide) (by decide)
    refine ⟨?_, ?_⟩
    · unfold Rframe at g1 ⊢
      rw [K 14 (by decide) (by decide) (by decide) (by decide), K 15 (by decide) (by decide) (by decide) (by decide), K 16 (by decide) (by decide) (by decide) (by decide), K 17 (by decide) (by decide) (by decide) (by decide), K 18 (by decide) (by decide) (by decide) (by decide), K 19 (by decide) (by decide) (by decide) (by decide), K 20 (by decide) (by decide) (by decide) (by decide), k84, K 85 (by decide) (by decide) (by decide) (by decide), K 86 (by decide) (by decide) (by decide) (by decide), K 87 (by decide) (by decide) (by decide) (by decide), K 88 (by decide) (by decide) (by decide) (by decide), k89, K 90 (by decide) (by decide) (by decide) (by decide)]
      exact g1
    · unfold Oframe at g2 ⊢
      rw [k84, k89, K 90 (by decide) (by decide) (by decide) (by decide)]
      rcases g2 with g2 | ⟨kd, c, c1, c2, c3, c4, c5⟩
      · exact Or.inl g2
      · exact Or.inr ⟨kd, c, c1, c2, by omega, c4, c5⟩
  · rw [K 1 (by decide) (by decide) (by decide) (by decide), K 88 (by decide) (by decide) (by decide) (by decide)]
    exact h9
  · rw [K 1 (by decide) (by decide) (by decide) (by decide), K 88 (by decide) (by decide) (by decide) (by decide)]
    exact h10
  · intro f c z1 z2 z3 z4 z5
    rw [K 84 (by decide) (by decide) (by decide) (by decide)] at z3
    rw [K 89 (by decide) (by decide) (by decide) (by decide)] at z4
    rw [K 90 (by decide) (by decide) (by decide) (by decide), K 72 (by decide) (by decide) (by decide) (by decide)]
    by_cases hcn : c = n
    · subst hcn
      exact absurd z4 (hno f z2)
    · exact h11 f c z1 z2 z3 z4 (by omega)
  · rw [K 2 (by decide) (by decide) (by decide) (by decide), K 21 (by decide) (by decide) (by decide) (by decide), K 22 (by decide) (by decide) (by decide) (by decide), K 23 (by decide) (by decide) (by decide) (by decide), K 91 (by decide) (by decide) (by decide) (by decide), K 92 (by decide) (by decide) (by decide) (by decide), K 93 (by decide) (by decide) (by decide) (by decide)]
    exact ⟨h12.1, by rw [← h12.2.1]; simp [sopn, mop, xop1, xop, u3], h12.2.2⟩
theorem sumN_cg {f g : Nat → Nat} : ∀ {n : Nat}, (∀ c, c < n → f c = g c) → sumN f n = sumN g n
  | 0, _ => rfl
  | n + 1, h => by
    show sumN f n + f n = sumN g n + g n
    rw [sumN_cg (fun c hc => h c (by omega)), h n (by omega)]
set_option maxHeartbeats 2000000 in
theorem Rnet.opn {T n m lo k : Nat} {a b s w h p : Int32} (hN : Rnet σ T n m lo k) (hn : n < 30) (ha : ∃ x y, x < 6 ∧ y < 6 ∧ x ≠ y ∧ a = nI x ∧ b = nI y) (hs : ∃ x, x < 3 ∧ s = nI x) (hw : ∃ x, 1 ≤ x ∧ x ≤ 9 ∧ w = nI x) (hp : ∃ x, x ≤ 5 ∧ p = nI x) : Rnet (ssnd (sopn σ n a b s w h p) m n 1 a b 0 0) T (n + 1) (m + 1) lo k := by
  obtain ⟨h0, P, S, Rp, Kc, g1, g2, g3, g4, g5, g6, g7, g8⟩ := hN.split
  have hF := h0.2.2.2.1 n (Nat.le_refl n) hn
  have f72 := hF.2.2.2.2.2.2.2.2.2.2.1
  have f77 := hF.2.2.2.2.2.2.2.2.2.2.2.2.1
  have h8 := h0.2.2.2.2.2.2.2.1
  have hlo := h0.2.2.2.2.2.2.2.2.2.1.2.1
  have hno : ∀ f, f < m → ¬ σ 89 0 f = nI n := by
    intro f hf e
    rcases (h8 f hf).2 with ⟨-, z⟩ | ⟨kd, c, -, -, hc, -, z, -⟩
    · rw [z] at e
      exact n9_4 (q := n) (by omega) e.symm
    · rw [z] at e
      have := nI_inj' (by omega) (by omega) e
      omega
  have s72 : sopn σ n a b s w h p 72 = σ 72 := sopn_k (by decide) (by decide) (by decide) (by decide)
  have f81 := hF.2.2.2.2.2.2.2.2.2.2.2.2.2.1
  have s81 : sopn σ n a b s w h p 81 = σ 81 := sopn_k (by decide) (by decide) (by decide) (by decide)
  have s77 : sopn σ n a b s w h p 77 = σ 77 := sopn_k (by decide) (by decide) (by decide) (by decide)
  refine Rnet.join ((h0.opn hn ha hs hw hp).snd (by decide) (by omega) (fun z => absurd rfl z) (fun _ => by rw [s72, f72]) (fun z => absurd z (by decide)) (fun z => absurd z (by decide))) ?_
  have e72 : ssnd (sopn σ n a b s w h p) m n 1 a b 0 0 72 = σ 72 := by rw [ssnd_k (by decide) (by decide) (by decide) rfl, s72]
  have e77 : ssnd (sopn σ n a b s w h p) m n 1 a b 0 0 77 = σ 77 := by rw [ssnd_k (by decide) (by decide) (by decide) rfl, s77]
  have e81 : ssnd (sopn σ n a b s w h p) m n 1 a b 0 0 81 = σ 81 := by rw [ssnd_k (by decide) (by decide) (by decide) rfl, s81]
  have e71 : ∀ c, c < n → ssnd (sopn σ n a b s w h p) m n 1 a b 0 0 71 0 c = σ 71 0 c := fun c hc => by
    rw [ssnd_k (by decide) (by decide) (by decide) rfl, sopn_c (by decide) (by decide) (by decide) (by omega)]
  have v84 : ssnd (sopn σ n a b s w h p) m n 1 a b 0 0 84 0 m = 1 := by simp [ssnd, msend, xsend, xadd, u3]; rfl
  have v89 : ssnd (sopn σ n a b s w h p) m n 1 a b 0 0 89 0 m = nI n := by simp [ssnd, msend, xsend, xadd, u3]
  have hA : ∀ c, c < 30 → asksU (ssnd (sopn σ n a b s w h p) m n 1 a b 0 0) lo (m + 1) c = asksU σ lo m c + (if c = n then 1 else 0) := by
    intro c hc
    show cntN _ m + _ = _
    have e1 : cntN (fun f => decide (lo ≤ f ∧ ssnd (sopn σ n a b s w h p) m n 1 a b 0 0 84 0 f = 1 ∧ ssnd (sopn σ n a b s w h p) m n 1 a b 0 0 89 0 f = nI c)) m = asksU σ lo m c := by
      refine cntN_cg (fun f hf => ?_)
      rw [ssnd_f (q := 84) rfl (by omega), ssnd_f (q := 89) rfl (by omega), sopn_k (q := 84) (by decide) (by decide) (by decide) (by decide), sopn_k (q := 89) (by decide) (by decide) (by decide) (by decide)]
    rw [e1]
    congr 1
    by_cases hcn : c = n
    · subst hcn
      simp [v84, v89, hlo]
    · have e2 : ¬ nI n = nI c := fun z => hcn (nI_inj' (by omega) (by omega) z).symm
      simp [v89, e2, hcn]
  have hA0 : asksU σ lo m n = 0 := by
    have e : asksU σ lo m n = cntN (fun _ => false) m := cntN_cg (fun f hf => by simp [hno f hf])
    rw [e]
    have z : ∀ j, cntN (fun _ => false) j = 0 := by
      intro j
      induction j with
      | zero => rfl
      | succ j ih => show cntN _ j + _ = 0; rw [ih]; rfl
    exact z m
  refine ⟨P, S, fun c => if c = n then 0 else Rp c, fun c => if c = n then 0 else Kc c, ?_, ?_, g3, ?_, ?_, g6, ?_, ?_⟩
  · rw [← g1]; simp [ssnd, sopn, mop, xop1, xop, msend, xsend, xadd, u3]
  · rw [← g2]; simp [ssnd, sopn, mop, xop1, xop, msend, xsend, xadd, u3]
  · rw [← g4]; simp [ssnd, sopn, mop, xop1, xop, msend, xsend, xadd, u3]
  · rw [← g5]; simp [ssnd, sopn, mop, xop1, xop, msend, xsend, xadd, u3]
  · rw [e72]
    show m + 1 = P + S + (sumN _ n + _)
    rw [sumN_cg (g := fun c => (σ 72 0 c).toNatClampNeg + 1 + Rp c + Kc c) (fun c hc => by simp [show c ≠ n by omega])]
    have e : ((0 : Int32)).toNatClampNeg = 0 := rfl
    simp only [if_pos, f72, e]
    omega
  · intro c hc
    rw [hA c (by omega), e72, e77, e81]
    by_cases hcn : c = n
    · subst hcn
      rw [hA0, f72, f77, f81]
      simp
    · have hc2 : c < n := by omega
      rw [e71 c hc2]
      simpa [hcn] using g8 c hc2
theorem x_call_full {a b s w h p : Int32} (hb : ((0 ≤ a ∧ a < 6) ∧ (0 ≤ b ∧ b < 6) ∧ a ≠ b) ∧ (0 ≤ s ∧ s < 3) ∧ (1 ≤ w ∧ w ≤ 9) ∧ (1 ≤ h ∧ h ≤ 99) ∧ (0 ≤ p ∧ p ≤ 5)) (hn : σ 3 0 5 = nI 30) : am_D l 118 [aR 11 0, aI a, aI b, aI s, aI w, aI h, aI p] σ τ (rX t) cX lX (some (aI (-2))) σ τ (rX t) := by
  obtain ⟨b1, b2, b3, b4, b5⟩ := hb
  refine am_D_of am_o118 am_l118 rfl ?_
  refine am_vc_ok am_k118 [] 100 ?_
  refine am_vS am_k118 am_h118 rfl rfl rfl rfl (x_isPair) ?_
  refine am_vc_ok am_k118 [] 100 ?_
  refine And.intro (fun g => absurd b1 (bI_0.mp g)) (fun _ => ?_)
  refine am_vS am_k118 am_h118 rfl rfl rfl rfl (x_within) ?_
  refine am_vc_ok am_k118 [] 100 ?_
  refine And.intro (fun g => absurd b2 (bI_0.mp g)) (fun _ => ?_)
  refine And.intro (fun g => absurd b3.1 (Int32.not_le.mpr g)) (fun _ => ?_)
  refine And.intro (fun _ => ?_) (fun g => absurd b3.2 g)
  refine And.intro (fun g => absurd b4.1 (Int32.not_le.mpr g)) (fun _ => ?_)
  refine And.intro (fun g => absurd b4.2 (Int32.not_le.mpr g)) (fun _ => ?_)
  refine And.intro (fun g => absurd b5.1 (Int32.not_le.mpr g)) (fun _ => ?_)
  refine And.intro (fun _ => ?_) (fun g => absurd b5.2 g)
  refine And.intro (fun g => absurd g (by rw [hn]; decide)) (fun _ => ?_)
  exact am_vI am_k118 am_r118 rfl ⟨rfl, rfl, rfl, rfl, rfl, rfl⟩
theorem x_call_late {n : Nat} {a b s w h p : Int32} (hb : ((0 ≤ a ∧ a < 6) ∧ (0 ≤ b ∧ b < 6) ∧ a ≠ b) ∧ (0 ≤ s ∧ s < 3) ∧ (1 ≤ w ∧ w ≤ 9) ∧ (1 ≤ h ∧ h ≤ 99) ∧ (0 ≤ p ∧ p ≤ 5)) (hn : σ 3 0 5 = nI n) (hn2 : n < 30) (hT : ¬ σ 3 0 4 + h ≤ 9999) : am_D l 118 [aR 11 0, aI a, aI b, aI s, aI w, aI h, aI p] σ τ (rX t) cX lX (some (aI (-4))) σ τ (rX t) := by
  obtain ⟨b1, b2, b3, b4, b5⟩ := hb
  refine am_D_of am_o118 am_l118 rfl ?_
  refine am_vc_ok am_k118 [] 100 ?_
  refine am_vS am_k118 am_h118 rfl rfl rfl rfl (x_isPair) ?_
  refine am_vc_ok am_k118 [] 100 ?_
  refine And.intro (fun g => absurd b1 (bI_0.mp g)) (fun _ => ?_)
  refine am_vS am_k118 am_h118 rfl rfl rfl rfl (x_within) ?_
  refine am_vc_ok am_k118 [] 100 ?_
  refine And.intro (fun g => absurd b2 (bI_0.mp g)) (fun _ => ?_)
  refine And.intro (fun g => absurd b3.1 (Int32.not_le.mpr g)) (fun _ => ?_)
  refine And.intro (fun _ => ?_) (fun g => absurd b3.2 g)
  refine And.intro (fun g => absurd b4.1 (Int32.not_le.mpr g)) (fun _ => ?_)
  refine And.intro (fun g => absurd b4.2 (Int32.not_le.mpr g)) (fun _ => ?_)
  refine And.intro (fun g => absurd b5.1 (Int32.not_le.mpr g)) (fun _ => ?_)
  refine And.intro (fun _ => ?_) (fun g => absurd b5.2 g)
  refine And.intro (fun _ => ?_) (fun g => absurd (by rw [hn]; exact nI_lt (b := 30) hn2 (by decide)) g)
  refine And.intro (fun g => absurd g hT) (fun _ => ?_)
  exact am_vI am_k118 am_r118 rfl ⟨rfl, rfl, rfl, rfl, rfl, rfl⟩
theorem m_call_full {a b s w h p : Int32} (hb : ((0 ≤ a ∧ a ≤ 5) ∧ (0 ≤ b ∧ b ≤ 5) ∧ a ≠ b) ∧ (0 ≤ s ∧ s ≤ 2) ∧ (1 ≤ w ∧ w ≤ 9) ∧ (1 ≤ h ∧ h ≤ 99) ∧ (0 ≤ p ∧ p ≤ 5)) (hn : σ 12 0 34 = nI 30) : am_D l 212 [aR 12 0, aI a, aI b, aI s, aI w, aI h, aI p] σ τ (rX t) cX lX (some (aI (-2))) σ τ (rX t) := by
  obtain ⟨b1, b2, b3, b4, b5⟩ := hb
  refine am_D_of am_o212 am_l212 rfl ?_
  refine am_vc_ok am_k212 [] 100 ?_
  refine am_vS am_k212 am_h212 rfl rfl rfl rfl (m_isSix) ?_
  refine am_vc_ok am_k212 [] 100 ?_
  refine And.intro (fun g => absurd b1.1 (bI_0.mp g)) (fun _ => ?_)
  refine am_vS am_k212 am_h212 rfl rfl rfl rfl (m_isSix) ?_
  refine am_vc_ok am_k212 [] 100 ?_
  refine And.intro (fun g => absurd b1.2.1 (bI_0.mp g)) (fun _ => ?_)
  refine And.intro (fun g => absurd g b1.2.2) (fun _ => ?_)
  refine am_vS am_k212 am_h212 rfl rfl rfl rfl (m_in) ?_
  refine am_vc_ok am_k212 [] 100 ?_
  refine And.intro (fun g => absurd b2 (bI_0.mp g)) (fun _ => ?_)
  refine am_vS am_k212 am_h212 rfl rfl rfl rfl (m_in) ?_
  refine am_vc_ok am_k212 [] 100 ?_
  refine And.intro (fun g => absurd b3 (bI_0.mp g)) (fun _ => ?_)
  refine am_vS am_k212 am_h212 rfl rfl rfl rfl (m_in) ?_
  refine am_vc_ok am_k212 [] 100 ?_
  refine And.intro (fun g => absurd b4 (bI_0.mp g)) (fun _ => ?_)
  refine am_vS am_k212 am_h212 rfl rfl rfl rfl (m_in) ?_
  refine am_vc_ok am_k212 [] 100 ?_
  refine And.intro (fun g => absurd b5 (bI_0.mp g)) (fun _ => ?_)
  refine And.intro (fun _ => ?_) (fun g => absurd hn g)
  exact am_vI am_k212 am_r212 rfl ⟨rfl, rfl, rfl, rfl, rfl, rfl⟩
theorem m_call_late {n : Nat} {a b s w h p : Int32} (hb : ((0 ≤ a ∧ a ≤ 5) ∧ (0 ≤ b ∧ b ≤ 5) ∧ a ≠ b) ∧ (0 ≤ s ∧ s ≤ 2) ∧ (1 ≤ w ∧ w ≤ 9) ∧ (1 ≤ h ∧ h ≤ 99) ∧ (0 ≤ p ∧ p ≤ 5)) (hn : σ 12 0 34 = nI n) (hn2 : n < 30) (hT : ¬ σ 12 0 5 + h ≤ 9999) : am_D l 212 [aR 12 0, aI a, aI b, aI s, aI w, aI h, aI p] σ τ (rX t) cX lX (some (aI (-4))) σ τ (rX t) := by
  obtain ⟨b1, b2, b3, b4, b5⟩ := hb
  refine am_D_of am_o212 am_l212 rfl ?_
  refine am_vc_ok am_k212 [] 100 ?_
  refine am_vS am_k212 am_h212 rfl rfl rfl rfl (m_isSix) ?_
  refine am_vc_ok am_k212 [] 100 ?_
  refine And.intro (fun g => absurd b1.1 (bI_0.mp g)) (fun _ => ?_)
  refine am_vS am_k212 am_h212 rfl rfl rfl rfl (m_isSix) ?_
  refine am_vc_ok am_k212 [] 100 ?_
  refine And.intro (fun g => absurd b1.2.1 (bI_0.mp g)) (fun _ => ?_)
  refine And.intro (fun g => absurd g b1.2.2) (fun _ => ?_)
  refine am_vS am_k212 am_h212 rfl rfl rfl rfl (m_in) ?_
  refine am_vc_ok am_k212 [] 100 ?_
  refine And.intro (fun g => absurd b2 (bI_0.mp g)) (fun _ => ?_)
  refine am_vS am_k212 am_h212 rfl rfl rfl rfl (m_in) ?_
  refine am_vc_ok am_k212 [] 100 ?_
  refine And.intro (fun g => absurd b3 (bI_0.mp g)) (fun _ => ?_)
  refine am_vS am_k212 am_h212 rfl rfl rfl rfl (m_in) ?_
  refine am_vc_ok am_k212 [] 100 ?_
  refine And.intro (fun g => absurd b4 (bI_0.mp g)) (fun _ => ?_)
  refine am_vS am_k212 am_h212 rfl rfl rfl rfl (m_in) ?_
  refine am_vc_ok am_k212 [] 100 ?_
  refine And.intro (fun g => absurd b5 (bI_0.mp g)) (fun _ => ?_)
  refine And.intro (fun g => absurd (hn.symm.trans g) (fun e => absurd (nI_inj' (by omega) (by omega) (show nI n = nI 30 from e)) (by omega))) (fun _ => ?_)
  refine And.intro (fun g => absurd g hT) (fun _ => ?_)
  exact am_vI am_k212 am_r212 rfl ⟨rfl, rfl, rfl, rfl, rfl, rfl⟩
theorem LC_call (h : Rall σ τ) (a b s w hh p : Int32) : LC l 118 212 [aI a, aI b, aI s, aI w, aI hh, aI p] σ τ t := by
  have e6 : ∀ x : Int32, (0 ≤ x ∧ x ≤ 5) ↔ (0 ≤ x ∧ x < 6) := fun x => leN (n := 6) (N := 6) (by decide) (by decide)
  have e3 : ∀ x : Int32, (0 ≤ x ∧ x ≤ 2) ↔ (0 ≤ x ∧ x < 3) := fun x => leN (n := 3) (N := 3) (by decide) (by decide)
  obtain ⟨-, -, -, -, -, -, T, n, m, lo, k, hN⟩ := id h
  have h0 := hN.split.1
  have hm := h0.2.2.2.2.2.2.1
  have hn := h0.2.1
  have hT := h0.1
  by_cases hb : ((0 ≤ a ∧ a < 6) ∧ (0 ≤ b ∧ b < 6) ∧ a ≠ b) ∧ (0 ≤ s ∧ s < 3) ∧ (1 ≤ w ∧ w ≤ 9) ∧ (1 ≤ hh ∧ hh ≤ 99) ∧ (0 ≤ p ∧ p ≤ 5)
  · have hb2 : ((0 ≤ a ∧ a ≤ 5) ∧ (0 ≤ b ∧ b ≤ 5) ∧ a ≠ b) ∧ (0 ≤ s ∧ s ≤ 2) ∧ (1 ≤ w ∧ w ≤ 9) ∧ (1 ≤ hh ∧ hh ≤ 99) ∧ (0 ≤ p ∧ p ≤ 5) := by rw [e6, e6, e3]; exact hb
    by_cases hn3 : n < 30
    · by_cases hT2 : σ 3 0 4 + hh ≤ 9999
      · have ha : ∃ x y, x < 6 ∧ y < 6 ∧ x ≠ y ∧ a = nI x ∧ b = nI y := by
          obtain ⟨⟨z1, z2, z3⟩, -⟩ := hb
          obtain ⟨x, x1, rfl⟩ := ix_lt (n := 6) (by decide) z1
          obtain ⟨y, y1, rfl⟩ := ix_lt (n := 6) (by decide) z2
          exact ⟨x, y, x1, y1, fun z => z3 (by rw [z]), rfl, rfl⟩
        have hs : ∃ x, x < 3 ∧ s = nI x := ix_lt (n := 3) (by decide) hb.2.1
        have hw : ∃ x, 1 ≤ x ∧ x ≤ 9 ∧ w = nI x := by
          obtain ⟨x, x1, rfl⟩ := ix_le (n := 10) (N := 9) (by decide) ⟨Int32.le_trans (by decide) hb.2.2.1.1, hb.2.2.1.2⟩
          exact ⟨x, (nI_leI (a := 1) (by decide) (by omega)).mp hb.2.2.1.1, by omega, rfl⟩
        have hp : ∃ x, x ≤ 5 ∧ p = nI x := by
          obtain ⟨x, x1, rfl⟩ := ix_le (n := 6) (N := 5) (by decide) hb.2.2.2.2
          exact ⟨x, by omega, rfl⟩
        have hN2 := hN.opn (h := hh) hn3 ha hs hw hp
        have hm2 := hN2.m_le
        have x1 : xopen σ n m a b s w hh p 12 0 34 = σ 12 0 34 := by simp [xopen, xsend, xadd, xop, u3]
        have x2 : xopen σ n m a b s w hh p 12 0 5 = σ 12 0 5 := by simp [xopen, xsend, xadd, xop, u3]
        have x3 : xopen σ n m a b s w hh p 12 0 54 = σ 12 0 54 := by simp [xopen, xsend, xadd, xop, u3]
        have hM := m_call (l := l) (σ := xopen σ n m a b s w hh p) (τ := τ) (t := t) (m := m) hb2 (by rw [x1]; exact hn.2.1) hn3 (by rw [x2, hT.2.1, ← hT.1]; exact hT2) (by rw [x3]; exact hm.2) (by omega)
        rw [call_eq] at hM
        refine LC.of (x_call hb hn.1 hn3 hT2 hm.1 (by omega)) hM ?_
        refine h.net (fun q z1 z2 z3 => ?_) (fun c2 hc2 => ?_) (fun j z => ?_) hN2
        · have d : ∀ c, kNet c = true → q ≠ c := fun c hc e => by rw [e, hc] at z1; cases z1
          rw [ssnd_k (d 0 rfl) (d 1 rfl) z3 (kNet_fr z1)]
          refine sopn_k (d 0 rfl) (d 3 rfl) z3 ?_
          have d62 : ¬ (62 ≤ q ∧ q ≤ 93) := by
            rintro ⟨y1, y2⟩
            unfold kNet at z1
            simp only [Bool.or_eq_false_iff, Bool.and_eq_false_iff] at z1
            rcases z1.2 with z | z
            · exact absurd (Nat.ble_eq.mpr y1) (by rw [z]; decide)
            · exact absurd (Nat.ble_eq.mpr y2) (by rw [z]; decide)
          omega
        · have e8 : ssnd (sopn σ n a b s w hh p) m n 1 a b 0 0 8 = σ 8 := by rw [ssnd_k (by decide) (by decide) (by decide) rfl, sopn_k (by decide) (by decide) (by decide) (by decide)]
          rw [e8]
          exact ⟨rfl, rfl⟩
        · have d1 : j ≠ 54 := fun e => by rw [e] at z; cases z
          have d2 : j ≠ 34 := fun e => by rw [e] at z; cases z
          simp [ssnd, sopn, mop, xop1, xop, msend, xsend, xadd, u3, d1, d2]
      · exact LC.of (x_call_late hb hn.1 hn3 hT2) (m_call_late hb2 hn.2.1 hn3 (by rw [hT.2.1, ← hT.1]; exact hT2)) h
    · obtain rfl : n = 30 := by omega
      exact LC.of (x_call_full hb hn.1) (m_call_full hb2 hn.2.1) h
  · refine LC.of (x_call_bad hb) (m_call_bad ?_) h
    rw [e6, e6, e3]
    exact hb
end L20

/-! CASES OF THE LAW: mean -/
section L21
variable {l : Launch} {σ σ2 s : tI} {τ τ2 : tL} {t : Option (Nat × Nat)} {ρ : tR} {cn : tN} {ln : tM}
/-- the sum of ticks of those that are answered -/
def sumA (h e o : Nat → Int32) : Nat → Int64
  | 0 => 0
  | n + 1 => sumA h e o n + (if h n = 3 then (e n - o n).toInt64 else 0)
def ansP (h : Nat → Int32) : Nat → Bool := fun c => decide (h c = 3)
/-- Euclid's steps -/
def gcdF : Nat → Int64 → Int64 → Int64
  | 0, x, _ => x
  | d + 1, x, y => if y = 0 then x else gcdF d y (x - x / y * y)
theorem i64_rm (x y : Int64) : (x - (x / y) * y).toInt = x.toInt.tmod y.toInt := by
  have h1 := Int64.le_toInt x
  have h2 := Int64.toInt_lt x
  have h3 : (x.toInt.tmod y.toInt).natAbs ≤ x.toInt.natAbs := by
    rw [Int.natAbs_tmod]
    exact Nat.mod_le _ _
  rw [Int64.toInt_sub, Int64.toInt_mul, Int64.toInt_div, Int.bmod_mul_bmod, Int.sub_bmod_bmod, Int.mul_comm, ← Int.tmod_def]
  by_cases h4 : 0 ≤ x.toInt
  · exact Int.bmod_eq_of_le (by omega) (by omega)
  · have h5 : 0 ≤ (-x.toInt).tmod y.toInt := Int.tmod_nonneg _ (by omega)
    rw [Int.neg_tmod] at h5
    exact Int.bmod_eq_of_le (by omega) (by omega)
theorem rem_lt {x y : Int64} (h : ¬ y = 0) : (x - x / y * y).toInt.natAbs < y.toInt.natAbs := by
  rw [i64_rm, Int.natAbs_tmod]
  refine Nat.mod_lt _ (Nat.pos_of_ne_zero fun e => h ?_)
  apply Int64.toInt_inj.mp
  rw [Int.natAbs_eq_zero.mp e]
  rfl
theorem gcd_ne : ∀ (d : Nat) {x y : Int64}, ¬ x = 0 → ¬ gcdF d x y = 0
  | 0, x, y, h => h
  | d + 1, x, y, h => by
    unfold gcdF
    by_cases e : y = 0
    · rw [if_pos e]; exact h
    · rw [if_neg e]; exact gcd_ne d e
theorem z64 {y : Int64} (h : y.toInt.natAbs ≤ 0) : y = 0 := by
  have e : y.toInt = 0 := by omega
  apply Int64.toInt_inj.mp
  rw [e]
  rfl
theorem x_gcd_lp {Q : tQ} {a b g : Int64} (K : ∀ k r, am_G l 146 Q 0 0 44 [(8, aI (nI k)), (6, aL 0), (4, aL g), (9, aL r), (0, aL a), (2, aL b)] [] σ τ ρ cn ln) : ∀ (d k : Nat) (x y r : Int64), y.toInt.natAbs ≤ d → k + d < 100 → gcdF d x y = g → am_G l 146 Q 0 0 9 [(8, aI (nI k)), (6, aL y), (4, aL x), (9, aL r), (0, aL a), (2, aL b)] [] σ τ ρ cn ln
  | 0, k, x, y, r, hy, hk, hg => by
    obtain rfl := z64 hy
    obtain rfl : x = g := hg
    refine am_vc_ok am_k146 [9, 44] 100 ?_
    refine And.intro (fun h1 => absurd h1 (nI_ge (b := 100) (by omega) (by decide))) (fun _ => ?_)
    exact And.intro (fun _ => K k r) (fun h1 => absurd (by decide) h1)
  | d + 1, k, x, y, r, hy, hk, hg => by
    by_cases e : y = 0
    · subst e
      have hg : x = g := by unfold gcdF at hg; rw [if_pos rfl] at hg; exact hg
      subst hg
      refine am_vc_ok am_k146 [9, 44] 100 ?_
      refine And.intro (fun h1 => absurd h1 (nI_ge (b := 100) (by omega) (by decide))) (fun _ => ?_)
      exact And.intro (fun _ => K k r) (fun h1 => absurd (by decide) h1)
    · have hg : gcdF d y (x - x / y * y) = g := by unfold gcdF at hg; rw [if_neg e] at hg; exact hg
      have hlt := rem_lt (x := x) e
      have K2 := x_gcd_lp K d (k + 1) y (x - x / y * y) (x - x / y * y) (by omega) (by omega) hg
      refine am_vc_ok am_k146 [9, 44] 100 ?_
      refine And.intro (fun h1 => absurd h1 (nI_ge (b := 100) (by omega) (by decide))) (fun _ => ?_)
      refine And.intro (fun h1 => absurd ((lg_cmp_eq y 0).mp h1) e) (fun _ => ?_)
      refine And.intro (e) ?_
      rw [← nI_1] at K2
      exact K2
theorem x_gcd {a b : Int64} (hb : ¬ b = 0) (hb2 : b.toInt.natAbs ≤ 30) : am_D l 146 [aL a, aL b] σ τ ρ cn ln (some (aL (gcdF 30 b (a - a / b * b)))) σ τ ρ := by
  have hlt := rem_lt (x := a) hb
  have hne : ¬ gcdF 30 b (a - a / b * b) = 0 := gcd_ne 30 hb
  refine am_D_of am_o146 am_l146 rfl ?_
  refine am_vc_ok am_k146 [9] 100 ?_
  refine am_vc_ok am_k146 [9] 100 ?_
  refine And.intro (fun h1 => absurd h1 (by decide)) (fun _ => ?_)
  refine And.intro (fun h1 => absurd ((lg_cmp_eq b 0).mp h1) hb) (fun _ => ?_)
  refine And.intro (hb) ?_
  refine x_gcd_lp (g := gcdF 30 b (a - a / b * b)) (fun k r => ?_) 30 1 b _ _ (by omega) (by omega) rfl
  refine am_vc_ok am_k146 [] 100 ?_
  refine And.intro (fun h1 => absurd ((lg_cmp_eq _ 0).mp h1) hne) (fun _ => ?_)
  exact am_vL am_k146 am_r146 rfl ⟨rfl, rfl, rfl, rfl, rfl, rfl⟩
theorem x_ansC_lp {Q : tQ} {n : Nat} (hn : σ 3 0 5 = nI n) (hn2 : n ≤ 30) (K : am_G l 33 Q 0 0 39 [(2, aI (nI n)), (1, aI (nI (cntN (ansP fun c => σ 0 c 7) n))), (0, aR 3 0)] [] σ τ (rX t) cX lX) : ∀ (d k : Nat), k + d = n → am_G l 33 Q 0 0 4 [(2, aI (nI k)), (1, aI (nI (cntN (ansP fun c => σ 0 c 7) k))), (0, aR 3 0)] [] σ τ (rX t) cX lX
  | 0, k, h => by
    obtain rfl : k = n := by omega
    refine am_vc_ok am_k33 [4, 39] 100 ?_
    exact And.intro (fun _ => K) (fun h1 => absurd (by rw [hn]; exact Int32.le_refl _) h1)
  | d + 1, k, h => by
    have K2 := x_ansC_lp hn hn2 K d (k + 1) (by omega)
    have e2 : cntN (ansP fun c => σ 0 c 7) (k + 1) = cntN (ansP fun c => σ 0 c 7) k + (if ansP (fun c => σ 0 c 7) k = true then 1 else 0) := rfl
    refine am_vc_ok am_k33 [4, 39] 100 ?_
    refine And.intro (fun h1 => absurd h1 (by rw [hn]; exact nI_ge (b := n) (by omega) (by omega))) (fun _ => ?_)
    refine And.intro (vp_in_nI (N := 30) (by omega) (by decide)) ?_
    rw [nI_clamp (n := k) (by omega)]
    refine And.intro (fun e => ?_) (fun e => ?_)
    · have e : σ 0 k 7 = 3 := e
      rw [e2, if_pos (by simp [ansP, e]), ← nI_1 (cntN (ansP fun c => σ 0 c 7) k), ← nI_1 k] at K2
      exact K2
    · have e : ¬ σ 0 k 7 = 3 := e
      have e3 : cntN (ansP fun c => σ 0 c 7) (k + 1) = cntN (ansP fun c => σ 0 c 7) k := by rw [e2, if_neg (by simp [ansP, e]), Nat.add_zero]
      have e4 : nI (cntN (ansP fun c => σ 0 c 7) k) = nI (cntN (ansP fun c => σ 0 c 7) k) + 0 := (Int32.add_zero _).symm
      rw [e3, e4, ← nI_1 k] at K2
      exact K2
theorem x_ansC {n : Nat} (hn : σ 3 0 5 = nI n) (hn2 : n ≤ 30) : am_D l 33 [aR 3 0] σ τ (rX t) cX lX (some (aI (nI (cntN (ansP fun c => σ 0 c 7) n)))) σ τ (rX t) := by
  refine am_D_of am_o33 am_l33 rfl ?_
  refine am_vc_ok am_k33 [4] 100 ?_
  refine x_ansC_lp hn hn2 ?_ n 0 (by omega)
  refine am_vc_ok am_k33 [] 100 ?_
  exact am_vI am_k33 am_r33 rfl ⟨rfl, rfl, rfl, rfl, rfl, rfl⟩
theorem x_ansT_lp {Q : tQ} {n : Nat} (hn : σ 3 0 5 = nI n) (hn2 : n ≤ 30) (K : am_G l 34 Q 0 0 58 [(3, aI (nI n)), (1, aL (sumA (fun c => σ 0 c 7) (fun c => σ 0 c 8) (fun c => σ 0 c 5) n)), (0, aR 3 0)] [] σ τ (rX t) cX lX) : ∀ (d k : Nat), k + d = n → am_G l 34 Q 0 0 4 [(3, aI (nI k)), (1, aL (sumA (fun c => σ 0 c 7) (fun c => σ 0 c 8) (fun c => σ 0 c 5) k)), (0, aR 3 0)] [] σ τ (rX t) cX lX
  | 0, k, h => by
    obtain rfl : k = n := by omega
    refine am_vc_ok am_k34 [4, 58] 100 ?_
    exact And.intro (fun _ => K) (fun h1 => absurd (by rw [hn]; exact Int32.le_refl _) h1)
  | d + 1, k, h => by
    have K2 := x_ansT_lp hn hn2 K d (k + 1) (by omega)
    have e2 : sumA (fun c => σ 0 c 7) (fun c => σ 0 c 8) (fun c => σ 0 c 5) (k + 1) = sumA (fun c => σ 0 c 7) (fun c => σ 0 c 8) (fun c => σ 0 c 5) k + (if σ 0 k 7 = 3 then (σ 0 k 8 - σ 0 k 5).toInt64 else 0) := rfl
    refine am_vc_ok am_k34 [4, 58] 100 ?_
    refine And.intro (fun h1 => absurd h1 (by rw [hn]; exact nI_ge (b := n) (by omega) (by omega))) (fun _ => ?_)
    refine And.intro (vp_in_nI (N := 30) (by omega) (by decide)) ?_
    rw [nI_clamp (n := k) (by omega)]
    refine And.intro (fun e => ?_) (fun e => ?_)
    · have e : σ 0 k 7 = 3 := e
      refine And.intro (vp_in_nI (N := 30) (by omega) (by decide)) ?_
      refine And.intro (vp_in_nI (N := 30) (by omega) (by decide)) ?_
      rw [nI_clamp (n := k) (by omega)]
      rw [e2, if_pos e, ← nI_1 k] at K2
      exact K2
    · have e : ¬ σ 0 k 7 = 3 := e
      rw [e2, if_neg e, ← nI_1 k] at K2
      exact K2
theorem x_ansT {n : Nat} (hn : σ 3 0 5 = nI n) (hn2 : n ≤ 30) : am_D l 34 [aR 3 0] σ τ (rX t) cX lX (some (aL (sumA (fun c => σ 0 c 7) (fun c => σ 0 c 8) (fun c => σ 0 c 5) n))) σ τ (rX t) := by
  refine am_D_of am_o34 am_l34 rfl ?_
  refine am_vc_ok am_k34 [4] 100 ?_
  refine x_ansT_lp hn hn2 ?_ n 0 (by omega)
  refine am_vc_ok am_k34 [] 100 ?_
  exact am_vL am_k34 am_r34 rfl ⟨rfl, rfl, rfl, rfl, rfl, rfl⟩
theorem x_mean0 {n : Nat} (hn : σ 3 0 5 = nI n) (hn2 : n ≤ 30) (h0 : cntN (ansP fun c => σ 0 c 7) n = 0) : am_D l 133 [aR 11 0] σ τ (rX t) cX lX (some (aI (-3))) (xfind 4 σ) τ (rX t) := by
  refine am_D_of am_o133 am_l133 rfl ?_
  refine am_vc_ok am_k133 [] 100 ?_
  refine am_vO am_k133 am_h133 rfl rfl rfl rfl (x_ansC hn hn2) ?_
  refine am_vc_ok am_k133 [] 100 ?_
  rw [h0]
  refine And.intro (fun _ => ?_) (fun g => absurd rfl g)
  refine am_vO am_k133 am_h133 rfl rfl rfl rfl (x_find (w := 4) (by decide)) ?_
  refine am_vc_ok am_k133 [] 100 ?_
  exact am_vI am_k133 am_r133 rfl ⟨rfl, rfl, rfl, rfl, rfl, rfl⟩
abbrev t2s (τ : tL) (k a b : Nat) (v w : Int64) : tL := u3 (u3 τ k 0 a v) k 0 b w
theorem cl64 {c : Nat} (h1 : 1 ≤ c) (h2 : c ≤ 30) : ¬ (nI c).toInt64 = 0 ∧ (nI c).toInt64.toInt.natAbs ≤ 30 := by
  have e : (nI c).toInt64.toInt = c := by rw [Int32.toInt_toInt64, nI_toInt (by omega)]
  refine ⟨fun z => ?_, by omega⟩
  rw [z] at e
  have e2 : (0 : Int64).toInt = 0 := rfl
  omega
theorem x_mean {n c : Nat} (hn : σ 3 0 5 = nI n) (hn2 : n ≤ 30) (hc : cntN (ansP fun c => σ 0 c 7) n = c) (h1 : 1 ≤ c) (h2 : c ≤ 30) {S g : Int64} (hS : sumA (fun c => σ 0 c 7) (fun c => σ 0 c 8) (fun c => σ 0 c 5) n = S) (hg : gcdF 30 (nI c).toInt64 (S - S / (nI c).toInt64 * (nI c).toInt64) = g) : am_D l 133 [aR 11 0] σ τ (rX t) cX lX (some (aI (nI c))) σ (t2s τ 11 12 13 (S / g) ((nI c).toInt64 / g)) (rX t) := by
  obtain ⟨c1, c2⟩ := cl64 h1 h2
  have hne : ¬ g = 0 := by rw [← hg]; exact gcd_ne 30 c1
  refine am_D_of am_o133 am_l133 rfl ?_
  refine am_vc_ok am_k133 [] 100 ?_
  refine am_vO am_k133 am_h133 rfl rfl rfl rfl (x_ansC hn hn2) ?_
  refine am_vc_ok am_k133 [] 100 ?_
  rw [hc]
  refine And.intro (fun z => absurd z (fun z => c1 (by rw [z]; rfl))) (fun _ => ?_)
  refine am_vO am_k133 am_h133 rfl rfl rfl rfl (x_ansT hn hn2) ?_
  refine am_vc_ok am_k133 [] 100 ?_
  rw [hS]
  refine am_vS am_k133 am_h133 rfl rfl rfl rfl (x_gcd c1 c2) ?_
  refine am_vc_ok am_k133 [] 100 ?_
  rw [hg]
  refine And.intro (hne) ?_
  refine And.intro (hne) ?_
  exact am_vI am_k133 am_r133 rfl ⟨rfl, rfl, rfl, rfl, rfl, rfl⟩
theorem m_mean_lp {Q : tQ} {n : Nat} (hn : σ 12 0 34 = nI n) (hn2 : n ≤ 30) (K : am_G l 246 Q 0 0 55 [(4, aI (nI n)), (2, aL (sumA (fun c => σ 71 0 c) (fun c => σ 75 0 c) (fun c => σ 74 0 c) n)), (1, aI (nI (cntN (ansP fun c => σ 71 0 c) n))), (0, aR 12 0)] [] σ τ (rX t) cX lX) : ∀ (d k : Nat), k + d = n → am_G l 246 Q 0 0 7 [(4, aI (nI k)), (2, aL (sumA (fun c => σ 71 0 c) (fun c => σ 75 0 c) (fun c => σ 74 0 c) k)), (1, aI (nI (cntN (ansP fun c => σ 71 0 c) k))), (0, aR 12 0)] [] σ τ (rX t) cX lX
  | 0, k, h => by
    obtain rfl : k = n := by omega
    refine am_vc_ok am_k246 [7, 55] 100 ?_
    exact And.intro (fun _ => K) (fun h1 => absurd (by rw [hn]; exact Int32.le_refl _) h1)
  | d + 1, k, h => by
    have K2 := m_mean_lp hn hn2 K d (k + 1) (by omega)
    have e2 : cntN (ansP fun c => σ 71 0 c) (k + 1) = cntN (ansP fun c => σ 71 0 c) k + (if ansP (fun c => σ 71 0 c) k = true then 1 else 0) := rfl
    have e5 : sumA (fun c => σ 71 0 c) (fun c => σ 75 0 c) (fun c => σ 74 0 c) (k + 1) = sumA (fun c => σ 71 0 c) (fun c => σ 75 0 c) (fun c => σ 74 0 c) k + (if σ 71 0 k = 3 then (σ 75 0 k - σ 74 0 k).toInt64 else 0) := rfl
    refine am_vc_ok am_k246 [7, 55] 100 ?_
    refine And.intro (fun h1 => absurd h1 (by rw [hn]; exact nI_ge (b := n) (by omega) (by omega))) (fun _ => ?_)
    refine And.intro (vp_in_nI (N := 30) (by omega) (by decide)) ?_
    rw [nI_clamp (n := k) (by omega)]
    refine And.intro (fun e => ?_) (fun e => ?_)
    · have e : σ 71 0 k = 3 := e
      refine And.intro (vp_in_nI (N := 30) (by omega) (by decide)) ?_
      refine And.intro (vp_in_nI (N := 30) (by omega) (by decide)) ?_
      rw [nI_clamp (n := k) (by omega)]
      rw [e2, if_pos (by simp [ansP, e]), e5, if_pos e, ← nI_1 (cntN (ansP fun c => σ 71 0 c) k), ← nI_1 k] at K2
      exact K2
    · have e : ¬ σ 71 0 k = 3 := e
      have e3 : cntN (ansP fun c => σ 71 0 c) (k + 1) = cntN (ansP fun c => σ 71 0 c) k := by rw [e2, if_neg (by simp [ansP, e]), Nat.add_zero]
      have e6 : sumA (fun c => σ 71 0 c) (fun c => σ 75 0 c) (fun c => σ 74 0 c) (k + 1) = sumA (fun c => σ 71 0 c) (fun c => σ 75 0 c) (fun c => σ 74 0 c) k := by rw [e5, if_neg e]; exact Int64.add_zero _
      rw [e3, e6, ← nI_1 k] at K2
      exact K2
theorem m_gcd_lp {Q : tQ} {S g : Int64} {c : Int32} (K : ∀ r, am_G l 246 Q 0 0 97 [(6, aL 0), (4, aL g), (8, aL r), (2, aL S), (1, aI c), (0, aR 12 0)] [] σ τ ρ cn ln) : ∀ (d : Nat) (x y r : Int64), y.toInt.natAbs ≤ d → gcdF d x y = g → am_G l 246 Q 0 0 72 [(6, aL y), (4, aL x), (8, aL r), (2, aL S), (1, aI c), (0, aR 12 0)] [] σ τ ρ cn ln
  | 0, x, y, r, hy, hg => by
    obtain rfl := z64 hy
    obtain rfl : x = g := hg
    refine am_vc_ok am_k246 [72, 97] 100 ?_
    exact And.intro (fun _ => K r) (fun h1 => absurd (by decide) h1)
  | d + 1, x, y, r, hy, hg => by
    by_cases e : y = 0
    · subst e
      have hg : x = g := by unfold gcdF at hg; rw [if_pos rfl] at hg; exact hg
      subst hg
      refine am_vc_ok am_k246 [72, 97] 100 ?_
      exact And.intro (fun _ => K r) (fun h1 => absurd (by decide) h1)
    · have hg : gcdF d y (x - x / y * y) = g := by unfold gcdF at hg; rw [if_neg e] at hg; exact hg
      have hlt := rem_lt (x := x) e
      have K2 := m_gcd_lp K d y (x - x / y * y) (x - x / y * y) (by omega) hg
      refine am_vc_ok am_k246 [72, 97] 100 ?_
      refine And.intro (fun h1 => absurd ((lg_cmp_eq y 0).mp h1) e) (fun _ => ?_)
      refine And.intro (e) ?_
      exact K2
theorem m_mean0 {n : Nat} (hn : σ 12 0 34 = nI n) (hn2 : n ≤ 30) (h0 : cntN (ansP fun c => σ 71 0 c) n = 0) : am_D l 246 [aR 12 0] σ τ (rX t) cX lX (some (aI (-3))) (mmeets 4 σ) τ (rX t) := by
  refine am_D_of am_o246 am_l246 rfl ?_
  refine am_vc_ok am_k246 [7] 100 ?_
  refine m_mean_lp hn hn2 ?_ n 0 (by omega)
  refine am_vc_ok am_k246 [72] 100 ?_
  rw [h0]
  refine And.intro (fun _ => ?_) (fun g => absurd rfl g)
  refine am_vO am_k246 am_h246 rfl rfl rfl rfl (m_meets (w := 4) (by decide)) ?_
  refine am_vc_ok am_k246 [72] 100 ?_
  exact am_vI am_k246 am_r246 rfl ⟨rfl, rfl, rfl, rfl, rfl, rfl⟩
theorem m_mean {n c : Nat} (hn : σ 12 0 34 = nI n) (hn2 : n ≤ 30) (hc : cntN (ansP fun c => σ 71 0 c) n = c) (h1 : 1 ≤ c) (h2 : c ≤ 30) {S g : Int64} (hS : sumA (fun c => σ 71 0 c) (fun c => σ 75 0 c) (fun c => σ 74 0 c) n = S) (hg : gcdF 30 (nI c).toInt64 (S - S / (nI c).toInt64 * (nI c).toInt64) = g) : am_D l 246 [aR 12 0] σ τ (rX t) cX lX (some (aI (nI c))) σ (t2s τ 12 3 4 (S / g) ((nI c).toInt64 / g)) (rX t) := by
  obtain ⟨c1, c2⟩ := cl64 h1 h2
  have hne : ¬ g = 0 := by rw [← hg]; exact gcd_ne 30 c1
  have hlt := rem_lt (x := S) c1
  refine am_D_of am_o246 am_l246 rfl ?_
  refine am_vc_ok am_k246 [7] 100 ?_
  refine m_mean_lp hn hn2 ?_ n 0 (by omega)
  rw [hc, hS]
  refine am_vc_ok am_k246 [72] 100 ?_
  refine And.intro (fun z => absurd z (fun z => c1 (by rw [z]; rfl))) (fun _ => ?_)
  refine am_vc_ok am_k246 [72] 100 ?_
  refine And.intro (fun h1 => absurd ((lg_cmp_eq _ 0).mp h1) c1) (fun _ => ?_)
  refine And.intro (c1) ?_
  refine m_gcd_lp (g := g) (fun r => ?_) 30 _ _ _ (by omega) hg
  refine am_vc_ok am_k246 [] 100 ?_
  refine And.intro (hne) ?_
  refine And.intro (hne) ?_
  exact am_vI am_k246 am_r246 rfl ⟨rfl, rfl, rfl, rfl, rfl, rfl⟩
theorem sumA_cg {h e o h2 e2 o2 : Nat → Int32} : ∀ {n : Nat}, (∀ c, c < n → h c = h2 c ∧ e c = e2 c ∧ o c = o2 c) → sumA h e o n = sumA h2 e2 o2 n
  | 0, _ => rfl
  | n + 1, H => by
    unfold sumA
    obtain ⟨a1, a2, a3⟩ := H n (by omega)
    rw [sumA_cg (fun c hc => H c (by omega)), a1, a2, a3]
theorem LC_mean (h : Rall σ τ) : LC l 133 246 [] σ τ t := by
  obtain ⟨r1, r2, r3, r4, r5, ⟨m1, m2, m3, m4, m5⟩, T, n, m, lo, k, hN⟩ := id h
  have h0 := hN.split.1
  have hn := h0.2.1
  have hC : ∀ c, c < n → σ 0 c 7 = σ 71 0 c ∧ σ 0 c 8 = σ 75 0 c ∧ σ 0 c 5 = σ 74 0 c := by
    intro c hc
    have q := (h0.2.2.1 c hc).1
    exact ⟨q.2.2.2.2.2.2.2.1, q.2.2.2.2.2.2.2.2.1, q.2.2.2.2.2.1⟩
  have e1 : cntN (ansP fun c => σ 0 c 7) n = cntN (ansP fun c => σ 71 0 c) n := cntN_cg (fun c hc => by simp [ansP, (hC c hc).1])
  have e2 : sumA (fun c => σ 0 c 7) (fun c => σ 0 c 8) (fun c => σ 0 c 5) n = sumA (fun c => σ 71 0 c) (fun c => σ 75 0 c) (fun c => σ 74 0 c) n := sumA_cg hC
  by_cases hz : cntN (ansP fun c => σ 71 0 c) n = 0
  · exact LC.of (x_mean0 hn.1 hn.2.2 (e1.trans hz)) (m_mean0 (σ := xfind 4 σ) hn.2.1 hn.2.2 hz) (h.find (by decide))
  · have hle : cntN (ansP fun c => σ 71 0 c) n ≤ n := cntN_le
    have hn30 := hn.2.2
    refine LC.of (x_mean hn.1 hn.2.2 e1 (by omega) (by omega) e2 rfl) (m_mean hn.2.1 hn.2.2 rfl (by omega) (by omega) rfl rfl) ?_
    refine ⟨r1, r2, r3, r4, r5, ⟨trivial, trivial, m3, ?_, ?_⟩, T, n, m, lo, k, hN⟩
    · simp [u3]
    · simp [u3]
end L21

/-! CASES OF THE LAW: handOn -/
section L22
variable {l : Launch} {σ σ2 s : tI} {τ τ2 : tL} {t : Option (Nat × Nat)}
abbrev xapp (σ : tI) (r q n1 n2 : Nat) : tI := u3 (cp3 σ 30 r 30 q 0 n1 n2) 6 r 1 (nI (n1 + n2))
theorem x_addAll {r q n1 n2 : Nat} (h1 : σ 6 r 1 = nI n1) (h2 : σ 6 q 1 = nI n2) (hr : lX 30 r = 60) (hq : n2 ≤ lX 30 q) (hs : n1 + n2 ≤ 60) : am_D l 60 [aR 6 r, aR 6 q] σ τ (rX t) cX lX none (xapp σ r q n1 n2) τ (rX t) := by
  have e1 : nI 60 - nI n1 = nI (60 - n1) := nI_sub' (by omega)
  have e2 : ¬ nI (60 - n1) < nI n2 := Int32.not_lt.mpr (nI_le (by omega) (by omega))
  refine am_D_of am_o60 am_l60 rfl ?_
  refine am_vc_ok am_k60 [] 100 ?_
  refine am_vMin am_k60 am_h60 rfl rfl ?_
  rw [h1, h2, hr, e1, if_neg e2]
  refine am_vc_ok am_k60 [] 100 ?_
  refine am_vA am_k60 am_h60 rfl rfl rfl rfl (by decide) (by rw [h1]; exact nI_pos (by omega)) (nI_pos (by omega)) (by rw [nI_clamp (n := n2) (by omega)]; show 0 + n2 ≤ _; omega) (by rw [h1, nI_clamp (n := n2) (by omega), nI_clamp (n := n1) (by omega), hr]; exact hs) ?_
  rw [h1, nI_clamp (n := n2) (by omega), nI_clamp (n := n1) (by omega)]
  refine am_vc_ok am_k60 [] 100 ?_
  refine am_vV am_k60 am_r60 rfl ⟨rfl, ?_, rfl, rfl, rfl, rfl⟩
  have e3 : cp3 σ 30 r 30 q 0 n1 n2 6 r 1 = nI n1 := by simp [cp3, h1]
  show u3 (cp3 σ 30 r 30 q (Int32.toNatClampNeg 0) n1 n2) 6 r 1 (cp3 σ 30 r 30 q (Int32.toNatClampNeg 0) n1 n2 6 r 1 + nI n2) = _
  rw [show Int32.toNatClampNeg 0 = 0 from rfl, e3, nI_add]
theorem x_handOn_far {j n1 n2 : Nat} (hj : j < 6) (h0 : ¬ σ 6 (10 + j) 0 = 0) (h1 : σ 6 (10 + j) 1 = nI n1) (h2 : σ 6 2 1 = nI n2) (hn1 : n1 ≤ 60) (hn2 : n2 ≤ 60) (hs : 60 < n1 + n2) : am_D l 108 [aR 11 0, aI (nI j)] σ τ (rX t) cX lX (some (aI (-3))) (xfind 2 σ) τ (rX t) := by
  refine am_D_of am_o108 am_l108 rfl ?_
  refine am_vc_ok am_k108 [] 100 ?_
  refine am_vS am_k108 am_h108 rfl rfl rfl rfl (x_within) ?_
  refine am_vc_ok am_k108 [] 100 ?_
  refine And.intro (fun g => absurd (in6 hj) (bI_0.mp g)) (fun _ => ?_)
  refine And.intro (vp_in_nI (N := 6) hj (by decide)) ?_
  rw [nI_clamp (n := j) (by omega)]
  refine And.intro (fun g => absurd g h0) (fun _ => ?_)
  refine And.intro (vp_in_nI (N := 6) hj (by decide)) ?_
  rw [nI_clamp (n := j) (by omega)]
  refine And.intro (fun g => absurd (show σ 6 (10 + j) 1 + σ 6 2 1 ≤ 60 from g) (by rw [h1, h2, nI_add]; exact nI_ge (b := n1 + n2) (a := 60) (by omega) (by omega))) (fun _ => ?_)
  refine am_vO am_k108 am_h108 rfl rfl rfl rfl (x_find (w := 2) (by decide)) ?_
  refine am_vc_ok am_k108 [] 100 ?_
  exact am_vI am_k108 am_r108 rfl ⟨rfl, rfl, rfl, rfl, rfl, rfl⟩
theorem x_handOn {j n1 n2 : Nat} (hj : j < 6) (h0 : ¬ σ 6 (10 + j) 0 = 0) (h1 : σ 6 (10 + j) 1 = nI n1) (h2 : σ 6 2 1 = nI n2) (hs : n1 + n2 ≤ 60) : am_D l 108 [aR 11 0, aI (nI j)] σ τ (rX t) cX lX (some (aI (nI (n1 + n2)))) (xapp σ (10 + j) 2 n1 n2) τ (rX t) := by
  have hr : lX 30 (10 + j) = 60 := lX_row (by omega)
  refine am_D_of am_o108 am_l108 rfl ?_
  refine am_vc_ok am_k108 [] 100 ?_
  refine am_vS am_k108 am_h108 rfl rfl rfl rfl (x_within) ?_
  refine am_vc_ok am_k108 [] 100 ?_
  refine And.intro (fun g => absurd (in6 hj) (bI_0.mp g)) (fun _ => ?_)
  refine And.intro (vp_in_nI (N := 6) hj (by decide)) ?_
  rw [nI_clamp (n := j) (by omega)]
  refine And.intro (fun g => absurd g h0) (fun _ => ?_)
  refine And.intro (vp_in_nI (N := 6) hj (by decide)) ?_
  rw [nI_clamp (n := j) (by omega)]
  refine And.intro (fun _ => ?_) (fun g => absurd (show σ 6 (10 + j) 1 + σ 6 2 1 ≤ 60 by rw [h1, h2, nI_add]; exact nI_le (b := 60) hs (by decide)) g)
  refine And.intro (vp_in_nI (N := 6) hj (by decide)) ?_
  rw [nI_clamp (n := j) (by omega)]
  refine am_vO am_k108 am_h108 rfl rfl rfl rfl (x_addAll h1 h2 hr (by rw [lX_row (r := 2) (by omega)]; omega) hs) ?_
  refine am_vc_ok am_k108 [] 100 ?_
  refine And.intro (vp_in_nI (N := 6) hj (by decide)) ?_
  rw [nI_clamp (n := j) (by omega)]
  refine am_vI am_k108 am_r108 rfl ⟨?_, rfl, rfl, rfl, rfl, rfl⟩
  simp [xapp, u3]
theorem m_handOn_far {j n1 n2 : Nat} (hj : j < 6) (h1 : σ 47 0 j = nI n1) (h2 : σ 12 0 24 = nI n2) (hn1 : n1 ≤ 60) (hn2 : n2 ≤ 60) (hs : 60 < n1 + n2) : am_D l 193 [aR 12 0, aI (nI j)] σ τ (rX t) cX lX (some (aI (-3))) (mmeets 2 σ) τ (rX t) := by
  have h0 : ¬ σ 47 0 j < 0 := by rw [h1]; exact nI_pos (by omega)
  refine am_D_of am_o193 am_l193 rfl ?_
  refine am_vc_ok am_k193 [36] 100 ?_
  refine am_vO am_k193 am_h193 rfl rfl rfl rfl (m_askedText hj) ?_
  refine am_vc_ok am_k193 [36] 100 ?_
  simp only [if_neg h0]
  refine And.intro (fun _ => ?_) (fun g => absurd (by decide) g)
  refine And.intro (vp_in_nI (N := 6) hj (by decide)) ?_
  rw [nI_clamp (n := j) (by omega)]
  refine And.intro (fun g => absurd (show σ 47 0 j + σ 12 0 24 ≤ 60 from g) (by rw [h1, h2, nI_add]; exact nI_ge (b := n1 + n2) (a := 60) (by omega) (by omega))) (fun _ => ?_)
  refine am_vO am_k193 am_h193 rfl rfl rfl rfl (m_meets (w := 2) (by decide)) ?_
  refine am_vc_ok am_k193 [36] 100 ?_
  exact am_vI am_k193 am_r193 rfl ⟨rfl, rfl, rfl, rfl, rfl, rfl⟩
abbrev mapp (σ : tI) (j n1 c : Nat) : tI := u3 (cp3 σ 48 0 56 0 0 (60 * j + n1) c) 47 0 j (nI (n1 + c))
theorem mapp_s {j n1 c : Nat} : u3 (u3 (mapp σ j n1 c) 48 0 (60 * j + (n1 + c)) (σ 56 0 c)) 47 0 j (nI (n1 + c) + 1) = mapp σ j n1 (c + 1) := by
  rw [show nI (n1 + c) + 1 = nI (n1 + (c + 1)) from nI_1 (n1 + c)]
  unfold mapp
  rw [u3_comm (show 47 ≠ 48 by decide), u3_twice]
  congr 1
  have e := cp3_1 (σ := σ) (k1 := 48) (o1 := 0) (k0 := 56) (o0 := 0) (sp := 0) (dp := 60 * j + n1) (n := c)
  rw [Nat.zero_add] at e
  rw [← e, Nat.add_assoc]
theorem m_hand_lp {Q : tQ} {j n1 n2 : Nat} {b : Int32} (hj : j < 6) (h2 : σ 12 0 24 = nI n2) (hs : n1 + n2 ≤ 60) (K : am_G l 193 Q 0 0 82 [(3, aI (nI n2)), (2, aI b), (0, aR 12 0), (1, aI (nI j))] [] (mapp σ j n1 n2) τ (rX t) cX lX) : ∀ (d c : Nat), c + d = n2 → am_G l 193 Q 0 0 36 [(3, aI (nI c)), (2, aI b), (0, aR 12 0), (1, aI (nI j))] [] (mapp σ j n1 c) τ (rX t) cX lX
  | 0, c, h => by
    obtain rfl : c = n2 := by omega
    have e1 : mapp σ j n1 c 12 0 24 = nI c := by simp [mapp, cp3, u3, h2]
    refine am_vc_ok am_k193 [36, 82] 100 ?_
    exact And.intro (fun _ => K) (fun g => absurd (by rw [e1]; exact Int32.le_refl _) g)
  | d + 1, c, h => by
    have K2 := m_hand_lp hj h2 hs K d (c + 1) (by omega)
    have e1 : mapp σ j n1 c 12 0 24 = nI n2 := by simp [mapp, cp3, u3, h2]
    have e2 : mapp σ j n1 c 47 0 j = nI (n1 + c) := by simp [mapp, u3]
    have e3 : mapp σ j n1 c 56 0 c = σ 56 0 c := by simp [mapp, cp3, u3]
    have e5 : u3 (mapp σ j n1 c) 48 0 (60 * j + (n1 + c)) (σ 56 0 c) 47 0 j = nI (n1 + c) := by rw [u3_k _ _ (by decide), e2]
    refine am_vc_ok am_k193 [36, 82] 100 ?_
    refine And.intro (fun g => absurd g (by rw [e1]; exact nI_ge (b := n2) (by omega) (by omega))) (fun _ => ?_)
    refine And.intro (vp_in_nI (N := 6) hj (by decide)) ?_
    rw [nI_clamp (n := j) (by omega), e2]
    refine And.intro (vp_in_nI (N := 60) (by omega) (by decide)) ?_
    rw [nI_clamp (n := c) (by omega), e3]
    refine And.intro (by rw [n60]; exact vp_in_nI (N := 360) (by omega) (by decide)) ?_
    rw [n60, nI_clamp (n := 60 * j + (n1 + c)) (by omega)]
    refine And.intro (vp_in_nI (N := 6) hj (by decide)) ?_
    rw [nI_clamp (n := j) (by omega), e5]
    refine And.intro (vp_in_nI (N := 6) hj (by decide)) ?_
    rw [nI_clamp (n := j) (by omega)]
    refine am_Gs mapp_s ?_
    rw [← nI_1] at K2
    exact K2
theorem m_handOn {j n1 n2 : Nat} (hj : j < 6) (h1 : σ 47 0 j = nI n1) (h2 : σ 12 0 24 = nI n2) (hs : n1 + n2 ≤ 60) : am_D l 193 [aR 12 0, aI (nI j)] σ τ (rX t) cX lX (some (aI (nI (n1 + n2)))) (mapp σ j n1 n2) τ (rX t) := by
  have h0 : ¬ σ 47 0 j < 0 := by rw [h1]; exact nI_pos (by omega)
  have hs0 : σ = mapp σ j n1 0 := by
    unfold mapp
    rw [cp3_0, u3_self (by rw [h1]; rfl)]
  refine am_D_of am_o193 am_l193 rfl ?_
  refine am_vc_ok am_k193 [36, 82] 100 ?_
  refine am_vO am_k193 am_h193 rfl rfl rfl rfl (m_askedText hj) ?_
  refine am_vc_ok am_k193 [36, 82] 100 ?_
  simp only [if_neg h0]
  refine And.intro (fun _ => ?_) (fun g => absurd (by decide) g)
  refine And.intro (vp_in_nI (N := 6) hj (by decide)) ?_
  rw [nI_clamp (n := j) (by omega)]
  refine And.intro (fun _ => ?_) (fun g => absurd (show σ 47 0 j + σ 12 0 24 ≤ 60 by rw [h1, h2, nI_add]; exact nI_le (b := 60) hs (by decide)) g)
  refine am_Gs hs0 ?_
  refine m_hand_lp hj h2 hs ?_ n2 0 (by omega)
  refine am_vc_ok am_k193 [] 100 ?_
  refine And.intro (vp_in_nI (N := 6) hj (by decide)) ?_
  rw [nI_clamp (n := j) (by omega)]
  refine am_vI am_k193 am_r193 rfl ⟨?_, rfl, rfl, rfl, rfl, rfl⟩
  simp [mapp, u3]
theorem xapp_k {r q n1 n2 k : Nat} (h1 : k ≠ 6) (h2 : k ≠ 30) : xapp σ r q n1 n2 k = σ k := by
  funext a b
  simp [xapp, cp3, u3, h1, h2]
theorem LC_handOn (h : Rall σ τ) (r : Int32) : LC l 108 193 [aI r] σ τ t := by
  by_cases hr : 0 ≤ r ∧ r < 6
  · obtain ⟨j, hj, rfl⟩ := ix_lt (n := 6) (by decide) hr
    obtain ⟨⟨n1, b1, c1, d1⟩, hB⟩ := h.2.1 j hj
    obtain ⟨e1, e2, e3, n2, b2, c2, d2, g2⟩ := h.2.2.2.1
    rcases d1 with ⟨d1, z1⟩ | ⟨d1, z1, g1⟩
    · exact LC.of (x_handOn_none hj d1) (m_handOn_none hj (by show σ 47 0 j < 0; rw [z1]; decide)) (h.find (by decide))
    have n01 : ¬ σ 6 (10 + j) 0 = 0 := by rw [d1]; decide
    by_cases hs : n1 + n2 ≤ 60
    · have x1 : xapp σ (10 + j) 2 n1 n2 47 0 j = nI n1 := by rw [xapp_k (by decide) (by decide)]; exact z1
      have x2 : xapp σ (10 + j) 2 n1 n2 12 0 24 = nI n2 := by rw [xapp_k (by decide) (by decide)]; exact d2
      refine LC.of (x_handOn hj n01 c1 c2 hs) (m_handOn hj x1 x2 hs) ?_
      have v6 : ∀ a b, mapp (xapp σ (10 + j) 2 n1 n2) j n1 n2 6 a b = if a = 10 + j ∧ b = 1 then nI (n1 + n2) else σ 6 a b := by
        intro a b
        by_cases z1 : a = 10 + j
        · by_cases z2 : b = 1
          · simp [mapp, xapp, cp3, u3, z1, z2]
          · simp [mapp, xapp, cp3, u3, z1, z2]
        · simp [mapp, xapp, cp3, u3, z1]
      have v30 : ∀ a b, mapp (xapp σ (10 + j) 2 n1 n2) j n1 n2 30 a b = if a = 10 + j ∧ (n1 ≤ b ∧ b < n1 + n2) then σ 30 2 (b - n1) else σ 30 a b := by
        intro a b
        by_cases z1 : a = 10 + j
        · by_cases z2 : n1 ≤ b ∧ b < n1 + n2
          · simp [mapp, xapp, cp3, u3, z1, z2]
          · simp [mapp, xapp, cp3, u3, z1, z2]
        · simp [mapp, xapp, cp3, u3, z1]
      have v47 : ∀ b, mapp (xapp σ (10 + j) 2 n1 n2) j n1 n2 47 0 b = if b = j then nI (n1 + n2) else σ 47 0 b := by
        intro b
        by_cases z1 : b = j
        · simp [mapp, xapp, cp3, u3, z1]
        · simp [mapp, xapp, cp3, u3, z1]
      have v48 : ∀ b, mapp (xapp σ (10 + j) 2 n1 n2) j n1 n2 48 0 b = if 60 * j + n1 ≤ b ∧ b < 60 * j + n1 + n2 then σ 56 0 (b - (60 * j + n1)) else σ 48 0 b := by
        intro b
        by_cases z1 : 60 * j + n1 ≤ b ∧ b < 60 * j + n1 + n2
        · simp [mapp, xapp, cp3, u3, z1]
        · simp [mapp, xapp, cp3, u3, z1]
      refine h.mk (fun q _ _ _ _ _ _ z7 z8 z9 z0 => ?_) (fun q hq => ?_) (fun q hq => ?_) (fun q _ _ => ?_) ?_ (fun r hr => ?_) ?_
      · funext a b
        simp [mapp, xapp, cp3, u3, z7, z8, z9, z0]
      · funext b; rw [v6, if_neg (by omega)]
      · funext b; rw [v30, if_neg (by omega)]
      · simp [mapp, xapp, cp3, u3]
      · refine h.1.fr (fun r hr => ?_) (fun r hr => ?_) ?_ ?_
        · funext b; rw [v6, if_neg (by omega)]
        · funext b; rw [v30, if_neg (by omega)]
        · funext a b; simp [mapp, xapp, cp3, u3]
        · funext a b; simp [mapp, xapp, cp3, u3]
      · by_cases e : r = j
        · subst e
          refine ⟨⟨n1 + n2, hs, ?_, Or.inr ⟨?_, ?_, fun q hq => ?_⟩⟩, fun q hq _ hlt => ?_⟩
          · rw [v6, if_pos ⟨rfl, rfl⟩]
          · rw [v6, if_neg (by omega)]; exact d1
          · rw [v47, if_pos rfl]
          · show mapp (xapp σ (10 + r) 2 n1 n2) r n1 n2 30 (10 + r) q = mapp (xapp σ (10 + r) 2 n1 n2) r n1 n2 48 0 (60 * r + q)
            rw [v30, v48]
            by_cases z : n1 ≤ q
            · rw [if_pos ⟨rfl, by omega⟩, if_pos (by omega), (g2 (q - n1) (by omega)).1]
              congr 1
              omega
            · rw [if_neg (by omega), if_neg (by omega)]
              exact g1 q (by omega)
          · rw [v47, if_pos rfl, i_lt, nI_toInt (by omega), nI_toInt (by omega)] at hlt
            rw [v30]
            by_cases z : n1 ≤ q
            · rw [if_pos ⟨rfl, by omega⟩]
              exact (g2 (q - n1) (by omega)).2
            · rw [if_neg (by omega)]
              refine hB q hq ?_ ?_
              · rw [z1]; exact n9_4 (by omega)
              · rw [z1]; exact nI_lt (by omega) (by omega)
        · obtain ⟨⟨m1, y1, y2, y3⟩, y4⟩ := h.2.1 r hr
          refine ⟨⟨m1, y1, ?_, ?_⟩, fun q hq y5 y6 => ?_⟩
          · rw [v6, if_neg (by omega)]; exact y2
          · rcases y3 with ⟨y3, y5⟩ | ⟨y3, y5, y6⟩
            · exact Or.inl ⟨by rw [v6, if_neg (by omega)]; exact y3, by rw [v47, if_neg e]; exact y5⟩
            · refine Or.inr ⟨by rw [v6, if_neg (by omega)]; exact y3, by rw [v47, if_neg e]; exact y5, fun q hq => ?_⟩
              show mapp (xapp σ (10 + j) 2 n1 n2) j n1 n2 30 (10 + r) q = mapp (xapp σ (10 + j) 2 n1 n2) j n1 n2 48 0 (60 * r + q)
              rw [v30, v48, if_neg (by omega), if_neg (by omega)]
              exact y6 q hq
          · rw [v47, if_neg e] at y5 y6
            rw [v30, if_neg (by omega)]
            exact y4 q hq y5 y6
      · refine h.2.2.2.2.2.1.fr ?_ ?_ ?_ ?_ ?_
        · funext a b; simp [mapp, xapp, cp3, u3]
        · funext a b; simp [mapp, xapp, cp3, u3]
        · funext a b; simp [mapp, xapp, cp3, u3]
        · simp [mapp, xapp, cp3, u3]
        · simp [mapp, xapp, cp3, u3]
    · exact LC.of (x_handOn_far hj n01 c1 c2 b1 b2 (by omega)) (m_handOn_far hj (σ := xfind 2 σ) z1 d2 b1 b2 (by omega)) (h.find (by decide))
  · exact LC.of (x_handOn_bad hr) (m_handOn_bad (not6 hr)) h
end L22

/-! CASES OF THE LAW: fields -/
section L23
variable {l : Launch} {σ σ2 s : tI} {τ τ2 : tL} {t : Option (Nat × Nat)}
def hasP (a b : Nat → Int32) (v : Int32) : Nat → Bool := fun k => decide (a k ≤ v ∧ v ≤ b k)
def neeP (a b : Nat → Int32) (v : Int32) (c : Nat → Bool) : Nat → Bool := fun k => decide (a k ≤ v ∧ v ≤ b k) && c k
theorem cntN_1 {p : Nat → Bool} {k : Nat} (h : p k = true) : cntN p (k + 1) = cntN p k + 1 := by
  show cntN p k + _ = _
  rw [if_pos h]
theorem cntN_0 {p : Nat → Bool} {k : Nat} (h : ¬ p k = true) : cntN p (k + 1) = cntN p k := by
  show cntN p k + _ = _
  rw [if_neg h, Nat.add_zero]
theorem nI_z (c : Nat) : nI c = nI c + 0 := (Int32.add_zero _).symm
theorem x_has {i k : Nat} {v : Int32} (hk : k < 12) : am_D l 80 [aR 9 i, aI v, aI (nI k)] σ τ (rX t) cX lX (some (aI (bI (σ 35 i k ≤ v ∧ v ≤ σ 36 i k)))) σ τ (rX t) := by
  refine am_D_of am_o80 am_l80 rfl ?_
  refine am_vc_ok am_k80 [] 100 ?_
  refine And.intro (vp_in_nI (N := 12) hk (by decide)) ?_
  rw [nI_clamp (n := k) (by omega)]
  refine And.intro (fun h1 => ?_) (fun h1 => ?_)
  · have h1 : v < σ 35 i k := h1
    refine am_vZ am_k80 am_r80 rfl (Or.inl rfl) ⟨by rw [bI_f (fun z => absurd h1 (Int32.not_lt.mpr z.1))], rfl, rfl, rfl, rfl, rfl⟩
  have h1 : ¬ v < σ 35 i k := h1
  refine And.intro (vp_in_nI (N := 12) hk (by decide)) ?_
  rw [nI_clamp (n := k) (by omega)]
  refine And.intro (fun h2 => ?_) (fun h2 => ?_)
  · have h2 : σ 36 i k < v := h2
    refine am_vZ am_k80 am_r80 rfl (Or.inl rfl) ⟨by rw [bI_f (fun z => absurd h2 (Int32.not_lt.mpr z.2))], rfl, rfl, rfl, rfl, rfl⟩
  · have h2 : ¬ σ 36 i k < v := h2
    refine am_vZ am_k80 am_r80 rfl (Or.inr rfl) ⟨by rw [bI_t ⟨Int32.not_lt.mp h1, Int32.not_lt.mp h2⟩], rfl, rfl, rfl, rfl, rfl⟩
theorem x_isNeeded {i k : Nat} (hk : k < 12) : am_D l 81 [aR 9 i, aI (nI k)] σ τ (rX t) cX lX (some (aI (bI (σ 37 i k = -9)))) σ τ (rX t) := by
  refine am_D_of am_o81 am_l81 rfl ?_
  refine am_vc_ok am_k81 [] 100 ?_
  refine And.intro (vp_in_nI (N := 12) hk (by decide)) ?_
  rw [nI_clamp (n := k) (by omega)]
  refine And.intro (fun h1 => ?_) (fun h1 => ?_)
  · have h1 : σ 37 i k = -9 := h1
    refine am_vZ am_k81 am_r81 rfl (Or.inr rfl) ⟨by rw [bI_t h1], rfl, rfl, rfl, rfl, rfl⟩
  · have h1 : ¬ σ 37 i k = -9 := h1
    refine am_vZ am_k81 am_r81 rfl (Or.inl rfl) ⟨by rw [bI_f h1], rfl, rfl, rfl, rfl, rfl⟩
theorem x_fieldsOf_lp {Q : tQ} {i n : Nat} {v : Int32} (hn : σ 9 i 1 = nI n) (hn2 : n ≤ 12) (K : am_G l 82 Q 0 0 35 [(3, aI (nI n)), (2, aI (nI (cntN (hasP (σ 35 i) (σ 36 i) v) n))), (0, aR 9 i), (1, aI v)] [] σ τ (rX t) cX lX) : ∀ (d k : Nat), k + d = n → am_G l 82 Q 0 0 4 [(3, aI (nI k)), (2, aI (nI (cntN (hasP (σ 35 i) (σ 36 i) v) k))), (0, aR 9 i), (1, aI v)] [] σ τ (rX t) cX lX
  | 0, k, h => by
    obtain rfl : k = n := by omega
    refine am_vc_ok am_k82 [4, 35] 100 ?_
    exact And.intro (fun _ => K) (fun h1 => absurd (by rw [hn]; exact Int32.le_refl _) h1)
  | d + 1, k, h => by
    have K2 := x_fieldsOf_lp hn hn2 K d (k + 1) (by omega)
    refine am_vc_ok am_k82 [4, 35] 100 ?_
    refine And.intro (fun h1 => absurd h1 (by rw [hn]; exact nI_ge (b := n) (by omega) (by omega))) (fun _ => ?_)
    refine am_vO am_k82 am_h82 rfl rfl rfl rfl (x_has (by omega)) ?_
    refine am_vc_ok am_k82 [4, 35] 100 ?_
    refine And.intro (fun e => ?_) (fun e => ?_)
    · have e := bI_0.mp e
      rw [cntN_0 (by simpa [hasP] using e), nI_z (cntN (hasP (σ 35 i) (σ 36 i) v) k), ← nI_1 k] at K2
      exact K2
    · have e := bI_1.mp e
      rw [cntN_1 (by simpa [hasP] using e), ← nI_1 (cntN (hasP (σ 35 i) (σ 36 i) v) k), ← nI_1 k] at K2
      exact K2
theorem x_fieldsOf {i n : Nat} {v : Int32} (hn : σ 9 i 1 = nI n) (hn2 : n ≤ 12) : am_D l 82 [aR 9 i, aI v] σ τ (rX t) cX lX (some (aI (nI (cntN (hasP (σ 35 i) (σ 36 i) v) n)))) σ τ (rX t) := by
  refine am_D_of am_o82 am_l82 rfl ?_
  refine am_vc_ok am_k82 [4] 100 ?_
  refine x_fieldsOf_lp hn hn2 ?_ n 0 (by omega)
  refine am_vc_ok am_k82 [] 100 ?_
  exact am_vI am_k82 am_r82 rfl ⟨rfl, rfl, rfl, rfl, rfl, rfl⟩
theorem x_neededOf_lp {Q : tQ} {i n : Nat} {v : Int32} (hn : σ 9 i 1 = nI n) (hn2 : n ≤ 12) (K : am_G l 83 Q 0 0 43 [(3, aI (nI n)), (2, aI (nI (cntN (neeP (σ 35 i) (σ 36 i) v (fun k => decide (σ 37 i k = -9))) n))), (0, aR 9 i), (1, aI v)] [] σ τ (rX t) cX lX) : ∀ (d k : Nat), k + d = n → am_G l 83 Q 0 0 4 [(3, aI (nI k)), (2, aI (nI (cntN (neeP (σ 35 i) (σ 36 i) v (fun k => decide (σ 37 i k = -9))) k))), (0, aR 9 i), (1, aI v)] [] σ τ (rX t) cX lX
  | 0, k, h => by
    obtain rfl : k = n := by omega
    refine am_vc_ok am_k83 [4, 43] 100 ?_
    exact And.intro (fun _ => K) (fun h1 => absurd (by rw [hn]; exact Int32.le_refl _) h1)
  | d + 1, k, h => by
    have K2 := x_neededOf_lp hn hn2 K d (k + 1) (by omega)
    refine am_vc_ok am_k83 [4, 43] 100 ?_
    refine And.intro (fun h1 => absurd h1 (by rw [hn]; exact nI_ge (b := n) (by omega) (by omega))) (fun _ => ?_)
    refine am_vO am_k83 am_h83 rfl rfl rfl rfl (x_has (by omega)) ?_
    refine am_vc_ok am_k83 [4, 43] 100 ?_
    refine And.intro (fun e => ?_) (fun e => ?_)
    · have e := bI_0.mp e
      rw [cntN_0 (by simp [neeP]; intro z1 z2; exact absurd ⟨z1, z2⟩ e), nI_z (cntN (neeP (σ 35 i) (σ 36 i) v (fun k => decide (σ 37 i k = -9))) k), ← nI_1 k] at K2
      exact K2
    · have e := bI_1.mp e
      refine am_vO am_k83 am_h83 rfl rfl rfl rfl (x_isNeeded (by omega)) ?_
      refine am_vc_ok am_k83 [4, 43] 100 ?_
      refine And.intro (fun e3 => ?_) (fun e3 => ?_)
      · have e3 := bI_0.mp e3
        rw [cntN_0 (by simp [neeP, e3]), nI_z (cntN (neeP (σ 35 i) (σ 36 i) v (fun k => decide (σ 37 i k = -9))) k), ← nI_1 k] at K2
        exact K2
      · have e3 := bI_1.mp e3
        rw [cntN_1 (by simp [neeP, e, e3]), ← nI_1 (cntN (neeP (σ 35 i) (σ 36 i) v (fun k => decide (σ 37 i k = -9))) k), ← nI_1 k] at K2
        exact K2
theorem x_neededOf {i n : Nat} {v : Int32} (hn : σ 9 i 1 = nI n) (hn2 : n ≤ 12) : am_D l 83 [aR 9 i, aI v] σ τ (rX t) cX lX (some (aI (nI (cntN (neeP (σ 35 i) (σ 36 i) v (fun k => decide (σ 37 i k = -9))) n)))) σ τ (rX t) := by
  refine am_D_of am_o83 am_l83 rfl ?_
  refine am_vc_ok am_k83 [4] 100 ?_
  refine x_neededOf_lp hn hn2 ?_ n 0 (by omega)
  refine am_vc_ok am_k83 [] 100 ?_
  exact am_vI am_k83 am_r83 rfl ⟨rfl, rfl, rfl, rfl, rfl, rfl⟩
theorem x_fields {s n : Nat} {v : Int32} (hs : s < 4) (hv : 0 ≤ v ∧ v < 10) (h0 : ¬ σ 9 (1 + s) 0 = 0) (hn : σ 9 (1 + s) 1 = nI n) (hn2 : n ≤ 12) : am_D l 104 [aR 11 0, aI (nI s), aI v] σ τ (rX t) cX lX (some (aI (nI (cntN (hasP (σ 35 (1 + s)) (σ 36 (1 + s)) v) n)))) (u3 σ 11 0 11 (nI (cntN (neeP (σ 35 (1 + s)) (σ 36 (1 + s)) v (fun k => decide (σ 37 (1 + s) k = -9))) n))) τ (rX t) := by
  refine am_D_of am_o104 am_l104 rfl ?_
  refine am_vc_ok am_k104 [] 100 ?_
  refine am_vS am_k104 am_h104 rfl rfl rfl rfl (x_within) ?_
  refine am_vc_ok am_k104 [] 100 ?_
  refine And.intro (fun g => absurd (in4 hs) (bI_0.mp g)) (fun _ => ?_)
  refine am_vS am_k104 am_h104 rfl rfl rfl rfl (x_within) ?_
  refine am_vc_ok am_k104 [] 100 ?_
  refine And.intro (fun g => absurd hv (bI_0.mp g)) (fun _ => ?_)
  refine And.intro (vp_in_nI (N := 4) hs (by decide)) ?_
  rw [nI_clamp (n := s) (by omega)]
  refine And.intro (fun g => absurd g h0) (fun _ => ?_)
  refine And.intro (vp_in_nI (N := 4) hs (by decide)) ?_
  rw [nI_clamp (n := s) (by omega)]
  refine am_vO am_k104 am_h104 rfl rfl rfl rfl (x_neededOf hn hn2) ?_
  refine am_vc_ok am_k104 [] 100 ?_
  refine And.intro (vp_in_nI (N := 4) hs (by decide)) ?_
  rw [nI_clamp (n := s) (by omega)]
  refine am_vO am_k104 am_h104 rfl rfl rfl rfl (x_fieldsOf (i := 1 + s) (n := n) (by simpa [u3] using hn) hn2) ?_
  refine am_vc_ok am_k104 [] 100 ?_
  exact am_vI am_k104 am_r104 rfl ⟨rfl, rfl, rfl, rfl, rfl, rfl⟩
theorem m_isOf {s i : Nat} {v : Int32} (hs : s < 4) (hi : i < 12) : am_D l 184 [aR 12 0, aI (nI s), aI (nI i), aI v] σ τ (rX t) cX lX (some (aI (bI (σ 50 0 (72 * s + 6 * i + 3) ≤ v ∧ v ≤ σ 50 0 (72 * s + 6 * i + 4))))) σ τ (rX t) := by
  refine am_D_of am_o184 am_l184 rfl ?_
  refine am_vc_ok am_k184 [] 100 ?_
  refine am_vO am_k184 am_h184 rfl rfl rfl rfl (m_part (w := 3) hs hi (by decide)) ?_
  refine am_vc_ok am_k184 [] 100 ?_
  refine And.intro (fun h1 => ?_) (fun h1 => ?_)
  · have h1 : v < σ 50 0 (72 * s + 6 * i + 3) := h1
    refine am_vZ am_k184 am_r184 rfl (Or.inl rfl) ⟨by rw [bI_f (fun z => absurd h1 (Int32.not_lt.mpr z.1))], rfl, rfl, rfl, rfl, rfl⟩
  have h1 : ¬ v < σ 50 0 (72 * s + 6 * i + 3) := h1
  refine am_vO am_k184 am_h184 rfl rfl rfl rfl (m_part (w := 4) hs hi (by decide)) ?_
  refine am_vc_ok am_k184 [] 100 ?_
  refine And.intro (fun h2 => ?_) (fun h2 => ?_)
  · have h2 : σ 50 0 (72 * s + 6 * i + 4) < v := h2
    refine am_vZ am_k184 am_r184 rfl (Or.inl rfl) ⟨by rw [bI_f (fun z => absurd h2 (Int32.not_lt.mpr z.2))], rfl, rfl, rfl, rfl, rfl⟩
  · have h2 : ¬ σ 50 0 (72 * s + 6 * i + 4) < v := h2
    refine am_vZ am_k184 am_r184 rfl (Or.inr rfl) ⟨by rw [bI_t ⟨Int32.not_lt.mp h1, Int32.not_lt.mp h2⟩], rfl, rfl, rfl, rfl, rfl⟩
abbrev mA (σ : tI) (s w : Nat) : Nat → Int32 := fun k => σ 50 0 (72 * s + 6 * k + w)
theorem m_fields_lp {Q : tQ} {s n : Nat} {v b : Int32} (hs : s < 4) (hn : σ 49 0 s = nI n) (hn2 : n ≤ 12) (K : am_G l 186 Q 0 0 100 [(6, aI (nI n)), (5, aI (nI (cntN (neeP (mA σ s 3) (mA σ s 4) v (fun k => decide (mA σ s 5 k < 0))) n))), (4, aI (nI (cntN (hasP (mA σ s 3) (mA σ s 4) v) n))), (3, aI b), (0, aR 12 0), (1, aI (nI s)), (2, aI v)] [] σ τ (rX t) cX lX) : ∀ (d k : Nat), k + d = n → am_G l 186 Q 0 0 30 [(6, aI (nI k)), (5, aI (nI (cntN (neeP (mA σ s 3) (mA σ s 4) v (fun k => decide (mA σ s 5 k < 0))) k))), (4, aI (nI (cntN (hasP (mA σ s 3) (mA σ s 4) v) k))), (3, aI b), (0, aR 12 0), (1, aI (nI s)), (2, aI v)] [] σ τ (rX t) cX lX
  | 0, k, h => by
    obtain rfl : k = n := by omega
    refine am_vc_ok am_k186 [30, 100] 100 ?_
    refine And.intro (vp_in_nI (N := 4) hs (by decide)) ?_
    rw [nI_clamp (n := s) (by omega), hn]
    exact And.intro (fun _ => K) (fun h1 => absurd (Int32.le_refl _) h1)
  | d + 1, k, h => by
    have K2 := m_fields_lp hs hn hn2 K d (k + 1) (by omega)
    refine am_vc_ok am_k186 [30, 100] 100 ?_
    refine And.intro (vp_in_nI (N := 4) hs (by decide)) ?_
    rw [nI_clamp (n := s) (by omega), hn]
    refine And.intro (fun h1 => absurd h1 (nI_ge (b := n) (by omega) (by omega))) (fun _ => ?_)
    refine am_vO am_k186 am_h186 rfl rfl rfl rfl (m_isOf (i := k) hs (by omega)) ?_
    refine am_vc_ok am_k186 [30, 100] 100 ?_
    refine And.intro (fun e => ?_) (fun e => ?_)
    · refine am_vO am_k186 am_h186 rfl rfl rfl rfl (m_isOf (i := k) hs (by omega)) ?_
      refine am_vc_ok am_k186 [30, 100] 100 ?_
      refine And.intro (fun _ => ?_) (fun e2 => absurd e e2)
      have e := bI_0.mp e
      rw [cntN_0 (p := hasP _ _ _) (by simpa [hasP] using e), cntN_0 (p := neeP _ _ _ _) (by simp [neeP]; intro z1 z2; exact absurd ⟨z1, z2⟩ e), nI_z (cntN (hasP (mA σ s 3) (mA σ s 4) v) k), nI_z (cntN (neeP (mA σ s 3) (mA σ s 4) v (fun k => decide (mA σ s 5 k < 0))) k), ← nI_1 k] at K2
      exact K2
    · refine am_vO am_k186 am_h186 rfl rfl rfl rfl (m_isOf (i := k) hs (by omega)) ?_
      refine am_vc_ok am_k186 [30, 100] 100 ?_
      refine And.intro (fun e2 => absurd e2 e) (fun _ => ?_)
      have e := bI_1.mp e
      refine am_vO am_k186 am_h186 rfl rfl rfl rfl (m_part (i := k) (w := 5) hs (by omega) (by decide)) ?_
      refine am_vc_ok am_k186 [30, 100] 100 ?_
      refine And.intro (fun e3 => ?_) (fun e3 => ?_)
      · have e3 : ¬ mA σ s 5 k < 0 := Int32.not_lt.mpr e3
        rw [cntN_1 (p := hasP _ _ _) (by simpa [hasP] using e), cntN_0 (p := neeP _ _ _ _) (by simp [neeP, e3]), ← nI_1 (cntN (hasP (mA σ s 3) (mA σ s 4) v) k), nI_z (cntN (neeP (mA σ s 3) (mA σ s 4) v (fun k => decide (mA σ s 5 k < 0))) k), ← nI_1 k] at K2
        exact K2
      · have e3 : mA σ s 5 k < 0 := Int32.not_le.mp e3
        rw [cntN_1 (p := hasP _ _ _) (by simpa [hasP] using e), cntN_1 (p := neeP _ _ _ _) (by simp [neeP, e, e3]), ← nI_1 (cntN (hasP (mA σ s 3) (mA σ s 4) v) k), ← nI_1 (cntN (neeP (mA σ s 3) (mA σ s 4) v (fun k => decide (mA σ s 5 k < 0))) k), ← nI_1 k] at K2
        exact K2
theorem m_fields {s n : Nat} {v : Int32} (hs : s < 4) (hv : 0 ≤ v ∧ v ≤ 9) (hn : σ 49 0 s = nI n) (hn2 : n ≤ 12) : am_D l 186 [aR 12 0, aI (nI s), aI v] σ τ (rX t) cX lX (some (aI (nI (cntN (hasP (mA σ s 3) (mA σ s 4) v) n)))) (u3 σ 12 0 2 (nI (cntN (neeP (mA σ s 3) (mA σ s 4) v (fun k => decide (mA σ s 5 k < 0))) n))) τ (rX t) := by
  have h0 : ¬ σ 49 0 s < 0 := by rw [hn]; exact nI_pos (by omega)
  refine am_D_of am_o186 am_l186 rfl ?_
  refine am_vc_ok am_k186 [30] 100 ?_
  refine am_vS am_k186 am_h186 rfl rfl rfl rfl (m_isVersion) ?_
  refine am_vc_ok am_k186 [30] 100 ?_
  refine And.intro (fun g => absurd hv (bI_0.mp g)) (fun _ => ?_)
  refine am_vO am_k186 am_h186 rfl rfl rfl rfl (m_askedShape hs) ?_
  refine am_vc_ok am_k186 [30] 100 ?_
  simp only [if_neg h0]
  refine And.intro (fun _ => ?_) (fun g => absurd (by decide) g)
  refine m_fields_lp hs hn hn2 ?_ n 0 (by omega)
  refine am_vc_ok am_k186 [] 100 ?_
  refine am_vO am_k186 am_h186 rfl rfl rfl rfl (m_ask) ?_
  refine am_vc_ok am_k186 [] 100 ?_
  exact am_vI am_k186 am_r186 rfl ⟨rfl, rfl, rfl, rfl, rfl, rfl⟩
theorem LC_fields (h : Rall σ τ) (s v : Int32) : LC l 104 186 [aI s, aI v] σ τ t := by
  have e10 : ∀ x : Int32, (0 ≤ x ∧ x ≤ 9) ↔ (0 ≤ x ∧ x < 10) := fun x => leN (n := 10) (N := 10) (by decide) (by decide)
  by_cases hs : 0 ≤ s ∧ s < 4
  · by_cases hv : 0 ≤ v ∧ v < 10
    · obtain ⟨q, hq, rfl⟩ := ix_lt (n := 4) (by decide) hs
      rcases h.2.2.1 q hq with ⟨z1, z2⟩ | ⟨S, w1, w2, w3, w4, w5, w6, w7⟩
      · exact LC.of (x_fields_none hq hv z1) (m_fields_none hq ((e10 v).mpr hv) (by show σ 49 0 q < 0; rw [z2]; decide)) (h.find (by decide))
      · have hn2 : sN S ≤ 12 := w1.1
        have i1 : ∀ k, k < sN S → σ 35 (1 + q) k = mA σ q 3 k ∧ σ 36 (1 + q) k = mA σ q 4 k ∧ (σ 37 (1 + q) k = -9 ↔ mA σ q 5 k < 0) := by
          intro k hk
          obtain ⟨-, -, -, y4, y5, y6⟩ := w5 k hk
          refine ⟨?_, ?_, ?_⟩
          · rw [y4]; show _ = σ 50 0 (72 * q + 6 * k + 3); rw [w7 k 3 hk (by decide)]; rfl
          · rw [y5]; show _ = σ 50 0 (72 * q + 6 * k + 4); rw [w7 k 4 hk (by decide)]; rfl
          · rw [y6]; show _ ↔ σ 50 0 (72 * q + 6 * k + 5) < 0; rw [w7 k 5 hk (by decide)]
            show pI (sPr S k) = -9 ↔ pI (sPr S k) < 0
            cases hp : sPr S k with
            | none => decide
            | some d =>
              have hd := ((w1.2.1 k hk).2.2.2.2.2.2 d hp).1
              constructor
              · intro z; exact absurd z (n9_4 (by omega))
              · intro z; exact absurd z (nI_pos (by omega))
        have c1 : cntN (hasP (σ 35 (1 + q)) (σ 36 (1 + q)) v) (sN S) = cntN (hasP (mA σ q 3) (mA σ q 4) v) (sN S) := cntN_cg (fun k hk => by unfold hasP; rw [(i1 k hk).1, (i1 k hk).2.1])
        have c2 : cntN (neeP (σ 35 (1 + q)) (σ 36 (1 + q)) v (fun k => decide (σ 37 (1 + q) k = -9))) (sN S) = cntN (neeP (mA σ q 3) (mA σ q 4) v (fun k => decide (mA σ q 5 k < 0))) (sN S) := cntN_cg (fun k hk => by unfold neeP; rw [(i1 k hk).1, (i1 k hk).2.1]; exact congrArg _ (decide_eq_decide.mpr (i1 k hk).2.2))
        have hx := x_fields (l := l) (τ := τ) (t := t) hq hv (by rw [w2]; decide) w3 hn2
        rw [c1, c2] at hx
        exact LC.of hx (m_fields (σ := u3 σ 11 0 11 _) hq ((e10 v).mpr hv) (by simpa [u3] using w4) hn2) h.ask
    · exact LC.of (x_fields_bad (Or.inr hv)) (m_fields_bad (Or.inr (fun z => hv ((e10 v).mp z)))) h
  · exact LC.of (x_fields_bad (Or.inl hs)) (m_fields_bad (Or.inl (not4 hs))) h
end L23

/-! fits, unlike: items by their names -/
section L24
variable {l : Launch} {σ σ2 s : tI} {τ τ2 : tL} {t : Option (Nat × Nat)}
/-- the last k below n with p -/
def lastM (p : Nat → Bool) : Nat → Option Nat
  | 0 => none
  | n + 1 => if p n = true then some n else lastM p n
theorem lastM_cg {p q : Nat → Bool} : ∀ {n : Nat}, (∀ c, c < n → p c = q c) → lastM p n = lastM q n
  | 0, _ => rfl
  | n + 1, h => by
    unfold lastM
    rw [h n (by omega), lastM_cg (fun c hc => h c (by omega))]
theorem lastM_some {p : Nat → Bool} {k : Nat} : ∀ {n : Nat}, lastM p n = some k → k < n ∧ p k = true
  | 0, h => by cases h
  | n + 1, h => by
    unfold lastM at h
    by_cases e : p n = true
    · rw [if_pos e] at h
      cases h
      exact ⟨by omega, e⟩
    · rw [if_neg e] at h
      obtain ⟨h1, h2⟩ := lastM_some h
      exact ⟨by omega, h2⟩
theorem lastM_none {p : Nat → Bool} : ∀ {n : Nat}, lastM p n = none → ∀ k, k < n → ¬ p k = true
  | 0, _, k, hk => absurd hk (by omega)
  | n + 1, h, k, hk => by
    unfold lastM at h
    by_cases e : p n = true
    · rw [if_pos e] at h; cases h
    · rw [if_neg e] at h
      by_cases hkn : k = n
      · subst hkn; exact e
      · exact lastM_none h k (by omega)
def inP (f g h : Nat → Int32) (v a : Int32) : Nat → Bool := fun k => decide ((f k ≤ v ∧ v ≤ g k) ∧ h k = a)
theorem m_named_lp {Q : tQ} {s n : Nat} {v a : Int32} (hs : s < 4) (hn : σ 49 0 s = nI n) (hn2 : n ≤ 12) (K : am_G l 185 Q 0 0 56 [(5, aI (nI n)), (4, aI (pI (lastM (inP (mA σ s 3) (mA σ s 4) (mA σ s 0) v a) n))), (0, aR 12 0), (1, aI (nI s)), (2, aI v), (3, aI a)] [] σ τ (rX t) cX lX) : ∀ (d k : Nat), k + d = n → am_G l 185 Q 0 0 7 [(5, aI (nI k)), (4, aI (pI (lastM (inP (mA σ s 3) (mA σ s 4) (mA σ s 0) v a) k))), (0, aR 12 0), (1, aI (nI s)), (2, aI v), (3, aI a)] [] σ τ (rX t) cX lX
  | 0, k, h => by
    obtain rfl : k = n := by omega
    refine am_vc_ok am_k185 [7, 56] 100 ?_
    refine And.intro (vp_in_nI (N := 4) hs (by decide)) ?_
    rw [nI_clamp (n := s) (by omega), hn]
    exact And.intro (fun _ => K) (fun h1 => absurd (Int32.le_refl _) h1)
  | d + 1, k, h => by
    have K2 := m_named_lp hs hn hn2 K d (k + 1) (by omega)
    have u1 : inP (mA σ s 3) (mA σ s 4) (mA σ s 0) v a k = true → lastM (inP (mA σ s 3) (mA σ s 4) (mA σ s 0) v a) (k + 1) = some k := fun e => by unfold lastM; rw [if_pos e]
    have u0 : ¬ inP (mA σ s 3) (mA σ s 4) (mA σ s 0) v a k = true → lastM (inP (mA σ s 3) (mA σ s 4) (mA σ s 0) v a) (k + 1) = lastM (inP (mA σ s 3) (mA σ s 4) (mA σ s 0) v a) k := fun e => by rw [lastM, if_neg e]
    refine am_vc_ok am_k185 [7, 56] 100 ?_
    refine And.intro (vp_in_nI (N := 4) hs (by decide)) ?_
    rw [nI_clamp (n := s) (by omega), hn]
    refine And.intro (fun h1 => absurd h1 (nI_ge (b := n) (by omega) (by omega))) (fun _ => ?_)
    refine am_vO am_k185 am_h185 rfl rfl rfl rfl (m_isOf (i := k) hs (by omega)) ?_
    refine am_vc_ok am_k185 [7, 56] 100 ?_
    refine And.intro (fun e => ?_) (fun e => ?_)
    · have e := bI_0.mp e
      rw [u0 (by simp [inP]; intro z1 z2; exact absurd ⟨z1, z2⟩ e), ← nI_1 k] at K2
      exact K2
    · have e := bI_1.mp e
      refine am_vO am_k185 am_h185 rfl rfl rfl rfl (m_part (i := k) (w := 0) hs (by omega) (by decide)) ?_
      refine am_vc_ok am_k185 [7, 56] 100 ?_
      refine And.intro (fun e3 => ?_) (fun e3 => ?_)
      · have e3 : mA σ s 0 k = a := e3
        rw [u1 (by simp [inP, e, e3]), ← nI_1 k] at K2
        exact K2
      · have e3 : ¬ mA σ s 0 k = a := e3
        rw [u0 (by simp [inP, e3]), ← nI_1 k] at K2
        exact K2
theorem m_named {s n : Nat} {v a : Int32} (hs : s < 4) (hn : σ 49 0 s = nI n) (hn2 : n ≤ 12) : am_D l 185 [aR 12 0, aI (nI s), aI v, aI a] σ τ (rX t) cX lX (some (aI (pI (lastM (inP (mA σ s 3) (mA σ s 4) (mA σ s 0) v a) n)))) σ τ (rX t) := by
  refine am_D_of am_o185 am_l185 rfl ?_
  refine am_vc_ok am_k185 [7] 100 ?_
  refine m_named_lp hs hn hn2 ?_ n 0 (by omega)
  refine am_vc_ok am_k185 [] 100 ?_
  exact am_vI am_k185 am_r185 rfl ⟨rfl, rfl, rfl, rfl, rfl, rfl⟩
/-- an item of that sort -/
def likeO (f : Nat → Int32) (so : Int32) (o : Option Nat) : Option Nat := match o with
  | none => none
  | some k => if f k = so then some k else none
theorem x_itemLike {i v a n : Nat} {so : Int32} {o : Option Nat} (hv : v < 10) (ha : a < 16) (ho : σ 38 i (16 * v + a) = pI o) (ho2 : ∀ k, o = some k → k < 12) : am_D l 84 [aR 9 i, aI (nI v), aI (nI a), aI so] σ τ (rX t) cX lX (some (aI (pI (likeO (σ 33 i) so o)))) σ τ (rX t) := by
  have e1 : nI v * 16 + nI a = nI (16 * v + a) := by
    rw [show (16 : Int32) = nI 16 from rfl, pk_mul, nI_add, Nat.mul_comm]
  refine am_D_of am_o84 am_l84 rfl ?_
  refine am_vc_ok am_k84 [] 100 ?_
  refine And.intro (by rw [e1]; exact vp_in_nI (N := 160) (by omega) (by decide)) ?_
  rw [e1, nI_clamp (n := 16 * v + a) (by omega), ho]
  cases o with
  | none =>
    refine And.intro (fun _ => ?_) (fun g => absurd rfl g)
    exact am_vI am_k84 am_r84 rfl ⟨rfl, rfl, rfl, rfl, rfl, rfl⟩
  | some k =>
    have hk := ho2 k rfl
    refine And.intro (fun g => absurd g (n9_4 (by omega))) (fun _ => ?_)
    refine And.intro (vp_in_nI (N := 12) hk (by decide)) ?_
    rw [show pI (some k) = nI k from rfl, nI_clamp (n := k) (by omega)]
    refine And.intro (fun e => ?_) (fun e => ?_)
    · have e : σ 33 i k = so := e
      refine am_vI am_k84 am_r84 rfl ⟨by simp only [likeO, if_pos e]; rfl, rfl, rfl, rfl, rfl, rfl⟩
    · have e : ¬ σ 33 i k = so := e
      refine am_vI am_k84 am_r84 rfl ⟨by simp only [likeO, if_neg e]; rfl, rfl, rfl, rfl, rfl, rfl⟩
end L24

/-! unlikeNames: the names as bits -/
section L25
variable {l : Launch} {σ σ2 s : tI} {τ τ2 : tL} {t : Option (Nat × Nat)}
abbrev bt (a : Nat) : Int32 := (1 : Int32) <<< (nI a &&& 31)
theorem bt_all : ((List.range 16).all fun a => (List.range 16).all fun b => decide (bt b &&& bt a = if b = a then bt a else 0) && decide (¬ bt a = 0)) = true := by decide +kernel
theorem bt_and {a b : Nat} (ha : a < 16) (hb : b < 16) : bt b &&& bt a = if b = a then bt a else 0 := by
  have h := List.all_eq_true.mp (List.all_eq_true.mp bt_all a (List.mem_range.mpr ha)) b (List.mem_range.mpr hb)
  rw [Bool.and_eq_true] at h
  exact of_decide_eq_true h.1
theorem bt_ne {a : Nat} (ha : a < 16) : ¬ bt a = 0 := by
  have h := List.all_eq_true.mp (List.all_eq_true.mp bt_all a (List.mem_range.mpr ha)) a (List.mem_range.mpr ha)
  rw [Bool.and_eq_true] at h
  exact of_decide_eq_true h.2
theorem or_and3 (x y z : Int32) : (x ||| y) &&& z = (x &&& z) ||| (y &&& z) := Int32.toBitVec_inj.1 BitVec.and_or_distrib_right
/-- the bits of acc are the names of those below k that have u -/
def JB (u : Nat → Bool) (nm : Nat → Int32) (acc : Int32) (k : Nat) : Prop := (acc = 0 ↔ ∀ q, q < k → u q = false) ∧ ∀ a, a < 16 → (acc &&& bt a = 0 ↔ ∀ q, q < k → u q = true → ¬ nm q = nI a)
theorem JB.z {u : Nat → Bool} {nm : Nat → Int32} : JB u nm 0 0 := ⟨⟨fun _ q hq => absurd hq (by omega), fun _ => rfl⟩, fun a _ => ⟨fun _ q hq => absurd hq (by omega), fun _ => Int32.zero_and⟩⟩
theorem JB.n0 {u : Nat → Bool} {nm : Nat → Int32} {acc : Int32} {k : Nat} (h : JB u nm acc k) (hu : u k = false) : JB u nm acc (k + 1) := by
  have hq : ∀ q, q < k + 1 → q < k ∨ q = k := fun q h => by omega
  refine ⟨h.1.trans ⟨fun g q z => ?_, fun g q z => g q (by omega)⟩, fun a ha => (h.2 a ha).trans ⟨fun g q z zu => ?_, fun g q z => g q (by omega)⟩⟩
  · rcases hq q z with z | rfl
    · exact g q z
    · exact hu
  · rcases hq q z with z | rfl
    · exact g q z zu
    · rw [hu] at zu; cases zu
theorem JB.n {u : Nat → Bool} {nm : Nat → Int32} {acc : Int32} {k : Nat} (h : JB u nm acc k) (hu : u k = false) : JB u nm (acc ||| 0) (k + 1) := by
  rw [Int32.or_zero]
  exact h.n0 hu
theorem JB.y {u : Nat → Bool} {nm : Nat → Int32} {acc : Int32} {k b : Nat} (h : JB u nm acc k) (hb : b < 16) (hn : nm k = nI b) (hu : u k = true) : JB u nm (acc ||| bt b) (k + 1) := by
  refine ⟨⟨fun z => absurd (Int32.or_eq_zero_iff.mp z).2 (bt_ne hb), fun g => ?_⟩, fun a ha => ?_⟩
  · have := g k (by omega)
    rw [hu] at this
    cases this
  · rw [or_and3, Int32.or_eq_zero_iff, bt_and ha hb, h.2 a ha]
    constructor
    · rintro ⟨g1, g2⟩ q hq zu
      by_cases e : q = k
      · subst e
        rw [hn]
        intro e2
        have e3 := nI_inj' (by omega) (by omega) e2
        rw [if_pos e3] at g2
        exact bt_ne ha g2
      · exact g1 q (by omega) zu
    · intro g
      refine ⟨fun q hq zu => g q (by omega) zu, ?_⟩
      have e : ¬ b = a := fun e => g k (by omega) hu (by rw [hn, e])
      rw [if_neg e]
def ulX (σ : tI) (i : Nat) (w : Int32) (n k : Nat) : Bool := match likeO (σ 33 i) (σ 33 i k) (lastM (inP (σ 35 i) (σ 36 i) (σ 32 i) w (σ 32 i k)) n) with
  | none => decide (σ 37 i k = -9)
  | some q => decide (σ 34 i k < σ 34 i q)
def ulV (σ : tI) (i : Nat) (w v : Int32) (n : Nat) : Nat → Bool := fun k => hasP (σ 35 i) (σ 36 i) v k && ulX σ i w n k
def unP (σ : tI) (τ : tL) (t : Option (Nat × Nat)) (i n w v : Nat) : xP := fun r s τ2 t2 => (∃ acc, r = some (aI acc) ∧ JB (ulV σ i (nI w) (nI v) n) (σ 32 i) acc n) ∧ s = σ ∧ τ2 = τ ∧ t2 = t
set_option maxHeartbeats 4000000 in
theorem x_unl_lpB {i n w v : Nat} (hw : w < 10) (hn : σ 9 i 1 = nI n) (hn2 : n ≤ 12) (hX : ∀ k, k < n → ∃ b, b < 16 ∧ σ 32 i k = nI b) (hI : ∀ b, b < 16 → σ 38 i (16 * w + b) = pI (lastM (inP (σ 35 i) (σ 36 i) (σ 32 i) (nI w) (nI b)) n)) : ∀ (d k : Nat) (acc m5 m6 : Int32), k + d = n → JB (ulV σ i (nI w) (nI v) n) (σ 32 i) acc k → am_G l 85 (xQ (unP σ τ t i n w v)) 0 0 5 [(4, aI (nI k)), (3, aI acc), (6, aI m6), (5, aI m5), (0, aR 9 i), (1, aI (nI w)), (2, aI (nI v))] [] σ τ (rX t) cX lX
  | 0, k, acc, m5, m6, h, hJ => by
    obtain rfl : k = n := by omega
    refine am_vc_ok am_k85 [] 100 ?_
    refine And.intro (fun _ => ?_) (fun h1 => absurd (by rw [hn]; exact Int32.le_refl _) h1)
    refine am_vI am_k85 am_r85 rfl ⟨t, rfl, rfl, rfl, ⟨acc, rfl, hJ⟩, rfl, rfl, rfl⟩
  | d + 1, k, acc, m5, m6, h, hJ => by
    refine am_vc_ok am_k85 [5] 100 ?_
    refine And.intro (fun h1 => absurd h1 (by rw [hn]; exact nI_ge (b := n) (by omega) (by omega))) (fun _ => ?_)
    refine am_vO am_k85 am_h85 rfl rfl rfl rfl (x_has (by omega)) ?_
    refine am_vc_ok am_k85 [5] 100 ?_
    refine And.intro (fun e => ?_) (fun e => ?_)
    · have e := bI_0.mp e
      have K2 := x_unl_lpB hw hn hn2 hX hI d (k + 1) acc m5 m6 (by omega) (JB.n0 hJ (by simp [ulV, hasP]; intro z1 z2; exact absurd ⟨z1, z2⟩ e))
      rw [← nI_1 k] at K2
      exact K2
    · have e := bI_1.mp e
      obtain ⟨b, hb, eb⟩ := hX k (by omega)
      have ho2 : ∀ q, lastM (inP (σ 35 i) (σ 36 i) (σ 32 i) (nI w) (nI b)) n = some q → q < 12 := fun q hq => by have := (lastM_some hq).1; omega
      refine And.intro (vp_in_nI (N := 12) (by omega) (by decide)) ?_
      refine And.intro (vp_in_nI (N := 12) (by omega) (by decide)) ?_
      rw [nI_clamp (n := k) (by omega), eb]
      refine am_vO am_k85 am_h85 rfl rfl rfl rfl (x_itemLike (n := n) (v := w) (a := b) (so := σ 33 i k) hw hb (hI b hb) ho2) ?_
      refine am_vc_ok am_k85 [5] 100 ?_
      cases hl : likeO (σ 33 i) (σ 33 i k) (lastM (inP (σ 35 i) (σ 36 i) (σ 32 i) (nI w) (nI b)) n) with
      | none =>
        have hu : ulX σ i (nI w) n k = decide (σ 37 i k = -9) := by unfold ulX; rw [eb, hl]
        refine And.intro (fun _ => ?_) (fun g => absurd rfl g)
        refine am_vO am_k85 am_h85 rfl rfl rfl rfl (x_isNeeded (by omega)) ?_
        refine am_vc_ok am_k85 [5] 100 ?_
        refine And.intro (fun z => ?_) (fun z => ?_)
        · have z := bI_0.mp z
          have K2 := x_unl_lpB hw hn hn2 hX hI d (k + 1) (acc ||| 0) (-9) (bI (σ 37 i k = -9)) (by omega) (JB.n hJ (by simp [ulV, hu, z]))
          rw [← nI_1 k] at K2
          exact K2
        · have z := bI_1.mp z
          refine And.intro (vp_in_nI (N := 12) (by omega) (by decide)) ?_
          rw [nI_clamp (n := k) (by omega), eb]
          have K2 := x_unl_lpB hw hn hn2 hX hI d (k + 1) (acc ||| bt b) (-9) (bI (σ 37 i k = -9)) (by omega) (JB.y hJ hb eb (by simp [ulV, hasP, hu, z, e]))
          rw [← nI_1 k] at K2
          exact K2
      | some q =>
        have hu : ulX σ i (nI w) n k = decide (σ 34 i k < σ 34 i q) := by unfold ulX; rw [eb, hl]
        have hq : q < 12 := by
          unfold likeO at hl
          split at hl
          · cases hl
          · rename_i k2 hk2
            split at hl
            · cases hl; exact ho2 q hk2
            · cases hl
        refine And.intro (fun g => absurd g (n9_4 (by omega))) (fun _ => ?_)
        refine And.intro (vp_in_nI (N := 12) hq (by decide)) ?_
        refine And.intro (vp_in_nI (N := 12) (by omega) (by decide)) ?_
        rw [show pI (some q) = nI q from rfl, nI_clamp (n := q) (by omega), nI_clamp (n := k) (by omega)]
        refine And.intro (fun z => ?_) (fun z => ?_)
        · have z : ¬ σ 34 i k < σ 34 i q := Int32.not_lt.mpr z
          refine And.intro (fun _ => ?_) (fun g => absurd rfl g)
          have K2 := x_unl_lpB hw hn hn2 hX hI d (k + 1) (acc ||| 0) (nI q) 0 (by omega) (JB.n hJ (by simp [ulV, hu, z]))
          rw [← nI_1 k] at K2
          exact K2
        · have z : σ 34 i k < σ 34 i q := Int32.not_le.mp z
          refine And.intro (fun g => absurd g (by decide)) (fun _ => ?_)
          refine And.intro (vp_in_nI (N := 12) (by omega) (by decide)) ?_
          rw [nI_clamp (n := k) (by omega), eb]
          have K2 := x_unl_lpB hw hn hn2 hX hI d (k + 1) (acc ||| bt b) (nI q) 1 (by omega) (JB.y hJ hb eb (by simp [ulV, hasP, hu, z, e]))
          rw [← nI_1 k] at K2
          exact K2
set_option maxHeartbeats 4000000 in
theorem x_unl_lpA {i n w v : Nat} (hw : w < 10) (hn : σ 9 i 1 = nI n) (hn2 : n ≤ 12) (hX : ∀ k, k < n → ∃ b, b < 16 ∧ σ 32 i k = nI b) (hI : ∀ b, b < 16 → σ 38 i (16 * w + b) = pI (lastM (inP (σ 35 i) (σ 36 i) (σ 32 i) (nI w) (nI b)) n)) : ∀ (d k : Nat) (acc : Int32), k + d = n → JB (ulV σ i (nI w) (nI v) n) (σ 32 i) acc k → am_G l 85 (xQ (unP σ τ t i n w v)) 0 0 5 [(4, aI (nI k)), (3, aI acc), (0, aR 9 i), (1, aI (nI w)), (2, aI (nI v))] [] σ τ (rX t) cX lX
  | 0, k, acc, h, hJ => by
    obtain rfl : k = n := by omega
    refine am_vc_ok am_k85 [] 100 ?_
    refine And.intro (fun _ => ?_) (fun h1 => absurd (by rw [hn]; exact Int32.le_refl _) h1)
    refine am_vI am_k85 am_r85 rfl ⟨t, rfl, rfl, rfl, ⟨acc, rfl, hJ⟩, rfl, rfl, rfl⟩
  | d + 1, k, acc, h, hJ => by
    refine am_vc_ok am_k85 [5] 100 ?_
    refine And.intro (fun h1 => absurd h1 (by rw [hn]; exact nI_ge (b := n) (by omega) (by omega))) (fun _ => ?_)
    refine am_vO am_k85 am_h85 rfl rfl rfl rfl (x_has (by omega)) ?_
    refine am_vc_ok am_k85 [5] 100 ?_
    refine And.intro (fun e => ?_) (fun e => ?_)
    · have e := bI_0.mp e
      have K2 := x_unl_lpA hw hn hn2 hX hI d (k + 1) acc (by omega) (JB.n0 hJ (by simp [ulV, hasP]; intro z1 z2; exact absurd ⟨z1, z2⟩ e))
      rw [← nI_1 k] at K2
      exact K2
    · have e := bI_1.mp e
      obtain ⟨b, hb, eb⟩ := hX k (by omega)
      have ho2 : ∀ q, lastM (inP (σ 35 i) (σ 36 i) (σ 32 i) (nI w) (nI b)) n = some q → q < 12 := fun q hq => by have := (lastM_some hq).1; omega
      refine And.intro (vp_in_nI (N := 12) (by omega) (by decide)) ?_
      refine And.intro (vp_in_nI (N := 12) (by omega) (by decide)) ?_
      rw [nI_clamp (n := k) (by omega), eb]
      refine am_vO am_k85 am_h85 rfl rfl rfl rfl (x_itemLike (n := n) (v := w) (a := b) (so := σ 33 i k) hw hb (hI b hb) ho2) ?_
      refine am_vc_ok am_k85 [5] 100 ?_
      cases hl : likeO (σ 33 i) (σ 33 i k) (lastM (inP (σ 35 i) (σ 36 i) (σ 32 i) (nI w) (nI b)) n) with
      | none =>
        have hu : ulX σ i (nI w) n k = decide (σ 37 i k = -9) := by unfold ulX; rw [eb, hl]
        refine And.intro (fun _ => ?_) (fun g => absurd rfl g)
        refine am_vO am_k85 am_h85 rfl rfl rfl rfl (x_isNeeded (by omega)) ?_
        refine am_vc_ok am_k85 [5] 100 ?_
        refine And.intro (fun z => ?_) (fun z => ?_)
        · have z := bI_0.mp z
          have K2 := x_unl_lpB (l := l) (τ := τ) (t := t) hw hn hn2 hX hI d (k + 1) (acc ||| 0) (-9) (bI (σ 37 i k = -9)) (by omega) (JB.n hJ (by simp [ulV, hu, z]))
          rw [← nI_1 k] at K2
          exact K2
        · have z := bI_1.mp z
          refine And.intro (vp_in_nI (N := 12) (by omega) (by decide)) ?_
          rw [nI_clamp (n := k) (by omega), eb]
          have K2 := x_unl_lpB (l := l) (τ := τ) (t := t) hw hn hn2 hX hI d (k + 1) (acc ||| bt b) (-9) (bI (σ 37 i k = -9)) (by omega) (JB.y hJ hb eb (by simp [ulV, hasP, hu, z, e]))
          rw [← nI_1 k] at K2
          exact K2
      | some q =>
        have hu : ulX σ i (nI w) n k = decide (σ 34 i k < σ 34 i q) := by unfold ulX; rw [eb, hl]
        have hq : q < 12 := by
          unfold likeO at hl
          split at hl
          · cases hl
          · rename_i k2 hk2
            split at hl
            · cases hl; exact ho2 q hk2
            · cases hl
        refine And.intro (fun g => absurd g (n9_4 (by omega))) (fun _ => ?_)
        refine And.intro (vp_in_nI (N := 12) hq (by decide)) ?_
        refine And.intro (vp_in_nI (N := 12) (by omega) (by decide)) ?_
        rw [show pI (some q) = nI q from rfl, nI_clamp (n := q) (by omega), nI_clamp (n := k) (by omega)]
        refine And.intro (fun z => ?_) (fun z => ?_)
        · have z : ¬ σ 34 i k < σ 34 i q := Int32.not_lt.mpr z
          refine And.intro (fun _ => ?_) (fun g => absurd rfl g)
          have K2 := x_unl_lpB (l := l) (τ := τ) (t := t) hw hn hn2 hX hI d (k + 1) (acc ||| 0) (nI q) 0 (by omega) (JB.n hJ (by simp [ulV, hu, z]))
          rw [← nI_1 k] at K2
          exact K2
        · have z : σ 34 i k < σ 34 i q := Int32.not_le.mp z
          refine And.intro (fun g => absurd g (by decide)) (fun _ => ?_)
          refine And.intro (vp_in_nI (N := 12) (by omega) (by decide)) ?_
          rw [nI_clamp (n := k) (by omega), eb]
          have K2 := x_unl_lpB (l := l) (τ := τ) (t := t) hw hn hn2 hX hI d (k + 1) (acc ||| bt b) (nI q) 1 (by omega) (JB.y hJ hb eb (by simp [ulV, hasP, hu, z, e]))
          rw [← nI_1 k] at K2
          exact K2
theorem x_unlikeNames {i n w v : Nat} (hw : w < 10) (hn : σ 9 i 1 = nI n) (hn2 : n ≤ 12) (hX : ∀ k, k < n → ∃ b, b < 16 ∧ σ 32 i k = nI b) (hI : ∀ b, b < 16 → σ 38 i (16 * w + b) = pI (lastM (inP (σ 35 i) (σ 36 i) (σ 32 i) (nI w) (nI b)) n)) : am_T l 85 [aR 9 i, aI (nI w), aI (nI v)] σ τ t (unP σ τ t i n w v) := by
  refine am_T_of am_o85 am_l85 rfl ?_
  refine am_vc_ok am_k85 [5] 100 ?_
  exact x_unl_lpA hw hn hn2 hX hI n 0 0 (by omega) JB.z
end L25

/-! CASES OF THE LAW: unlike, fits (the class's side) -/
section L26
variable {l : Launch} {σ σ2 s : tI} {τ τ2 : tL} {t : Option (Nat × Nat)}
/-- the first of a, a + 1 .. with p, d of them -/
def fstI (p : Nat → Bool) : Nat → Nat → Int32
  | 0, _ => -9
  | d + 1, a => if p a = true then nI a else fstI p d (a + 1)
theorem fstI_cg {p q : Nat → Bool} : ∀ (d a : Nat), (∀ b, a ≤ b → b < a + d → p b = q b) → fstI p d a = fstI q d a
  | 0, _, _ => rfl
  | d + 1, a, h => by
    unfold fstI
    rw [h a (by omega) (by omega), fstI_cg d (a + 1) (fun b h1 h2 => h b (by omega) (by omega))]
theorem fstI_none {p : Nat → Bool} : ∀ (d a : Nat), a + d ≤ 1000 → (fstI p d a = -9 ↔ ∀ b, a ≤ b → b < a + d → p b = false)
  | 0, a, _ => ⟨fun _ b h1 h2 => absurd h2 (by omega), fun _ => rfl⟩
  | d + 1, a, hd => by
    unfold fstI
    by_cases e : p a = true
    · rw [if_pos e]
      refine ⟨fun z => absurd z (n9_4 (by omega)), fun g => ?_⟩
      have := g a (by omega) (by omega)
      rw [e] at this
      cases this
    · rw [if_neg e, fstI_none d (a + 1) (by omega)]
      constructor
      · intro g b h1 h2
        by_cases hb : b = a
        · subst hb; exact Bool.not_eq_true _ ▸ e
        · exact g b (by omega) (by omega)
      · intro g b h1 h2
        exact g b (by omega) (by omega)
theorem fstI_pos {p : Nat → Bool} : ∀ (d a : Nat), a + d ≤ 1000 → ¬ fstI p d a = -9 → 0 ≤ fstI p d a
  | 0, _, _, h => absurd rfl h
  | d + 1, a, hd, h => by
    unfold fstI at h ⊢
    by_cases e : p a = true
    · rw [if_pos e]; exact nI_pos' (by omega)
    · rw [if_neg e] at h ⊢; exact fstI_pos d (a + 1) (by omega) h
theorem x_unlike_lp {Q : tQ} {acc a1 a2 a3 r : Int32} (hQ : Q (some (aI (fstI (fun a => decide (¬ acc &&& bt a = 0)) 16 0))) σ τ (rX t) cX lX) : ∀ (d a : Nat), a + d = 16 → fstI (fun a => decide (¬ acc &&& bt a = 0)) d a = fstI (fun a => decide (¬ acc &&& bt a = 0)) 16 0 → am_G l 110 Q 0 0 35 [(6, aI (nI a)), (5, aI acc), (4, aI r), (0, aR 11 0), (1, aI a1), (2, aI a2), (3, aI a3)] [] σ τ (rX t) cX lX
  | 0, a, h, hf => by
    obtain rfl : a = 16 := by omega
    refine am_vc_ok am_k110 [35] 100 ?_
    refine And.intro (fun _ => ?_) (fun h1 => absurd (show (16 : Int32) ≤ nI 16 by decide) h1)
    refine am_vI am_k110 am_r110 rfl ?_
    rw [← hf] at hQ
    exact hQ
  | d + 1, a, h, hf => by
    refine am_vc_ok am_k110 [35] 100 ?_
    refine And.intro (fun h1 => absurd h1 (nI_ge (b := 16) (by omega) (by decide))) (fun _ => ?_)
    refine And.intro (fun e => ?_) (fun e => ?_)
    · have e : acc &&& bt a = 0 := e
      have K2 := x_unlike_lp (a1 := a1) (a2 := a2) (a3 := a3) (r := r) hQ d (a + 1) (by omega) (by
        rw [← hf, fstI, if_neg (by simp [e])])
      rw [← nI_1 a] at K2
      exact K2
    · have e : ¬ acc &&& bt a = 0 := e
      refine am_vI am_k110 am_r110 rfl ?_
      rw [← hf, fstI, if_pos (by simp [e])] at hQ
      exact hQ
theorem x_refVer_ok {s : Nat} {w v : Int32} (hs : s < 4) (hw : 0 ≤ w ∧ w < 10) (hv : 0 ≤ v ∧ v < 10) (h0 : ¬ σ 9 (1 + s) 0 = 0) : am_D l 145 [aR 11 0, aI (nI s), aI w, aI v] σ τ (rX t) cX lX (some (aI (-9))) σ τ (rX t) := by
  refine am_D_of am_o145 am_l145 rfl ?_
  refine am_vc_ok am_k145 [] 100 ?_
  refine am_vS am_k145 am_h145 rfl rfl rfl rfl (x_within) ?_
  refine am_vc_ok am_k145 [] 100 ?_
  refine And.intro (fun g => absurd (in4 hs) (bI_0.mp g)) (fun _ => ?_)
  refine am_vS am_k145 am_h145 rfl rfl rfl rfl (x_within) ?_
  refine am_vc_ok am_k145 [] 100 ?_
  refine And.intro (fun g => absurd hw (bI_0.mp g)) (fun _ => ?_)
  refine am_vS am_k145 am_h145 rfl rfl rfl rfl (x_within) ?_
  refine am_vc_ok am_k145 [] 100 ?_
  refine And.intro (fun g => absurd hv (bI_0.mp g)) (fun _ => ?_)
  refine And.intro (vp_in_nI (N := 4) hs (by decide)) ?_
  rw [nI_clamp (n := s) (by omega)]
  refine And.intro (fun g => absurd g h0) (fun _ => ?_)
  exact am_vI am_k145 am_r145 rfl ⟨rfl, rfl, rfl, rfl, rfl, rfl⟩
theorem in10 {v : Nat} (h : v < 10) : (0 : Int32) ≤ nI v ∧ nI v < 10 := ⟨nI_pos' (by omega), nI_lt (b := 10) h (by decide)⟩
/-- the names of those that have u, as a predicate of the name -/
def nmB (u : Nat → Bool) (nm : Nat → Int32) (n : Nat) : Nat → Bool := fun a => decide (∃ q, q < n ∧ u q = true ∧ nm q = nI a)
theorem JB.nm {u : Nat → Bool} {nm : Nat → Int32} {acc : Int32} {n a : Nat} (h : JB u nm acc n) (ha : a < 16) : decide (¬ acc &&& bt a = 0) = nmB u nm n a := by
  unfold nmB
  refine decide_eq_decide.mpr ?_
  rw [h.2 a ha]
  constructor
  · intro g
    refine Classical.byContradiction fun g2 => g (fun q hq zu e => g2 ⟨q, hq, zu, e⟩)
  · rintro ⟨q, hq, zu, e⟩ g
    exact g q hq zu e
theorem JB.z0 {u : Nat → Bool} {nm : Nat → Int32} {acc : Int32} {n : Nat} (h : JB u nm acc n) (hX : ∀ k, k < n → ∃ b, b < 16 ∧ nm k = nI b) : acc = 0 ↔ fstI (nmB u nm n) 16 0 = -9 := by
  rw [h.1, fstI_none 16 0 (by omega)]
  constructor
  · intro g b _ _
    unfold nmB
    refine decide_eq_false ?_
    rintro ⟨q, hq, zu, -⟩
    rw [g q hq] at zu
    cases zu
  · intro g q hq
    obtain ⟨b, hb, eb⟩ := hX q hq
    have z := of_decide_eq_false (g b (by omega) (by omega))
    cases hu : u q with
    | false => rfl
    | true => exact absurd ⟨q, hq, hu, eb⟩ z
theorem x_unlike {s n w v : Nat} (hs : s < 4) (hw : w < 10) (hv : v < 10) (h0 : ¬ σ 9 (1 + s) 0 = 0) (hn : σ 9 (1 + s) 1 = nI n) (hn2 : n ≤ 12) (hX : ∀ k, k < n → ∃ b, b < 16 ∧ σ 32 (1 + s) k = nI b) (hI : ∀ b, b < 16 → σ 38 (1 + s) (16 * w + b) = pI (lastM (inP (σ 35 (1 + s)) (σ 36 (1 + s)) (σ 32 (1 + s)) (nI w) (nI b)) n)) : am_T l 110 [aR 11 0, aI (nI s), aI (nI w), aI (nI v)] σ τ t (fun r s2 τ2 t2 => r = some (aI (fstI (nmB (ulV σ (1 + s) (nI w) (nI v) n) (σ 32 (1 + s)) n) 16 0)) ∧ s2 = σ ∧ τ2 = τ ∧ t2 = t) := by
  refine am_T_of am_o110 am_l110 rfl ?_
  refine am_vc_ok am_k110 [35] 100 ?_
  refine am_vO am_k110 am_h110 rfl rfl rfl rfl (x_refVer_ok hs (in10 hw) (in10 hv) h0) ?_
  refine am_vc_ok am_k110 [35] 100 ?_
  refine And.intro (fun _ => ?_) (fun g => absurd rfl g)
  refine And.intro (vp_in_nI (N := 4) hs (by decide)) ?_
  rw [nI_clamp (n := s) (by omega)]
  refine am_vOT am_k110 am_h110 rfl rfl rfl rfl (x_unlikeNames (i := 1 + s) hw hn hn2 hX hI) ?_
  rintro r s2 τ2 t2 ⟨⟨acc, rfl, hJ⟩, rfl, rfl, rfl⟩
  refine am_vc_ok am_k110 [35] 100 ?_
  refine x_unlike_lp ?_ 16 0 (by omega) rfl
  refine ⟨_, rfl, rfl, rfl, ?_, rfl, rfl, rfl⟩
  rw [fstI_cg 16 0 (fun b _ hb => hJ.nm (by omega))]
theorem x_fits {s n w v : Nat} (hs : s < 4) (hw : w < 10) (hv : v < 10) (h0 : ¬ σ 9 (1 + s) 0 = 0) (hn : σ 9 (1 + s) 1 = nI n) (hn2 : n ≤ 12) (hX : ∀ k, k < n → ∃ b, b < 16 ∧ σ 32 (1 + s) k = nI b) (hI : ∀ b, b < 16 → σ 38 (1 + s) (16 * w + b) = pI (lastM (inP (σ 35 (1 + s)) (σ 36 (1 + s)) (σ 32 (1 + s)) (nI w) (nI b)) n)) : am_T l 109 [aR 11 0, aI (nI s), aI (nI w), aI (nI v)] σ τ t (fun r s2 τ2 t2 => r = some (aI (if fstI (nmB (ulV σ (1 + s) (nI w) (nI v) n) (σ 32 (1 + s)) n) 16 0 = -9 then 1 else 0)) ∧ s2 = σ ∧ τ2 = τ ∧ t2 = t) := by
  refine am_T_of am_o109 am_l109 rfl ?_
  refine am_vc_ok am_k109 [] 100 ?_
  refine am_vO am_k109 am_h109 rfl rfl rfl rfl (x_refVer_ok hs (in10 hw) (in10 hv) h0) ?_
  refine am_vc_ok am_k109 [] 100 ?_
  refine And.intro (fun _ => ?_) (fun g => absurd rfl g)
  refine And.intro (vp_in_nI (N := 4) hs (by decide)) ?_
  rw [nI_clamp (n := s) (by omega)]
  refine am_vOT am_k109 am_h109 rfl rfl rfl rfl (x_unlikeNames (i := 1 + s) hw hn hn2 hX hI) ?_
  rintro r s2 τ2 t2 ⟨⟨acc, rfl, hJ⟩, rfl, rfl, rfl⟩
  refine am_vc_ok am_k109 [] 100 ?_
  refine And.intro (fun e => ?_) (fun e => ?_)
  · have e : acc = 0 := e
    refine am_vI am_k109 am_r109 rfl ⟨_, rfl, rfl, rfl, ?_, rfl, rfl, rfl⟩
    rw [if_pos ((hJ.z0 hX).mp e)]
  · have e : ¬ acc = 0 := e
    refine am_vI am_k109 am_r109 rfl ⟨_, rfl, rfl, rfl, ?_, rfl, rfl, rfl⟩
    rw [if_neg (fun z => e ((hJ.z0 hX).mpr z))]
end L26

/-! CASES OF THE LAW: unlike, fits (the model's side) -/
section L27
variable {l : Launch} {σ σ2 s : tI} {τ τ2 : tL} {t : Option (Nat × Nat)}
def badM (so ch pr : Nat → Int32) (one other : Option Nat) : Bool := match other with
  | none => false
  | some q => match likeO so (so q) one with
    | none => decide (pr q < 0)
    | some o => decide (so o = 3) && decide (ch q < ch o)
def nmd (σ : tI) (s n : Nat) (v a : Int32) : Option Nat := lastM (inP (mA σ s 3) (mA σ s 4) (mA σ s 0) v a) n
theorem nmd_lt {s n k : Nat} {v a : Int32} (h : nmd σ s n v a = some k) : k < n := (lastM_some h).1
def badA (σ : tI) (s n : Nat) (w v : Int32) : Nat → Bool := fun a => badM (mA σ s 1) (mA σ s 2) (mA σ s 5) (nmd σ s n w (nI a)) (nmd σ s n v (nI a))
theorem m_nmd {s n : Nat} {v a : Int32} (hs : s < 4) (hn : σ 49 0 s = nI n) (hn2 : n ≤ 12) : am_D l 185 [aR 12 0, aI (nI s), aI v, aI a] σ τ (rX t) cX lX (some (aI (pI (nmd σ s n v a)))) σ τ (rX t) := m_named hs hn hn2
set_option maxHeartbeats 4000000 in
theorem m_unN_lpB {Q : tQ} {s n : Nat} {w v : Int32} (hs : s < 4) (hn : σ 49 0 s = nI n) (hn2 : n ≤ 12) (hQ : Q (some (aI (fstI (badA σ s n w v) 16 0))) σ τ (rX t) cX lX) : ∀ (d a : Nat) (m5 m6 m7 : Int32), a + d = 16 → fstI (badA σ s n w v) d a = fstI (badA σ s n w v) 16 0 → am_G l 194 Q 0 0 3 [(4, aI (nI a)), (7, aI m7), (6, aI m6), (5, aI m5), (0, aR 12 0), (1, aI (nI s)), (2, aI w), (3, aI v)] [] σ τ (rX t) cX lX
  | 0, a, m5, m6, m7, h, hf => by
    obtain rfl : a = 16 := by omega
    refine am_vc_ok am_k194 [3] 100 ?_
    refine And.intro (fun _ => ?_) (fun h1 => absurd (show (16 : Int32) ≤ nI 16 by decide) h1)
    refine am_vI am_k194 am_r194 rfl ?_
    rw [← hf] at hQ
    exact hQ
  | d + 1, a, m5, m6, m7, h, hf => by
    refine am_vc_ok am_k194 [3] 100 ?_
    refine And.intro (fun h1 => absurd h1 (nI_ge (b := 16) (by omega) (by decide))) (fun _ => ?_)
    refine am_vO am_k194 am_h194 rfl rfl rfl rfl (m_nmd (v := w) (a := nI a) hs hn hn2) ?_
    refine am_vc_ok am_k194 [3] 100 ?_
    refine am_vO am_k194 am_h194 rfl rfl rfl rfl (m_nmd (v := v) (a := nI a) hs hn hn2) ?_
    refine am_vc_ok am_k194 [3] 100 ?_
    cases h2 : nmd σ s n v (nI a) with
    | none =>
      have hbad : badA σ s n w v a = false := by unfold badA; rw [h2]; rfl
      cases h1 : nmd σ s n w (nI a) with
      | none =>
        refine And.intro (fun _ => ?_) (fun g => absurd (by decide) g)
        refine And.intro (fun _ => ?_) (fun g => absurd (by decide) g)
        refine And.intro (fun _ => ?_) (fun g => absurd rfl g)
        have K2 := m_unN_lpB hs hn hn2 hQ d (a + 1) (-9) (-9) 0 (by omega) (by rw [← hf, fstI, if_neg (by rw [hbad]; decide)])
        rw [← nI_1 a] at K2
        exact K2
      | some o =>
        have ho := nmd_lt h1
        refine And.intro (fun g => absurd g (nI_pos (n := o) (by omega))) (fun _ => ?_)
        refine And.intro (fun _ => ?_) (fun g => absurd (by decide) g)
        refine And.intro (fun _ => ?_) (fun g => absurd (by decide) g)
        refine And.intro (fun _ => ?_) (fun g => absurd rfl g)
        have K2 := m_unN_lpB hs hn hn2 hQ d (a + 1) (nI o) (-9) 0 (by omega) (by rw [← hf, fstI, if_neg (by rw [hbad]; decide)])
        rw [← nI_1 a] at K2
        exact K2
    | some q =>
      have hq := nmd_lt h2
      cases h1 : nmd σ s n w (nI a) with
      | none =>
        have hbad : badA σ s n w v a = decide (mA σ s 5 q < 0) := by unfold badA; rw [h2, h1]; rfl
        refine And.intro (fun _ => ?_) (fun g => absurd (by decide) g)
        refine And.intro (fun g => absurd g (nI_pos (n := q) (by omega))) (fun _ => ?_)
        refine am_vO am_k194 am_h194 rfl rfl rfl rfl (m_part (i := q) (w := 5) hs (by omega) (by decide)) ?_
        refine am_vc_ok am_k194 [3] 100 ?_
        refine And.intro (fun z => ?_) (fun z => ?_)
        · have z : ¬ mA σ s 5 q < 0 := Int32.not_lt.mpr z
          refine And.intro (fun _ => ?_) (fun g => absurd rfl g)
          have K2 := m_unN_lpB hs hn hn2 hQ d (a + 1) (-9) (nI q) 0 (by omega) (by rw [← hf, fstI, if_neg (by rw [hbad]; simp [z])])
          rw [← nI_1 a] at K2
          exact K2
        · have z : mA σ s 5 q < 0 := Int32.not_le.mp z
          refine And.intro (fun _ => ?_) (fun g => absurd rfl g)
          refine am_vI am_k194 am_r194 rfl ?_
          rw [← hf, fstI, if_pos (by rw [hbad]; simp [z])] at hQ
          exact hQ
      | some o =>
        have ho := nmd_lt h1
        refine And.intro (fun g => absurd g (nI_pos (n := o) (by omega))) (fun _ => ?_)
        refine And.intro (fun g => absurd g (nI_pos (n := q) (by omega))) (fun _ => ?_)
        refine am_vO am_k194 am_h194 rfl rfl rfl rfl (m_part (i := o) (w := 1) hs (by omega) (by decide)) ?_
        refine am_vc_ok am_k194 [3] 100 ?_
        refine am_vO am_k194 am_h194 rfl rfl rfl rfl (m_part (i := q) (w := 1) hs (by omega) (by decide)) ?_
        refine am_vc_ok am_k194 [3] 100 ?_
        refine And.intro (fun y => ?_) (fun y => ?_)
        · have y : mA σ s 1 o = mA σ s 1 q := y
          have hbad : badA σ s n w v a = (decide (mA σ s 1 o = 3) && decide (mA σ s 2 q < mA σ s 2 o)) := by unfold badA badM; rw [h2, h1]; simp only [likeO, if_pos y]
          refine And.intro (fun g => absurd g (nI_pos (n := q) (by omega))) (fun _ => ?_)
          refine am_vO am_k194 am_h194 rfl rfl rfl rfl (m_part (i := q) (w := 5) hs (by omega) (by decide)) ?_
          refine am_vc_ok am_k194 [3, 87] 100 ?_
          have fin : am_G l 194 Q 0 0 87 [(7, aI 1), (6, aI (nI q)), (5, aI (nI o)), (4, aI (nI a)), (0, aR 12 0), (1, aI (nI s)), (2, aI w), (3, aI v)] [] σ τ (rX t) cX lX := by
            refine am_vc_ok am_k194 [3] 100 ?_
            refine And.intro (fun g => absurd g (by decide)) (fun _ => ?_)
            refine am_vO am_k194 am_h194 rfl rfl rfl rfl (m_part (i := o) (w := 1) hs (by omega) (by decide)) ?_
            refine am_vc_ok am_k194 [3] 100 ?_
            refine And.intro (fun x => ?_) (fun x => ?_)
            · have x : mA σ s 1 o = 3 := x
              refine am_vO am_k194 am_h194 rfl rfl rfl rfl (m_part (i := o) (w := 2) hs (by omega) (by decide)) ?_
              refine am_vc_ok am_k194 [3] 100 ?_
              refine am_vO am_k194 am_h194 rfl rfl rfl rfl (m_part (i := q) (w := 2) hs (by omega) (by decide)) ?_
              refine am_vc_ok am_k194 [3] 100 ?_
              refine And.intro (fun u => ?_) (fun u => ?_)
              · have u : ¬ mA σ s 2 q < mA σ s 2 o := Int32.not_lt.mpr u
                have K2 := m_unN_lpB hs hn hn2 hQ d (a + 1) (nI o) (nI q) 1 (by omega) (by rw [← hf, fstI, if_neg (by rw [hbad]; simp [u])])
                rw [← nI_1 a] at K2
                exact K2
              · have u : mA σ s 2 q < mA σ s 2 o := Int32.not_le.mp u
                refine am_vI am_k194 am_r194 rfl ?_
                rw [← hf, fstI, if_pos (by rw [hbad]; simp [x, u])] at hQ
                exact hQ
            · have x : ¬ mA σ s 1 o = 3 := x
              have K2 := m_unN_lpB hs hn hn2 hQ d (a + 1) (nI o) (nI q) 1 (by omega) (by rw [← hf, fstI, if_neg (by rw [hbad]; simp [x])])
              rw [← nI_1 a] at K2
              exact K2
          refine And.intro (fun _ => ?_) (fun _ => ?_)
          · exact fin
          · refine And.intro (fun g => absurd g (by decide)) (fun _ => ?_)
            exact fin
        · have y : ¬ mA σ s 1 o = mA σ s 1 q := y
          have hbad : badA σ s n w v a = decide (mA σ s 5 q < 0) := by unfold badA badM; rw [h2, h1]; simp only [likeO, if_neg y]
          refine And.intro (fun g => absurd g (nI_pos (n := q) (by omega))) (fun _ => ?_)
          refine am_vO am_k194 am_h194 rfl rfl rfl rfl (m_part (i := q) (w := 5) hs (by omega) (by decide)) ?_
          refine am_vc_ok am_k194 [3] 100 ?_
          refine And.intro (fun z => ?_) (fun z => ?_)
          · have z : ¬ mA σ s 5 q < 0 := Int32.not_lt.mpr z
            refine And.intro (fun _ => ?_) (fun g => absurd rfl g)
            have K2 := m_unN_lpB hs hn hn2 hQ d (a + 1) (nI o) (nI q) 0 (by omega) (by rw [← hf, fstI, if_neg (by rw [hbad]; simp [z])])
            rw [← nI_1 a] at K2
            exact K2
          · have z : mA σ s 5 q < 0 := Int32.not_le.mp z
            refine And.intro (fun _ => ?_) (fun g => absurd rfl g)
            refine am_vI am_k194 am_r194 rfl ?_
            rw [← hf, fstI, if_pos (by rw [hbad]; simp [z])] at hQ
            exact hQ
set_option maxHeartbeats 4000000 in
theorem m_unN_lpA {Q : tQ} {s n : Nat} {w v : Int32} (hs : s < 4) (hn : σ 49 0 s = nI n) (hn2 : n ≤ 12) (hQ : Q (some (aI (fstI (badA σ s n w v) 16 0))) σ τ (rX t) cX lX) (d a : Nat) (h : a + (d + 1) = 16) (hf : fstI (badA σ s n w v) (d + 1) a = fstI (badA σ s n w v) 16 0) : am_G l 194 Q 0 0 3 [(4, aI (nI a)), (0, aR 12 0), (1, aI (nI s)), (2, aI w), (3, aI v)] [] σ τ (rX t) cX lX := by
    refine am_vc_ok am_k194 [3] 100 ?_
    refine And.intro (fun h1 => absurd h1 (nI_ge (b := 16) (by omega) (by decide))) (fun _ => ?_)
    refine am_vO am_k194 am_h194 rfl rfl rfl rfl (m_nmd (v := w) (a := nI a) hs hn hn2) ?_
    refine am_vc_ok am_k194 [3] 100 ?_
    refine am_vO am_k194 am_h194 rfl rfl rfl rfl (m_nmd (v := v) (a := nI a) hs hn hn2) ?_
    refine am_vc_ok am_k194 [3] 100 ?_
    cases h2 : nmd σ s n v (nI a) with
    | none =>
      have hbad : badA σ s n w v a = false := by unfold badA; rw [h2]; rfl
      cases h1 : nmd σ s n w (nI a) with
      | none =>
        refine And.intro (fun _ => ?_) (fun g => absurd (by decide) g)
        refine And.intro (fun _ => ?_) (fun g => absurd (by decide) g)
        refine And.intro (fun _ => ?_) (fun g => absurd rfl g)
        have K2 := m_unN_lpB (l := l) hs hn hn2 hQ d (a + 1) (-9) (-9) 0 (by omega) (by rw [← hf, fstI, if_neg (by rw [hbad]; decide)])
        rw [← nI_1 a] at K2
        exact K2
      | some o =>
        have ho := nmd_lt h1
        refine And.intro (fun g => absurd g (nI_pos (n := o) (by omega))) (fun _ => ?_)
        refine And.intro (fun _ => ?_) (fun g => absurd (by decide) g)
        refine And.intro (fun _ => ?_) (fun g => absurd (by decide) g)
        refine And.intro (fun _ => ?_) (fun g => absurd rfl g)
        have K2 := m_unN_lpB (l := l) hs hn hn2 hQ d (a + 1) (nI o) (-9) 0 (by omega) (by rw [← hf, fstI, if_neg (by rw [hbad]; decide)])
        rw [← nI_1 a] at K2
        exact K2
    | some q =>
      have hq := nmd_lt h2
      cases h1 : nmd σ s n w (nI a) with
      | none =>
        have hbad : badA σ s n w v a = decide (mA σ s 5 q < 0) := by unfold badA; rw [h2, h1]; rfl
        refine And.intro (fun _ => ?_) (fun g => absurd (by decide) g)
        refine And.intro (fun g => absurd g (nI_pos (n := q) (by omega))) (fun _ => ?_)
        refine am_vO am_k194 am_h194 rfl rfl rfl rfl (m_part (i := q) (w := 5) hs (by omega) (by decide)) ?_
        refine am_vc_ok am_k194 [3] 100 ?_
        refine And.intro (fun z => ?_) (fun z => ?_)
        · have z : ¬ mA σ s 5 q < 0 := Int32.not_lt.mpr z
          refine And.intro (fun _ => ?_) (fun g => absurd rfl g)
          have K2 := m_unN_lpB (l := l) hs hn hn2 hQ d (a + 1) (-9) (nI q) 0 (by omega) (by rw [← hf, fstI, if_neg (by rw [hbad]; simp [z])])
          rw [← nI_1 a] at K2
          exact K2
        · have z : mA σ s 5 q < 0 := Int32.not_le.mp z
          refine And.intro (fun _ => ?_) (fun g => absurd rfl g)
          refine am_vI am_k194 am_r194 rfl ?_
          rw [← hf, fstI, if_pos (by rw [hbad]; simp [z])] at hQ
          exact hQ
      | some o =>
        have ho := nmd_lt h1
        refine And.intro (fun g => absurd g (nI_pos (n := o) (by omega))) (fun _ => ?_)
        refine And.intro (fun g => absurd g (nI_pos (n := q) (by omega))) (fun _ => ?_)
        refine am_vO am_k194 am_h194 rfl rfl rfl rfl (m_part (i := o) (w := 1) hs (by omega) (by decide)) ?_
        refine am_vc_ok am_k194 [3] 100 ?_
        refine am_vO am_k194 am_h194 rfl rfl rfl rfl (m_part (i := q) (w := 1) hs (by omega) (by decide)) ?_
        refine am_vc_ok am_k194 [3] 100 ?_
        refine And.intro (fun y => ?_) (fun y => ?_)
        · have y : mA σ s 1 o = mA σ s 1 q := y
          have hbad : badA σ s n w v a = (decide (mA σ s 1 o = 3) && decide (mA σ s 2 q < mA σ s 2 o)) := by unfold badA badM; rw [h2, h1]; simp only [likeO, if_pos y]
          refine And.intro (fun g => absurd g (nI_pos (n := q) (by omega))) (fun _ => ?_)
          refine am_vO am_k194 am_h194 rfl rfl rfl rfl (m_part (i := q) (w := 5) hs (by omega) (by decide)) ?_
          refine am_vc_ok am_k194 [3, 87] 100 ?_
          have fin : am_G l 194 Q 0 0 87 [(7, aI 1), (6, aI (nI q)), (5, aI (nI o)), (4, aI (nI a)), (0, aR 12 0), (1, aI (nI s)), (2, aI w), (3, aI v)] [] σ τ (rX t) cX lX := by
            refine am_vc_ok am_k194 [3] 100 ?_
            refine And.intro (fun g => absurd g (by decide)) (fun _ => ?_)
            refine am_vO am_k194 am_h194 rfl rfl rfl rfl (m_part (i := o) (w := 1) hs (by omega) (by decide)) ?_
            refine am_vc_ok am_k194 [3] 100 ?_
            refine And.intro (fun x => ?_) (fun x => ?_)
            · have x : mA σ s 1 o = 3 := x
              refine am_vO am_k194 am_h194 rfl rfl rfl rfl (m_part (i := o) (w := 2) hs (by omega) (by decide)) ?_
              refine am_vc_ok am_k194 [3] 100 ?_
              refine am_vO am_k194 am_h194 rfl rfl rfl rfl (m_part (i := q) (w := 2) hs (by omega) (by decide)) ?_
              refine am_vc_ok am_k194 [3] 100 ?_
              refine And.intro (fun u => ?_) (fun u => ?_)
              · have u : ¬ mA σ s 2 q < mA σ s 2 o := Int32.not_lt.mpr u
                have K2 := m_unN_lpB (l := l) hs hn hn2 hQ d (a + 1) (nI o) (nI q) 1 (by omega) (by rw [← hf, fstI, if_neg (by rw [hbad]; simp [u])])
                rw [← nI_1 a] at K2
                exact K2
              · have u : mA σ s 2 q < mA σ s 2 o := Int32.not_le.mp u
                refine am_vI am_k194 am_r194 rfl ?_
                rw [← hf, fstI, if_pos (by rw [hbad]; simp [x, u])] at hQ
                exact hQ
            · have x : ¬ mA σ s 1 o = 3 := x
              have K2 := m_unN_lpB (l := l) hs hn hn2 hQ d (a + 1) (nI o) (nI q) 1 (by omega) (by rw [← hf, fstI, if_neg (by rw [hbad]; simp [x])])
              rw [← nI_1 a] at K2
              exact K2
          refine And.intro (fun _ => ?_) (fun _ => ?_)
          · exact fin
          · refine And.intro (fun g => absurd g (by decide)) (fun _ => ?_)
            exact fin
        · have y : ¬ mA σ s 1 o = mA σ s 1 q := y
          have hbad : badA σ s n w v a = decide (mA σ s 5 q < 0) := by unfold badA badM; rw [h2, h1]; simp only [likeO, if_neg y]
          refine And.intro (fun g => absurd g (nI_pos (n := q) (by omega))) (fun _ => ?_)
          refine am_vO am_k194 am_h194 rfl rfl rfl rfl (m_part (i := q) (w := 5) hs (by omega) (by decide)) ?_
          refine am_vc_ok am_k194 [3] 100 ?_
          refine And.intro (fun z => ?_) (fun z => ?_)
          · have z : ¬ mA σ s 5 q < 0 := Int32.not_lt.mpr z
            refine And.intro (fun _ => ?_) (fun g => absurd rfl g)
            have K2 := m_unN_lpB (l := l) hs hn hn2 hQ d (a + 1) (nI o) (nI q) 0 (by omega) (by rw [← hf, fstI, if_neg (by rw [hbad]; simp [z])])
            rw [← nI_1 a] at K2
            exact K2
          · have z : mA σ s 5 q < 0 := Int32.not_le.mp z
            refine And.intro (fun _ => ?_) (fun g => absurd rfl g)
            refine am_vI am_k194 am_r194 rfl ?_
            rw [← hf, fstI, if_pos (by rw [hbad]; simp [z])] at hQ
            exact hQ
theorem m_unlikeName {s n : Nat} {w v : Int32} (hs : s < 4) (hn : σ 49 0 s = nI n) (hn2 : n ≤ 12) : am_D l 194 [aR 12 0, aI (nI s), aI w, aI v] σ τ (rX t) cX lX (some (aI (fstI (badA σ s n w v) 16 0))) σ τ (rX t) := by
  refine am_D_of am_o194 am_l194 rfl ?_
  refine am_vc_ok am_k194 [3] 100 ?_
  exact m_unN_lpA hs hn hn2 ⟨rfl, rfl, rfl, rfl, rfl, rfl⟩ 15 0 (by omega) rfl
theorem m_unlike {s n : Nat} {w v : Int32} (hs : s < 4) (hw : 0 ≤ w ∧ w ≤ 9) (hv : 0 ≤ v ∧ v ≤ 9) (hn : σ 49 0 s = nI n) (hn2 : n ≤ 12) : am_D l 195 [aR 12 0, aI (nI s), aI w, aI v] σ τ (rX t) cX lX (some (aI (fstI (badA σ s n w v) 16 0))) σ τ (rX t) := by
  have h0 : ¬ σ 49 0 s < 0 := by rw [hn]; exact nI_pos (by omega)
  refine am_D_of am_o195 am_l195 rfl ?_
  refine am_vc_ok am_k195 [] 100 ?_
  refine am_vS am_k195 am_h195 rfl rfl rfl rfl (m_isVersion) ?_
  refine am_vc_ok am_k195 [] 100 ?_
  refine And.intro (fun g => absurd hw (bI_0.mp g)) (fun _ => ?_)
  refine am_vS am_k195 am_h195 rfl rfl rfl rfl (m_isVersion) ?_
  refine am_vc_ok am_k195 [] 100 ?_
  refine And.intro (fun g => absurd hv (bI_0.mp g)) (fun _ => ?_)
  refine am_vO am_k195 am_h195 rfl rfl rfl rfl (m_askedShape hs) ?_
  refine am_vc_ok am_k195 [] 100 ?_
  simp only [if_neg h0]
  refine And.intro (fun _ => ?_) (fun g => absurd (by decide) g)
  refine am_vO am_k195 am_h195 rfl rfl rfl rfl (m_unlikeName hs hn hn2) ?_
  refine am_vc_ok am_k195 [] 100 ?_
  exact am_vI am_k195 am_r195 rfl ⟨rfl, rfl, rfl, rfl, rfl, rfl⟩
theorem m_fits {s n : Nat} {w v : Int32} (hs : s < 4) (hw : 0 ≤ w ∧ w ≤ 9) (hv : 0 ≤ v ∧ v ≤ 9) (hn : σ 49 0 s = nI n) (hn2 : n ≤ 12) : am_D l 196 [aR 12 0, aI (nI s), aI w, aI v] σ τ (rX t) cX lX (some (aI (if fstI (badA σ s n w v) 16 0 = -9 then 1 else 0))) σ τ (rX t) := by
  refine am_D_of am_o196 am_l196 rfl ?_
  refine am_vc_ok am_k196 [] 100 ?_
  refine am_vO am_k196 am_h196 rfl rfl rfl rfl (m_unlike hs hw hv hn hn2) ?_
  refine am_vc_ok am_k196 [] 100 ?_
  by_cases e : fstI (badA σ s n w v) 16 0 = -9
  · simp only [if_pos e]
    refine And.intro (fun _ => ?_) (fun g => absurd e g)
    exact am_vI am_k196 am_r196 rfl ⟨rfl, rfl, rfl, rfl, rfl, rfl⟩
  · simp only [if_neg e]
    refine And.intro (fun g => absurd g e) (fun _ => ?_)
    refine And.intro (fun g => absurd (fstI_pos 16 0 (by omega) e) (Int32.not_le.mpr g)) (fun _ => ?_)
    exact am_vI am_k196 am_r196 rfl ⟨rfl, rfl, rfl, rfl, rfl, rfl⟩
end L27
