/-! ticks: a frame is marked, sent; a call is given up, asked again (nothing of the machine here) -/
section L81
variable {σ σ2 s A : tI} {τ τ2 : tL} {t : Option (Nat × Nat)} {T n m lo k c : Nat}
theorem Rnet0.mrk (h : Rnet0 σ T n m lo k) (hlo : lo < m) (E : ∀ q, q ≠ 0 → q ≠ 1 → q ≠ 18 → q ≠ 88 → s q = σ q) (E0 : ∀ c j, j ≠ 11 → s 0 c j = σ 0 c j) (E0u : ∀ c, c < 30 → s 0 c 11 = if c < n ∧ σ 89 0 lo = nI c then σ 0 c 11 - 1 else σ 0 c 11) (E18 : ∀ f, f ≠ lo → s 18 0 f = σ 18 0 f ∧ s 88 0 f = σ 88 0 f) (e18 : s 18 0 lo = s 88 0 lo) (e88 : s 88 0 lo = 1 ∨ s 88 0 lo = 2) (E1 : s 1 0 0 = σ 1 0 0 ∧ s 1 0 2 = nI (lo + 1) ∧ s 1 0 1 = if s 88 0 lo = 2 then σ 1 0 1 + 1 else σ 1 0 1) : Rnet0 s T n m (lo + 1) k := by
  have d : ∀ q, (Nat.ble 2 q && Nat.ble q 17 || Nat.ble 19 q && Nat.ble q 87 || Nat.ble 89 q) = true → s q = σ q := by
    intro q z
    simp only [Bool.or_eq_true, Bool.and_eq_true, Nat.ble_eq] at z
    exact E q (by omega) (by omega) (by omega) (by omega)
  obtain ⟨g1, g2, g3, g4, g5, g6, g7, g8, g9, g10, g11, g12⟩ := h
  have hn := g2.2.2
  have eU : ∀ c, undU σ lo m c = undU s (lo + 1) m c + (if σ 89 0 lo = nI c then 1 else 0) := by
    intro c
    unfold undU
    rw [d 89 rfl]
    by_cases e : σ 89 0 lo = nI c
    · rw [if_pos e]
      exact cntN_dec (c := lo) (by simp [e]) (decide_eq_false (fun z => absurd z.1 (Nat.not_succ_le_self lo))) (fun x hx => by
        have : (lo ≤ x) = (lo + 1 ≤ x) := propext (by omega)
        simp only [this]) hlo
    · rw [if_neg e]
      exact cntN_same (c := lo) (by simp [e]) (fun x hx => by
        have : (lo ≤ x) = (lo + 1 ≤ x) := propext (by omega)
        simp only [this])
  have eC : ∀ c, Rcall σ c → Rcall s c := by
    intro c hc
    unfold Rcall at hc ⊢
    rw [E0 c 0 (by decide), E0 c 1 (by decide), E0 c 2 (by decide), E0 c 3 (by decide), E0 c 4 (by decide), E0 c 5 (by decide), E0 c 6 (by decide), E0 c 7 (by decide), E0 c 8 (by decide), E0 c 9 (by decide), E0 c 10 (by decide), E0 c 12 (by decide), E0 c 13 (by decide), E0 c 14 (by decide), E0 c 15 (by decide), E0 c 16 (by decide), E0 c 17 (by decide), E0 c 18 (by decide), d 13 rfl, d 65 rfl, d 66 rfl, d 67 rfl, d 68 rfl, d 69 rfl, d 70 rfl, d 71 rfl, d 72 rfl, d 73 rfl, d 74 rfl, d 75 rfl, d 76 rfl, d 77 rfl, d 78 rfl, d 79 rfl, d 80 rfl, d 81 rfl, d 82 rfl, d 83 rfl]
    exact hc
  have eO : ∀ c, Ocall σ c → Ocall s c := by
    intro c hc
    unfold Ocall at hc ⊢
    rw [d 65 rfl, d 66 rfl, d 67 rfl, d 68 rfl, d 70 rfl, d 71 rfl, d 72 rfl, d 77 rfl, d 78 rfl, d 81 rfl, d 82 rfl]
    exact hc
  refine ⟨?_, ?_, fun c hc => ?_, fun c h1 h2 => ?_, ?_, ?_, ?_, fun f hf => ?_, ?_, ?_, ?_, ?_⟩
  · rw [d 3 rfl, d 12 rfl]; exact g1
  · rw [d 3 rfl, d 12 rfl]; exact g2
  · obtain ⟨k1, k2, k3⟩ := g3 c hc
    refine ⟨eC c k1, eO c k2, ?_⟩
    have hu := eU c
    rw [E0u c (by omega)]
    by_cases e : σ 89 0 lo = nI c
    · rw [if_pos e] at hu
      rw [if_pos ⟨hc, e⟩, k3, hu, nI_pred]
    · rw [if_neg e] at hu
      rw [if_neg (fun z => e z.2), k3, hu, Nat.add_zero]
  · have k1 := g4 c h1 h2
    unfold Fcall at k1 ⊢
    rw [E0u c h2, if_neg (fun z => by omega), E0 c 7 (by decide), E0 c 8 (by decide), E0 c 9 (by decide), E0 c 12 (by decide), E0 c 14 (by decide), E0 c 15 (by decide), E0 c 16 (by decide), E0 c 17 (by decide), E0 c 18 (by decide), d 13 rfl, d 72 rfl, d 73 rfl, d 77 rfl, d 80 rfl, d 81 rfl, d 82 rfl, d 83 rfl]
    exact k1
  · rw [d 3 rfl, d 71 rfl]; exact g5
  · rw [d 8 rfl, d 62 rfl, d 63 rfl, d 64 rfl, d 66 rfl, d 77 rfl]; exact g6
  · rw [E1.1, d 12 rfl]; exact g7
  · obtain ⟨k1, k2⟩ := g8 f hf
    unfold Rframe at k1 ⊢
    unfold Oframe at k2 ⊢
    rw [d 14 rfl, d 15 rfl, d 16 rfl, d 17 rfl, d 19 rfl, d 20 rfl, d 84 rfl, d 85 rfl, d 86 rfl, d 87 rfl, d 89 rfl, d 90 rfl]
    refine ⟨?_, k2⟩
    obtain ⟨a0, a1, a2, a3, a4, a5, a6⟩ := k1
    refine ⟨a0, a1, a2, a3, ?_, a5, a6⟩
    by_cases e : f = lo
    · rw [e]; exact e18
    · rw [(E18 f e).1, (E18 f e).2]; exact a4
  · rw [E1.2.2, g9]
    by_cases e : s 88 0 lo = 2
    · rw [if_pos e, nI_1]
      congr 1
      refine (cntN_inc (c := lo) ?_ ?_ (fun x hx => by rw [(E18 x hx).2]) hlo).symm
      · rw [g10.2.2.2 lo (Nat.le_refl _) hlo]; decide
      · simp [e]
    · rw [if_neg e]
      congr 1
      refine cntN_same (c := lo) ?_ (fun x hx => by rw [(E18 x hx).2])
      rw [g10.2.2.2 lo (Nat.le_refl _) hlo, decide_eq_false e]
      decide
  · refine ⟨E1.2.1, by omega, fun f hf => ?_, fun f h1 h2 => ?_⟩
    · by_cases e : f = lo
      · rw [e]; exact e88
      · rw [(E18 f e).2]; exact g10.2.2.1 f (by omega)
    · rw [(E18 f (by omega)).2]; exact g10.2.2.2 f (by omega) h2
  · intro f c a1 a2 a3 a4 a5
    rw [d 84 rfl] at a3
    rw [d 89 rfl] at a4
    rw [d 90 rfl, d 72 rfl]
    exact g11 f c (by omega) a2 a3 a4 a5
  · rw [d 2 rfl, d 12 rfl, d 21 rfl, d 22 rfl, d 23 rfl, d 91 rfl, d 92 rfl, d 93 rfl]; exact g12
theorem Racc.mrk (h : Racc σ n m lo) (hlo : lo < m) (E : ∀ q, q ≠ 0 → q ≠ 1 → q ≠ 18 → q ≠ 88 → s q = σ q) : RaccS s n m (lo + 1) c (if σ 84 0 lo = 1 ∧ σ 89 0 lo = nI c then 1 else 0) := by
  obtain ⟨P, S, Rp, Kc, g1, g2, g3, g4, g5, g6, g7, g8⟩ := h
  have e : ∀ q, q = 3 ∨ q = 12 ∨ q = 71 ∨ q = 72 ∨ q = 77 ∨ q = 81 ∨ q = 84 ∨ q = 89 → s q = σ q := fun q hq => E q (by omega) (by omega) (by omega) (by omega)
  have eA : ∀ c, asksU σ lo m c = asksU s (lo + 1) m c + (if σ 84 0 lo = 1 ∧ σ 89 0 lo = nI c then 1 else 0) := by
    intro c
    unfold asksU
    rw [e 84 (by decide), e 89 (by decide)]
    by_cases h1 : σ 84 0 lo = 1 ∧ σ 89 0 lo = nI c
    · rw [if_pos h1]
      exact cntN_dec (c := lo) (by simp [h1.1, h1.2]) (decide_eq_false (fun z => absurd z.1 (Nat.not_succ_le_self lo))) (fun x hx => by
        have : (lo ≤ x) = (lo + 1 ≤ x) := propext (by omega)
        simp only [this]) hlo
    · rw [if_neg h1]
      exact cntN_same (c := lo) (by
        have : ¬ (lo ≤ lo ∧ σ 84 0 lo = 1 ∧ σ 89 0 lo = nI c) := fun z => h1 z.2
        exact (decide_eq_false this).trans (decide_eq_false (fun z => absurd z.1 (Nat.not_succ_le_self lo))).symm) (fun x hx => by
        have : (lo ≤ x) = (lo + 1 ≤ x) := propext (by omega)
        simp only [this])
  refine ⟨P, S, Rp, Kc, by rw [e 3 (by decide)]; exact g1, by rw [e 12 (by decide)]; exact g2, g3, by rw [e 3 (by decide)]; exact g4, by rw [e 12 (by decide)]; exact g5, g6, by rw [e 72 (by decide)]; exact g7, fun c2 hc2 => ?_⟩
  rw [e 71 (by decide), e 72 (by decide), e 77 (by decide), e 81 (by decide)]
  obtain ⟨k1, k2, k3⟩ := g8 c2 hc2
  refine ⟨?_, k2, by omega⟩
  rw [eA c2] at k1
  by_cases hc : c2 = c
  · subst hc
    rw [if_pos rfl]
    omega
  · rw [if_neg hc]
    omega
/-- an answer is sent -/
theorem RaccS.ans {x kd : Nat} {a b dx dm : Int32} (h : RaccS σ n m lo c (x + 1)) (hc : c < n) (hkd : 2 ≤ kd ∧ kd ≤ 6) : RaccS (ssnd σ m c kd a b dx dm) n (m + 1) lo c x := by
  obtain ⟨P, S, Rp, Kc, g1, g2, g3, g4, g5, g6, g7, g8⟩ := h
  have e : ∀ q, q = 71 ∨ q = 72 ∨ q = 77 ∨ q = 81 → ssnd σ m c kd a b dx dm q = σ q := fun q hq => ssnd_k (by omega) (by omega) (by omega) (by
    rcases hq with rfl | rfl | rfl | rfl <;> rfl)
  refine ⟨P, S, fun y => if y = c then Rp y + 1 else Rp y, Kc, ?_, ?_, g3, ?_, ?_, g6, ?_, fun c2 hc2 => ?_⟩
  · rw [← g1]; simp [ssnd, msend, xsend, xadd, u3]
  · rw [← g2]; simp [ssnd, msend, xsend, xadd, u3]
  · rw [← g4]; simp [ssnd, msend, xsend, xadd, u3]
  · rw [← g5]; simp [ssnd, msend, xsend, xadd, u3]
  · rw [e 72 (by decide), sumN_inc (f := fun y => (σ 72 0 y).toNatClampNeg + 1 + Rp y + Kc y) (c := c) (by simp; omega) (fun y hy => by simp [hy]), if_pos hc]
    omega
  · rw [asksU_snd hkd, e 71 (by decide), e 72 (by decide), e 77 (by decide), e 81 (by decide)]
    obtain ⟨k1, k2, k3⟩ := g8 c2 hc2
    refine ⟨?_, k2, k3⟩
    by_cases hcc : c2 = c
    · rw [if_pos hcc] at k1 ⊢
      show (if c2 = c then Rp c2 + 1 else Rp c2) + _ + _ + _ ≤ _
      rw [if_pos hcc]
      omega
    · rw [if_neg hcc] at k1 ⊢
      show (if c2 = c then Rp c2 + 1 else Rp c2) + _ + _ + _ ≤ _
      rw [if_neg hcc]
      exact k1
/-- a call is given up: its end, and a cancel -/
theorem Rnet.give {w hh : Nat} {a b : Int32} (h : Rnet σ T n m lo k) (hc : c < n) (h7 : σ 71 0 c = 0) (hw : σ 3 0 6 = nI (w + 1)) (hw2 : w ≤ 30) (hh1 : 1 ≤ hh) (hh2 : hh < 9) : Rnet (ssnd (sfin σ c w T hh) m c 6 a b (nI hh) (nI hh)) T n (m + 1) lo k := by
  obtain ⟨h0, ha⟩ := h.split
  refine Rnet.join ((h0.fin hc h7 hw hw2 hh1 hh2).snd (by decide) hc (fun _ => rfl) (fun z => absurd z (by decide)) (fun z => absurd z (by decide)) (fun z => absurd z (by decide))) ?_
  obtain ⟨P, S, Rp, Kc, g1, g2, g3, g4, g5, g6, g7, g8⟩ := ha
  have nh : ¬ nI hh = 0 := fun z => absurd ((nI_eq (b := 0) (by omega) (by decide)).mp z) (by omega)
  have e : ∀ q, q ≠ 0 → q ≠ 1 → q ≠ 3 → q ≠ 12 → q ≠ 71 → q ≠ 75 → kFr q = false → ssnd (sfin σ c w T hh) m c 6 a b (nI hh) (nI hh) q = σ q := by
    intro q a1 a2 a3 a4 a5 a6 a7
    rw [ssnd_k a1 a2 a4 a7]
    unfold sfin
    rw [u3_kk _ _ a6, u3_kk _ _ a5, u3_kk _ _ a3, u3_kk _ _ a1, u3_kk _ _ a1]
  have e72 := e 72 (by decide) (by decide) (by decide) (by decide) (by decide) (by decide) rfl
  have e77 := e 77 (by decide) (by decide) (by decide) (by decide) (by decide) (by decide) rfl
  have e81 := e 81 (by decide) (by decide) (by decide) (by decide) (by decide) (by decide) rfl
  have v71 : ∀ c2, ssnd (sfin σ c w T hh) m c 6 a b (nI hh) (nI hh) 71 0 c2 = if c2 = c then nI hh else σ 71 0 c2 := by
    intro c2
    rw [ssnd_k (by decide) (by decide) (by decide) rfl]
    simp [sfin, u3]
  have hK : Kc c = 0 := by
    have z := (g8 c hc).2.1
    rw [if_pos h7] at z
    omega
  have hA : ∀ c2, asksU (ssnd (sfin σ c w T hh) m c 6 a b (nI hh) (nI hh)) lo (m + 1) c2 = asksU σ lo m c2 := by
    intro c2
    rw [asksU_snd (by decide)]
    unfold asksU
    have e84 : sfin σ c w T hh 84 = σ 84 := by
      unfold sfin
      rw [u3_kk _ _ (by decide), u3_kk _ _ (by decide), u3_kk _ _ (by decide), u3_kk _ _ (by decide), u3_kk _ _ (by decide)]
    have e89 : sfin σ c w T hh 89 = σ 89 := by
      unfold sfin
      rw [u3_kk _ _ (by decide), u3_kk _ _ (by decide), u3_kk _ _ (by decide), u3_kk _ _ (by decide), u3_kk _ _ (by decide)]
    rw [e84, e89]
  refine ⟨P, S, Rp, fun x => if x = c then 1 else Kc x, ?_, ?_, g3, ?_, ?_, g6, ?_, ?_⟩
  · rw [← g1]; simp [ssnd, sfin, msend, xsend, xadd, u3]
  · rw [← g2]; simp [ssnd, sfin, msend, xsend, xadd, u3]
  · rw [← g4]; simp [ssnd, sfin, msend, xsend, xadd, u3]
  · rw [← g5]; simp [ssnd, sfin, msend, xsend, xadd, u3]
  · rw [e72, sumN_inc (f := fun x => (σ 72 0 x).toNatClampNeg + 1 + Rp x + Kc x) (c := c) (by simp [hK]) (fun x hx => by simp [hx]), if_pos hc]
    omega
  · intro c2 hc2
    rw [hA, e72, e77, v71, e81]
    refine ⟨(g8 c2 hc2).1, ?_, (g8 c2 hc2).2.2⟩
    show (if c2 = c then 1 else Kc c2) ≤ _
    by_cases hcc : c2 = c
    · rw [if_pos hcc, if_pos hcc, if_neg nh]
      exact Nat.le_refl _
    · rw [if_neg hcc, if_neg hcc]; exact (g8 c2 hc2).2.1
/-- a call ends -/
theorem RaccS.fin {w hh x : Nat} (h : RaccS σ n m lo c x) (hh1 : 1 ≤ hh) (hh2 : hh < 9) (h71 : σ 71 0 c = 0) (h81 : (σ 81 0 c).toNatClampNeg ≤ 9 * lo) : RaccS (sfin σ c w T hh) n m lo c x := by
  have nh : ¬ nI hh = 0 := fun z => absurd ((nI_eq (b := 0) (by omega) (by decide)).mp z) (by omega)
  have e : ∀ q, q ≠ 0 → q ≠ 3 → q ≠ 71 → q ≠ 75 → sfin σ c w T hh q = σ q := by
    intro q a1 a2 a3 a4
    unfold sfin
    rw [u3_kk _ _ a4, u3_kk _ _ a3, u3_kk _ _ a2, u3_kk _ _ a1, u3_kk _ _ a1]
  obtain ⟨P, S, Rp, Kc, g1, g2, g3, g4, g5, g6, g7, g8⟩ := h
  refine ⟨P, S, Rp, Kc, by rw [← g1]; simp [sfin, u3], by rw [e 12 (by decide) (by decide) (by decide) (by decide)]; exact g2, g3, by rw [← g4]; simp [sfin, u3], by rw [e 12 (by decide) (by decide) (by decide) (by decide)]; exact g5, g6, by rw [e 72 (by decide) (by decide) (by decide) (by decide)]; exact g7, fun c2 hc2 => ?_⟩
  obtain ⟨k1, k2, k3⟩ := g8 c2 hc2
  have eA : asksU (sfin σ c w T hh) lo m c2 = asksU σ lo m c2 := by
    unfold asksU
    rw [e 84 (by decide) (by decide) (by decide) (by decide), e 89 (by decide) (by decide) (by decide) (by decide)]
  have v71 : sfin σ c w T hh 71 0 c2 = if c2 = c then nI hh else σ 71 0 c2 := by simp [sfin, u3]
  rw [eA, e 72 (by decide) (by decide) (by decide) (by decide), e 77 (by decide) (by decide) (by decide) (by decide), e 81 (by decide) (by decide) (by decide) (by decide), v71]
  refine ⟨k1, ?_, k3⟩
  by_cases hcc : c2 = c
  · rw [if_pos hcc, if_neg nh]
    rw [hcc, if_pos h71] at k2
    rw [hcc]
    omega
  · rw [if_neg hcc]; exact k2
/-- a call is asked again -/
abbrev sagn (σ : tI) (c T x y : Nat) : tI := u3 (u3 (u3 (u3 (u3 (u3 σ 0 c 4 (nI y)) 0 c 9 (nI (x + 1))) 0 c 10 (nI T)) 70 0 c (nI y)) 72 0 c (nI (x + 1))) 76 0 c (nI T)
theorem Rnet.agn {x y : Nat} {a b : Int32} (h : Rnet σ T n m lo k) (hc : c < n) (h72 : σ 72 0 c = nI x) (h70 : σ 70 0 c = nI (y + 1)) (hxy : x + (y + 1) ≤ 5) (hna : ∀ f, lo ≤ f → f < m → σ 84 0 f = 1 → ¬ σ 89 0 f = nI c) : Rnet (ssnd (sagn σ c T x y) m c 1 a b 0 (nI (x + 1))) T n (m + 1) lo k := by
  obtain ⟨h0, ha⟩ := h.split
  have hn := h0.2.1.2.2
  obtain ⟨kR, kO, kU⟩ := h0.2.2.1 c hc
  have E : ccF σ (sagn σ c T x y) c := by
    refine ⟨fun q hq => ?_, fun c2 h2 => ⟨?_, ?_⟩, fun q c2 h1 _ _ h2 => ?_, fun c2 j h2 hj => ?_, fun j hj => ?_, fun a j _ _ => ?_, ?_⟩
    · have : q ≠ 0 ∧ q ≠ 70 ∧ q ≠ 72 ∧ q ≠ 76 := by
        simp only [ccK, Bool.or_eq_true, Bool.and_eq_true, Nat.ble_eq, Nat.beq_eq] at hq
        omega
      rw [sagn, u3_kk _ _ this.2.2.2, u3_kk _ _ this.2.2.1, u3_kk _ _ this.2.1, u3_kk _ _ this.1, u3_kk _ _ this.1, u3_kk _ _ this.1]
    · funext j; simp [sagn, u3, h2]
    · funext j; simp [sagn, u3]
    · simp [sagn, u3, h2, show q ≠ 0 by omega]
    · simp [sagn, u3]
    · simp [sagn, u3]
    · simp [sagn, u3]
    · simp [sagn, u3]
  have v72 : sagn σ c T x y 72 0 c = nI (x + 1) := by simp [sagn, u3]
  have vo : ∀ q, q ≠ 0 → q ≠ 70 → q ≠ 72 → q ≠ 76 → sagn σ c T x y q = σ q := fun q a1 a2 a3 a4 => by
    rw [sagn, u3_kk _ _ a4, u3_kk _ _ a3, u3_kk _ _ a2, u3_kk _ _ a1, u3_kk _ _ a1, u3_kk _ _ a1]
  have hs0 : Rnet0 (sagn σ c T x y) T n m lo k := by
    refine h0.cc hc E ?_ ?_ ?_ (fun a ha => ?_) (fun f h1 h2 h3 h4 => absurd h4 (hna f h1 h2 h3))
    · unfold Rcall at kR ⊢
      rw [vo 13 (by decide) (by decide) (by decide) (by decide), vo 65 (by decide) (by decide) (by decide) (by decide), vo 66 (by decide) (by decide) (by decide) (by decide), vo 67 (by decide) (by decide) (by decide) (by decide), vo 68 (by decide) (by decide) (by decide) (by decide), vo 69 (by decide) (by decide) (by decide) (by decide), vo 71 (by decide) (by decide) (by decide) (by decide), vo 73 (by decide) (by decide) (by decide) (by decide), vo 74 (by decide) (by decide) (by decide) (by decide), vo 75 (by decide) (by decide) (by decide) (by decide), vo 77 (by decide) (by decide) (by decide) (by decide), vo 78 (by decide) (by decide) (by decide) (by decide), vo 79 (by decide) (by decide) (by decide) (by decide), vo 80 (by decide) (by decide) (by decide) (by decide), vo 81 (by decide) (by decide) (by decide) (by decide), vo 82 (by decide) (by decide) (by decide) (by decide), vo 83 (by decide) (by decide) (by decide) (by decide)]
      obtain ⟨a0, a1, a2, a3, a4, a5, a6, a7, a8, a9, b0, b1, b2, b3, b4, b5, b6, b7, b8⟩ := kR
      refine ⟨?_, ?_, ?_, ?_, ?_, ?_, ?_, ?_, ?_, ?_, ?_, ?_, ?_, ?_, ?_, ?_, ?_, ?_, b8⟩
      · rw [← a0]; simp [sagn, u3]
      · rw [← a1]; simp [sagn, u3]
      · rw [← a2]; simp [sagn, u3]
      · rw [← a3]; simp [sagn, u3]
      · simp [sagn, u3]
      · rw [← a5]; simp [sagn, u3]
      · rw [← a6]; simp [sagn, u3]
      · rw [← a7]; simp [sagn, u3]
      · rw [← a8]; simp [sagn, u3]
      · simp [sagn, u3]
      · simp [sagn, u3]
      · rw [← b1]; simp [sagn, u3]
      · rw [← b2]; simp [sagn, u3]
      · rw [← b3]; simp [sagn, u3]
      · rw [← b4]; simp [sagn, u3]
      · rw [← b5]; simp [sagn, u3]
      · rw [← b6]; simp [sagn, u3]
      · intro z; rw [← b7 z]; simp [sagn, u3]
    · unfold Ocall at kO ⊢
      rw [vo 65 (by decide) (by decide) (by decide) (by decide), vo 66 (by decide) (by decide) (by decide) (by decide), vo 67 (by decide) (by decide) (by decide) (by decide), vo 68 (by decide) (by decide) (by decide) (by decide), vo 71 (by decide) (by decide) (by decide) (by decide), vo 77 (by decide) (by decide) (by decide) (by decide), vo 78 (by decide) (by decide) (by decide) (by decide), vo 81 (by decide) (by decide) (by decide) (by decide), vo 82 (by decide) (by decide) (by decide) (by decide), v72]
      obtain ⟨k1, k2, k3, -, k5, k6, k7⟩ := kO
      exact ⟨k1, k2, k3, ⟨x + 1, y, by omega, rfl, by simp [sagn, u3]⟩, k5, k6, k7⟩
    · rw [vo 71 (by decide) (by decide) (by decide) (by decide), vo 3 (by decide) (by decide) (by decide) (by decide)]; exact h0.2.2.2.2.1
    · rw [vo 8 (by decide) (by decide) (by decide) (by decide), vo 66 (by decide) (by decide) (by decide) (by decide), vo 77 (by decide) (by decide) (by decide) (by decide)]
      exact ⟨(h0.2.2.2.2.2.1 a ha).2.2.2.2.2.2.1, (h0.2.2.2.2.2.1 a ha).2.2.2.2.2.2.2⟩
  refine Rnet.join (hs0.snd (by decide) hc (fun z => absurd rfl z) (fun _ => v72.symm) (fun z => absurd z (by decide)) (fun z => absurd z (by decide))) ?_
  obtain ⟨P, S, Rp, Kc, g1, g2, g3, g4, g5, g6, g7, g8⟩ := ha
  generalize hs1 : sagn σ c T x y = s1 at *
  have e : ∀ q, q = 71 ∨ q = 72 ∨ q = 77 ∨ q = 81 → ssnd s1 m c 1 a b 0 (nI (x + 1)) q = s1 q := fun q hq => ssnd_k (by omega) (by omega) (by omega) (by
    rcases hq with rfl | rfl | rfl | rfl <;> rfl)
  have e72 : ∀ c2, s1 72 0 c2 = if c2 = c then nI (x + 1) else σ 72 0 c2 := fun c2 => by
    by_cases hcc : c2 = c
    · rw [if_pos hcc, hcc, v72]
    · rw [if_neg hcc, E.2.2.1 72 c2 (by decide) (by decide) (by decide) hcc]
  have v84 : ssnd s1 m c 1 a b 0 (nI (x + 1)) 84 0 m = 1 := by simp [ssnd, msend, xsend, xadd, u3]; rfl
  have v89 : ssnd s1 m c 1 a b 0 (nI (x + 1)) 89 0 m = nI c := by simp [ssnd, msend, xsend, xadd, u3]
  have hlo := h0.2.2.2.2.2.2.2.2.2.1.2.1
  have eA : ∀ c2, c2 < n → asksU (ssnd s1 m c 1 a b 0 (nI (x + 1))) lo (m + 1) c2 = asksU σ lo m c2 + (if c2 = c then 1 else 0) := by
    intro c2 hc2
    show cntN _ m + _ = _
    have e1 : cntN (fun f => decide (lo ≤ f ∧ ssnd s1 m c 1 a b 0 (nI (x + 1)) 84 0 f = 1 ∧ ssnd s1 m c 1 a b 0 (nI (x + 1)) 89 0 f = nI c2)) m = asksU σ lo m c2 := by
      refine cntN_cg (fun f hf => ?_)
      rw [ssnd_f rfl (by omega), ssnd_f rfl (by omega), E.1 84 rfl, E.1 89 rfl]
    rw [e1]
    congr 1
    show (if decide (lo ≤ m ∧ ssnd s1 m c 1 a b 0 (nI (x + 1)) 84 0 m = 1 ∧ ssnd s1 m c 1 a b 0 (nI (x + 1)) 89 0 m = nI c2) = true then 1 else 0) = _
    rw [v84, v89]
    by_cases hcc : c2 = c
    · rw [if_pos hcc, hcc]
      simp [hlo]
    · rw [if_neg hcc]
      have : ¬ (lo ≤ m ∧ (1 : Int32) = 1 ∧ nI c = nI c2) := fun z => hcc (nI_inj' (by omega) (by omega) z.2.2).symm
      exact if_neg (fun z => this (of_decide_eq_true z))
  refine ⟨P, S, Rp, Kc, ?_, ?_, g3, ?_, ?_, g6, ?_, fun c2 hc2 => ?_⟩
  · rw [← g1, ← E.2.2.2.2.1 7 (by decide)]; simp [ssnd, msend, xsend, xadd, u3]
  · rw [← g2, ← E.1 12 rfl]; simp [ssnd, msend, xsend, xadd, u3]
  · rw [← g4, ← E.2.2.2.2.1 8 (by decide)]; simp [ssnd, msend, xsend, xadd, u3]
  · rw [← g5, ← E.1 12 rfl]; simp [ssnd, msend, xsend, xadd, u3]
  · rw [e 72 (by decide)]
    have e3 : sumN (fun c => (s1 72 0 c).toNatClampNeg + 1 + Rp c + Kc c) n = sumN (fun c => (σ 72 0 c).toNatClampNeg + 1 + Rp c + Kc c) n + (if c < n then 1 else 0) := by
      refine sumN_inc (c := c) ?_ (fun z hz => ?_)
      · show (s1 72 0 c).toNatClampNeg + 1 + Rp c + Kc c = (σ 72 0 c).toNatClampNeg + 1 + Rp c + Kc c + 1
        rw [v72, h72, nI_clamp (by omega), nI_clamp (by omega)]
        omega
      · show (s1 72 0 z).toNatClampNeg + 1 + Rp z + Kc z = _
        rw [e72, if_neg hz]
    rw [e3, if_pos hc]
    omega
  · rw [eA c2 hc2, e 71 (by decide), e 72 (by decide), e 77 (by decide), e 81 (by decide), vo 71 (by decide) (by decide) (by decide) (by decide), vo 77 (by decide) (by decide) (by decide) (by decide), vo 81 (by decide) (by decide) (by decide) (by decide), e72]
    obtain ⟨k1, k2, k3⟩ := g8 c2 hc2
    refine ⟨?_, k2, k3⟩
    by_cases hcc : c2 = c
    · rw [if_pos hcc, if_pos hcc, nI_clamp (by omega)]
      rw [hcc, h72, nI_clamp (by omega)] at k1
      rw [hcc]
      omega
    · rw [if_neg hcc, if_neg hcc]
      exact k1
end L81
