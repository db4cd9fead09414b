/-! ticks: a call changes its place (nothing of the machine here) -/
section L84
variable {l : Launch} {σ σ2 s s0 s1 A A0 A1 : tI} {τ τ2 : tL} {t : Option (Nat × Nat)} {T n m lo k c b : Nat}
theorem Rnet.tck (h : Rnet σ T n m lo k) (hT : T < 9999) : Rnet (u3 (u3 σ 3 0 4 (nI (T + 1))) 12 0 5 (nI (T + 1))) (T + 1) n m lo k := ⟨⟨rfl, rfl, hT⟩, h.2⟩
theorem cntN_upd {p q : Nat → Bool} (h : ∀ x, x ≠ c → p x = q x) (hc : c < n) : cntN q n + (if p c = true then 1 else 0) = cntN p n + (if q c = true then 1 else 0) := by
  cases hp : p c <;> cases hq : q c
  · rw [cntN_same (p := p) (q := q) (c := c) (hp.trans hq.symm) h]
  · rw [cntN_inc (p := p) (q := q) (c := c) hp hq h hc]; simp
  · rw [cntN_dec (p := p) (q := q) (c := c) hp hq h hc]; simp
  · rw [cntN_same (p := p) (q := q) (c := c) (hp.trans hq.symm) h]
theorem cnt_plc {N N2 : Nat} {y w : Int32} {P Q : Prop} [Decidable P] [Decidable Q] (h : N2 + (if P then 1 else 0) = N + (if Q then 1 else 0)) (hy : y = nI N) (hw : w + (if P then 1 else 0) = y + (if Q then 1 else 0)) : w = nI N2 := by
  subst hy
  have c1 : ∀ {u v : Int32}, u + 1 = v → u = v - 1 := fun {u v} e => by rw [← e]; simp
  by_cases p : P <;> by_cases q : Q
  · rw [if_pos p, if_pos q] at h hw
    obtain rfl : N2 = N := by omega
    have := c1 hw
    simpa using this
  · rw [if_pos p, if_neg q] at h hw
    obtain rfl : N = N2 + 1 := by omega
    rw [Int32.add_zero] at hw
    rw [c1 hw, nI_pred]
  · rw [if_neg p, if_pos q] at h hw
    obtain rfl : N2 = N + 1 := by omega
    rw [Int32.add_zero, nI_1] at hw
    exact hw
  · rw [if_neg p, if_neg q] at h hw
    obtain rfl : N2 = N := by omega
    rw [Int32.add_zero, Int32.add_zero] at hw
    exact hw
theorem Rnet0.plc (h : Rnet0 σ T n m lo k) (hc : c < n) (E : ccF σ s c) (h66 : σ 66 0 c = nI b) (hb : b < 6) (E0 : ∀ j, j ≠ 12 → j ≠ 13 → j ≠ 14 → j ≠ 15 → s 0 c j = σ 0 c j) (E13 : s 13 c = σ 13 c) (EM : ∀ q, (q = 70 ∨ q = 71 ∨ q = 72 ∨ q = 75 ∨ q = 76 ∨ q = 80 ∨ q = 81 ∨ q = 82 ∨ q = 83) → s q = σ q) (h36 : s 3 0 6 = σ 3 0 6) (e12 : s 0 c 12 = s 77 0 c) (e14 : s 0 c 14 = s 73 0 c) (e15 : s 0 c 15 = s 79 0 c) (e13 : s 77 0 c = 2 → s 0 c 13 = s 78 0 c ∧ ∃ g, 1 ≤ g ∧ g ≤ 9 ∧ s 78 0 c = nI g) (h77 : s 77 0 c = 0 ∨ s 77 0 c = 1 ∨ s 77 0 c = 2) (c5 : s 8 b 5 + (if σ 77 0 c = 1 then 1 else 0) = σ 8 b 5 + (if s 77 0 c = 1 then 1 else 0)) (c6 : s 8 b 6 + (if σ 77 0 c = 2 then 1 else 0) = σ 8 b 6 + (if s 77 0 c = 2 then 1 else 0)) (c8 : ∀ a, a ≠ b → s 8 a 5 = σ 8 a 5 ∧ s 8 a 6 = σ 8 a 6) : Rnet0 s T n m lo k := by
  obtain ⟨kR, kO, kU⟩ := h.2.2.1 c hc
  have E1 := E.1
  have EP : ∀ c2, c2 ≠ c → s 77 0 c2 = σ 77 0 c2 := fun c2 h2 => E.2.2.1 77 c2 (by decide) (by decide) (by decide) h2
  refine h.cc hc E ?_ ?_ ?_ (fun a ha => ?_) ?_
  · unfold Rcall at kR ⊢
    obtain ⟨a0, a1, a2, a3, a4, a5, a6, a7, a8, a9, b0, b1, b2, b3, b4, b5, b6, b7, b8⟩ := kR
    rw [E0 0 (by decide) (by decide) (by decide) (by decide), E0 1 (by decide) (by decide) (by decide) (by decide), E0 2 (by decide) (by decide) (by decide) (by decide), E0 3 (by decide) (by decide) (by decide) (by decide), E0 4 (by decide) (by decide) (by decide) (by decide), E0 5 (by decide) (by decide) (by decide) (by decide), E0 6 (by decide) (by decide) (by decide) (by decide), E0 7 (by decide) (by decide) (by decide) (by decide), E0 8 (by decide) (by decide) (by decide) (by decide), E0 9 (by decide) (by decide) (by decide) (by decide), E0 10 (by decide) (by decide) (by decide) (by decide), E0 16 (by decide) (by decide) (by decide) (by decide), E0 17 (by decide) (by decide) (by decide) (by decide), E0 18 (by decide) (by decide) (by decide) (by decide), E13, E1 65 rfl, E1 66 rfl, E1 67 rfl, E1 68 rfl, E1 69 rfl, E1 74 rfl, EM 70 (by decide), EM 71 (by decide), EM 72 (by decide), EM 75 (by decide), EM 76 (by decide), EM 80 (by decide), EM 81 (by decide), EM 82 (by decide), EM 83 (by decide)]
    exact ⟨a0, a1, a2, a3, a4, a5, a6, a7, a8, a9, b0, e12, e14, e15, b4, b5, b6, fun z => (e13 z).1, b8⟩
  · unfold Ocall at kO ⊢
    rw [E1 65 rfl, E1 66 rfl, E1 67 rfl, E1 68 rfl, EM 70 (by decide), EM 71 (by decide), EM 72 (by decide), EM 81 (by decide), EM 82 (by decide)]
    obtain ⟨k1, k2, ⟨x, k3, k3b, k3c, -⟩, k4, k5, k6, k7⟩ := kO
    exact ⟨k1, k2, ⟨x, k3, k3b, k3c, fun z => (e13 z).2⟩, k4, h77, k6, k7⟩
  · rw [h36, EM 71 (by decide)]; exact h.2.2.2.2.1
  · have g := (h.2.2.2.2.2.1 a ha).2.2.2.2.2.2
    rw [E1 66 rfl]
    by_cases e : a = b
    · subst e
      have cn := fun p : Int32 => cntN_upd (c := c) (n := n) (p := fun c => decide (σ 66 0 c = nI a ∧ σ 77 0 c = p)) (q := fun c => decide (σ 66 0 c = nI a ∧ s 77 0 c = p)) (fun x hx => by simp only [EP x hx]) hc
      simp only [h66, true_and, decide_eq_true_eq] at cn
      exact ⟨cnt_plc (cn 1) g.1 c5, cnt_plc (cn 2) g.2 c6⟩
    · rw [(c8 a e).1, (c8 a e).2, g.1, g.2]
      have hn : ¬ nI b = nI a := fun z => e ((nI_eq (by omega) (by omega)).mp z).symm
      constructor
      · congr 1
        exact cntN_same (c := c) (by simp [h66, hn]) (fun x hx => by simp only [EP x hx])
      · congr 1
        exact cntN_same (c := c) (by simp [h66, hn]) (fun x hx => by simp only [EP x hx])
  · intro f _ _ _ _
    rw [EM 72 (by decide)]
theorem RaccS.k81 {x c2 : Nat} (h : RaccS σ n m lo c x) (hc : c2 < n) : (σ 81 0 c2).toNatClampNeg ≤ 9 * lo := by
  obtain ⟨P, S, Rp, Kc, g1, g2, g3, g4, g5, g6, g7, g8⟩ := h
  exact (g8 c2 hc).2.2
/-- an ask finds room: it waits -/
abbrev spl (σ : tI) (c b : Nat) : tI := u3 (u3 (u3 σ 0 c 12 1) 8 b 5 (σ 8 b 5 + 1)) 77 0 c 1
theorem Rnet0.pl1 (h0 : Rnet0 σ T n m lo k) (ha : RaccS σ n m lo c 1) (hc : c < n) (h66 : σ 66 0 c = nI b) (hb : b < 6) (hp : σ 77 0 c = 0) : Rnet (spl σ c b) T n m lo k := by
  obtain ⟨kR, kO, kU⟩ := h0.2.2.1 c hc
  obtain ⟨-, -, -, -, -, -, -, -, -, -, -, k12, k14, k15, -, -, -, k13, -⟩ := kR
  have E : ccF σ (spl σ c b) c := by
    refine ⟨fun q hq => ?_, fun c2 h2 => ⟨?_, ?_⟩, fun q c2 h1 h1b h1c h2 => ?_, fun c2 y h2 hy => ?_, fun y hy => ?_, fun a y hy5 hy6 => ?_, ?_⟩
    · have z := ccK_ne hq
      funext i y
      simp [u3, z]
    · funext y; simp [u3, h2]
    · funext y; simp [u3, h2]
    · have z : q ≠ 0 ∧ q ≠ 3 ∧ q ≠ 8 ∧ q ≠ 13 ∧ q ≠ 80 := by omega
      simp [u3, h2, z]
    · simp [u3, h2]
    · simp [u3, hy]
    · simp [u3, hy5, hy6]
    · simp [u3]
  refine Rnet.join (h0.plc hc E h66 hb (fun j z1 z2 z3 z4 => by simp [u3, z1, z2, z3, z4]) (by funext y; simp [u3]) (fun q hq => by rcases hq with rfl | rfl | rfl | rfl | rfl | rfl | rfl | rfl | rfl <;> rfl) rfl (by simp [u3, k12]) (by simp [u3, k14]) (by simp [u3, k15]) (fun z => absurd (show (1 : Int32) = 2 by simpa [u3] using z) (by decide)) (by simp [u3]) (by simp [u3, hp]) (by simp [u3, hp]) (fun a ha => by simp [u3, ha])) (Racc.S (x := 0) (ha.cc E (by simp [u3]) (by simp [u3, hp]) (by simp [u3]) (by simpa [u3] using ha.k81 hc)))
/-- a cancel comes: it waits no more -/
abbrev sun (σ : tI) (c b : Nat) : tI := u3 (u3 (u3 σ 0 c 12 0) 8 b 5 (σ 8 b 5 - 1)) 77 0 c 0
theorem Rnet0.pl2 (h0 : Rnet0 σ T n m lo k) (ha : RaccS σ n m lo c 0) (hc : c < n) (h66 : σ 66 0 c = nI b) (hb : b < 6) (hp : σ 77 0 c = 1) : Rnet (sun σ c b) T n m lo k := by
  obtain ⟨kR, kO, kU⟩ := h0.2.2.1 c hc
  obtain ⟨-, -, -, -, -, -, -, -, -, -, -, k12, k14, k15, -, -, -, k13, -⟩ := kR
  have E : ccF σ (sun σ c b) c := by
    refine ⟨fun q hq => ?_, fun c2 h2 => ⟨?_, ?_⟩, fun q c2 h1 h1b h1c h2 => ?_, fun c2 y h2 hy => ?_, fun y hy => ?_, fun a y hy5 hy6 => ?_, ?_⟩
    · have z := ccK_ne hq
      funext i y
      simp [u3, z]
    · funext y; simp [u3, h2]
    · funext y; simp [u3, h2]
    · have z : q ≠ 0 ∧ q ≠ 3 ∧ q ≠ 8 ∧ q ≠ 13 ∧ q ≠ 80 := by omega
      simp [u3, h2, z]
    · simp [u3, h2]
    · simp [u3, hy]
    · simp [u3, hy5, hy6]
    · simp [u3]
  refine Rnet.join (h0.plc hc E h66 hb (fun j z1 z2 z3 z4 => by simp [u3, z1, z2, z3, z4]) (by funext y; simp [u3]) (fun q hq => by rcases hq with rfl | rfl | rfl | rfl | rfl | rfl | rfl | rfl | rfl <;> rfl) rfl (by simp [u3, k12]) (by simp [u3, k14]) (by simp [u3, k15]) (fun z => absurd (show (0 : Int32) = 2 by simpa [u3] using z) (by decide)) (by simp [u3]) (by simp [u3, hp]) (by simp [u3, hp]) (fun a ha => by simp [u3, ha])) (Racc.S (x := 0) (ha.cc E (by simp [u3]) (by simp [u3, hp]) (by simp [u3]) (by simpa [u3] using ha.k81 hc)))
/-- a tick of work -/
abbrev swk (σ : tI) (c g : Nat) : tI := u3 (u3 σ 0 c 13 (nI g)) 78 0 c (nI g)
theorem Rnet.pl3 {g : Nat} (h : Rnet σ T n m lo k) (hc : c < n) (hg : 1 ≤ g) (hg2 : g ≤ 9) (hp : σ 77 0 c = 2) : Rnet (swk σ c g) T n m lo k := by
  obtain ⟨h0, ha⟩ := h.split
  have ha : RaccS σ n m lo c 0 := ha.S0
  obtain ⟨kR, kO, kU⟩ := h0.2.2.1 c hc
  obtain ⟨-, -, -, -, -, -, -, -, -, -, -, k12, k14, k15, -, -, -, k13, -⟩ := kR
  obtain ⟨a, b, -, hb, -, -, h66⟩ := kO.1
  have E : ccF σ (swk σ c g) c := by
    refine ⟨fun q hq => ?_, fun c2 h2 => ⟨?_, ?_⟩, fun q c2 h1 h1b h1c h2 => ?_, fun c2 y h2 hy => ?_, fun y hy => ?_, fun a y hy5 hy6 => ?_, ?_⟩
    · have z := ccK_ne hq
      funext i y
      simp [u3, z]
    · funext y; simp [u3, h2]
    · funext y; simp [u3, h2]
    · have z : q ≠ 0 ∧ q ≠ 3 ∧ q ≠ 8 ∧ q ≠ 13 ∧ q ≠ 80 := by omega
      simp [u3, h2, z]
    · simp [u3, h2]
    · simp [u3, hy]
    · simp [u3, hy5, hy6]
    · simp [u3]
  refine Rnet.join (h0.plc hc E h66 hb (fun j z1 z2 z3 z4 => by simp [u3, z1, z2, z3, z4]) (by funext y; simp [u3]) (fun q hq => by rcases hq with rfl | rfl | rfl | rfl | rfl | rfl | rfl | rfl | rfl <;> rfl) rfl (by simp [u3, k12]) (by simp [u3, k14]) (by simp [u3, k15]) (fun z => ⟨by simp [u3], g, hg, hg2, by simp [u3]⟩) (by simp [u3, hp]) (by simp [u3, hp]) (by simp [u3, hp]) (fun a ha => by simp [u3, ha])) (Racc.S (x := 0) (ha.cc E (by simp [u3]) (by simp [u3, hp]) (by simp [u3]) (by simpa [u3] using ha.k81 hc)))
/-- work is done: the answer goes -/
abbrev sdn (σ : tI) (c b : Nat) (e w : Int32) : tI := u3 (u3 (u3 (u3 (u3 (u3 (u3 (u3 (u3 σ 0 c 13 0) 8 b 6 (σ 8 b 6 - 1)) 0 c 12 0) 0 c 14 e) 0 c 15 w) 78 0 c 0) 77 0 c 0) 73 0 c e) 79 0 c w
theorem Rnet.pl4 {e w x y : Int32} (h : Rnet σ T n m lo k) (hc : c < n) (h66 : σ 66 0 c = nI b) (hb : b < 6) (hp : σ 77 0 c = 2) : Rnet (ssnd (sdn σ c b e w) m c 2 x y 0 0) T n (m + 1) lo k := by
  obtain ⟨h0, ha⟩ := h.split
  have ha : RaccS σ n m lo c 0 := ha.S0
  obtain ⟨kR, kO, kU⟩ := h0.2.2.1 c hc
  obtain ⟨-, -, -, -, -, -, -, -, -, -, -, k12, k14, k15, -, -, -, k13, -⟩ := kR
  have E : ccF σ (sdn σ c b e w) c := by
    refine ⟨fun q hq => ?_, fun c2 h2 => ⟨?_, ?_⟩, fun q c2 h1 h1b h1c h2 => ?_, fun c2 y h2 hy => ?_, fun y hy => ?_, fun a y hy5 hy6 => ?_, ?_⟩
    · have z := ccK_ne hq
      funext i y
      simp [u3, z]
    · funext y; simp [u3, h2]
    · funext y; simp [u3, h2]
    · have z : q ≠ 0 ∧ q ≠ 3 ∧ q ≠ 8 ∧ q ≠ 13 ∧ q ≠ 80 := by omega
      simp [u3, h2, z]
    · simp [u3, h2]
    · simp [u3, hy]
    · simp [u3, hy5, hy6]
    · simp [u3]
  have h1 : Rnet0 (sdn σ c b e w) T n m lo k := h0.plc hc E h66 hb (fun j z1 z2 z3 z4 => by simp [u3, z1, z2, z3, z4]) (by funext y; simp [u3]) (fun q hq => by rcases hq with rfl | rfl | rfl | rfl | rfl | rfl | rfl | rfl | rfl <;> rfl) rfl (by simp [u3, k12]) (by simp [u3, k14]) (by simp [u3, k15]) (fun z => absurd (show (0 : Int32) = 2 by simpa [u3] using z) (by decide)) (by simp [u3]) (by simp [u3, hp]) (by simp [u3, hp]) (fun a ha => by simp [u3, ha])
  have a1 : RaccS (sdn σ c b e w) n m lo c 1 := ha.cc E (by simp [u3]) (by simp [u3, hp]) (by simp [u3]) (by simpa [u3] using ha.k81 hc)
  exact Rnet.join (h1.snd (by decide) hc (fun _ => rfl) (fun z => absurd z (by decide)) (fun z => absurd z (by decide)) (fun z => absurd z (by decide))) (Racc.S (x := 0) (a1.ans hc (by decide)))
/-- too late to begin: it is refused -/
abbrev slt (σ : tI) (c b : Nat) (w : Int32) : tI := u3 (u3 (u3 (u3 σ 8 b 5 (σ 8 b 5 - 1)) 0 c 12 0) 77 0 c 0) 78 0 c w
theorem Rnet.pl5 {w x y : Int32} (h : Rnet σ T n m lo k) (hc : c < n) (h66 : σ 66 0 c = nI b) (hb : b < 6) (hp : σ 77 0 c = 1) : Rnet (ssnd (slt σ c b w) m c 3 x y 6 6) T n (m + 1) lo k := by
  obtain ⟨h0, ha⟩ := h.split
  have ha : RaccS σ n m lo c 0 := ha.S0
  obtain ⟨kR, kO, kU⟩ := h0.2.2.1 c hc
  obtain ⟨-, -, -, -, -, -, -, -, -, -, -, k12, k14, k15, -, -, -, k13, -⟩ := kR
  have E : ccF σ (slt σ c b w) c := by
    refine ⟨fun q hq => ?_, fun c2 h2 => ⟨?_, ?_⟩, fun q c2 h1 h1b h1c h2 => ?_, fun c2 y h2 hy => ?_, fun y hy => ?_, fun a y hy5 hy6 => ?_, ?_⟩
    · have z := ccK_ne hq
      funext i y
      simp [u3, z]
    · funext y; simp [u3, h2]
    · funext y; simp [u3, h2]
    · have z : q ≠ 0 ∧ q ≠ 3 ∧ q ≠ 8 ∧ q ≠ 13 ∧ q ≠ 80 := by omega
      simp [u3, h2, z]
    · simp [u3, h2]
    · simp [u3, hy]
    · simp [u3, hy5, hy6]
    · simp [u3]
  have h1 : Rnet0 (slt σ c b w) T n m lo k := h0.plc hc E h66 hb (fun j z1 z2 z3 z4 => by simp [u3, z1, z2, z3, z4]) (by funext y; simp [u3]) (fun q hq => by rcases hq with rfl | rfl | rfl | rfl | rfl | rfl | rfl | rfl | rfl <;> rfl) rfl (by simp [u3, k12]) (by simp [u3, k14]) (by simp [u3, k15]) (fun z => absurd (show (0 : Int32) = 2 by simpa [u3] using z) (by decide)) (by simp [u3]) (by simp [u3, hp]) (by simp [u3, hp]) (fun a ha => by simp [u3, ha])
  have a1 : RaccS (slt σ c b w) n m lo c 1 := ha.cc E (by simp [u3]) (by simp [u3, hp]) (by simp [u3]) (by simpa [u3] using ha.k81 hc)
  exact Rnet.join (h1.snd (by decide) hc (fun _ => rfl) (fun z => absurd z (by decide)) (fun _ => ⟨6, by decide, by decide, rfl⟩) (fun z => absurd z (by decide))) (Racc.S (x := 0) (a1.ans hc (by decide)))
/-- work begins -/
abbrev sbg (σ : tI) (c b g : Nat) : tI := u3 (u3 (u3 (u3 (u3 (u3 σ 8 b 5 (σ 8 b 5 - 1)) 0 c 12 2) 0 c 13 (nI g)) 8 b 6 (σ 8 b 6 + 1)) 77 0 c 2) 78 0 c (nI g)
theorem Rnet.pl6 {g : Nat} (h : Rnet σ T n m lo k) (hc : c < n) (h66 : σ 66 0 c = nI b) (hb : b < 6) (hg : 1 ≤ g) (hg2 : g ≤ 9) (hp : σ 77 0 c = 1) : Rnet (sbg σ c b g) T n m lo k := by
  obtain ⟨h0, ha⟩ := h.split
  have ha : RaccS σ n m lo c 0 := ha.S0
  obtain ⟨kR, kO, kU⟩ := h0.2.2.1 c hc
  obtain ⟨-, -, -, -, -, -, -, -, -, -, -, k12, k14, k15, -, -, -, k13, -⟩ := kR
  have E : ccF σ (sbg σ c b g) c := by
    refine ⟨fun q hq => ?_, fun c2 h2 => ⟨?_, ?_⟩, fun q c2 h1 h1b h1c h2 => ?_, fun c2 y h2 hy => ?_, fun y hy => ?_, fun a y hy5 hy6 => ?_, ?_⟩
    · have z := ccK_ne hq
      funext i y
      simp [u3, z]
    · funext y; simp [u3, h2]
    · funext y; simp [u3, h2]
    · have z : q ≠ 0 ∧ q ≠ 3 ∧ q ≠ 8 ∧ q ≠ 13 ∧ q ≠ 80 := by omega
      simp [u3, h2, z]
    · simp [u3, h2]
    · simp [u3, hy]
    · simp [u3, hy5, hy6]
    · simp [u3]
  refine Rnet.join (h0.plc hc E h66 hb (fun j z1 z2 z3 z4 => by simp [u3, z1, z2, z3, z4]) (by funext y; simp [u3]) (fun q hq => by rcases hq with rfl | rfl | rfl | rfl | rfl | rfl | rfl | rfl | rfl <;> rfl) rfl (by simp [u3, k12]) (by simp [u3, k14]) (by simp [u3, k15]) (fun z => ⟨by simp [u3], g, hg, hg2, by simp [u3]⟩) (by simp [u3]) (by simp [u3, hp]) (by simp [u3, hp]) (fun a ha => by simp [u3, ha])) (Racc.S (x := 0) (ha.cc E (by simp [u3]) (by simp [u3, hp]) (by simp [u3]) (by simpa [u3] using ha.k81 hc)))
end L84
