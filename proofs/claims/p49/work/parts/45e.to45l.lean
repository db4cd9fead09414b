/-! ticks: a call changes its place (nothing of the machine here) -/
section L84
variable {l : Launch} {σ σ2 s s0 s1 A A0 A1 : tI} {τ τ2 : tL} {t : Option (Nat × Nat)} {T n m lo k c b : Nat}
theorem Rnet.tck (h : Rnet σ T n m lo k) (hT : T < 9999) : Rnet (u3 (u3 σ 3 0 4 (nI (T + 1))) 12 0 5 (nI (T + 1))) (T + 1) n m lo k := ⟨⟨rfl, rfl, hT⟩, h.2⟩
theorem cntN_upd {p q : Nat → Bool} (h : ∀ x, x ≠ c → p x = q x) (hc : c < n) : cntN q n + (if p c = true then 1 else 0) = cntN p n + (if q c = true then 1 else 0) := by
  cases hp : p c <;> cases hq : q c
  · rw [cntN_same (p := p) (q := q) (c := c) (hp.trans hq.symm) h]
  · rw [cntN_inc (p := p) (q := q) (c := c) hp hq h hc]; simp
  · rw [cntN_dec (p := p) (q := q) (c := c) hp hq h hc]; simp
  · rw [cntN_same (p := p) (q := q) (c := c) (hp.trans hq.symm) h]
theorem cnt_plc {N N2 : Nat} {y w : Int32} {P Q : Prop} [Decidable P] [Decidable Q] (h : N2 + (if P then 1 else 0) = N + (if Q then 1 else 0)) (hy : y = nI N) (hw : w + (if P then 1 else 0) = y + (if Q then 1 else 0)) : w = nI N2 := by
  subst hy
  have c1 : ∀ {u v : Int32}, u + 1 = v → u = v - 1 := fun {u v} e => by rw [← e]; simp
  by_cases p : P <;> by_cases q : Q
  · rw [if_pos p, if_pos q] at h hw
    obtain rfl : N2 = N := by omega
    have := c1 hw
    simpa using this
  · rw [if_pos p, if_neg q] at h hw
    obtain rfl : N = N2 + 1 := by omega
    rw [Int32.add_zero] at hw
    rw [c1 hw, nI_pred]
  · rw [if_neg p, if_pos q] at h hw
    obtain rfl : N2 = N + 1 := by omega
    rw [Int32.add_zero, nI_1] at hw
    exact hw
  · rw [if_neg p, if_neg q] at h hw
    obtain rfl : N2 = N := by omega
    rw [Int32.add_zero, Int32.add_zero] at hw
    exact hw
theorem Rnet0.plc (h : Rnet0 σ T n m lo k) (hc : c < n) (E : ccF σ s c) (h66 : σ 66 0 c = nI b) (hb : b < 6) (E0 : ∀ j, j ≠ 12 → j ≠ 13 → j ≠ 14 → j ≠ 15 → s 0 c j = σ 0 c j) (E13 : s 13 c = σ 13 c) (EM : ∀ q, (q = 70 ∨ q = 71 ∨ q = 72 ∨ q = 75 ∨ q = 76 ∨ q = 80 ∨ q = 81 ∨ q = 82 ∨ q = 83) → s q = σ q) (h36 : s 3 0 6 = σ 3 0 6) (e12 : s 0 c 12 = s 77 0 c) (e14 : s 0 c 14 = s 73 0 c) (e15 : s 0 c 15 = s 79 0 c) (e13 : s 77 0 c = 2 → s 0 c 13 = s 78 0 c ∧ ∃ g, 1 ≤ g ∧ g ≤ 9 ∧ s 78 0 c = nI g) (h77 : s 77 0 c = 0 ∨ s 77 0 c = 1 ∨ s 77 0 c = 2) (c5 : s 8 b 5 + (if σ 77 0 c = 1 then 1 else 0) = σ 8 b 5 + (if s 77 0 c = 1 then 1 else 0)) (c6 : s 8 b 6 + (if σ 77 0 c = 2 then 1 else 0) = σ 8 b 6 + (if s 77 0 c = 2 then 1 else 0)) (c8 : ∀ a, a ≠ b → s 8 a 5 = σ 8 a 5 ∧ s 8 a 6 = σ 8 a 6) : Rnet0 s T n m lo k := by
  obtain ⟨kR, kO, kU⟩ := h.2.2.1 c hc
  have E1 := E.1
  have EP : ∀ c2, c2 ≠ c → s 77 0 c2 = σ 77 0 c2 := fun c2 h2 => E.2.2.1 77 c2 (by decide) (by decide) (by decide) h2
  refine h.cc hc E ?_ ?_ ?_ (fun a ha => ?_) ?_
  · unfold Rcall at kR ⊢
    obtain ⟨a0, a1, a2, a3, a4, a5, a6, a7, a8, a9, b0, b1, b2, b3, b4, b5, b6, b7, b8⟩ := kR
    rw [E0 0 (by decide) (by decide) (by decide) (by decide), E0 1 (by decide) (by decide) (by decide) (by decide), E0 2 (by decide) (by decide) (by decide) (by decide), E0 3 (by decide) (by decide) (by decide) (by decide), E0 4 (by decide) (by decide) (by decide) (by decide), E0 5 (by decide) (by decide) (by decide) (by decide), E0 6 (by decide) (by decide) (by decide) (by decide), E0 7 (by decide) (by decide) (by decide) (by decide), E0 8 (by decide) (by decide) (by decide) (by decide), E0 9 (by decide) (by decide) (by decide) (by decide), E0 10 (by decide) (by decide) (by decide) (by decide), E0 16 (by decide) (by decide) (by decide) (by decide), E0 17 (by decide) (by decide) (by decide) (by decide), E0 18 (by decide) (by decide) (by decide) (by decide), E13, E1 65 rfl, E1 66 rfl, E1 67 rfl, E1 68 rfl, E1 69 rfl, E1 74 rfl, EM 70 (by decide), EM 71 (by decide), EM 72 (by decide), EM 75 (by decide), EM 76 (by decide), EM 80 (by decide), EM 81 (by decide), EM 82 (by decide), EM 83 (by decide)]
    exact ⟨a0, a1, a2, a3, a4, a5, a6, a7, a8, a9, b0, e12, e14, e15, b4, b5, b6, fun z => (e13 z).1, b8⟩
  · unfold Ocall at kO ⊢
    rw [E1 65 rfl, E1 66 rfl, E1 67 rfl, E1 68 rfl, EM 70 (by decide), EM 71 (by decide), EM 72 (by decide), EM 81 (by decide), EM 82 (by decide)]
    obtain ⟨k1, k2, ⟨x, k3, k3b, k3c, -⟩, k4, k5, k6, k7⟩ := kO
    exact ⟨k1, k2, ⟨x, k3, k3b, k3c, fun z => (e13 z).2⟩, k4, h77, k6, k7⟩
  · rw [h36, EM 71 (by decide)]; exact h.2.2.2.2.1
  · have g := (h.2.2.2.2.2.1 a ha).2.2.2.2.2.2
    rw [E1 66 rfl]
    by_cases e : a = b
    · subst e
      have cn := fun p : Int32 => cntN_upd (c := c) (n := n) (p := fun c => decide (σ 66 0 c = nI a ∧ σ 77 0 c = p)) (q := fun c => decide (σ 66 0 c = nI a ∧ s 77 0 c = p)) (fun x hx => by simp only [EP x hx]) hc
      simp only [h66, true_and, decide_eq_true_eq] at cn
      exact ⟨cnt_plc (cn 1) g.1 c5, cnt_plc (cn 2) g.2 c6⟩
    · rw [(c8 a e).1, (c8 a e).2, g.1, g.2]
      have hn : ¬ nI b = nI a := fun z => e ((nI_eq (by omega) (by omega)).mp z).symm
      constructor
      · congr 1
        exact cntN_same (c := c) (by simp [h66, hn]) (fun x hx => by simp only [EP x hx])
      · congr 1
        exact cntN_same (c := c) (by simp [h66, hn]) (fun x hx => by simp only [EP x hx])
  · intro f _ _ _ _
    rw [EM 72 (by decide)]
theorem RaccS.k81 {x c2 : Nat} (h : RaccS σ n m lo c x) (hc : c2 < n) : (σ 81 0 c2).toNatClampNeg ≤ 9 * lo := by
  obtain ⟨P, S, Rp, Kc, g1, g2, g3, g4, g5, g6, g7, g8⟩ := h
  exact (g8 c2 hc).2.2
/-- an ask finds room: it waits -/
abbrev spl (σ : tI) (c b : Nat) : tI := u3 (u3 (u3 σ 0 c 12 1) 8 b 5 (σ 8 b 5 + 1)) 77 0 c 1
theorem Rnet0.pl1 (h0 : Rnet0 σ T n m lo k) (ha : RaccS σ n m lo c 1) (hc : c < n) (h66 : σ 66 0 c = nI b) (hb : b < 6) (hp : σ 77 0 c = 0) : Rnet (spl σ c b) T n m lo k := by
  obtain ⟨kR, kO, kU⟩ := h0.2.2.1 c hc
  obtain ⟨-, -, -, -, -, -, -, -, -, -, -, k12, k14, k15, -, -, -, k13, -⟩ := kR
  have E : ccF σ (spl σ c b) c := by
    refine ⟨fun q hq => ?_, fun c2 h2 => ⟨?_, ?_⟩, fun q c2 h1 h1b h1c h2 => ?_, fun c2 y h2 hy => ?_, fun y hy => ?_, fun a y hy5 hy6 => ?_, ?_⟩
    · have z := ccK_ne hq
      funext i y
      simp [u3, z]
    · funext y; simp [u3, h2]
    · funext y; simp [u3, h2]
    · have z : q ≠ 0 ∧ q ≠ 3 ∧ q ≠ 8 ∧ q ≠ 13 ∧ q ≠ 80 := by omega
      simp [u3, h2, z]
    · simp [u3, h2]
    · simp [u3, hy]
    · simp [u3, hy5, hy6]
    · simp [u3]
  refine Rnet.join (h0.plc hc E h66 hb (fun j z1 z2 z3 z4 => by simp [u3, z1, z2, z3, z4]) (by funext y; simp [u3]) (fun q hq => by rcases hq with rfl | rfl | rfl | rfl | rfl | rfl | rfl | rfl | rfl <;> rfl) rfl (by simp [u3, k12]) (by simp [u3, k14]) (by simp [u3, k15]) (fun z => absurd (show (1 : Int32) = 2 by simpa [u3] using z) (by decide)) (by simp [u3]) (by simp [u3, hp]) (by simp [u3, hp]) (fun a ha => by simp [u3, ha])) (Racc.S (x := 0) (ha.cc E (by simp [u3]) (by simp [u3, hp]) (by simp [u3]) (by simpa [u3] using ha.k81 hc)))
/-- a cancel comes: it waits no more -/
abbrev sun (σ : tI) (c b : Nat) : tI := u3 (u3 (u3 σ 0 c 12 0) 8 b 5 (σ 8 b 5 - 1)) 77 0 c 0
theorem Rnet0.pl2 (h0 : Rnet0 σ T n m lo k) (ha : RaccS σ n m lo c 0) (hc : c < n) (h66 : σ 66 0 c = nI b) (hb : b < 6) (hp : σ 77 0 c = 1) : Rnet (sun σ c b) T n m lo k := by
  obtain ⟨kR, kO, kU⟩ := h0.2.2.1 c hc
  obtain ⟨-, -, -, -, -, -, -, -, -, -, -, k12, k14, k15, -, -, -, k13, -⟩ := kR
  have E : ccF σ (sun σ c b) c := by
    refine ⟨fun q hq => ?_, fun c2 h2 => ⟨?_, ?_⟩, fun q c2 h1 h1b h1c h2 => ?_, fun c2 y h2 hy => ?_, fun y hy => ?_, fun a y hy5 hy6 => ?_, ?_⟩
    · have z := ccK_ne hq
      funext i y
      simp [u3, z]
    · funext y; simp [u3, h2]
    · funext y; simp [u3, h2]
    · have z : q ≠ 0 ∧ q ≠ 3 ∧ q ≠ 8 ∧ q ≠ 13 ∧ q ≠ 80 := by omega
      simp [u3, h2, z]
    · simp [u3, h2]
    · simp [u3, hy]
    · simp [u3, hy5, hy6]
    · simp [u3]
  refine Rnet.join (h0.plc hc E h66 hb (fun j z1 z2 z3 z4 => by simp [u3, z1, z2, z3, z4]) (by funext y; simp [u3]) (fun q hq => by rcases hq with rfl | rfl | rfl | rfl | rfl | rfl | rfl | rfl | rfl <;> rfl) rfl (by simp [u3, k12]) (by simp [u3, k14]) (by simp [u3, k15]) (fun z => absurd (show (0 : Int32) = 2 by simpa [u3] using z) (by decide)) (by simp [u3]) (by simp [u3, hp]) (by simp [u3, hp]) (fun a ha => by simp [u3, ha])) (Racc.S (x := 0) (ha.cc E (by simp [u3]) (by simp [u3, hp]) (by simp [u3]) (by simpa [u3] using ha.k81 hc)))
/-- a tick of work -/
abbrev swk (σ : tI) (c g : Nat) : tI := u3 (u3 σ 0 c 13 (nI g)) 78 0 c (nI g)
theorem Rnet.pl3 {g : Nat} (h : Rnet σ T n m lo k) (hc : c < n) (hg : 1 ≤ g) (hg2 : g ≤ 9) (hp : σ 77 0 c = 2) : Rnet (swk σ c g) T n m lo k := by
  obtain ⟨h0, ha⟩ := h.split
  have ha : RaccS σ n m lo c 0 := ha.S0
  obtain ⟨kR, kO, kU⟩ := h0.2.2.1 c hc
  obtain ⟨-, -, -, -, -, -, -, -, -, -, -, k12, k14, k15, -, -, -, k13, -⟩ := kR
  obtain ⟨a, b, -, hb, -, -, h66⟩ := kO.1
  have E : ccF σ (swk σ c g) c := by
    refine ⟨fun q hq => ?_, fun c2 h2 => ⟨?_, ?_⟩, fun q c2 h1 h1b h1c h2 => ?_, fun c2 y h2 hy => ?_, fun y hy => ?_, fun a y hy5 hy6 => ?_, ?_⟩
    · have z := ccK_ne hq
      funext i y
      simp [u3, z]
    · funext y; simp [u3, h2]
    · funext y; simp [u3, h2]
    · have z : q ≠ 0 ∧ q ≠ 3 ∧ q ≠ 8 ∧ q ≠ 13 ∧ q ≠ 80 := by omega
      simp [u3, h2, z]
    · simp [u3, h2]
    · simp [u3, hy]
    · simp [u3, hy5, hy6]
    · simp [u3]
  refine Rnet.join (h0.plc hc E h66 hb (fun j z1 z2 z3 z4 => by simp [u3, z1, z2, z3, z4]) (by funext y; simp [u3]) (fun q hq => by rcases hq with rfl | rfl | rfl | rfl | rfl | rfl | rfl | rfl | rfl <;> rfl) rfl (by simp [u3, k12]) (by simp [u3, k14]) (by simp [u3, k15]) (fun z => ⟨by simp [u3], g, hg, hg2, by simp [u3]⟩) (by simp [u3, hp]) (by simp [u3, hp]) (by simp [u3, hp]) (fun a ha => by simp [u3, ha])) (Racc.S (x := 0) (ha.cc E (by simp [u3]) (by simp [u3, hp]) (by simp [u3]) (by simpa [u3] using ha.k81 hc)))
/-- work is done: the answer goes -/
abbrev sdn (σ : tI) (c b : Nat) (e w : Int32) : tI := u3 (u3 (u3 (u3 (u3 (u3 (u3 (u3 (u3 σ 0 c 13 0) 8 b 6 (σ 8 b 6 - 1)) 0 c 12 0) 0 c 14 e) 0 c 15 w) 78 0 c 0) 77 0 c 0) 73 0 c e) 79 0 c w
theorem Rnet.pl4 {e w x y : Int32} (h : Rnet σ T n m lo k) (hc : c < n) (h66 : σ 66 0 c = nI b) (hb : b < 6) (hp : σ 77 0 c = 2) : Rnet (ssnd (sdn σ c b e w) m c 2 x y 0 0) T n (m + 1) lo k := by
  obtain ⟨h0, ha⟩ := h.split
  have ha : RaccS σ n m lo c 0 := ha.S0
  obtain ⟨kR, kO, kU⟩ := h0.2.2.1 c hc
  obtain ⟨-, -, -, -, -, -, -, -, -, -, -, k12, k14, k15, -, -, -, k13, -⟩ := kR
  have E : ccF σ (sdn σ c b e w) c := by
    refine ⟨fun q hq => ?_, fun c2 h2 => ⟨?_, ?_⟩, fun q c2 h1 h1b h1c h2 => ?_, fun c2 y h2 hy => ?_, fun y hy => ?_, fun a y hy5 hy6 => ?_, ?_⟩
    · have z := ccK_ne hq
      funext i y
      simp [u3, z]
    · funext y; simp [u3, h2]
    · funext y; simp [u3, h2]
    · have z : q ≠ 0 ∧ q ≠ 3 ∧ q ≠ 8 ∧ q ≠ 13 ∧ q ≠ 80 := by omega
      simp [u3, h2, z]
    · simp [u3, h2]
    · simp [u3, hy]
    · simp [u3, hy5, hy6]
    · simp [u3]
  have h1 : Rnet0 (sdn σ c b e w) T n m lo k := h0.plc hc E h66 hb (fun j z1 z2 z3 z4 => by simp [u3, z1, z2, z3, z4]) (by funext y; simp [u3]) (fun q hq => by rcases hq with rfl | rfl | rfl | rfl | rfl | rfl | rfl | rfl | rfl <;> rfl) rfl (by simp [u3, k12]) (by simp [u3, k14]) (by simp [u3, k15]) (fun z => absurd (show (0 : Int32) = 2 by simpa [u3] using z) (by decide)) (by simp [u3]) (by simp [u3, hp]) (by simp [u3, hp]) (fun a ha => by simp [u3, ha])
  have a1 : RaccS (sdn σ c b e w) n m lo c 1 := ha.cc E (by simp [u3]) (by simp [u3, hp]) (by simp [u3]) (by simpa [u3] using ha.k81 hc)
  exact Rnet.join (h1.snd (by decide) hc (fun _ => rfl) (fun z => absurd z (by decide)) (fun z => absurd z (by decide)) (fun z => absurd z (by decide))) (Racc.S (x := 0) (a1.ans hc (by decide)))
/-- too late to begin: it is refused -/
abbrev slt (σ : tI) (c b : Nat) (w : Int32) : tI := u3 (u3 (u3 (u3 σ 8 b 5 (σ 8 b 5 - 1)) 0 c 12 0) 77 0 c 0) 78 0 c w
theorem Rnet.pl5 {w x y : Int32} (h : Rnet σ T n m lo k) (hc : c < n) (h66 : σ 66 0 c = nI b) (hb : b < 6) (hp : σ 77 0 c = 1) : Rnet (ssnd (slt σ c b w) m c 3 x y 6 6) T n (m + 1) lo k := by
  obtain ⟨h0, ha⟩ := h.split
  have ha : RaccS σ n m lo c 0 := ha.S0
  obtain ⟨kR, kO, kU⟩ := h0.2.2.1 c hc
  obtain ⟨-, -, -, -, -, -, -, -, -, -, -, k12, k14, k15, -, -, -, k13, -⟩ := kR
  have E : ccF σ (slt σ c b w) c := by
    refine ⟨fun q hq => ?_, fun c2 h2 => ⟨?_, ?_⟩, fun q c2 h1 h1b h1c h2 => ?_, fun c2 y h2 hy => ?_, fun y hy => ?_, fun a y hy5 hy6 => ?_, ?_⟩
    · have z := ccK_ne hq
      funext i y
      simp [u3, z]
    · funext y; simp [u3, h2]
    · funext y; simp [u3, h2]
    · have z : q ≠ 0 ∧ q ≠ 3 ∧ q ≠ 8 ∧ q ≠ 13 ∧ q ≠ 80 := by omega
      simp [u3, h2, z]
    · simp [u3, h2]
    · simp [u3, hy]
    · simp [u3, hy5, hy6]
    · simp [u3]
  have h1 : Rnet0 (slt σ c b w) T n m lo k := h0.plc hc E h66 hb (fun j z1 z2 z3 z4 => by simp [u3, z1, z2, z3, z4]) (by funext y; simp [u3]) (fun q hq => by rcases hq with rfl | rfl | rfl | rfl | rfl | rfl | rfl | rfl | rfl <;> rfl) rfl (by simp [u3, k12]) (by simp [u3, k14]) (by simp [u3, k15]) (fun z => absurd (show (0 : Int32) = 2 by simpa [u3] using z) (by decide)) (by simp [u3]) (by simp [u3, hp]) (by simp [u3, hp]) (fun a ha => by simp [u3, ha])
  have a1 : RaccS (slt σ c b w) n m lo c 1 := ha.cc E (by simp [u3]) (by simp [u3, hp]) (by simp [u3]) (by simpa [u3] using ha.k81 hc)
  exact Rnet.join (h1.snd (by decide) hc (fun _ => rfl) (fun z => absurd z (by decide)) (fun _ => ⟨6, by decide, by decide, rfl⟩) (fun z => absurd z (by decide))) (Racc.S (x := 0) (a1.ans hc (by decide)))
/-- work begins -/
abbrev sbg (σ : tI) (c b g : Nat) : tI := u3 (u3 (u3 (u3 (u3 (u3 σ 8 b 5 (σ 8 b 5 - 1)) 0 c 12 2) 0 c 13 (nI g)) 8 b 6 (σ 8 b 6 + 1)) 77 0 c 2) 78 0 c (nI g)
theorem Rnet.pl6 {g : Nat} (h : Rnet σ T n m lo k) (hc : c < n) (h66 : σ 66 0 c = nI b) (hb : b < 6) (hg : 1 ≤ g) (hg2 : g ≤ 9) (hp : σ 77 0 c = 1) : Rnet (sbg σ c b g) T n m lo k := by
  obtain ⟨h0, ha⟩ := h.split
  have ha : RaccS σ n m lo c 0 := ha.S0
  obtain ⟨kR, kO, kU⟩ := h0.2.2.1 c hc
  obtain ⟨-, -, -, -, -, -, -, -, -, -, -, k12, k14, k15, -, -, -, k13, -⟩ := kR
  have E : ccF σ (sbg σ c b g) c := by
    refine ⟨fun q hq => ?_, fun c2 h2 => ⟨?_, ?_⟩, fun q c2 h1 h1b h1c h2 => ?_, fun c2 y h2 hy => ?_, fun y hy => ?_, fun a y hy5 hy6 => ?_, ?_⟩
    · have z := ccK_ne hq
      funext i y
      simp [u3, z]
    · funext y; simp [u3, h2]
    · funext y; simp [u3, h2]
    · have z : q ≠ 0 ∧ q ≠ 3 ∧ q ≠ 8 ∧ q ≠ 13 ∧ q ≠ 80 := by omega
      simp [u3, h2, z]
    · simp [u3, h2]
    · simp [u3, hy]
    · simp [u3, hy5, hy6]
    · simp [u3]
  refine Rnet.join (h0.plc hc E h66 hb (fun j z1 z2 z3 z4 => by simp [u3, z1, z2, z3, z4]) (by funext y; simp [u3]) (fun q hq => by rcases hq with rfl | rfl | rfl | rfl | rfl | rfl | rfl | rfl | rfl <;> rfl) rfl (by simp [u3, k12]) (by simp [u3, k14]) (by simp [u3, k15]) (fun z => ⟨by simp [u3], g, hg, hg2, by simp [u3]⟩) (by simp [u3]) (by simp [u3, hp]) (by simp [u3, hp]) (fun a ha => by simp [u3, ha])) (Racc.S (x := 0) (ha.cc E (by simp [u3]) (by simp [u3, hp]) (by simp [u3]) (by simpa [u3] using ha.k81 hc)))
end L84

/-! ticks: work is done -/
section L85
variable {l : Launch} {σ σ2 s s0 s1 A A0 A1 : tI} {τ τ2 : tL} {t : Option (Nat × Nat)} {T n m lo k c b a : Nat}
/-- no ask among the frames from lo on -/
def NA (A : tI) (lo m : Nat) : Prop := ∀ f, lo ≤ f → f < m → ¬ A 84 0 f = 1
theorem NA.snd {kd x y z d : Int32} (h : NA A lo m) (hk : ¬ kd = 1) (e : A1 84 = A 84) : NA (msend A1 m kd x y z d) lo (m + 1) := by
  intro f h1 h2
  by_cases e2 : f = m
  · subst e2
    simpa [msend, u3] using hk
  · have : msend A1 m kd x y z d 84 0 f = A 84 0 f := by
      rw [← e]
      simp [msend, u3, e2]
    rw [this]
    exact h f h1 (by omega)
theorem NA.same (h : NA A lo m) (e : A1 84 = A 84) : NA A1 lo m := by unfold NA at h ⊢; rw [e]; exact h
def fiX (s : tI) (c b m : Nat) : tI := xsend (u3 (u3 (u3 (u3 s 8 b 6 (s 8 b 6 - 1)) 0 c 12 0) 0 c 14 (s 0 c 14 + (if s 0 c 2 = 2 then 0 else 1))) 0 c 15 (s 3 0 4 + s 8 b 4)) m c 2 (s 0 c 1) (s 0 c 0) 0
theorem x_finish (hc : c < 30) (hb : b < 6) (h1 : s 0 c 1 = nI b) (hm : s 1 0 0 = nI m) (hm2 : m < 690) : am_D l 26 [aR 3 0, aI (nI c)] s τ (rX t) cX lX none (fiX s c b m) τ (rX t) := by
  have f0 : ∀ v w : Int32, (u3 (u3 (u3 (u3 s 8 b 6 (s 8 b 6 - 1)) 0 c 12 0) 0 c 14 v) 0 c 15 w) 0 c 0 = s 0 c 0 := fun v w => by simp [u3]
  have f1 : ∀ v w : Int32, (u3 (u3 (u3 (u3 s 8 b 6 (s 8 b 6 - 1)) 0 c 12 0) 0 c 14 v) 0 c 15 w) 0 c 1 = s 0 c 1 := fun v w => by simp [u3]
  have f2 : (u3 (u3 s 8 b 6 (s 8 b 6 - 1)) 0 c 12 0) 0 c 2 = s 0 c 2 := by simp [u3]
  have f14 : (u3 (u3 s 8 b 6 (s 8 b 6 - 1)) 0 c 12 0) 0 c 14 = s 0 c 14 := by simp [u3]
  have f4 : ∀ v : Int32, (u3 (u3 (u3 s 8 b 6 (s 8 b 6 - 1)) 0 c 12 0) 0 c 14 v) 3 0 4 = s 3 0 4 := fun v => rfl
  have f84 : ∀ v : Int32, (u3 (u3 (u3 s 8 b 6 (s 8 b 6 - 1)) 0 c 12 0) 0 c 14 v) 8 b 4 = s 8 b 4 := fun v => by simp [u3]
  unfold fiX
  refine am_D_of am_o26 am_l26 rfl ?_
  refine am_vc_ok am_k26 [] 100 ?_
  refine And.intro (vp_in_nI (N := 30) hc (by decide)) ?_
  rw [nI_clamp (n := c) (by omega)]
  refine And.intro (by rw [h1]; exact vp_in_nI (N := 6) hb (by decide)) ?_
  rw [h1, nI_clamp (n := b) (by omega)]
  refine And.intro (fun z => ?_) (fun z => ?_)
  · have z : s 0 c 2 = 2 := f2.symm.trans z
    rw [if_pos z]
    refine am_vO am_k26 am_h26 rfl rfl rfl rfl (x_nsend2 (m := m) hc (by simp [u3, hm]) hm2) ?_
    refine am_vc_ok am_k26 [] 100 ?_
    refine am_vV am_k26 am_r26 rfl ⟨rfl, ?_, rfl, rfl, rfl, rfl⟩
    rw [f0, f1, f4, f84, f14, h1]
  · have z : ¬ s 0 c 2 = 2 := fun y => z (f2.trans y)
    rw [if_neg z]
    refine am_vO am_k26 am_h26 rfl rfl rfl rfl (x_nsend2 (m := m) hc (by simp [u3, hm]) hm2) ?_
    refine am_vc_ok am_k26 [] 100 ?_
    refine am_vV am_k26 am_r26 rfl ⟨rfl, ?_, rfl, rfl, rfl, rfl⟩
    rw [f0, f1, f4, f84, f14, h1]
theorem m_dw_skip {Q : tQ} (hc : c < n) (hn : σ 12 0 34 = nI n) (hn2 : n ≤ 30) (h : ¬ (σ 66 0 c = nI a ∧ σ 77 0 c = 2)) (K : am_G l 224 Q 0 0 2 [(2, aI (nI (c + 1))), (0, aR 12 0), (1, aI (nI a))] [] σ τ (rX t) cX lX) : am_G l 224 Q 0 0 2 [(2, aI (nI c)), (0, aR 12 0), (1, aI (nI a))] [] σ τ (rX t) cX lX := by
  rw [← nI_1] at K
  refine am_vc_ok am_k224 [2] 100 ?_
  refine And.intro (fun g => absurd (show nI n ≤ nI c by rw [← hn]; exact g) (nI_ge (b := n) (by omega) (by omega))) (fun _ => ?_)
  refine And.intro (vp_in_nI (N := 30) (show c < 30 by omega) (by decide)) ?_
  rw [nI_clamp (n := c) (by omega)]
  refine And.intro (fun z => ?_) (fun z => K)
  have z : σ 66 0 c = nI a := z
  refine And.intro (vp_in_nI (N := 30) (show c < 30 by omega) (by decide)) ?_
  rw [nI_clamp (n := c) (by omega)]
  exact And.intro (fun y => absurd ⟨z, y⟩ h) (fun _ => K)
theorem m_dw_work {Q : tQ} {g : Nat} (hc : c < n) (hn : σ 12 0 34 = nI n) (hn2 : n ≤ 30) (h : σ 66 0 c = nI a ∧ σ 77 0 c = 2) (hg : σ 78 0 c = nI (g + 1)) (hg1 : 1 ≤ g) (hg2 : g ≤ 9) (K : am_G l 224 Q 0 0 2 [(2, aI (nI (c + 1))), (0, aR 12 0), (1, aI (nI a))] [] (u3 σ 78 0 c (nI g)) τ (rX t) cX lX) : am_G l 224 Q 0 0 2 [(2, aI (nI c)), (0, aR 12 0), (1, aI (nI a))] [] σ τ (rX t) cX lX := by
  rw [← nI_1] at K
  have e1 : σ 78 0 c - 1 = nI g := by rw [hg, nI_pred]
  refine am_vc_ok am_k224 [2] 100 ?_
  refine And.intro (fun g => absurd (show nI n ≤ nI c by rw [← hn]; exact g) (nI_ge (b := n) (by omega) (by omega))) (fun _ => ?_)
  refine And.intro (vp_in_nI (N := 30) (show c < 30 by omega) (by decide)) ?_
  rw [nI_clamp (n := c) (by omega)]
  refine And.intro (fun _ => ?_) (fun z => absurd h.1 z)
  refine And.intro (vp_in_nI (N := 30) (show c < 30 by omega) (by decide)) ?_
  rw [nI_clamp (n := c) (by omega)]
  refine And.intro (fun _ => ?_) (fun z => absurd h.2 z)
  refine And.intro (vp_in_nI (N := 30) (show c < 30 by omega) (by decide)) ?_
  refine And.intro (vp_in_nI (N := 30) (show c < 30 by omega) (by decide)) ?_
  rw [nI_clamp (n := c) (by omega), e1]
  refine And.intro (vp_in_nI (N := 30) (show c < 30 by omega) (by decide)) ?_
  rw [nI_clamp (n := c) (by omega), u3_eq]
  exact And.intro (fun z => absurd ((nI_eq (b := 0) (by omega) (by decide)).mp z) (by omega)) (fun _ => K)
def dnM (A : tI) (c a m : Nat) : tI := msend (u3 (u3 (u3 (u3 A 78 0 c 0) 77 0 c 0) 73 0 c (A 73 0 c + (if A 67 0 c = 2 then 0 else 1))) 79 0 c (A 12 0 5 + A 64 0 a)) m 2 (A 66 0 c) (A 65 0 c) (nI c) 0
theorem m_dw_done {Q : tQ} (hc : c < n) (hn : σ 12 0 34 = nI n) (hn2 : n ≤ 30) (h : σ 66 0 c = nI a ∧ σ 77 0 c = 2) (hg : σ 78 0 c = 1) (ha : a < 6) (hm : σ 12 0 54 = nI m) (hm2 : m < 690) (K : am_G l 224 Q 0 0 2 [(2, aI (nI (c + 1))), (0, aR 12 0), (1, aI (nI a))] [] (dnM σ c a m) τ (rX t) cX lX) : am_G l 224 Q 0 0 2 [(2, aI (nI c)), (0, aR 12 0), (1, aI (nI a))] [] σ τ (rX t) cX lX := by
  rw [← nI_1] at K
  unfold dnM at K
  have e1 : σ 78 0 c - 1 = 0 := by rw [hg]; decide
  have f73 : (u3 (u3 σ 78 0 c 0) 77 0 c 0) 73 0 c = σ 73 0 c := rfl
  refine am_vc_ok am_k224 [2] 100 ?_
  refine And.intro (fun g => absurd (show nI n ≤ nI c by rw [← hn]; exact g) (nI_ge (b := n) (by omega) (by omega))) (fun _ => ?_)
  refine And.intro (vp_in_nI (N := 30) (show c < 30 by omega) (by decide)) ?_
  rw [nI_clamp (n := c) (by omega)]
  refine And.intro (fun _ => ?_) (fun z => absurd h.1 z)
  refine And.intro (vp_in_nI (N := 30) (show c < 30 by omega) (by decide)) ?_
  rw [nI_clamp (n := c) (by omega)]
  refine And.intro (fun _ => ?_) (fun z => absurd h.2 z)
  refine And.intro (vp_in_nI (N := 30) (show c < 30 by omega) (by decide)) ?_
  refine And.intro (vp_in_nI (N := 30) (show c < 30 by omega) (by decide)) ?_
  rw [nI_clamp (n := c) (by omega), e1]
  refine And.intro (vp_in_nI (N := 30) (show c < 30 by omega) (by decide)) ?_
  rw [nI_clamp (n := c) (by omega), u3_eq]
  refine And.intro (fun _ => ?_) (fun z => absurd rfl z)
  refine And.intro (vp_in_nI (N := 30) (show c < 30 by omega) (by decide)) ?_
  rw [nI_clamp (n := c) (by omega)]
  refine And.intro (vp_in_nI (N := 30) (show c < 30 by omega) (by decide)) ?_
  rw [nI_clamp (n := c) (by omega)]
  refine And.intro (vp_in_nI (N := 30) (show c < 30 by omega) (by decide)) ?_
  rw [nI_clamp (n := c) (by omega)]
  refine And.intro (fun z => ?_) (fun z => ?_)
  · have z : σ 67 0 c = 2 := z
    rw [if_pos z] at K
    refine And.intro (vp_in_nI (N := 30) (show c < 30 by omega) (by decide)) ?_
    refine And.intro (vp_in_nI (N := 6) ha (by decide)) ?_
    refine And.intro (vp_in_nI (N := 30) (show c < 30 by omega) (by decide)) ?_
    rw [nI_clamp (n := c) (by omega), nI_clamp (n := a) (by omega)]
    refine am_vO am_k224 am_h224 rfl rfl rfl rfl (m_sendBack (m := m) (show c < 30 by omega) (by simp [u3, hm]) hm2) ?_
    refine am_vc_ok am_k224 [2] 100 ?_
    exact K
  · have z : ¬ σ 67 0 c = 2 := z
    rw [if_neg z] at K
    refine And.intro (vp_in_nI (N := 30) (show c < 30 by omega) (by decide)) ?_
    refine And.intro (vp_in_nI (N := 6) ha (by decide)) ?_
    refine And.intro (vp_in_nI (N := 30) (show c < 30 by omega) (by decide)) ?_
    rw [nI_clamp (n := c) (by omega), nI_clamp (n := a) (by omega)]
    refine am_vO am_k224 am_h224 rfl rfl rfl rfl (m_sendBack (m := m) (show c < 30 by omega) (by simp [u3, hm]) hm2) ?_
    refine am_vc_ok am_k224 [2] 100 ?_
    exact K
theorem mrg_dnM : dnM (mrg s A) c a m = mrg s (dnM A c a m) := by
  unfold dnM
  rw [← mrg_msend, mrg_m rfl, mrg_m rfl, mrg_m rfl, mrg_m rfl]
  rfl
theorem mw_skip (hR : Rnet (mrg s A) T n m lo k) (hc : c < n) (h : ¬ (A 66 0 c = nI a ∧ A 77 0 c = 2)) (K : MG l 224 2 [(2, aI (nI (c + 1))), (0, aR 12 0), (1, aI (nI a))] A none A1) : MG l 224 2 [(2, aI (nI c)), (0, aR 12 0), (1, aI (nI a))] A none A1 := fun σ τ t => m_dw_skip hc hR.split.1.2.1.2.1 hR.split.1.2.1.2.2 h (K σ τ t)
theorem mw_work {g : Nat} (hR : Rnet (mrg s A) T n m lo k) (hc : c < n) (h : A 66 0 c = nI a ∧ A 77 0 c = 2) (hg : A 78 0 c = nI (g + 1)) (hg1 : 1 ≤ g) (hg2 : g ≤ 9) (K : MG l 224 2 [(2, aI (nI (c + 1))), (0, aR 12 0), (1, aI (nI a))] (u3 A 78 0 c (nI g)) none A1) : MG l 224 2 [(2, aI (nI c)), (0, aR 12 0), (1, aI (nI a))] A none A1 := fun σ τ t => m_dw_work hc hR.split.1.2.1.2.1 hR.split.1.2.1.2.2 h hg hg1 hg2 (am_Gs (mrg_m rfl).symm (K σ τ t))
theorem mw_done (hR : Rnet (mrg s A) T n m lo k) (hc : c < n) (h : A 66 0 c = nI a ∧ A 77 0 c = 2) (hg : A 78 0 c = 1) (ha : a < 6) (hm2 : m < 690) (K : MG l 224 2 [(2, aI (nI (c + 1))), (0, aR 12 0), (1, aI (nI a))] (dnM A c a m) none A1) : MG l 224 2 [(2, aI (nI c)), (0, aR 12 0), (1, aI (nI a))] A none A1 := fun σ τ t => m_dw_done hc hR.split.1.2.1.2.1 hR.split.1.2.1.2.2 h hg ha hR.split.1.2.2.2.2.2.2.1.2 hm2 (am_Gs mrg_dnM (K σ τ t))
theorem mw_end (hn : A 12 0 34 = nI n) : MG l 224 2 [(2, aI (nI n)), (0, aR 12 0), (1, aI (nI a))] A none A := by
  intro σ τ t
  refine am_vc_ok am_k224 [2] 100 ?_
  refine And.intro (fun _ => ?_) (fun g => absurd (show A 12 0 34 ≤ nI n by rw [hn]; exact Int32.le_refl _) g)
  exact am_vV am_k224 am_r224 rfl ⟨rfl, rfl, rfl, rfl, rfl, rfl⟩
theorem mw_rest (hR : Rnet (mrg s A) T n m lo k) : ∀ (d c : Nat), c + d = n → (∀ c2, c ≤ c2 → c2 < n → ¬ (A 66 0 c2 = nI a ∧ A 77 0 c2 = 2)) → MG l 224 2 [(2, aI (nI c)), (0, aR 12 0), (1, aI (nI a))] A none A
  | 0, c, h, _ => by
    obtain rfl : c = n := by omega
    exact mw_end hR.split.1.2.1.2.1
  | d + 1, c, h, hz => mw_skip hR (by omega) (hz c (Nat.le_refl _) (by omega)) (mw_rest hR d (c + 1) (by omega) (fun c2 h1 h2 => hz c2 (by omega) h2))
theorem nI_le0 {x : Nat} (h : nI x ≤ 0) (hx : x ≤ 2000) : x = 0 := by
  by_cases e : x = 0
  · exact e
  · exact absurd (show nI x ≤ nI 0 from h) (nI_ge (b := x) (by omega) (by omega))
theorem xm_work {Q : tQ} (ha : a < 6) : ∀ (d c : Nat) {s A : tI} {m : Nat}, c + d = n → Rnet (mrg s A) T n m lo k → xF s0 s → mF A0 A → NA A lo m → (∀ s1 A1 m1, MG l 224 2 [(2, aI (nI c)), (0, aR 12 0), (1, aI (nI a))] A none A1 → Rnet (mrg s1 A1) T n m1 lo k → xF s0 s1 → mF A0 A1 → NA A1 lo m1 → Q none s1 τ (rX t) cX lX) → am_G l 25 Q 0 0 2 [(2, aI (nI c)), (0, aR 3 0), (1, aI (nI a))] [] s τ (rX t) cX lX
  | 0, c, s, A, m, h, hR, hF, hM, hN, hQ => by
    obtain rfl : c = n := by omega
    have h0 := hR.split.1
    have h5 : s 3 0 5 = nI c := h0.2.1.1
    refine am_vc_ok am_k25 [] 100 ?_
    refine And.intro (fun _ => ?_) (fun g => absurd (show s 3 0 5 ≤ nI c by rw [h5]; exact Int32.le_refl _) g)
    refine am_vV am_k25 am_r25 rfl (hQ s A m (mw_end h0.2.1.2.1) hR hF hM hN)
  | d + 1, c, s, A, m, h, hR, hF, hM, hN, hQ => by
    have h0 := hR.split.1
    have hn := h0.2.1.2.2
    have h5 : s 3 0 5 = nI n := h0.2.1.1
    have h6 : s 8 a 6 = nI (cntN (fun c => decide (A 66 0 c = nI a ∧ A 77 0 c = 2)) n) := (h0.2.2.2.2.2.1 a ha).2.2.2.2.2.2.2
    have hle : cntN (fun c => decide (A 66 0 c = nI a ∧ A 77 0 c = 2)) n ≤ n := cntN_le
    obtain ⟨kR, kO, -⟩ := h0.2.2.1 c (by omega)
    obtain ⟨k0, k1, k2, -, -, -, -, -, -, -, -, k12, k14, k15, -, -, -, k13, -⟩ := kR
    have k0 : s 0 c 0 = A 65 0 c := k0
    have k1 : s 0 c 1 = A 66 0 c := k1
    have k2 : s 0 c 2 = A 67 0 c := k2
    have k12 : s 0 c 12 = A 77 0 c := k12
    have k14 : s 0 c 14 = A 73 0 c := k14
    have k4 : s 3 0 4 = A 12 0 5 := h0.1.1.trans h0.1.2.1.symm
    have k84 : s 8 a 4 = A 64 0 a := (h0.2.2.2.2.2.1 a ha).2.2.1
    refine am_vc_ok am_k25 [2] 100 ?_
    refine And.intro (fun g => absurd (show nI n ≤ nI c by rw [← h5]; exact g) (nI_ge (b := n) (by omega) (by omega))) (fun _ => ?_)
    refine And.intro (vp_in_nI (N := 6) ha (by decide)) ?_
    rw [nI_clamp (n := a) (by omega)]
    refine And.intro (fun g => ?_) (fun g => ?_)
    · have g : s 8 a 6 ≤ 0 := g
      refine am_vV am_k25 am_r25 rfl (hQ s A m ?_ hR hF hM hN)
      refine mw_rest hR (d + 1) c h (fun c2 _ h2 e => ?_)
      rw [h6] at g
      have := cntN_none (nI_le0 g (by omega)) c2 h2
      simp [e] at this
    · refine And.intro (vp_in_nI (N := 30) (show c < 30 by omega) (by decide)) ?_
      rw [nI_clamp (n := c) (by omega)]
      have KS : ¬ (A 66 0 c = nI a ∧ A 77 0 c = 2) → am_G l 25 Q 0 0 2 [(2, aI (nI c + 1)), (0, aR 3 0), (1, aI (nI a))] [] s τ (rX t) cX lX := by
        intro z
        have K := xm_work ha d (c + 1) (s := s) (A := A) (by omega) hR hF hM hN (fun s1 A1 m1 q => hQ s1 A1 m1 (mw_skip hR (by omega) z q))
        rw [← nI_1] at K
        exact K
      refine And.intro (fun z => ?_) (fun z => ?_)
      rotate_left
      · have z : ¬ s 0 c 1 = nI a := z
        exact am_Gp [0, 2, 3] rfl (KS (fun y => z (k1.trans y.1)))
      have z : s 0 c 1 = nI a := z
      refine And.intro (fun y => ?_) (fun y => ?_)
      rotate_left
      · have y : ¬ s 0 c 12 = 2 := y
        exact am_Gp [0, 2, 3] rfl (KS (fun q => y (k12.trans q.2)))
      have y : s 0 c 12 = 2 := y
      have hp : A 77 0 c = 2 := k12.symm.trans y
      have h66 : A 66 0 c = nI a := k1.symm.trans z
      have k13 : s 0 c 13 = A 78 0 c := k13 hp
      obtain ⟨-, -, ⟨w, -, -, -, hg⟩, -⟩ := kO
      obtain ⟨g1, hg1, hg2, hg3⟩ := hg hp
      have hg3 : A 78 0 c = nI g1 := hg3
      obtain ⟨g, rfl⟩ : ∃ g, g1 = g + 1 := ⟨g1 - 1, by omega⟩
      have e13 : s 0 c 13 - 1 = nI g := by rw [k13, hg3, nI_pred]
      refine And.intro (fun q => ?_) (fun q => ?_)
      · have q : 0 < nI g := by simpa [u3, e13] using q
        have hg0 : 1 ≤ g := by
          by_cases e : g = 0
          · subst e; exact absurd q (by decide)
          · omega
        have R1 := hR.pl3 (c := c) (g := g) (by omega) hg0 (by omega) hp
        unfold swk at R1
        rw [← mrg_x (q := 0) rfl, ← mrg_m (q := 78) rfl] at R1
        have K := xm_work ha d (c + 1) (s := u3 s 0 c 13 (nI g)) (A := u3 A 78 0 c (nI g)) (by omega) R1 (hF.u rfl) (hM.u rfl) (hN.same rfl) (fun s1 A1 m1 q => hQ s1 A1 m1 (mw_work hR (by omega) ⟨h66, hp⟩ hg3 hg0 (by omega) q))
        rw [← nI_1] at K
        exact am_Gp [0, 2, 3] rfl (am_Gs (by rw [e13]) K)
      · have q : ¬ 0 < nI g := by simpa [u3, e13] using q
        have hg0 : g = 0 := by
          by_cases e : g = 0
          · exact e
          · exact absurd (show nI 0 < nI g from nI_lt (by omega) (by omega)) q
        subst hg0
        have R1 := hR.pl4 (c := c) (b := a) (e := s 0 c 14 + (if s 0 c 2 = 2 then 0 else 1)) (w := s 3 0 4 + s 8 a 4) (x := s 0 c 1) (y := s 0 c 0) (by omega) h66 ha hp
        have hm2 := R1.m_le
        unfold sdn at R1
        rw [← mrg_x (q := 0) rfl, ← mrg_x (q := 8) rfl, ← mrg_x (q := 0) rfl, ← mrg_x (q := 0) rfl, ← mrg_x (q := 0) rfl, ← mrg_m (q := 78) rfl, ← mrg_m (q := 77) rfl, ← mrg_m (q := 73) rfl, ← mrg_m (q := 79) rfl, mrg_ssnd] at R1
        have e0 : ∀ j, j ≠ 13 → u3 s 0 c 13 (nI 0) 0 c j = s 0 c j := fun j hj => by simp [u3, hj]
        have eX : fiX (u3 s 0 c 13 (nI 0)) c a m = xsend (u3 (u3 (u3 (u3 (u3 s 0 c 13 (nI 0)) 8 a 6 (s 8 a 6 - 1)) 0 c 12 0) 0 c 14 (s 0 c 14 + (if s 0 c 2 = 2 then 0 else 1))) 0 c 15 (s 3 0 4 + s 8 a 4)) m c 2 (s 0 c 1) (s 0 c 0) 0 := by
          unfold fiX
          rw [e0 14 (by decide), e0 2 (by decide), e0 1 (by decide), e0 0 (by decide)]
          rfl
        have eD : dnM A c a m = msend (u3 (u3 (u3 (u3 A 78 0 c 0) 77 0 c 0) 73 0 c (s 0 c 14 + (if s 0 c 2 = 2 then 0 else 1))) 79 0 c (s 3 0 4 + s 8 a 4)) m 2 (s 0 c 1) (s 0 c 0) (nI c) 0 := by
          unfold dnM
          rw [k14, k2, k4, k84, k1, k0]
        have F1 : xF s0 (fiX (u3 s 0 c 13 (nI 0)) c a m) := by
          rw [eX]
          repeat (first | exact hF | refine xF.u ?_ rfl)
        have M1 : mF A0 (dnM A c a m) := by
          rw [eD]
          repeat (first | exact hM | refine mF.u ?_ rfl)
        refine am_vO am_k25 am_h25 rfl rfl rfl rfl (x_finish (b := a) (m := m) (show c < 30 by omega) ha (by rw [e13, e0 1 (by decide)]; exact z) (by show s 1 0 0 = nI m; exact h0.2.2.2.2.2.2.1.1) (by omega)) ?_
        refine am_vc_ok am_k25 [2] 100 ?_
        have K := xm_work ha d (c + 1) (s := fiX (u3 s 0 c 13 (nI 0)) c a m) (A := dnM A c a m) (m := m + 1) (by omega) (by rw [eX, eD]; exact R1) F1 M1 (by rw [eD]; exact hN.snd (by decide) rfl) (fun s1 A1 m1 q => hQ s1 A1 m1 (mw_done hR (by omega) ⟨h66, hp⟩ hg3 ha (by omega) q))
        rw [← nI_1] at K
        exact am_Gp [0, 2, 3] rfl (am_Gs (by rw [e13]) K)
theorem xm_finishWork (ha : a < 6) (hR : Rnet (mrg s A) T n m lo k) (hF : xF s0 s) (hM : mF A0 A) (hN : NA A lo m) : am_T l 25 [aR 3 0, aI (nI a)] s τ t (fun v s1 τ1 t1 => v = none ∧ τ1 = τ ∧ t1 = t ∧ ∃ A1 m1, MD l 224 [aR 12 0, aI (nI a)] A none A1 ∧ Rnet (mrg s1 A1) T n m1 lo k ∧ xF s0 s1 ∧ mF A0 A1 ∧ NA A1 lo m1) := by
  refine am_T_of am_o25 am_l25 rfl ?_
  refine am_vc_ok am_k25 [2] 100 ?_
  refine xm_work ha n 0 (by omega) hR hF hM hN (fun s1 A1 m1 q r f g h => ⟨t, rfl, rfl, rfl, rfl, rfl, rfl, A1, m1, fun σ τ t => ?_, r, f, g, h⟩)
  refine am_D_of am_o224 am_l224 rfl ?_
  refine am_vc_ok am_k224 [2] 100 ?_
  exact q σ τ t
end L85

/-! ticks: work begins -/
section L86
variable {l : Launch} {σ σ2 s s0 s1 A A0 A1 : tI} {τ τ2 : tL} {t : Option (Nat × Nat)} {T n m lo k c b a : Nat}
theorem x_begin_late (hc : c < 30) (hm : s 1 0 0 = nI m) (hm2 : m < 690) (h : s 0 c 6 < s 3 0 4 + s 0 c 3) : am_D l 28 [aR 3 0, aI (nI c)] s τ (rX t) cX lX none (xsend (u3 s 0 c 12 0) m c 3 (s 0 c 1) (s 0 c 0) 6) τ (rX t) := by
  have f0 : (u3 s 0 c 12 0) 0 c 0 = s 0 c 0 := by simp [u3]
  have f1 : (u3 s 0 c 12 0) 0 c 1 = s 0 c 1 := by simp [u3]
  refine am_D_of am_o28 am_l28 rfl ?_
  refine am_vc_ok am_k28 [] 100 ?_
  refine And.intro (vp_in_nI (N := 30) hc (by decide)) ?_
  rw [nI_clamp (n := c) (by omega)]
  refine And.intro (fun z => absurd h (Int32.not_lt.mpr z)) (fun z => ?_)
  refine am_vO am_k28 am_h28 rfl rfl rfl rfl (x_nsend3 (m := m) hc (by simp [u3, hm]) hm2) ?_
  refine am_vc_ok am_k28 [] 100 ?_
  refine am_vV am_k28 am_r28 rfl ⟨rfl, ?_, rfl, rfl, rfl, rfl⟩
  rw [f0, f1]
theorem x_begin_on (hc : c < 30) (hb : b < 6) (h1 : s 0 c 1 = nI b) (h : ¬ s 0 c 6 < s 3 0 4 + s 0 c 3) : am_D l 28 [aR 3 0, aI (nI c)] s τ (rX t) cX lX none (u3 (u3 (u3 s 0 c 12 2) 0 c 13 (s 0 c 3)) 8 b 6 (s 8 b 6 + 1)) τ (rX t) := by
  have f3 : (u3 s 0 c 12 2) 0 c 3 = s 0 c 3 := by simp [u3]
  have f1 : (u3 (u3 s 0 c 12 2) 0 c 13 (s 0 c 3)) 0 c 1 = nI b := by simp [u3, h1]
  refine am_D_of am_o28 am_l28 rfl ?_
  refine am_vc_ok am_k28 [] 100 ?_
  refine And.intro (vp_in_nI (N := 30) hc (by decide)) ?_
  rw [nI_clamp (n := c) (by omega)]
  refine And.intro (fun z => ?_) (fun z => absurd (Int32.not_lt.mp h) z)
  refine And.intro (by rw [f3, f1]; exact vp_in_nI (N := 6) hb (by decide)) ?_
  rw [f3, f1, nI_clamp (n := b) (by omega)]
  exact am_vV am_k28 am_r28 rfl ⟨rfl, rfl, rfl, rfl, rfl, rfl⟩
theorem m_bg_full {Q : tQ} (hn : σ 12 0 34 = nI n) (hn2 : n ≤ 30) (ha : a < 6) (h : σ 62 0 a ≤ nI (dgM σ n a)) (K : Q none σ τ (rX t) cX lX) : am_G l 225 Q 0 0 2 [(2, aI (nI c)), (0, aR 12 0), (1, aI (nI a))] [] σ τ (rX t) cX lX := by
  have pd := m_placedAt (l := l) (τ := τ) (t := t) (σ := σ) (a := nI a) (b := 2) hn hn2
  refine am_vc_ok am_k225 [2] 100 ?_
  refine And.intro (fun _ => ?_) (fun _ => ?_)
  · refine am_vV am_k225 am_r225 rfl K
  refine am_vO am_k225 am_h225 rfl rfl rfl rfl (pd) ?_
  refine am_vc_ok am_k225 [2] 100 ?_
  refine And.intro (vp_in_nI (N := 6) ha (by decide)) ?_
  rw [nI_clamp (n := a) (by omega)]
  refine And.intro (fun _ => ?_) (fun g => absurd h g)
  refine am_vV am_k225 am_r225 rfl K
theorem m_bg_skip {Q : tQ} (hc : c < n) (hn : σ 12 0 34 = nI n) (hn2 : n ≤ 30) (ha : a < 6) (h : ¬ σ 62 0 a ≤ nI (dgM σ n a)) (h2 : ¬ (σ 66 0 c = nI a ∧ σ 77 0 c = 1)) (K : am_G l 225 Q 0 0 2 [(2, aI (nI (c + 1))), (0, aR 12 0), (1, aI (nI a))] [] σ τ (rX t) cX lX) : am_G l 225 Q 0 0 2 [(2, aI (nI c)), (0, aR 12 0), (1, aI (nI a))] [] σ τ (rX t) cX lX := by
  have pd := m_placedAt (l := l) (τ := τ) (t := t) (σ := σ) (a := nI a) (b := 2) hn hn2
  rw [← nI_1] at K
  refine am_vc_ok am_k225 [2] 100 ?_
  refine And.intro (fun g => absurd (show nI n ≤ nI c by rw [← hn]; exact g) (nI_ge (b := n) (by omega) (by omega))) (fun _ => ?_)
  refine am_vO am_k225 am_h225 rfl rfl rfl rfl (pd) ?_
  refine am_vc_ok am_k225 [2] 100 ?_
  refine And.intro (vp_in_nI (N := 6) ha (by decide)) ?_
  rw [nI_clamp (n := a) (by omega)]
  refine And.intro (fun g => absurd g h) (fun _ => ?_)
  refine And.intro (vp_in_nI (N := 30) (show c < 30 by omega) (by decide)) ?_
  rw [nI_clamp (n := c) (by omega)]
  refine And.intro (fun z => ?_) (fun z => K)
  have z : σ 66 0 c = nI a := z
  refine And.intro (vp_in_nI (N := 30) (show c < 30 by omega) (by decide)) ?_
  rw [nI_clamp (n := c) (by omega)]
  exact And.intro (fun y => absurd ⟨z, y⟩ h2) (fun _ => K)
def ltM (A : tI) (c m : Nat) : tI := msend (u3 (u3 A 77 0 c 0) 78 0 c (A 68 0 c)) m 3 (A 66 0 c) (A 65 0 c) (nI c) 6
theorem m_bg_late {Q : tQ} (hc : c < n) (hn : σ 12 0 34 = nI n) (hn2 : n ≤ 30) (ha : a < 6) (h : ¬ σ 62 0 a ≤ nI (dgM σ n a)) (h2 : σ 66 0 c = nI a ∧ σ 77 0 c = 1) (hL : σ 69 0 c < σ 12 0 5 + σ 68 0 c) (hm : σ 12 0 54 = nI m) (hm2 : m < 690) (K : am_G l 225 Q 0 0 2 [(2, aI (nI (c + 1))), (0, aR 12 0), (1, aI (nI a))] [] (ltM σ c m) τ (rX t) cX lX) : am_G l 225 Q 0 0 2 [(2, aI (nI c)), (0, aR 12 0), (1, aI (nI a))] [] σ τ (rX t) cX lX := by
  have pd := m_placedAt (l := l) (τ := τ) (t := t) (σ := σ) (a := nI a) (b := 2) hn hn2
  have tl := m_tooLate (l := l) (τ := τ) (t := t) (σ := σ) (c := c) (by omega)
  rw [bI_t hL] at tl
  rw [← nI_1] at K
  unfold ltM at K
  have f77 : ∀ v : Int32, (u3 (u3 σ 77 0 c 0) 78 0 c v) 77 0 c = 0 := fun v => by simp [u3]
  refine am_vc_ok am_k225 [2] 100 ?_
  refine And.intro (fun g => absurd (show nI n ≤ nI c by rw [← hn]; exact g) (nI_ge (b := n) (by omega) (by omega))) (fun _ => ?_)
  refine am_vO am_k225 am_h225 rfl rfl rfl rfl (pd) ?_
  refine am_vc_ok am_k225 [2] 100 ?_
  refine And.intro (vp_in_nI (N := 6) ha (by decide)) ?_
  rw [nI_clamp (n := a) (by omega)]
  refine And.intro (fun g => absurd g h) (fun _ => ?_)
  refine And.intro (vp_in_nI (N := 30) (show c < 30 by omega) (by decide)) ?_
  rw [nI_clamp (n := c) (by omega)]
  refine And.intro (fun _ => ?_) (fun z => absurd h2.1 z)
  refine And.intro (vp_in_nI (N := 30) (show c < 30 by omega) (by decide)) ?_
  rw [nI_clamp (n := c) (by omega)]
  refine And.intro (fun _ => ?_) (fun z => absurd h2.2 z)
  refine am_vO am_k225 am_h225 rfl rfl rfl rfl (tl) ?_
  refine am_vc_ok am_k225 [2] 100 ?_
  refine And.intro (fun z => absurd z (by decide)) (fun _ => ?_)
  refine And.intro (vp_in_nI (N := 30) (show c < 30 by omega) (by decide)) ?_
  rw [nI_clamp (n := c) (by omega)]
  refine And.intro (vp_in_nI (N := 30) (show c < 30 by omega) (by decide)) ?_
  refine And.intro (vp_in_nI (N := 30) (show c < 30 by omega) (by decide)) ?_
  rw [nI_clamp (n := c) (by omega)]
  refine And.intro (vp_in_nI (N := 30) (show c < 30 by omega) (by decide)) ?_
  rw [nI_clamp (n := c) (by omega)]
  refine And.intro (fun _ => ?_) (fun z => absurd (f77 _) z)
  refine am_vO am_k225 am_h225 rfl rfl rfl rfl (m_sendBack (m := m) (show c < 30 by omega) (by simp [u3, hm]) hm2) ?_
  refine am_vc_ok am_k225 [2] 100 ?_
  exact K
def bgM (A : tI) (c : Nat) : tI := u3 (u3 A 77 0 c 2) 78 0 c (A 68 0 c)
theorem m_bg_on {Q : tQ} (hc : c < n) (hn : σ 12 0 34 = nI n) (hn2 : n ≤ 30) (ha : a < 6) (h : ¬ σ 62 0 a ≤ nI (dgM σ n a)) (h2 : σ 66 0 c = nI a ∧ σ 77 0 c = 1) (hL : ¬ σ 69 0 c < σ 12 0 5 + σ 68 0 c) (K : am_G l 225 Q 0 0 2 [(2, aI (nI (c + 1))), (0, aR 12 0), (1, aI (nI a))] [] (bgM σ c) τ (rX t) cX lX) : am_G l 225 Q 0 0 2 [(2, aI (nI c)), (0, aR 12 0), (1, aI (nI a))] [] σ τ (rX t) cX lX := by
  have pd := m_placedAt (l := l) (τ := τ) (t := t) (σ := σ) (a := nI a) (b := 2) hn hn2
  have tl := m_tooLate (l := l) (τ := τ) (t := t) (σ := σ) (c := c) (by omega)
  rw [bI_f hL] at tl
  rw [← nI_1] at K
  unfold bgM at K
  have f77 : ∀ v : Int32, (u3 (u3 σ 77 0 c 2) 78 0 c v) 77 0 c = 2 := fun v => by simp [u3]
  refine am_vc_ok am_k225 [2] 100 ?_
  refine And.intro (fun g => absurd (show nI n ≤ nI c by rw [← hn]; exact g) (nI_ge (b := n) (by omega) (by omega))) (fun _ => ?_)
  refine am_vO am_k225 am_h225 rfl rfl rfl rfl (pd) ?_
  refine am_vc_ok am_k225 [2] 100 ?_
  refine And.intro (vp_in_nI (N := 6) ha (by decide)) ?_
  rw [nI_clamp (n := a) (by omega)]
  refine And.intro (fun g => absurd g h) (fun _ => ?_)
  refine And.intro (vp_in_nI (N := 30) (show c < 30 by omega) (by decide)) ?_
  rw [nI_clamp (n := c) (by omega)]
  refine And.intro (fun _ => ?_) (fun z => absurd h2.1 z)
  refine And.intro (vp_in_nI (N := 30) (show c < 30 by omega) (by decide)) ?_
  rw [nI_clamp (n := c) (by omega)]
  refine And.intro (fun _ => ?_) (fun z => absurd h2.2 z)
  refine am_vO am_k225 am_h225 rfl rfl rfl rfl (tl) ?_
  refine am_vc_ok am_k225 [2] 100 ?_
  refine And.intro (fun _ => ?_) (fun z => absurd rfl z)
  refine And.intro (vp_in_nI (N := 30) (show c < 30 by omega) (by decide)) ?_
  rw [nI_clamp (n := c) (by omega)]
  refine And.intro (vp_in_nI (N := 30) (show c < 30 by omega) (by decide)) ?_
  refine And.intro (vp_in_nI (N := 30) (show c < 30 by omega) (by decide)) ?_
  rw [nI_clamp (n := c) (by omega)]
  refine And.intro (vp_in_nI (N := 30) (show c < 30 by omega) (by decide)) ?_
  rw [nI_clamp (n := c) (by omega)]
  exact And.intro (fun z => absurd ((f77 _).symm.trans z) (by decide)) (fun _ => K)
theorem mrg_ltM : ltM (mrg s A) c m = mrg s (ltM A c m) := by
  unfold ltM
  rw [← mrg_msend, mrg_m rfl, mrg_m rfl]
  rfl
theorem mrg_bgM : bgM (mrg s A) c = mrg s (bgM A c) := by
  unfold bgM
  rw [mrg_m rfl, mrg_m rfl]
  rfl
theorem mb_end (hR : Rnet (mrg s A) T n m lo k) : MG l 225 2 [(2, aI (nI n)), (0, aR 12 0), (1, aI (nI a))] A none A := by
  intro σ τ t
  refine am_vc_ok am_k225 [2] 100 ?_
  refine And.intro (fun _ => ?_) (fun g => absurd (show A 12 0 34 ≤ nI n by rw [show A 12 0 34 = nI n from hR.split.1.2.1.2.1]; exact Int32.le_refl _) g)
  exact am_vV am_k225 am_r225 rfl ⟨rfl, rfl, rfl, rfl, rfl, rfl⟩
theorem mb_full (hR : Rnet (mrg s A) T n m lo k) (ha : a < 6) (h : A 62 0 a ≤ nI (dgM A n a)) : MG l 225 2 [(2, aI (nI c)), (0, aR 12 0), (1, aI (nI a))] A none A := fun σ τ t => m_bg_full hR.split.1.2.1.2.1 hR.split.1.2.1.2.2 ha h ⟨rfl, rfl, rfl, rfl, rfl, rfl⟩
theorem mb_skip (hR : Rnet (mrg s A) T n m lo k) (hc : c < n) (ha : a < 6) (h : ¬ A 62 0 a ≤ nI (dgM A n a)) (h2 : ¬ (A 66 0 c = nI a ∧ A 77 0 c = 1)) (K : MG l 225 2 [(2, aI (nI (c + 1))), (0, aR 12 0), (1, aI (nI a))] A none A1) : MG l 225 2 [(2, aI (nI c)), (0, aR 12 0), (1, aI (nI a))] A none A1 := fun σ τ t => m_bg_skip hc hR.split.1.2.1.2.1 hR.split.1.2.1.2.2 ha h h2 (K σ τ t)
theorem mb_late (hR : Rnet (mrg s A) T n m lo k) (hc : c < n) (ha : a < 6) (h : ¬ A 62 0 a ≤ nI (dgM A n a)) (h2 : A 66 0 c = nI a ∧ A 77 0 c = 1) (hL : A 69 0 c < A 12 0 5 + A 68 0 c) (hm2 : m < 690) (K : MG l 225 2 [(2, aI (nI (c + 1))), (0, aR 12 0), (1, aI (nI a))] (ltM A c m) none A1) : MG l 225 2 [(2, aI (nI c)), (0, aR 12 0), (1, aI (nI a))] A none A1 := fun σ τ t => m_bg_late hc hR.split.1.2.1.2.1 hR.split.1.2.1.2.2 ha h h2 hL hR.split.1.2.2.2.2.2.2.1.2 hm2 (am_Gs mrg_ltM (K σ τ t))
theorem mb_on (hR : Rnet (mrg s A) T n m lo k) (hc : c < n) (ha : a < 6) (h : ¬ A 62 0 a ≤ nI (dgM A n a)) (h2 : A 66 0 c = nI a ∧ A 77 0 c = 1) (hL : ¬ A 69 0 c < A 12 0 5 + A 68 0 c) (K : MG l 225 2 [(2, aI (nI (c + 1))), (0, aR 12 0), (1, aI (nI a))] (bgM A c) none A1) : MG l 225 2 [(2, aI (nI c)), (0, aR 12 0), (1, aI (nI a))] A none A1 := fun σ τ t => m_bg_on hc hR.split.1.2.1.2.1 hR.split.1.2.1.2.2 ha h h2 hL (am_Gs mrg_bgM (K σ τ t))
theorem mb_rest (hR : Rnet (mrg s A) T n m lo k) (ha : a < 6) : ∀ (d c : Nat), c + d = n → (∀ c2, c ≤ c2 → c2 < n → ¬ (A 66 0 c2 = nI a ∧ A 77 0 c2 = 1)) → MG l 225 2 [(2, aI (nI c)), (0, aR 12 0), (1, aI (nI a))] A none A
  | 0, c, h, _ => by
    obtain rfl : c = n := by omega
    exact mb_end hR
  | d + 1, c, h, hz => by
    by_cases hf : A 62 0 a ≤ nI (dgM A n a)
    · exact mb_full hR ha hf
    · exact mb_skip hR (by omega) ha hf (hz c (Nat.le_refl _) (by omega)) (mb_rest hR ha d (c + 1) (by omega) (fun c2 h1 h2 => hz c2 (by omega) h2))
theorem xm_bgn {Q : tQ} (ha : a < 6) : ∀ (d c : Nat) {s A : tI} {m : Nat}, c + d = n → Rnet (mrg s A) T n m lo k → xF s0 s → mF A0 A → NA A lo m → (∀ s1 A1 m1, MG l 225 2 [(2, aI (nI c)), (0, aR 12 0), (1, aI (nI a))] A none A1 → Rnet (mrg s1 A1) T n m1 lo k → xF s0 s1 → mF A0 A1 → NA A1 lo m1 → Q none s1 τ (rX t) cX lX) → am_G l 27 Q 0 0 9 [(3, aI (nI c)), (2, aR 8 a), (0, aR 3 0), (1, aI (nI a))] [] s τ (rX t) cX lX
  | 0, c, s, A, m, h, hR, hF, hM, hN, hQ => by
    obtain rfl : c = n := by omega
    have h0 := hR.split.1
    have h5 : s 3 0 5 = nI c := h0.2.1.1
    refine am_vc_ok am_k27 [] 100 ?_
    refine And.intro (fun _ => ?_) (fun g => absurd (show s 3 0 5 ≤ nI c by rw [h5]; exact Int32.le_refl _) g)
    refine am_vV am_k27 am_r27 rfl (hQ s A m (mb_end hR) hR hF hM hN)
  | d + 1, c, s, A, m, h, hR, hF, hM, hN, hQ => by
    have h0 := hR.split.1
    have hn := h0.2.1.2.2
    have h5 : s 3 0 5 = nI n := h0.2.1.1
    have h85 : s 8 a 5 = nI (cntN (fun c => decide (A 66 0 c = nI a ∧ A 77 0 c = 1)) n) := (h0.2.2.2.2.2.1 a ha).2.2.2.2.2.2.1
    have h86 : s 8 a 6 = nI (dgM A n a) := (h0.2.2.2.2.2.1 a ha).2.2.2.2.2.2.2
    have h82 : s 8 a 2 = A 62 0 a := (h0.2.2.2.2.2.1 a ha).1
    have hle : cntN (fun c => decide (A 66 0 c = nI a ∧ A 77 0 c = 1)) n ≤ n := cntN_le
    obtain ⟨kR, kO, -⟩ := h0.2.2.1 c (by omega)
    obtain ⟨k0, k1, k2, k3, -, -, k6, -, -, -, -, k12, -, -, -, -, -, -, -⟩ := kR
    have k0 : s 0 c 0 = A 65 0 c := k0
    have k1 : s 0 c 1 = A 66 0 c := k1
    have k3 : s 0 c 3 = A 68 0 c := k3
    have k6 : s 0 c 6 = A 69 0 c := k6
    have k12 : s 0 c 12 = A 77 0 c := k12
    have k4 : s 3 0 4 = A 12 0 5 := h0.1.1.trans h0.1.2.1.symm
    refine am_vc_ok am_k27 [9] 100 ?_
    refine And.intro (fun g => absurd (show nI n ≤ nI c by rw [← h5]; exact g) (nI_ge (b := n) (by omega) (by omega))) (fun _ => ?_)
    refine And.intro (fun g => ?_) (fun g => ?_)
    · have g : s 8 a 5 ≤ 0 := g
      refine am_vV am_k27 am_r27 rfl (hQ s A m ?_ hR hF hM hN)
      refine mb_rest hR ha (d + 1) c h (fun c2 _ h2 e => ?_)
      rw [h85] at g
      have := cntN_none (nI_le0 g (by omega)) c2 h2
      simp [e] at this
    refine And.intro (fun g2 => ?_) (fun g2 => ?_)
    · have g2 : s 8 a 2 ≤ s 8 a 6 := g2
      rw [h82, h86] at g2
      refine am_vV am_k27 am_r27 rfl (hQ s A m (mb_full hR ha g2) hR hF hM hN)
    have g2 : ¬ s 8 a 2 ≤ s 8 a 6 := g2
    rw [h82, h86] at g2
    refine And.intro (vp_in_nI (N := 30) (show c < 30 by omega) (by decide)) ?_
    rw [nI_clamp (n := c) (by omega)]
    have KS : ¬ (A 66 0 c = nI a ∧ A 77 0 c = 1) → am_G l 27 Q 0 0 9 [(3, aI (nI c + 1)), (2, aR 8 a), (0, aR 3 0), (1, aI (nI a))] [] s τ (rX t) cX lX := by
      intro z
      have K := xm_bgn ha d (c + 1) (s := s) (A := A) (by omega) hR hF hM hN (fun s1 A1 m1 q => hQ s1 A1 m1 (mb_skip hR (by omega) ha g2 z q))
      rw [← nI_1] at K
      exact K
    refine And.intro (fun z => ?_) (fun z => ?_)
    rotate_left
    · have z : ¬ s 0 c 1 = nI a := z
      exact KS (fun y => z (k1.trans y.1))
    have z : s 0 c 1 = nI a := z
    refine And.intro (vp_in_nI (N := 30) (show c < 30 by omega) (by decide)) ?_
    rw [nI_clamp (n := c) (by omega)]
    refine And.intro (fun y => ?_) (fun y => ?_)
    rotate_left
    · have y : ¬ s 0 c 12 = 1 := y
      exact KS (fun q => y (k12.trans q.2))
    have y : s 0 c 12 = 1 := y
    have hp : A 77 0 c = 1 := k12.symm.trans y
    have h66 : A 66 0 c = nI a := k1.symm.trans z
    obtain ⟨-, -, ⟨w, hw1, hw2, hw3, -⟩, -⟩ := kO
    have hw3 : A 68 0 c = nI w := hw3
    have e0 : ∀ j, u3 s 8 a 5 (s 8 a 5 - 1) 0 c j = s 0 c j := fun j => rfl
    by_cases hL : A 69 0 c < A 12 0 5 + A 68 0 c
    · have R1 := hR.pl5 (c := c) (b := a) (w := A 68 0 c) (x := s 0 c 1) (y := s 0 c 0) (by omega) h66 ha hp
      have hm2 := R1.m_le
      unfold slt at R1
      rw [← mrg_x (q := 8) rfl, ← mrg_x (q := 0) rfl, ← mrg_m (q := 77) rfl, ← mrg_m (q := 78) rfl, mrg_ssnd] at R1
      have eD : ltM A c m = msend (u3 (u3 A 77 0 c 0) 78 0 c (A 68 0 c)) m 3 (s 0 c 1) (s 0 c 0) (nI c) 6 := by
        unfold ltM
        rw [k1, k0]
      have F1 : xF s0 (xsend (u3 (u3 s 8 a 5 (s 8 a 5 - 1)) 0 c 12 0) m c 3 (s 0 c 1) (s 0 c 0) 6) := by
        repeat (first | exact hF | refine xF.u ?_ rfl)
      have M1 : mF A0 (ltM A c m) := by
        rw [eD]
        repeat (first | exact hM | refine mF.u ?_ rfl)
      have K := xm_bgn ha d (c + 1) (s := xsend (u3 (u3 s 8 a 5 (s 8 a 5 - 1)) 0 c 12 0) m c 3 (s 0 c 1) (s 0 c 0) 6) (A := ltM A c m) (m := m + 1) (by omega) (by rw [eD]; exact R1) F1 M1 (by rw [eD]; exact hN.snd (by decide) rfl) (fun s1 A1 m1 q => hQ s1 A1 m1 (mb_late hR (by omega) ha g2 ⟨h66, hp⟩ hL (by omega) q))
      rw [← nI_1] at K
      refine am_vO am_k27 am_h27 rfl rfl rfl rfl (x_begin_late (s := u3 s 8 a 5 (s 8 a 5 - 1)) (m := m) (show c < 30 by omega) h0.2.2.2.2.2.2.1.1 (by omega) (by rw [e0, e0, k6, k3]; show A 69 0 c < s 3 0 4 + _; rw [k4]; exact hL)) ?_
      refine am_vc_ok am_k27 [9] 100 ?_
      exact K
    · have R1 := hR.pl6 (c := c) (b := a) (g := w) (by omega) h66 ha hw1 hw2 hp
      unfold sbg at R1
      rw [← mrg_x (q := 8) rfl, ← mrg_x (q := 0) rfl, ← mrg_x (q := 0) rfl, ← mrg_x (q := 8) rfl, ← mrg_m (q := 77) rfl, ← mrg_m (q := 78) rfl] at R1
      have eD : bgM A c = u3 (u3 A 77 0 c 2) 78 0 c (nI w) := by
        unfold bgM
        rw [hw3]
      have eX : (u3 (u3 (u3 (u3 s 8 a 5 (s 8 a 5 - 1)) 0 c 12 2) 0 c 13 (nI w)) 8 a 6 (s 8 a 6 + 1)) = (u3 (u3 (u3 (u3 s 8 a 5 (s 8 a 5 - 1)) 0 c 12 2) 0 c 13 ((u3 s 8 a 5 (s 8 a 5 - 1)) 0 c 3)) 8 a 6 ((u3 s 8 a 5 (s 8 a 5 - 1)) 8 a 6 + 1)) := by
        rw [e0, k3, hw3, u3_jj (show 6 ≠ 5 by decide)]
      have F1 : xF s0 (u3 (u3 (u3 (u3 s 8 a 5 (s 8 a 5 - 1)) 0 c 12 2) 0 c 13 (nI w)) 8 a 6 (s 8 a 6 + 1)) := by
        repeat (first | exact hF | refine xF.u ?_ rfl)
      have M1 : mF A0 (bgM A c) := by
        rw [eD]
        repeat (first | exact hM | refine mF.u ?_ rfl)
      have K := xm_bgn ha d (c + 1) (s := u3 (u3 (u3 (u3 s 8 a 5 (s 8 a 5 - 1)) 0 c 12 2) 0 c 13 (nI w)) 8 a 6 (s 8 a 6 + 1)) (A := bgM A c) (m := m) (by omega) (by rw [eD]; exact R1) F1 M1 (by rw [eD]; exact hN.same rfl) (fun s1 A1 m1 q => hQ s1 A1 m1 (mb_on hR (by omega) ha g2 ⟨h66, hp⟩ hL q))
      rw [← nI_1] at K
      refine am_vO am_k27 am_h27 rfl rfl rfl rfl (x_begin_on (s := u3 s 8 a 5 (s 8 a 5 - 1)) (b := a) (show c < 30 by omega) ha z (by rw [e0, e0, k6, k3]; show ¬ A 69 0 c < s 3 0 4 + _; rw [k4]; exact hL)) ?_
      refine am_vc_ok am_k27 [9] 100 ?_
      exact am_Gs eX.symm K
theorem xm_beginWork (ha : a < 6) (hR : Rnet (mrg s A) T n m lo k) (hF : xF s0 s) (hM : mF A0 A) (hN : NA A lo m) : am_T l 27 [aR 3 0, aI (nI a)] s τ t (fun v s1 τ1 t1 => v = none ∧ τ1 = τ ∧ t1 = t ∧ ∃ A1 m1, MD l 225 [aR 12 0, aI (nI a)] A none A1 ∧ Rnet (mrg s1 A1) T n m1 lo k ∧ xF s0 s1 ∧ mF A0 A1 ∧ NA A1 lo m1) := by
  refine am_T_of am_o27 am_l27 rfl ?_
  refine am_vc_ok am_k27 [9] 100 ?_
  refine And.intro (vp_in_nI (N := 6) ha (by decide)) ?_
  rw [nI_clamp (n := a) (by omega)]
  refine xm_bgn ha n 0 (by omega) hR hF hM hN (fun s1 A1 m1 q r f g h => ⟨t, rfl, rfl, rfl, rfl, rfl, rfl, A1, m1, fun σ τ t => ?_, r, f, g, h⟩)
  refine am_D_of am_o225 am_l225 rfl ?_
  refine am_vc_ok am_k225 [2] 100 ?_
  exact q σ τ t
end L86

/-! ticks: calls are watched -/
section L87
variable {l : Launch} {σ σ2 s s0 s1 A A0 A1 A2 : tI} {τ τ2 : tL} {t : Option (Nat × Nat)} {T n m lo k c b a w : Nat}
abbrev wsh (x : Int32) : Int32 := (1 : Int32) <<< (x &&& 31)
theorem x_watch_give (hc : c < 30) (h7 : s 0 c 7 = 0) (hw : s 3 0 6 = nI (w + 1)) (hm : s 1 0 0 = nI m) (hm2 : m < 690) (hL : s 0 c 6 < s 3 0 4) : am_D l 30 [aR 3 0, aI (nI c)] s τ (rX t) cX lX none (xsend (xend s c w 6) m c 6 (s 0 c 0) (s 0 c 1) 6) τ (rX t) := by
  refine am_D_of am_o30 am_l30 rfl ?_
  refine am_vc_ok am_k30 [] 100 ?_
  refine And.intro (vp_in_nI (N := 30) hc (by decide)) ?_
  rw [nI_clamp (n := c) (by omega)]
  refine And.intro (fun z => absurd hL (Int32.not_lt.mpr z)) (fun _ => ?_)
  refine am_vO am_k30 am_h30 rfl rfl rfl rfl (x_giveUp (w := w) (m := m) hc h7 hw hm hm2) ?_
  refine am_vc_ok am_k30 [] 100 ?_
  exact am_vV am_k30 am_r30 rfl ⟨rfl, rfl, rfl, rfl, rfl, rfl⟩
theorem x_watch_no (hc : c < 30) (hL : ¬ s 0 c 6 < s 3 0 4) (hW : s 3 0 4 - s 0 c 10 < s 0 c 3 + 4 + wsh (s 0 c 9)) : am_D l 30 [aR 3 0, aI (nI c)] s τ (rX t) cX lX none s τ (rX t) := by
  refine am_D_of am_o30 am_l30 rfl ?_
  refine am_vc_ok am_k30 [] 100 ?_
  refine And.intro (vp_in_nI (N := 30) hc (by decide)) ?_
  rw [nI_clamp (n := c) (by omega)]
  refine And.intro (fun _ => ?_) (fun z => absurd (Int32.not_lt.mp hL) z)
  refine And.intro (fun _ => ?_) (fun z => absurd hW z)
  exact am_vV am_k30 am_r30 rfl ⟨rfl, rfl, rfl, rfl, rfl, rfl⟩
theorem x_watch_end (hc : c < 30) (h7 : s 0 c 7 = 0) (hw : s 3 0 6 = nI (w + 1)) (hL : ¬ s 0 c 6 < s 3 0 4) (hW : ¬ s 3 0 4 - s 0 c 10 < s 0 c 3 + 4 + wsh (s 0 c 9)) (hP : s 0 c 4 ≤ 0) : am_D l 30 [aR 3 0, aI (nI c)] s τ (rX t) cX lX none (xend s c w 7) τ (rX t) := by
  refine am_D_of am_o30 am_l30 rfl ?_
  refine am_vc_ok am_k30 [] 100 ?_
  refine And.intro (vp_in_nI (N := 30) hc (by decide)) ?_
  rw [nI_clamp (n := c) (by omega)]
  refine And.intro (fun _ => ?_) (fun z => absurd (Int32.not_lt.mp hL) z)
  refine And.intro (fun z => absurd z hW) (fun _ => ?_)
  refine And.intro (fun _ => ?_) (fun z => absurd hP z)
  refine am_vO am_k30 am_h30 rfl rfl rfl rfl (x_end (w := w) hc h7 hw) ?_
  refine am_vc_ok am_k30 [] 100 ?_
  exact am_vV am_k30 am_r30 rfl ⟨rfl, rfl, rfl, rfl, rfl, rfl⟩
theorem x_watch_agn (hc : c < 30) (hm : s 1 0 0 = nI m) (hm2 : m < 690) (hL : ¬ s 0 c 6 < s 3 0 4) (hW : ¬ s 3 0 4 - s 0 c 10 < s 0 c 3 + 4 + wsh (s 0 c 9)) (hP : ¬ s 0 c 4 ≤ 0) : am_D l 30 [aR 3 0, aI (nI c)] s τ (rX t) cX lX none (xsend (u3 (u3 (u3 s 0 c 4 (s 0 c 4 - 1)) 0 c 9 (s 0 c 9 + 1)) 0 c 10 (s 3 0 4)) m c 1 (s 0 c 0) (s 0 c 1) 0) τ (rX t) := by
  have f9 : (u3 s 0 c 4 (s 0 c 4 - 1)) 0 c 9 = s 0 c 9 := by simp [u3]
  have f0 : (u3 (u3 s 0 c 4 (s 0 c 4 - 1)) 0 c 9 (s 0 c 9 + 1)) 0 c 0 = s 0 c 0 := by simp [u3]
  have f1 : (u3 (u3 s 0 c 4 (s 0 c 4 - 1)) 0 c 9 (s 0 c 9 + 1)) 0 c 1 = s 0 c 1 := by simp [u3]
  have f4 : (u3 (u3 s 0 c 4 (s 0 c 4 - 1)) 0 c 9 (s 0 c 9 + 1)) 3 0 4 = s 3 0 4 := rfl
  refine am_D_of am_o30 am_l30 rfl ?_
  refine am_vc_ok am_k30 [] 100 ?_
  refine And.intro (vp_in_nI (N := 30) hc (by decide)) ?_
  rw [nI_clamp (n := c) (by omega)]
  refine And.intro (fun _ => ?_) (fun z => absurd (Int32.not_lt.mp hL) z)
  refine And.intro (fun z => absurd z hW) (fun _ => ?_)
  refine And.intro (fun z => absurd z hP) (fun _ => ?_)
  refine am_vO am_k30 am_h30 rfl rfl rfl rfl (x_nask (m := m) hc (by simp [u3, hm]) hm2) ?_
  refine am_vc_ok am_k30 [] 100 ?_
  refine am_vV am_k30 am_r30 rfl ⟨rfl, ?_, rfl, rfl, rfl, rfl⟩
  rw [f9, f0, f1, f4]
theorem m_go_give (hc : c < 30) (hm : σ 12 0 54 = nI m) (hm2 : m < 690) (hL : σ 69 0 c < σ 12 0 5) : am_D l 226 [aR 12 0, aI (nI c)] σ τ (rX t) cX lX none (msend (mends σ c 6) m 6 (σ 65 0 c) (σ 66 0 c) (nI c) 6) τ (rX t) := by
  refine am_D_of am_o226 am_l226 rfl ?_
  refine am_vc_ok am_k226 [] 100 ?_
  refine And.intro (vp_in_nI (N := 30) hc (by decide)) ?_
  rw [nI_clamp (n := c) (by omega)]
  refine And.intro (fun z => absurd hL (Int32.not_lt.mpr z)) (fun _ => ?_)
  refine am_vO am_k226 am_h226 rfl rfl rfl rfl (m_ends hc) ?_
  refine am_vc_ok am_k226 [] 100 ?_
  refine am_vO am_k226 am_h226 rfl rfl rfl rfl (m_sendOut (m := m) hc (by simp [mends, u3, hm]) hm2) ?_
  refine am_vc_ok am_k226 [] 100 ?_
  exact am_vV am_k226 am_r226 rfl ⟨rfl, rfl, rfl, rfl, rfl, rfl⟩
theorem m_go_no (hc : c < 30) (hL : ¬ σ 69 0 c < σ 12 0 5) (hW : σ 12 0 5 - σ 76 0 c < σ 68 0 c + 4 + wsh (σ 72 0 c)) : am_D l 226 [aR 12 0, aI (nI c)] σ τ (rX t) cX lX none σ τ (rX t) := by
  refine am_D_of am_o226 am_l226 rfl ?_
  refine am_vc_ok am_k226 [] 100 ?_
  refine And.intro (vp_in_nI (N := 30) hc (by decide)) ?_
  rw [nI_clamp (n := c) (by omega)]
  refine And.intro (fun _ => ?_) (fun z => absurd (Int32.not_lt.mp hL) z)
  refine And.intro (vp_in_nI (N := 30) hc (by decide)) ?_
  refine And.intro (vp_in_nI (N := 30) hc (by decide)) ?_
  refine And.intro (vp_in_nI (N := 30) hc (by decide)) ?_
  rw [nI_clamp (n := c) (by omega)]
  refine And.intro (fun _ => ?_) (fun z => absurd hW z)
  exact am_vV am_k226 am_r226 rfl ⟨rfl, rfl, rfl, rfl, rfl, rfl⟩
theorem m_go_end (hc : c < 30) (hL : ¬ σ 69 0 c < σ 12 0 5) (hW : ¬ σ 12 0 5 - σ 76 0 c < σ 68 0 c + 4 + wsh (σ 72 0 c)) (hP : σ 70 0 c = 0) : am_D l 226 [aR 12 0, aI (nI c)] σ τ (rX t) cX lX none (mends σ c 7) τ (rX t) := by
  refine am_D_of am_o226 am_l226 rfl ?_
  refine am_vc_ok am_k226 [] 100 ?_
  refine And.intro (vp_in_nI (N := 30) hc (by decide)) ?_
  rw [nI_clamp (n := c) (by omega)]
  refine And.intro (fun _ => ?_) (fun z => absurd (Int32.not_lt.mp hL) z)
  refine And.intro (vp_in_nI (N := 30) hc (by decide)) ?_
  refine And.intro (vp_in_nI (N := 30) hc (by decide)) ?_
  refine And.intro (vp_in_nI (N := 30) hc (by decide)) ?_
  rw [nI_clamp (n := c) (by omega)]
  refine And.intro (fun z => absurd z hW) (fun _ => ?_)
  refine And.intro (vp_in_nI (N := 30) hc (by decide)) ?_
  rw [nI_clamp (n := c) (by omega)]
  refine And.intro (fun _ => ?_) (fun z => absurd hP z)
  refine am_vO am_k226 am_h226 rfl rfl rfl rfl (m_ends hc) ?_
  refine am_vc_ok am_k226 [] 100 ?_
  exact am_vV am_k226 am_r226 rfl ⟨rfl, rfl, rfl, rfl, rfl, rfl⟩
def agM (A : tI) (c m : Nat) : tI := msend (u3 (u3 (u3 A 70 0 c (A 70 0 c - 1)) 72 0 c (A 72 0 c + 1)) 76 0 c (A 12 0 5)) m 1 (A 65 0 c) (A 66 0 c) (nI c) (A 72 0 c + 1)
theorem m_go_agn (hc : c < 30) (hm : σ 12 0 54 = nI m) (hm2 : m < 690) (hL : ¬ σ 69 0 c < σ 12 0 5) (hW : ¬ σ 12 0 5 - σ 76 0 c < σ 68 0 c + 4 + wsh (σ 72 0 c)) (hP : ¬ σ 70 0 c = 0) : am_D l 226 [aR 12 0, aI (nI c)] σ τ (rX t) cX lX none (agM σ c m) τ (rX t) := by
  have f72 : ∀ v w x : Int32, (u3 (u3 (u3 σ 70 0 c v) 72 0 c w) 76 0 c x) 72 0 c = w := fun v w x => by simp [u3]
  unfold agM
  refine am_D_of am_o226 am_l226 rfl ?_
  refine am_vc_ok am_k226 [] 100 ?_
  refine And.intro (vp_in_nI (N := 30) hc (by decide)) ?_
  rw [nI_clamp (n := c) (by omega)]
  refine And.intro (fun _ => ?_) (fun z => absurd (Int32.not_lt.mp hL) z)
  refine And.intro (vp_in_nI (N := 30) hc (by decide)) ?_
  refine And.intro (vp_in_nI (N := 30) hc (by decide)) ?_
  refine And.intro (vp_in_nI (N := 30) hc (by decide)) ?_
  rw [nI_clamp (n := c) (by omega)]
  refine And.intro (fun z => absurd z hW) (fun _ => ?_)
  refine And.intro (vp_in_nI (N := 30) hc (by decide)) ?_
  rw [nI_clamp (n := c) (by omega)]
  refine And.intro (fun z => absurd z hP) (fun _ => ?_)
  refine And.intro (vp_in_nI (N := 30) hc (by decide)) ?_
  refine And.intro (vp_in_nI (N := 30) hc (by decide)) ?_
  rw [nI_clamp (n := c) (by omega)]
  refine And.intro (vp_in_nI (N := 30) hc (by decide)) ?_
  refine And.intro (vp_in_nI (N := 30) hc (by decide)) ?_
  rw [nI_clamp (n := c) (by omega)]
  refine And.intro (vp_in_nI (N := 30) hc (by decide)) ?_
  rw [nI_clamp (n := c) (by omega)]
  refine And.intro (vp_in_nI (N := 30) hc (by decide)) ?_
  rw [nI_clamp (n := c) (by omega), f72]
  refine am_vO am_k226 am_h226 rfl rfl rfl rfl (m_sendOut (m := m) hc (by simp [u3, hm]) hm2) ?_
  refine am_vc_ok am_k226 [] 100 ?_
  exact am_vV am_k226 am_r226 rfl ⟨rfl, rfl, rfl, rfl, rfl, rfl⟩
theorem mrg_mends {h : Int32} : mends (mrg s A) c h = mrg s (mends A c h) := by
  unfold mends
  rw [mrg_m rfl, mrg_m rfl]
  rfl
theorem mrg_agM : agM (mrg s A) c m = mrg s (agM A c m) := by
  unfold agM
  rw [← mrg_msend, mrg_m rfl, mrg_m rfl, mrg_m rfl]
  rfl
variable {z r : Int32}
theorem mg_end (hR : Rnet (mrg s A) T n m lo k) : MG l 228 130 [(3, aI (nI n)), (2, aI z), (1, aI r), (0, aR 12 0)] A (some (aI r)) A := by
  intro σ τ t
  refine am_vc_ok am_k228 [130] 100 ?_
  refine And.intro (fun _ => ?_) (fun g => absurd (show A 12 0 34 ≤ nI n by rw [show A 12 0 34 = nI n from hR.split.1.2.1.2.1]; exact Int32.le_refl _) g)
  exact am_vI am_k228 am_r228 rfl ⟨rfl, rfl, rfl, rfl, rfl, rfl⟩
theorem mg_skip (hR : Rnet (mrg s A) T n m lo k) (hc : c < n) (h : ¬ A 71 0 c = 0) (K : MG l 228 130 [(3, aI (nI (c + 1))), (2, aI z), (1, aI r), (0, aR 12 0)] A (some (aI r)) A1) : MG l 228 130 [(3, aI (nI c)), (2, aI z), (1, aI r), (0, aR 12 0)] A (some (aI r)) A1 := by
  intro σ τ t
  have hn2 := hR.split.1.2.1.2.2
  have hn : A 12 0 34 = nI n := hR.split.1.2.1.2.1
  have K := K σ τ t
  rw [← nI_1] at K
  refine am_vc_ok am_k228 [130] 100 ?_
  refine And.intro (fun g => absurd (show nI n ≤ nI c by rw [← hn]; exact g) (nI_ge (b := n) (by omega) (by omega))) (fun _ => ?_)
  refine And.intro (vp_in_nI (N := 30) (show c < 30 by omega) (by decide)) ?_
  rw [nI_clamp (n := c) (by omega)]
  exact And.intro (fun g => absurd g h) (fun _ => K)
theorem mg_step (hR : Rnet (mrg s A) T n m lo k) (hc : c < n) (h : A 71 0 c = 0) (hD : MD l 226 [aR 12 0, aI (nI c)] A none A2) (K : MG l 228 130 [(3, aI (nI (c + 1))), (2, aI z), (1, aI r), (0, aR 12 0)] A2 (some (aI r)) A1) : MG l 228 130 [(3, aI (nI c)), (2, aI z), (1, aI r), (0, aR 12 0)] A (some (aI r)) A1 := by
  intro σ τ t
  have hn2 := hR.split.1.2.1.2.2
  have hn : A 12 0 34 = nI n := hR.split.1.2.1.2.1
  have K := K σ τ t
  rw [← nI_1] at K
  refine am_vc_ok am_k228 [130] 100 ?_
  refine And.intro (fun g => absurd (show nI n ≤ nI c by rw [← hn]; exact g) (nI_ge (b := n) (by omega) (by omega))) (fun _ => ?_)
  refine And.intro (vp_in_nI (N := 30) (show c < 30 by omega) (by decide)) ?_
  rw [nI_clamp (n := c) (by omega)]
  refine And.intro (fun _ => ?_) (fun g => absurd h g)
  refine am_vO am_k228 am_h228 rfl rfl rfl rfl (hD σ τ t) ?_
  refine am_vc_ok am_k228 [130] 100 ?_
  exact K
theorem mg_rest (hR : Rnet (mrg s A) T n m lo k) : ∀ (d c : Nat), c + d = n → (∀ c2, c ≤ c2 → c2 < n → ¬ A 71 0 c2 = 0) → MG l 228 130 [(3, aI (nI c)), (2, aI z), (1, aI r), (0, aR 12 0)] A (some (aI r)) A
  | 0, c, h, _ => by
    obtain rfl : c = n := by omega
    exact mg_end hR
  | d + 1, c, h, hz => mg_skip hR (by omega) (hz c (Nat.le_refl _) (by omega)) (mg_rest hR d (c + 1) (by omega) (fun c2 h1 h2 => hz c2 (by omega) h2))
/-- no ask of call c or a later one among the frames from lo on -/
def WA (A : tI) (lo m c : Nat) : Prop := ∀ f, lo ≤ f → f < m → A 84 0 f = 1 → ∀ c2, c ≤ c2 → c2 < 30 → ¬ A 89 0 f = nI c2
theorem WA.same (h : WA A lo m c) (e : A1 84 = A 84) (e2 : A1 89 = A 89) : WA A1 lo m (c + 1) := by
  unfold WA at h ⊢
  rw [e, e2]
  exact fun f h1 h2 h3 c2 h4 h5 => h f h1 h2 h3 c2 (by omega) h5
theorem WA.snd {kd x y d : Int32} (h : WA A lo m c) (hc : c < 30) (e : A1 84 = A 84) (e2 : A1 89 = A 89) : WA (msend A1 m kd x y (nI c) d) lo (m + 1) (c + 1) := by
  intro f h1 h2 h3 c2 h4 h5 h6
  by_cases ef : f = m
  · subst ef
    have : nI c = nI c2 := by simpa [msend, u3] using h6
    have := (nI_eq (by omega) (by omega)).mp this
    omega
  · have e84 : msend A1 m kd x y (nI c) d 84 0 f = A 84 0 f := by
      rw [← e]
      simp [msend, u3, ef]
    have e89 : msend A1 m kd x y (nI c) d 89 0 f = A 89 0 f := by
      rw [← e2]
      simp [msend, u3, ef]
    exact h f h1 (by omega) (e84.symm.trans h3) c2 (by omega) h5 (e89.symm.trans h6)
end L87

/-! ticks: calls are watched, both sides -/
section L88
variable {l : Launch} {σ σ2 s s0 s1 A A0 A1 A2 : tI} {τ τ2 : tL} {t : Option (Nat × Nat)} {T n m lo k c b a w : Nat} {z r : Int32}
theorem Rnet.fin {hh : Nat} (h : Rnet σ T n m lo k) (hc : c < n) (h7 : σ 71 0 c = 0) (hw : σ 3 0 6 = nI (w + 1)) (hw2 : w ≤ 30) (hh1 : 1 ≤ hh) (hh2 : hh < 9) : Rnet (sfin σ c w T hh) T n m lo k := by
  obtain ⟨h0, ha⟩ := h.split
  have ha : RaccS σ n m lo c 0 := ha.S0
  exact Rnet.join (h0.fin hc h7 hw hw2 hh1 hh2) (Racc.S (x := 0) (ha.fin hh1 hh2 h7 (ha.k81 hc)))
theorem Rnet.opw (h : Rnet σ T n m lo k) (hc : c < n) (h7 : σ 71 0 c = 0) : ∃ w, w ≤ 30 ∧ σ 3 0 6 = nI (w + 1) := by
  have h0 := h.split.1
  have hn := h0.2.1.2.2
  have h6 := h0.2.2.2.2.1
  have hle : cntN (fun c => decide (σ 71 0 c = 0)) n ≤ n := cntN_le
  by_cases e : cntN (fun c => decide (σ 71 0 c = 0)) n = 0
  · have := cntN_none e c hc
    simp [h7] at this
  · exact ⟨cntN (fun c => decide (σ 71 0 c = 0)) n - 1, by omega, by rw [h6]; congr 1; omega⟩
theorem xm_wat {Q : tQ} : ∀ (d c : Nat) {s A : tI} {m : Nat}, c + d = n → Rnet (mrg s A) T n m lo k → xF s0 s → mF A0 A → WA A lo m c → (∀ s1 A1 m1, MG l 228 130 [(3, aI (nI c)), (2, aI z), (1, aI r), (0, aR 12 0)] A (some (aI r)) A1 → Rnet (mrg s1 A1) T n m1 lo k → xF s0 s1 → mF A0 A1 → Q none s1 τ (rX t) cX lX) → am_G l 29 Q 0 0 2 [(1, aI (nI c)), (0, aR 3 0)] [] s τ (rX t) cX lX
  | 0, c, s, A, m, h, hR, hF, hM, hN, hQ => by
    obtain rfl : c = n := by omega
    have h0 := hR.split.1
    have h5 : s 3 0 5 = nI c := h0.2.1.1
    refine am_vc_ok am_k29 [] 100 ?_
    refine And.intro (fun _ => ?_) (fun g => absurd (show s 3 0 5 ≤ nI c by rw [h5]; exact Int32.le_refl _) g)
    refine am_vV am_k29 am_r29 rfl (hQ s A m (mg_end hR) hR hF hM)
  | d + 1, c, s, A, m, h, hR, hF, hM, hN, hQ => by
    have h0 := hR.split.1
    have hn := h0.2.1.2.2
    have h5 : s 3 0 5 = nI n := h0.2.1.1
    have h6 : s 3 0 6 = nI (cntN (fun c => decide (A 71 0 c = 0)) n) := h0.2.2.2.2.1
    have hle : cntN (fun c => decide (A 71 0 c = 0)) n ≤ n := cntN_le
    have hm : s 1 0 0 = nI m := h0.2.2.2.2.2.2.1.1
    have hmA : A 12 0 54 = nI m := h0.2.2.2.2.2.2.1.2
    obtain ⟨kR, kO, -⟩ := h0.2.2.1 c (by omega)
    obtain ⟨k0, k1, k2, k3, k4, -, k6, k7, -, k9, k10, -, -, -, -, -, -, -, -⟩ := kR
    have k0 : s 0 c 0 = A 65 0 c := k0
    have k1 : s 0 c 1 = A 66 0 c := k1
    have k3 : s 0 c 3 = A 68 0 c := k3
    have k4 : s 0 c 4 = A 70 0 c := k4
    have k6 : s 0 c 6 = A 69 0 c := k6
    have k7 : s 0 c 7 = A 71 0 c := k7
    have k9 : s 0 c 9 = A 72 0 c := k9
    have k10 : s 0 c 10 = A 76 0 c := k10
    have hT : s 3 0 4 = nI T := h0.1.1
    have hTA : A 12 0 5 = nI T := h0.1.2.1
    have hK : s 3 0 4 = A 12 0 5 := hT.trans hTA.symm
    obtain ⟨x, y, hxy, hx, hy⟩ := kO.2.2.2.1
    have hx : A 72 0 c = nI x := hx
    have hy : A 70 0 c = nI y := hy
    refine am_vc_ok am_k29 [2] 100 ?_
    refine And.intro (fun g => absurd (show nI n ≤ nI c by rw [← h5]; exact g) (nI_ge (b := n) (by omega) (by omega))) (fun _ => ?_)
    refine And.intro (fun g => ?_) (fun g => ?_)
    · have g : s 3 0 6 ≤ 0 := g
      refine am_vV am_k29 am_r29 rfl (hQ s A m ?_ hR hF hM)
      refine mg_rest hR (d + 1) c h (fun c2 _ h2 e => ?_)
      rw [h6] at g
      have := cntN_none (nI_le0 g (by omega)) c2 h2
      simp [e] at this
    refine And.intro (vp_in_nI (N := 30) (show c < 30 by omega) (by decide)) ?_
    rw [nI_clamp (n := c) (by omega)]
    refine And.intro (fun q => ?_) (fun q => ?_)
    rotate_left
    · have q : ¬ s 0 c 7 = 0 := q
      have K := xm_wat d (c + 1) (s := s) (A := A) (by omega) hR hF hM (hN.same rfl rfl) (fun s1 A1 m1 p => hQ s1 A1 m1 (mg_skip hR (by omega) (fun e => q (k7.trans e)) p))
      rw [← nI_1] at K
      exact K
    have q : s 0 c 7 = 0 := q
    have h7 : A 71 0 c = 0 := k7.symm.trans q
    obtain ⟨w, hw2, hw⟩ := hR.opw (c := c) (by omega) h7
    have hw : s 3 0 6 = nI (w + 1) := hw
    by_cases hL : s 0 c 6 < s 3 0 4
    · have R1 := hR.give (c := c) (w := w) (hh := 6) (a := s 0 c 0) (b := s 0 c 1) (by omega) h7 hw hw2 (by decide) (by decide)
      have hm2 := R1.m_le
      unfold sfin at R1
      rw [← mrg_x (q := 0) rfl, ← mrg_x (q := 0) rfl, ← mrg_x (q := 3) rfl, ← mrg_m (q := 71) rfl, ← mrg_m (q := 75) rfl, mrg_ssnd] at R1
      have eX : xsend (xend s c w 6) m c 6 (s 0 c 0) (s 0 c 1) 6 = xsend (u3 (u3 (u3 s 0 c 7 (nI 6)) 0 c 8 (nI T)) 3 0 6 (nI w)) m c (nI 6) (s 0 c 0) (s 0 c 1) (nI 6) := by
        unfold xend
        rw [hT]
        rfl
      have eD : msend (mends A c 6) m 6 (A 65 0 c) (A 66 0 c) (nI c) 6 = msend (u3 (u3 A 71 0 c (nI 6)) 75 0 c (nI T)) m (nI 6) (s 0 c 0) (s 0 c 1) (nI c) (nI 6) := by
        unfold mends
        rw [hTA, k0, k1]
        rfl
      have F1 : xF s0 (xsend (xend s c w 6) m c 6 (s 0 c 0) (s 0 c 1) 6) := by
        repeat (first | exact hF | refine xF.u ?_ rfl)
      have M1 : mF A0 (msend (mends A c 6) m 6 (A 65 0 c) (A 66 0 c) (nI c) 6) := by
        repeat (first | exact hM | refine mF.u ?_ rfl)
      have D1 : MD l 226 [aR 12 0, aI (nI c)] A none (msend (mends A c 6) m 6 (A 65 0 c) (A 66 0 c) (nI c) 6) := by
        intro σ τ t
        rw [← mrg_msend, ← mrg_mends]
        exact m_go_give (show c < 30 by omega) hmA (by omega) (show A 69 0 c < A 12 0 5 by rw [← k6, ← hK]; exact hL)
      have K := xm_wat d (c + 1) (s := xsend (xend s c w 6) m c 6 (s 0 c 0) (s 0 c 1) 6) (A := msend (mends A c 6) m 6 (A 65 0 c) (A 66 0 c) (nI c) 6) (m := m + 1) (by omega) (by rw [eX, eD]; exact R1) F1 M1 (hN.snd (by omega) rfl rfl) (fun s1 A1 m1 p => hQ s1 A1 m1 (mg_step hR (by omega) h7 D1 p))
      rw [← nI_1] at K
      refine am_vO am_k29 am_h29 rfl rfl rfl rfl (x_watch_give (w := w) (m := m) (show c < 30 by omega) q hw hm (by omega) hL) ?_
      refine am_vc_ok am_k29 [2] 100 ?_
      exact K
    have hL2 : ¬ A 69 0 c < A 12 0 5 := by rw [← k6, ← hK]; exact hL
    by_cases hW : s 3 0 4 - s 0 c 10 < s 0 c 3 + 4 + wsh (s 0 c 9)
    · have hW2 : A 12 0 5 - A 76 0 c < A 68 0 c + 4 + wsh (A 72 0 c) := by rw [← hK, ← k10, ← k3, ← k9]; exact hW
      have D1 : MD l 226 [aR 12 0, aI (nI c)] A none A := fun σ τ t => m_go_no (show c < 30 by omega) hL2 hW2
      have K := xm_wat d (c + 1) (s := s) (A := A) (by omega) hR hF hM (hN.same rfl rfl) (fun s1 A1 m1 p => hQ s1 A1 m1 (mg_step hR (by omega) h7 D1 p))
      rw [← nI_1] at K
      refine am_vO am_k29 am_h29 rfl rfl rfl rfl (x_watch_no (show c < 30 by omega) hL hW) ?_
      refine am_vc_ok am_k29 [2] 100 ?_
      exact K
    have hW2 : ¬ A 12 0 5 - A 76 0 c < A 68 0 c + 4 + wsh (A 72 0 c) := by rw [← hK, ← k10, ← k3, ← k9]; exact hW
    cases y with
    | zero =>
      have hP2 : A 70 0 c = 0 := hy
      have hP : s 0 c 4 ≤ 0 := by rw [k4, hP2]; decide
      have R1 := hR.fin (c := c) (w := w) (hh := 7) (by omega) h7 hw hw2 (by decide) (by decide)
      unfold sfin at R1
      rw [← mrg_x (q := 0) rfl, ← mrg_x (q := 0) rfl, ← mrg_x (q := 3) rfl, ← mrg_m (q := 71) rfl, ← mrg_m (q := 75) rfl] at R1
      have eX : xend s c w 7 = u3 (u3 (u3 s 0 c 7 (nI 7)) 0 c 8 (nI T)) 3 0 6 (nI w) := by
        unfold xend
        rw [hT]
        rfl
      have eD : mends A c 7 = u3 (u3 A 71 0 c (nI 7)) 75 0 c (nI T) := by
        unfold mends
        rw [hTA]
        rfl
      have F1 : xF s0 (xend s c w 7) := by
        repeat (first | exact hF | refine xF.u ?_ rfl)
      have M1 : mF A0 (mends A c 7) := by
        repeat (first | exact hM | refine mF.u ?_ rfl)
      have D1 : MD l 226 [aR 12 0, aI (nI c)] A none (mends A c 7) := by
        intro σ τ t
        rw [← mrg_mends]
        exact m_go_end (show c < 30 by omega) hL2 hW2 hP2
      have K := xm_wat d (c + 1) (s := xend s c w 7) (A := mends A c 7) (m := m) (by omega) (by rw [eX, eD]; exact R1) F1 M1 (hN.same rfl rfl) (fun s1 A1 m1 p => hQ s1 A1 m1 (mg_step hR (by omega) h7 D1 p))
      rw [← nI_1] at K
      refine am_vO am_k29 am_h29 rfl rfl rfl rfl (x_watch_end (w := w) (show c < 30 by omega) q hw hL hW hP) ?_
      refine am_vc_ok am_k29 [2] 100 ?_
      exact K
    | succ y =>
      have hP2 : ¬ A 70 0 c = 0 := fun e => absurd ((nI_eq (b := 0) (by omega) (by decide)).mp (hy.symm.trans e)) (by omega)
      have hP : ¬ s 0 c 4 ≤ 0 := fun e => by
        rw [k4, hy] at e
        exact absurd (nI_le0 e (by omega)) (by omega)
      have R1 := hR.agn (c := c) (x := x) (y := y) (a := s 0 c 0) (b := s 0 c 1) (by omega) hx hy hxy (fun f h1 h2 h3 => hN f h1 h2 h3 c (Nat.le_refl _) (by omega))
      have hm2 := R1.m_le
      unfold sagn at R1
      rw [← mrg_x (q := 0) rfl, ← mrg_x (q := 0) rfl, ← mrg_x (q := 0) rfl, ← mrg_m (q := 70) rfl, ← mrg_m (q := 72) rfl, ← mrg_m (q := 76) rfl, mrg_ssnd] at R1
      have eX : xsend (u3 (u3 (u3 s 0 c 4 (s 0 c 4 - 1)) 0 c 9 (s 0 c 9 + 1)) 0 c 10 (s 3 0 4)) m c 1 (s 0 c 0) (s 0 c 1) 0 = xsend (u3 (u3 (u3 s 0 c 4 (nI y)) 0 c 9 (nI (x + 1))) 0 c 10 (nI T)) m c (nI 1) (s 0 c 0) (s 0 c 1) 0 := by
        rw [hT, k4, hy, nI_pred, k9, hx, nI_1]
        rfl
      have eD : agM A c m = msend (u3 (u3 (u3 A 70 0 c (nI y)) 72 0 c (nI (x + 1))) 76 0 c (nI T)) m (nI 1) (s 0 c 0) (s 0 c 1) (nI c) (nI (x + 1)) := by
        unfold agM
        rw [hTA, hy, nI_pred, hx, nI_1, k0, k1]
        rfl
      have F1 : xF s0 (xsend (u3 (u3 (u3 s 0 c 4 (s 0 c 4 - 1)) 0 c 9 (s 0 c 9 + 1)) 0 c 10 (s 3 0 4)) m c 1 (s 0 c 0) (s 0 c 1) 0) := by
        repeat (first | exact hF | refine xF.u ?_ rfl)
      have M1 : mF A0 (agM A c m) := by
        rw [eD]
        repeat (first | exact hM | refine mF.u ?_ rfl)
      have D1 : MD l 226 [aR 12 0, aI (nI c)] A none (agM A c m) := by
        intro σ τ t
        rw [← mrg_agM]
        exact m_go_agn (show c < 30 by omega) hmA (by omega) hL2 hW2 hP2
      have K := xm_wat d (c + 1) (s := xsend (u3 (u3 (u3 s 0 c 4 (s 0 c 4 - 1)) 0 c 9 (s 0 c 9 + 1)) 0 c 10 (s 3 0 4)) m c 1 (s 0 c 0) (s 0 c 1) 0) (A := agM A c m) (m := m + 1) (by omega) (by rw [eX, eD]; exact R1) F1 M1 (by rw [eD]; exact hN.snd (by omega) rfl rfl) (fun s1 A1 m1 p => hQ s1 A1 m1 (mg_step hR (by omega) h7 D1 p))
      rw [← nI_1] at K
      refine am_vO am_k29 am_h29 rfl rfl rfl rfl (x_watch_agn (m := m) (show c < 30 by omega) hm (by omega) hL hW hP) ?_
      refine am_vc_ok am_k29 [2] 100 ?_
      exact K
theorem xm_watchCalls (hR : Rnet (mrg s A) T n m lo k) (hF : xF s0 s) (hM : mF A0 A) (hN : NA A lo m) : am_T l 29 [aR 3 0] s τ t (fun v s1 τ1 t1 => v = none ∧ τ1 = τ ∧ t1 = t ∧ ∃ A1 m1, MG l 228 130 [(3, aI 0), (2, aI z), (1, aI r), (0, aR 12 0)] A (some (aI r)) A1 ∧ Rnet (mrg s1 A1) T n m1 lo k ∧ xF s0 s1 ∧ mF A0 A1) := by
  refine am_T_of am_o29 am_l29 rfl ?_
  refine am_vc_ok am_k29 [2] 100 ?_
  exact xm_wat n 0 (by omega) hR hF hM (fun f h1 h2 h3 => absurd h3 (hN f h1 h2)) (fun s1 A1 m1 q r f g => ⟨t, rfl, rfl, rfl, rfl, rfl, rfl, A1, m1, q, r, f, g⟩)
end L88

/-! ticks: broken lines -/
section L89
variable {l : Launch} {σ σ2 s s0 s1 A A0 A1 A2 : tI} {τ τ2 : tL} {t : Option (Nat × Nat)} {T n m lo k c : Nat}
theorem cntN_up {p : Nat → Bool} {n : Nat} : cntN p n ≤ cntN p (n + 1) := Nat.le_add_right _ _
def lineI (a b : Int32) : Int32 := if b ≤ a then 6 * b + a else 6 * a + b
theorem x_lineI {a b : Int32} : am_D l 12 [aI a, aI b] s τ (rX t) cX lX (some (aI (lineI a b))) s τ (rX t) := by
  refine am_D_of am_o12 am_l12 rfl ?_
  refine am_vc_ok am_k12 [] 100 ?_
  refine am_vMin am_k12 am_h12 rfl rfl ?_
  refine am_vc_ok am_k12 [] 100 ?_
  refine am_vMax am_k12 am_h12 rfl rfl ?_
  refine am_vc_ok am_k12 [] 100 ?_
  refine am_vI am_k12 am_r12 rfl ⟨?_, rfl, rfl, rfl, rfl, rfl⟩
  unfold lineI
  by_cases h : b ≤ a
  · rw [if_pos h]
    by_cases h2 : b < a
    · rw [if_pos h2, if_neg (fun z => Int32.lt_irrefl (Int32.lt_trans z h2)), Int32.mul_comm]
    · have e : a = b := Int32.le_antisymm (Int32.not_lt.mp h2) h
      subst e
      rw [if_neg h2, Int32.mul_comm]
  · have h3 : a < b := Int32.not_le.mp h
    rw [if_neg h, if_neg (fun z => Int32.lt_irrefl (Int32.lt_trans z h3)), if_pos h3, Int32.mul_comm]
theorem m_lineI {a b : Int32} : am_D l 213 [aI a, aI b] s τ (rX t) cX lX (some (aI (lineI a b))) s τ (rX t) := by
  unfold lineI
  refine am_D_of am_o213 am_l213 rfl ?_
  refine am_vc_ok am_k213 [] 100 ?_
  refine And.intro (fun h => ?_) (fun h => ?_)
  · have h : b ≤ a := h
    rw [if_pos h]
    exact am_vI am_k213 am_r213 rfl ⟨rfl, rfl, rfl, rfl, rfl, rfl⟩
  · have h : ¬ b ≤ a := h
    rw [if_neg h]
    exact am_vI am_k213 am_r213 rfl ⟨rfl, rfl, rfl, rfl, rfl, rfl⟩
/-- breaks that cut line g at tick T: class, model -/
abbrev bkX (s : tI) (g T : Int32) (k : Nat) : Nat := cntN (fun i => decide (s 21 0 i = g ∧ s 22 0 i ≤ T ∧ T ≤ s 23 0 i)) k
abbrev bkM (s : tI) (g T : Int32) (k : Nat) : Nat := cntN (fun i => decide (s 91 0 i = g ∧ s 92 0 i ≤ T ∧ T ≤ s 93 0 i)) k
theorem x_brk_loop {Q : tQ} {g T a b : Int32} (hk : s 2 0 0 = nI k) (hk2 : k ≤ 20) (K1 : ¬ bkX s g T k = 0 → Q (some (aI 1)) s τ (rX t) cX lX) (K0 : bkX s g T k = 0 → Q (some (aI 0)) s τ (rX t) cX lX) : ∀ (d i : Nat), i + d = k → bkX s g T i = 0 → am_G l 11 Q 0 0 10 [(5, aI (nI i)), (4, aI g), (0, aR 2 0), (1, aI a), (2, aI b), (3, aI T)] [] s τ (rX t) cX lX
  | 0, i, h, h0 => by
    obtain rfl : i = k := by omega
    refine am_vc_ok am_k11 [] 100 ?_
    refine And.intro (fun _ => ?_) (fun g => absurd (by rw [hk]; exact Int32.le_refl _) g)
    refine am_vZ am_k11 am_r11 rfl (Or.inl rfl) (K0 h0)
  | d + 1, i, h, h0 => by
    have KN : ¬ (s 21 0 i = g ∧ s 22 0 i ≤ T ∧ T ≤ s 23 0 i) → am_G l 11 Q 0 0 10 [(5, aI (nI i + 1)), (4, aI g), (0, aR 2 0), (1, aI a), (2, aI b), (3, aI T)] [] s τ (rX t) cX lX := by
      intro z
      have K := x_brk_loop (a := a) (b := b) hk hk2 K1 K0 d (i + 1) (by omega) (by unfold bkX; rw [cntN_0 (by simpa using z)]; exact h0)
      rw [← nI_1] at K
      exact K
    refine am_vc_ok am_k11 [10] 100 ?_
    refine And.intro (fun g => absurd (show nI k ≤ nI i by rw [← hk]; exact g) (nI_ge (b := k) (by omega) (by omega))) (fun _ => ?_)
    refine And.intro (vp_in_nI (N := 20) (show i < 20 by omega) (by decide)) ?_
    rw [nI_clamp (n := i) (by omega)]
    refine And.intro (fun z1 => ?_) (fun z1 => KN (fun z => z1 z.1))
    refine And.intro (vp_in_nI (N := 20) (show i < 20 by omega) (by decide)) ?_
    rw [nI_clamp (n := i) (by omega)]
    refine And.intro (fun z2 => KN (fun z => absurd z.2.1 (Int32.not_le.mpr z2))) (fun z2 => ?_)
    refine And.intro (vp_in_nI (N := 20) (show i < 20 by omega) (by decide)) ?_
    rw [nI_clamp (n := i) (by omega)]
    refine And.intro (fun z3 => KN (fun z => absurd z.2.2 (Int32.not_le.mpr z3))) (fun z3 => ?_)
    have z1 : s 21 0 i = g := z1
    have z2 : s 22 0 i ≤ T := Int32.not_lt.mp z2
    have z3 : T ≤ s 23 0 i := Int32.not_lt.mp z3
    refine am_vZ am_k11 am_r11 rfl (Or.inr rfl) (K1 (fun e => ?_))
    have := cntN_none e i (by omega)
    simp [z1, z2, z3] at this
theorem x_isBroken {a b T : Int32} (hk : s 2 0 0 = nI k) (hk2 : k ≤ 20) : am_D l 11 [aR 2 0, aI a, aI b, aI T] s τ (rX t) cX lX (some (aI (bI (¬ bkX s (lineI a b) T k = 0)))) s τ (rX t) := by
  refine am_D_of am_o11 am_l11 rfl ?_
  refine am_vc_ok am_k11 [10] 100 ?_
  refine am_vS am_k11 am_h11 rfl rfl rfl rfl (x_lineI) ?_
  refine am_vc_ok am_k11 [10] 100 ?_
  refine x_brk_loop hk hk2 (fun h => ?_) (fun h => ?_) k 0 (by omega) rfl
  · exact ⟨by rw [bI_t h], rfl, rfl, rfl, rfl, rfl⟩
  · exact ⟨by rw [bI_f (fun z => z h)], rfl, rfl, rfl, rfl, rfl⟩
theorem m_brk_loop {Q : tQ} {a b : Int32} (hk : s 12 0 64 = nI k) (hk2 : k ≤ 20) (K : am_G l 216 Q 0 0 69 [(4, aI (nI k)), (3, aI (if bkM s (lineI a b) (s 12 0 5) k = 0 then 0 else 1)), (0, aR 12 0), (1, aI a), (2, aI b)] [] s τ (rX t) cX lX) : ∀ (d i : Nat), i + d = k → am_G l 216 Q 0 0 5 [(4, aI (nI i)), (3, aI (if bkM s (lineI a b) (s 12 0 5) i = 0 then 0 else 1)), (0, aR 12 0), (1, aI a), (2, aI b)] [] s τ (rX t) cX lX
  | 0, i, h => by
    obtain rfl : i = k := by omega
    refine am_vc_ok am_k216 [5, 69] 100 ?_
    exact And.intro (fun _ => K) (fun g => absurd (by rw [hk]; exact Int32.le_refl _) g)
  | d + 1, i, h => by
    have K2 := m_brk_loop hk hk2 K d (i + 1) (by omega)
    rw [← nI_1] at K2
    refine am_vc_ok am_k216 [5, 69] 100 ?_
    refine And.intro (fun g => absurd (show nI k ≤ nI i by rw [← hk]; exact g) (nI_ge (b := k) (by omega) (by omega))) (fun _ => ?_)
    by_cases y : bkM s (lineI a b) (s 12 0 5) i = 0
    · have KN : ¬ (s 91 0 i = lineI a b ∧ s 92 0 i ≤ s 12 0 5 ∧ s 12 0 5 ≤ s 93 0 i) → am_G l 216 Q 0 0 5 [(4, aI (nI i + 1)), (3, aI 0), (0, aR 12 0), (1, aI a), (2, aI b)] [] s τ (rX t) cX lX := by
        intro z
        rw [if_pos (show bkM s (lineI a b) (s 12 0 5) (i + 1) = 0 by unfold bkM; rw [cntN_0 (by simpa using z)]; exact y)] at K2
        exact K2
      rw [if_pos y]
      refine And.intro (fun _ => ?_) (fun g => absurd rfl g)
      refine And.intro (vp_in_nI (N := 20) (show i < 20 by omega) (by decide)) ?_
      rw [nI_clamp (n := i) (by omega)]
      refine am_vS am_k216 am_h216 rfl rfl rfl rfl (m_lineI) ?_
      refine am_vc_ok am_k216 [5, 69] 100 ?_
      refine And.intro (fun z1 => ?_) (fun z1 => KN (fun z => z1 z.1))
      have z1 : s 91 0 i = lineI a b := z1
      refine And.intro (vp_in_nI (N := 20) (show i < 20 by omega) (by decide)) ?_
      rw [nI_clamp (n := i) (by omega)]
      refine And.intro (vp_in_nI (N := 20) (show i < 20 by omega) (by decide)) ?_
      rw [nI_clamp (n := i) (by omega)]
      refine am_vS am_k216 am_h216 rfl rfl rfl rfl (m_in) ?_
      refine am_vc_ok am_k216 [5, 69] 100 ?_
      refine And.intro (fun z2 => KN (fun z => (bI_0.mp z2) z.2)) (fun z2 => ?_)
      have z2 := bI_1.mp z2
      rw [if_neg (show ¬ bkM s (lineI a b) (s 12 0 5) (i + 1) = 0 by unfold bkM; rw [cntN_1 (by simpa using ⟨z1, z2⟩)]; omega)] at K2
      exact K2
    · rw [if_neg y]
      refine And.intro (fun g => absurd g (by decide)) (fun _ => ?_)
      rw [if_neg (show ¬ bkM s (lineI a b) (s 12 0 5) (i + 1) = 0 from fun z => y (Nat.le_zero.mp (Nat.le_trans (cntN_up (p := fun i => decide (s 91 0 i = lineI a b ∧ s 92 0 i ≤ s 12 0 5 ∧ s 12 0 5 ≤ s 93 0 i))) (Nat.le_of_eq z))))] at K2
      exact K2
theorem m_isBroken {a b : Int32} (hk : s 12 0 64 = nI k) (hk2 : k ≤ 20) : am_D l 216 [aR 12 0, aI a, aI b] s τ (rX t) cX lX (some (aI (bI (¬ bkM s (lineI a b) (s 12 0 5) k = 0)))) s τ (rX t) := by
  refine am_D_of am_o216 am_l216 rfl ?_
  refine am_vc_ok am_k216 [5, 69] 100 ?_
  refine m_brk_loop hk hk2 ?_ k 0 (by omega)
  refine am_vc_ok am_k216 [] 100 ?_
  by_cases y : bkM s (lineI a b) (s 12 0 5) k = 0
  · rw [if_pos y, bI_f (fun z => z y)]
    exact am_vZ am_k216 am_r216 rfl (Or.inl rfl) ⟨rfl, rfl, rfl, rfl, rfl, rfl⟩
  · rw [if_neg y, bI_t y]
    exact am_vZ am_k216 am_r216 rfl (Or.inr rfl) ⟨rfl, rfl, rfl, rfl, rfl, rfl⟩
end L89

/-! ticks: a frame is taken, small steps -/
section L90
variable {l : Launch} {σ σ2 s s0 s1 A A0 A1 A2 : tI} {τ τ2 : tL} {t : Option (Nat × Nat)} {T n m lo k c b f w : Nat}
theorem x_end_not {h : Int32} (hc : c < 30) (h7 : ¬ s 0 c 7 = 0) : am_D l 17 [aR 3 0, aI (nI c), aI h] s τ (rX t) cX lX none s τ (rX t) := by
  refine am_D_of am_o17 am_l17 rfl ?_
  refine am_vc_ok am_k17 [] 100 ?_
  refine And.intro (vp_in_nI (N := 30) hc (by decide)) ?_
  rw [nI_clamp (n := c) (by omega)]
  refine And.intro (fun g => absurd g h7) (fun _ => ?_)
  exact am_vV am_k17 am_r17 rfl ⟨rfl, rfl, rfl, rfl, rfl, rfl⟩
theorem x_tc_on (hc : c < 30) (hb : b < 6) (h1 : s 0 c 1 = nI b) (h : s 0 c 12 = 1) : am_D l 24 [aR 3 0, aI (nI c)] s τ (rX t) cX lX none (u3 (u3 s 0 c 12 0) 8 b 5 (s 8 b 5 - 1)) τ (rX t) := by
  have f1 : (u3 s 0 c 12 0) 0 c 1 = nI b := by simp [u3, h1]
  refine am_D_of am_o24 am_l24 rfl ?_
  refine am_vc_ok am_k24 [] 100 ?_
  refine And.intro (vp_in_nI (N := 30) hc (by decide)) ?_
  rw [nI_clamp (n := c) (by omega)]
  refine And.intro (fun _ => ?_) (fun g => absurd h g)
  refine And.intro (vp_in_nI (N := 30) hc (by decide)) ?_
  rw [nI_clamp (n := c) (by omega)]
  refine And.intro (vp_in_nI (N := 30) hc (by decide)) ?_
  rw [nI_clamp (n := c) (by omega)]
  refine And.intro (by rw [f1]; exact vp_in_nI (N := 6) hb (by decide)) ?_
  rw [f1, nI_clamp (n := b) (by omega)]
  exact am_vV am_k24 am_r24 rfl ⟨rfl, rfl, rfl, rfl, rfl, rfl⟩
theorem x_tc_not (hc : c < 30) (h : ¬ s 0 c 12 = 1) : am_D l 24 [aR 3 0, aI (nI c)] s τ (rX t) cX lX none s τ (rX t) := by
  refine am_D_of am_o24 am_l24 rfl ?_
  refine am_vc_ok am_k24 [] 100 ?_
  refine And.intro (vp_in_nI (N := 30) hc (by decide)) ?_
  rw [nI_clamp (n := c) (by omega)]
  refine And.intro (fun g => absurd g h) (fun _ => ?_)
  exact am_vV am_k24 am_r24 rfl ⟨rfl, rfl, rfl, rfl, rfl, rfl⟩
theorem x_take_ping (hf : f < 690) (h19 : s 19 0 f = -9) : am_D l 22 [aR 3 0, aI (nI f)] s τ (rX t) cX lX none s τ (rX t) := by
  refine am_D_of am_o22 am_l22 rfl ?_
  refine am_vc_ok am_k22 [] 100 ?_
  refine And.intro (vp_in_nI (N := 690) hf (by decide)) ?_
  rw [nI_clamp (n := f) (by omega), h19]
  refine am_vS am_k22 am_h22 rfl rfl rfl rfl (x_within) ?_
  refine am_vc_ok am_k22 [] 100 ?_
  refine And.intro (fun _ => ?_) (fun g => absurd (bI_1.mp g).1 (by decide))
  exact am_vV am_k22 am_r22 rfl ⟨rfl, rfl, rfl, rfl, rfl, rfl⟩
theorem x_take_1 (hf : f < 690) (h19 : s 19 0 f = nI c) (hn : s 3 0 5 = nI n) (hn2 : n ≤ 30) (hc : c < n) (h14 : s 14 0 f = 1) (hD : am_D l 23 [aR 3 0, aI (nI c)] s τ (rX t) cX lX none s1 τ (rX t)) : am_D l 22 [aR 3 0, aI (nI f)] s τ (rX t) cX lX none s1 τ (rX t) := by
  refine am_D_of am_o22 am_l22 rfl ?_
  refine am_vc_ok am_k22 [] 100 ?_
  refine And.intro (vp_in_nI (N := 690) hf (by decide)) ?_
  rw [nI_clamp (n := f) (by omega), h19]
  refine am_vS am_k22 am_h22 rfl rfl rfl rfl (x_within) ?_
  refine am_vc_ok am_k22 [] 100 ?_
  refine And.intro (fun g => absurd (by rw [hn]; exact inN hc (by omega)) (bI_0.mp g)) (fun _ => ?_)
  refine And.intro (vp_in_nI (N := 690) hf (by decide)) ?_
  rw [nI_clamp (n := f) (by omega), h14]
  refine am_sw 68 (by decide +kernel) ?_
  refine am_vO am_k22 am_h22 rfl rfl rfl rfl (hD) ?_
  refine am_vc_ok am_k22 [] 100 ?_
  exact am_vV am_k22 am_r22 rfl ⟨rfl, rfl, rfl, rfl, rfl, rfl⟩
theorem x_take_2 (hf : f < 690) (h19 : s 19 0 f = nI c) (hn : s 3 0 5 = nI n) (hn2 : n ≤ 30) (hc : c < n) (h14 : s 14 0 f = 2) (hD : am_D l 17 [aR 3 0, aI (nI c), aI 3] s τ (rX t) cX lX none s1 τ (rX t)) : am_D l 22 [aR 3 0, aI (nI f)] s τ (rX t) cX lX none s1 τ (rX t) := by
  refine am_D_of am_o22 am_l22 rfl ?_
  refine am_vc_ok am_k22 [] 100 ?_
  refine And.intro (vp_in_nI (N := 690) hf (by decide)) ?_
  rw [nI_clamp (n := f) (by omega), h19]
  refine am_vS am_k22 am_h22 rfl rfl rfl rfl (x_within) ?_
  refine am_vc_ok am_k22 [] 100 ?_
  refine And.intro (fun g => absurd (by rw [hn]; exact inN hc (by omega)) (bI_0.mp g)) (fun _ => ?_)
  refine And.intro (vp_in_nI (N := 690) hf (by decide)) ?_
  rw [nI_clamp (n := f) (by omega), h14]
  refine am_sw 76 (by decide +kernel) ?_
  refine am_vO am_k22 am_h22 rfl rfl rfl rfl (hD) ?_
  refine am_vc_ok am_k22 [] 100 ?_
  exact am_vV am_k22 am_r22 rfl ⟨rfl, rfl, rfl, rfl, rfl, rfl⟩
theorem x_take_3 (hf : f < 690) (h19 : s 19 0 f = nI c) (hn : s 3 0 5 = nI n) (hn2 : n ≤ 30) (hc : c < n) (h14 : s 14 0 f = 3) (hD : am_D l 17 [aR 3 0, aI (nI c), aI (s 20 0 f)] s τ (rX t) cX lX none s1 τ (rX t)) : am_D l 22 [aR 3 0, aI (nI f)] s τ (rX t) cX lX none s1 τ (rX t) := by
  refine am_D_of am_o22 am_l22 rfl ?_
  refine am_vc_ok am_k22 [] 100 ?_
  refine And.intro (vp_in_nI (N := 690) hf (by decide)) ?_
  rw [nI_clamp (n := f) (by omega), h19]
  refine am_vS am_k22 am_h22 rfl rfl rfl rfl (x_within) ?_
  refine am_vc_ok am_k22 [] 100 ?_
  refine And.intro (fun g => absurd (by rw [hn]; exact inN hc (by omega)) (bI_0.mp g)) (fun _ => ?_)
  refine And.intro (vp_in_nI (N := 690) hf (by decide)) ?_
  rw [nI_clamp (n := f) (by omega), h14]
  refine am_sw 85 (by decide +kernel) ?_
  refine And.intro (vp_in_nI (N := 690) hf (by decide)) ?_
  rw [nI_clamp (n := f) (by omega)]
  refine am_vO am_k22 am_h22 rfl rfl rfl rfl (hD) ?_
  refine am_vc_ok am_k22 [] 100 ?_
  exact am_vV am_k22 am_r22 rfl ⟨rfl, rfl, rfl, rfl, rfl, rfl⟩
theorem x_take_4 (hf : f < 690) (h19 : s 19 0 f = nI c) (hn : s 3 0 5 = nI n) (hn2 : n ≤ 30) (hc : c < n) (h14 : s 14 0 f = 4) : am_D l 22 [aR 3 0, aI (nI f)] s τ (rX t) cX lX none (u3 s 0 c 18 (s 0 c 18 + 1)) τ (rX t) := by
  refine am_D_of am_o22 am_l22 rfl ?_
  refine am_vc_ok am_k22 [] 100 ?_
  refine And.intro (vp_in_nI (N := 690) hf (by decide)) ?_
  rw [nI_clamp (n := f) (by omega), h19]
  refine am_vS am_k22 am_h22 rfl rfl rfl rfl (x_within) ?_
  refine am_vc_ok am_k22 [] 100 ?_
  refine And.intro (fun g => absurd (by rw [hn]; exact inN hc (by omega)) (bI_0.mp g)) (fun _ => ?_)
  refine And.intro (vp_in_nI (N := 690) hf (by decide)) ?_
  rw [nI_clamp (n := f) (by omega), h14]
  refine am_sw 102 (by decide +kernel) ?_
  refine And.intro (vp_in_nI (N := 30) (show c < 30 by omega) (by decide)) ?_
  rw [nI_clamp (n := c) (by omega)]
  exact am_vV am_k22 am_r22 rfl ⟨rfl, rfl, rfl, rfl, rfl, rfl⟩
theorem x_take_5 (hf : f < 690) (h19 : s 19 0 f = nI c) (hn : s 3 0 5 = nI n) (hn2 : n ≤ 30) (hc : c < n) (h14 : s 14 0 f = 5) : am_D l 22 [aR 3 0, aI (nI f)] s τ (rX t) cX lX none (u3 s 0 c 16 (s 0 c 16 + s 20 0 f)) τ (rX t) := by
  refine am_D_of am_o22 am_l22 rfl ?_
  refine am_vc_ok am_k22 [] 100 ?_
  refine And.intro (vp_in_nI (N := 690) hf (by decide)) ?_
  rw [nI_clamp (n := f) (by omega), h19]
  refine am_vS am_k22 am_h22 rfl rfl rfl rfl (x_within) ?_
  refine am_vc_ok am_k22 [] 100 ?_
  refine And.intro (fun g => absurd (by rw [hn]; exact inN hc (by omega)) (bI_0.mp g)) (fun _ => ?_)
  refine And.intro (vp_in_nI (N := 690) hf (by decide)) ?_
  rw [nI_clamp (n := f) (by omega), h14]
  refine am_sw 120 (by decide +kernel) ?_
  refine And.intro (vp_in_nI (N := 30) (show c < 30 by omega) (by decide)) ?_
  rw [nI_clamp (n := c) (by omega)]
  refine And.intro (vp_in_nI (N := 690) hf (by decide)) ?_
  rw [nI_clamp (n := f) (by omega)]
  exact am_vV am_k22 am_r22 rfl ⟨rfl, rfl, rfl, rfl, rfl, rfl⟩
theorem x_take_6 (hf : f < 690) (h19 : s 19 0 f = nI c) (hn : s 3 0 5 = nI n) (hn2 : n ≤ 30) (hc : c < n) (h14 : s 14 0 f = 6) (hD : am_D l 24 [aR 3 0, aI (nI c)] s τ (rX t) cX lX none s1 τ (rX t)) : am_D l 22 [aR 3 0, aI (nI f)] s τ (rX t) cX lX none s1 τ (rX t) := by
  refine am_D_of am_o22 am_l22 rfl ?_
  refine am_vc_ok am_k22 [] 100 ?_
  refine And.intro (vp_in_nI (N := 690) hf (by decide)) ?_
  rw [nI_clamp (n := f) (by omega), h19]
  refine am_vS am_k22 am_h22 rfl rfl rfl rfl (x_within) ?_
  refine am_vc_ok am_k22 [] 100 ?_
  refine And.intro (fun g => absurd (by rw [hn]; exact inN hc (by omega)) (bI_0.mp g)) (fun _ => ?_)
  refine And.intro (vp_in_nI (N := 690) hf (by decide)) ?_
  rw [nI_clamp (n := f) (by omega), h14]
  refine am_sw 146 (by decide +kernel) ?_
  refine am_vO am_k22 am_h22 rfl rfl rfl rfl (hD) ?_
  refine am_vc_ok am_k22 [] 100 ?_
  exact am_vV am_k22 am_r22 rfl ⟨rfl, rfl, rfl, rfl, rfl, rfl⟩
theorem m_tf_ping (hf : f < 1200) (h : σ 84 0 f = 0) : am_D l 223 [aR 12 0, aI (nI f)] σ τ (rX t) cX lX none σ τ (rX t) := by
  refine am_D_of am_o223 am_l223 rfl ?_
  refine am_vc_ok am_k223 [] 100 ?_
  refine And.intro (vp_in_nI (N := 1200) hf (by decide)) ?_
  rw [nI_clamp (n := f) (by omega)]
  refine And.intro (vp_in_nI (N := 1200) hf (by decide)) ?_
  rw [nI_clamp (n := f) (by omega), h]
  refine am_sw 153 (by decide +kernel) ?_
  exact am_vV am_k223 am_r223 rfl ⟨rfl, rfl, rfl, rfl, rfl, rfl⟩
theorem m_tf_1 (hf : f < 1200) (h89 : σ 89 0 f = nI c) (h : σ 84 0 f = 1) (hD : am_D l 222 [aR 12 0, aI (nI c), aI (σ 90 0 f)] σ τ (rX t) cX lX none σ2 τ (rX t)) : am_D l 223 [aR 12 0, aI (nI f)] σ τ (rX t) cX lX none σ2 τ (rX t) := by
  refine am_D_of am_o223 am_l223 rfl ?_
  refine am_vc_ok am_k223 [] 100 ?_
  refine And.intro (vp_in_nI (N := 1200) hf (by decide)) ?_
  rw [nI_clamp (n := f) (by omega), h89]
  refine And.intro (vp_in_nI (N := 1200) hf (by decide)) ?_
  rw [nI_clamp (n := f) (by omega), h]
  refine am_sw 52 (by decide +kernel) ?_
  refine And.intro (vp_in_nI (N := 1200) hf (by decide)) ?_
  rw [nI_clamp (n := f) (by omega)]
  refine am_vO am_k223 am_h223 rfl rfl rfl rfl (hD) ?_
  refine am_vc_ok am_k223 [] 100 ?_
  exact am_vV am_k223 am_r223 rfl ⟨rfl, rfl, rfl, rfl, rfl, rfl⟩
theorem m_tf_2n {kd : Int32} (hk : kd = 2 ∨ kd = 3) (hf : f < 1200) (hc : c < 30) (h89 : σ 89 0 f = nI c) (h : σ 84 0 f = kd) (h7 : ¬ σ 71 0 c = 0) : am_D l 223 [aR 12 0, aI (nI f)] σ τ (rX t) cX lX none σ τ (rX t) := by
  refine am_D_of am_o223 am_l223 rfl ?_
  refine am_vc_ok am_k223 [] 100 ?_
  refine And.intro (vp_in_nI (N := 1200) hf (by decide)) ?_
  rw [nI_clamp (n := f) (by omega), h89]
  refine And.intro (vp_in_nI (N := 1200) hf (by decide)) ?_
  rw [nI_clamp (n := f) (by omega), h]
  rcases hk with rfl | rfl
  · refine am_sw 91 (by decide +kernel) ?_
    refine And.intro (vp_in_nI (N := 30) hc (by decide)) ?_
    rw [nI_clamp (n := c) (by omega)]
    refine And.intro (fun g => absurd g h7) (fun _ => ?_)
    exact am_vV am_k223 am_r223 rfl ⟨rfl, rfl, rfl, rfl, rfl, rfl⟩
  · refine am_sw 91 (by decide +kernel) ?_
    refine And.intro (vp_in_nI (N := 30) hc (by decide)) ?_
    rw [nI_clamp (n := c) (by omega)]
    refine And.intro (fun g => absurd g h7) (fun _ => ?_)
    exact am_vV am_k223 am_r223 rfl ⟨rfl, rfl, rfl, rfl, rfl, rfl⟩
theorem m_tf_2 (hf : f < 1200) (hc : c < 30) (h89 : σ 89 0 f = nI c) (h : σ 84 0 f = 2) (h7 : σ 71 0 c = 0) : am_D l 223 [aR 12 0, aI (nI f)] σ τ (rX t) cX lX none (mends σ c 3) τ (rX t) := by
  refine am_D_of am_o223 am_l223 rfl ?_
  refine am_vc_ok am_k223 [] 100 ?_
  refine And.intro (vp_in_nI (N := 1200) hf (by decide)) ?_
  rw [nI_clamp (n := f) (by omega), h89]
  refine And.intro (vp_in_nI (N := 1200) hf (by decide)) ?_
  rw [nI_clamp (n := f) (by omega), h]
  refine am_sw 91 (by decide +kernel) ?_
  refine And.intro (vp_in_nI (N := 30) hc (by decide)) ?_
  rw [nI_clamp (n := c) (by omega)]
  refine And.intro (fun _ => ?_) (fun g => absurd h7 g)
  refine And.intro (vp_in_nI (N := 1200) hf (by decide)) ?_
  rw [nI_clamp (n := f) (by omega), h]
  refine And.intro (fun _ => ?_) (fun g => absurd rfl g)
  refine am_vO am_k223 am_h223 rfl rfl rfl rfl (m_ends hc) ?_
  refine am_vc_ok am_k223 [] 100 ?_
  exact am_vV am_k223 am_r223 rfl ⟨rfl, rfl, rfl, rfl, rfl, rfl⟩
theorem m_tf_3 (hf : f < 1200) (hc : c < 30) (h89 : σ 89 0 f = nI c) (h : σ 84 0 f = 3) (h7 : σ 71 0 c = 0) : am_D l 223 [aR 12 0, aI (nI f)] σ τ (rX t) cX lX none (mends σ c (σ 90 0 f)) τ (rX t) := by
  refine am_D_of am_o223 am_l223 rfl ?_
  refine am_vc_ok am_k223 [] 100 ?_
  refine And.intro (vp_in_nI (N := 1200) hf (by decide)) ?_
  rw [nI_clamp (n := f) (by omega), h89]
  refine And.intro (vp_in_nI (N := 1200) hf (by decide)) ?_
  rw [nI_clamp (n := f) (by omega), h]
  refine am_sw 91 (by decide +kernel) ?_
  refine And.intro (vp_in_nI (N := 30) hc (by decide)) ?_
  rw [nI_clamp (n := c) (by omega)]
  refine And.intro (fun _ => ?_) (fun g => absurd h7 g)
  refine And.intro (vp_in_nI (N := 1200) hf (by decide)) ?_
  rw [nI_clamp (n := f) (by omega), h]
  refine And.intro (fun g => absurd g (by decide)) (fun _ => ?_)
  refine And.intro (vp_in_nI (N := 1200) hf (by decide)) ?_
  rw [nI_clamp (n := f) (by omega)]
  refine am_vO am_k223 am_h223 rfl rfl rfl rfl (m_ends hc) ?_
  refine am_vc_ok am_k223 [] 100 ?_
  exact am_vV am_k223 am_r223 rfl ⟨rfl, rfl, rfl, rfl, rfl, rfl⟩
theorem m_tf_4 (hf : f < 1200) (hc : c < 30) (h89 : σ 89 0 f = nI c) (h : σ 84 0 f = 4) : am_D l 223 [aR 12 0, aI (nI f)] σ τ (rX t) cX lX none (u3 σ 83 0 c (σ 83 0 c + 1)) τ (rX t) := by
  refine am_D_of am_o223 am_l223 rfl ?_
  refine am_vc_ok am_k223 [] 100 ?_
  refine And.intro (vp_in_nI (N := 1200) hf (by decide)) ?_
  rw [nI_clamp (n := f) (by omega), h89]
  refine And.intro (vp_in_nI (N := 1200) hf (by decide)) ?_
  rw [nI_clamp (n := f) (by omega), h]
  refine am_sw 126 (by decide +kernel) ?_
  refine And.intro (vp_in_nI (N := 30) hc (by decide)) ?_
  refine And.intro (vp_in_nI (N := 30) hc (by decide)) ?_
  rw [nI_clamp (n := c) (by omega)]
  exact am_vV am_k223 am_r223 rfl ⟨rfl, rfl, rfl, rfl, rfl, rfl⟩
theorem m_tf_5 (hf : f < 1200) (hc : c < 30) (h89 : σ 89 0 f = nI c) (h : σ 84 0 f = 5) : am_D l 223 [aR 12 0, aI (nI f)] σ τ (rX t) cX lX none (u3 σ 81 0 c (σ 81 0 c + σ 90 0 f)) τ (rX t) := by
  refine am_D_of am_o223 am_l223 rfl ?_
  refine am_vc_ok am_k223 [] 100 ?_
  refine And.intro (vp_in_nI (N := 1200) hf (by decide)) ?_
  rw [nI_clamp (n := f) (by omega), h89]
  refine And.intro (vp_in_nI (N := 1200) hf (by decide)) ?_
  rw [nI_clamp (n := f) (by omega), h]
  refine am_sw 137 (by decide +kernel) ?_
  refine And.intro (vp_in_nI (N := 30) hc (by decide)) ?_
  refine And.intro (vp_in_nI (N := 1200) hf (by decide)) ?_
  refine And.intro (vp_in_nI (N := 30) hc (by decide)) ?_
  rw [nI_clamp (n := c) (by omega), nI_clamp (n := f) (by omega)]
  exact am_vV am_k223 am_r223 rfl ⟨rfl, rfl, rfl, rfl, rfl, rfl⟩
theorem m_tf_6 {v : Int32} (hf : f < 1200) (hc : c < 30) (h89 : σ 89 0 f = nI c) (h : σ 84 0 f = 6) (hv : v = if σ 77 0 c = 1 then 0 else σ 77 0 c) : am_D l 223 [aR 12 0, aI (nI f)] σ τ (rX t) cX lX none (u3 σ 77 0 c v) τ (rX t) := by
  subst hv
  refine am_D_of am_o223 am_l223 rfl ?_
  refine am_vc_ok am_k223 [] 100 ?_
  refine And.intro (vp_in_nI (N := 1200) hf (by decide)) ?_
  rw [nI_clamp (n := f) (by omega), h89]
  refine And.intro (vp_in_nI (N := 1200) hf (by decide)) ?_
  rw [nI_clamp (n := f) (by omega), h]
  refine am_sw 64 (by decide +kernel) ?_
  refine And.intro (vp_in_nI (N := 30) hc (by decide)) ?_
  rw [nI_clamp (n := c) (by omega)]
  refine And.intro (fun g => ?_) (fun g => ?_)
  · have g : σ 77 0 c = 1 := g
    rw [if_pos g]
    refine And.intro (vp_in_nI (N := 30) hc (by decide)) ?_
    rw [nI_clamp (n := c) (by omega)]
    exact am_vV am_k223 am_r223 rfl ⟨rfl, rfl, rfl, rfl, rfl, rfl⟩
  · have g : ¬ σ 77 0 c = 1 := g
    rw [if_neg g]
    refine And.intro (vp_in_nI (N := 30) hc (by decide)) ?_
    rw [nI_clamp (n := c) (by omega)]
    refine And.intro (vp_in_nI (N := 30) hc (by decide)) ?_
    rw [nI_clamp (n := c) (by omega)]
    exact am_vV am_k223 am_r223 rfl ⟨rfl, rfl, rfl, rfl, rfl, rfl⟩
end L90

/-! ticks: a frame is taken, both sides -/
section L91
variable {l : Launch} {σ σ2 s s0 s1 A A0 A1 A2 : tI} {τ τ2 : tL} {t : Option (Nat × Nat)} {T n m m0 lo k c b f w : Nat}
theorem u3_cm {g : tI} {q i j q2 i2 j2 : Nat} {v w : Int32} (h : ¬ (q = q2 ∧ i = i2 ∧ j = j2)) : u3 (u3 g q i j v) q2 i2 j2 w = u3 (u3 g q2 i2 j2 w) q i j v := by
  funext a b d
  by_cases h1 : a = q ∧ b = i ∧ d = j
  · obtain ⟨rfl, rfl, rfl⟩ := h1
    rw [u3_at h, u3_eq, u3_eq]
  · rw [u3_at (f := u3 g q2 i2 j2 w) h1]
    by_cases h2 : a = q2 ∧ b = i2 ∧ d = j2
    · obtain ⟨rfl, rfl, rfl⟩ := h2
      rw [u3_eq, u3_eq]
    · rw [u3_at h2, u3_at h1, u3_at h2]
/-- the state of the relation while frames come: lo is the next one -/
def Gs (s A : tI) (lo : Nat) : tI := mrg (u3 s 1 0 2 (nI lo)) A
theorem Gs_x {q i j : Nat} {v : Int32} (h : isC q = true) (h2 : ¬ (1 = q ∧ 0 = i ∧ 2 = j)) : u3 (Gs s A lo) q i j v = Gs (u3 s q i j v) A lo := by
  unfold Gs
  rw [← mrg_x h, u3_cm h2]
theorem Gs_m {q i j : Nat} {v : Int32} (h : isC q = false) : u3 (Gs s A lo) q i j v = Gs s (u3 A q i j v) lo := by
  unfold Gs
  rw [← mrg_m h]
theorem Gs_xsend {kd a b d : Int32} : xsend (Gs s A lo) m c kd a b d = Gs (xsend s m c kd a b d) A lo := by
  simp only [xsend, xadd]
  rw [Gs_x rfl (by simp), Gs_x rfl (by simp), Gs_x rfl (by simp), Gs_x rfl (by simp), Gs_x rfl (by simp), Gs_x rfl (by simp), Gs_x rfl (by simp), Gs_x rfl (by simp), Gs_x rfl (by simp)]
  rfl
theorem Gs_msend {kd a b c d : Int32} : msend (Gs s A lo) m kd a b c d = Gs s (msend A m kd a b c d) lo := by
  unfold Gs
  rw [mrg_msend]
theorem Gs_ssnd {kd : Nat} {a b dx dm : Int32} : ssnd (Gs s A lo) m c kd a b dx dm = Gs (xsend s m c (nI kd) a b dx) (msend A m (nI kd) a b (nI c) dm) lo := by
  unfold ssnd
  rw [Gs_xsend, Gs_msend]
/-- a piece came; credit came -/
abbrev spp (σ : tI) (c : Nat) : tI := u3 (u3 σ 0 c 18 (σ 0 c 18 + 1)) 83 0 c (σ 83 0 c + 1)
theorem Rnet0.ppc (h0 : Rnet0 σ T n m lo k) (ha : RaccS σ n m lo c 0) (hc : c < n) : Rnet (spp σ c) T n m lo k := by
  obtain ⟨kR, kO, kU⟩ := h0.2.2.1 c hc
  have E : ccF σ (spp σ c) c := by
    refine ⟨fun q hq => ?_, fun c2 h2 => ⟨?_, ?_⟩, fun q c2 h1 h1b h1c h2 => ?_, fun c2 y h2 hy => ?_, fun y hy => ?_, fun a y hy5 hy6 => ?_, ?_⟩
    · have z := ccK_ne hq
      funext i y
      simp [u3, z]
    · funext y; simp [u3, h2]
    · funext y; simp [u3, h2]
    · have z : q ≠ 0 ∧ q ≠ 3 ∧ q ≠ 8 ∧ q ≠ 13 ∧ q ≠ 80 := by omega
      simp [u3, h2, z]
    · simp [u3, h2]
    · simp [u3, hy]
    · simp [u3, hy5, hy6]
    · simp [u3]
  refine Rnet.join (h0.cc hc E ?_ ?_ ?_ ?_ ?_) (Racc.S (x := 0) (ha.cc E (by simp [u3]) (by simp [u3]) (by simp [u3]) (by simpa [u3] using ha.k81 hc)))
  · unfold Rcall at kR ⊢
    obtain ⟨a0, a1, a2, a3, a4, a5, a6, a7, a8, a9, b0, b1, b2, b3, b4, b5, b6, b7, b8⟩ := kR
    refine ⟨?_, ?_, ?_, ?_, ?_, ?_, ?_, ?_, ?_, ?_, ?_, ?_, ?_, ?_, ?_, ?_, ?_, ?_, ?_⟩
    all_goals (first | (simp [u3]; done) | (simp [u3]; assumption) | skip)
  · simpa [Ocall, u3] using kO
  · simpa [u3] using h0.2.2.2.2.1
  · intro a ha
    exact (h0.2.2.2.2.2.1 a ha).2.2.2.2.2.2
  · intro f _ _ _ _
    simp [u3]
abbrev scr (σ : tI) (c y : Nat) : tI := u3 (u3 σ 0 c 16 (nI y)) 81 0 c (nI y)
theorem Rnet0.crc {y y0 : Nat} (h0 : Rnet0 σ T n m lo k) (ha : RaccS σ n m lo c 0) (hc : c < n) (hy0 : σ 81 0 c = nI y0) (hy : y0 ≤ y) (hy2 : y ≤ 9 * lo) (hy3 : y ≤ 7000) : Rnet (scr σ c y) T n m lo k := by
  obtain ⟨kR, kO, kU⟩ := h0.2.2.1 c hc
  have E : ccF σ (scr σ c y) c := by
    refine ⟨fun q hq => ?_, fun c2 h2 => ⟨?_, ?_⟩, fun q c2 h1 h1b h1c h2 => ?_, fun c2 y h2 hy => ?_, fun y hy => ?_, fun a y hy5 hy6 => ?_, ?_⟩
    · have z := ccK_ne hq
      funext i y
      simp [u3, z]
    · funext y; simp [u3, h2]
    · funext y; simp [u3, h2]
    · have z : q ≠ 0 ∧ q ≠ 3 ∧ q ≠ 8 ∧ q ≠ 13 ∧ q ≠ 80 := by omega
      simp [u3, h2, z]
    · simp [u3, h2]
    · simp [u3, hy]
    · simp [u3, hy5, hy6]
    · simp [u3]
  refine Rnet.join (h0.cc hc E ?_ ?_ ?_ ?_ ?_) (Racc.S (x := 0) (ha.cc E (by simp [u3]) (by simp [u3]) (by simp [u3]) ?_))
  · unfold Rcall at kR ⊢
    obtain ⟨a0, a1, a2, a3, a4, a5, a6, a7, a8, a9, b0, b1, b2, b3, b4, b5, b6, b7, b8⟩ := kR
    refine ⟨?_, ?_, ?_, ?_, ?_, ?_, ?_, ?_, ?_, ?_, ?_, ?_, ?_, ?_, ?_, ?_, ?_, ?_, ?_⟩
    all_goals (first | (simp [u3]; done) | (simp [u3]; assumption) | skip)
  · obtain ⟨k1, k2, k3, k4, k5, k6, x, y1, k7, k8, k9, k10⟩ := kO
    have e : y1 = y0 := (nI_eq (by omega) (by omega)).mp (k10.symm.trans hy0)
    exact ⟨by simpa [u3] using k1, by simpa [u3] using k2, by simpa [u3] using k3, by simpa [u3] using k4, by simpa [u3] using k5, by simpa [u3] using k6, x, y, by omega, hy3, by simpa [u3] using k9, by simp [u3]⟩
  · simpa [u3] using h0.2.2.2.2.1
  · intro a ha
    exact (h0.2.2.2.2.2.1 a ha).2.2.2.2.2.2
  · intro f _ _ _ _
    simp [u3]
  · have e : scr σ c y 81 0 c = nI y := by simp [scr, u3]
    rw [e, nI_clamp (by omega)]
    exact hy2
/-- frame f is taken on both sides -/
noncomputable def TK (l : Launch) (s0 A0 s : tI) (τ : tL) (t : Option (Nat × Nat)) (A : tI) (f T n m m0 k : Nat) : Prop := ∃ s1 A1 m1, am_D l 22 [aR 3 0, aI (nI f)] s τ (rX t) cX lX none s1 τ (rX t) ∧ MD l 223 [aR 12 0, aI (nI f)] A none A1 ∧ Rnet (Gs s1 A1 (f + 1)) T n m1 (f + 1) k ∧ xF s0 s1 ∧ mF A0 A1 ∧ NA A1 m0 m1 ∧ m ≤ m1
theorem TK.end {x : Nat} {h : Nat} (h0 : Rnet0 (Gs s A (f + 1)) T n m (f + 1) k) (ha : RaccS (Gs s A (f + 1)) n m (f + 1) c x) (hc : c < n) (hh1 : 1 ≤ h) (hh2 : h < 9) (hF : xF s0 s) (hM : mF A0 A) (hN : NA A m0 m) (hX : ∀ s1, am_D l 17 [aR 3 0, aI (nI c), aI (nI h)] s τ (rX t) cX lX none s1 τ (rX t) → am_D l 22 [aR 3 0, aI (nI f)] s τ (rX t) cX lX none s1 τ (rX t)) (hY0 : ¬ A 71 0 c = 0 → MD l 223 [aR 12 0, aI (nI f)] A none A) (hY1 : A 71 0 c = 0 → MD l 223 [aR 12 0, aI (nI f)] A none (mends A c (nI h))) : TK l s0 A0 s τ t A f T n m m0 k := by
  have hR := Rnet.join h0 (Racc.S ha)
  have hn := h0.2.1.2.2
  have k7 : s 0 c 7 = A 71 0 c := (h0.2.2.1 c hc).1.2.2.2.2.2.2.2.1
  have hT : s 3 0 4 = nI T := h0.1.1
  have hTA : A 12 0 5 = nI T := h0.1.2.1
  by_cases q : A 71 0 c = 0
  · obtain ⟨w, hw2, hw⟩ := hR.opw hc q
    have hw : s 3 0 6 = nI (w + 1) := hw
    have R1 := hR.fin (hh := h) hc q hw hw2 hh1 hh2
    unfold sfin at R1
    rw [Gs_x rfl (by simp), Gs_x rfl (by simp), Gs_x rfl (by simp), Gs_m rfl, Gs_m rfl] at R1
    have eX : xend s c w (nI h) = u3 (u3 (u3 s 0 c 7 (nI h)) 0 c 8 (nI T)) 3 0 6 (nI w) := by
      unfold xend
      rw [hT]
    have eD : mends A c (nI h) = u3 (u3 A 71 0 c (nI h)) 75 0 c (nI T) := by
      unfold mends
      rw [hTA]
    have F1 : xF s0 (xend s c w (nI h)) := by
      repeat (first | exact hF | refine xF.u ?_ rfl)
    have M1 : mF A0 (mends A c (nI h)) := by
      repeat (first | exact hM | refine mF.u ?_ rfl)
    exact ⟨_, _, m, hX _ (x_end (w := w) (by omega) (k7.trans q) hw), hY1 q, by rw [eX, eD]; exact R1, F1, M1, hN.same rfl, Nat.le_refl _⟩
  · exact ⟨s, A, m, hX _ (x_end_not (by omega) (fun e => q (k7.symm.trans e))), hY0 q, hR, hF, hM, hN, Nat.le_refl _⟩
theorem TK.ask (h0 : Rnet0 (Gs s A (f + 1)) T n m (f + 1) k) (ha : RaccS (Gs s A (f + 1)) n m (f + 1) c 1) (hc : c < n) (hf : f < m) (hF : xF s0 s) (hM : mF A0 A) (hN : NA A m0 m) (h19 : s 19 0 f = nI c) (h84 : A 84 0 f = 1) (h90 : A 90 0 f = A 72 0 c) : TK l s0 A0 s τ t A f T n m m0 k := by
  have hR := Rnet.join h0 (Racc.S ha)
  have hmle := hR.m_le
  have hn := h0.2.1.2.2
  obtain ⟨kR, kO, -⟩ := h0.2.2.1 c hc
  obtain ⟨k0, k1, k2, k3, -, -, k6, -, -, k9, -, k12, -, k15, -, -, -, -, -⟩ := kR
  have k0 : s 0 c 0 = A 65 0 c := k0
  have k1 : s 0 c 1 = A 66 0 c := k1
  have k2 : s 0 c 2 = A 67 0 c := k2
  have k3 : s 0 c 3 = A 68 0 c := k3
  have k6 : s 0 c 6 = A 69 0 c := k6
  have k9 : s 0 c 9 = A 72 0 c := k9
  have k12 : s 0 c 12 = A 77 0 c := k12
  have k15 : s 0 c 15 = A 79 0 c := k15
  have hK : s 3 0 4 = A 12 0 5 := h0.1.1.trans h0.1.2.1.symm
  obtain ⟨-, b, -, hb, -, -, h66⟩ := kO.1
  have h66 : A 66 0 c = nI b := h66
  have g8 := h0.2.2.2.2.2.1 b hb
  have q2 : s 8 b 2 = A 62 0 b := g8.1
  have q3 : s 8 b 3 = A 63 0 b := g8.2.1
  have q5 : s 8 b 5 = nI (wtM A n b) := g8.2.2.2.2.2.2.1
  have q6 : s 8 b 6 = nI (dgM A n b) := g8.2.2.2.2.2.2.2
  have hm : s 1 0 0 = nI m := h0.2.2.2.2.2.2.1.1
  have hmA : A 12 0 54 = nI m := h0.2.2.2.2.2.2.1.2
  have h89 : A 89 0 f = nI c := ((h0.2.2.2.2.2.2.2.1 f hf).1.2.2.2.2.2.1).symm.trans h19
  have h14 : s 14 0 f = 1 := ((h0.2.2.2.2.2.2.2.1 f hf).1.1).trans h84
  have ans : ∀ (kd : Nat) (d : Int32), (2 ≤ kd ∧ kd ≤ 6) → kd ≠ 5 → (kd = 3 → ∃ e, 1 ≤ e ∧ e < 9 ∧ d = nI e) → Rnet (Gs (xsend s m c (nI kd) (A 66 0 c) (A 65 0 c) d) (msend A m (nI kd) (A 66 0 c) (A 65 0 c) (nI c) d) (f + 1)) T n (m + 1) (f + 1) k := by
    intro kd d h1 h2 h3
    rw [← Gs_ssnd]
    exact Rnet.join (h0.snd (by omega) hc (fun _ => rfl) (fun z => absurd z (by omega)) h3 (fun z => absurd z h2)) (Racc.S (x := 0) (ha.ans hc h1))
  have hm2 : m < 690 := by
    have := (ans 2 0 (by decide) (by decide) (fun z => absurd z (by decide))).m_le
    omega
  have xfs : ∀ kd a b d : Int32, xF s0 (xsend s m c kd a b d) := by
    intro kd a b d
    repeat (first | exact hF | refine xF.u ?_ rfl)
  have mfs : ∀ kd a b d : Int32, mF A0 (msend A m kd a b (nI c) d) := by
    intro kd a b d
    repeat (first | exact hM | refine mF.u ?_ rfl)
  have tM : ∀ σ : tI, taM (mrg σ A) c b m n (A 90 0 f) = if ¬ A 77 0 c = 0 then mrg σ A else if A 12 0 5 ≤ A 79 0 c then msend (mrg σ A) m 2 (A 66 0 c) (A 65 0 c) (nI c) 0 else if A 67 0 c = 1 ∧ 0 < A 90 0 f then msend (mrg σ A) m 3 (A 66 0 c) (A 65 0 c) (nI c) 8 else if A 69 0 c < A 12 0 5 + A 68 0 c then msend (mrg σ A) m 3 (A 66 0 c) (A 65 0 c) (nI c) 6 else if A 62 0 b ≤ nI (wtM A n b) + nI (dgM A n b) ∧ A 63 0 b ≤ nI (wtM A n b) then msend (mrg σ A) m 3 (A 66 0 c) (A 65 0 c) (nI c) 4 else u3 (mrg σ A) 77 0 c 1 := fun σ => rfl
  have tX : taX s c b m = if ¬ A 77 0 c = 0 then s else if A 12 0 5 ≤ A 79 0 c then xsend s m c 2 (A 66 0 c) (A 65 0 c) 0 else if A 67 0 c = 1 ∧ 0 < A 90 0 f then xsend s m c 3 (A 66 0 c) (A 65 0 c) 8 else if A 69 0 c < A 12 0 5 + A 68 0 c then xsend s m c 3 (A 66 0 c) (A 65 0 c) 6 else if A 62 0 b ≤ nI (wtM A n b) + nI (dgM A n b) ∧ A 63 0 b ≤ nI (wtM A n b) then xsend s m c 3 (A 66 0 c) (A 65 0 c) 4 else u3 (u3 s 0 c 12 1) 8 b 5 (s 8 b 5 + 1) := by
    unfold taX
    rw [k12, k15, hK, k2, k9, ← h90, k6, k3, q2, q6, q5, q3, Int32.add_comm (nI (dgM A n b)), k1, k0]
  have fin : ∀ (s1 A1 : tI) (m1 : Nat), taX s c b m = s1 → (∀ σ, taM (mrg σ A) c b m n (A 90 0 f) = mrg σ A1) → Rnet (Gs s1 A1 (f + 1)) T n m1 (f + 1) k → xF s0 s1 → mF A0 A1 → NA A1 m0 m1 → m ≤ m1 → TK l s0 A0 s τ t A f T n m m0 k := by
    intro s1 A1 m1 e1 e2 r1 r2 r3 r4 r5
    refine ⟨s1, A1, m1, x_take_1 (show f < 690 by omega) h19 h0.2.1.1 hn hc h14 ?_, fun σ τ t => m_tf_1 (show f < 1200 by omega) h89 h84 ?_, r1, r2, r3, r4, r5⟩
    · rw [← e1]
      exact x_takeAsk (by omega) hb (k1.trans h66) hm hm2
    · have := m_takeAsk (l := l) (τ := τ) (t := t) (σ := mrg σ A) (c := c) (b := b) (m := m) (n := n) (wh := A 90 0 f) (by omega) hb h66 hmA hm2 h0.2.1.2.1 hn
      rw [e2 σ] at this
      exact this
  by_cases z1 : A 77 0 c = 0
  rotate_left
  · exact fin s A m (by rw [tX, if_pos z1]) (fun σ => by rw [tM, if_pos z1]) hR hF hM hN (Nat.le_refl _)
  rw [if_neg (fun y => y z1)] at tX
  by_cases z2 : A 12 0 5 ≤ A 79 0 c
  · exact fin _ (msend A m 2 (A 66 0 c) (A 65 0 c) (nI c) 0) (m + 1) (by rw [tX, if_pos z2]; rfl) (fun σ => by rw [tM, if_neg (fun y => y z1), if_pos z2, mrg_msend]) (ans 2 0 (by decide) (by decide) (fun z => absurd z (by decide))) (xfs _ _ _ _) (mfs _ _ _ _) (hN.snd (by decide) rfl) (by omega)
  rw [if_neg z2] at tX
  by_cases z3 : A 67 0 c = 1 ∧ 0 < A 90 0 f
  · exact fin _ (msend A m 3 (A 66 0 c) (A 65 0 c) (nI c) 8) (m + 1) (by rw [tX, if_pos z3]; rfl) (fun σ => by rw [tM, if_neg (fun y => y z1), if_neg z2, if_pos z3, mrg_msend]) (ans 3 8 (by decide) (by decide) (fun _ => ⟨8, by decide, by decide, rfl⟩)) (xfs _ _ _ _) (mfs _ _ _ _) (hN.snd (by decide) rfl) (by omega)
  rw [if_neg z3] at tX
  by_cases z4 : A 69 0 c < A 12 0 5 + A 68 0 c
  · exact fin _ (msend A m 3 (A 66 0 c) (A 65 0 c) (nI c) 6) (m + 1) (by rw [tX, if_pos z4]; rfl) (fun σ => by rw [tM, if_neg (fun y => y z1), if_neg z2, if_neg z3, if_pos z4, mrg_msend]) (ans 3 6 (by decide) (by decide) (fun _ => ⟨6, by decide, by decide, rfl⟩)) (xfs _ _ _ _) (mfs _ _ _ _) (hN.snd (by decide) rfl) (by omega)
  rw [if_neg z4] at tX
  by_cases z5 : A 62 0 b ≤ nI (wtM A n b) + nI (dgM A n b) ∧ A 63 0 b ≤ nI (wtM A n b)
  · exact fin _ (msend A m 3 (A 66 0 c) (A 65 0 c) (nI c) 4) (m + 1) (by rw [tX, if_pos z5]; rfl) (fun σ => by rw [tM, if_neg (fun y => y z1), if_neg z2, if_neg z3, if_neg z4, if_pos z5, mrg_msend]) (ans 3 4 (by decide) (by decide) (fun _ => ⟨4, by decide, by decide, rfl⟩)) (xfs _ _ _ _) (mfs _ _ _ _) (hN.snd (by decide) rfl) (by omega)
  rw [if_neg z5] at tX
  have R1 := h0.pl1 ha hc h66 hb z1
  unfold spl at R1
  rw [Gs_x rfl (by simp), Gs_x rfl (by simp), Gs_m rfl] at R1
  exact fin _ (u3 A 77 0 c 1) m tX (fun σ => by rw [tM, if_neg (fun y => y z1), if_neg z2, if_neg z3, if_neg z4, if_neg z5, mrg_m rfl]) R1 ((hF.u rfl).u rfl) (hM.u rfl) (hN.same rfl) (Nat.le_refl _)
theorem TK.all (h0 : Rnet0 (Gs s A (f + 1)) T n m (f + 1) k) (ha : ∀ c, RaccS (Gs s A (f + 1)) n m (f + 1) c (if A 84 0 f = 1 ∧ A 89 0 f = nI c then 1 else 0)) (hf : f < m) (hF : xF s0 s) (hM : mF A0 A) (hN : NA A m0 m) (h90 : ∀ c, A 84 0 f = 1 → A 89 0 f = nI c → c < n → A 90 0 f = A 72 0 c) (h81 : ∀ c, c < n → (A 81 0 c).toNatClampNeg ≤ 9 * f) : TK l s0 A0 s τ t A f T n m m0 k := by
  have hR := Rnet.join h0 (Racc.S (ha 0))
  have hmle := hR.m_le
  have hn := h0.2.1.2.2
  obtain ⟨fR, fO⟩ := h0.2.2.2.2.2.2.2.1 f hf
  have e14 : s 14 0 f = A 84 0 f := fR.1
  have e19 : s 19 0 f = A 89 0 f := fR.2.2.2.2.2.1
  have e20 : ¬ A 84 0 f = 1 → s 20 0 f = A 90 0 f := fR.2.2.2.2.2.2
  rcases fO with ⟨g1, g2⟩ | ⟨kd, c, hk1, hk2, hc, g1, g2, g3, g5⟩
  · exact ⟨s, A, m, x_take_ping (show f < 690 by omega) (e19.trans g2), fun σ τ t => m_tf_ping (show f < 1200 by omega) g1, hR, hF, hM, hN, Nat.le_refl _⟩
  have g1 : A 84 0 f = nI kd := g1
  have g2 : A 89 0 f = nI c := g2
  have h19 := e19.trans g2
  have hac := ha c
  have kR := (h0.2.2.1 c hc).1
  have kO := (h0.2.2.1 c hc).2.1
  have n1 : kd ≠ 1 → ¬ A 84 0 f = 1 := fun h z => h ((nI_eq (b := 1) (by omega) (by decide)).mp (g1.symm.trans z))
  have hac0 : kd ≠ 1 → RaccS (Gs s A (f + 1)) n m (f + 1) c 0 := fun h => by
    rw [if_neg (fun z => n1 h z.1)] at hac
    exact hac
  match kd, hk1, hk2 with
  | 1, _, _ =>
    have q : A 84 0 f = 1 := g1
    rw [if_pos ⟨q, g2⟩] at hac
    exact TK.ask h0 hac hc hf hF hM hN h19 q (h90 c q g2 hc)
  | 2, _, _ =>
    have q : A 84 0 f = 2 := g1
    exact TK.end (h := 3) h0 (hac0 (by decide)) hc (by decide) (by decide) hF hM hN (fun s1 hD => x_take_2 (show f < 690 by omega) h19 h0.2.1.1 hn hc (e14.trans q) hD) (fun h7 σ τ t => m_tf_2n (Or.inl rfl) (show f < 1200 by omega) (by omega) g2 q h7) (fun h7 σ τ t => by rw [← mrg_mends]; exact m_tf_2 (show f < 1200 by omega) (by omega) g2 q h7)
  | 3, _, _ =>
    have q : A 84 0 f = 3 := g1
    obtain ⟨d, hd1, hd2, hd⟩ := g3 rfl
    have hd : A 90 0 f = nI d := hd
    have e := (e20 (n1 (by decide))).trans hd
    exact TK.end (h := d) h0 (hac0 (by decide)) hc hd1 hd2 hF hM hN (fun s1 hD => x_take_3 (show f < 690 by omega) h19 h0.2.1.1 hn hc (e14.trans q) (by rw [e]; exact hD)) (fun h7 σ τ t => m_tf_2n (Or.inr rfl) (show f < 1200 by omega) (by omega) g2 q h7) (fun h7 σ τ t => by rw [← mrg_mends, ← hd]; exact m_tf_3 (show f < 1200 by omega) (by omega) g2 q h7)
  | 4, _, _ =>
    have q : A 84 0 f = 4 := g1
    have R1 := h0.ppc (hac0 (by decide)) hc
    unfold spp at R1
    rw [Gs_x rfl (by simp), Gs_m rfl] at R1
    exact ⟨_, _, m, x_take_4 (show f < 690 by omega) h19 h0.2.1.1 hn hc (e14.trans q), fun σ τ t => by rw [mrg_m rfl]; exact m_tf_4 (show f < 1200 by omega) (by omega) g2 q, R1, hF.u rfl, hM.u rfl, hN.same rfl, Nat.le_refl _⟩
  | 5, _, _ =>
    have q : A 84 0 f = 5 := g1
    obtain ⟨d, hd1, hd⟩ := g5 rfl
    have hd : A 90 0 f = nI d := hd
    have e := (e20 (n1 (by decide))).trans hd
    obtain ⟨-, -, -, -, -, -, x, y, hxy, hy2, hx, hy⟩ := kO
    have hy : A 81 0 c = nI y := hy
    have k16 : s 0 c 16 = A 81 0 c := kR.2.2.2.2.2.2.2.2.2.2.2.2.2.2.1
    have h9 := h81 c hc
    rw [hy, nI_clamp (by omega)] at h9
    have R1 := h0.crc (y := y + d) (y0 := y) (hac0 (by decide)) hc hy (by omega) (by omega) (by omega)
    unfold scr at R1
    rw [Gs_x rfl (by simp), Gs_m rfl] at R1
    refine ⟨u3 s 0 c 16 (nI (y + d)), u3 A 81 0 c (nI (y + d)), m, ?_, fun σ τ t => ?_, R1, hF.u rfl, hM.u rfl, hN.same rfl, Nat.le_refl _⟩
    · have := x_take_5 (l := l) (τ := τ) (t := t) (show f < 690 by omega) h19 h0.2.1.1 hn hc (e14.trans q)
      rw [k16, hy, e, nI_add] at this
      exact this
    · have := m_tf_5 (l := l) (σ := mrg σ A) (τ := τ) (t := t) (show f < 1200 by omega) (show c < 30 by omega) g2 q
      rw [show mrg σ A 81 0 c + mrg σ A 90 0 f = nI (y + d) by show A 81 0 c + A 90 0 f = _; rw [hy, hd, nI_add], ← mrg_m rfl] at this
      exact this
  | 6, _, _ =>
    have q : A 84 0 f = 6 := g1
    obtain ⟨-, b, -, hb, -, -, h66⟩ := kO.1
    have h66 : A 66 0 c = nI b := h66
    have k1 : s 0 c 1 = A 66 0 c := kR.2.1
    have k12 : s 0 c 12 = A 77 0 c := kR.2.2.2.2.2.2.2.2.2.2.2.1
    by_cases z : A 77 0 c = 1
    · have R1 := h0.pl2 (hac0 (by decide)) hc h66 hb z
      unfold sun at R1
      rw [Gs_x rfl (by simp), Gs_x rfl (by simp), Gs_m rfl] at R1
      exact ⟨_, _, m, x_take_6 (show f < 690 by omega) h19 h0.2.1.1 hn hc (e14.trans q) (x_tc_on (by omega) hb (k1.trans h66) (k12.trans z)), fun σ τ t => by rw [mrg_m rfl]; exact m_tf_6 (show f < 1200 by omega) (by omega) g2 q (if_pos z).symm, R1, (hF.u rfl).u rfl, hM.u rfl, hN.same rfl, Nat.le_refl _⟩
    · refine ⟨s, A, m, x_take_6 (show f < 690 by omega) h19 h0.2.1.1 hn hc (e14.trans q) (x_tc_not (by omega) (fun e => z (k12.symm.trans e))), fun σ τ t => ?_, hR, hF, hM, hN, Nat.le_refl _⟩
      have := m_tf_6 (l := l) (σ := mrg σ A) (τ := τ) (t := t) (v := A 77 0 c) (show f < 1200 by omega) (show c < 30 by omega) g2 q (if_neg z).symm
      rw [u3_self (show mrg σ A 77 0 c = A 77 0 c from rfl)] at this
      exact this
end L91
