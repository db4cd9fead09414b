/-! THE RELATION between the class's cells and the model's -/
/-- how many i below n have p -/
def cntN (p : Nat → Bool) : Nat → Nat
  | 0 => 0
  | n + 1 => cntN p n + (if p n = true then 1 else 0)
def sumN (f : Nat → Nat) : Nat → Nat
  | 0 => 0
  | n + 1 => sumN f n + f n
def isB (v : Int32) : Prop := -128 ≤ v ∧ v ≤ 127
/-- a Row object d with places p, against a size and places g -/
def rRow (d p : Nat → Int32) (sz : Int32) (g : Nat → Int32) : Prop := ∃ n, n ≤ 60 ∧ d 1 = nI n ∧ ((d 0 = 0 ∧ sz = -9) ∨ (d 0 = 1 ∧ sz = nI n ∧ ∀ j, j < n → p j = g j))
def Rrows (σ : tI) : Prop := ∀ r, r < 6 → rRow (σ 6 (4 + r)) (σ 30 (4 + r)) (σ 44 0 r) (fun j => σ 45 0 (60 * r + j))
def Rtexts (σ : tI) : Prop := ∀ r, r < 6 → rRow (σ 6 (10 + r)) (σ 30 (10 + r)) (σ 47 0 r) (fun j => σ 48 0 (60 * r + j)) ∧ ∀ j, j < 60 → σ 47 0 r ≠ -9 → nI j < σ 47 0 r → isB (σ 30 (10 + r) j)
def pI (o : Option Nat) : Int32 := match o with
  | none => -9
  | some d => nI d
abbrev aSh : Type := Nat × (Nat → Nat) × (Nat → Nat) × (Nat → Nat) × (Nat → Nat) × (Nat → Nat) × (Nat → Option Nat)
abbrev sN (S : aSh) : Nat := S.1
abbrev sNm (S : aSh) : Nat → Nat := S.2.1
abbrev sSo (S : aSh) : Nat → Nat := S.2.2.1
abbrev sCh (S : aSh) : Nat → Nat := S.2.2.2.1
abbrev sSi (S : aSh) : Nat → Nat := S.2.2.2.2.1
abbrev sTi (S : aSh) : Nat → Nat := S.2.2.2.2.2.1
abbrev sPr (S : aSh) : Nat → Option Nat := S.2.2.2.2.2.2
/-- a shape's items are as the language wants them -/
def ShOK (S : aSh) : Prop := sN S ≤ 12 ∧ (∀ k, k < sN S → sNm S k < 16 ∧ sSo S k < 4 ∧ (sSo S k = 3 → 1 ≤ sCh S k ∧ sCh S k ≤ 9) ∧ (sSo S k ≠ 3 → sCh S k = 0) ∧ sSi S k ≤ sTi S k ∧ sTi S k ≤ 9 ∧ ∀ d, sPr S k = some d → d ≤ 999 ∧ sSo S k ≠ 2 ∧ (sSo S k = 0 → d ≤ 255) ∧ (sSo S k = 3 → d < sCh S k)) ∧ ∀ k1 k2, k1 < sN S → k2 < sN S → k1 ≠ k2 → sNm S k1 = sNm S k2 → sTi S k1 < sSi S k2 ∨ sTi S k2 < sSi S k1
/-- the six facts of item k -/
def sF (S : aSh) (k w : Nat) : Int32 := if w = 0 then nI (sNm S k) else if w = 1 then nI (sSo S k) else if w = 2 then nI (sCh S k) else if w = 3 then nI (sSi S k) else if w = 4 then nI (sTi S k) else pI (sPr S k)
/-- the class's Shape object i holds S (without its index) -/
def XItems (σ : tI) (i : Nat) (S : aSh) : Prop := ∀ k, k < sN S → σ 32 i k = nI (sNm S k) ∧ σ 33 i k = nI (sSo S k) ∧ σ 34 i k = nI (sCh S k) ∧ σ 35 i k = nI (sSi S k) ∧ σ 36 i k = nI (sTi S k) ∧ σ 37 i k = pI (sPr S k)
def XIndex (σ : tI) (i : Nat) (S : aSh) : Prop := ∀ v a, v < 10 → a < 16 → (∀ k, k < sN S → sNm S k = a → sSi S k ≤ v → v ≤ sTi S k → σ 38 i (16 * v + a) = nI k) ∧ ((∀ k, k < sN S → ¬ (sNm S k = a ∧ sSi S k ≤ v ∧ v ≤ sTi S k)) → σ 38 i (16 * v + a) = -9)
def MItems (σ : tI) (s : Nat) (S : aSh) : Prop := ∀ k w, k < sN S → w < 6 → σ 50 0 (72 * s + 6 * k + w) = sF S k w
def Rshape (σ : tI) (s : Nat) (S : aSh) : Prop := ShOK S ∧ σ 9 (1 + s) 0 = 1 ∧ σ 9 (1 + s) 1 = nI (sN S) ∧ σ 49 0 s = nI (sN S) ∧ XItems σ (1 + s) S ∧ XIndex σ (1 + s) S ∧ MItems σ s S
def Rshapes (σ : tI) : Prop := ∀ s, s < 4 → (σ 9 (1 + s) 0 = 0 ∧ σ 49 0 s = -9) ∨ ∃ S : aSh, Rshape σ s S
def Rread (σ : tI) : Prop := σ 4 0 2 = σ 55 0 0 ∧ σ 4 0 3 = σ 55 0 1 ∧ σ 4 0 4 = σ 55 0 2 ∧ ∃ n, n ≤ 60 ∧ σ 6 2 1 = nI n ∧ σ 12 0 24 = nI n ∧ ∀ j, j < n → σ 30 2 j = σ 56 0 j ∧ isB (σ 30 2 j)
def Rserv (σ : tI) : Prop := ∀ a, a < 6 → (∃ v w, v < 10 ∧ w < 10 ∧ σ 8 a 0 = nI v ∧ σ 57 0 a = nI v ∧ σ 8 a 1 = nI w ∧ σ 58 0 a = nI w) ∧ ∀ b, b < 6 → σ 31 a b = σ 59 0 (6 * a + b) ∧ (σ 31 a b = -9 ∨ ∃ s, s < 4 ∧ σ 31 a b = nI s ∧ σ 49 0 s ≠ -9 ∧ a ≠ b)
/-- (what FINDING was told may differ: promise 14 leaves it open of one R field) -/
def Rmisc (σ : tI) (τ : tL) : Prop := True ∧ True ∧ σ 11 0 11 = σ 12 0 2 ∧ τ 11 0 12 = τ 12 0 3 ∧ τ 11 0 13 = τ 12 0 4
/-- a call's facts, class against model -/
def Rcall (σ : tI) (c : Nat) : Prop := σ 0 c 0 = σ 65 0 c ∧ σ 0 c 1 = σ 66 0 c ∧ σ 0 c 2 = σ 67 0 c ∧ σ 0 c 3 = σ 68 0 c ∧ σ 0 c 4 = σ 70 0 c ∧ σ 0 c 5 = σ 74 0 c ∧ σ 0 c 6 = σ 69 0 c ∧ σ 0 c 7 = σ 71 0 c ∧ σ 0 c 8 = σ 75 0 c ∧ σ 0 c 9 = σ 72 0 c ∧ σ 0 c 10 = σ 76 0 c ∧ σ 0 c 12 = σ 77 0 c ∧ σ 0 c 14 = σ 73 0 c ∧ σ 0 c 15 = σ 79 0 c ∧ σ 0 c 16 = σ 81 0 c ∧ σ 0 c 17 = σ 82 0 c ∧ σ 0 c 18 = σ 83 0 c ∧ (σ 77 0 c = 2 → σ 0 c 13 = σ 78 0 c) ∧ ∀ j, j < 4 → σ 13 c j = σ 80 0 (4 * c + j)
/-- what a call's numbers may be -/
def Ocall (σ : tI) (c : Nat) : Prop := (∃ a b, a < 6 ∧ b < 6 ∧ a ≠ b ∧ σ 65 0 c = nI a ∧ σ 66 0 c = nI b) ∧ (∃ x, x < 3 ∧ σ 67 0 c = nI x) ∧ (∃ x, 1 ≤ x ∧ x ≤ 9 ∧ σ 68 0 c = nI x ∧ (σ 77 0 c = 2 → ∃ g, 1 ≤ g ∧ g ≤ 9 ∧ σ 78 0 c = nI g)) ∧ (∃ x y, x + y ≤ 5 ∧ σ 72 0 c = nI x ∧ σ 70 0 c = nI y) ∧ (σ 77 0 c = 0 ∨ σ 77 0 c = 1 ∨ σ 77 0 c = 2) ∧ (∃ h, h < 9 ∧ σ 71 0 c = nI h) ∧ ∃ x y, x ≤ y ∧ y ≤ 7000 ∧ σ 82 0 c = nI x ∧ σ 81 0 c = nI y
/-- a call that is not yet told -/
def Fcall (σ : tI) (c : Nat) : Prop := σ 0 c 7 = 0 ∧ σ 0 c 8 = -9 ∧ σ 0 c 9 = 0 ∧ σ 0 c 11 = 0 ∧ σ 0 c 12 = 0 ∧ σ 0 c 14 = 0 ∧ σ 0 c 15 = -9 ∧ σ 0 c 16 = 0 ∧ σ 0 c 17 = 0 ∧ σ 0 c 18 = 0 ∧ σ 72 0 c = 0 ∧ σ 73 0 c = 0 ∧ σ 77 0 c = 0 ∧ σ 81 0 c = 0 ∧ σ 82 0 c = 0 ∧ σ 83 0 c = 0 ∧ ∀ j, j < 4 → σ 13 c j = 0 ∧ σ 80 0 (4 * c + j) = 0
/-- a frame's facts, class against model -/
def Rframe (σ : tI) (f : Nat) : Prop := σ 14 0 f = σ 84 0 f ∧ σ 15 0 f = σ 85 0 f ∧ σ 16 0 f = σ 86 0 f ∧ σ 17 0 f = σ 87 0 f ∧ σ 18 0 f = σ 88 0 f ∧ σ 19 0 f = σ 89 0 f ∧ (σ 84 0 f ≠ 1 → σ 20 0 f = σ 90 0 f)
def Oframe (σ : tI) (n f : Nat) : Prop := (σ 84 0 f = 0 ∧ σ 89 0 f = -9) ∨ ∃ k c, 1 ≤ k ∧ k ≤ 6 ∧ c < n ∧ σ 84 0 f = nI k ∧ σ 89 0 f = nI c ∧ (k = 3 → ∃ d, 1 ≤ d ∧ d < 9 ∧ σ 90 0 f = nI d) ∧ (k = 5 → ∃ d, d ≤ 9 ∧ σ 90 0 f = nI d)
/-- frames f of lo .. m - 1 that ask for call c -/
def asksU (σ : tI) (lo m c : Nat) : Nat := cntN (fun f => decide (lo ≤ f ∧ σ 84 0 f = 1 ∧ σ 89 0 f = nI c)) m
def undU (σ : tI) (lo m c : Nat) : Nat := cntN (fun f => decide (lo ≤ f ∧ σ 89 0 f = nI c)) m
/-- T the tick, n calls, m frames, lo the first under way, k breaks -/
def Rnet (σ : tI) (T n m lo k : Nat) : Prop :=
  (σ 3 0 4 = nI T ∧ σ 12 0 5 = nI T ∧ T ≤ 9999) ∧ (σ 3 0 5 = nI n ∧ σ 12 0 34 = nI n ∧ n ≤ 30) ∧ (∀ c, c < n → Rcall σ c ∧ Ocall σ c ∧ σ 0 c 11 = nI (undU σ lo m c)) ∧ (∀ c, n ≤ c → c < 30 → Fcall σ c) ∧
  σ 3 0 6 = nI (cntN (fun c => decide (σ 71 0 c = 0)) n) ∧
  (∀ a, a < 6 → σ 8 a 2 = σ 62 0 a ∧ σ 8 a 3 = σ 63 0 a ∧ σ 8 a 4 = σ 64 0 a ∧ (∃ h, 1 ≤ h ∧ h ≤ 3 ∧ σ 62 0 a = nI h) ∧ (∃ h, h ≤ 9 ∧ σ 63 0 a = nI h) ∧ (∃ h, h ≤ 99 ∧ σ 64 0 a = nI h) ∧
    σ 8 a 5 = nI (cntN (fun c => decide (σ 66 0 c = nI a ∧ σ 77 0 c = 1)) n) ∧ σ 8 a 6 = nI (cntN (fun c => decide (σ 66 0 c = nI a ∧ σ 77 0 c = 2)) n)) ∧
  (σ 1 0 0 = nI m ∧ σ 12 0 54 = nI m) ∧ (∀ f, f < m → Rframe σ f ∧ Oframe σ n f) ∧ σ 1 0 1 = nI (cntN (fun f => decide (σ 88 0 f = 2)) m) ∧
  (σ 1 0 2 = nI lo ∧ lo ≤ m ∧ (∀ f, f < lo → σ 88 0 f = 1 ∨ σ 88 0 f = 2) ∧ ∀ f, lo ≤ f → f < m → σ 88 0 f = 0) ∧
  (∀ f c, lo ≤ f → f < m → σ 84 0 f = 1 → σ 89 0 f = nI c → c < n → σ 90 0 f = σ 72 0 c) ∧
  (σ 2 0 0 = nI k ∧ σ 12 0 64 = nI k ∧ k ≤ 20 ∧ ∀ i, i < k → σ 21 0 i = σ 91 0 i ∧ σ 22 0 i = σ 92 0 i ∧ σ 23 0 i = σ 93 0 i) ∧
  ∃ P S : Nat, ∃ Rp Kc : Nat → Nat, σ 3 0 7 = nI P ∧ σ 12 0 62 = nI P ∧ P ≤ 100 ∧ σ 3 0 8 = nI S ∧ σ 12 0 63 = nI S ∧ S ≤ 200 ∧ m = P + S + sumN (fun c => (σ 72 0 c).toNatClampNeg + 1 + Rp c + Kc c) n ∧
    ∀ c, c < n → Rp c + (if σ 77 0 c = 0 then 0 else 1) + asksU σ lo m c ≤ (σ 72 0 c).toNatClampNeg + 1 ∧ Kc c ≤ (if σ 71 0 c = 0 then 0 else 1) ∧ (σ 81 0 c).toNatClampNeg ≤ 9 * lo
/-- the relation -/
def Rall (σ : tI) (τ : tL) : Prop := Rrows σ ∧ Rtexts σ ∧ Rshapes σ ∧ Rread σ ∧ Rserv σ ∧ Rmisc σ τ ∧ ∃ T n m lo k, Rnet σ T n m lo k
/-- a case of the law: the class's method, then the model's, answer alike, and the relation holds again -/
def am_num (z : Nat) (v : Option am_V) : Bool := match v with
  | some (.inl _) => !(Nat.beq z 135 || Nat.beq z 136 || Nat.beq z 140)
  | some (.inr (.inl _)) => Nat.beq z 135 || Nat.beq z 136 || Nat.beq z 140
  | _ => false
noncomputable def LC (l : Launch) (zx zm : Nat) (as : List am_V) (σ : tI) (τ : tL) (t : Option (Nat × Nat)) : Prop :=
  am_T l zx (aR 11 0 :: as) σ τ t (fun v σ1 τ1 t1 => am_num zx v = true ∧ am_T l zm (aR 12 0 :: as) σ1 τ1 t1 (fun v2 σ2 τ2 _ => v2 = v ∧ Rall σ2 τ2))
def am_numM (z : Nat) (v : Option am_V) : Bool := match v with
  | some (.inl _) => !(Nat.beq z 248 || Nat.beq z 249 || Nat.beq z 258)
  | some (.inr (.inl _)) => Nat.beq z 248 || Nat.beq z 249 || Nat.beq z 258
  | _ => false
/-- a case of the law whose answers are not compared -/
noncomputable def LCn (l : Launch) (zx zm : Nat) (as : List am_V) (σ : tI) (τ : tL) (t : Option (Nat × Nat)) : Prop :=
  am_T l zx (aR 11 0 :: as) σ τ t (fun v σ1 τ1 t1 => am_num zx v = true ∧ am_T l zm (aR 12 0 :: as) σ1 τ1 t1 (fun v2 σ2 τ2 _ => am_numM zm v2 = true ∧ Rall σ2 τ2))
theorem LC.n {l : Launch} {zx zm : Nat} {as : List am_V} {σ : tI} {τ : tL} {t : Option (Nat × Nat)} (h : LC l zx zm as σ τ t) (hz : (Nat.beq zx 135 || Nat.beq zx 136 || Nat.beq zx 140) = (Nat.beq zm 248 || Nat.beq zm 249 || Nat.beq zm 258)) : LCn l zx zm as σ τ t := by
  refine am_T.mono h ?_
  rintro v σ1 τ1 t1 ⟨h1, h2⟩
  refine ⟨h1, am_T.mono h2 ?_⟩
  rintro v2 σ2 τ2 t2 ⟨rfl, h3⟩
  refine ⟨?_, h3⟩
  unfold am_num at h1
  unfold am_numM
  rw [← hz]
  exact h1
-- frames of the relation: what a part looks at
def kRows : Nat → Bool := fun k => Nat.beq k 44 || Nat.beq k 45
def kTexts : Nat → Bool := fun k => Nat.beq k 47 || Nat.beq k 48
def kShapes : Nat → Bool := fun k => Nat.beq k 9 || (Nat.ble 32 k && Nat.ble k 38) || Nat.beq k 49 || Nat.beq k 50
def kNet : Nat → Bool := fun k => Nat.ble k 3 || (Nat.ble 13 k && Nat.ble k 23) || (Nat.ble 62 k && Nat.ble k 93)
def jNet : Nat → Bool := fun j => Nat.beq j 5 || Nat.beq j 34 || Nat.beq j 54 || Nat.beq j 62 || Nat.beq j 63 || Nat.beq j 64
theorem Rrows.fr {σ σ2 : tI} (h : Rrows σ) (h6 : ∀ r, r < 6 → σ2 6 (4 + r) = σ 6 (4 + r)) (h30 : ∀ r, r < 6 → σ2 30 (4 + r) = σ 30 (4 + r)) (h44 : σ2 44 = σ 44) (h45 : σ2 45 = σ 45) : Rrows σ2 := by
  intro r hr
  rw [h6 r hr, h30 r hr, h44, h45]
  exact h r hr
theorem Rtexts.fr {σ σ2 : tI} (h : Rtexts σ) (h6 : ∀ r, r < 6 → σ2 6 (10 + r) = σ 6 (10 + r)) (h30 : ∀ r, r < 6 → σ2 30 (10 + r) = σ 30 (10 + r)) (h47 : σ2 47 = σ 47) (h48 : σ2 48 = σ 48) : Rtexts σ2 := by
  intro r hr
  rw [h6 r hr, h30 r hr, h47, h48]
  exact h r hr
theorem Rshapes.fr {σ σ2 : tI} (h : Rshapes σ) (hk : ∀ k, kShapes k = true → σ2 k = σ k) : Rshapes σ2 := by
  unfold Rshapes Rshape XItems XIndex MItems at h ⊢
  rw [hk 9 rfl, hk 32 rfl, hk 33 rfl, hk 34 rfl, hk 35 rfl, hk 36 rfl, hk 37 rfl, hk 38 rfl, hk 49 rfl, hk 50 rfl]
  exact h
theorem Rread.fr {σ σ2 : tI} (h : Rread σ) (h4 : σ2 4 = σ 4) (h55 : σ2 55 = σ 55) (h56 : σ2 56 = σ 56) (h6 : σ2 6 2 = σ 6 2) (h30 : σ2 30 2 = σ 30 2) (h12 : σ2 12 0 24 = σ 12 0 24) : Rread σ2 := by
  unfold Rread at h ⊢
  rw [h4, h55, h56, h6, h30, h12]
  exact h
theorem Rserv.fr {σ σ2 : tI} (h : Rserv σ) (h8 : ∀ a, a < 6 → σ2 8 a 0 = σ 8 a 0 ∧ σ2 8 a 1 = σ 8 a 1) (h57 : σ2 57 = σ 57) (h58 : σ2 58 = σ 58) (h31 : σ2 31 = σ 31) (h59 : σ2 59 = σ 59) (h49 : ∀ s, s < 4 → σ 49 0 s ≠ -9 → σ2 49 0 s ≠ -9) : Rserv σ2 := by
  intro a ha
  obtain ⟨h1, h2⟩ := h a ha
  rw [(h8 a ha).1, (h8 a ha).2, h57, h58, h31, h59]
  refine ⟨h1, fun b hb => ⟨(h2 b hb).1, ?_⟩⟩
  rcases (h2 b hb).2 with h3 | ⟨s, hs, h3, h4, h5⟩
  · exact Or.inl h3
  · exact Or.inr ⟨s, hs, h3, h49 s hs h4, h5⟩
theorem Rmisc.fr {σ σ2 : tI} {τ : tL} (h : Rmisc σ τ) (h11 : σ2 11 = σ 11) (h42 : σ2 42 = σ 42) (h43 : σ2 43 = σ 43) (h0 : σ2 12 0 0 = σ 12 0 0) (h2 : σ2 12 0 2 = σ 12 0 2) : Rmisc σ2 τ := by
  unfold Rmisc at h ⊢
  rw [h11, h2]
  exact h
theorem Rnet.fr {σ σ2 : tI} {T n m lo k : Nat} (h : Rnet σ T n m lo k) (hk : ∀ k, kNet k = true → σ2 k = σ k) (hj : ∀ j, jNet j = true → σ2 12 0 j = σ 12 0 j) (h8 : ∀ a j, a < 6 → 2 ≤ j → σ2 8 a j = σ 8 a j) : Rnet σ2 T n m lo k := by
  have e8 : ∀ a, a < 6 → σ2 8 a 2 = σ 8 a 2 ∧ σ2 8 a 3 = σ 8 a 3 ∧ σ2 8 a 4 = σ 8 a 4 ∧ σ2 8 a 5 = σ 8 a 5 ∧ σ2 8 a 6 = σ 8 a 6 := fun a ha => ⟨h8 a 2 ha (by decide), h8 a 3 ha (by decide), h8 a 4 ha (by decide), h8 a 5 ha (by decide), h8 a 6 ha (by decide)⟩
  unfold Rnet Rcall Ocall Fcall Rframe Oframe asksU undU at h ⊢
  rw [hk 0 rfl, hk 1 rfl, hk 2 rfl, hk 3 rfl, hk 13 rfl, hk 14 rfl, hk 15 rfl, hk 16 rfl, hk 17 rfl, hk 18 rfl, hk 19 rfl, hk 20 rfl, hk 21 rfl, hk 22 rfl, hk 23 rfl, hk 62 rfl, hk 63 rfl, hk 64 rfl, hk 65 rfl, hk 66 rfl, hk 67 rfl, hk 68 rfl, hk 69 rfl, hk 70 rfl, hk 71 rfl, hk 72 rfl, hk 73 rfl, hk 74 rfl, hk 75 rfl, hk 76 rfl, hk 77 rfl, hk 78 rfl, hk 79 rfl, hk 80 rfl, hk 81 rfl, hk 82 rfl, hk 83 rfl, hk 84 rfl, hk 85 rfl, hk 86 rfl, hk 87 rfl, hk 88 rfl, hk 89 rfl, hk 90 rfl, hk 91 rfl, hk 92 rfl, hk 93 rfl, hj 5 rfl, hj 34 rfl, hj 54 rfl, hj 62 rfl, hj 63 rfl, hj 64 rfl]
  obtain ⟨h1, h2, h3, h4, h5, h6, h7⟩ := h
  refine ⟨h1, h2, h3, h4, h5, fun a ha => ?_, h7⟩
  obtain ⟨g1, g2, g3, g4, g5⟩ := e8 a ha
  rw [g1, g2, g3, g4, g5]
  exact h6 a ha
theorem u3_kk {α : Type} (f : Nat → Nat → Nat → α) {k i j a : Nat} (v : α) (h : a ≠ k) : u3 f k i j v a = f a := by
  funext b c
  simp [u3, h]
theorem u3_ii {α : Type} (f : Nat → Nat → Nat → α) {k i j b : Nat} (v : α) (h : b ≠ i) : u3 f k i j v k b = f k b := by
  funext c
  simp [u3, h]
