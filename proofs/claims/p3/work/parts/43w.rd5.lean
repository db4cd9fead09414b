/-! the class's decode, keep, read -/
section L68
variable {l : Launch} {σ σ2 : tI} {τ τ2 : tL} {t : Option (Nat × Nat)} {r N p : Nat} {G : Nat → Int32}
def dxF (σ s : tI) : Prop := (∀ q, q ≠ 4 → q ≠ 6 → q ≠ 30 → s q = σ q) ∧ (∀ q i, (q = 6 ∨ q = 30) → i ≠ 1 → s q i = σ q i) ∧ ∀ j, j ≠ 9 → s 4 0 j = σ 4 0 j
theorem dxF.refl : dxF σ σ := ⟨fun _ _ _ _ => rfl, fun _ _ _ _ => rfl, fun _ _ => rfl⟩
theorem dxF.tr {s s2 : tI} (h : dxF σ s) (h2 : dxF s s2) : dxF σ s2 := ⟨fun q a b c => (h2.1 q a b c).trans (h.1 q a b c), fun q i a b => (h2.2.1 q i a b).trans (h.2.1 q i a b), fun j a => (h2.2.2 j a).trans (h.2.2 j a)⟩
theorem dxF.u9 {s : tI} {v : Int32} (h : dxF σ s) : dxF σ (u3 s 4 0 9 v) := ⟨fun q a b c => by rw [u3_kk _ _ a]; exact h.1 q a b c, fun q i a b => by rw [u3_kk _ _ (by omega)]; exact h.2.1 q i a b, fun k hk => by rw [u3_j _ _ hk]; exact h.2.2 k hk⟩
theorem dxF.u6 {s : tI} {q j : Nat} {v : Int32} (h : dxF σ s) (hq : q = 6 ∨ q = 30) : dxF σ (u3 s q 1 j v) := by
  refine ⟨fun k a b c => by rw [u3_kk _ _ (by omega)]; exact h.1 k a b c, fun k m a b => ?_, fun k hk => by rw [u3_k _ _ (by omega)]; exact h.2.2 k hk⟩
  rw [← h.2.1 k m a b]
  funext x
  rw [u3_i _ _ b]
theorem dxF.rx {s : tI} (h : dxF σ s) : rxF σ s := ⟨fun q a b c d => h.1 q a b d, fun q i a b c => h.2.1 q i a b, fun j hj => h.2.2 j (by omega)⟩
theorem rC.dx {s : tI} {st : rS} (h : rC σ st) (hs : dxF σ s) : rC s st := by
  obtain ⟨h1, h2, h3, h4, h5⟩ := h
  refine ⟨by rw [hs.2.2 7 (by decide)]; exact h1, by rw [hs.2.2 8 (by decide)]; exact h2, fun a ha hb => by rw [hs.1 26 (by decide) (by decide) (by decide)]; exact h3 a ha hb, by rw [hs.2.1 6 3 (Or.inl rfl) (by decide)]; exact h4, fun j hj => by rw [hs.2.1 30 3 (Or.inr rfl) (by decide)]; exact h5 j hj⟩
def nC (s : tI) (o : wO) : Prop := s 6 1 1 = nI o.1 ∧ ∀ j, j < o.1 → s 30 1 j = o.2 j
abbrev nAd (s : tI) (o : wO) (v : Int32) : tI := u3 (u3 s 30 1 o.1 v) 6 1 1 (nI (o.1 + 1))
theorem nC.ps {s : tI} {o : wO} {v : Int32} (h : nC s o) : nC (nAd s o v) (wps o v) := by
  refine ⟨u3_eq _ _ _ _ _, fun j hj => ?_⟩
  have hj : j < o.1 + 1 := hj
  show u3 (u3 s 30 1 o.1 v) 6 1 1 (nI (o.1 + 1)) 30 1 j = pshF o.2 o.1 v j
  rw [u3_k _ _ (by decide)]
  unfold pshF
  by_cases e : j = o.1
  · rw [if_pos e, e, u3_eq]
  · rw [if_neg e, u3_j _ _ e]
    exact h.2 j (by omega)
theorem dxF.ad {s : tI} {o : wO} {v : Int32} (h : dxF σ s) : dxF σ (nAd s o v) := (h.u6 (Or.inr rfl)).u6 (Or.inl rfl)
theorem x_nadd {s : tI} {o : wO} {v : Int32} (h : nC s o) (ho : o.1 < 120) : am_D l 59 [aR 6 1, aI v] s τ (rX t) cX lX none (nAd s o v) τ (rX t) := x_add (r := 1) h.1 (show o.1 < 120 from ho) (by decide)
theorem K0.dx {s : tI} (h : K0 σ r N G) (hr : 4 ≤ r) (hs : dxF σ s) : K0 s r N G := h.rx hr hs.rx
theorem x_df_lp {Q : tQ} {m so : Nat} {w : Int32} (hm : m ≤ 9) (hp : p < 900) (hr : 4 ≤ r) (h : K0 σ r N G) (hB : ∀ j, j < N → isB (G j)) {O : wO} (hQ : ∀ s, dxF σ s → s 4 0 9 = σ 4 0 9 → nC s O → Q none s τ (rX t) cX lX) : ∀ (d k : Nat) (o : wO) (s : tI), k + d = m + 1 → o.1 + d ≤ 120 → vlM G N p d k o = O → dxF σ s → s 4 0 9 = σ 4 0 9 → nC s o → am_G l 43 Q 0 0 54 [(6, aI (nI k)), (5, aI (nI m)), (4, aI w), (0, aR 4 0), (1, aI (nI so)), (2, aI (nI p)), (3, aR 6 r)] [] s τ (rX t) cX lX
  | 0, k, o, s, hk, ho, hO, hf, h9, hC => by
    obtain rfl : k = m + 1 := by omega
    subst hO
    refine am_vc_ok am_k43 [54] 100 ?_
    refine And.intro (fun _ => ?_) (fun z => absurd (nI_lt (by omega) (by omega)) z)
    exact am_vV am_k43 am_r43 rfl (hQ s hf h9 hC)
  | d + 1, k, o, s, hk, ho, hO, hf, h9, hC => by
    have K2 := x_df_lp (so := so) (w := w) hm hp hr h hB hQ d (k + 1) (wps o (nI (ut G N (p + k)))) (nAd s o (nI (ut G N (p + k)))) (by omega) (by show o.1 + 1 + d ≤ 120; omega) hO hf.ad (by rw [nAd, u3_k _ _ (by decide), u3_k _ _ (by decide)]; exact h9) hC.ps
    have hu := x_un (l := l) (τ := τ) (t := t) (q := p + k) (h.dx hr hf) hB (by omega)
    rw [← nI_add] at hu
    refine am_vc_ok am_k43 [54] 100 ?_
    refine And.intro (fun z => absurd z (Int32.not_lt.mpr (nI_le (by omega) (by omega)))) (fun _ => ?_)
    refine am_vO am_k43 am_h43 rfl rfl rfl rfl (hu) ?_
    refine am_vc_ok am_k43 [54] 100 ?_
    refine am_vO am_k43 am_h43 rfl rfl rfl rfl (x_nadd hC (by omega)) ?_
    refine am_vc_ok am_k43 [54] 100 ?_
    rw [← nI_1 k] at K2
    exact K2
theorem x_dField {so : Nat} {o : wO} (hso : so < 4) (hp : p < 900) (hr : 4 ≤ r) (h : K0 σ r N G) (hB : ∀ j, j < N → isB (G j)) (h2 : so = 2 → ut G N p ≤ 9) (ho : o.1 + 10 ≤ 120) (hC : nC σ o) : am_T l 43 [aR 4 0, aI (nI so), aI (nI p), aR 6 r] σ τ t (fun v s τ2 t2 => v = none ∧ τ2 = τ ∧ t2 = t ∧ dxF σ s ∧ s 4 0 9 = σ 4 0 9 ∧ nC s (vlF G N so p o)) := by
  have hu0 := x_un (l := l) (τ := τ) (t := t) (q := p) h hB (by omega)
  have hu1 := x_un (l := l) (τ := τ) (t := t) (q := p + 1) h hB (by omega)
  rw [← nI_1 p] at hu1
  have go : ∀ val : Int32, val = nI (if so = 1 then 256 * ut G N p + ut G N (p + 1) else ut G N p) → am_G l 43 (xQ (fun v s τ2 t2 => v = none ∧ τ2 = τ ∧ t2 = t ∧ dxF σ s ∧ s 4 0 9 = σ 4 0 9 ∧ nC s (vlF G N so p o))) 0 0 35 [(4, aI (nI (ut G N p))), (0, aR 4 0), (1, aI (nI so)), (2, aI (nI p)), (3, aR 6 r)] [aI val, aR 6 1] σ τ (rX t) cX lX := by
    rintro _ rfl
    generalize hval : nI (if so = 1 then 256 * ut G N p + ut G N (p + 1) else ut G N p) = val
    have hQ : ∀ s, dxF σ s → s 4 0 9 = σ 4 0 9 → nC s (vlF G N so p o) → xQ (fun v s τ2 t2 => v = none ∧ τ2 = τ ∧ t2 = t ∧ dxF σ s ∧ s 4 0 9 = σ 4 0 9 ∧ nC s (vlF G N so p o)) none s τ (rX t) cX lX := fun s a b c => ⟨_, rfl, rfl, rfl, rfl, rfl, rfl, a, b, c⟩
    have c9 : nAd σ o val 4 0 9 = σ 4 0 9 := by rw [nAd, u3_k _ _ (by decide), u3_k _ _ (by decide)]
    refine am_vc_ok am_k43 [54] 100 ?_
    refine am_vO am_k43 am_h43 rfl rfl rfl rfl (x_nadd hC (by omega)) ?_
    refine am_vc_ok am_k43 [54] 100 ?_
    refine And.intro (fun z => ?_) (fun z => ?_)
    · have z : so = 2 := nI_inj' (by omega) (by decide) (show nI so = nI 2 from z)
      have h9 := h2 z
      refine am_Gp (ls2 := [(6, aI (nI 1)), (5, aI (nI (ut G N p))), (4, aI (nI (ut G N p))), (0, aR 4 0), (1, aI (nI so)), (2, aI (nI p)), (3, aR 6 r)]) [0, 1, 2, 3, 4, 5, 6] rfl ?_
      refine x_df_lp (σ := σ) h9 hp hr h hB hQ (ut G N p) 1 (wps o val) (nAd σ o val) (by omega) (by show o.1 + 1 + ut G N p ≤ 120; omega) ?_ dxF.refl.ad c9 hC.ps
      unfold vlF
      rw [if_pos z, hval]
    · have z : ¬ so = 2 := fun y => z (by rw [y]; rfl)
      refine am_Gp (ls2 := [(6, aI (nI 1)), (5, aI (nI 0)), (4, aI (nI (ut G N p))), (0, aR 4 0), (1, aI (nI so)), (2, aI (nI p)), (3, aR 6 r)]) [0, 1, 2, 3, 4, 5, 6] rfl ?_
      refine x_df_lp (σ := σ) (by decide) hp hr h hB hQ 0 1 (wps o val) (nAd σ o val) (by omega) (by show o.1 + 1 + 0 ≤ 120; omega) ?_ dxF.refl.ad c9 hC.ps
      unfold vlF
      rw [if_neg z, hval]
  refine am_T_of am_o43 am_l43 rfl ?_
  refine am_vc_ok am_k43 [35] 100 ?_
  refine am_vO am_k43 am_h43 rfl rfl rfl rfl (hu0) ?_
  refine am_vc_ok am_k43 [35] 100 ?_
  refine And.intro (fun z => ?_) (fun z => ?_)
  · have z : so = 1 := nI_inj' (by omega) (by decide) (show nI so = nI 1 from z)
    refine am_vO am_k43 am_h43 rfl rfl rfl rfl (hu1) ?_
    refine am_vc_ok am_k43 [35] 100 ?_
    refine go _ ?_
    rw [if_pos z, show (256 : Int32) = nI 256 from rfl, pk_mul, nI_add, Nat.mul_comm]
  · have z : ¬ so = 1 := fun y => z (by rw [y]; rfl)
    exact go _ (by rw [if_neg z])
theorem vlF_len {so : Nat} {o : wO} (h2 : so = 2 → ut G N p ≤ 9) : (vlF G N so p o).1 ≤ o.1 + 10 := by
  unfold vlF
  rw [vlM_len]
  show o.1 + 1 + _ ≤ _
  split
  · have := h2 (by assumption)
    omega
  · omega
/-- what an item that was read has in the text -/
theorem rIn.it {S : aSh} {v k : Nat} {st : rS} (hS : ShOK S) (h : rIn S v G N st N) (hk : k < sN S) (hc : sSi S k ≤ v ∧ v ≤ sTi S k) (hb : bb (rRd st) (sNm S k) = true) : rVp st (sNm S k) < N ∧ (sSo S k = 1 → rVp st (sNm S k) + 1 < N) ∧ (sSo S k = 2 → ut G N (rVp st (sNm S k)) ≤ 9 ∧ rVp st (sNm S k) + ut G N (rVp st (sNm S k)) < N) := by
  obtain ⟨q, h1, -, h3, h4, h5⟩ := h.1 (sNm S k) (hS.2.1 k hk).1 hb
  rw [itO_u hS hk hc.1 hc.2] at h1
  cases h1
  exact ⟨h3, h4, h5⟩
theorem x_dc_lp {Q : tQ} {ii v : Nat} {S : aSh} {st : rS} {R : Int32 × wO} (hv : v < 10) (hS : ShOK S) (h9 : σ 9 ii 1 = nI (sN S)) (hX : XItems σ ii S) (hr : 4 ≤ r) (h : K0 σ r N G) (hB : ∀ j, j < N → isB (G j)) (hin : rIn S v G N st N) (hrC : rC σ st) (hQ : ∀ s, dxF σ s → s 4 0 9 = R.1 → nC s R.2 → R.2.1 ≤ 120 → Q none s τ (rX t) cX lX) : ∀ (d i : Nat) (df : Int32) (o : wO) (s : tI), i + d = sN S → o.1 ≤ 10 * i → dcP S v G N st d i df o = R → dxF σ s → s 4 0 9 = df → nC s o → am_G l 42 Q 0 0 16 [(4, aI (nI i)), (0, aR 4 0), (1, aR 9 ii), (2, aI (nI v)), (3, aR 6 r)] [] s τ (rX t) cX lX
  | 0, i, df, o, s, hi, ho, hR, hf, hd, hC => by
    have s12 := hS.1
    have e9 : s 9 ii 1 = nI (sN S) := by rw [hf.1 9 (by decide) (by decide) (by decide)]; exact h9
    obtain rfl : i = sN S := by omega
    subst hR
    refine am_vc_ok am_k42 [16] 100 ?_
    refine And.intro (fun _ => ?_) (fun z => absurd (by rw [e9]; exact nI_le (Nat.le_refl _) (by omega)) z)
    exact am_vV am_k42 am_r42 rfl (hQ s hf hd hC (by show o.1 ≤ 120; omega))
  | d + 1, i, df, o, s, hi, ho, hR, hf, hd, hC => by
    have s12 := hS.1
    have hN := h.2.1
    have e9 : s 9 ii 1 = nI (sN S) := by rw [hf.1 9 (by decide) (by decide) (by decide)]; exact h9
    have hXs : XItems s ii S := hX.fr (Nat.le_refl _) (fun q k a b _ => by rw [hf.1 q (by omega) (by omega) (by omega)])
    have hi2 : i < sN S := by omega
    obtain ⟨x1, x2, x3, x4, x5, x6⟩ := hXs i hi2
    obtain ⟨b1, b2, b3, b4, b5, b6, b7⟩ := hS.2.1 i hi2
    have hCs := hrC.dx hf
    have hiff : (s 35 ii i ≤ nI v ∧ nI v ≤ s 36 ii i) ↔ (sSi S i ≤ v ∧ v ≤ sTi S i) := by
      rw [x4, x5, nI_leI (by omega) (by omega), nI_leI (by omega) (by omega)]
    have bi : vp_in (nI i) 12 := vp_in_nI (by omega) (by decide)
    have ei : (nI i).toNatClampNeg = i := nI_clamp (by omega)
    have fin := fun df o s => x_dc_lp hv hS h9 hX hr h hB hin hrC hQ d (i + 1) df o s (by omega)
    unfold dcP at hR
    refine am_vc_ok am_k42 [16] 100 ?_
    refine And.intro (fun z => absurd z (by rw [e9]; exact nI_ge hi2 (by omega))) (fun _ => ?_)
    refine am_vO am_k42 am_h42 rfl rfl rfl rfl (x_has (by omega)) ?_
    refine am_vc_ok am_k42 [16] 100 ?_
    refine And.intro (fun z => ?_) (fun z => ?_)
    · have z : ¬ (sSi S i ≤ v ∧ v ≤ sTi S i) := fun y => bI_0.mp z (hiff.mpr y)
      rw [if_neg z] at hR
      have K2 := fin df o s (by omega) hR hf hd hC
      rw [← nI_1 i] at K2
      exact K2
    have z := hiff.mp (bI_1.mp z)
    rw [if_pos z] at hR
    refine And.intro (bi) ?_
    rw [ei, x1, hCs.1]
    refine And.intro (fun y => ?_) (fun y => ?_)
    · have y := (bb_x b1).mp y
      rw [if_neg (by rw [y]; decide)] at hR
      refine And.intro (bi) ?_
      rw [ei, x1, hd]
      refine And.intro (bi) ?_
      rw [ei, u3_k (a := 37) _ _ (by decide), x6]
      have hC2 : nC (u3 s 4 0 9 (df ||| bt (sNm S i))) o := ⟨by rw [u3_k _ _ (by decide)]; exact hC.1, fun j hj => by rw [u3_k _ _ (by decide)]; exact hC.2 j hj⟩
      refine am_vO am_k42 am_h42 rfl rfl rfl rfl (x_nadd hC2 (by omega)) ?_
      refine am_vc_ok am_k42 [16] 100 ?_
      have K2 := fin (df ||| bt (sNm S i)) (wps o (pI (sPr S i))) (nAd (u3 s 4 0 9 (df ||| bt (sNm S i))) o (pI (sPr S i))) (by show o.1 + 1 ≤ _; omega) hR hf.u9.ad (by rw [nAd, u3_k _ _ (by decide), u3_k _ _ (by decide), u3_eq]) hC2.ps
      rw [← nI_1 i] at K2
      exact K2
    · have y : bb (rRd st) (sNm S i) = true := by
        cases hb : bb (rRd st) (sNm S i) with
        | true => rfl
        | false => exact absurd ((bb_x b1).mpr hb) y
      rw [if_pos y] at hR
      obtain ⟨g1, g2, g3⟩ := hin.it hS hi2 z y
      have e26 : s 26 0 (sNm S i) = nI (rVp st (sNm S i)) := hCs.2.2.1 (sNm S i) b1 y
      refine And.intro (bi) ?_
      rw [ei, x2]
      refine And.intro (bi) ?_
      rw [ei, x1]
      refine And.intro (vp_in_nI (N := 16) b1 (by decide)) ?_
      rw [nI_clamp (n := sNm S i) (by omega), e26]
      refine am_vOT am_k42 am_h42 rfl rfl rfl rfl (x_dField (o := o) b2 (by omega) hr (h.dx hr hf) hB (fun q => (g3 q).1) (by omega) hC) ?_
      rintro w s2 τ2 t2 ⟨rfl, rfl, rfl, hf2, hd2, hC2⟩
      have hl := vlF_len (o := o) (p := rVp st (sNm S i)) (G := G) (N := N) (so := sSo S i) (fun q => (g3 q).1)
      have K2 := fin df (vlF G N (sSo S i) (rVp st (sNm S i)) o) s2 (by omega) hR (hf.tr hf2) (by rw [hd2]; exact hd) hC2
      refine am_vc_ok am_k42 [16] 100 ?_
      rw [← nI_1 i] at K2
      exact K2
theorem x_decode {ii v : Nat} {S : aSh} {st : rS} (hv : v < 10) (hS : ShOK S) (h9 : σ 9 ii 1 = nI (sN S)) (hX : XItems σ ii S) (hr : 4 ≤ r) (h : K0 σ r N G) (hB : ∀ j, j < N → isB (G j)) (hin : rIn S v G N st N) (hrC : rC σ st) : am_T l 42 [aR 4 0, aR 9 ii, aI (nI v), aR 6 r] σ τ t (fun w s τ2 t2 => w = none ∧ τ2 = τ ∧ t2 = t ∧ dxF σ s ∧ s 4 0 9 = (dcP S v G N st (sN S) 0 0 o0).1 ∧ nC s (dcP S v G N st (sN S) 0 0 o0).2 ∧ (dcP S v G N st (sN S) 0 0 o0).2.1 ≤ 120) := by
  refine am_T_of am_o42 am_l42 rfl ?_
  refine am_vc_ok am_k42 [16] 100 ?_
  refine x_dc_lp (σ := σ) hv hS h9 hX hr h hB hin hrC ?_ (sN S) 0 0 o0 _ (by omega) (by decide) rfl (dxF.refl.u6 (Or.inl rfl)).u9 (u3_eq _ _ _ _ _) ⟨by rw [u3_k _ _ (by decide), u3_eq]; rfl, fun j hj => absurd hj (Nat.not_lt_zero j)⟩
  intro s a b c d
  exact ⟨_, rfl, rfl, rfl, rfl, rfl, rfl, a, b, c, d⟩
abbrev kpS (σ : tI) (n : Nat) : tI := xbec (u3 (u3 (u3 σ 4 0 2 (σ 4 0 7)) 4 0 3 (σ 4 0 8)) 4 0 4 (σ 4 0 9)) 2 3 n
theorem x_keep {n : Nat} (h3 : σ 6 3 1 = nI n) (hn : n ≤ 60) : am_D l 44 [aR 4 0] σ τ (rX t) cX lX none (kpS σ n) τ (rX t) := by
  refine am_D_of am_o44 am_l44 rfl ?_
  refine am_vc_ok am_k44 [] 100 ?_
  refine am_vO am_k44 am_h44 rfl rfl rfl rfl (x_rbecome (r := 2) (q := 3) (n := n) (by decide) (by rw [u3_k _ _ (by decide), u3_k _ _ (by decide), u3_k _ _ (by decide)]; exact h3) rfl (show n ≤ 60 from hn) hn) ?_
  refine am_vc_ok am_k44 [] 100 ?_
  exact am_vV am_k44 am_r44 rfl ⟨rfl, rfl, rfl, rfl, rfl, rfl⟩
/-- what read leaves in the class -/
def rrQ (σ : tI) (S : aSh) (v : Nat) (G : Nat → Int32) (N rr : Nat) (R : Nat ⊕ rS) (w : Option am_V) (s : tI) : Prop := match R with
  | .inl q => w = some (aI (nI q)) ∧ rxF σ s
  | .inr st => if (dcP S v G N st (sN S) 0 0 o0).2.1 ≤ 60 then w = some (aI (-9)) ∧ ∃ s1, rxF σ s1 ∧ rC s1 st ∧ s1 4 0 9 = (dcP S v G N st (sN S) 0 0 o0).1 ∧ nC s1 (dcP S v G N st (sN S) 0 0 o0).2 ∧ s = xbec (kpS s1 (rUn st).1) (4 + rr) 1 (dcP S v G N st (sN S) 0 0 o0).2.1 else w = some (aI (-3)) ∧ ∃ s1, rxF σ s1 ∧ s = xfind 2 s1
theorem x_readB {a b c d : Int32} (h : ¬ ((0 ≤ a ∧ a < 4) ∧ (0 ≤ b ∧ b < 10) ∧ (0 ≤ c ∧ c < 6) ∧ (0 ≤ d ∧ d < 6))) : am_D l 106 [aR 11 0, aI a, aI b, aI c, aI d] σ τ (rX t) cX lX (some (aI (-1))) σ τ (rX t) := by
  refine am_D_of am_o106 am_l106 rfl ?_
  refine am_vc_ok am_k106 [] 100 ?_
  refine am_vS am_k106 am_h106 rfl rfl rfl rfl (x_within) ?_
  refine am_vc_ok am_k106 [] 100 ?_
  refine And.intro (fun h1 => ?_) (fun h1 => ?_)
  · exact am_vI am_k106 am_r106 rfl ⟨rfl, rfl, rfl, rfl, rfl, rfl⟩
  refine am_vS am_k106 am_h106 rfl rfl rfl rfl (x_within) ?_
  refine am_vc_ok am_k106 [] 100 ?_
  refine And.intro (fun h2 => ?_) (fun h2 => ?_)
  · exact am_vI am_k106 am_r106 rfl ⟨rfl, rfl, rfl, rfl, rfl, rfl⟩
  refine am_vS am_k106 am_h106 rfl rfl rfl rfl (x_within) ?_
  refine am_vc_ok am_k106 [] 100 ?_
  refine And.intro (fun h3 => ?_) (fun h3 => ?_)
  · exact am_vI am_k106 am_r106 rfl ⟨rfl, rfl, rfl, rfl, rfl, rfl⟩
  refine am_vS am_k106 am_h106 rfl rfl rfl rfl (x_within) ?_
  refine am_vc_ok am_k106 [] 100 ?_
  refine And.intro (fun h4 => ?_) (fun h4 => ?_)
  · exact am_vI am_k106 am_r106 rfl ⟨rfl, rfl, rfl, rfl, rfl, rfl⟩
  · exact absurd ⟨bI_1.mp h1, bI_1.mp h2, bI_1.mp h3, bI_1.mp h4⟩ h
theorem x_read_no {s v x rr : Nat} (hs : s < 4) (hv : v < 10) (hx : x < 6) (hr : rr < 6) (h0 : σ 9 (1 + s) 0 = 0 ∨ σ 6 (10 + x) 0 = 0) : am_D l 106 [aR 11 0, aI (nI s), aI (nI v), aI (nI x), aI (nI rr)] σ τ (rX t) cX lX (some (aI (-3))) (xfind 1 σ) τ (rX t) := by
  refine am_D_of am_o106 am_l106 rfl ?_
  refine am_vc_ok am_k106 [] 100 ?_
  refine am_vS am_k106 am_h106 rfl rfl rfl rfl (x_within) ?_
  refine am_vc_ok am_k106 [] 100 ?_
  refine And.intro (fun g => absurd (in4 hs) (bI_0.mp g)) (fun _ => ?_)
  refine am_vS am_k106 am_h106 rfl rfl rfl rfl (x_within) ?_
  refine am_vc_ok am_k106 [] 100 ?_
  refine And.intro (fun g => absurd (in10 hv) (bI_0.mp g)) (fun _ => ?_)
  refine am_vS am_k106 am_h106 rfl rfl rfl rfl (x_within) ?_
  refine am_vc_ok am_k106 [] 100 ?_
  refine And.intro (fun g => absurd (in6 hx) (bI_0.mp g)) (fun _ => ?_)
  refine am_vS am_k106 am_h106 rfl rfl rfl rfl (x_within) ?_
  refine am_vc_ok am_k106 [] 100 ?_
  refine And.intro (fun g => absurd (in6 hr) (bI_0.mp g)) (fun _ => ?_)
  refine And.intro (vp_in_nI (N := 4) hs (by decide)) ?_
  rw [nI_clamp (n := s) (by omega)]
  refine And.intro (fun z => ?_) (fun z => ?_)
  · refine am_vO am_k106 am_h106 rfl rfl rfl rfl (x_find (w := 1) (by decide)) ?_
    refine am_vc_ok am_k106 [] 100 ?_
    exact am_vI am_k106 am_r106 rfl ⟨rfl, rfl, rfl, rfl, rfl, rfl⟩
  · refine And.intro (vp_in_nI (N := 6) hx (by decide)) ?_
    rw [nI_clamp (n := x) (by omega)]
    refine And.intro (fun y => ?_) (fun y => absurd (h0.resolve_left z) y)
    refine am_vO am_k106 am_h106 rfl rfl rfl rfl (x_find (w := 1) (by decide)) ?_
    refine am_vc_ok am_k106 [] 100 ?_
    exact am_vI am_k106 am_r106 rfl ⟨rfl, rfl, rfl, rfl, rfl, rfl⟩
theorem x_read {s v x rr : Nat} {S : aSh} (hs : s < 4) (hv : v < 10) (hx : x < 6) (hr : rr < 6) (h0 : ¬ σ 9 (1 + s) 0 = 0) (h01 : ¬ σ 6 (10 + x) 0 = 0) (hS : ShOK S) (h9 : σ 9 (1 + s) 1 = nI (sN S)) (hX : XItems σ (1 + s) S) (hI : XIndex σ (1 + s) S) (h : K0 σ (10 + x) N G) (hB : ∀ j, j < N → isB (G j)) : am_T l 106 [aR 11 0, aI (nI s), aI (nI v), aI (nI x), aI (nI rr)] σ τ t (fun w s2 τ2 t2 => τ2 = τ ∧ t2 = t ∧ rrQ σ S v G N rr (rdA S v G N st0 0) w s2) := by
  have hN := h.2.1
  refine am_T_of am_o106 am_l106 rfl ?_
  refine am_vc_ok am_k106 [] 100 ?_
  refine am_vS am_k106 am_h106 rfl rfl rfl rfl (x_within) ?_
  refine am_vc_ok am_k106 [] 100 ?_
  refine And.intro (fun g => absurd (in4 hs) (bI_0.mp g)) (fun _ => ?_)
  refine am_vS am_k106 am_h106 rfl rfl rfl rfl (x_within) ?_
  refine am_vc_ok am_k106 [] 100 ?_
  refine And.intro (fun g => absurd (in10 hv) (bI_0.mp g)) (fun _ => ?_)
  refine am_vS am_k106 am_h106 rfl rfl rfl rfl (x_within) ?_
  refine am_vc_ok am_k106 [] 100 ?_
  refine And.intro (fun g => absurd (in6 hx) (bI_0.mp g)) (fun _ => ?_)
  refine am_vS am_k106 am_h106 rfl rfl rfl rfl (x_within) ?_
  refine am_vc_ok am_k106 [] 100 ?_
  refine And.intro (fun g => absurd (in6 hr) (bI_0.mp g)) (fun _ => ?_)
  refine And.intro (vp_in_nI (N := 4) hs (by decide)) ?_
  rw [nI_clamp (n := s) (by omega)]
  refine And.intro (fun y => absurd y h0) (fun _ => ?_)
  refine And.intro (vp_in_nI (N := 6) hx (by decide)) ?_
  rw [nI_clamp (n := x) (by omega)]
  refine And.intro (fun y => absurd y h01) (fun _ => ?_)
  refine And.intro (vp_in_nI (N := 4) hs (by decide)) ?_
  rw [nI_clamp (n := s) (by omega)]
  refine And.intro (vp_in_nI (N := 6) hx (by decide)) ?_
  rw [nI_clamp (n := x) (by omega)]
  refine am_vOT am_k106 am_h106 rfl rfl rfl rfl (x_wrongPlace hv hS h9 hX hI (by omega) h hB) ?_
  rintro w s1 τ2 t2 ⟨rfl, rfl, hf, hQ⟩
  cases e : rdA S v G N st0 0 with
  | inl q =>
    rw [e] at hQ
    have hQ : w = some (aI (nI q)) := hQ
    subst hQ
    have hq : q ≤ N := rdP_f _ _ _ _ e
    refine am_vc_ok am_k106 [] 100 ?_
    refine And.intro (fun y => absurd y (n9_4 (by omega))) (fun _ => ?_)
    exact am_vI am_k106 am_r106 rfl ⟨_, rfl, rfl, rfl, rfl, rfl, rfl, hf⟩
  | inr st =>
    rw [e] at hQ
    obtain ⟨rfl, hC⟩ := hQ
    have hin : rIn S v G N st N := rdP_in hB (N + 1) 0 st0 st (by omega) (by omega) st0_in e
    refine am_vc_ok am_k106 [] 100 ?_
    refine And.intro (fun _ => ?_) (fun y => absurd rfl y)
    refine And.intro (vp_in_nI (N := 4) hs (by decide)) ?_
    rw [nI_clamp (n := s) (by omega)]
    refine And.intro (vp_in_nI (N := 6) hx (by decide)) ?_
    rw [nI_clamp (n := x) (by omega)]
    refine am_vOT am_k106 am_h106 rfl rfl rfl rfl (x_decode (ii := 1 + s) hv hS (by rw [hf.1 9 (by decide) (by decide) (by decide) (by decide)]; exact h9) (hX.fr (Nat.le_refl _) (fun q k a b _ => by rw [hf.1 q (by omega) (by omega) (by omega) (by omega)])) (by omega) (h.rx (by omega) hf) hB hin hC) ?_
    rintro w s2 τ2 t2 ⟨rfl, rfl, rfl, hf2, hd2, hC2, ho2⟩
    have hCs := hC.dx hf2
    refine am_vc_ok am_k106 [] 100 ?_
    refine And.intro (fun y => ?_) (fun y => ?_)
    · have y : s2 6 1 1 ≤ 60 := y
      rw [hC2.1, show (60 : Int32) = nI 60 from rfl, nI_leI (by omega) (by decide)] at y
      have hu : (rUn st).1 ≤ 60 := Nat.le_trans hin.2.1 hN
      refine am_vO am_k106 am_h106 rfl rfl rfl rfl (x_keep hCs.2.2.2.1 hu) ?_
      refine am_vc_ok am_k106 [] 100 ?_
      have e61 : kpS s2 (rUn st).1 6 1 1 = nI (dcP S v G N st (sN S) 0 0 o0).2.1 := by
        rw [kpS, xbec_i (by decide), u3_k _ _ (by decide), u3_k _ _ (by decide), u3_k _ _ (by decide)]
        exact hC2.1
      refine And.intro (vp_in_nI (N := 6) hr (by decide)) ?_
      rw [nI_clamp (n := rr) (by omega)]
      refine am_vO am_k106 am_h106 rfl rfl rfl rfl (x_rbecome (r := 4 + rr) (q := 1) (by omega) e61 (lX_row (by omega)) (show _ ≤ 120 from ho2) y) ?_
      refine am_vc_ok am_k106 [] 100 ?_
      refine am_vI am_k106 am_r106 rfl ⟨_, rfl, rfl, rfl, rfl, rfl, ?_⟩
      show (if (dcP S v G N st (sN S) 0 0 o0).2.1 ≤ 60 then _ else _)
      rw [if_pos y]
      exact ⟨rfl, s2, hf.tr hf2.rx, hCs, hd2, hC2, rfl⟩
    · have y : ¬ s2 6 1 1 ≤ 60 := y
      rw [hC2.1, show (60 : Int32) = nI 60 from rfl, nI_leI (by omega) (by decide)] at y
      refine am_vO am_k106 am_h106 rfl rfl rfl rfl (x_find (w := 2) (by decide)) ?_
      refine am_vc_ok am_k106 [] 100 ?_
      refine am_vI am_k106 am_r106 rfl ⟨_, rfl, rfl, rfl, rfl, rfl, ?_⟩
      show (if (dcP S v G N st (sN S) 0 0 o0).2.1 ≤ 60 then _ else _)
      rw [if_neg y]
      exact ⟨rfl, s2, hf.tr hf2.rx, rfl⟩
end L68
