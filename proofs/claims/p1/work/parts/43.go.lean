/-! THE SMALL MACHINE RUN on closed worlds (printed by wip/tools/gen43.py) -/
abbrev am_re : Type := Option am_V × tI × tL × tR
def am_rc (r : Nat) : Option FieldType := bif Nat.beq r 1 then some .int else bif Nat.beq r 2 then some .boolean else bif Nat.beq r 3 then some .long else none
noncomputable def am_Fd (y : Nat) : Option ((Nat → Option am_en) × Nat × Nat) :=
  bif Nat.beq y 19 then some (am_f19, 3, 1) else bif Nat.beq y 20 then some (am_f20, 2, 0) else bif Nat.beq y 21 then some (am_f21, 5, 1) else bif Nat.beq y 25 then some (am_f25, 4, 0) else bif Nat.beq y 27 then some (am_f27, 4, 0) else bif Nat.beq y 29 then some (am_f29, 2, 0) else bif Nat.beq y 32 then some (am_f32, 4, 1) else bif Nat.beq y 33 then some (am_f33, 3, 1) else bif Nat.beq y 46 then some (am_f46, 6, 0) else bif Nat.beq y 49 then some (am_f49, 1, 2) else bif Nat.beq y 50 then some (am_f50, 2, 2) else bif Nat.beq y 51 then some (am_f51, 1, 0) else bif Nat.beq y 52 then some (am_f52, 4, 0) else bif Nat.beq y 53 then some (am_f53, 3, 1) else bif Nat.beq y 54 then some (am_f54, 4, 0) else bif Nat.beq y 55 then some (am_f55, 3, 1) else bif Nat.beq y 113 then some (am_f113, 6, 1) else bif Nat.beq y 114 then some (am_f114, 1, 1) else bif Nat.beq y 116 then some (am_f116, 2, 1) else bif Nat.beq y 121 then some (am_f121, 1, 1) else bif Nat.beq y 133 then some (am_f133, 6, 1) else bif Nat.beq y 140 then some (am_f140, 5, 3) else bif Nat.beq y 141 then some (am_f141, 2, 2) else bif Nat.beq y 143 then some (am_f143, 2, 1) else bif Nat.beq y 147 then some (am_f147, 2, 1) else bif Nat.beq y 148 then some (am_f148, 3, 1) else bif Nat.beq y 149 then some (am_f149, 3, 1) else bif Nat.beq y 150 then some (am_f150, 7, 3) else bif Nat.beq y 151 then some (am_f151, 8, 3) else bif Nat.beq y 153 then some (am_f153, 6, 3) else bif Nat.beq y 155 then some (am_f155, 3, 2) else bif Nat.beq y 156 then some (am_f156, 2, 1) else bif Nat.beq y 157 then some (am_f157, 3, 1) else bif Nat.beq y 158 then some (am_f158, 2, 2) else bif Nat.beq y 159 then some (am_f159, 3, 1) else bif Nat.beq y 160 then some (am_f160, 1, 2) else bif Nat.beq y 199 then some (am_f199, 3, 1) else bif Nat.beq y 200 then some (am_f200, 6, 2) else bif Nat.beq y 201 then some (am_f201, 4, 2) else bif Nat.beq y 202 then some (am_f202, 4, 1) else bif Nat.beq y 203 then some (am_f203, 3, 1) else bif Nat.beq y 204 then some (am_f204, 4, 0) else bif Nat.beq y 205 then some (am_f205, 3, 1) else bif Nat.beq y 207 then some (am_f207, 2, 1) else bif Nat.beq y 218 then some (am_f218, 5, 1) else bif Nat.beq y 221 then some (am_f221, 2, 2) else bif Nat.beq y 224 then some (am_f224, 3, 0) else bif Nat.beq y 225 then some (am_f225, 3, 0) else bif Nat.beq y 227 then some (am_f227, 4, 0) else bif Nat.beq y 228 then some (am_f228, 5, 1) else bif Nat.beq y 229 then some (am_f229, 1, 1) else bif Nat.beq y 237 then some (am_f237, 4, 1) else bif Nat.beq y 246 then some (am_f246, 10, 1) else bif Nat.beq y 250 then some (am_f250, 4, 1) else bif Nat.beq y 254 then some (am_f254, 2, 0) else bif Nat.beq y 255 then some (am_f255, 4, 0) else bif Nat.beq y 256 then some (am_f256, 3, 0) else bif Nat.beq y 257 then some (am_f257, 3, 0) else bif Nat.beq y 258 then some (am_f258, 3, 3) else none
def am_Fok (y : Nat) (f : Nat → Option am_en) (m r : Nat) : Prop := (∀ {pc : Nat} {e : am_en}, f pc = some e → am_ck y pc e = true) ∧ (∀ {pc : Nat} {e : am_en}, f pc = some e → am_ckc y e = true) ∧ am_okm y = true ∧ am_ml y = m ∧ am_rt y = am_rc r
theorem am_Fd_ok {y : Nat} {f : Nat → Option am_en} {m r : Nat} (h : am_Fd y = some (f, m, r)) : am_Fok y f m r := by
  unfold am_Fd at h
  cases h19 : Nat.beq y 19 with
  | true => rw [h19] at h; obtain rfl := am_beq h19; cases h; exact ⟨am_k19, am_h19, am_o19, am_l19, am_r19⟩
  | false =>
  rw [h19] at h
  cases h20 : Nat.beq y 20 with
  | true => rw [h20] at h; obtain rfl := am_beq h20; cases h; exact ⟨am_k20, am_h20, am_o20, am_l20, am_r20⟩
  | false =>
  rw [h20] at h
  cases h21 : Nat.beq y 21 with
  | true => rw [h21] at h; obtain rfl := am_beq h21; cases h; exact ⟨am_k21, am_h21, am_o21, am_l21, am_r21⟩
  | false =>
  rw [h21] at h
  cases h25 : Nat.beq y 25 with
  | true => rw [h25] at h; obtain rfl := am_beq h25; cases h; exact ⟨am_k25, am_h25, am_o25, am_l25, am_r25⟩
  | false =>
  rw [h25] at h
  cases h27 : Nat.beq y 27 with
  | true => rw [h27] at h; obtain rfl := am_beq h27; cases h; exact ⟨am_k27, am_h27, am_o27, am_l27, am_r27⟩
  | false =>
  rw [h27] at h
  cases h29 : Nat.beq y 29 with
  | true => rw [h29] at h; obtain rfl := am_beq h29; cases h; exact ⟨am_k29, am_h29, am_o29, am_l29, am_r29⟩
  | false =>
  rw [h29] at h
  cases h32 : Nat.beq y 32 with
  | true => rw [h32] at h; obtain rfl := am_beq h32; cases h; exact ⟨am_k32, am_h32, am_o32, am_l32, am_r32⟩
  | false =>
  rw [h32] at h
  cases h33 : Nat.beq y 33 with
  | true => rw [h33] at h; obtain rfl := am_beq h33; cases h; exact ⟨am_k33, am_h33, am_o33, am_l33, am_r33⟩
  | false =>
  rw [h33] at h
  cases h46 : Nat.beq y 46 with
  | true => rw [h46] at h; obtain rfl := am_beq h46; cases h; exact ⟨am_k46, am_h46, am_o46, am_l46, am_r46⟩
  | false =>
  rw [h46] at h
  cases h49 : Nat.beq y 49 with
  | true => rw [h49] at h; obtain rfl := am_beq h49; cases h; exact ⟨am_k49, am_h49, am_o49, am_l49, am_r49⟩
  | false =>
  rw [h49] at h
  cases h50 : Nat.beq y 50 with
  | true => rw [h50] at h; obtain rfl := am_beq h50; cases h; exact ⟨am_k50, am_h50, am_o50, am_l50, am_r50⟩
  | false =>
  rw [h50] at h
  cases h51 : Nat.beq y 51 with
  | true => rw [h51] at h; obtain rfl := am_beq h51; cases h; exact ⟨am_k51, am_h51, am_o51, am_l51, am_r51⟩
  | false =>
  rw [h51] at h
  cases h52 : Nat.beq y 52 with
  | true => rw [h52] at h; obtain rfl := am_beq h52; cases h; exact ⟨am_k52, am_h52, am_o52, am_l52, am_r52⟩
  | false =>
  rw [h52] at h
  cases h53 : Nat.beq y 53 with
  | true => rw [h53] at h; obtain rfl := am_beq h53; cases h; exact ⟨am_k53, am_h53, am_o53, am_l53, am_r53⟩
  | false =>
  rw [h53] at h
  cases h54 : Nat.beq y 54 with
  | true => rw [h54] at h; obtain rfl := am_beq h54; cases h; exact ⟨am_k54, am_h54, am_o54, am_l54, am_r54⟩
  | false =>
  rw [h54] at h
  cases h55 : Nat.beq y 55 with
  | true => rw [h55] at h; obtain rfl := am_beq h55; cases h; exact ⟨am_k55, am_h55, am_o55, am_l55, am_r55⟩
  | false =>
  rw [h55] at h
  cases h113 : Nat.beq y 113 with
  | true => rw [h113] at h; obtain rfl := am_beq h113; cases h; exact ⟨am_k113, am_h113, am_o113, am_l113, am_r113⟩
  | false =>
  rw [h113] at h
  cases h114 : Nat.beq y 114 with
  | true => rw [h114] at h; obtain rfl := am_beq h114; cases h; exact ⟨am_k114, am_h114, am_o114, am_l114, am_r114⟩
  | false =>
  rw [h114] at h
  cases h116 : Nat.beq y 116 with
  | true => rw [h116] at h; obtain rfl := am_beq h116; cases h; exact ⟨am_k116, am_h116, am_o116, am_l116, am_r116⟩
  | false =>
  rw [h116] at h
  cases h121 : Nat.beq y 121 with
  | true => rw [h121] at h; obtain rfl := am_beq h121; cases h; exact ⟨am_k121, am_h121, am_o121, am_l121, am_r121⟩
  | false =>
  rw [h121] at h
  cases h133 : Nat.beq y 133 with
  | true => rw [h133] at h; obtain rfl := am_beq h133; cases h; exact ⟨am_k133, am_h133, am_o133, am_l133, am_r133⟩
  | false =>
  rw [h133] at h
  cases h140 : Nat.beq y 140 with
  | true => rw [h140] at h; obtain rfl := am_beq h140; cases h; exact ⟨am_k140, am_h140, am_o140, am_l140, am_r140⟩
  | false =>
  rw [h140] at h
  cases h141 : Nat.beq y 141 with
  | true => rw [h141] at h; obtain rfl := am_beq h141; cases h; exact ⟨am_k141, am_h141, am_o141, am_l141, am_r141⟩
  | false =>
  rw [h141] at h
  cases h143 : Nat.beq y 143 with
  | true => rw [h143] at h; obtain rfl := am_beq h143; cases h; exact ⟨am_k143, am_h143, am_o143, am_l143, am_r143⟩
  | false =>
  rw [h143] at h
  cases h147 : Nat.beq y 147 with
  | true => rw [h147] at h; obtain rfl := am_beq h147; cases h; exact ⟨am_k147, am_h147, am_o147, am_l147, am_r147⟩
  | false =>
  rw [h147] at h
  cases h148 : Nat.beq y 148 with
  | true => rw [h148] at h; obtain rfl := am_beq h148; cases h; exact ⟨am_k148, am_h148, am_o148, am_l148, am_r148⟩
  | false =>
  rw [h148] at h
  cases h149 : Nat.beq y 149 with
  | true => rw [h149] at h; obtain rfl := am_beq h149; cases h; exact ⟨am_k149, am_h149, am_o149, am_l149, am_r149⟩
  | false =>
  rw [h149] at h
  cases h150 : Nat.beq y 150 with
  | true => rw [h150] at h; obtain rfl := am_beq h150; cases h; exact ⟨am_k150, am_h150, am_o150, am_l150, am_r150⟩
  | false =>
  rw [h150] at h
  cases h151 : Nat.beq y 151 with
  | true => rw [h151] at h; obtain rfl := am_beq h151; cases h; exact ⟨am_k151, am_h151, am_o151, am_l151, am_r151⟩
  | false =>
  rw [h151] at h
  cases h153 : Nat.beq y 153 with
  | true => rw [h153] at h; obtain rfl := am_beq h153; cases h; exact ⟨am_k153, am_h153, am_o153, am_l153, am_r153⟩
  | false =>
  rw [h153] at h
  cases h155 : Nat.beq y 155 with
  | true => rw [h155] at h; obtain rfl := am_beq h155; cases h; exact ⟨am_k155, am_h155, am_o155, am_l155, am_r155⟩
  | false =>
  rw [h155] at h
  cases h156 : Nat.beq y 156 with
  | true => rw [h156] at h; obtain rfl := am_beq h156; cases h; exact ⟨am_k156, am_h156, am_o156, am_l156, am_r156⟩
  | false =>
  rw [h156] at h
  cases h157 : Nat.beq y 157 with
  | true => rw [h157] at h; obtain rfl := am_beq h157; cases h; exact ⟨am_k157, am_h157, am_o157, am_l157, am_r157⟩
  | false =>
  rw [h157] at h
  cases h158 : Nat.beq y 158 with
  | true => rw [h158] at h; obtain rfl := am_beq h158; cases h; exact ⟨am_k158, am_h158, am_o158, am_l158, am_r158⟩
  | false =>
  rw [h158] at h
  cases h159 : Nat.beq y 159 with
  | true => rw [h159] at h; obtain rfl := am_beq h159; cases h; exact ⟨am_k159, am_h159, am_o159, am_l159, am_r159⟩
  | false =>
  rw [h159] at h
  cases h160 : Nat.beq y 160 with
  | true => rw [h160] at h; obtain rfl := am_beq h160; cases h; exact ⟨am_k160, am_h160, am_o160, am_l160, am_r160⟩
  | false =>
  rw [h160] at h
  cases h199 : Nat.beq y 199 with
  | true => rw [h199] at h; obtain rfl := am_beq h199; cases h; exact ⟨am_k199, am_h199, am_o199, am_l199, am_r199⟩
  | false =>
  rw [h199] at h
  cases h200 : Nat.beq y 200 with
  | true => rw [h200] at h; obtain rfl := am_beq h200; cases h; exact ⟨am_k200, am_h200, am_o200, am_l200, am_r200⟩
  | false =>
  rw [h200] at h
  cases h201 : Nat.beq y 201 with
  | true => rw [h201] at h; obtain rfl := am_beq h201; cases h; exact ⟨am_k201, am_h201, am_o201, am_l201, am_r201⟩
  | false =>
  rw [h201] at h
  cases h202 : Nat.beq y 202 with
  | true => rw [h202] at h; obtain rfl := am_beq h202; cases h; exact ⟨am_k202, am_h202, am_o202, am_l202, am_r202⟩
  | false =>
  rw [h202] at h
  cases h203 : Nat.beq y 203 with
  | true => rw [h203] at h; obtain rfl := am_beq h203; cases h; exact ⟨am_k203, am_h203, am_o203, am_l203, am_r203⟩
  | false =>
  rw [h203] at h
  cases h204 : Nat.beq y 204 with
  | true => rw [h204] at h; obtain rfl := am_beq h204; cases h; exact ⟨am_k204, am_h204, am_o204, am_l204, am_r204⟩
  | false =>
  rw [h204] at h
  cases h205 : Nat.beq y 205 with
  | true => rw [h205] at h; obtain rfl := am_beq h205; cases h; exact ⟨am_k205, am_h205, am_o205, am_l205, am_r205⟩
  | false =>
  rw [h205] at h
  cases h207 : Nat.beq y 207 with
  | true => rw [h207] at h; obtain rfl := am_beq h207; cases h; exact ⟨am_k207, am_h207, am_o207, am_l207, am_r207⟩
  | false =>
  rw [h207] at h
  cases h218 : Nat.beq y 218 with
  | true => rw [h218] at h; obtain rfl := am_beq h218; cases h; exact ⟨am_k218, am_h218, am_o218, am_l218, am_r218⟩
  | false =>
  rw [h218] at h
  cases h221 : Nat.beq y 221 with
  | true => rw [h221] at h; obtain rfl := am_beq h221; cases h; exact ⟨am_k221, am_h221, am_o221, am_l221, am_r221⟩
  | false =>
  rw [h221] at h
  cases h224 : Nat.beq y 224 with
  | true => rw [h224] at h; obtain rfl := am_beq h224; cases h; exact ⟨am_k224, am_h224, am_o224, am_l224, am_r224⟩
  | false =>
  rw [h224] at h
  cases h225 : Nat.beq y 225 with
  | true => rw [h225] at h; obtain rfl := am_beq h225; cases h; exact ⟨am_k225, am_h225, am_o225, am_l225, am_r225⟩
  | false =>
  rw [h225] at h
  cases h227 : Nat.beq y 227 with
  | true => rw [h227] at h; obtain rfl := am_beq h227; cases h; exact ⟨am_k227, am_h227, am_o227, am_l227, am_r227⟩
  | false =>
  rw [h227] at h
  cases h228 : Nat.beq y 228 with
  | true => rw [h228] at h; obtain rfl := am_beq h228; cases h; exact ⟨am_k228, am_h228, am_o228, am_l228, am_r228⟩
  | false =>
  rw [h228] at h
  cases h229 : Nat.beq y 229 with
  | true => rw [h229] at h; obtain rfl := am_beq h229; cases h; exact ⟨am_k229, am_h229, am_o229, am_l229, am_r229⟩
  | false =>
  rw [h229] at h
  cases h237 : Nat.beq y 237 with
  | true => rw [h237] at h; obtain rfl := am_beq h237; cases h; exact ⟨am_k237, am_h237, am_o237, am_l237, am_r237⟩
  | false =>
  rw [h237] at h
  cases h246 : Nat.beq y 246 with
  | true => rw [h246] at h; obtain rfl := am_beq h246; cases h; exact ⟨am_k246, am_h246, am_o246, am_l246, am_r246⟩
  | false =>
  rw [h246] at h
  cases h250 : Nat.beq y 250 with
  | true => rw [h250] at h; obtain rfl := am_beq h250; cases h; exact ⟨am_k250, am_h250, am_o250, am_l250, am_r250⟩
  | false =>
  rw [h250] at h
  cases h254 : Nat.beq y 254 with
  | true => rw [h254] at h; obtain rfl := am_beq h254; cases h; exact ⟨am_k254, am_h254, am_o254, am_l254, am_r254⟩
  | false =>
  rw [h254] at h
  cases h255 : Nat.beq y 255 with
  | true => rw [h255] at h; obtain rfl := am_beq h255; cases h; exact ⟨am_k255, am_h255, am_o255, am_l255, am_r255⟩
  | false =>
  rw [h255] at h
  cases h256 : Nat.beq y 256 with
  | true => rw [h256] at h; obtain rfl := am_beq h256; cases h; exact ⟨am_k256, am_h256, am_o256, am_l256, am_r256⟩
  | false =>
  rw [h256] at h
  cases h257 : Nat.beq y 257 with
  | true => rw [h257] at h; obtain rfl := am_beq h257; cases h; exact ⟨am_k257, am_h257, am_o257, am_l257, am_r257⟩
  | false =>
  rw [h257] at h
  cases h258 : Nat.beq y 258 with
  | true => rw [h258] at h; obtain rfl := am_beq h258; cases h; exact ⟨am_k258, am_h258, am_o258, am_l258, am_r258⟩
  | false =>
  rw [h258] at h
  cases h
/-- a switch's place, if it is one -/
def am_swno (x : Int32) : List (Int32 × Nat) → Bool
  | [] => true
  | (c, _) :: r => bif decide (x = c) then false else am_swno x r
def am_swgo {R : Type} (z : R) (K : Nat → R) (x : Int32) (d : Nat) : List (Int32 × Nat) → R
  | [] => K d
  | (c, t) :: r => bif decide (x = c) then (bif am_swno x r then K t else z) else am_swgo z K x d r
theorem am_swno_ok {x : Int32} : ∀ {sl : List (Int32 × Nat)}, am_swno x sl = true → ∀ q ∈ sl, x ≠ q.1
  | [], _, _, hq => absurd hq List.not_mem_nil
  | (c, t) :: r, h, q, hq => by
    unfold am_swno at h
    cases hc : decide (x = c) with
    | true => rw [hc] at h; cases h
    | false =>
      rw [hc] at h
      rcases List.mem_cons.mp hq with rfl | hq
      · exact of_decide_eq_false hc
      · exact am_swno_ok h q hq
theorem am_swgo_ok {α : Type} {K : Nat → Option α} {x : Int32} {d : Nat} {r : α} : ∀ {sl : List (Int32 × Nat)}, am_swgo none K x d sl = some r → (∀ q ∈ sl, x = q.1 → K q.2 = some r) ∧ ((∀ q ∈ sl, x ≠ q.1) → K d = some r)
  | [], h => ⟨fun q hq => absurd hq List.not_mem_nil, fun _ => h⟩
  | (c, t) :: sl, h => by
    unfold am_swgo at h
    cases hc : decide (x = c) with
    | true =>
      rw [hc] at h
      cases hn : am_swno x sl with
      | false => rw [hn] at h; cases h
      | true =>
        rw [hn] at h
        refine ⟨fun q hq e => ?_, fun hh => absurd (of_decide_eq_true hc) (hh (c, t) List.mem_cons_self)⟩
        rcases List.mem_cons.mp hq with rfl | hq
        · exact h
        · exact absurd e (am_swno_ok hn q hq)
    | false =>
      rw [hc] at h
      obtain ⟨h1, h2⟩ := am_swgo_ok h
      refine ⟨fun q hq e => ?_, fun hh => h2 (fun q hq => hh q (List.mem_cons_of_mem _ hq))⟩
      rcases List.mem_cons.mp hq with rfl | hq
      · exact absurd e (of_decide_eq_false hc)
      · exact h1 q hq e
noncomputable def am_ru : Nat → Nat → (Nat → Option am_en) → Nat → Nat → am_ls → List am_V → tI → tL → tR → tN → tM → Option am_re
  | 0, _, _, _, _, _, _, _, _, _, _, _ => none
  | N + 1, y, f, r, pc, ls, st, σ, τ, ρ, cn, ln => match f pc with
    | none => none
    | some (i, _, n, a, b, _, d, v, sl) => match i with
      | .return_ => match st with
        | [] => bif Nat.beq r 0 then some (none, σ, τ, ρ) else none
        | _ => none
      | .ireturn => match st with
        | [.inl x] => bif Nat.beq r 1 || (Nat.beq r 2 && decide (x = 0 ∨ x = 1)) then some (some (.inl x), σ, τ, ρ) else none
        | _ => none
      | .lreturn => match st with
        | [.inr (.inl x)] => bif Nat.beq r 3 then some (some (.inr (.inl x)), σ, τ, ρ) else none
        | _ => none
      | .invokevirtual _ => match am_spl (b + 1) st [] with
        | some (.inr (.inr (some q)) :: vs, rest) => match am_Fd a with
          | some (g, m, s) => bif Nat.beq q.1 (am_cx a) && (Nat.ble (am_cats rest) 8 && Nat.ble (am_cats (.inr (.inr (some q)) :: vs)) m) then (match am_ru N a g s 0 (am_args 0 (.inr (.inr (some q)) :: vs)) [] σ τ ρ cn ln with
            | some (w, σ2, τ2, ρ2) => am_ru N y f r n ls (am_push w rest) σ2 τ2 ρ2 cn ln
            | none => none) else none
          | none => none
        | _ => none
      | .invokestatic _ => bif Nat.beq a 1001 then none else (match am_spl b st [] with
        | some (vs, rest) => match am_Fd a with
          | some (g, m, s) => bif Nat.ble (am_cats rest) 8 && Nat.ble (am_cats vs) m then (match am_ru N a g s 0 (am_args 0 vs) [] σ τ ρ cn ln with
            | some (w, σ2, τ2, ρ2) => am_ru N y f r n ls (am_push w rest) σ2 τ2 ρ2 cn ln
            | none => none) else none
          | none => none
        | none => none)
      | _ => am_step none
          (fun pc2 ls2 st2 => am_ru N y f r pc2 ls2 st2 σ τ ρ cn ln)
          (fun c pc2 st2 => match c with
            | ⟨c, h⟩ => bif @decide c h then am_ru N y f r pc2 ls st2 σ τ ρ cn ln else none)
          (fun pc2 st2 σ2 τ2 ρ2 => am_ru N y f r pc2 ls st2 σ2 τ2 ρ2 cn ln)
          (fun c pc2 st2 σ2 τ2 ρ2 => match c with
            | ⟨c, h⟩ => bif @decide c h then am_ru N y f r pc2 ls st2 σ2 τ2 ρ2 cn ln else none)
          (fun _ _ _ _ _ _ _ _ _ => none)
          (fun c p1 p2 st2 => match c with
            | ⟨c, h⟩ => bif @decide c h then am_ru N y f r p1 ls st2 σ τ ρ cn ln else am_ru N y f r p2 ls st2 σ τ ρ cn ln)
          (fun x sl d st2 => am_swgo none (fun pc2 => am_ru N y f r pc2 ls st2 σ τ ρ cn ln) x d sl) none i n a b d v sl ls st σ τ ρ cn ln
set_option maxHeartbeats 4000000 in
/-- a closed run is a walk of the machine -/
theorem am_ru_ok {l : Launch} : ∀ (N : Nat) {Q : tQ} {y : Nat} {f : Nat → Option am_en} {m r pc : Nat} {ls : am_ls} {st : List am_V} {σ : tI} {τ : tL} {ρ : tR} {cn : tN} {ln : tM} {x : Option am_V} {σ2 : tI} {τ2 : tL} {ρ2 : tR}, am_Fok y f m r → am_ru N y f r pc ls st σ τ ρ cn ln = some (x, σ2, τ2, ρ2) → Q x σ2 τ2 ρ2 cn ln → am_G l y Q 0 0 pc ls st σ τ ρ cn ln
  | 0, _, _, _, _, _, _, _, _, _, _, _, _, _, _, _, _, _, _, h, _ => by cases h
  | N + 1, Q, y, f, m, r, pc, ls, st, σ, τ, ρ, cn, ln, x, σ2, τ2, ρ2, hF, h, hQ => by
    unfold am_ru at h
    obtain ⟨hf, hh, ho, hm, hr⟩ := id hF
    cases he : f pc with
    | none => rw [he] at h; cases h
    | some en =>
      obtain ⟨i, len, n, a, b, c, d, v, sl⟩ := en
      rw [he] at h
      have hck := hf he
      have hcc := hh he
      have dflt : ∀ (hh : am_step none
          (fun pc2 ls2 st2 => am_ru N y f r pc2 ls2 st2 σ τ ρ cn ln)
          (fun c pc2 st2 => match c with
            | ⟨c, h⟩ => bif @decide c h then am_ru N y f r pc2 ls st2 σ τ ρ cn ln else none)
          (fun pc2 st2 σ2 τ2 ρ2 => am_ru N y f r pc2 ls st2 σ2 τ2 ρ2 cn ln)
          (fun c pc2 st2 σ2 τ2 ρ2 => match c with
            | ⟨c, h⟩ => bif @decide c h then am_ru N y f r pc2 ls st2 σ2 τ2 ρ2 cn ln else none)
          (fun _ _ _ _ _ _ _ _ _ => none)
          (fun c p1 p2 st2 => match c with
            | ⟨c, h⟩ => bif @decide c h then am_ru N y f r p1 ls st2 σ τ ρ cn ln else am_ru N y f r p2 ls st2 σ τ ρ cn ln)
          (fun x sl d st2 => am_swgo none (fun pc2 => am_ru N y f r pc2 ls st2 σ τ ρ cn ln) x d sl) none i n a b d v sl ls st σ τ ρ cn ln = some (x, σ2, τ2, ρ2)), am_G l y Q 0 0 pc ls st σ τ ρ cn ln := by
        intro hh
        have h2 := (am_nat (fun o : Option am_re => o = some (x, σ2, τ2, ρ2)) i n a b d v sl ls st σ τ ρ cn ln).mp hh
        have hz : ((none : Option am_re) = some (x, σ2, τ2, ρ2)) = False := eq_false (fun e => by cases e)
        simp only [hz] at h2
        refine am_step_ok h2 hck (fun pc2 ls2 st2 e => am_ru_ok N hF e hQ) ?_ (fun pc2 st2 s2 t2 p2 e => am_ru_ok N hF e hQ) ?_ (fun _ _ _ _ _ _ _ _ _ e => e.elim) ?_ ?_ (fun e => e.elim)
        · rintro ⟨c, hc⟩ pc2 st2 e
          obtain ⟨e1, e2⟩ := am_bifs e
          exact ⟨am_dec e1, am_ru_ok N hF e2 hQ⟩
        · rintro ⟨c, hc⟩ pc2 st2 s2 t2 p2 e
          obtain ⟨e1, e2⟩ := am_bifs e
          exact ⟨am_dec e1, am_ru_ok N hF e2 hQ⟩
        · rintro ⟨c, hc⟩ p1 p2 st2 e
          refine ⟨fun hcc => ?_, fun hcc => ?_⟩
          · have e3 : @decide c hc = true := decide_eq_true hcc
            simp only [e3, cond_true] at e
            exact am_ru_ok N hF e hQ
          · have e3 : @decide c hc = false := decide_eq_false hcc
            simp only [e3, cond_false] at e
            exact am_ru_ok N hF e hQ
        · intro z sl2 d2 st2 e
          obtain ⟨e1, e2⟩ := am_swgo_ok e
          exact ⟨fun q hq g => am_ru_ok N hF (e1 q hq g) hQ, fun g => am_ru_ok N hF (e2 g) hQ⟩
      obtain ⟨hd, hn, hk⟩ := am_ck_inv hck
      cases i
      case return_ =>
        cases st with
        | cons _ _ => cases h
        | nil =>
          obtain ⟨e1, e2⟩ := am_bifs h
          obtain rfl := am_beq e1
          cases e2
          obtain rfl := am_beq hk
          exact am_vret hd hr (Nat.zero_le _) (Nat.zero_le _) hQ
      case ireturn =>
        dsimp only at h
        split at h
        · rename_i z
          obtain ⟨e1, e2⟩ := am_bifs h
          cases e2
          obtain rfl := am_beq hk
          rw [Bool.or_eq_true, Bool.and_eq_true] at e1
          rcases e1 with e1 | ⟨e1, e3⟩
          · obtain rfl := am_beq e1
            exact am_zret hd hr rfl (Nat.zero_le _) (Nat.zero_le _) hQ
          · obtain rfl := am_beq e1
            exact am_zret hd hr (by rcases of_decide_eq_true e3 with rfl | rfl <;> decide +kernel) (Nat.zero_le _) (Nat.zero_le _) hQ
        · cases h
      case lreturn =>
        dsimp only at h
        split at h
        · rename_i z
          obtain ⟨e1, e2⟩ := am_bifs h
          cases e2
          obtain rfl := am_beq hk
          obtain rfl := am_beq e1
          exact am_lret hd hr (Nat.zero_le _) (Nat.zero_le _) hQ
        · cases h
      case invokevirtual z =>
        obtain rfl := am_beq hk
        dsimp only at h
        split at h
        · rename_i q vs rest hs
          split at h
          · rename_i g m2 s2 hg
            obtain ⟨e1, e2⟩ := am_bifs h
            simp only [Bool.and_eq_true] at e1
            obtain ⟨o1, o2, o3⟩ := e1
            have hG := am_Fd_ok hg
            split at e2
            · rename_i w3 s3 t3 p3 hrun
              exact am_vO hf hh he hs o1 o2 (am_D_of hG.2.2.1 hG.2.2.2.1 o3 (am_ru_ok N hG hrun ⟨rfl, rfl, rfl, rfl, rfl, rfl⟩)) (am_ru_ok N hF e2 hQ)
            · cases e2
          · cases h
        · cases h
      case invokestatic z =>
        obtain rfl := am_beq hk
        cases hz : Nat.beq a 1001 with
        | true => simp only [hz, cond_true] at h; cases h
        | false =>
          simp only [hz, cond_false] at h
          split at h
          · rename_i vs rest hs
            split at h
            · rename_i g m2 s2 hg
              obtain ⟨e1, e2⟩ := am_bifs h
              simp only [Bool.and_eq_true] at e1
              obtain ⟨o2, o3⟩ := e1
              have hG := am_Fd_ok hg
              split at e2
              · rename_i w3 s3 t3 p3 hrun
                exact am_vS hf hh he hz hs o2 (am_D_of hG.2.2.1 hG.2.2.2.1 o3 (am_ru_ok N hG hrun ⟨rfl, rfl, rfl, rfl, rfl, rfl⟩)) (am_ru_ok N hF e2 hQ)
              · cases e2
            · cases h
          · cases h
      all_goals exact dflt h
/-- a method's run from its start -/
noncomputable def am_ruD (N z : Nat) (vs : List am_V) (σ : tI) (τ : tL) (ρ : tR) (cn : tN) (ln : tM) : Option am_re := match am_Fd z with
  | some (f, m, r) => bif Nat.ble (am_cats vs) m then am_ru N z f r 0 (am_args 0 vs) [] σ τ ρ cn ln else none
  | none => none
theorem am_ruD_ok {l : Launch} {N z : Nat} {vs : List am_V} {σ : tI} {τ : tL} {ρ : tR} {cn : tN} {ln : tM} {x : Option am_V} {σ2 : tI} {τ2 : tL} {ρ2 : tR} (h : am_ruD N z vs σ τ ρ cn ln = some (x, σ2, τ2, ρ2)) : am_D l z vs σ τ ρ cn ln x σ2 τ2 ρ2 := by
  unfold am_ruD at h
  split at h
  · rename_i f m r hg
    obtain ⟨e1, e2⟩ := am_bifs h
    have hG := am_Fd_ok hg
    exact am_D_of hG.2.2.1 hG.2.2.2.1 e1 (am_ru_ok N hG e2 ⟨rfl, rfl, rfl, rfl, rfl, rfl⟩)
  · cases h
/-- a closed case of the law -/
noncomputable def am_gg (N zx zm : Nat) (as : List am_V) (σ : tI) (τ : tL) (ρ : tR) (cn : tN) (ln : tM) : Bool := match am_ruD N zx (aR 11 0 :: as) σ τ ρ cn ln with
  | some (some v, σ1, τ1, ρ1) => am_num zx (some v) && (match am_ruD N zm (aR 12 0 :: as) σ1 τ1 ρ1 cn ln with
    | some (some v2, _) => decide (v2 = v)
    | _ => false)
  | _ => false
theorem am_gg_ok {l : Launch} {N zx zm : Nat} {as : List am_V} {σ : tI} {τ : tL} {ρ : tR} {cn : tN} {ln : tM} (h : am_gg N zx zm as σ τ ρ cn ln = true) : LG l zx zm as σ τ ρ cn ln lgT := by
  unfold am_gg at h
  split at h
  · rename_i v σ1 τ1 ρ1 h1
    rw [Bool.and_eq_true] at h
    obtain ⟨hn, h2⟩ := h
    split at h2
    · rename_i v2 q h3
      obtain ⟨σ2, τ2, ρ2⟩ := q
      obtain rfl := of_decide_eq_true h2
      exact LG.of (am_ruD_ok h1) (am_ruD_ok h3) trivial hn
    · cases h2
  · cases h
