/-! digest, exactly. -/
def dgL (F : Nat → Int64 → Int64) : Nat → Nat → Int64 → Int64
  | 0, _, x => x
  | d + 1, k, x => dgL F d (k + 1) (F k x)
def rdC (w : Nat → Int32) (oo og : Int32) (N : Nat) (side : Int32) (p : Nat) : Int32 := rdA (sStep w oo side N) p 12 0 (og ||| sPre w oo 0 side N)
def rdG (w : Nat → Int32) (oo og : Int32) (N : Nat) (side : Int32) (p : Nat) : Int32 := rdA (sStep w oo side N) p 12 0 ((og &&& sAgain w oo side og N) ||| sPre w oo 0 side N)
def dgT (N : Nat) (w : Nat → Int32) (oo og st gn : Int32) (k : Nat) (x : Int64) : Int64 := (x * 31) + (tdA N w oo og st gn (nI k)).toInt64
def dgO (N : Nat) (w rk : Nat → Int32) (oo og : Int32) (p : Nat) (k : Nat) (x : Int64) : Int64 := (x * 31) + (opA N w rk oo og p (nI k)).toInt64
def dgP (N : Nat) (w rk : Nat → Int32) (oo og : Int32) (p : Nat) (x : Int64) : Int64 := (((((((dgL (dgO N w rk oo og p) 4 0 x) * 31) + (rdC w oo og N 0 p).toInt64) * 31) + (rdC w oo og N 1 p).toInt64) * 31 + (rdG w oo og N 0 p).toInt64) * 31) + (rdG w oo og N 1 p).toInt64
def dgS (N : Nat) (w rk : Nat → Int32) (oo og : Int32) (k : Nat) (x : Int64) : Int64 := ((((((((((((x * 31) + (sLim w oo (nI k) N og).toInt64) * 31) + (sAll N &&& (sLim w oo (1 - nI k) N og ^^^ (-1 : Int32))).toInt64) * 31) + (sAgain w oo (nI k) og N).toInt64) * 31) + (mWon w oo og rk N 3 (nI k)).toInt64) * 31) + (nI (flA (sG w oo (nI k) og N) 12 0 (sAll N))).toInt64) * 31) + (chP oo (nI k) w N).toInt64)
def dgH (dn rf kn : Int32) (k : Nat) (x : Int64) : Int64 := (x * 31) + (hoA dn rf kn (nI k)).toInt64
def dgA (N : Nat) (w rk : Nat → Int32) (oo og st gn dn rf kn : Int32) : Int64 := (dgL (dgH dn rf kn) 3 0 (dgL (dgS N w rk oo og) 2 0 (dgL (dgP N w rk oo og) N 0 (dgL (dgT N w oo og st gn) 7 0 8031)))) * 31 + 1
/-! the class's -/
theorem fX1_toldE {N : Nat} {mf w : Nat → Int32} {ms mg xst xgo a1 : Int32} {post : Int32 → Prop} (hN : N < 13) (h1 : 0 ≤ a1) (h2 : a1 ≤ 6) (hw : sMW N w) (hf : ∀ p, p < N → mf p = w p) (h : post (tdA N w ms mg xst xgo a1)) : qX1_told mf (nI N) ms mg xst xgo a1 post := by
  refine uX1_told (ckB h1 h2 ?_)
  unfold tdA at h
  refine ⟨fun e0 => ?_, fun e0 => ⟨fun e1 => ?_, fun e1 => ⟨fun e2 => ?_, fun e2 => ⟨fun e3 => ?_, fun e3 => ⟨fun e4 => ?_, fun e4 => ⟨fun e5 => ?_, fun e5 => ?_⟩⟩⟩⟩⟩⟩
  · rw [if_pos e0] at h; exact h
  · rw [if_neg e0, if_pos e1] at h; exact fX0_countWaysE (post := fun r => post r) hN hw hf h
  · rw [if_neg e0, if_neg e1, if_pos e2] at h; exact h
  · rw [if_neg e0, if_neg e1, if_neg e2, if_pos e3] at h; exact ⟨fun e => absurd rfl e, fun _ => h⟩
  · rw [if_neg e0, if_neg e1, if_neg e2, if_neg e3, if_pos e4] at h; exact h
  · rw [if_neg e0, if_neg e1, if_neg e2, if_neg e3, if_neg e4, if_pos e5] at h; exact h
  · rw [if_neg e0, if_neg e1, if_neg e2, if_neg e3, if_neg e4, if_neg e5] at h; exact fX0_withoutE (post := fun r => post r) hN hf h
theorem fX1_ofPlaceE {N p : Nat} {mf w rk : Nat → Int32} {ms mg m0 m1 a2 : Int32} {post : Int32 → Prop} (hN : N < 13) (hp : p < N) (h1 : 0 ≤ a2) (h2 : a2 ≤ 4) (hf : ∀ p, p < N → mf p = w p) (hr : rkR N m0 m1 rk) (h : post (opA N w rk ms mg p a2)) : qX1_ofPlace mf (nI N) ms mg m0 m1 (nI p) a2 post := by
  refine uX1_ofPlace (ckP hN ⟨p, hp, rfl⟩ (ckB h1 h2 ?_))
  unfold opA at h
  refine ⟨fun e0 => ?_, fun e0 => ⟨fun e1 => ?_, fun e1 => ⟨fun e2 => ?_, fun e2 => ⟨fun e3 => ?_, fun e3 => ?_⟩⟩⟩⟩
  · rw [if_pos e0] at h; exact h
  · rw [if_neg e0, if_pos e1] at h; exact fX0_rankOfE (post := fun r => post r) hN hp hr h
  · rw [if_neg e0, if_neg e1, if_pos e2] at h
    exact fX1_has (by omega) (fun hb => ⟨fun _ => by rw [if_neg (by rw [hb]; decide)] at h; exact h, fun e => absurd rfl e⟩) (fun hb => ⟨fun e => absurd e (by decide), fun _ => by rw [if_pos hb] at h; exact h⟩)
  · rw [if_neg e0, if_neg e1, if_neg e2, if_pos e3] at h
    exact fX0_waysFrom (by omega) (by rw [hf p hp]; exact h)
  · rw [if_neg e0, if_neg e1, if_neg e2, if_neg e3] at h
    exact fX0_intoE (post := fun r => post r) hN (by omega) hf h
theorem fX1_roundsQ {N p : Nat} {mf w : Nat → Int32} {ms mg a1 : Int32} {post : Int32 → Prop} (hN : N < 13) (hp : p < N) (ha : a1 = 0 ∨ a1 = 1) (hf : ∀ p, p < N → mf p = w p) (h : post (rdC w ms mg N a1 p)) : qX1_rounds mf (nI N) ms mg a1 (nI p) post :=
  uX1_rounds (ckP hN ⟨p, hp, rfl⟩ (ckS ha (fX0_roundsE (post := fun r => post r) hN (by omega) hf h)))
theorem fX1_againQ {N p : Nat} {mf w rk : Nat → Int32} {ms mg m0 m1 a1 : Int32} {post : Int32 → Prop} (hN : N < 13) (hp : p < N) (ha : a1 = 0 ∨ a1 = 1) (hf : ∀ p, p < N → mf p = w p) (hr : rkR N m0 m1 rk) (hg : sSub mg (sAll N)) (h : post (rdG w ms mg N a1 p)) : qX1_againRounds mf (nI N) ms mg m0 m1 a1 (nI p) post := by
  refine uX1_againRounds (ckP hN ⟨p, hp, rfl⟩ (ckS ha (fX0_wonE (rk := rk) hN hf hr hg ?_)))
  rw [won_a]
  exact fX0_roundsE (post := fun r => post r) hN (by omega) hf h
theorem fX1_fallsR_17 {N : Nat} {mf w : Nat → Int32} {ms mg a1 : Int32} {K : Int32 → Int32 → Int32 → Prop} (hN : N < 13) (hf : ∀ p, p < N → mf p = w p) : ∀ (d k : Nat) (x : Int32) (v : Nat), k + d = 12 → (∀ a b, K a (nI (flA (sG w ms a1 mg N) d v x)) b) → qX1_falls_17 mf (nI N) ms mg a1 K (d + 1) x (nI v) (nI k)
  | 0, k, x, v, h, hK => by
    have : k = 12 := by omega
    subst this
    exact ⟨fun _ => hK _ _, fun hc => absurd (nI_le (Nat.le_refl 12) (by omega)) hc⟩
  | d + 1, k, x, v, h, hK => by
    rw [flA] at hK
    refine ⟨fun hc => absurd hc (nI_ge (b := 12) (by omega) (by omega)), fun _ => fX0_seenE hN hf (fX0_reachE hN hf (sSub_andr.trans (sPre_all w ms a1 x hN)) ⟨fun hx => ?_, fun hx => ?_⟩)⟩
    · have hx : ¬ sG w ms a1 mg N x = x := hx
      rw [if_neg hx] at hK
      rw [nI_1, nI_1]
      exact fX1_fallsR_17 hN hf d (k + 1) (sG w ms a1 mg N x) (v + 1) (by omega) hK
    · have hx : sG w ms a1 mg N x = x := hx
      rw [if_pos hx] at hK
      exact hK _ _
theorem fX1_fallsQ {N : Nat} {mf w : Nat → Int32} {ms mg a1 : Int32} {post : Int32 → Prop} (hN : N < 13) (ha : a1 = 0 ∨ a1 = 1) (hf : ∀ p, p < N → mf p = w p) (h : post (nI (flA (sG w ms a1 mg N) 12 0 (sAll N)))) : qX1_falls mf (nI N) ms mg a1 post := by
  refine uX1_falls (ckS ha (uX0_all ⟨13, ?_⟩))
  have := fX1_fallsR_17 (K := fun _ v _ => post v) hN hf 12 0 (sAll N) 0 rfl (fun _ _ => h)
  exact this
theorem fX1_digestE_6 {N : Nat} {mf w : Nat → Int32} {ms mg xst xgo : Int32} {K : Int64 → Int32 → Prop} (hN : N < 13) (hw : sMW N w) (hf : ∀ p, p < N → mf p = w p) : ∀ (d p : Nat) (x : Int64), p + d = 7 → (∀ b, K (dgL (dgT N w ms mg xst xgo) d p x) b) → qX1_digest_W6 mf (nI N) ms mg xst xgo K (d + 1) x (nI p)
  | 0, p, x, hp, hK => by
    have : p = 7 := by omega
    subst this
    exact ⟨fun _ => hK _, fun hc => absurd (nI_lt (a := 6) (b := 7) (by omega) (by omega)) hc⟩
  | d + 1, p, x, hp, hK => by
    refine ⟨fun hc => absurd hc (nI_nlt (a := 6) (by omega) (by omega)), fun _ => fX1_toldE hN (nI_pos' (by omega)) (nI_le (b := 6) (by omega) (by omega)) hw hf ?_⟩
    rw [nI_1]
    exact fX1_digestE_6 hN hw hf d (p + 1) _ (by omega) hK
theorem fX1_digestE_47 {N p : Nat} {mf w rk : Nat → Int32} {ms mg m0 m1 : Int32} {K : Int64 → Int32 → Prop} (hN : N < 13) (hp : p < N) (hf : ∀ p, p < N → mf p = w p) (hr : rkR N m0 m1 rk) : ∀ (d k : Nat) (x : Int64), k + d = 4 → (∀ b, K (dgL (dgO N w rk ms mg p) d k x) b) → qX1_digest_W47 mf (nI N) ms mg m0 m1 (nI p) K (d + 1) x (nI k)
  | 0, k, x, hk, hK => by
    have : k = 4 := by omega
    subst this
    exact ⟨fun _ => hK _, fun hc => absurd (nI_lt (a := 3) (b := 4) (by omega) (by omega)) hc⟩
  | d + 1, k, x, hk, hK => by
    refine ⟨fun hc => absurd hc (nI_nlt (a := 3) (by omega) (by omega)), fun _ => fX1_ofPlaceE hN hp (nI_pos' (by omega)) (nI_le (b := 4) (by omega) (by omega)) hf hr ?_⟩
    rw [nI_1]
    exact fX1_digestE_47 hN hp hf hr d (k + 1) _ (by omega) hK
theorem fX1_digestE_33 {N : Nat} {mf w rk : Nat → Int32} {ms mg m0 m1 : Int32} {K : Int64 → Int32 → Prop} (hN : N < 13) (hf : ∀ p, p < N → mf p = w p) (hr : rkR N m0 m1 rk) (hg : sSub mg (sAll N)) : ∀ (d p : Nat) (x : Int64), p + d = N → (∀ b, K (dgL (dgP N w rk ms mg) d p x) b) → qX1_digest_W33 mf (nI N) ms mg m0 m1 K (d + 1) x (nI p)
  | 0, p, x, hp, hK => by
    have : p = N := by omega
    subst this
    exact ⟨fun _ => hK _, fun hc => absurd (nI_le (Nat.le_refl _) (by omega)) hc⟩
  | d + 1, p, x, hp, hK => by
    refine ⟨fun hc => absurd hc (nI_ge (by omega) (by omega)), fun _ => ⟨5, fX1_digestE_47 (rk := rk) hN (by omega) hf hr 4 0 x rfl (fun _ => ?_)⟩⟩
    refine fX1_roundsQ hN (by omega) (Or.inl rfl) hf (fX1_roundsQ hN (by omega) (Or.inr rfl) hf (fX1_againQ (rk := rk) hN (by omega) (Or.inl rfl) hf hr hg (fX1_againQ (rk := rk) hN (by omega) (Or.inr rfl) hf hr hg ?_)))
    rw [nI_1]
    exact fX1_digestE_33 hN hf hr hg d (p + 1) _ (by omega) hK
theorem fX1_digestE_138 {N : Nat} {mf w rk : Nat → Int32} {ms mg m0 m1 : Int32} {K : Int64 → Int32 → Prop} (hN : N < 13) (hw : sMW N w) (hf : ∀ p, p < N → mf p = w p) (hr : rkR N m0 m1 rk) (hg : sSub mg (sAll N)) : ∀ (d p : Nat) (x : Int64), p + d = 2 → (∀ b, K (dgL (dgS N w rk ms mg) d p x) b) → qX1_digest_W138 mf (nI N) ms mg m0 m1 K (d + 1) x (nI p)
  | 0, p, x, hp, hK => by
    have : p = 2 := by omega
    subst this
    exact ⟨fun _ => hK _, fun hc => absurd (nI_lt (a := 1) (b := 2) (by omega) (by omega)) hc⟩
  | d + 1, p, x, hp, hK => by
    have ha := nI01 (p := p) (by omega)
    refine ⟨fun hc => absurd hc (nI_nlt (a := 1) (by omega) (by omega)), fun _ => uX1_coming (ckS ha (fX0_wonE (rk := rk) hN hf hr hg (uX1_keeping (ckS ha (fX0_wonE (rk := rk) hN hf hr hg (uX1_again (ckS ha (fX0_wonE (rk := rk) hN hf hr hg (uX1_ranked (ckS ha (fX0_wonE (rk := rk) hN hf hr hg (fX1_fallsQ hN ha hf (uX1_choices (ckS ha (fX0_choicesE hN hw hf ?_)))))))))))))))⟩
    rw [nI_1, won_c, won_a]
    exact fX1_digestE_138 hN hw hf hr hg d (p + 1) _ (by omega) hK
theorem fX1_digestE_229 {xdo xre xkn : Int32} {K : Int64 → Int32 → Prop} : ∀ (d p : Nat) (x : Int64), p + d = 3 → (∀ b, K (dgL (dgH xdo xre xkn) d p x) b) → qX1_digest_W229 xdo xre xkn K (d + 1) x (nI p)
  | 0, p, x, hp, hK => by
    have : p = 3 := by omega
    subst this
    exact ⟨fun _ => hK _, fun hc => absurd (nI_lt (a := 2) (b := 3) (by omega) (by omega)) hc⟩
  | d + 1, p, x, hp, hK => by
    refine ⟨fun hc => absurd hc (nI_nlt (a := 2) (by omega) (by omega)), fun _ => uX1_house (ckB (nI_pos' (by omega)) (nI_le (b := 2) (by omega) (by omega)) ?_)⟩
    rw [nI_1]
    have ih := fX1_digestE_229 (xdo := xdo) (xre := xre) (xkn := xkn) d (p + 1) _ (by omega) hK
    unfold dgH hoA at ih
    refine ⟨fun e0 => ?_, fun e0 => ⟨fun e1 => ?_, fun e1 => ?_⟩⟩
    · rw [if_pos e0] at ih; exact ih
    · rw [if_neg e0, if_pos e1] at ih; exact ih
    · rw [if_neg e0, if_neg e1] at ih; exact ih
theorem cE_digestW {N : Nat} {mf w rk tf : Nat → Int32} {ms mg m0 m1 tz ts tg t0 t1 xst xgo xdo xre xkn : Int32} {post : Int64 → Int32 → Int32 → Int32 → Int32 → Int32 → (Nat → Int32) → Prop} (hN : N < 13) (hw : sMW N w) (hf : ∀ p, p < N → mf p = w p) (hr : rkR N m0 m1 rk) (hg : sSub mg (sAll N)) (h : ∀ b c d e f g, post (dgA N w rk ms mg xst xgo xdo xre xkn) b c d e f g) : qX1_digestW mf (nI N) ms mg m0 m1 tf tz ts tg t0 t1 xst xgo xdo xre xkn post := by
  refine uX1_digestW ⟨8, fX1_digestE_6 hN hw hf 7 0 8031 rfl (fun _ => ⟨N + 1, fX1_digestE_33 (rk := rk) hN hf hr hg N 0 _ (by omega) (fun _ => ⟨3, fX1_digestE_138 (rk := rk) hN hw hf hr hg 2 0 _ rfl (fun _ => ⟨4, fX1_digestE_229 3 0 _ rfl (fun _ => fX1_soundE (rk := rk) hN hw hf hr hg (fun _ _ _ _ _ _ => ⟨fun e => absurd e (by decide), fun _ => ?_⟩))⟩)⟩)⟩)⟩
  have e1 : (1 : Int32).toInt64 = 1 := by decide
  rw [e1]
  exact h _ _ _ _ _ _
/-! the reference's -/
theorem fX3_digestE_11 {N : Nat} {w : Nat → Int32} {oo og ost ord : Int32} {K : Int64 → Int32 → Prop} (hN : N < 13) (hw : sMW N w) : ∀ (d p : Nat) (x : Int64), p + d = 7 → (∀ b, K (dgL (dgT N w oo og ost ord) d p x) b) → qX3_digest_W11 (nI N) oo og N w ost ord K (d + 1) x (nI p)
  | 0, p, x, hp, hK => by
    have : p = 7 := by omega
    subst this
    exact ⟨fun _ => hK _, fun hc => absurd (nI_lt (a := 6) (b := 7) (by omega) (by omega)) hc⟩
  | d + 1, p, x, hp, hK => by
    refine ⟨fun hc => absurd hc (nI_nlt (a := 6) (by omega) (by omega)), fun _ => fX3_toldNowE hN hw (uX3_add ?_)⟩
    rw [nI_1]
    exact fX3_digestE_11 hN hw d (p + 1) _ (by omega) hK
theorem fX3_digestE_90 {N p : Nat} {w rk : Nat → Int32} {oo og : Int32} {K : Int64 → Int32 → Prop} (hN : N < 13) (hp : p < N) : ∀ (d k : Nat) (x : Int64), k + d = 4 → (∀ b, K (dgL (dgO N w rk oo og p) d k x) b) → qX3_digest_W90 (nI N) oo og N rk N w (nI p) K (d + 1) x (nI k)
  | 0, k, x, hk, hK => by
    have : k = 4 := by omega
    subst this
    exact ⟨fun _ => hK _, fun hc => absurd (nI_lt (a := 3) (b := 4) (by omega) (by omega)) hc⟩
  | d + 1, k, x, hk, hK => by
    refine ⟨fun hc => absurd hc (nI_nlt (a := 3) (by omega) (by omega)), fun _ => fX3_ofPlaceNowE hN hp (uX3_add ?_)⟩
    rw [nI_1]
    exact fX3_digestE_90 hN hp d (k + 1) _ (by omega) hK
theorem fX3_digestE_119 {N p : Nat} {w : Nat → Int32} {oo og : Int32} {K : Int64 → Int32 → Prop} {x : Int64} (hN : N < 13) (hp : p < N) (hg : sSub og (sAll N)) (hK : ∀ b, K ((((x * 31) + (rdC w oo og N 0 p).toInt64) * 31) + (rdC w oo og N 1 p).toInt64) b) : qX3_digest_W119 (nI N) oo og N w (sLim w oo 0 N og) (sLim w oo 1 N og) (nI p) K 3 x 0 := by
  refine ⟨fun hc => absurd hc (by decide), fun _ => ⟨in2_0, ?_⟩⟩
  rw [upd2_0]
  refine fX3_roundsCE hN (by omega) hg (uX3_add ?_)
  rw [show (0 : Int32) + 1 = 1 from by decide]
  refine ⟨fun hc => absurd hc (by decide), fun _ => ⟨in2_1, ?_⟩⟩
  rw [upd2_1]
  refine fX3_roundsCE hN (by omega) hg (uX3_add ?_)
  exact ⟨fun _ => hK _, fun hc => absurd (by decide) hc⟩
theorem fX3_digestE_152 {N p : Nat} {w : Nat → Int32} {oo og : Int32} {K : Int64 → Int32 → Prop} {x : Int64} (hN : N < 13) (hp : p < N) (hK : ∀ b, K ((((x * 31) + (rdG w oo og N 0 p).toInt64) * 31) + (rdG w oo og N 1 p).toInt64) b) : qX3_digest_W152 (nI N) oo og N w (sAgain w oo 0 og N) (sAgain w oo 1 og N) (nI p) K 3 x 0 := by
  refine ⟨fun hc => absurd hc (by decide), fun _ => ⟨in2_0, ?_⟩⟩
  rw [upd2_0]
  refine fX3_roundsAE hN (by omega) (uX3_add ?_)
  rw [show (0 : Int32) + 1 = 1 from by decide]
  refine ⟨fun hc => absurd hc (by decide), fun _ => ⟨in2_1, ?_⟩⟩
  rw [upd2_1]
  refine fX3_roundsAE hN (by omega) (uX3_add ?_)
  exact ⟨fun _ => hK _, fun hc => absurd (by decide) hc⟩
theorem fX3_digestE_78 {N : Nat} {w rk : Nat → Int32} {oo og : Int32} {K : Int64 → Int32 → Prop} (hN : N < 13) (hg : sSub og (sAll N)) : ∀ (d p : Nat) (x : Int64), p + d = N → (∀ b, K (dgL (dgP N w rk oo og) d p x) b) → qX3_digest_W78 (nI N) oo og N rk N w (sLim w oo 0 N og) (sLim w oo 1 N og) (sAgain w oo 0 og N) (sAgain w oo 1 og N) K (d + 1) x (nI p)
  | 0, p, x, hp, hK => by
    have : p = N := by omega
    subst this
    exact ⟨fun _ => hK _, fun hc => absurd (nI_le (Nat.le_refl _) (by omega)) hc⟩
  | d + 1, p, x, hp, hK => by
    refine ⟨fun hc => absurd hc (nI_ge (by omega) (by omega)), fun _ => ⟨5, fX3_digestE_90 hN (by omega) 4 0 x rfl (fun _ => ⟨3, fX3_digestE_119 hN (by omega) hg (fun _ => ⟨3, fX3_digestE_152 hN (by omega) (fun _ => ?_)⟩)⟩)⟩⟩
    rw [nI_1]
    exact fX3_digestE_78 hN hg d (p + 1) _ (by omega) hK
theorem fX3_digestE_192 {N : Nat} {w rk : Nat → Int32} {oo og : Int32} {K : Int64 → Int32 → Prop} {x : Int64} (hN : N < 13) (hK : ∀ b, K (dgL (dgS N w rk oo og) 2 0 x) b) : qX3_digest_W192 (nI N) oo og N rk N w (sLim w oo 0 N og) (sLim w oo 1 N og) (sAgain w oo 0 og N) (sAgain w oo 1 og N) K 3 x 0 := by
  refine ⟨fun hc => absurd hc (by decide), fun _ => ⟨in2_0, ?_⟩⟩
  rw [upd2_0]
  refine uX3_add (fX3_keepingOf hN (uX3_add ⟨in2_0, ?_⟩))
  rw [upd2_0]
  refine uX3_add (fX3_wonIn hN (uX3_add (fX3_fallsE hN (uX3_add (fX3_choicesE hN (uX3_add ?_))))))
  rw [show (0 : Int32) + 1 = 1 from by decide]
  refine ⟨fun hc => absurd hc (by decide), fun _ => ⟨in2_1, ?_⟩⟩
  rw [upd2_1]
  refine uX3_add (fX3_keepingOf hN (uX3_add ⟨in2_1, ?_⟩))
  rw [upd2_1]
  refine uX3_add (fX3_wonIn hN (uX3_add (fX3_fallsE hN (uX3_add (fX3_choicesE hN (uX3_add ?_))))))
  exact ⟨fun _ => hK _, fun hc => absurd (by decide) hc⟩
theorem mE_digest {N : Nat} {w rk : Nat → Int32} {oo og ost ord oac ore okn : Int32} {post : Int64 → Int32 → Prop} (hN : N < 13) (hw : sMW N w) (hg : sSub og (sAll N)) (h : post (dgA N w rk oo og ost ord oac ore okn) 0) : qX3_digestW (nI N) oo og N rk N w ost ord oac ore okn post := by
  refine uX3_digestW ⟨8, fX3_digestE_11 hN hw 7 0 8031 rfl (fun _ => ?_)⟩
  refine fX3_comingOf hN ⟨in2_0, fX3_comingOf hN ⟨in2_1, fX3_againOf hN ⟨in2_0, fX3_againOf hN ⟨in2_1, N + 1, fX3_digestE_78 hN hg N 0 _ (by omega) (fun _ => ?_)⟩⟩⟩⟩
  exact ⟨3, fX3_digestE_192 hN (fun _ => uX3_add (uX3_add (uX3_add (uX3_add h))))⟩
