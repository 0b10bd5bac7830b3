/-! isSure and isSound, exactly: they hold. -/
theorem sub_zero {x y : Int32} (h : sSub x y) : x &&& (y ^^^ (-1 : Int32)) = 0 := b_ext fun i hi => by
  rw [b_and, bt_not _ hi, b_0]
  cases hb : bt x i
  · rfl
  · rw [h i hi hb]; rfl
theorem sure_all {N : Nat} {w rk : Nat → Int32} {oo og game side : Int32} (hN : N < 13) (hs : kSd side) (hw : sMW N w) (hg : sSub og (sAll N)) (hga : game = 0 ∨ game = 1 ∨ game = 2) : sSub (mWon w oo og rk N game side) (mWon (hcW w (chA N w oo og (mWon w oo og rk N game side) game side)) oo og rk N game side) := by
  rcases hga with rfl | rfl | rfl
  · rw [won_c, won_c]; exact sure_coming hN hw hg
  · have e : ∀ w, mWon w oo og rk N 1 side = sAll N &&& (sLim w oo (1 - side) N og ^^^ (-1 : Int32)) := fun w => (if_neg (by decide)).trans (if_pos rfl)
    rw [e, e]; exact sure_keeping hN hs hw
  · rw [won_a, won_a]; exact sure_again hN hw
theorem fX1_holdsE_24 {N : Nat} {mf w : Nat → Int32} {ms mg : Int32} {game side A : Int32} {K : Int32 → (Nat → Int32) → Prop} (hN : N < 13) (hs : kSd side) (hf : ∀ p, p < N → mf p = w p) (hK : ∀ a z, (∀ p, p < N → z p = hcW w (chA N w ms mg A game side) p) → K a z) : ∀ (d p : Nat) (z : Nat → Int32), p + d = N → (∀ q, q < N → z q = if q < p then hcW w (chA N w ms mg A game side) q else w q) → qX1_holdsByChoices_W24 mf (nI N) ms mg game side A K (d + 1) (nI p) z
  | 0, p, z, hp, hz => by
    have : p = N := by omega
    subst this
    exact ⟨fun _ => hK _ _ (fun q hq => by rw [hz q hq, if_pos hq]), fun hc => absurd (nI_le (Nat.le_refl _) (by omega)) hc⟩
  | d + 1, p, z, hp, hz => by
    have ih := fun (z : Nat → Int32) hz => fX1_holdsE_24 (N := N) (mf := mf) (w := w) (ms := ms) (mg := mg) (game := game) (side := side) (A := A) (K := K) hN hs hf hK d (p + 1) z (by omega) hz
    simp only [← nI_1] at ih
    refine ⟨fun hc => absurd hc (nI_ge (by omega) (by omega)), fun _ => fX0_pickWithinE hN (by omega) hs hf ⟨fun e => ih _ (fun q hq => ?_), fun e => fX0_setWaysE (by omega) (ih _ (fun q hq => ?_))⟩⟩
    · by_cases eq : q = p
      · rw [hz q hq, if_neg (by omega), if_pos (by omega), eq]
        unfold hcW; rw [if_pos e]
      · rw [hz q hq]
        by_cases e2 : q < p
        · rw [if_pos e2, if_pos (by omega)]
        · rw [if_neg e2, if_neg (by omega)]
    · by_cases eq : q = p
      · rw [eq, upd_eq, if_pos (by omega)]
        unfold hcW; rw [if_neg e]
      · rw [upd_ne eq, hz q hq]
        by_cases e2 : q < p
        · rw [if_pos e2, if_pos (by omega)]
        · rw [if_neg e2, if_neg (by omega)]
theorem fX1_holdsE {N : Nat} {mf w rk : Nat → Int32} {ms mg m0 m1 : Int32} {tf : Nat → Int32} {game side : Int32} {post : Int32 → Int32 → Int32 → Int32 → Int32 → Int32 → (Nat → Int32) → Prop} (hN : N < 13) (hw : sMW N w) (hf : ∀ p, p < N → mf p = w p) (hr : rkR N m0 m1 rk) (hg : sSub mg (sAll N)) (hs : kSd side) (hga : game = 0 ∨ game = 1 ∨ game = 2) (h : ∀ x1 x2 x3 x4 x5 g, post 1 x1 x2 x3 x4 x5 g) : qX1_holdsByChoicesW mf (nI N) ms mg m0 m1 tf game side post := by
  refine uX1_holdsByChoicesW (fX0_copyE (fun z hz => fX0_wonE (rk := rk) hN hf hr hg ⟨N + 1, ?_⟩))
  refine fX1_holdsE_24 (w := w) hN hs hf (fun _ z hzE => ?_) N 0 z (by omega) (fun q hq => by rw [hz q (by omega), hf q hq, if_neg (by omega)])
  refine fX0_wonE (rk := rk) hN hzE hr hg ⟨fun e => absurd (sub_zero (sure_all hN hs hw hg hga)) e, fun _ => h _ _ _ _ _ _⟩
theorem aN_isSure {N : Nat} {mf tf : Nat → Int32} {ms mg m0 m1 tz ts tg t0 t1 a1 a2 : Int32} {zn : Int64} {post : Int32 → Int32 → Int32 → Int32 → Int32 → Int32 → (Nat → Int32) → Int64 → Prop} (c : ¬ (kBt a1 0 2 ∧ kSd a2)) (h : post 1 tz ts tg t0 t1 tf zn) : qL_isSure mf (nI N) ms mg m0 m1 tf tz ts tg t0 t1 zn a1 a2 post :=
  uL_isSure (uX1_isSureT (fCkB (fun _ => ⟨rfl, h⟩) (fun k => fCkS (fun _ => ⟨rfl, h⟩) (fun k2 => absurd ⟨k, k2⟩ c))))
theorem aE_isSure {N : Nat} {mf w rk : Nat → Int32} {ms mg m0 m1 : Int32} {tf : Nat → Int32} {tz ts tg t0 t1 a1 a2 : Int32} {zn : Int64} {post : Int32 → Int32 → Int32 → Int32 → Int32 → Int32 → (Nat → Int32) → Int64 → Prop} (hN : N < 13) (hw : sMW N w) (hf : ∀ p, p < N → mf p = w p) (hr : rkR N m0 m1 rk) (hg : sSub mg (sAll N)) (c : kBt a1 0 2 ∧ kSd a2) (h : ∀ x1 x2 x3 x4 x5 g, post 0 x1 x2 x3 x4 x5 g 1) : qL_isSure mf (nI N) ms mg m0 m1 tf tz ts tg t0 t1 zn a1 a2 post :=
  uL_isSure (uX1_isSureT (fCkB (fun k => absurd c.1 k) (fun _ => fCkS (fun k => absurd c.2 k) (fun _ => fX1_holdsE hN hw hf hr hg c.2 (i3_of (kBt_l c.1) c.1.2) (fun _ _ _ _ _ _ => ⟨nar1, fun e => absurd e (by decide), fun _ => h _ _ _ _ _ _⟩)))))
theorem mN_isSure {a1 a2 : Int32} {post : Int32 → Int32 → Prop} (c : ¬ (kBt a1 0 2 ∧ kSd a2)) (h : post 0 1) : qX3_isSureW a1 a2 post := by
  refine uX3_isSureW ?_
  repeat' (first | (with_reducible first | exact h | assumption | exact vp_in_pl hN (by assumption) | exact vp_in_nI (by omega) (by omega) | exact absurd (kBt_of (by assumption) (by assumption)) c | exact absurd (kSet_of (by assumption) (by assumption)) c | exact absurd (And.intro (by assumption) (by assumption)) c | exact absurd (hb.symm.trans (by assumption)) (by decide) | exact absurd (And.intro (kBt_of (by assumption) (Int32.not_lt.mp (by assumption))) (by assumption)) c | refine fX3_isPlaceE hN ?_ ?_ | refine fX3_isSideE ?_ ?_ | refine fX3_isThrownW ?_ ?_ ?_ | refine fX3_isThrown_W ?_ ?_ | refine uX3_doneW ?_ | refine uX3_noW ?_ | exact nar0 | exact nar1 | refine fX3_isIn (by omega) ?_ ?_ | refine uX3_sideOf ?_ | exact fun hc => absurd rfl hc | exact fun hc => absurd hc (by decide) | contradiction | refine And.intro ?_ ?_ | intro _))
theorem mE_isSure {a1 a2 : Int32} {post : Int32 → Int32 → Prop} (c : kBt a1 0 2 ∧ kSd a2) (h : post 1 0) : qX3_isSureW a1 a2 post := by
  have c2 := kBt_l c.1
  have c3 := Int32.not_lt.mpr c.1.2
  have c4 := c.2
  refine uX3_isSureW ?_
  repeat' (first | (with_reducible first | exact h | assumption | exact vp_in_pl hN (by assumption) | exact vp_in_nI (by omega) (by omega) | exact absurd (kBt_of (by assumption) (by assumption)) c | exact absurd (kSet_of (by assumption) (by assumption)) c | exact absurd (And.intro (by assumption) (by assumption)) c | exact absurd (hb.symm.trans (by assumption)) (by decide) | refine fX3_isPlaceE hN ?_ ?_ | refine fX3_isSideE ?_ ?_ | refine fX3_isThrownW ?_ ?_ ?_ | refine fX3_isThrown_W ?_ ?_ | refine uX3_doneW ?_ | refine uX3_noW ?_ | exact nar0 | exact nar1 | refine fX3_isIn (by omega) ?_ ?_ | refine uX3_sideOf ?_ | exact fun hc => absurd rfl hc | exact fun hc => absurd hc (by decide) | contradiction | refine And.intro ?_ ?_ | intro _))
theorem one_sub {side : Int32} (hs : kSd side) : 1 - (1 - side) = side := by
  rcases hs with rfl | rfl <;> decide
theorem kSd_1 {side : Int32} (hs : kSd side) : kSd (1 - side) := by
  rcases hs with rfl | rfl
  · exact Or.inr (by decide)
  · exact Or.inl (by decide)
theorem cut_0 {N : Nat} {x : Int32} : x &&& (sAll N &&& (x ^^^ (-1 : Int32))) = 0 := b_ext fun i hi => by
  rw [b_and, b_and, bt_not _ hi, b_0]
  cases bt x i <;> simp
theorem cut_all {N : Nat} {x : Int32} (hx : sSub x (sAll N)) : x ||| (sAll N &&& (x ^^^ (-1 : Int32))) = sAll N := b_ext fun i hi => by
  rw [b_or, b_and, bt_not _ hi]
  cases hb : bt x i
  · simp
  · rw [hx i hi hb]; rfl
theorem fX1_comingSoundE {N : Nat} {mf w rk : Nat → Int32} {ms mg m0 m1 : Int32} {side : Int32} {post : Int32 → Prop} (hN : N < 13) (hw : sMW N w) (hf : ∀ p, p < N → mf p = w p) (hr : rkR N m0 m1 rk) (hg : sSub mg (sAll N)) (hs : kSd side) (h : post 1) : qX1_isComingSound mf (nI N) ms mg m0 m1 side post := by
  refine uX1_isComingSound (fX0_wonE (rk := rk) hN hf hr hg (fX0_wonE (rk := rk) hN hf hr hg ?_))
  have e1 : mWon w ms mg rk N 1 (1 - side) = sAll N &&& (sLim w ms side N mg ^^^ (-1 : Int32)) := by
    have : mWon w ms mg rk N 1 (1 - side) = sAll N &&& (sLim w ms (1 - (1 - side)) N mg ^^^ (-1 : Int32)) := (if_neg (by decide)).trans (if_pos rfl)
    rw [this, one_sub hs]
  rw [won_c, e1]
  have hC := lim_all (w := w) (sec := ms) (side := side) hN hg
  refine ⟨fun e => absurd cut_0 e, fun _ => uX0_all ⟨fun _ => fX0_seenE hN hf ⟨fun e => absurd (sub_zero (sSub_or.mpr ⟨pre_lim, sLim_ge w ms side (by omega) mg⟩)) e, fun _ => h⟩, fun e => absurd (cut_all hC) e⟩⟩
theorem fX1_againSoundE {N : Nat} {mf w rk : Nat → Int32} {ms mg m0 m1 : Int32} {side : Int32} {post : Int32 → Prop} (hN : N < 13) (hw : sMW N w) (hf : ∀ p, p < N → mf p = w p) (hr : rkR N m0 m1 rk) (hg : sSub mg (sAll N)) (h : post 1) : qX1_isAgainSound mf (nI N) ms mg m0 m1 side post := by
  refine uX1_isAgainSound (fX0_wonE (rk := rk) hN hf hr hg (fX0_wonE (rk := rk) hN hf hr hg ?_))
  rw [won_a, won_c]
  have h1 : sSub (sAgain w ms side mg N) (sLim w ms side N mg) := by
    rw [sAgain_eq w ms side mg hN]
    exact sLim_mono w ms side (by omega) sSub_andl
  exact ⟨fun _ => fX0_seenE hN hf ⟨fun e => absurd (sub_zero (again_pre hN)) e, fun _ => h⟩, fun e => absurd (sub_zero h1) e⟩
theorem mRk_fix {N : Nat} {w rk : Nat → Int32} {oo : Int32} (hN : N < 13) : mF w oo rk N (mRk w oo rk N) (mRk w oo rk N) (mRk w oo rk N) = mRk w oo rk N := by
  have h1 : mH w oo rk N (mRk w oo rk N) = mRk w oo rk N := sRk_fix w oo _ _ _ hN
  have h2 := sH3_fix w oo (sRank rk 0 N) (sRank rk 1 N) (sRank rk 2 N) hN (mRk w oo rk N)
  have h2 : mG w oo rk N (mRk w oo rk N) (mH w oo rk N (mRk w oo rk N)) = mH w oo rk N (mRk w oo rk N) := h2
  rw [h1] at h2
  have h3 := sG3_fix w oo (sRank rk 0 N) (sRank rk 1 N) (sRank rk 2 N) hN (mRk w oo rk N) (mRk w oo rk N)
  have h3 : mF w oo rk N (mRk w oo rk N) (mRk w oo rk N) (mG w oo rk N (mRk w oo rk N) (mRk w oo rk N)) = mG w oo rk N (mRk w oo rk N) (mRk w oo rk N) := h3
  rw [h2] at h3
  exact h3
theorem mRk_all {N : Nat} {w rk : Nat → Int32} {oo : Int32} (hN : N < 13) : sSub (mRk w oo rk N) (sAll N) := by
  rw [← mRk_fix hN]
  exact sF3_all w oo _ _ _ hN _ _ _
theorem rk_stuck0 {N p : Nat} {w rk : Nat → Int32} {oo : Int32} (hN : N < 13) (hp : p < N) (ho : sOwn oo 0 p = true) (hz : w p = 0) : bt (mRk w oo rk N) p = false := by
  cases hb : bt (mRk w oo rk N) p
  · rfl
  · rw [← mRk_fix hN] at hb
    have hpre : bt (sPre w oo (mRk w oo rk N) 0 N) p = true := by
      have e : mF w oo rk N (mRk w oo rk N) (mRk w oo rk N) (mRk w oo rk N) = ((sRank rk 0 N &&& sPre w oo (mRk w oo rk N) 0 N) ||| (sRank rk 1 N &&& sPre w oo (mRk w oo rk N) 0 N)) ||| (sRank rk 2 N &&& sPre w oo (mRk w oo rk N) 0 N) := rfl
      rw [e, b_or, b_or, b_and, b_and, b_and] at hb
      cases hq : bt (sPre w oo (mRk w oo rk N) 0 N) p
      · rw [hq] at hb; simp at hb
      · rfl
    obtain ⟨q, hq, h1, h2⟩ := pre_own_ex hN (by omega) ho hpre
    rw [hz, b_0] at h1; cases h1
theorem rk_stuck1 {N p : Nat} {w rk : Nat → Int32} {oo k0 k1 : Int32} (hN : N < 13) (hp : p < N) (hr : rkR N k0 k1 rk) (ho : ¬ sOwn oo 0 p = true) (hz : w p = 0) : bt (mRk w oo rk N) p = true := by
  rw [← mRk_fix hN]
  have hpre : bt (sPre w oo (mRk w oo rk N) 0 N) p = true := pre_oth_in hN hp ho (fun q hq hb => by rw [hz, b_0] at hb; cases hb)
  have e : mF w oo rk N (mRk w oo rk N) (mRk w oo rk N) (mRk w oo rk N) = ((sRank rk 0 N &&& sPre w oo (mRk w oo rk N) 0 N) ||| (sRank rk 1 N &&& sPre w oo (mRk w oo rk N) 0 N)) ||| (sRank rk 2 N &&& sPre w oo (mRk w oo rk N) 0 N) := rfl
  rw [e, b_or, b_or, b_and, b_and, b_and, hpre, bt_sRank N (by omega) p (by omega), bt_sRank N (by omega) p (by omega), bt_sRank N (by omega) p (by omega), (hr p hp).1]
  cases bt k0 p <;> cases bt k1 p <;> simp [hp]
theorem fX1_rankedSoundE_43 {N : Nat} {mf w rk : Nat → Int32} {ms k0 k1 : Int32} {K : Int32 → Prop} {post : Int32 → Prop} (hN : N < 13) (hf : ∀ p, p < N → mf p = w p) (hr : rkR N k0 k1 rk) (hK : ∀ a, K a) : ∀ (d p : Nat), p + d = N → qX1_isRankedSound_43 mf (nI N) ms (mRk w ms rk N) (sAll N &&& (mRk w ms rk N ^^^ (-1 : Int32))) K post (d + 1) (nI p)
  | 0, p, h => by
    have : p = N := by omega
    subst this
    exact ⟨fun _ => hK _, fun hc => absurd (nI_le (Nat.le_refl _) (by omega)) hc⟩
  | d + 1, p, h => by
    have ih := fX1_rankedSoundE_43 (ms := ms) (post := post) hN hf hr hK d (p + 1) (by omega)
    rw [← nI_1] at ih
    refine ⟨fun hc => absurd hc (nI_ge (by omega) (by omega)), fun _ => uX0_sideOf ⟨fun hs => fX0_waysFrom (by omega) ⟨fun _ => ih, fun hz => fX1_has (by omega) (fun _ => ⟨fun _ => ih, fun e => absurd rfl e⟩) (fun hb => ?_)⟩, fun hs => fX0_waysFrom (by omega) ⟨fun _ => ih, fun hz => fX1_has (by omega) (fun _ => ⟨fun _ => ih, fun e => absurd rfl e⟩) (fun hb => ?_)⟩⟩⟩
    · rw [hf p (by omega)] at hz
      have ho : ¬ sOwn ms 0 p = true := fun k => hs (of_decide_eq_true k)
      have := rk_stuck1 (rk := rk) hN (by omega) hr ho hz
      rw [b_and, bt_not _ (by omega), this] at hb
      simp at hb
    · rw [hf p (by omega)] at hz
      have ho : sOwn ms 0 p = true := decide_eq_true hs
      have := rk_stuck0 (rk := rk) hN (by omega) ho hz
      rw [this] at hb; cases hb
theorem fX1_rankedSoundE {N : Nat} {mf w rk : Nat → Int32} {ms mg m0 m1 : Int32} {post : Int32 → Prop} (hN : N < 13) (hw : sMW N w) (hf : ∀ p, p < N → mf p = w p) (hr : rkR N m0 m1 rk) (hg : sSub mg (sAll N)) (h : post 1) : qX1_isRankedSound mf (nI N) ms mg m0 m1 post := by
  refine uX1_isRankedSound (fX0_wonE (rk := rk) hN hf hr hg (fX0_wonE (rk := rk) hN hf hr hg ?_))
  have e0 : mWon w ms mg rk N 3 0 = mRk w ms rk N := (if_neg (by decide)).trans ((if_neg (by decide)).trans ((if_neg (by decide)).trans (if_pos rfl)))
  have e1 : mWon w ms mg rk N 3 1 = sAll N &&& (mRk w ms rk N ^^^ (-1 : Int32)) := (if_neg (by decide)).trans ((if_neg (by decide)).trans ((if_neg (by decide)).trans (if_neg (by decide))))
  rw [e0, e1]
  exact ⟨fun e => absurd cut_0 e, fun _ => uX0_all ⟨fun _ => ⟨N + 1, fX1_rankedSoundE_43 (K := fun _ => post 1) hN hf hr (fun _ => h) N 0 (by omega)⟩, fun e => absurd (cut_all (mRk_all hN)) e⟩⟩
theorem fX1_soundE_27 {N : Nat} {mf w rk : Nat → Int32} {ms mg m0 m1 : Int32} {v1 : Int32} {K : Int32 → Int32 → Int32 → Int32 → Int32 → Int32 → (Nat → Int32) → Prop} {post : Int32 → Int32 → Int32 → Int32 → Int32 → Int32 → (Nat → Int32) → Prop} (hN : N < 13) (hw : sMW N w) (hf : ∀ p, p < N → mf p = w p) (hr : rkR N m0 m1 rk) (hg : sSub mg (sAll N)) (hs : kSd v1) (hK : ∀ a b c d e f g, K a b c d e f g) : ∀ (d p : Nat) (x1 x2 x3 x4 x5 : Int32) (z : Nat → Int32), p + d = 3 → qX1_isSound_W27 mf (nI N) ms mg m0 m1 v1 K post (d + 1) (nI p) x1 x2 x3 x4 x5 z
  | 0, p, x1, x2, x3, x4, x5, z, hp => by
    have : p = 3 := by omega
    subst this
    exact ⟨fun _ => hK .., fun hc => absurd (nI_lt (a := 2) (b := 3) (by omega) (by omega)) hc⟩
  | d + 1, p, x1, x2, x3, x4, x5, z, hp => by
    have ih := fun (x1 x2 x3 x4 x5 : Int32) (z : Nat → Int32) => fX1_soundE_27 (N := N) (mf := mf) (w := w) (rk := rk) (ms := ms) (mg := mg) (m0 := m0) (m1 := m1) (v1 := v1) (K := K) (post := post) hN hw hf hr hg hs hK d (p + 1) x1 x2 x3 x4 x5 z (by omega)
    simp only [← nI_1] at ih
    have hga : nI p = 0 ∨ nI p = 1 ∨ nI p = 2 := (by decide +kernel : ∀ p, p < 3 → nI p = 0 ∨ nI p = 1 ∨ nI p = 2) p (by omega)
    exact ⟨fun hc => absurd hc (nI_nlt (a := 2) (by omega) (by omega)), fun _ => fX1_holdsE hN hw hf hr hg hs hga (fun _ _ _ _ _ _ => ⟨fun _ => ih .., fun e => absurd e (by decide)⟩)⟩
theorem fX1_soundE_2 {N : Nat} {mf w rk : Nat → Int32} {ms mg m0 m1 : Int32} {K : Int32 → Int32 → Int32 → Int32 → Int32 → Int32 → (Nat → Int32) → Prop} {post : Int32 → Int32 → Int32 → Int32 → Int32 → Int32 → (Nat → Int32) → Prop} (hN : N < 13) (hw : sMW N w) (hf : ∀ p, p < N → mf p = w p) (hr : rkR N m0 m1 rk) (hg : sSub mg (sAll N)) (hK : ∀ a b c d e f g, K a b c d e f g) : ∀ (d p : Nat) (x1 x2 x3 x4 x5 : Int32) (z : Nat → Int32), p + d = 2 → qX1_isSound_W2 mf (nI N) ms mg m0 m1 K post (d + 1) (nI p) x1 x2 x3 x4 x5 z
  | 0, p, x1, x2, x3, x4, x5, z, hp => by
    have : p = 2 := by omega
    subst this
    exact ⟨fun _ => hK .., fun hc => absurd (nI_lt (a := 1) (b := 2) (by omega) (by omega)) hc⟩
  | d + 1, p, x1, x2, x3, x4, x5, z, hp => by
    have ih := fun (x1 x2 x3 x4 x5 : Int32) (z : Nat → Int32) => fX1_soundE_2 (N := N) (mf := mf) (w := w) (rk := rk) (ms := ms) (mg := mg) (m0 := m0) (m1 := m1) (K := K) (post := post) hN hw hf hr hg hK d (p + 1) x1 x2 x3 x4 x5 z (by omega)
    simp only [← nI_1] at ih
    have hs : kSd (nI p) := nI01 (by omega)
    refine ⟨fun hc => absurd hc (nI_nlt (a := 1) (by omega) (by omega)), fun _ => fX1_comingSoundE hN hw hf hr hg hs ⟨fun e => absurd e (by decide), fun _ => fX1_againSoundE hN hw hf hr hg ⟨fun _ => ?_, fun e => absurd e (by decide)⟩⟩⟩
    exact ⟨4, fX1_soundE_27 hN hw hf hr hg hs (fun _ _ _ _ _ _ _ => ih ..) 3 0 _ _ _ _ _ _ rfl⟩
theorem fX1_soundE {N : Nat} {mf w rk : Nat → Int32} {ms mg m0 m1 : Int32} {tf : Nat → Int32} {tz ts tg t0 t1 : Int32} {post : Int32 → Int32 → Int32 → Int32 → Int32 → Int32 → (Nat → Int32) → Prop} (hN : N < 13) (hw : sMW N w) (hf : ∀ p, p < N → mf p = w p) (hr : rkR N m0 m1 rk) (hg : sSub mg (sAll N)) (h : ∀ x1 x2 x3 x4 x5 g, post 1 x1 x2 x3 x4 x5 g) : qX1_isSoundW mf (nI N) ms mg m0 m1 tf tz ts tg t0 t1 post :=
  uX1_isSoundW ⟨3, fX1_soundE_2 hN hw hf hr hg (fun _ _ _ _ _ _ _ => fX1_rankedSoundE hN hw hf hr hg ⟨nar1, h _ _ _ _ _ _⟩) 2 0 _ _ _ _ _ _ rfl⟩
