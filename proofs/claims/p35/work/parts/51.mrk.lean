/-! The reference's ranked game: three sets. -/
def sRank (rk : Nat → Int32) (r : Int32) : Nat → Int32
  | 0 => 0
  | p + 1 => if rk p = r then sRank rk r p ||| ((1 : Int32) <<< (nI p &&& (31 : Int32))) else sRank rk r p ||| 0
theorem fX3_withRank_4 {N : Nat} {rk : Nat → Int32} {a1 : Int32} {K : Int32 → Int32 → Prop} (hN : N < 13) (hK : K (sRank rk a1 N) (nI N)) : ∀ (d p : Nat), p + d = N → qX3_withRank_4 (nI N) N rk a1 K (d + 1) (sRank rk a1 p) (nI p)
  | 0, p, h => by
    have : p = N := by omega
    subst this
    exact ⟨fun _ => hK, fun hc => absurd (nI_le (Nat.le_refl p) (by omega)) hc⟩
  | d + 1, p, h => by
    have ih := fX3_withRank_4 hN hK d (p + 1) (by omega)
    refine ⟨fun hc => absurd hc (nI_ge (by omega) (by omega)), fun _ => ⟨vp_in_nI (by omega) (by omega), fun hc => ?_, fun hc => ?_⟩⟩
    · rw [nI_clamp (by omega)] at hc
      rw [nI_1]; rw [sRank, if_neg hc] at ih; exact ih
    · rw [nI_clamp (by omega)] at hc
      rw [nI_1]; rw [sRank, if_pos hc] at ih; exact ih
theorem fX3_withRank {N : Nat} {rk : Nat → Int32} {a1 : Int32} {post : Int32 → Prop} (hN : N < 13) (h : post (sRank rk a1 N)) : qX3_withRank (nI N) N rk a1 post := by
  have := fX3_withRank_4 (K := fun x _ => post x) hN h N 0 (by omega)
  exact ⟨N + 1, this⟩
/-- the innermost step: r0, r1, r2 the places of a rank each -/
def sF3 (w : Nat → Int32) (sec r0 r1 r2 : Int32) (N : Nat) (o m x : Int32) : Int32 := ((r0 &&& sPre w sec o 0 N) ||| (r1 &&& sPre w sec m 0 N)) ||| (r2 &&& sPre w sec x 0 N)
def sG3 (w : Nat → Int32) (sec r0 r1 r2 : Int32) (N : Nat) (o m : Int32) : Int32 := sIt (sF3 w sec r0 r1 r2 N o m) 32 (sAll N)
def sH3 (w : Nat → Int32) (sec r0 r1 r2 : Int32) (N : Nat) (o : Int32) : Int32 := sIt (sG3 w sec r0 r1 r2 N o) 32 0
def sRk (w : Nat → Int32) (sec r0 r1 r2 : Int32) (N : Nat) : Int32 := sIt (sH3 w sec r0 r1 r2 N) 32 (sAll N)
theorem sSub_or2 {a b c d : Int32} (h : sSub a c) (k : sSub b d) : sSub (a ||| b) (c ||| d) := sSub_or.mpr ⟨h.trans sSub_orl, k.trans sSub_orr⟩
theorem sSub_and2 {a b c : Int32} (h : sSub b c) : sSub (a &&& b) (a &&& c) := sSub_and.mpr ⟨sSub_andl, sSub_andr.trans h⟩
section RK
variable (w : Nat → Int32) (sec r0 r1 r2 : Int32) {N : Nat}
theorem sF3_mono (hN : N < 13) {o o' m m' x x' : Int32} (ho : sSub o o') (hm : sSub m m') (hx : sSub x x') : sSub (sF3 w sec r0 r1 r2 N o m x) (sF3 w sec r0 r1 r2 N o' m' x') :=
  sSub_or2 (sSub_or2 (sSub_and2 (sPre_mono w sec 0 (by omega) ho)) (sSub_and2 (sPre_mono w sec 0 (by omega) hm))) (sSub_and2 (sPre_mono w sec 0 (by omega) hx))
theorem sF3_all (hN : N < 13) (o m x : Int32) : sSub (sF3 w sec r0 r1 r2 N o m x) (sAll N) :=
  sSub_or.mpr ⟨sSub_or.mpr ⟨sSub_andr.trans (sPre_all w sec 0 o hN), sSub_andr.trans (sPre_all w sec 0 m hN)⟩, sSub_andr.trans (sPre_all w sec 0 x hN)⟩
theorem sF3_dec (hN : N < 13) (o m : Int32) : ∀ k, sSub (sF3 w sec r0 r1 r2 N o m (sIt (sF3 w sec r0 r1 r2 N o m) k (sAll N))) (sIt (sF3 w sec r0 r1 r2 N o m) k (sAll N)) :=
  sIt_decM (fun _ _ h => sF3_mono w sec r0 r1 r2 hN sSub.rfl sSub.rfl h) (sF3_all w sec r0 r1 r2 hN o m _)
theorem sG3_fix (hN : N < 13) (o m : Int32) : sF3 w sec r0 r1 r2 N o m (sG3 w sec r0 r1 r2 N o m) = sG3 w sec r0 r1 r2 N o m := sIt_dec (sF3_dec w sec r0 r1 r2 hN o m)
theorem sG3_all (hN : N < 13) (o m : Int32) : sSub (sG3 w sec r0 r1 r2 N o m) (sAll N) := by
  rw [← sG3_fix w sec r0 r1 r2 hN]; exact sF3_all w sec r0 r1 r2 hN _ _ _
theorem sG3_mono (hN : N < 13) {o o' m m' : Int32} (ho : sSub o o') (hm : sSub m m') : sSub (sG3 w sec r0 r1 r2 N o m) (sG3 w sec r0 r1 r2 N o' m') := by
  refine sIt_ge (fun _ _ h => sF3_mono w sec r0 r1 r2 hN sSub.rfl sSub.rfl h) (sG3_all w sec r0 r1 r2 hN o m) ?_ 32
  have e := sG3_fix w sec r0 r1 r2 hN o m
  have h := sF3_mono w sec r0 r1 r2 hN (o := o) (o' := o') (m := m) (m' := m') (x := sG3 w sec r0 r1 r2 N o m) (x' := sG3 w sec r0 r1 r2 N o m) ho hm sSub.rfl
  rw [e] at h
  exact h
theorem sG3_inc (hN : N < 13) (o : Int32) : ∀ k, sSub (sIt (sG3 w sec r0 r1 r2 N o) k 0) (sG3 w sec r0 r1 r2 N o (sIt (sG3 w sec r0 r1 r2 N o) k 0)) :=
  sIt_incM (fun _ _ h => sG3_mono w sec r0 r1 r2 hN sSub.rfl h) sSub_0
theorem sH3_fix (hN : N < 13) (o : Int32) : sG3 w sec r0 r1 r2 N o (sH3 w sec r0 r1 r2 N o) = sH3 w sec r0 r1 r2 N o := sIt_inc (sG3_inc w sec r0 r1 r2 hN o)
theorem sH3_all (hN : N < 13) (o : Int32) : sSub (sH3 w sec r0 r1 r2 N o) (sAll N) := by
  rw [← sH3_fix w sec r0 r1 r2 hN]; exact sG3_all w sec r0 r1 r2 hN _ _
theorem sH3_mono (hN : N < 13) {o o' : Int32} (ho : sSub o o') : sSub (sH3 w sec r0 r1 r2 N o) (sH3 w sec r0 r1 r2 N o') := by
  refine sIt_le (fun _ _ h => sG3_mono w sec r0 r1 r2 hN sSub.rfl h) sSub_0 ?_ 32
  have h := sG3_mono w sec r0 r1 r2 hN (o := o) (o' := o') (m := sH3 w sec r0 r1 r2 N o') (m' := sH3 w sec r0 r1 r2 N o') ho sSub.rfl
  rw [sH3_fix w sec r0 r1 r2 hN] at h
  exact h
theorem sH3_dec (hN : N < 13) : ∀ k, sSub (sH3 w sec r0 r1 r2 N (sIt (sH3 w sec r0 r1 r2 N) k (sAll N))) (sIt (sH3 w sec r0 r1 r2 N) k (sAll N)) :=
  sIt_decM (fun _ _ h => sH3_mono w sec r0 r1 r2 hN h) (sH3_all w sec r0 r1 r2 hN _)
theorem sRk_fix (hN : N < 13) : sH3 w sec r0 r1 r2 N (sRk w sec r0 r1 r2 N) = sRk w sec r0 r1 r2 N := sIt_dec (sH3_dec w sec r0 r1 r2 hN)
end RK
theorem sIt_tail {F : Int32 → Int32} {R : Int32 → Int32 → Prop} {x : Int32} (h : ∀ k, R (F (sIt F k x)) (sIt F k x)) : ∀ k, R (F (sIt F k (F x))) (sIt F k (F x)) := fun k => h (k + 1)
/-- what the reference's innermost loop reckons -/
abbrev mF (w : Nat → Int32) (oo : Int32) (rk : Nat → Int32) (N : Nat) : Int32 → Int32 → Int32 → Int32 := sF3 w oo (sRank rk 0 N) (sRank rk 1 N) (sRank rk 2 N) N
abbrev mG (w : Nat → Int32) (oo : Int32) (rk : Nat → Int32) (N : Nat) : Int32 → Int32 → Int32 := sG3 w oo (sRank rk 0 N) (sRank rk 1 N) (sRank rk 2 N) N
abbrev mH (w : Nat → Int32) (oo : Int32) (rk : Nat → Int32) (N : Nat) : Int32 → Int32 := sH3 w oo (sRank rk 0 N) (sRank rk 1 N) (sRank rk 2 N) N
def mRk (w : Nat → Int32) (oo : Int32) (rk : Nat → Int32) (N : Nat) : Int32 := sRk w oo (sRank rk 0 N) (sRank rk 1 N) (sRank rk 2 N) N
theorem fX3_rankedOf_12 {N : Nat} {w rk : Nat → Int32} {oo v1 v2 : Int32} {K : Int32 → Prop} (hN : N < 13) : ∀ (d : Nat) (x : Int32), (∀ k, sSub (mF w oo rk N v1 v2 (sIt (mF w oo rk N v1 v2) k x)) (sIt (mF w oo rk N v1 v2) k x)) → sCnt x ≤ d → K (sIt (mF w oo rk N v1 v2) 32 x) → qX3_rankedOf_12 (nI N) oo N rk N w v1 v2 K (d + 1) x
  | d, x, hdec, hd, hK => by
    refine fX3_withRank hN (fX3_aheadOf hN (fX3_withRank hN (fX3_aheadOf hN (fX3_withRank hN (fX3_aheadOf hN ?_)))))
    show (¬ mF w oo rk N v1 v2 x = x → _) ∧ (mF w oo rk N v1 v2 x = x → _)
    refine ⟨fun hx => ?_, fun hx => ?_⟩
    · have hl := sCnt_lt (hdec 0) hx
      have hl : sCnt (mF w oo rk N v1 v2 x) < sCnt x := hl
      have hK2 : K (sIt (mF w oo rk N v1 v2) 32 (mF w oo rk N v1 v2 x)) := by
        rw [sIt_next (sIt_dec hdec)]; exact hK
      match d, hd with
      | 0, hd => omega
      | d + 1, hd => exact fX3_rankedOf_12 hN d _ (fun k => hdec (k + 1)) (by omega) hK2
    · rw [sIt_fix hx 32] at hK
      exact hK
theorem fX3_rankedOf_7 {N : Nat} {w rk : Nat → Int32} {oo v1 : Int32} {K : Int32 → Prop} (hN : N < 13) : ∀ (d : Nat) (x : Int32), (∀ k, sSub (sIt (mG w oo rk N v1) k x) (mG w oo rk N v1 (sIt (mG w oo rk N v1) k x))) → 32 - sCnt x ≤ d → K (sIt (mG w oo rk N v1) 32 x) → qX3_rankedOf_7 (nI N) oo N rk N w v1 K (d + 1) x
  | d, x, hinc, hd, hK => by
    refine ⟨33, fX3_rankedOf_12 hN 32 _ (sF3_dec w oo _ _ _ hN v1 x) (sCnt_le _) ?_⟩
    show (¬ mG w oo rk N v1 x = x → _) ∧ (mG w oo rk N v1 x = x → _)
    refine ⟨fun hx => ?_, fun hx => ?_⟩
    · have hl := sCnt_lt (hinc 0) (fun e => hx e.symm)
      have hl : sCnt x < sCnt (mG w oo rk N v1 x) := hl
      have hle := sCnt_le (mG w oo rk N v1 x)
      have hK2 : K (sIt (mG w oo rk N v1) 32 (mG w oo rk N v1 x)) := by
        rw [sIt_next (sIt_inc hinc)]; exact hK
      match d, hd with
      | 0, hd => omega
      | d + 1, hd => exact fX3_rankedOf_7 hN d _ (fun k => hinc (k + 1)) (by omega) hK2
    · rw [sIt_fix hx 32] at hK
      exact hK
theorem fX3_rankedOf_5 {N : Nat} {w rk : Nat → Int32} {oo : Int32} {post : Int32 → Prop} (hN : N < 13) : ∀ (d : Nat) (x : Int32), (∀ k, sSub (mH w oo rk N (sIt (mH w oo rk N) k x)) (sIt (mH w oo rk N) k x)) → sCnt x ≤ d → post (sIt (mH w oo rk N) 32 x) → qX3_rankedOf_5 (nI N) oo N rk N w post (d + 1) x
  | d, x, hdec, hd, hK => by
    refine ⟨33, fX3_rankedOf_7 hN 32 0 (sG3_inc w oo _ _ _ hN x) (by omega) ?_⟩
    show (¬ mH w oo rk N x = x → _) ∧ (mH w oo rk N x = x → _)
    refine ⟨fun hx => ?_, fun hx => ?_⟩
    · have hl := sCnt_lt (hdec 0) hx
      have hl : sCnt (mH w oo rk N x) < sCnt x := hl
      have hK2 : post (sIt (mH w oo rk N) 32 (mH w oo rk N x)) := by
        rw [sIt_next (sIt_dec hdec)]; exact hK
      match d, hd with
      | 0, hd => omega
      | d + 1, hd => exact fX3_rankedOf_5 hN d _ (fun k => hdec (k + 1)) (by omega) hK2
    · rw [sIt_fix hx 32] at hK
      exact hK
theorem fX3_rankedOf {N : Nat} {w rk : Nat → Int32} {oo : Int32} {post : Int32 → Prop} (hN : N < 13) (h : post (mRk w oo rk N)) : qX3_rankedOf (nI N) oo N rk N w post :=
  ⟨33, fX3_rankedOf_5 hN 32 _ (sH3_dec w oo _ _ _ hN) (sCnt_le _) h⟩
/-- what is won in a game, as the reference reckons it -/
def mWon (w : Nat → Int32) (oo og : Int32) (rk : Nat → Int32) (N : Nat) (game side : Int32) : Int32 :=
  if game = 0 then sLim w oo side N og else if game = 1 then sAll N &&& (sLim w oo (1 - side) N og ^^^ (-1)) else if game = 2 then sAgain w oo side og N
  else if side = 0 then mRk w oo rk N else sAll N &&& (mRk w oo rk N ^^^ (-1))
theorem fX3_wonIn {N : Nat} {w rk : Nat → Int32} {oo og a1 a2 : Int32} {post : Int32 → Prop} (hN : N < 13) (h : post (mWon w oo og rk N a1 a2)) : qX3_wonIn (nI N) oo og N rk N w a1 a2 post := by
  unfold mWon at h
  refine ⟨fun h0 => ?_, fun h0 => ⟨fun h1 => ?_, fun h1 => ⟨fun h2 => ?_, fun h2 => ⟨fun h3 => ?_, fun h3 => ?_⟩⟩⟩⟩
  · rw [if_pos h0] at h; exact fX3_comingOf hN h
  · rw [if_neg h0, if_pos h1] at h; exact fX3_keepingOf hN h
  · rw [if_neg h0, if_neg h1, if_pos h2] at h; exact fX3_againOf hN h
  · rw [if_neg h0, if_neg h1, if_neg h2, if_neg h3] at h; exact fX3_rankedOf hN h
  · rw [if_neg h0, if_neg h1, if_neg h2, if_pos h3] at h; exact fX3_rankedOf hN h
