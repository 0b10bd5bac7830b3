/-! The ranked game, its loops. -/
theorem fX3_rankedOf_12 {N : Nat} {w rk : Nat → Int32} {oo v1 v2 : Int32} {K : Int32 → Prop} (hN : N < 13) : ∀ (d : Nat) (x : Int32), (∀ k, sSub (mF w oo rk N v1 v2 (sIt (mF w oo rk N v1 v2) k x)) (sIt (mF w oo rk N v1 v2) k x)) → sCnt x ≤ d → K (sIt (mF w oo rk N v1 v2) 32 x) → qX3_rankedOf_12 (nI N) oo N rk N w v1 v2 K (d + 1) x
  | d, x, hdec, hd, hK => by
    refine fX3_withRank hN (fX3_aheadOf hN (fX3_withRank hN (fX3_aheadOf hN (fX3_withRank hN (fX3_aheadOf hN ?_)))))
    show (¬ mF w oo rk N v1 v2 x = x → _) ∧ (mF w oo rk N v1 v2 x = x → _)
    refine ⟨fun hx => ?_, fun hx => ?_⟩
    · have hl := sCnt_lt (hdec 0) hx
      have hl : sCnt (mF w oo rk N v1 v2 x) < sCnt x := hl
      have hK2 : K (sIt (mF w oo rk N v1 v2) 32 (mF w oo rk N v1 v2 x)) := by
        rw [sIt_next (sIt_dec hdec)]; exact hK
      match d, hd with
      | 0, hd => omega
      | d + 1, hd => exact fX3_rankedOf_12 hN d (mF w oo rk N v1 v2 x) (fun k => hdec (k + 1)) (by omega) hK2
    · rw [sIt_fix hx 32] at hK
      exact hK
theorem mG_eq (w : Nat → Int32) (oo : Int32) (rk : Nat → Int32) (N : Nat) (v1 x : Int32) : sIt (mF w oo rk N v1 x) 32 (sAll N) = mG w oo rk N v1 x := by
  unfold mG sG3; rfl
theorem mH_eq (w : Nat → Int32) (oo : Int32) (rk : Nat → Int32) (N : Nat) (x : Int32) : sIt (mG w oo rk N x) 32 0 = mH w oo rk N x := by
  unfold mH sH3; rfl
theorem mF_dec {N : Nat} {w rk : Nat → Int32} {oo : Int32} (hN : N < 13) (v1 x : Int32) : ∀ k, sSub (mF w oo rk N v1 x (sIt (mF w oo rk N v1 x) k (sAll N))) (sIt (mF w oo rk N v1 x) k (sAll N)) := sF3_dec w oo _ _ _ hN v1 x
theorem fX3_rankedOf_7 {N : Nat} {w rk : Nat → Int32} {oo v1 : Int32} {K : Int32 → Prop} (hN : N < 13) (G : Int32 → Int32) (hG : ∀ x, sIt (mF w oo rk N v1 x) 32 (sAll N) = G x) : ∀ (d : Nat) (x : Int32), (∀ k, sSub (sIt G k x) (G (sIt G k x))) → 32 - sCnt x ≤ d → K (sIt G 32 x) → qX3_rankedOf_7 (nI N) oo N rk N w v1 K (d + 1) x
  | d, x, hinc, hd, hK => by
    have key : (¬ G x = x → qX3_rankedOf_7 (nI N) oo N rk N w v1 K d (G x)) ∧ (G x = x → K x) := by
      refine ⟨fun hx => ?_, fun hx => ?_⟩
      · have hl : sCnt x < sCnt (G x) := sCnt_lt (hinc 0) (fun e => hx e.symm)
        have hle := sCnt_le (G x)
        have hK2 : K (sIt G 32 (G x)) := by
          rw [sIt_next (sIt_inc hinc)]; exact hK
        match d, hd with
        | 0, hd => omega
        | d + 1, hd => exact fX3_rankedOf_7 hN G hG d (G x) (fun k => hinc (k + 1)) (by omega) hK2
      · rw [sIt_fix hx 32] at hK
        exact hK
    rw [← hG x] at key
    exact ⟨33, fX3_rankedOf_12 (K := fun v => (¬ v = x → qX3_rankedOf_7 (nI N) oo N rk N w v1 K d v) ∧ (v = x → K x)) hN 32 (sAll N) (mF_dec hN v1 x) (sCnt_le _) key⟩
theorem fX3_rankedOf_5 {N : Nat} {w rk : Nat → Int32} {oo : Int32} {post : Int32 → Prop} (hN : N < 13) (H : Int32 → Int32) (hH : ∀ x, sIt (mG w oo rk N x) 32 0 = H x) : ∀ (d : Nat) (x : Int32), (∀ k, sSub (H (sIt H k x)) (sIt H k x)) → sCnt x ≤ d → post (sIt H 32 x) → qX3_rankedOf_5 (nI N) oo N rk N w post (d + 1) x
  | d, x, hdec, hd, hK => by
    have key : (¬ H x = x → qX3_rankedOf_5 (nI N) oo N rk N w post d (H x)) ∧ (H x = x → post x) := by
      refine ⟨fun hx => ?_, fun hx => ?_⟩
      · have hl : sCnt (H x) < sCnt x := sCnt_lt (hdec 0) hx
        have hK2 : post (sIt H 32 (H x)) := by
          rw [sIt_next (sIt_dec hdec)]; exact hK
        match d, hd with
        | 0, hd => omega
        | d + 1, hd => exact fX3_rankedOf_5 hN H hH d (H x) (fun k => hdec (k + 1)) (by omega) hK2
      · rw [sIt_fix hx 32] at hK
        exact hK
    rw [← hH x] at key
    exact ⟨33, fX3_rankedOf_7 (K := fun v => (¬ v = x → qX3_rankedOf_5 (nI N) oo N rk N w post d v) ∧ (v = x → post x)) hN (mG w oo rk N x) (mG_eq w oo rk N x) 32 0 (sG3_inc w oo _ _ _ hN x) (by omega) key⟩
theorem fX3_rankedOf {N : Nat} {w rk : Nat → Int32} {oo : Int32} {post : Int32 → Prop} (hN : N < 13) (h : post (mRk w oo rk N)) : qX3_rankedOf (nI N) oo N rk N w post :=
  ⟨33, fX3_rankedOf_5 hN (mH w oo rk N) (mH_eq w oo rk N) 32 (sAll N) (sH3_dec w oo _ _ _ hN) (sCnt_le _) h⟩
