/-! Fewer ways of a side: it wins no more; and some way a place is enough to win what is won. -/
def resR (N : Nat) (w z : Nat → Int32) (oo side : Int32) : Prop := ∀ p, p < N → (¬ sOwn oo side p = true → z p = w p) ∧ (sOwn oo side p = true → sSub (z p) (w p) ∧ (z p = 0 → w p = 0))
theorem own_other {N p : Nat} {oo side : Int32} (hN : N < 13) (hs : kSd side) (hp : p < N) : sOwn oo side p = true ↔ ¬ sOwn oo (1 - side) p = true := by
  have hv := has_val oo (p := p) (by omega)
  unfold sOwn
  rw [hv]
  rcases hs with rfl | rfl
  · cases bt oo p <;> simp
  · cases bt oo p <;> simp
theorem res_pre {N : Nat} {w z : Nat → Int32} {oo side : Int32} (hN : N < 13) (h : resR N w z oo side) (X : Int32) : sSub (sPre z oo X side N) (sPre w oo X side N) := fun p hp hb => by
  have hpN := pre_lt hN hp hb
  obtain ⟨h1, h2⟩ := h p hpN
  by_cases ho : sOwn oo side p = true
  · obtain ⟨q, hq, b1, b2⟩ := pre_own_ex hN hp ho hb
    exact pre_own_in hN hpN ho hq ((h2 ho).1 q hq b1) b2
  · refine pre_oth_in hN hpN ho (fun q hq hbq => ?_)
    rw [← h1 ho] at hbq
    exact pre_oth_all hN hp ho hb q hq hbq
theorem res_pre1 {N : Nat} {w z : Nat → Int32} {oo side : Int32} (hN : N < 13) (hs : kSd side) (h : resR N w z oo side) (X : Int32) : sSub (sPre w oo X (1 - side) N) (sPre z oo X (1 - side) N) := fun p hp hb => by
  have hpN := pre_lt hN hp hb
  obtain ⟨h1, h2⟩ := h p hpN
  by_cases ho : sOwn oo side p = true
  · have ho2 := (own_other hN hs hpN).mp ho
    refine pre_oth_in hN hpN ho2 (fun q hq hbq => ?_)
    exact pre_oth_all hN hp ho2 hb q hq ((h2 ho).1 q hq hbq)
  · have ho2 : sOwn oo (1 - side) p = true := by
      cases hb2 : sOwn oo (1 - side) p
      · exact absurd ((own_other hN hs hpN).mpr (by rw [hb2]; decide)) ho
      · rfl
    obtain ⟨q, hq, b1, b2⟩ := pre_own_ex hN hp ho2 hb
    rw [← h1 ho] at b1
    exact pre_own_in hN hpN ho2 hq b1 b2
theorem lim_le {N : Nat} {w z : Nat → Int32} {oo side x : Int32} (hN : N < 13) (h : ∀ X, sSub (sPre z oo X side N) (sPre w oo X side N)) : sSub (sLim z oo side N x) (sLim w oo side N x) :=
  sLim_least z oo side (by omega) (sLim_ge w oo side (by omega) x) ((h _).trans pre_lim)
theorem again_le {N : Nat} {w z : Nat → Int32} {oo side og : Int32} (hN : N < 13) (h : ∀ X, sSub (sPre z oo X side N) (sPre w oo X side N)) : sSub (sAgain z oo side og N) (sAgain w oo side og N) := by
  refine again_greatest hN (again_all hN) ?_
  have h1 : sSub (sLim z oo side N (og &&& sPre z oo (sAgain z oo side og N) side N)) (sLim w oo side N (og &&& sPre w oo (sAgain z oo side og N) side N)) :=
    (lim_le hN h).trans (sLim_mono w oo side (by omega) (sSub_and2 (h _)))
  rw [← sAgain_eq z oo side og hN] at h1
  exact h1
theorem sF3_le {N : Nat} {w z : Nat → Int32} {oo r0 r1 r2 : Int32} (h : ∀ X, sSub (sPre z oo X 0 N) (sPre w oo X 0 N)) (o m x : Int32) : sSub (sF3 z oo r0 r1 r2 N o m x) (sF3 w oo r0 r1 r2 N o m x) :=
  sSub_or2 (sSub_or2 (sSub_and2 (h o)) (sSub_and2 (h m))) (sSub_and2 (h x))
theorem sG3_le {N : Nat} {w z : Nat → Int32} {oo r0 r1 r2 : Int32} (hN : N < 13) (h : ∀ X, sSub (sPre z oo X 0 N) (sPre w oo X 0 N)) (o m : Int32) : sSub (sG3 z oo r0 r1 r2 N o m) (sG3 w oo r0 r1 r2 N o m) := by
  refine sIt_ge (fun _ _ h => sF3_mono w oo r0 r1 r2 hN sSub.rfl sSub.rfl h) (sG3_all z oo r0 r1 r2 hN o m) ?_ 32
  have := sF3_le (r0 := r0) (r1 := r1) (r2 := r2) h o m (sG3 z oo r0 r1 r2 N o m)
  rw [sG3_fix z oo r0 r1 r2 hN o m] at this
  exact this
theorem sH3_le {N : Nat} {w z : Nat → Int32} {oo r0 r1 r2 : Int32} (hN : N < 13) (h : ∀ X, sSub (sPre z oo X 0 N) (sPre w oo X 0 N)) (o : Int32) : sSub (sH3 z oo r0 r1 r2 N o) (sH3 w oo r0 r1 r2 N o) := by
  refine sIt_le (fun _ _ h => sG3_mono z oo r0 r1 r2 hN sSub.rfl h) sSub_0 ?_ 32
  have := sG3_le (r0 := r0) (r1 := r1) (r2 := r2) hN h o (sH3 w oo r0 r1 r2 N o)
  rw [sH3_fix w oo r0 r1 r2 hN o] at this
  exact this
theorem sRk_all {N : Nat} {w : Nat → Int32} {oo r0 r1 r2 : Int32} (hN : N < 13) : sSub (sRk w oo r0 r1 r2 N) (sAll N) := by
  rw [← sRk_fix w oo r0 r1 r2 hN]; exact sH3_all w oo r0 r1 r2 hN _
theorem sRk_great {N : Nat} {w : Nat → Int32} {oo r0 r1 r2 Y : Int32} (hN : N < 13) (hY : sSub Y (sAll N)) (h : sSub Y (sH3 w oo r0 r1 r2 N Y)) : sSub Y (sRk w oo r0 r1 r2 N) :=
  sIt_ge (fun _ _ h => sH3_mono w oo r0 r1 r2 hN h) hY h 32
theorem sRk_le {N : Nat} {w z : Nat → Int32} {oo r0 r1 r2 : Int32} (hN : N < 13) (h : ∀ X, sSub (sPre z oo X 0 N) (sPre w oo X 0 N)) : sSub (sRk z oo r0 r1 r2 N) (sRk w oo r0 r1 r2 N) := by
  refine sRk_great hN (sRk_all hN) ?_
  have := sH3_le (r0 := r0) (r1 := r1) (r2 := r2) hN h (sRk z oo r0 r1 r2 N)
  rw [sRk_fix z oo r0 r1 r2 hN] at this
  exact this
theorem not_le {N : Nat} {x y : Int32} (h : sSub x y) : sSub (sAll N &&& (y ^^^ (-1 : Int32))) (sAll N &&& (x ^^^ (-1 : Int32))) := by
  refine sSub_and.mpr ⟨sSub_andl, fun p hp hb => ?_⟩
  have h2 := sSub_andr p hp hb
  rw [bt_not _ hp] at h2 ⊢
  cases hx : bt x p
  · rfl
  · rw [h p hp hx] at h2; cases h2
theorem won_le {N : Nat} {w z rk : Nat → Int32} {oo og game side : Int32} (hN : N < 13) (hs : kSd side) (h : resR N w z oo side) : sSub (mWon z oo og rk N game side) (mWon w oo og rk N game side) := by
  have hp := res_pre hN h
  have hp1 := res_pre1 hN hs h
  unfold mWon
  by_cases g0 : game = 0
  · rw [if_pos g0, if_pos g0]; exact lim_le hN hp
  · rw [if_neg g0, if_neg g0]
    by_cases g1 : game = 1
    · rw [if_pos g1, if_pos g1]; exact not_le (lim_le hN hp1)
    · rw [if_neg g1, if_neg g1]
      by_cases g2 : game = 2
      · rw [if_pos g2, if_pos g2]; exact again_le hN hp
      · rw [if_neg g2, if_neg g2]
        rcases hs with rfl | rfl
        · rw [if_pos rfl, if_pos rfl]; exact sRk_le hN hp
        · rw [if_neg (by decide), if_neg (by decide)]; exact not_le (sRk_le hN hp1)
