/-! One way a place is enough. -/
def oneW (N : Nat) (w z : Nat → Int32) (oo side : Int32) (st : Nat → Nat) : Prop := ∀ p, p < N → (¬ sOwn oo side p = true → z p = w p) ∧ (sOwn oo side p = true → w p = 0 → z p = w p) ∧ (sOwn oo side p = true → ¬ w p = 0 → z p = ((1 : Int32) <<< (nI (st p) &&& (31 : Int32))))
def stOk (N : Nat) (w : Nat → Int32) (oo side : Int32) (st : Nat → Nat) : Prop := ∀ p, p < N → sOwn oo side p = true → ¬ w p = 0 → bt (w p) (st p) = true ∧ st p < N
theorem ne0_bit {x : Int32} (h : ¬ x = 0) : ∃ q, q < 32 ∧ bt x q = true := by
  apply Classical.byContradiction
  intro hn
  apply h
  apply b_ext
  intro i hi
  rw [b_0]
  cases hb : bt x i
  · rfl
  · exact absurd ⟨i, hi, hb⟩ hn
theorem bit_N {N p q : Nat} {w : Nat → Int32} (hN : N < 13) (hw : sMW N w) (hp : p < N) (hq : q < 32) (h : bt (w p) q = true) : q < N := by
  have := hw p hp q hq h
  rw [bt_sAll N hN q hq, decide_eq_true_eq] at this
  exact this
theorem bt_32 {x : Int32} {q : Nat} (h : bt x q = true) : q < 32 := by
  apply Classical.byContradiction
  intro hn
  rw [b_big (by omega)] at h; cases h
theorem chA_bt {N p q : Nat} {w : Nat → Int32} {oo og A game side : Int32} (hq : q < 32) (h : chA N w oo og A game side p = nI q) : bt (w p) q = true := by
  have hn : ¬ nI q = -1 := (by decide +kernel : ∀ p, p < 32 → ¬ nI p = -1) q hq
  have key : ∀ S, lsF (bt (w p &&& S)) 12 0 = nI q → bt (w p) q = true := by
    intro S e
    rcases lsF_cases (f := bt (w p &&& S)) 12 0 with k | ⟨r, hr, k⟩
    · rw [k] at e; exact absurd e.symm hn
    · rw [k] at e
      have h32 := bt_32 hr
      have : r = q := (nI_eq (by omega) (by omega)).mp e
      rw [b_and, Bool.and_eq_true, this] at hr
      exact hr.1
  unfold chA at h
  split at h
  · split at h
    · exact key _ h
    · exact key _ h
  · exact absurd h.symm hn
/-- a choice out of told places -/
theorem pick_all {N : Nat} {w : Nat → Int32} {oo side : Int32} {G : Nat → Nat → Prop} (h : ∀ p, p < N → sOwn oo side p = true → ¬ w p = 0 → ∃ q, bt (w p) q = true ∧ q < N ∧ G p q) : ∃ st : Nat → Nat, stOk N w oo side st ∧ ∀ p, p < N → sOwn oo side p = true → ¬ w p = 0 → G p (st p) := by
  have : ∀ p, ∃ q, (p < N → sOwn oo side p = true → ¬ w p = 0 → bt (w p) q = true ∧ q < N ∧ G p q) := by
    intro p
    by_cases c : p < N ∧ sOwn oo side p = true ∧ ¬ w p = 0
    · obtain ⟨q, hq⟩ := h p c.1 c.2.1 c.2.2
      exact ⟨q, fun _ _ _ => hq⟩
    · exact ⟨0, fun h1 h2 h3 => absurd ⟨h1, h2, h3⟩ c⟩
  refine ⟨fun p => Classical.choose (this p), fun p h1 h2 h3 => ?_, fun p h1 h2 h3 => ?_⟩
  · have k := Classical.choose_spec (this p) h1 h2 h3
    exact ⟨k.1, k.2.1⟩
  · exact (Classical.choose_spec (this p) h1 h2 h3).2.2
theorem one_bt {N p q : Nat} {w z : Nat → Int32} {oo side : Int32} {st : Nat → Nat} (hz : oneW N w z oo side st) (hs : stOk N w oo side st) (hN : N < 13) (hp : p < N) (ho : sOwn oo side p = true) (h0 : ¬ w p = 0) (e : q = st p) : bt (z p) q = true := by
  have hlt := (hs p hp ho h0).2
  rw [(hz p hp).2.2 ho h0, e, bt_bit (by omega) (by omega)]; simp
theorem strat_told {N : Nat} {w rk : Nat → Int32} {oo og game side : Int32} (hN : N < 13) (hsd : kSd side) (hw : sMW N w) (hg : sSub og (sAll N)) (hga : game = 0 ∨ game = 1 ∨ game = 2) : ∃ st, stOk N w oo side st ∧ ∀ z, oneW N w z oo side st → sSub (mWon w oo og rk N game side) (mWon z oo og rk N game side) := by
  obtain ⟨st, hs, hst⟩ := pick_all (N := N) (w := w) (oo := oo) (side := side) (G := fun p q => ∀ r, r < 32 → chA N w oo og (mWon w oo og rk N game side) game side p = nI r → r = q) (by
    intro p hp ho h0
    rcases chA_cases (N := N) (p := p) (w := w) (oo := oo) (og := og) (A := mWon w oo og rk N game side) (game := game) (side := side) hN hp hw with e | ⟨q, hq, e⟩
    · obtain ⟨q, hq, hb⟩ := ne0_bit h0
      refine ⟨q, hb, bit_N hN hw hp hq hb, fun r hr k => ?_⟩
      rw [e] at k
      exact absurd k.symm ((by decide +kernel : ∀ p, p < 32 → ¬ nI p = -1) r hr)
    · refine ⟨q, chA_bt (by omega) e, hq, fun r hr k => ?_⟩
      rw [e] at k
      exact ((nI_eq (by omega) (by omega)).mp k).symm)
  refine ⟨st, hs, fun z hz => ?_⟩
  have h1 : ∀ p, p < N → ¬ sOwn oo side p = true → z p = w p := fun p hp => (hz p hp).1
  have h2 : ∀ p, p < N → sOwn oo side p = true → ∀ q, q < 32 → chA N w oo og (mWon w oo og rk N game side) game side p = nI q → bt (z p) q = true := by
    intro p hp ho q hq e
    have hb := chA_bt hq e
    have h0 : ¬ w p = 0 := fun k => by rw [k, b_0] at hb; cases hb
    exact one_bt hz hs hN hp ho h0 (hst p hp ho h0 q hq e)
  rcases hga with rfl | rfl | rfl
  · rw [won_c] at h2 ⊢
    rw [won_c]
    exact sureG_coming hN hw hg h1 h2
  · have e : ∀ w, mWon w oo og rk N 1 side = sAll N &&& (sLim w oo (1 - side) N og ^^^ (-1 : Int32)) := fun w => (if_neg (by decide)).trans (if_pos rfl)
    rw [e] at h2 ⊢
    rw [e]
    exact sureG_keeping hN hsd hw h1 h2
  · rw [won_a] at h2 ⊢
    rw [won_a]
    exact sureG_again hN hw h1 h2
/-! the ranked game, of side 0 -/
section RK0
variable (w : Nat → Int32) (oo r0 r1 r2 : Int32) {N : Nat}
theorem mid_in (hN : N < 13) (o : Int32) (k : Nat) : sSub (sIt (sG3 w oo r0 r1 r2 N o) k 0) (sIt (sG3 w oo r0 r1 r2 N o) (k + 1) 0) := by
  rw [sIt_out]; exact sG3_inc w oo r0 r1 r2 hN o k
theorem mid_le (hN : N < 13) (o : Int32) : ∀ (d k : Nat), sSub (sIt (sG3 w oo r0 r1 r2 N o) k 0) (sIt (sG3 w oo r0 r1 r2 N o) (k + d) 0)
  | 0, _ => sSub.rfl
  | d + 1, k => (mid_le hN o d k).trans (mid_in w oo r0 r1 r2 hN o (k + d))
end RK0
theorem strat_r0 {N : Nat} {w : Nat → Int32} {oo r0 r1 r2 : Int32} (hN : N < 13) (hw : sMW N w) : ∃ st, stOk N w oo 0 st ∧ ∀ z, oneW N w z oo 0 st → sSub (sRk w oo r0 r1 r2 N) (sRk z oo r0 r1 r2 N) := by
  have hfix := sRk_fix w oo r0 r1 r2 hN
  have hM : sIt (sG3 w oo r0 r1 r2 N (sRk w oo r0 r1 r2 N)) 32 0 = sRk w oo r0 r1 r2 N := hfix
  generalize hW : sRk w oo r0 r1 r2 N = W at hfix hM ⊢
  have hF : ∀ k, sF3 w oo r0 r1 r2 N W (sIt (sG3 w oo r0 r1 r2 N W) k 0) (sIt (sG3 w oo r0 r1 r2 N W) (k + 1) 0) = sIt (sG3 w oo r0 r1 r2 N W) (k + 1) 0 := by
    intro k
    rw [sIt_out]
    exact sG3_fix w oo r0 r1 r2 hN W _
  obtain ⟨st, hs, hst⟩ := pick_all (N := N) (w := w) (oo := oo) (side := 0) (G := fun p q => ∀ k, bt (sIt (sG3 w oo r0 r1 r2 N W) k 0) p = false → bt (sIt (sG3 w oo r0 r1 r2 N W) (k + 1) 0) p = true → (bt r0 p = true ∧ bt W q = true) ∨ (bt r1 p = true ∧ bt (sIt (sG3 w oo r0 r1 r2 N W) k 0) q = true) ∨ (bt r2 p = true ∧ bt (sIt (sG3 w oo r0 r1 r2 N W) (k + 1) 0) q = true)) (by
    intro p hp ho h0
    by_cases hex : ∃ k, bt (sIt (sG3 w oo r0 r1 r2 N W) k 0) p = false ∧ bt (sIt (sG3 w oo r0 r1 r2 N W) (k + 1) 0) p = true
    · obtain ⟨k, hk0, hk1⟩ := hex
      have uniq : ∀ j, bt (sIt (sG3 w oo r0 r1 r2 N W) j 0) p = false → bt (sIt (sG3 w oo r0 r1 r2 N W) (j + 1) 0) p = true → j = k := by
        intro j hj0 hj1
        apply Classical.byContradiction
        intro hn
        rcases Nat.lt_or_gt_of_ne hn with hlt | hlt
        · have := mid_le w oo r0 r1 r2 hN W (k - (j + 1)) (j + 1) p (by omega) hj1
          rw [show j + 1 + (k - (j + 1)) = k from by omega, hk0] at this; cases this
        · have := mid_le w oo r0 r1 r2 hN W (j - (k + 1)) (k + 1) p (by omega) hk1
          rw [show k + 1 + (j - (k + 1)) = j from by omega, hj0] at this; cases this
      have hb := hk1
      rw [← hF k] at hb
      have e : sF3 w oo r0 r1 r2 N W (sIt (sG3 w oo r0 r1 r2 N W) k 0) (sIt (sG3 w oo r0 r1 r2 N W) (k + 1) 0) = ((r0 &&& sPre w oo W 0 N) ||| (r1 &&& sPre w oo (sIt (sG3 w oo r0 r1 r2 N W) k 0) 0 N)) ||| (r2 &&& sPre w oo (sIt (sG3 w oo r0 r1 r2 N W) (k + 1) 0) 0 N) := rfl
      rw [e, b_or, b_or, b_and, b_and, b_and] at hb
      simp only [Bool.or_eq_true, Bool.and_eq_true] at hb
      rcases hb with (⟨c1, c2⟩ | ⟨c1, c2⟩) | ⟨c1, c2⟩
      · obtain ⟨q, hq, d1, d2⟩ := pre_own_ex hN (by omega) ho c2
        exact ⟨q, d1, bit_N hN hw hp hq d1, fun j hj0 hj1 => Or.inl ⟨c1, d2⟩⟩
      · obtain ⟨q, hq, d1, d2⟩ := pre_own_ex hN (by omega) ho c2
        exact ⟨q, d1, bit_N hN hw hp hq d1, fun j hj0 hj1 => by rw [uniq j hj0 hj1]; exact Or.inr (Or.inl ⟨c1, d2⟩)⟩
      · obtain ⟨q, hq, d1, d2⟩ := pre_own_ex hN (by omega) ho c2
        exact ⟨q, d1, bit_N hN hw hp hq d1, fun j hj0 hj1 => by rw [uniq j hj0 hj1]; exact Or.inr (Or.inr ⟨c1, d2⟩)⟩
    · obtain ⟨q, hq, hb⟩ := ne0_bit h0
      exact ⟨q, hb, bit_N hN hw hp hq hb, fun k h1 h2 => absurd ⟨k, h1, h2⟩ hex⟩)
  refine ⟨st, hs, fun z hz => ?_⟩
  have hWall : sSub W (sAll N) := by rw [← hW]; exact sRk_all hN
  have key : ∀ k, sSub (sIt (sG3 w oo r0 r1 r2 N W) k 0) (sH3 z oo r0 r1 r2 N W) := by
    intro k
    induction k with
    | zero => exact sSub_0
    | succ k ih =>
      rw [← sH3_fix z oo r0 r1 r2 hN W]
      refine sIt_ge (fun _ _ h => sF3_mono z oo r0 r1 r2 hN sSub.rfl sSub.rfl h) ?_ ?_ 32
      · rw [sIt_out]; exact sG3_all w oo r0 r1 r2 hN W _
      · intro p hp hb
        have e : sF3 z oo r0 r1 r2 N W (sH3 z oo r0 r1 r2 N W) (sIt (sG3 w oo r0 r1 r2 N W) (k + 1) 0) = ((r0 &&& sPre z oo W 0 N) ||| (r1 &&& sPre z oo (sH3 z oo r0 r1 r2 N W) 0 N)) ||| (r2 &&& sPre z oo (sIt (sG3 w oo r0 r1 r2 N W) (k + 1) 0) 0 N) := rfl
        rw [e, b_or, b_or, b_and, b_and, b_and]
        -- the stage at which p comes in
        obtain ⟨j, hj, hj1, hj2⟩ := first_of (f := fun j => bt (sIt (sG3 w oo r0 r1 r2 N W) j 0) p) (k + 1) hb
        match j, hj, hj1, hj2 with
        | 0, _, hj1, _ =>
          have hj1 : bt (0 : Int32) p = true := hj1
          rw [b_0] at hj1; cases hj1
        | j + 1, hj, hj1, hj2 =>
          have hj1 : bt (sIt (sG3 w oo r0 r1 r2 N W) (j + 1) 0) p = true := hj1
          have hj0 : bt (sIt (sG3 w oo r0 r1 r2 N W) j 0) p = false := hj2 j (by omega)
          have hpN : p < N := by
            have := hj1
            rw [sIt_out] at this
            have := sG3_all w oo r0 r1 r2 hN W _ p hp this
            rw [bt_sAll N hN p hp, decide_eq_true_eq] at this
            exact this
          have upM : sSub (sIt (sG3 w oo r0 r1 r2 N W) j 0) (sH3 z oo r0 r1 r2 N W) := by
            have := mid_le w oo r0 r1 r2 hN W (k - j) j
            rw [show j + (k - j) = k from by omega] at this
            exact this.trans ih
          have upI : sSub (sIt (sG3 w oo r0 r1 r2 N W) (j + 1) 0) (sIt (sG3 w oo r0 r1 r2 N W) (k + 1) 0) := by
            have := mid_le w oo r0 r1 r2 hN W (k - j) (j + 1)
            rw [show j + 1 + (k - j) = k + 1 from by omega] at this
            exact this
          by_cases ho : sOwn oo 0 p = true
          · have h0 : ¬ w p = 0 := by
              intro k0
              have hb := hj1
              rw [← hF j] at hb
              have e : sF3 w oo r0 r1 r2 N W (sIt (sG3 w oo r0 r1 r2 N W) j 0) (sIt (sG3 w oo r0 r1 r2 N W) (j + 1) 0) = ((r0 &&& sPre w oo W 0 N) ||| (r1 &&& sPre w oo (sIt (sG3 w oo r0 r1 r2 N W) j 0) 0 N)) ||| (r2 &&& sPre w oo (sIt (sG3 w oo r0 r1 r2 N W) (j + 1) 0) 0 N) := rfl
              rw [e, b_or, b_or, b_and, b_and, b_and] at hb
              simp only [Bool.or_eq_true, Bool.and_eq_true] at hb
              have : ∀ X, ¬ bt (sPre w oo X 0 N) p = true := fun X hX => by
                obtain ⟨q, hq, d1, d2⟩ := pre_own_ex hN hp ho hX
                rw [k0, b_0] at d1; cases d1
              rcases hb with (⟨c1, c2⟩ | ⟨c1, c2⟩) | ⟨c1, c2⟩
              · exact this _ c2
              · exact this _ c2
              · exact this _ c2
            have hbz := one_bt hz hs hN hpN ho h0 rfl
            have hst32 : st p < 32 := by have := (hs p hpN ho h0).2; omega
            have inz : ∀ X, bt X (st p) = true → bt (sPre z oo X 0 N) p = true := fun X hX => pre_own_in hN hpN ho hst32 hbz hX
            rcases hst p hpN ho h0 j hj0 hj1 with ⟨c1, c2⟩ | ⟨c1, c2⟩ | ⟨c1, c2⟩
            · simp [c1, inz _ c2]
            · simp [c1, inz _ (upM _ hst32 c2)]
            · simp [c1, inz _ (upI _ hst32 c2)]
          · have hb := hj1
            rw [← hF j] at hb
            have e : sF3 w oo r0 r1 r2 N W (sIt (sG3 w oo r0 r1 r2 N W) j 0) (sIt (sG3 w oo r0 r1 r2 N W) (j + 1) 0) = ((r0 &&& sPre w oo W 0 N) ||| (r1 &&& sPre w oo (sIt (sG3 w oo r0 r1 r2 N W) j 0) 0 N)) ||| (r2 &&& sPre w oo (sIt (sG3 w oo r0 r1 r2 N W) (j + 1) 0) 0 N) := rfl
            rw [e, b_or, b_or, b_and, b_and, b_and] at hb
            simp only [Bool.or_eq_true, Bool.and_eq_true] at hb
            have inz : ∀ X Y, sSub X Y → bt (sPre w oo X 0 N) p = true → bt (sPre z oo Y 0 N) p = true := fun X Y hXY hX => pre_oth_in hN hpN ho (fun q hq hbq => by
              rw [(hz p hpN).1 ho] at hbq
              exact hXY q hq (pre_oth_all hN hp ho hX q hq hbq))
            rcases hb with (⟨c1, c2⟩ | ⟨c1, c2⟩) | ⟨c1, c2⟩
            · simp [c1, inz _ _ sSub.rfl c2]
            · simp [c1, inz _ _ upM c2]
            · simp [c1, inz _ _ upI c2]
  have h32 := key 32
  rw [hM] at h32
  exact sRk_great hN hWall h32
