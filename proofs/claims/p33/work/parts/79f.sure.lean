/-! The told choices win what is won. -/
theorem lsF_neg {f : Nat → Bool} : ∀ (d p : Nat), p + d < 32 → lsF f d p = -1 → ∀ q, p ≤ q → q < p + d → f q = false
  | 0, p, _, _, q, h1, h2 => by omega
  | d + 1, p, hd, h, q, h1, h2 => by
    rw [lsF] at h
    by_cases hf : f p = true
    · rw [if_pos hf] at h
      exact absurd h ((by decide +kernel : ∀ p, p < 32 → ¬ nI p = -1) p (by omega))
    · rw [if_neg hf] at h
      by_cases e : q = p
      · subst e
        cases hb : f q
        · rfl
        · exact absurd hb hf
      · exact lsF_neg d (p + 1) (by omega) h q (by omega) (by omega)
theorem lsF_ex {f : Nat → Bool} {q : Nat} (hq : q < 12) (h : f q = true) : ∃ r, f r = true ∧ lsF f 12 0 = nI r := by
  rcases lsF_cases (f := f) 12 0 with e | e
  · have := lsF_neg 12 0 (by omega) e q (by omega) (by omega)
    rw [h] at this; cases this
  · exact e
theorem pre_own_ex {w : Nat → Int32} {sec side X : Int32} {N p : Nat} (hN : N < 13) (hp : p < 32) (ho : sOwn sec side p = true) (h : bt (sPre w sec X side N) p = true) : ∃ q, q < 32 ∧ bt (w p) q = true ∧ bt X q = true := by
  rw [bt_sPre w sec X side N (by omega) p hp, Bool.and_eq_true] at h
  have h2 := h.2
  unfold sCond at h2
  rw [if_pos ho, decide_eq_true_eq] at h2
  exact (and_ne0 _ _).mp h2
theorem pre_own_in {w : Nat → Int32} {sec side X : Int32} {N p q : Nat} (hN : N < 13) (hp : p < N) (ho : sOwn sec side p = true) (hq : q < 32) (h1 : bt (w p) q = true) (h2 : bt X q = true) : bt (sPre w sec X side N) p = true := by
  rw [bt_sPre w sec X side N (by omega) p (by omega)]
  have hc : sCond w sec X side p = true := by
    unfold sCond
    rw [if_pos ho, decide_eq_true_eq]
    exact (and_ne0 _ _).mpr ⟨q, hq, h1, h2⟩
  simp [hp, hc]
theorem pre_oth_all {w : Nat → Int32} {sec side X : Int32} {N p : Nat} (hN : N < 13) (hp : p < 32) (ho : ¬ sOwn sec side p = true) (h : bt (sPre w sec X side N) p = true) : ∀ q, q < 32 → bt (w p) q = true → bt X q = true := by
  rw [bt_sPre w sec X side N (by omega) p hp, Bool.and_eq_true] at h
  have h2 := h.2
  unfold sCond at h2
  rw [if_neg ho, decide_eq_true_eq, and_e0] at h2
  intro q hq hb
  have := h2 q hq hb
  rw [bt_not _ hq] at this
  simpa using this
theorem pre_oth_in {w : Nat → Int32} {sec side X : Int32} {N p : Nat} (hN : N < 13) (hp : p < N) (ho : ¬ sOwn sec side p = true) (h : ∀ q, q < 32 → bt (w p) q = true → bt X q = true) : bt (sPre w sec X side N) p = true := by
  rw [bt_sPre w sec X side N (by omega) p (by omega)]
  have hc : sCond w sec X side p = true := by
    unfold sCond
    rw [if_neg ho, decide_eq_true_eq, and_e0]
    intro q hq hb
    rw [bt_not _ hq, h q hq hb]; rfl
  simp [hp, hc]
theorem pre_lt {w : Nat → Int32} {sec side X : Int32} {N p : Nat} (hN : N < 13) (hp : p < 32) (h : bt (sPre w sec X side N) p = true) : p < N := by
  rw [bt_sPre w sec X side N (by omega) p hp, Bool.and_eq_true, decide_eq_true_eq] at h
  exact h.1
/-- ways left to one, where a choice is told -/
def hcW (w : Nat → Int32) (ch : Nat → Int32) (p : Nat) : Int32 := if ch p = -1 then w p else ((1 : Int32) <<< (ch p &&& (31 : Int32)))
theorem hcW_q {w : Nat → Int32} {ch : Nat → Int32} {p q : Nat} (hq : q < 32) (h : ch p = nI q) : bt (hcW w ch p) q = true := by
  have hn : ¬ ch p = -1 := by rw [h]; exact (by decide +kernel : ∀ p, p < 32 → ¬ nI p = -1) q hq
  unfold hcW
  rw [if_neg hn, h, bt_bit hq hq]; simp
theorem hcW_only {w : Nat → Int32} {ch : Nat → Int32} {p q r : Nat} (hq : q < 32) (hr : r < 32) (h : ch p = nI q) (hb : bt (hcW w ch p) r = true) : r = q := by
  have hn : ¬ ch p = -1 := by rw [h]; exact (by decide +kernel : ∀ p, p < 32 → ¬ nI p = -1) q hq
  unfold hcW at hb
  rw [if_neg hn, h, bt_bit hq hr, decide_eq_true_eq] at hb
  exact hb
/-- sets that a side comes to in rounds: also with the ways left to the told ones -/
theorem orb_in {w w' : Nat → Int32} {oo side A x L : Int32} {N : Nat} (hN : N < 13) (hA : sSub (sPre w oo A side N) A) (hx : sSub x A) (h0 : sSub x L) (hL : sSub (sPre w' oo L side N) L) (hoth : ∀ p, p < N → ¬ sOwn oo side p = true → w' p = w p) (hown : ∀ p, p < N → sOwn oo side p = true → bt A p = true → bt x p = false → ∀ r, r ≤ 11 → bt (sIt (sStep w oo side N) (r + 1) x) p = true → (∀ j, j < r + 1 → bt (sIt (sStep w oo side N) j x) p = false) → ∃ q, q < 32 ∧ bt (w' p) q = true ∧ bt (sIt (sStep w oo side N) r x) q = true) : ∀ k, k ≤ 12 → sSub (sIt (sStep w oo side N) k x) L
  | 0, _ => h0
  | k + 1, hk => by
    have ih := orb_in hN hA hx h0 hL hoth hown k (by omega)
    rw [sIt_out]
    refine sSub_or.mpr ⟨ih, fun p hp hb => ?_⟩
    have hpN := pre_lt hN hp hb
    by_cases ho : sOwn oo side p = true
    · by_cases hin : bt (sIt (sStep w oo side N) k x) p = true
      · exact ih p hp hin
      · have hin : bt (sIt (sStep w oo side N) k x) p = false := by
          cases hb2 : bt (sIt (sStep w oo side N) k x) p
          · rfl
          · exact absurd hb2 hin
        have hs : bt (sIt (sStep w oo side N) (k + 1) x) p = true := by rw [sIt_out]; exact sSub_orr p hp hb
        obtain ⟨r, hr, hr1, hr2⟩ := first_of (f := fun j => bt (sIt (sStep w oo side N) j x) p) (k + 1) hs
        have hmono : ∀ j, j ≤ k → bt (sIt (sStep w oo side N) j x) p = false := by
          intro j hj
          cases hb2 : bt (sIt (sStep w oo side N) j x) p
          · rfl
          · have := orb_mono (w := w) (sec := oo) (side := side) (x := x) (N := N) (k - j) j p hp hb2
            rw [show j + (k - j) = k from by omega, hin] at this; cases this
        have e : r = k + 1 := by
          apply Classical.byContradiction
          intro hn
          have := hmono r (by omega)
          have hr1 : bt (sIt (sStep w oo side N) r x) p = true := hr1
          rw [hr1] at this; cases this
        have hpA : bt A p = true := hA p hp ((sPre_mono w oo side (by omega) (rnd_orb hN hA k x hx).2) p hp hb)
        obtain ⟨q, hq, h1, h2⟩ := hown p hpN ho hpA (hmono 0 (by omega)) k (by omega) hs (fun j hj => hmono j (by omega))
        exact hL p hp (pre_own_in hN hpN ho hq h1 (ih q hq h2))
    · refine hL p hp (pre_oth_in hN hpN ho (fun q hq hbq => ?_))
      rw [hoth p hpN ho] at hbq
      exact ih q hq (pre_oth_all hN hp ho hb q hq hbq)
/-- where the told choice is by rounds: it leads one round nearer -/
theorem near_own {w : Nat → Int32} {oo side x : Int32} {N p r : Nat} (hN : N < 13) (hp : p < N) (hw : sMW N w) (ho : sOwn oo side p = true) (h0 : bt (x ||| sPre w oo 0 side N) p = false) (hr : r ≤ 11) (h1 : bt (sIt (sStep w oo side N) (r + 1) (x ||| sPre w oo 0 side N)) p = true) (h2 : ∀ j, j < r + 1 → bt (sIt (sStep w oo side N) j (x ||| sPre w oo 0 side N)) p = false) : ∃ q, q < 12 ∧ lsF (bt (w p &&& nrA w oo side x N p)) 12 0 = nI q ∧ bt (sIt (sStep w oo side N) r (x ||| sPre w oo 0 side N)) q = true := by
  have e : nrA w oo side x N p = sIt (sStep w oo side N) r (x ||| sPre w oo 0 side N) := by
    unfold nrA
    rw [if_neg (by rw [h0]; decide)]
    exact neA_first (sStep w oo side N) p r 12 _ (fun j hj => h2 (j + 1) (by omega)) h1 (by omega)
  rw [e]
  have hpre : bt (sPre w oo (sIt (sStep w oo side N) r (x ||| sPre w oo 0 side N)) side N) p = true := by
    rw [sIt_out, show sStep w oo side N (sIt (sStep w oo side N) r (x ||| sPre w oo 0 side N)) = sIt (sStep w oo side N) r (x ||| sPre w oo 0 side N) ||| sPre w oo (sIt (sStep w oo side N) r (x ||| sPre w oo 0 side N)) side N from rfl, b_or, h2 r (by omega), Bool.false_or] at h1
    exact h1
  obtain ⟨q, hq, hq1, hq2⟩ := pre_own_ex hN (by omega) ho hpre
  have hq12 : q < N := by
    have := hw p hp q hq hq1
    rw [bt_sAll N hN q hq, decide_eq_true_eq] at this
    exact this
  obtain ⟨s, hs, hs2⟩ := lsF_ex (f := bt (w p &&& sIt (sStep w oo side N) r (x ||| sPre w oo 0 side N))) (q := q) (by omega) (by rw [b_and, hq1, hq2]; rfl)
  have hs32 : s < 32 := by
    apply Classical.byContradiction
    intro hn
    rw [b_big (by omega)] at hs; cases hs
  rw [b_and, Bool.and_eq_true] at hs
  have := hw p hp s hs32 hs.1
  rw [bt_sAll N hN s hs32, decide_eq_true_eq] at this
  exact ⟨s, by omega, hs2, hs.2⟩
/-- the told choice among the ways that stay in what is won -/
theorem stay_own {w : Nat → Int32} {A : Int32} {N p q : Nat} (hN : N < 13) (hp : p < N) (hw : sMW N w) (hq : q < 32) (h1 : bt (w p) q = true) (h2 : bt A q = true) : ∃ s, s < 12 ∧ lsF (bt (w p &&& A)) 12 0 = nI s ∧ bt A s = true := by
  have hq12 : q < N := by
    have := hw p hp q hq h1
    rw [bt_sAll N hN q hq, decide_eq_true_eq] at this
    exact this
  obtain ⟨s, hs, hs2⟩ := lsF_ex (f := bt (w p &&& A)) (q := q) (by omega) (by rw [b_and, h1, h2]; rfl)
  have hs32 : s < 32 := by
    apply Classical.byContradiction
    intro hn
    rw [b_big (by omega)] at hs; cases hs
  rw [b_and, Bool.and_eq_true] at hs
  have := hw p hp s hs32 hs.1
  rw [bt_sAll N hN s hs32, decide_eq_true_eq] at this
  exact ⟨s, by omega, hs2, hs.2⟩
theorem chA_oth {N p : Nat} {w : Nat → Int32} {oo og A game side : Int32} (ho : ¬ sOwn oo side p = true) : chA N w oo og A game side p = -1 := if_neg (fun k => ho k.1)
/-- coming -/
theorem sureG_coming {N : Nat} {w w' : Nat → Int32} {oo og side : Int32} (hN : N < 13) (hw : sMW N w) (hg : sSub og (sAll N)) (h1 : ∀ p, p < N → ¬ sOwn oo side p = true → w' p = w p) (h2 : ∀ p, p < N → sOwn oo side p = true → ∀ q, q < 32 → chA N w oo og (sLim w oo side N og) 0 side p = nI q → bt (w' p) q = true) : sSub (sLim w oo side N og) (sLim w' oo side N og) := by
  have eg : og &&& sLim w oo side N og = og := and_of_sub (sLim_ge w oo side (by omega) og)
  have hA : sSub (sPre w oo (sLim w oo side N og) side N) (sLim w oo side N og) := pre_lim
  have hx : sSub (og ||| sPre w oo 0 side N) (sLim w oo side N og) := sSub_or.mpr ⟨sLim_ge w oo side (by omega) og, (sPre_mono w oo side (by omega) sSub_0).trans hA⟩
  rw [show sSub (sLim w oo side N og) _ = sSub (sIt (sStep w oo side N) 12 (og ||| sPre w oo 0 side N)) _ from by rw [reach_eq hN hg]]
  refine orb_in (A := sLim w oo side N og) hN hA hx ?_ pre_lim ?_ ?_ 12 (Nat.le_refl 12)
  · refine sSub_or.mpr ⟨sLim_ge _ oo side (by omega) og, fun p hp hb => ?_⟩
    have hpN := pre_lt hN hp hb
    by_cases ho : sOwn oo side p = true
    · rw [pre0_own hN hp ho] at hb; cases hb
    · refine pre_lim p hp (pre_oth_in hN hpN ho (fun q hq hbq => ?_))
      rw [h1 p hpN ho] at hbq
      have := pre_oth_all hN hp ho hb q hq hbq
      rw [b_0] at this; cases this
  · exact h1
  · intro p hp ho hpA h0 r hr h1 h3
    obtain ⟨q, hq, e, hb⟩ := near_own hN hp hw ho h0 hr h1 h3
    refine ⟨q, by omega, h2 p hp ho q (by omega) ?_, hb⟩
    unfold chA
    rw [if_pos ⟨ho, hpA⟩, if_neg (fun k => by rcases k with k | k; exact absurd k (by decide); exact absurd k.1 (by decide)), eg]
    exact e
/-- keeping -/
theorem sureG_keeping {N : Nat} {w w' : Nat → Int32} {oo og side : Int32} (hN : N < 13) (hs : kSd side) (hw : sMW N w) (h1 : ∀ p, p < N → ¬ sOwn oo side p = true → w' p = w p) (h2 : ∀ p, p < N → sOwn oo side p = true → ∀ q, q < 32 → chA N w oo og (sAll N &&& (sLim w oo (1 - side) N og ^^^ (-1 : Int32))) 1 side p = nI q → bt (w' p) q = true) : sSub (sAll N &&& (sLim w oo (1 - side) N og ^^^ (-1 : Int32))) (sAll N &&& (sLim w' oo (1 - side) N og ^^^ (-1 : Int32))) := by
  have own2 : ∀ p, p < N → (sOwn oo side p = true ↔ ¬ sOwn oo (1 - side) p = true) := by
    intro p hp
    have hv := has_val oo (p := p) (by omega)
    unfold sOwn
    rw [hv]
    rcases hs with rfl | rfl
    · cases bt oo p <;> simp
    · cases bt oo p <;> simp
  have inA : ∀ p, p < N → (bt (sAll N &&& (sLim w oo (1 - side) N og ^^^ (-1 : Int32))) p = true ↔ bt (sLim w oo (1 - side) N og) p = false) := by
    intro p hp
    rw [b_and, bt_not _ (by omega), bt_sAll N hN p (by omega)]
    simp [hp]
  refine sSub_and.mpr ⟨sSub_andl, ?_⟩
  -- what the other side comes to with fewer ways of this one lies within what it came to
  have hsub : sSub (sLim w' oo (1 - side) N og) (sLim w oo (1 - side) N og) := by
    refine sLim_least _ oo (1 - side) (by omega) (sLim_ge w oo (1 - side) (by omega) og) (fun p hp hb => ?_)
    have hpN := pre_lt hN hp hb
    by_cases ho : sOwn oo side p = true
    · -- a place of this side
      have ho2 := (own2 p hpN).mp ho
      apply Classical.byContradiction
      intro hn
      have hn : bt (sLim w oo (1 - side) N og) p = false := by
        cases hb2 : bt (sLim w oo (1 - side) N og) p
        · rfl
        · exact absurd hb2 hn
      have hpA := (inA p hpN).mpr hn
      -- it has a way that stays
      have hex : ∃ q, q < 32 ∧ bt (w p) q = true ∧ bt (sLim w oo (1 - side) N og) q = false := by
        apply Classical.byContradiction
        intro hne
        have : bt (sPre w oo (sLim w oo (1 - side) N og) (1 - side) N) p = true := pre_oth_in hN hpN ho2 (fun q hq hbq => by
          cases hb2 : bt (sLim w oo (1 - side) N og) q
          · exact absurd ⟨q, hq, hbq, hb2⟩ hne
          · rfl)
        have := pre_lim p hp this
        rw [hn] at this; cases this
      obtain ⟨q, hq, hq1, hq2⟩ := hex
      have hqN : q < N := by
        have := hw p hpN q hq hq1
        rw [bt_sAll N hN q hq, decide_eq_true_eq] at this
        exact this
      obtain ⟨s, hs12, e, hsA⟩ := stay_own hN hpN hw hq hq1 ((inA q hqN).mpr hq2)
      have hsN : s < N := by
        have := sSub_andl s (by omega) hsA
        rw [bt_sAll N hN s (by omega), decide_eq_true_eq] at this
        exact this
      have ech : chA N w oo og (sAll N &&& (sLim w oo (1 - side) N og ^^^ (-1 : Int32))) 1 side p = nI s := by
        unfold chA
        rw [if_pos ⟨ho, hpA⟩, if_pos (Or.inl rfl)]
        exact e
      have := pre_oth_all hN hp ho2 hb s (by omega) (h2 p hpN ho s (by omega) ech)
      rw [(inA s hsN).mp hsA] at this; cases this
    · -- a place of the other: its ways are as they were
      have ho2 : sOwn oo (1 - side) p = true := by
        cases hb2 : sOwn oo (1 - side) p
        · exact absurd ((own2 p hpN).mpr (by rw [hb2]; decide)) ho
        · rfl
      obtain ⟨q, hq, b1, b2⟩ := pre_own_ex hN hp ho2 hb
      rw [h1 p hpN ho] at b1
      exact pre_lim p hp (pre_own_in hN hpN ho2 hq b1 b2)
  intro p hp hb
  rw [bt_not _ hp]
  cases hb2 : bt (sLim w' oo (1 - side) N og) p
  · rfl
  · have b1 := hsub p hp hb2
    have b2 := sSub_andr p hp hb
    rw [bt_not _ hp, b1] at b2; cases b2
/-- again -/
theorem lim_in {w : Nat → Int32} {sec side x : Int32} {N : Nat} (hN : N < 13) : sSub (sLim w sec side N x) (x ||| sPre w sec (sLim w sec side N x) side N) := by
  have hle : sSub (x ||| sPre w sec (sLim w sec side N x) side N) (sLim w sec side N x) := sSub_or.mpr ⟨sLim_ge w sec side (by omega) x, pre_lim⟩
  exact sLim_least w sec side (by omega) sSub_orl ((sPre_mono w sec side (by omega) hle).trans sSub_orr)
theorem again_in_pre {w : Nat → Int32} {sec side og : Int32} {N : Nat} (hN : N < 13) : sSub (sAgain w sec side og N) (sPre w sec (sAgain w sec side og N) side N) := by
  have h := lim_in (w := w) (sec := sec) (side := side) (x := og &&& sPre w sec (sAgain w sec side og N) side N) hN
  rw [← sAgain_eq w sec side og hN] at h
  exact h.trans (sSub_or.mpr ⟨sSub_andr, sSub.rfl⟩)
theorem again_greatest {w : Nat → Int32} {sec side og Y : Int32} {N : Nat} (hN : N < 13) (hY : sSub Y (sAll N)) (h : sSub Y (sLim w sec side N (og &&& sPre w sec Y side N))) : sSub Y (sAgain w sec side og N) := by
  have key : ∀ k, sSub Y (sIt (sFall w sec side og N) k (sAll N)) := by
    intro k
    induction k with
    | zero => exact hY
    | succ k ih =>
      rw [sIt_out]
      exact sSub_and.mpr ⟨ih, h.trans (sLim_mono w sec side (by omega) (sSub_and2 (sPre_mono w sec side (by omega) ih)))⟩
  exact key 32
theorem sureG_again {N : Nat} {w w' : Nat → Int32} {oo og side : Int32} (hN : N < 13) (hw : sMW N w) (h1 : ∀ p, p < N → ¬ sOwn oo side p = true → w' p = w p) (h2 : ∀ p, p < N → sOwn oo side p = true → ∀ q, q < 32 → chA N w oo og (sAgain w oo side og N) 2 side p = nI q → bt (w' p) q = true) : sSub (sAgain w oo side og N) (sAgain w' oo side og N) := by
  have hA : sSub (sPre w oo (sAgain w oo side og N) side N) (sAgain w oo side og N) := again_pre hN
  have hAN : sSub (sAgain w oo side og N) (sAll N) := again_all hN
  have hin := again_in_pre (w := w) (sec := oo) (side := side) (og := og) hN
  have hx : sSub ((og &&& sAgain w oo side og N) ||| sPre w oo 0 side N) (sAgain w oo side og N) := sSub_or.mpr ⟨sSub_andr, (sPre_mono w oo side (by omega) sSub_0).trans hA⟩
  have hoth := h1
  refine again_greatest hN hAN ?_
  have hT : sSub (og &&& sAgain w oo side og N) (sLim w' oo side N (og &&& sPre w' oo (sAgain w oo side og N) side N)) := by
    refine sSub.trans (sSub_and.mpr ⟨sSub_andl, fun p hp hb => ?_⟩) (sLim_ge _ oo side (by omega) _)
    have hpA := sSub_andr p hp hb
    have hpg := sSub_andl p hp hb
    have hpre := hin p hp hpA
    have hpN := pre_lt hN hp hpre
    by_cases ho : sOwn oo side p = true
    · obtain ⟨q, hq, b1, b2⟩ := pre_own_ex hN hp ho hpre
      obtain ⟨s, hs12, e, hsA⟩ := stay_own hN hpN hw hq b1 b2
      refine pre_own_in hN hpN ho (q := s) (by omega) (h2 p hpN ho s (by omega) ?_) hsA
      unfold chA
      rw [if_pos ⟨ho, hpA⟩, if_pos (Or.inr ⟨rfl, hpg⟩)]
      exact e
    · refine pre_oth_in hN hpN ho (fun q hq hbq => ?_)
      rw [hoth p hpN ho] at hbq
      exact pre_oth_all hN hp ho hpre q hq hbq
  have e12 : sIt (sStep w oo side N) 12 ((og &&& sAgain w oo side og N) ||| sPre w oo 0 side N) = sAgain w oo side og N := by
    rw [reach_eq hN (sSub_andr.trans hAN)]
    apply sSub.antisymm
    · exact sLim_least w oo side (by omega) sSub_andr hA
    · have h1 : sSub (og &&& sPre w oo (sAgain w oo side og N) side N) (og &&& sAgain w oo side og N) := sSub_and2 hA
      have h2 := sLim_mono w oo side (N := N) (by omega) h1
      rw [← sAgain_eq w oo side og hN] at h2
      exact h2
  have main := orb_in (w := w) (w' := w') (oo := oo) (side := side) (A := sAgain w oo side og N) (x := (og &&& sAgain w oo side og N) ||| sPre w oo 0 side N) (L := sLim w' oo side N (og &&& sPre w' oo (sAgain w oo side og N) side N)) hN hA hx (sSub_or.mpr ⟨hT, fun p hp hb => by
    have hpN := pre_lt hN hp hb
    by_cases ho : sOwn oo side p = true
    · rw [pre0_own hN hp ho] at hb; cases hb
    · refine pre_lim p hp (pre_oth_in hN hpN ho (fun q hq hbq => ?_))
      rw [hoth p hpN ho] at hbq
      have := pre_oth_all hN hp ho hb q hq hbq
      rw [b_0] at this; cases this⟩) pre_lim hoth (by
    intro p hp ho hpA h0 r hr b1 b2
    obtain ⟨q, hq, e, hb⟩ := near_own hN hp hw ho h0 hr b1 b2
    refine ⟨q, by omega, h2 p hp ho q (by omega) ?_, hb⟩
    have hng : ¬ bt og p = true := fun k => by
      rw [b_or, b_and, k, hpA] at h0; cases h0
    unfold chA
    rw [if_pos ⟨ho, hpA⟩, if_neg (fun k => by rcases k with k | k; exact absurd k (by decide); exact hng k.2)]
    exact e) 12 (Nat.le_refl 12)
  rw [e12] at main
  exact main
/-- the ways left to the told ones are such ways -/
theorem hcW_1 {N : Nat} {w : Nat → Int32} {oo og A game side : Int32} : ∀ p, p < N → ¬ sOwn oo side p = true → hcW w (chA N w oo og A game side) p = w p := fun p _ ho => by unfold hcW; rw [if_pos (chA_oth ho)]
theorem hcW_2 {N : Nat} {w : Nat → Int32} {oo og A game side : Int32} : ∀ p, p < N → sOwn oo side p = true → ∀ q, q < 32 → chA N w oo og A game side p = nI q → bt (hcW w (chA N w oo og A game side) p) q = true := fun p _ _ q hq h => hcW_q hq h
theorem sure_coming {N : Nat} {w : Nat → Int32} {oo og side : Int32} (hN : N < 13) (hw : sMW N w) (hg : sSub og (sAll N)) : sSub (sLim w oo side N og) (sLim (hcW w (chA N w oo og (sLim w oo side N og) 0 side)) oo side N og) := sureG_coming hN hw hg hcW_1 hcW_2
theorem sure_keeping {N : Nat} {w : Nat → Int32} {oo og side : Int32} (hN : N < 13) (hs : kSd side) (hw : sMW N w) : sSub (sAll N &&& (sLim w oo (1 - side) N og ^^^ (-1 : Int32))) (sAll N &&& (sLim (hcW w (chA N w oo og (sAll N &&& (sLim w oo (1 - side) N og ^^^ (-1 : Int32))) 1 side)) oo (1 - side) N og ^^^ (-1 : Int32))) := sureG_keeping hN hs hw hcW_1 hcW_2
theorem sure_again {N : Nat} {w : Nat → Int32} {oo og side : Int32} (hN : N < 13) (hw : sMW N w) : sSub (sAgain w oo side og N) (sAgain (hcW w (chA N w oo og (sAgain w oo side og N) 2 side)) oo side og N) := sureG_again hN hw hcW_1 hcW_2
