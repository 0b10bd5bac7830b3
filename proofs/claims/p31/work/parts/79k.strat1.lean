/-! The ranked game, of side 1. -/
theorem pre_oth_not {w : Nat → Int32} {sec side X : Int32} {N p : Nat} (hN : N < 13) (hp : p < N) (ho : ¬ sOwn sec side p = true) (h : ¬ bt (sPre w sec X side N) p = true) : ∃ q, q < 32 ∧ bt (w p) q = true ∧ ¬ bt X q = true := by
  apply Classical.byContradiction
  intro hn
  exact h (pre_oth_in hN hp ho (fun q hq hb => Classical.byContradiction (fun k => hn ⟨q, hq, hb, k⟩)))
theorem dec_le {F : Int32 → Int32} {x : Int32} (hd : ∀ k, sSub (F (sIt F k x)) (sIt F k x)) : ∀ (d k : Nat), sSub (sIt F (k + d) x) (sIt F k x)
  | 0, _ => sSub.rfl
  | d + 1, k => by
    have h := hd (k + d)
    rw [← sIt_out F (k + d) x] at h
    exact h.trans (dec_le hd d k)
theorem dec_uniq {F : Int32 → Int32} {x : Int32} {p j k : Nat} (hd : ∀ k, sSub (F (sIt F k x)) (sIt F k x)) (hp : p < 32) (h1 : bt (sIt F j x) p = true) (h2 : ¬ bt (sIt F (j + 1) x) p = true) (h3 : bt (sIt F k x) p = true) (h4 : ¬ bt (sIt F (k + 1) x) p = true) : j = k := by
  apply Classical.byContradiction
  intro hn
  rcases Nat.lt_or_gt_of_ne hn with hlt | hlt
  · have := dec_le hd (k - (j + 1)) (j + 1) p hp
    rw [show j + 1 + (k - (j + 1)) = k from by omega] at this
    exact h2 (this h3)
  · have := dec_le hd (j - (k + 1)) (k + 1) p hp
    rw [show k + 1 + (j - (k + 1)) = j from by omega] at this
    exact h4 (this h1)
theorem strat_r1 {N : Nat} {w : Nat → Int32} {oo r0 r1 r2 : Int32} (hN : N < 13) (hw : sMW N w) (x01 : ∀ p, p < N → ¬ (bt r0 p = true ∧ bt r1 p = true)) (x02 : ∀ p, p < N → ¬ (bt r0 p = true ∧ bt r2 p = true)) (x12 : ∀ p, p < N → ¬ (bt r1 p = true ∧ bt r2 p = true)) : ∃ st, stOk N w oo 1 st ∧ ∀ z, oneW N w z oo 1 st → sSub (sRk z oo r0 r1 r2 N) (sRk w oo r0 r1 r2 N) := by
  have hO := sH3_dec w oo r0 r1 r2 hN
  have hOI : ∀ j, sIt (sF3 w oo r0 r1 r2 N (sIt (sH3 w oo r0 r1 r2 N) j (sAll N)) (sIt (sH3 w oo r0 r1 r2 N) (j + 1) (sAll N))) 32 (sAll N) = sIt (sH3 w oo r0 r1 r2 N) (j + 1) (sAll N) := by
    intro j
    have h := sH3_fix w oo r0 r1 r2 hN (sIt (sH3 w oo r0 r1 r2 N) j (sAll N))
    rw [sIt_out (sH3 w oo r0 r1 r2 N) j]
    exact h
  have eF : ∀ (v : Nat → Int32) (o m x : Int32), sF3 v oo r0 r1 r2 N o m x = ((r0 &&& sPre v oo o 0 N) ||| (r1 &&& sPre v oo m 0 N)) ||| (r2 &&& sPre v oo x 0 N) := fun _ _ _ _ => rfl
  have oth : ∀ p, p < N → sOwn oo 1 p = true → ¬ sOwn oo 0 p = true := fun p hp ho => (own_other (side := 1) hN (Or.inr rfl) hp).mp ho
  obtain ⟨st, hs, hst⟩ := pick_all (N := N) (w := w) (oo := oo) (side := 1) (G := fun p q => ∀ j i, bt (sIt (sH3 w oo r0 r1 r2 N) j (sAll N)) p = true → ¬ bt (sIt (sH3 w oo r0 r1 r2 N) (j + 1) (sAll N)) p = true → bt (sIt (sF3 w oo r0 r1 r2 N (sIt (sH3 w oo r0 r1 r2 N) j (sAll N)) (sIt (sH3 w oo r0 r1 r2 N) (j + 1) (sAll N))) i (sAll N)) p = true → ¬ bt (sIt (sF3 w oo r0 r1 r2 N (sIt (sH3 w oo r0 r1 r2 N) j (sAll N)) (sIt (sH3 w oo r0 r1 r2 N) (j + 1) (sAll N))) (i + 1) (sAll N)) p = true → (bt r0 p = true → ¬ bt (sIt (sH3 w oo r0 r1 r2 N) j (sAll N)) q = true) ∧ (bt r1 p = true → ¬ bt (sIt (sH3 w oo r0 r1 r2 N) (j + 1) (sAll N)) q = true) ∧ (bt r2 p = true → ¬ bt (sIt (sF3 w oo r0 r1 r2 N (sIt (sH3 w oo r0 r1 r2 N) j (sAll N)) (sIt (sH3 w oo r0 r1 r2 N) (j + 1) (sAll N))) i (sAll N)) q = true)) (by
    intro p hp ho h0
    have ho0 := oth p hp ho
    by_cases hex : ∃ j i, bt (sIt (sH3 w oo r0 r1 r2 N) j (sAll N)) p = true ∧ ¬ bt (sIt (sH3 w oo r0 r1 r2 N) (j + 1) (sAll N)) p = true ∧ bt (sIt (sF3 w oo r0 r1 r2 N (sIt (sH3 w oo r0 r1 r2 N) j (sAll N)) (sIt (sH3 w oo r0 r1 r2 N) (j + 1) (sAll N))) i (sAll N)) p = true ∧ ¬ bt (sIt (sF3 w oo r0 r1 r2 N (sIt (sH3 w oo r0 r1 r2 N) j (sAll N)) (sIt (sH3 w oo r0 r1 r2 N) (j + 1) (sAll N))) (i + 1) (sAll N)) p = true
    · obtain ⟨j, i, a1, a2, a3, a4⟩ := hex
      have hnF := a4
      rw [sIt_out, eF, b_or, b_or, b_and, b_and, b_and] at hnF
      simp only [Bool.or_eq_true, Bool.and_eq_true, not_or, not_and] at hnF
      have same : ∀ q, ((bt r0 p = true → ¬ bt (sIt (sH3 w oo r0 r1 r2 N) j (sAll N)) q = true) ∧ (bt r1 p = true → ¬ bt (sIt (sH3 w oo r0 r1 r2 N) (j + 1) (sAll N)) q = true) ∧ (bt r2 p = true → ¬ bt (sIt (sF3 w oo r0 r1 r2 N (sIt (sH3 w oo r0 r1 r2 N) j (sAll N)) (sIt (sH3 w oo r0 r1 r2 N) (j + 1) (sAll N))) i (sAll N)) q = true)) → ∀ j' i', bt (sIt (sH3 w oo r0 r1 r2 N) j' (sAll N)) p = true → ¬ bt (sIt (sH3 w oo r0 r1 r2 N) (j' + 1) (sAll N)) p = true → bt (sIt (sF3 w oo r0 r1 r2 N (sIt (sH3 w oo r0 r1 r2 N) j' (sAll N)) (sIt (sH3 w oo r0 r1 r2 N) (j' + 1) (sAll N))) i' (sAll N)) p = true → ¬ bt (sIt (sF3 w oo r0 r1 r2 N (sIt (sH3 w oo r0 r1 r2 N) j' (sAll N)) (sIt (sH3 w oo r0 r1 r2 N) (j' + 1) (sAll N))) (i' + 1) (sAll N)) p = true → (bt r0 p = true → ¬ bt (sIt (sH3 w oo r0 r1 r2 N) j' (sAll N)) q = true) ∧ (bt r1 p = true → ¬ bt (sIt (sH3 w oo r0 r1 r2 N) (j' + 1) (sAll N)) q = true) ∧ (bt r2 p = true → ¬ bt (sIt (sF3 w oo r0 r1 r2 N (sIt (sH3 w oo r0 r1 r2 N) j' (sAll N)) (sIt (sH3 w oo r0 r1 r2 N) (j' + 1) (sAll N))) i' (sAll N)) q = true) := by
        intro q hq j' i' b1 b2 b3 b4
        have ej : j' = j := dec_uniq hO (by omega) b1 b2 a1 a2
        subst ej
        have ei : i' = i := dec_uniq (sF3_dec w oo r0 r1 r2 hN _ _) (by omega) b3 b4 a3 a4
        subst ei
        exact hq
      by_cases c0 : bt r0 p = true
      · obtain ⟨q, hq, d1, d2⟩ := pre_oth_not hN hp ho0 (hnF.1.1 c0)
        exact ⟨q, d1, bit_N hN hw hp hq d1, same q ⟨fun _ => d2, fun c => absurd ⟨c0, c⟩ (x01 p hp), fun c => absurd ⟨c0, c⟩ (x02 p hp)⟩⟩
      · by_cases c1 : bt r1 p = true
        · obtain ⟨q, hq, d1, d2⟩ := pre_oth_not hN hp ho0 (hnF.1.2 c1)
          exact ⟨q, d1, bit_N hN hw hp hq d1, same q ⟨fun c => absurd c c0, fun _ => d2, fun c => absurd ⟨c1, c⟩ (x12 p hp)⟩⟩
        · by_cases c2 : bt r2 p = true
          · obtain ⟨q, hq, d1, d2⟩ := pre_oth_not hN hp ho0 (hnF.2 c2)
            exact ⟨q, d1, bit_N hN hw hp hq d1, same q ⟨fun c => absurd c c0, fun c => absurd c c1, fun _ => d2⟩⟩
          · obtain ⟨q, hq, hb⟩ := ne0_bit h0
            exact ⟨q, hb, bit_N hN hw hp hq hb, same q ⟨fun c => absurd c c0, fun c => absurd c c1, fun c => absurd c c2⟩⟩
    · obtain ⟨q, hq, hb⟩ := ne0_bit h0
      exact ⟨q, hb, bit_N hN hw hp hq hb, fun j i h1 h2 h3 h4 => absurd ⟨j, i, h1, h2, h3, h4⟩ hex⟩)
  refine ⟨st, hs, fun z hz => ?_⟩
  have hfix := sRk_fix z oo r0 r1 r2 hN
  have hall : sSub (sRk z oo r0 r1 r2 N) (sAll N) := sRk_all hN
  generalize hV : sRk z oo r0 r1 r2 N = V at hfix hall ⊢
  have hM : sIt (sG3 z oo r0 r1 r2 N V) 32 0 = V := hfix
  have hGV : sG3 z oo r0 r1 r2 N V V = V := by
    have := sH3_fix z oo r0 r1 r2 hN V
    rw [hfix] at this
    exact this
  have hMV : ∀ k, sSub (sIt (sG3 z oo r0 r1 r2 N V) k 0) V := by
    intro k
    induction k with
    | zero => exact sSub_0
    | succ k ih =>
      rw [sIt_out]
      have := sG3_mono z oo r0 r1 r2 hN (o := V) (o' := V) sSub.rfl ih
      rw [hGV] at this
      exact this
  have main : ∀ j, sSub V (sIt (sH3 w oo r0 r1 r2 N) j (sAll N)) := by
    intro j
    induction j with
    | zero => exact hall
    | succ j ihj =>
      have stage : ∀ k, sSub (sIt (sG3 z oo r0 r1 r2 N V) k 0) (sIt (sH3 w oo r0 r1 r2 N) (j + 1) (sAll N)) := by
        intro k
        induction k with
        | zero => exact sSub_0
        | succ k ihk =>
          have hXF : sF3 z oo r0 r1 r2 N V (sIt (sG3 z oo r0 r1 r2 N V) k 0) (sIt (sG3 z oo r0 r1 r2 N V) (k + 1) 0) = sIt (sG3 z oo r0 r1 r2 N V) (k + 1) 0 := by
            rw [sIt_out]; exact sG3_fix z oo r0 r1 r2 hN V _
          have inn : ∀ i, i ≤ 32 → sSub (sIt (sG3 z oo r0 r1 r2 N V) (k + 1) 0) (sIt (sF3 w oo r0 r1 r2 N (sIt (sH3 w oo r0 r1 r2 N) j (sAll N)) (sIt (sH3 w oo r0 r1 r2 N) (j + 1) (sAll N))) i (sAll N)) := by
            intro i
            induction i with
            | zero => exact fun _ => (hMV (k + 1)).trans hall
            | succ i ihi =>
              intro hi p hp hb
              have hXi := ihi (by omega)
              apply Classical.byContradiction
              intro hn
              have hpV := hMV (k + 1) p hp hb
              have hpN : p < N := by
                have := hall p hp hpV
                rw [bt_sAll N hN p hp, decide_eq_true_eq] at this
                exact this
              have a1 := ihj p hp hpV
              have a2 : ¬ bt (sIt (sH3 w oo r0 r1 r2 N) (j + 1) (sAll N)) p = true := by
                intro k2
                rw [← hOI j] at k2
                have := dec_le (sF3_dec w oo r0 r1 r2 hN (sIt (sH3 w oo r0 r1 r2 N) j (sAll N)) (sIt (sH3 w oo r0 r1 r2 N) (j + 1) (sAll N))) (32 - (i + 1)) (i + 1) p hp
                rw [show i + 1 + (32 - (i + 1)) = 32 from by omega] at this
                exact hn (this k2)
              have a3 := hXi p hp hb
              have hnF := hn
              rw [sIt_out, eF, b_or, b_or, b_and, b_and, b_and] at hnF
              simp only [Bool.or_eq_true, Bool.and_eq_true, not_or, not_and] at hnF
              have hb2 := hb
              rw [← hXF, eF, b_or, b_or, b_and, b_and, b_and] at hb2
              simp only [Bool.or_eq_true, Bool.and_eq_true] at hb2
              by_cases ho : sOwn oo 1 p = true
              · have ho0 := oth p hpN ho
                by_cases h0 : w p = 0
                · have vac : ∀ X, bt (sPre w oo X 0 N) p = true := fun X => pre_oth_in hN hpN ho0 (fun q hq hbq => by rw [h0, b_0] at hbq; cases hbq)
                  rcases hb2 with (⟨c1, c2⟩ | ⟨c1, c2⟩) | ⟨c1, c2⟩
                  · exact hnF.1.1 c1 (vac _)
                  · exact hnF.1.2 c1 (vac _)
                  · exact hnF.2 c1 (vac _)
                · have hbz := one_bt hz hs hN hpN ho h0 rfl
                  have hst32 : st p < 32 := by have := (hs p hpN ho h0).2; omega
                  obtain ⟨g0, g1, g2⟩ := hst p hpN ho h0 j i a1 a2 a3 hn
                  rcases hb2 with (⟨c1, c2⟩ | ⟨c1, c2⟩) | ⟨c1, c2⟩
                  · exact g0 c1 (ihj _ hst32 (pre_oth_all hN hp ho0 c2 _ hst32 hbz))
                  · exact g1 c1 (ihk _ hst32 (pre_oth_all hN hp ho0 c2 _ hst32 hbz))
                  · exact g2 c1 (hXi _ hst32 (pre_oth_all hN hp ho0 c2 _ hst32 hbz))
              · have ho0 : sOwn oo 0 p = true := by
                  cases hb3 : sOwn oo 0 p
                  · exact absurd ((own_other (side := 1) hN (Or.inr rfl) hpN).mpr (by rw [show (1 : Int32) - 1 = 0 from by decide, hb3]; decide)) ho
                  · rfl
                have up : ∀ X Y, sSub X Y → bt (sPre z oo X 0 N) p = true → bt (sPre w oo Y 0 N) p = true := fun X Y hXY hX => by
                  obtain ⟨q, hq, d1, d2⟩ := pre_own_ex hN hp ho0 hX
                  rw [(hz p hpN).1 ho] at d1
                  exact pre_own_in hN hpN ho0 hq d1 (hXY q hq d2)
                rcases hb2 with (⟨c1, c2⟩ | ⟨c1, c2⟩) | ⟨c1, c2⟩
                · exact hnF.1.1 c1 (up _ _ ihj c2)
                · exact hnF.1.2 c1 (up _ _ ihk c2)
                · exact hnF.2 c1 (up _ _ hXi c2)
          have h32 := inn 32 (Nat.le_refl 32)
          rw [hOI j] at h32
          exact h32
      have h32 := stage 32
      rw [hM] at h32
      exact h32
  have hm := main 32
  exact hm
