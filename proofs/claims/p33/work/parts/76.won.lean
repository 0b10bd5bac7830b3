/-! What can be won, exactly: twelve rounds are enough. -/
theorem sIt_add (F : Int32 → Int32) : ∀ (a b : Nat) (x : Int32), sIt F (a + b) x = sIt F b (sIt F a x)
  | 0, b, x => by rw [Nat.zero_add]; rfl
  | a + 1, b, x => by
    rw [show a + 1 + b = (a + b) + 1 from by omega]
    exact sIt_add F a b (F x)
theorem sIt12_dec {F : Int32 → Int32} {x : Int32} {N : Nat} (hN : N < 13) (hd : ∀ k, sSub (F (sIt F k x)) (sIt F k x)) (hx : sSub x (sAll N)) : sIt F 32 x = sIt F 12 x := by
  have key : ∀ k, F (sIt F k x) = sIt F k x ∨ sCnt (sIt F k x) + k ≤ N := by
    intro k
    induction k with
    | zero => exact Or.inr (sCnt_N hN hx)
    | succ k ih =>
      rcases ih with ih | ih
      · left; rw [sIt_out, ih, ih]
      · by_cases h : F (sIt F k x) = sIt F k x
        · left; rw [sIt_out, h, h]
        · right
          have := sCnt_lt (hd k) h
          rw [sIt_out]; omega
  have fx : F (sIt F 12 x) = sIt F 12 x := by
    rcases key 12 with h | h
    · exact h
    · have h1 := hd 12
      have e0 : sIt F 12 x = 0 := sCnt_0.mp (by omega)
      rw [e0] at h1 ⊢
      exact sSub.antisymm h1 sSub_0
  have e := sIt_add F 12 20 x
  rw [sIt_fix fx] at e
  exact e
theorem sIt12_inc {F : Int32 → Int32} {x : Int32} {N : Nat} (hN : N < 13) (hd : ∀ k, sSub (sIt F k x) (F (sIt F k x))) (ha : ∀ k, sSub (sIt F k x) (sAll N)) : sIt F 32 x = sIt F 12 x := by
  have key : ∀ k, F (sIt F k x) = sIt F k x ∨ k ≤ sCnt (sIt F k x) := by
    intro k
    induction k with
    | zero => exact Or.inr (Nat.zero_le _)
    | succ k ih =>
      rcases ih with ih | ih
      · left; rw [sIt_out, ih, ih]
      · by_cases h : F (sIt F k x) = sIt F k x
        · left; rw [sIt_out, h, h]
        · right
          have := sCnt_lt (hd k) (fun e => h e.symm)
          rw [sIt_out]; omega
  have fx : F (sIt F 12 x) = sIt F 12 x := by
    rcases key 12 with h | h
    · exact h
    · apply Classical.byContradiction
      intro hn
      have h1 := sCnt_lt (hd 12) (fun e => hn e.symm)
      have h2 := sCnt_N hN (ha (12 + 1))
      rw [sIt_out] at h2
      omega
  have e := sIt_add F 12 20 x
  rw [sIt_fix fx] at e
  exact e
/-! reaching -/
theorem fX0_reachE_12 {N : Nat} {mf w : Nat → Int32} {oo a2 : Int32} {K : Int32 → Int32 → Prop} (hN : N < 13) (hf : ∀ p, p < N → mf p = w p) : ∀ (d k : Nat) (x : Int32), k + d = 12 → (∀ c, K (sIt (sStep w oo a2 N) d x) c) → qX0_reaching_12 mf (nI N) oo a2 K (d + 1) x (nI k)
  | 0, k, x, h, hK => by
    have : k = 12 := by omega
    subst this
    exact ⟨fun _ => hK _, fun hc => absurd (nI_le (Nat.le_refl 12) (by omega)) hc⟩
  | d + 1, k, x, h, hK => by
    refine ⟨fun hc => absurd hc (nI_ge (b := 12) (by omega) (by omega)), fun _ => fX0_seenE hN hf ⟨fun hx => ?_, fun hx => ?_⟩⟩
    · rw [nI_1]
      exact fX0_reachE_12 hN hf d (k + 1) (sStep w oo a2 N x) (by omega) hK
    · have e : sStep w oo a2 N x = x := hx
      have hK2 := hK (nI k)
      rw [sIt_fix e] at hK2
      exact hK2
theorem sStep_all {w : Nat → Int32} {sec side x : Int32} {N : Nat} (hN : N < 13) (hx : sSub x (sAll N)) : ∀ k, sSub (sIt (sStep w sec side N) k x) (sAll N)
  | 0 => hx
  | k + 1 => by
    rw [sIt_out]
    exact sSub_or.mpr ⟨sStep_all hN hx k, sPre_all w sec side _ hN⟩
theorem reach_eq {w : Nat → Int32} {sec side a : Int32} {N : Nat} (hN : N < 13) (ha : sSub a (sAll N)) : sIt (sStep w sec side N) 12 (a ||| sPre w sec 0 side N) = sLim w sec side N a := by
  have hx : sSub (a ||| sPre w sec 0 side N) (sAll N) := sSub_or.mpr ⟨ha, sPre_all w sec side 0 hN⟩
  rw [← sIt12_inc hN (fun _ => sSub_orl) (sStep_all hN hx)]
  have e : sIt (sStep w sec side N) 32 (a ||| sPre w sec 0 side N) = sLim w sec side N (a ||| sPre w sec 0 side N) := rfl
  rw [e]
  apply sSub.antisymm
  · exact sLim_least w sec side (by omega) (sSub_or.mpr ⟨sLim_ge w sec side (by omega) a, (sPre_mono w sec side (by omega) sSub_0).trans (sLim_pre w sec side a)⟩) (sLim_pre w sec side a)
  · exact sLim_mono w sec side (by omega) sSub_orl
theorem fX0_reachE {N : Nat} {mf w : Nat → Int32} {oo a1 a2 : Int32} {post : Int32 → Prop} (hN : N < 13) (hf : ∀ p, p < N → mf p = w p) (ha : sSub a1 (sAll N)) (h : post (sLim w oo a2 N a1)) : qX0_reaching mf (nI N) oo a1 a2 post := by
  rw [← reach_eq hN ha] at h
  exact fX0_seenE hN hf ⟨13, fX0_reachE_12 (K := fun v _ => post v) hN hf 12 0 (a1 ||| sPre w oo 0 a2 N) rfl (fun _ => h)⟩
/-! again -/
def sG (w : Nat → Int32) (sec side og : Int32) (N : Nat) (x : Int32) : Int32 := sLim w sec side N (og &&& sPre w sec x side N)
theorem fX0_againE_7 {N : Nat} {mf w : Nat → Int32} {oo og a1 : Int32} {K : Int32 → Int32 → Prop} (hN : N < 13) (hf : ∀ p, p < N → mf p = w p) : ∀ (d k : Nat) (x : Int32), k + d = 12 → (∀ c, K (sIt (sG w oo a1 og N) d x) c) → qX0_wonAgain_7 mf (nI N) oo og a1 K (d + 1) x (nI k)
  | 0, k, x, h, hK => by
    have : k = 12 := by omega
    subst this
    exact ⟨fun _ => hK _, fun hc => absurd (nI_le (Nat.le_refl 12) (by omega)) hc⟩
  | d + 1, k, x, h, hK => by
    refine ⟨fun hc => absurd hc (nI_ge (b := 12) (by omega) (by omega)), fun _ => fX0_seenE hN hf (fX0_reachE hN hf (sSub_andr.trans (sPre_all w oo a1 x hN)) ⟨fun hx => ?_, fun hx => ?_⟩)⟩
    · rw [nI_1]
      exact fX0_againE_7 hN hf d (k + 1) (sG w oo a1 og N x) (by omega) hK
    · have e : sG w oo a1 og N x = x := hx
      have hK2 := hK (nI k)
      rw [sIt_fix e] at hK2
      exact hK2
theorem sG_dec {w : Nat → Int32} {sec side og : Int32} {N : Nat} (hN : N < 13) : ∀ k, sSub (sG w sec side og N (sIt (sG w sec side og N) k (sAll N))) (sIt (sG w sec side og N) k (sAll N)) :=
  sIt_decM (fun _ _ h => sLim_mono w sec side (by omega) (sSub_and2 (sPre_mono w sec side (by omega) h))) (sLim_least w sec side (by omega) (sSub_andr.trans (sPre_all w sec side _ hN)) (sPre_all w sec side _ hN))
theorem and_of_sub2 {x y : Int32} (h : sSub y x) : x &&& y = y := sSub.antisymm sSub_andr (sSub_and.mpr ⟨h, sSub.rfl⟩)
theorem sFall_G {w : Nat → Int32} {sec side og : Int32} {N : Nat} (hN : N < 13) : ∀ k, sIt (sFall w sec side og N) k (sAll N) = sIt (sG w sec side og N) k (sAll N)
  | 0 => rfl
  | k + 1 => by
    rw [sIt_out, sIt_out, sFall_G hN k]
    exact and_of_sub2 (sG_dec hN k)
theorem again_eq {w : Nat → Int32} {sec side og : Int32} {N : Nat} (hN : N < 13) : sIt (sG w sec side og N) 12 (sAll N) = sAgain w sec side og N := by
  rw [← sIt12_dec hN (sG_dec hN) sSub.rfl]
  exact (sFall_G hN 32).symm
theorem fX0_againE {N : Nat} {mf w : Nat → Int32} {oo og a1 : Int32} {post : Int32 → Prop} (hN : N < 13) (hf : ∀ p, p < N → mf p = w p) (h : post (sAgain w oo a1 og N)) : qX0_wonAgain mf (nI N) oo og a1 post := by
  rw [← again_eq hN] at h
  exact ⟨13, fX0_againE_7 (K := fun v _ => post v) hN hf 12 0 (sAll N) rfl (fun _ => h)⟩
/-! ranked -/
theorem bt_sRank {rk : Nat → Int32} {r : Int32} : ∀ N, N ≤ 32 → ∀ q, q < 32 → bt (sRank rk r N) q = (decide (q < N) && decide (rk q = r))
  | 0, _, q, _ => by rw [sRank, b_0]; simp
  | p + 1, hp, q, hq => by
    have ih := bt_sRank (rk := rk) (r := r) p (by omega) q hq
    rw [sRank]
    by_cases hr : rk p = r
    · rw [if_pos hr, b_or, ih, bt_bit (by omega) hq]
      by_cases e : q = p
      · subst e; simp [hr]
      · have : decide (q < p + 1) = decide (q < p) := decide_eq_decide.mpr (by omega)
        rw [this]; simp [e]
    · rw [if_neg hr, b_or, ih, b_0]
      by_cases e : q = p
      · subst e; simp [hr]
      · have : decide (q < p + 1) = decide (q < p) := decide_eq_decide.mpr (by omega)
        rw [this]; simp
theorem rank_0 {N : Nat} {k0 k1 y : Int32} {rk : Nat → Int32} (hN : N < 13) (hr : rkR N k0 k1 rk) (hy : sSub y (sAll N)) : k0 &&& y = sRank rk 0 N &&& y := b_ext fun i hi => by
  rw [b_and, b_and, bt_sRank N (by omega) i hi]
  cases hb : bt y i
  · simp
  · have hlt := hy i hi hb
    rw [bt_sAll N hN i hi, decide_eq_true_eq] at hlt
    rw [(hr i hlt).1]
    cases h0 : bt k0 i
    · cases h1 : bt k1 i <;> simp [hlt]
    · simp [hlt]
theorem rank_1 {N : Nat} {k0 k1 y : Int32} {rk : Nat → Int32} (hN : N < 13) (hr : rkR N k0 k1 rk) (hy : sSub y (sAll N)) : k1 &&& y = sRank rk 1 N &&& y := b_ext fun i hi => by
  rw [b_and, b_and, bt_sRank N (by omega) i hi]
  cases hb : bt y i
  · simp
  · have hlt := hy i hi hb
    rw [bt_sAll N hN i hi, decide_eq_true_eq] at hlt
    obtain ⟨h1, h2⟩ := hr i hlt
    rw [h1]
    cases h0 : bt k0 i
    · cases h1 : bt k1 i <;> simp [hlt]
    · cases h1 : bt k1 i
      · simp [hlt]
      · exact absurd ⟨h0, h1⟩ h2
theorem rank_2 {N : Nat} {k0 k1 y : Int32} {rk : Nat → Int32} (hN : N < 13) (hr : rkR N k0 k1 rk) (hy : sSub y (sAll N)) : (sAll N &&& ((k0 ||| k1) ^^^ (-1 : Int32))) &&& y = sRank rk 2 N &&& y := b_ext fun i hi => by
  rw [b_and, b_and, b_and, bt_not _ hi, b_or, bt_sRank N (by omega) i hi]
  cases hb : bt y i
  · simp
  · have hlt := hy i hi hb
    have ha := hlt
    rw [bt_sAll N hN i hi, decide_eq_true_eq] at hlt
    rw [ha, (hr i hlt).1]
    cases h0 : bt k0 i
    · cases h1 : bt k1 i <;> simp [hlt]
    · simp [hlt]
theorem fX0_holdE_25 {N : Nat} {mf w : Nat → Int32} {oo a1 v2 : Int32} {K : Int32 → Int32 → Int32 → Prop} (hN : N < 13) (hf : ∀ p, p < N → mf p = w p) : ∀ (d k : Nat) (x : Int32), k + d = 12 → (∀ c, K v2 (sIt (fun x => a1 ||| (v2 &&& sPre w oo x 0 N)) d x) c) → qX0_holdingRankTwo_25 mf (nI N) oo a1 K (d + 1) v2 x (nI k)
  | 0, k, x, h, hK => by
    have : k = 12 := by omega
    subst this
    exact ⟨fun _ => hK _, fun hc => absurd (nI_le (Nat.le_refl 12) (by omega)) hc⟩
  | d + 1, k, x, h, hK => by
    refine ⟨fun hc => absurd hc (nI_ge (b := 12) (by omega) (by omega)), fun _ => fX0_seenE hN hf ⟨fun hx => ?_, fun hx => ?_⟩⟩
    · rw [nI_1]
      exact fX0_holdE_25 hN hf d (k + 1) (a1 ||| (v2 &&& sPre w oo x 0 N)) (by omega) hK
    · have hK2 := hK (nI k)
      rw [sIt_fix (F := fun x => a1 ||| (v2 &&& sPre w oo x 0 N)) hx] at hK2
      exact hK2
theorem fX0_holdE {N : Nat} {mf w : Nat → Int32} {oo k0 k1 a1 : Int32} {post : Int32 → Prop} (hN : N < 13) (hf : ∀ p, p < N → mf p = w p) (h : post (sIt (fun x => a1 ||| ((sAll N &&& ((k0 ||| k1) ^^^ (-1 : Int32))) &&& sPre w oo x 0 N)) 12 (sAll N))) : qX0_holdingRankTwo mf (nI N) oo k0 k1 a1 post :=
  ⟨13, fX0_holdE_25 (K := fun _ v _ => post v) hN hf 12 0 (sAll N) rfl (fun _ => h)⟩
theorem hold_eq {N : Nat} {w rk : Nat → Int32} {oo k0 k1 o m : Int32} (hN : N < 13) (hr : rkR N k0 k1 rk) : sIt (fun x => ((k0 &&& sPre w oo o 0 N) ||| (k1 &&& sPre w oo m 0 N)) ||| ((sAll N &&& ((k0 ||| k1) ^^^ (-1 : Int32))) &&& sPre w oo x 0 N)) 12 (sAll N) = mG w oo rk N o m := by
  have e : (fun x => ((k0 &&& sPre w oo o 0 N) ||| (k1 &&& sPre w oo m 0 N)) ||| ((sAll N &&& ((k0 ||| k1) ^^^ (-1 : Int32))) &&& sPre w oo x 0 N)) = mF w oo rk N o m := by
    funext x
    rw [rank_0 hN hr (sPre_all w oo 0 o hN), rank_1 hN hr (sPre_all w oo 0 m hN), rank_2 hN hr (sPre_all w oo 0 x hN)]
    rfl
  rw [e, ← sIt12_dec hN (sF3_dec w oo _ _ _ hN o m) sSub.rfl]
  exact mG_eq w oo rk N o m
theorem fX0_rankedE_31 {N : Nat} {mf w rk : Nat → Int32} {oo k0 k1 o : Int32} {K : Int32 → Int32 → Int32 → Prop} (hN : N < 13) (hf : ∀ p, p < N → mf p = w p) (hr : rkR N k0 k1 rk) : ∀ (d k : Nat) (x : Int32), k + d = 12 → (∀ c, K (k0 &&& sPre w oo o 0 N) (sIt (mG w oo rk N o) d x) c) → qX0_wonRankedByZero_31 mf (nI N) oo k0 k1 K (d + 1) (k0 &&& sPre w oo o 0 N) x (nI k)
  | 0, k, x, h, hK => by
    have : k = 12 := by omega
    subst this
    exact ⟨fun _ => hK _, fun hc => absurd (nI_le (Nat.le_refl 12) (by omega)) hc⟩
  | d + 1, k, x, h, hK => by
    refine ⟨fun hc => absurd hc (nI_ge (b := 12) (by omega) (by omega)), fun _ => fX0_seenE hN hf (fX0_holdE hN hf ?_)⟩
    rw [hold_eq hN hr]
    refine ⟨fun hx => ?_, fun hx => ?_⟩
    · rw [nI_1]
      exact fX0_rankedE_31 hN hf hr d (k + 1) (mG w oo rk N o x) (by omega) hK
    · have hK2 := hK (nI k)
      rw [sIt_fix (F := mG w oo rk N o) hx] at hK2
      exact hK2
theorem mid_eq {N : Nat} {w rk : Nat → Int32} {oo o : Int32} (hN : N < 13) : sIt (mG w oo rk N o) 12 0 = mH w oo rk N o := by
  have ha : ∀ k, sSub (sIt (mG w oo rk N o) k 0) (sAll N) := by
    intro k
    cases k with
    | zero => exact sSub_0
    | succ k => rw [sIt_out]; exact sG3_all w oo _ _ _ hN o _
  rw [← sIt12_inc hN (sG3_inc w oo _ _ _ hN o) ha]
  exact mH_eq w oo rk N o
theorem fX0_rankedE_7 {N : Nat} {mf w rk : Nat → Int32} {oo k0 k1 : Int32} {K : Int32 → Int32 → Prop} (hN : N < 13) (hf : ∀ p, p < N → mf p = w p) (hr : rkR N k0 k1 rk) (H : Int32 → Int32) (hH : ∀ x, sIt (mG w oo rk N x) 12 0 = H x) : ∀ (d k : Nat) (x : Int32), k + d = 12 → (∀ c, K (sIt H d x) c) → qX0_wonRankedByZero_7 mf (nI N) oo k0 k1 K (d + 1) x (nI k)
  | 0, k, x, h, hK => by
    have : k = 12 := by omega
    subst this
    exact ⟨fun _ => hK _, fun hc => absurd (nI_le (Nat.le_refl 12) (by omega)) hc⟩
  | d + 1, k, x, h, hK => by
    have key : (¬ H x = x → qX0_wonRankedByZero_7 mf (nI N) oo k0 k1 K (d + 1) (H x) (nI k + 1)) ∧ (H x = x → K x (nI k)) := by
      refine ⟨fun _ => ?_, fun hx => ?_⟩
      · rw [nI_1]
        exact fX0_rankedE_7 hN hf hr H hH d (k + 1) (H x) (by omega) hK
      · have hK2 := hK (nI k)
        rw [sIt_fix hx] at hK2
        exact hK2
    rw [← hH x] at key
    exact ⟨fun hc => absurd hc (nI_ge (b := 12) (by omega) (by omega)), fun _ => fX0_seenE hN hf ⟨13, fX0_rankedE_31 (K := fun _ v _ => (¬ v = x → qX0_wonRankedByZero_7 mf (nI N) oo k0 k1 K (d + 1) v (nI k + 1)) ∧ (v = x → K x (nI k))) hN hf hr 12 0 0 rfl (fun _ => key)⟩⟩
theorem out_eq {N : Nat} {w rk : Nat → Int32} {oo : Int32} (hN : N < 13) : sIt (mH w oo rk N) 12 (sAll N) = mRk w oo rk N := by
  rw [← sIt12_dec hN (sH3_dec w oo _ _ _ hN) sSub.rfl]
  rfl
theorem fX0_rankedE {N : Nat} {mf w rk : Nat → Int32} {oo k0 k1 : Int32} {post : Int32 → Prop} (hN : N < 13) (hf : ∀ p, p < N → mf p = w p) (hr : rkR N k0 k1 rk) (h : post (mRk w oo rk N)) : qX0_wonRankedByZero mf (nI N) oo k0 k1 post := by
  rw [← out_eq hN] at h
  exact ⟨13, fX0_rankedE_7 (K := fun v _ => post v) hN hf hr (mH w oo rk N) (fun x => mid_eq hN) 12 0 (sAll N) rfl (fun _ => h)⟩
theorem fX0_wonE {N : Nat} {mf w rk : Nat → Int32} {oo og k0 k1 a1 a2 : Int32} {post : Int32 → Prop} (hN : N < 13) (hf : ∀ p, p < N → mf p = w p) (hr : rkR N k0 k1 rk) (hg : sSub og (sAll N)) (h : post (mWon w oo og rk N a1 a2)) : qX0_won mf (nI N) oo og k0 k1 a1 a2 post := by
  unfold mWon at h
  refine ⟨fun h0 => ?_, fun h0 => ⟨fun h1 => ?_, fun h1 => ⟨fun h2 => ?_, fun h2 => ⟨fun h3 => ?_, fun h3 => ?_⟩⟩⟩⟩
  · rw [if_pos h0] at h; exact fX0_reachE (post := fun r => post r) hN hf hg h
  · rw [if_neg h0, if_pos h1] at h; exact uX0_all (fX0_reachE (post := fun r => post (sAll N &&& (r ^^^ (-1 : Int32)))) hN hf hg h)
  · rw [if_neg h0, if_neg h1, if_pos h2] at h; exact fX0_againE (post := fun r => post r) hN hf h
  · rw [if_neg h0, if_neg h1, if_neg h2, if_neg h3] at h; exact uX0_all (fX0_rankedE (post := fun r => post (sAll N &&& (r ^^^ (-1 : Int32)))) hN hf hr h)
  · rw [if_neg h0, if_neg h1, if_neg h2, if_pos h3] at h; exact fX0_rankedE (post := fun r => post r) hN hf hr h
