/-! Rounds and falls, exactly. -/
def rdA (F : Int32 → Int32) (p : Nat) : Nat → Nat → Int32 → Int32
  | 0, _, _ => -1
  | d + 1, k, x => if bt x p = true then nI k else rdA F p d (k + 1) (F x)
theorem rdA_more (F : Int32 → Int32) (p : Nat) : ∀ (d j k : Nat) (x : Int32), j < d → bt (sIt F j x) p = true → ∀ e, rdA F p (d + e) k x = rdA F p d k x
  | 0, j, k, x, h, _, e => by omega
  | d + 1, j, k, x, h, hb, e => by
    rw [show d + 1 + e = (d + e) + 1 from by omega, rdA, rdA]
    by_cases hx : bt x p = true
    · rw [if_pos hx, if_pos hx]
    · rw [if_neg hx, if_neg hx]
      match j, h, hb with
      | 0, h, hb => exact absurd hb hx
      | j + 1, h, hb => exact rdA_more F p d j (k + 1) (F x) (by omega) hb e
theorem rdA_none (F : Int32 → Int32) (p : Nat) : ∀ (d k : Nat) (x : Int32), (∀ j, j < d → bt (sIt F j x) p = false) → rdA F p d k x = -1
  | 0, _, _, _ => rfl
  | d + 1, k, x, h => by
    have h0 : bt x p = false := h 0 (by omega)
    rw [rdA, if_neg (by rw [h0]; decide)]
    exact rdA_none F p d (k + 1) (F x) (fun j hj => h (j + 1) (by omega))
/-- the class's rounds -/
theorem fX0_roundsE_13 {N p : Nat} {mf w : Nat → Int32} {oo a2 : Int32} {K : Int32 → Int32 → Prop} {post : Int32 → Prop} (hN : N < 13) (hp : p < 32) (hf : ∀ p, p < N → mf p = w p) : ∀ (d k : Nat) (x : Int32), k + d = 12 → (∀ a b, rdA (sStep w oo a2 N) p d k x = -1 → K a b) → (∀ r, r = rdA (sStep w oo a2 N) p d k x → post r) → (∀ a b, post (-1) → K a b) → qX0_roundsTo_13 mf (nI N) oo a2 (nI p) K post (d + 1) x (nI k)
  | 0, k, x, h, hK, hr, hKp => by
    have : k = 12 := by omega
    subst this
    exact ⟨fun _ => hK _ _ rfl, fun hc => absurd (nI_le (Nat.le_refl 12) (by omega)) hc⟩
  | d + 1, k, x, h, hK, hr, hKp => by
    rw [rdA] at hr
    refine ⟨fun hc => absurd hc (nI_ge (b := 12) (by omega) (by omega)), fun _ => fX1_has hp (fun hb => ⟨fun _ => fX0_seenE hN hf ?_, fun e => absurd rfl e⟩) (fun hb => ⟨fun e => absurd e (by decide), fun _ => hr _ (by rw [if_pos hb])⟩)⟩
    rw [if_neg (by rw [hb]; decide)] at hr
    rw [nI_1]
    refine fX0_roundsE_13 hN hp hf d (k + 1) (sStep w oo a2 N x) (by omega) (fun a b e => hKp a b (hr _ e.symm)) hr hKp
theorem fX0_roundsE {N p : Nat} {mf w : Nat → Int32} {oo a1 a2 : Int32} {post : Int32 → Prop} (hN : N < 13) (hp : p < 32) (hf : ∀ p, p < N → mf p = w p) (h : post (rdA (sStep w oo a2 N) p 12 0 (a1 ||| sPre w oo 0 a2 N))) : qX0_roundsTo mf (nI N) oo a1 a2 (nI p) post :=
  fX0_seenE hN hf ⟨13, fX0_roundsE_13 (K := fun _ _ => post (-1)) hN hp hf 12 0 (a1 ||| sPre w oo 0 a2 N) rfl (fun _ _ e => by rw [e] at h; exact h) (fun r e => by rw [e]; exact h) (fun _ _ h => h)⟩
/-- the reference's rounds -/
theorem sStk_eq {w : Nat → Int32} {sec side x : Int32} : ∀ N, N ≤ 32 → sStk w sec side x N = x ||| sPre w sec 0 side N
  | 0, _ => (or0 x).symm
  | p + 1, h => by
    have ih := sStk_eq (w := w) (sec := sec) (side := side) (x := x) p (by omega)
    have z : ∀ y : Int32, y &&& 0 = 0 := fun y => b_ext fun i _ => by rw [b_and, b_0]; simp
    have o : ∀ y : Int32, y &&& ((0 : Int32) ^^^ (-1)) = y := fun y => b_ext fun i hi => by rw [b_and, bt_not _ hi, b_0]; simp
    rw [sStk, sPre]
    unfold sCond
    cases ho : sOwn sec side p
    · simp only [Bool.false_eq_true, if_false, o, decide_eq_true_eq]
      by_cases hw : w p = 0
      · rw [if_pos hw, if_pos hw, ih, Int32.or_assoc]; rfl
      · rw [if_neg hw, if_neg hw, ih]
    · simp only [if_true, z, not_true_eq_false, decide_false, Bool.false_eq_true, if_false]
      exact ih
theorem rnd_orb {w : Nat → Int32} {sec side A : Int32} {N : Nat} (hN : N < 13) (hA : sSub (sPre w sec A side N) A) : ∀ (k : Nat) (x : Int32), sSub x A → sIt (sRnd w sec side N A) k x = sIt (sStep w sec side N) k x ∧ sSub (sIt (sStep w sec side N) k x) A
  | 0, x, hx => ⟨rfl, hx⟩
  | k + 1, x, hx => by
    have hp : sSub (sPre w sec x side N) A := (sPre_mono w sec side (by omega) hx).trans hA
    have e : sRnd w sec side N A x = sStep w sec side N x := by
      show x ||| (sPre w sec x side N &&& A) = x ||| sPre w sec x side N
      rw [and_of_sub hp]
    have := rnd_orb hN hA k (sStep w sec side N x) (sSub_or.mpr ⟨hx, hp⟩)
    rw [sIt, sIt, e]
    exact this
theorem rdA_orb {w : Nat → Int32} {sec side A : Int32} {N p : Nat} (hN : N < 13) (hA : sSub (sPre w sec A side N) A) : ∀ (d k : Nat) (x : Int32), sSub x A → rdA (sRnd w sec side N A) p d k x = rdA (sStep w sec side N) p d k x
  | 0, _, _, _ => rfl
  | d + 1, k, x, hx => by
    have hp : sSub (sPre w sec x side N) A := (sPre_mono w sec side (by omega) hx).trans hA
    have e : sRnd w sec side N A x = sStep w sec side N x := by
      show x ||| (sPre w sec x side N &&& A) = x ||| sPre w sec x side N
      rw [and_of_sub hp]
    rw [rdA, rdA, e, rdA_orb hN hA d (k + 1) (sStep w sec side N x) (sSub_or.mpr ⟨hx, hp⟩)]
theorem fX3_roundsE_68 {N p : Nat} {w : Nat → Int32} {oo a1 a2 : Int32} {K : Int32 → Int32 → Prop} (hN : N < 13) (hp : p < 32) : ∀ (d k : Nat) (x : Int32), bt (sIt (sRnd w oo a2 N a1) d x) p = true → (∀ a, K a (rdA (sRnd w oo a2 N a1) p (d + 1) k x)) → qX3_roundsTo_68 (nI N) oo N w a1 a2 (nI p) K (d + 1) x (nI k)
  | d, k, x, h, hK => by
    rw [rdA] at hK
    refine fX3_isIn hp (fun h0 => ⟨fun hc => absurd rfl hc, fun _ => fX3_aheadOf hN ?_⟩) (fun h1 => ⟨fun _ => by rw [if_pos h1] at hK; exact hK _, fun hc => absurd hc (by decide)⟩)
    rw [if_neg (by rw [h0]; decide)] at hK
    rw [nI_1]
    match d, h, hK with
    | 0, h, hK => rw [show sIt (sRnd w oo a2 N a1) 0 x = x from rfl, h0] at h; cases h
    | d + 1, h, hK => exact fX3_roundsE_68 hN hp d (k + 1) (sRnd w oo a2 N a1 x) h hK
/-- one round fewer than all is enough: something is there at the start, or never -/
theorem step_11 {w : Nat → Int32} {sec side x : Int32} {N : Nat} (hN : N < 13) (hx : sSub x (sAll N)) (h0 : sSub (sPre w sec 0 side N) x) : sIt (sStep w sec side N) 32 x = sIt (sStep w sec side N) 11 x := by
  have ha := sStep_all (w := w) (sec := sec) (side := side) hN hx
  have key : ∀ k, sStep w sec side N (sIt (sStep w sec side N) k x) = sIt (sStep w sec side N) k x ∨ k + 1 ≤ sCnt (sIt (sStep w sec side N) k x) := by
    intro k
    induction k with
    | zero =>
      by_cases e : x = 0
      · left
        subst e
        exact or_eq_left.mpr h0
      · right
        have := sCnt_lt (x := 0) (y := x) sSub_0 (fun e2 => e e2.symm)
        have e2 : sIt (sStep w sec side N) 0 x = x := rfl
        rw [e2]; omega
    | succ k ih =>
      rcases ih with ih | ih
      · left; rw [sIt_out, ih, ih]
      · by_cases h : sStep w sec side N (sIt (sStep w sec side N) k x) = sIt (sStep w sec side N) k x
        · left; rw [sIt_out, h, h]
        · right
          have := sCnt_lt (x := sIt (sStep w sec side N) k x) (y := sStep w sec side N (sIt (sStep w sec side N) k x)) sSub_orl (fun e => h e.symm)
          rw [sIt_out]; omega
  have fx : sStep w sec side N (sIt (sStep w sec side N) 11 x) = sIt (sStep w sec side N) 11 x := by
    rcases key 11 with h | h
    · exact h
    · apply Classical.byContradiction
      intro hn
      have h1 := sCnt_lt (x := sIt (sStep w sec side N) 11 x) (y := sStep w sec side N (sIt (sStep w sec side N) 11 x)) sSub_orl (fun e => hn e.symm)
      have h2 := sCnt_N hN (ha (11 + 1))
      rw [sIt_out] at h2
      omega
  have e := sIt_add (sStep w sec side N) 11 21 x
  rw [sIt_fix fx] at e
  exact e
/-- both alike: the set that is won is closed, and what starts reaches it -/
theorem fX3_roundsE {N p : Nat} {w : Nat → Int32} {oo og A a2 : Int32} {post : Int32 → Prop} (hN : N < 13) (hp : p < 32) (hA : sSub (sPre w oo A a2 N) A) (hAN : sSub A (sAll N)) (hR : sSub A (sIt (sStep w oo a2 N) 32 ((og &&& A) ||| sPre w oo 0 a2 N))) (h : post (rdA (sStep w oo a2 N) p 12 0 ((og &&& A) ||| sPre w oo 0 a2 N))) : qX3_roundsTo (nI N) oo og N w A a2 (nI p) post := by
  have hx : sSub ((og &&& A) ||| sPre w oo 0 a2 N) A := sSub_or.mpr ⟨sSub_andr, (sPre_mono w oo a2 (by omega) sSub_0).trans hA⟩
  have orb := fun k => rnd_orb hN hA k _ hx
  refine fX3_isIn hp (fun h0 => ⟨fun hc => absurd rfl hc, fun _ => ?_⟩) (fun h1 => ⟨fun _ => ?_, fun hc => absurd hc (by decide)⟩)
  · rw [rdA_none] at h
    · exact h
    · intro j _
      cases hb : bt (sIt (sStep w oo a2 N) j ((og &&& A) ||| sPre w oo 0 a2 N)) p
      · rfl
      · have := (orb j).2 p hp hb
        rw [h0] at this; cases this
  · have h11 : bt (sIt (sStep w oo a2 N) 11 ((og &&& A) ||| sPre w oo 0 a2 N)) p = true := by
      rw [← step_11 hN (hx.trans hAN) sSub_orr]; exact hR p hp h1
    rw [← rdA_more (sStep w oo a2 N) p 12 11 0 _ (by omega) h11 21, ← rdA_orb hN hA _ _ _ hx] at h
    have e := sStk_eq (w := w) (sec := oo) (side := a2) (x := og &&& A) N (by omega)
    have hb : bt (sIt (sRnd w oo a2 N A) 32 (sStk w oo a2 (og &&& A) N)) p = true := by
      rw [e, (orb 32).1]; exact hR p hp h1
    have h21 := fX3_roundsTo_21 (w := w) (oo := oo) (a2 := a2) (x := og &&& A) (K := fun v4 _ => ∃ n, qX3_roundsTo_68 (nI N) oo N w A a2 (nI p) (fun _ x => post x) n v4 0) hN
      ⟨33, fX3_roundsE_68 hN hp 32 0 _ hb (fun _ => by rw [e]; exact h)⟩ N 0 (by omega)
    exact ⟨N + 1, h21⟩
theorem pre_lim {w : Nat → Int32} {sec side x : Int32} {N : Nat} : sSub (sPre w sec (sLim w sec side N x) side N) (sLim w sec side N x) := sLim_pre w sec side x
theorem lim_all {w : Nat → Int32} {sec side x : Int32} {N : Nat} (hN : N < 13) (hx : sSub x (sAll N)) : sSub (sLim w sec side N x) (sAll N) := sLim_least w sec side (by omega) hx (sPre_all w sec side _ hN)
theorem fX3_roundsCE {N p : Nat} {w : Nat → Int32} {oo og a2 : Int32} {post : Int32 → Prop} (hN : N < 13) (hp : p < 32) (hg : sSub og (sAll N)) (h : post (rdA (sStep w oo a2 N) p 12 0 (og ||| sPre w oo 0 a2 N))) : qX3_roundsTo (nI N) oo og N w (sLim w oo a2 N og) a2 (nI p) post := by
  have e : og &&& sLim w oo a2 N og = og := and_of_sub (sLim_ge w oo a2 (by omega) og)
  refine fX3_roundsE hN hp pre_lim (lim_all hN hg) ?_ (by rw [e]; exact h)
  rw [e]
  exact sLim_mono w oo a2 (by omega) sSub_orl
theorem again_all {w : Nat → Int32} {sec side og : Int32} {N : Nat} (hN : N < 13) : sSub (sAgain w sec side og N) (sAll N) := by
  rw [sAgain_eq w sec side og hN]
  exact lim_all hN (sSub_andr.trans (sPre_all w sec side _ hN))
theorem again_pre {w : Nat → Int32} {sec side og : Int32} {N : Nat} (hN : N < 13) : sSub (sPre w sec (sAgain w sec side og N) side N) (sAgain w sec side og N) := by
  have := pre_lim (w := w) (sec := sec) (side := side) (N := N) (x := og &&& sPre w sec (sAgain w sec side og N) side N)
  rw [← sAgain_eq w sec side og hN] at this
  exact this
theorem fX3_roundsAE {N p : Nat} {w : Nat → Int32} {oo og a2 : Int32} {post : Int32 → Prop} (hN : N < 13) (hp : p < 32) (h : post (rdA (sStep w oo a2 N) p 12 0 ((og &&& sAgain w oo a2 og N) ||| sPre w oo 0 a2 N))) : qX3_roundsTo (nI N) oo og N w (sAgain w oo a2 og N) a2 (nI p) post := by
  refine fX3_roundsE hN hp (again_pre hN) (again_all hN) ?_ h
  have h1 : sSub (og &&& sPre w oo (sAgain w oo a2 og N) a2 N) ((og &&& sAgain w oo a2 og N) ||| sPre w oo 0 a2 N) := (sSub_and2 (again_pre hN)).trans sSub_orl
  have h2 := sLim_mono w oo a2 (N := N) (by omega) h1
  rw [← sAgain_eq w oo a2 og hN] at h2
  exact h2
/-! falls -/
def flA (F : Int32 → Int32) : Nat → Nat → Int32 → Nat
  | 0, k, _ => k
  | d + 1, k, x => if F x = x then k else flA F d (k + 1) (F x)
theorem flA_fix {F : Int32 → Int32} {x : Int32} (h : F x = x) : ∀ d k, flA F d k x = k
  | 0, _ => rfl
  | d + 1, k => by rw [flA, if_pos h]
theorem flA_more (F : Int32 → Int32) : ∀ (d k : Nat) (x : Int32), F (sIt F d x) = sIt F d x → ∀ e, flA F (d + e) k x = flA F d k x
  | 0, k, x, h, e => flA_fix h _ _
  | d + 1, k, x, h, e => by
    rw [show d + 1 + e = (d + e) + 1 from by omega, flA, flA]
    by_cases hx : F x = x
    · rw [if_pos hx, if_pos hx]
    · rw [if_neg hx, if_neg hx]
      exact flA_more F d (k + 1) (F x) h e
theorem fX1_fallsE_17 {N : Nat} {mf w : Nat → Int32} {ms mg a1 : Int32} {K : Int32 → Int32 → Int32 → Prop} (hN : N < 13) (hf : ∀ p, p < N → mf p = w p) : ∀ (d k : Nat) (x : Int32) (v : Nat), k + d = 12 → (∀ a b, K a (nI (flA (sG w ms a1 mg N) d v x)) b) → qX1_falls_T17 mf (nI N) ms mg a1 K (d + 1) x (nI v) (nI k)
  | 0, k, x, v, h, hK => by
    have : k = 12 := by omega
    subst this
    exact ⟨fun _ => hK _ _, fun hc => absurd (nI_le (Nat.le_refl 12) (by omega)) hc⟩
  | d + 1, k, x, v, h, hK => by
    rw [flA] at hK
    refine ⟨fun hc => absurd hc (nI_ge (b := 12) (by omega) (by omega)), fun _ => fX0_seenE hN hf (fX0_reachE hN hf (sSub_andr.trans (sPre_all w ms a1 x hN)) ⟨fun hx => ?_, fun hx => ?_⟩)⟩
    · have hx : ¬ sG w ms a1 mg N x = x := hx
      rw [if_neg hx] at hK
      rw [nI_1, nI_1]
      exact fX1_fallsE_17 hN hf d (k + 1) (sG w ms a1 mg N x) (v + 1) (by omega) hK
    · have hx : sG w ms a1 mg N x = x := hx
      rw [if_pos hx] at hK
      exact hK _ _
theorem aN_falls {N : Nat} {mf : Nat → Int32} {ms mg a1 : Int32} {zn : Int64} {post : Int32 → Int64 → Prop} (c : ¬ kSd a1) (h : post 1 zn) : qL_falls mf (nI N) ms mg zn a1 post :=
  uL_falls (uX1_fallsT (fCkS (fun _ => ⟨rfl, h⟩) (fun k => absurd k c)))
theorem aE_falls {N : Nat} {mf w : Nat → Int32} {ms mg a1 : Int32} {zn : Int64} {post : Int32 → Int64 → Prop} (hN : N < 13) (c : kSd a1) (hf : ∀ p, p < N → mf p = w p) (h : post 0 (nI (flA (sG w ms a1 mg N) 12 0 (sAll N))).toInt64) : qL_falls mf (nI N) ms mg zn a1 post := by
  refine uL_falls (uX1_fallsT (fCkS (fun k => absurd c k) (fun _ => uX0_all ⟨13, ?_⟩)))
  have := fX1_fallsE_17 (K := fun _ v _ => post 0 v.toInt64) hN hf 12 0 (sAll N) 0 rfl (fun _ _ => h)
  exact this
theorem fX3_fallsE_7 {N : Nat} {w : Nat → Int32} {oo og a1 : Int32} {K : Int32 → Int32 → Prop} (hN : N < 13) : ∀ (d : Nat) (x : Int32) (v : Nat), sFall w oo a1 og N (sIt (sFall w oo a1 og N) d x) = sIt (sFall w oo a1 og N) d x → (∀ b, K (nI (flA (sFall w oo a1 og N) d v x)) b) → qX3_fallsOf_7 (nI N) oo og N w a1 K (d + 1) (nI v) x
  | d, x, v, h, hK => by
    refine fX3_fallen hN ⟨fun hx => ?_, fun hx => fX3_fallen hN ?_⟩
    · rw [flA_fix hx] at hK; exact hK _
    · match d, h, hK with
      | 0, h, hK => exact absurd h hx
      | d + 1, h, hK =>
        rw [flA, if_neg hx] at hK
        rw [nI_1]
        exact fX3_fallsE_7 hN d (sFall w oo a1 og N x) (v + 1) h hK
theorem flA_G {w : Nat → Int32} {sec side og : Int32} {N : Nat} (hN : N < 13) : ∀ (d k j : Nat), flA (sFall w sec side og N) d k (sIt (sG w sec side og N) j (sAll N)) = flA (sG w sec side og N) d k (sIt (sG w sec side og N) j (sAll N))
  | 0, _, _ => rfl
  | d + 1, k, j => by
    have e : sFall w sec side og N (sIt (sG w sec side og N) j (sAll N)) = sG w sec side og N (sIt (sG w sec side og N) j (sAll N)) := and_of_sub2 (sG_dec hN j)
    have ih := flA_G (w := w) (sec := sec) (side := side) (og := og) hN d (k + 1) (j + 1)
    rw [sIt_out] at ih
    rw [flA, flA, e, ih]
theorem falls_fix {w : Nat → Int32} {sec side og : Int32} {N : Nat} (hN : N < 13) : sG w sec side og N (sIt (sG w sec side og N) 12 (sAll N)) = sIt (sG w sec side og N) 12 (sAll N) := by
  rw [← sIt12_dec hN (sG_dec hN) sSub.rfl]
  exact sIt_dec (sG_dec hN)
theorem fX3_fallsE {N : Nat} {w : Nat → Int32} {oo og a1 : Int32} {post : Int32 → Prop} (hN : N < 13) (h : post (nI (flA (sG w oo a1 og N) 12 0 (sAll N)))) : qX3_fallsOf (nI N) oo og N w a1 post := by
  rw [← flA_more (sG w oo a1 og N) 12 0 (sAll N) (falls_fix hN) 20] at h
  have e := flA_G (w := w) (sec := oo) (side := a1) (og := og) hN 32 0 0
  have e0 : sIt (sG w oo a1 og N) 0 (sAll N) = sAll N := rfl
  rw [e0] at e
  have h2 : post (nI (flA (sFall w oo a1 og N) 32 0 (sAll N))) := by rw [e]; exact h
  have := fX3_fallsE_7 (K := fun v _ => post v) hN 32 (sAll N) 0 (sFall_fix w oo a1 og N) (fun _ => h2)
  exact ⟨33, this⟩
