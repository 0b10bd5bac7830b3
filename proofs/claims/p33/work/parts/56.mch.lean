/-! The reference's rounds and choices: that they come to an end. -/
theorem fX3_isIn {x : Int32} {p : Nat} (hp : p < 32) {post : Int32 → Prop} (h0 : bt x p = false → post 0) (h1 : bt x p = true → post 1) : qX3_isIn x (nI p) post := by
  refine ⟨fun h => ?_, fun h => h1 ((has_1 x hp).mp h)⟩
  apply h0
  cases hb : bt x p
  · rfl
  · exact absurd ((has_1 x hp).mpr hb) h
theorem fX3_isIn_any {x y : Int32} {post : Int32 → Prop} (h : ∀ r, post r) : qX3_isIn x y post := ⟨fun _ => h _, fun _ => h _⟩
theorem fX1_has {x : Int32} {p : Nat} (hp : p < 32) {post : Int32 → Prop} (h0 : bt x p = false → post 0) (h1 : bt x p = true → post 1) : qX1_has x (nI p) post := by
  refine ⟨fun h => h0 ((has_0 x hp).mp h), fun h => ?_⟩
  apply h1
  cases hb : bt x p
  · exact absurd ((has_0 x hp).mpr hb) h
  · rfl
/-- a set that a side brings about from a part of the goal -/
def sReach (w : Nat → Int32) (sec side : Int32) (N : Nat) (og a : Int32) : Prop := ∃ X, sSub X og ∧ a = sLim w sec side N X
theorem sReach_coming (w : Nat → Int32) (sec side : Int32) (N : Nat) (og : Int32) : sReach w sec side N og (sLim w sec side N og) := ⟨og, sSub.rfl, rfl⟩
theorem sAgain_eq (w : Nat → Int32) (sec side og : Int32) {N : Nat} (hN : N < 13) : sAgain w sec side og N = sLim w sec side N (og &&& sPre w sec (sAgain w sec side og N) side N) := by
  have key : ∀ k, sSub (sLim w sec side N (og &&& sPre w sec (sIt (sFall w sec side og N) k (sAll N)) side N)) (sIt (sFall w sec side og N) k (sAll N)) := by
    intro k
    induction k with
    | zero => exact sLim_least w sec side (by omega) (sSub_andr.trans (sPre_all w sec side _ hN)) (sPre_all w sec side _ hN)
    | succ k ih =>
      rw [sIt_out]
      have hm : sSub (sLim w sec side N (og &&& sPre w sec (sFall w sec side og N (sIt (sFall w sec side og N) k (sAll N))) side N)) (sLim w sec side N (og &&& sPre w sec (sIt (sFall w sec side og N) k (sAll N)) side N)) :=
        sLim_mono w sec side (by omega) (sSub_and2 (sPre_mono w sec side (by omega) sSub_andl))
      exact sSub_and.mpr ⟨hm.trans ih, hm⟩
  refine sSub.antisymm ?_ (key 32)
  have e := sFall_fix w sec side og N
  have h : sSub (sFall w sec side og N (sAgain w sec side og N)) (sLim w sec side N (og &&& sPre w sec (sAgain w sec side og N) side N)) := sSub_andr
  rw [e] at h
  exact h
theorem sReach_again (w : Nat → Int32) (sec side og : Int32) {N : Nat} (hN : N < 13) : sReach w sec side N og (sAgain w sec side og N) := ⟨_, sSub_andl, sAgain_eq w sec side og hN⟩
/-- the places of the other side with no way, put to a set -/
def sStk (w : Nat → Int32) (sec side x : Int32) : Nat → Int32
  | 0 => x
  | p + 1 => if sOwn sec side p then sStk w sec side x p else if w p = 0 then sStk w sec side x p ||| ((1 : Int32) <<< (nI p &&& (31 : Int32))) else sStk w sec side x p
theorem sStk_ge (w : Nat → Int32) (sec side x : Int32) : ∀ N, sSub x (sStk w sec side x N)
  | 0 => sSub.rfl
  | p + 1 => by
    have ih := sStk_ge w sec side x p
    rw [sStk]
    by_cases h : sOwn sec side p = true
    · rw [if_pos h]; exact ih
    · rw [if_neg h]
      by_cases h2 : w p = 0
      · rw [if_pos h2]; exact ih.trans sSub_orl
      · rw [if_neg h2]; exact ih
theorem fX3_roundsTo_21 {N : Nat} {w : Nat → Int32} {oo a2 x : Int32} {K : Int32 → Int32 → Prop} (hN : N < 13) (hK : K (sStk w oo a2 x N) (nI N)) : ∀ (d p : Nat), p + d = N → qX3_roundsTo_21 (nI N) oo N w a2 K (d + 1) (sStk w oo a2 x p) (nI p)
  | 0, p, h => by
    have : p = N := by omega
    subst this
    exact ⟨fun _ => hK, fun hc => absurd (nI_le (Nat.le_refl p) (by omega)) hc⟩
  | d + 1, p, h => by
    have ih := fX3_roundsTo_21 hN hK d (p + 1) (by omega)
    refine ⟨fun hc => absurd hc (nI_ge (by omega) (by omega)), fun _ => ?_⟩
    refine ⟨fun hs => ?_, fun hs => ⟨vp_in_nI (by omega) (by omega), fun hc => ?_, fun hc => ?_⟩⟩
    · have ho : sOwn oo a2 p = true := decide_eq_true hs
      rw [nI_1]; rw [sStk, if_pos ho] at ih; exact ih
    · have ho : ¬ sOwn oo a2 p = true := fun k => hs (of_decide_eq_true k)
      rw [nI_clamp (by omega)] at hc
      rw [nI_1]; rw [sStk, if_neg ho, if_neg hc] at ih; exact ih
    · have ho : ¬ sOwn oo a2 p = true := fun k => hs (of_decide_eq_true k)
      rw [nI_clamp (by omega)] at hc
      rw [nI_1]; rw [sStk, if_neg ho, if_pos hc] at ih; exact ih
/-- a round, within a set -/
def sRnd (w : Nat → Int32) (sec side : Int32) (N : Nat) (a x : Int32) : Int32 := x ||| (sPre w sec x side N &&& a)
theorem sReach_all {w : Nat → Int32} {sec side og a : Int32} {N : Nat} (hN : N < 13) (h : sReach w sec side N og a) : sSub a (sIt (sRnd w sec side N a) 32 (sStk w sec side (og &&& a) N)) := by
  obtain ⟨X, hX, ha⟩ := h
  have key : ∀ k, sSub (sIt (sStep w sec side N) k X) (sIt (sRnd w sec side N a) k (sStk w sec side (og &&& a) N)) := by
    intro k
    induction k with
    | zero => exact (sSub_and.mpr ⟨hX, by rw [ha]; exact sLim_ge w sec side (by omega) X⟩).trans (sStk_ge w sec side (og &&& a) N)
    | succ k ih =>
      rw [sIt_out, sIt_out]
      refine sSub_or.mpr ⟨ih.trans sSub_orl, (sSub_and.mpr ⟨sPre_mono w sec side (by omega) ih, ?_⟩).trans sSub_orr⟩
      have h1 : sSub (sIt (sStep w sec side N) k X) a := by
        rw [ha]
        exact sIt_le (sStep_mono w sec side (by omega)) (sLim_ge w sec side (by omega) X) (by rw [sLim_fix]; exact sSub.rfl) k
      have h2 : sSub (sPre w sec a side N) a := by
        rw [ha]; exact sLim_pre w sec side X
      exact (sPre_mono w sec side (by omega) h1).trans h2
  have := key 32
  have e : sIt (sStep w sec side N) 32 X = a := ha.symm
  rw [e] at this
  exact this
theorem fX3_roundsTo_68 {N p : Nat} {w : Nat → Int32} {oo a1 a2 : Int32} {K : Int32 → Int32 → Prop} (hN : N < 13) (hp : p < 32) (hK : ∀ a b, K a b) : ∀ (k : Nat) (x v : Int32), bt (sIt (sRnd w oo a2 N a1) k x) p = true → qX3_roundsTo_68 (nI N) oo N w a1 a2 (nI p) K (k + 1) x v
  | k, x, v, h => by
    refine fX3_isIn hp (fun h0 => ⟨fun hc => absurd rfl hc, fun _ => ?_⟩) (fun h1 => ⟨fun _ => hK _ _, fun hc => absurd hc (by decide)⟩)
    refine fX3_aheadOf hN ?_
    match k, h with
    | 0, h => rw [show sIt (sRnd w oo a2 N a1) 0 x = x from rfl, h0] at h; cases h
    | k + 1, h => exact fX3_roundsTo_68 hN hp hK k _ _ h
theorem fX3_roundsTo_any {N p : Nat} {w : Nat → Int32} {oo og a1 a2 : Int32} {post : Int32 → Prop} (hN : N < 13) (hp : p < 32) (hR : sReach w oo a2 N og a1) (h : ∀ r, post r) : qX3_roundsTo (nI N) oo og N w a1 a2 (nI p) post := by
  refine fX3_isIn hp (fun h0 => ⟨fun hc => absurd rfl hc, fun _ => h _⟩) (fun h1 => ⟨fun _ => ?_, fun hc => absurd hc (by decide)⟩)
  have h21 := fX3_roundsTo_21 (w := w) (oo := oo) (a2 := a2) (x := og &&& a1) (K := fun v4 _ => ∃ n, qX3_roundsTo_68 (nI N) oo N w a1 a2 (nI p) (fun _ x => post x) n v4 0) hN
    ⟨33, fX3_roundsTo_68 hN hp (fun _ _ => h _) 32 _ _ (sReach_all hN hR p hp h1)⟩ N 0 (by omega)
  exact ⟨N + 1, h21⟩
theorem fX3_choiceOf_76 {N p : Nat} {w : Nat → Int32} {oo og a2 r3 s0 : Int32} {K : Int32 → Prop} {post : Int32 → Prop} (hN : N < 13) (hp : p < N) (hR : s0 = 0 → sReach w oo a2 N og r3) (hK : ∀ r, K r) (h : ∀ q, q < N → post (nI q)) : ∀ (d q : Nat), q + d = N → qX3_choiceOf_76 (nI N) oo og N w a2 (nI p) r3 s0 K post (d + 1) (nI q)
  | 0, q, hq => by
    have : q = N := by omega
    subst this
    exact ⟨fun _ => hK _, fun hc => absurd (nI_le (Nat.le_refl q) (by omega)) hc⟩
  | d + 1, q, hq => by
    have ih := fX3_choiceOf_76 hN hp hR hK h d (q + 1) (by omega)
    rw [← nI_1] at ih
    refine ⟨fun hc => absurd hc (nI_ge (by omega) (by omega)), fun _ => ⟨vp_in_nI hp (by omega), ?_⟩⟩
    refine fX3_isIn (by omega) (fun _ => ⟨fun _ => ih, fun hc => absurd rfl hc⟩) (fun _ => ⟨fun hc => absurd hc (by decide), fun _ => ?_⟩)
    refine fX3_isIn (by omega) (fun _ => ⟨fun hc => absurd rfl hc, fun _ => ih⟩) (fun _ => ⟨fun _ => ?_, fun hc => absurd hc (by decide)⟩)
    refine ⟨fun _ => h q (by omega), fun hs => ?_⟩
    exact fX3_roundsTo_any hN (by omega) (hR hs) (fun r => fX3_roundsTo_any hN (by omega) (hR hs) (fun r2 => ⟨fun _ => ih, fun _ => h q (by omega)⟩))
theorem fX3_choiceOf_j71 {N p : Nat} {w : Nat → Int32} {oo og a2 r3 s0 : Int32} {post : Int32 → Prop} (hN : N < 13) (hp : p < N) (hR : s0 = 0 → sReach w oo a2 N og r3) (hm : post (-1)) (h : ∀ q, q < N → post (nI q)) : qX3_choiceOf_j71 (nI N) oo og N w a2 (nI p) r3 s0 post :=
  ⟨N + 1, fX3_choiceOf_76 hN hp hR (fun _ => hm) h N 0 (by omega)⟩
/-- the told choice is none, or a place of the map -/
theorem fX3_choiceOf_any {N p : Nat} {w rk : Nat → Int32} {oo og a1 a2 : Int32} {post : Int32 → Prop} (hN : N < 13) (hp : p < N) (ha : a1 = 0 ∨ a1 = 1 ∨ a1 = 2) (hm : post (-1)) (h : ∀ q, q < N → post (nI q)) : qX3_choiceOf (nI N) oo og N rk N w a1 a2 (nI p) post := by
  have hR : ¬ a1 = 1 → sReach w oo a2 N og (mWon w oo og rk N a1 a2) := by
    intro h1
    unfold mWon
    rcases ha with rfl | rfl | rfl
    · rw [if_pos rfl]; exact sReach_coming w oo a2 N og
    · exact absurd rfl h1
    · rw [if_neg (by decide), if_neg (by decide), if_pos rfl]; exact sReach_again w oo a2 og hN
  have j70 : ¬ a1 = 1 → qX3_choiceOf_j70 (nI N) oo og N w a2 (nI p) (mWon w oo og rk N a1 a2) post := fun h1 => fX3_choiceOf_j71 hN hp (fun _ => hR h1) hm h
  have j66 : qX3_choiceOf_j66 (nI N) oo og N w a2 (nI p) (mWon w oo og rk N a1 a2) post := fX3_choiceOf_j71 hN hp (fun hc => absurd hc (by decide)) hm h
  have j45 : qX3_choiceOf_j45 (nI N) oo og N w a1 a2 (nI p) (mWon w oo og rk N a1 a2) post :=
    ⟨fun _ => j66, fun h1 => ⟨fun _ => j70 h1, fun h2 => ⟨fun _ => ⟨fun _ => j70 h1, fun _ => j66⟩, fun _ => ⟨fun _ => j70 h1, fun _ => j66⟩⟩⟩⟩
  refine fX3_wonIn hN ?_
  refine ⟨fun _ => hm, fun _ => fX3_isIn_any (fun r => ⟨fun _ => ⟨fun _ => j45, fun _ => fX3_isIn_any (fun r2 => ⟨fun _ => j45, fun _ => hm⟩)⟩, fun _ => hm⟩)⟩
