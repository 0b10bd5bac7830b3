/-! The reference's choice is the one that the class tells. -/
def chF (w : Nat → Int32) (oo A side s0 x0 : Int32) (N p q : Nat) : Bool := bt (w p) q && (bt A q && (decide (¬ s0 = 0) || decide (rdA (sStep w oo side N) q 12 0 x0 = rdA (sStep w oo side N) p 12 0 x0 - 1)))
theorem fX3_choiceE_76 {N p : Nat} {w : Nat → Int32} {oo og A side s0 : Int32} {K : Int32 → Prop} {post : Int32 → Prop} (hN : N < 13) (hp : p < N) (hA : s0 = 0 → sSub (sPre w oo A side N) A ∧ sSub A (sAll N) ∧ sSub A (sIt (sStep w oo side N) 32 ((og &&& A) ||| sPre w oo 0 side N))) (hk : post (-1) → ∀ a, K a) : ∀ (d q : Nat), q + d = N → (∀ r, r = lsF (chF w oo A side s0 ((og &&& A) ||| sPre w oo 0 side N) N p) d q → post r) → qX3_choiceOf_76 (nI N) oo og N w side (nI p) A s0 K post (d + 1) (nI q)
  | 0, q, h, hr => by
    have : q = N := by omega
    subst this
    exact ⟨fun _ => hk (hr _ rfl) _, fun hc => absurd (nI_le (Nat.le_refl _) (by omega)) hc⟩
  | d + 1, q, h, hr => by
    have ih := fX3_choiceE_76 (post := post) hN hp hA hk d (q + 1) (by omega)
    rw [← nI_1] at ih
    rw [lsF] at hr
    refine ⟨fun hc => absurd hc (nI_ge (by omega) (by omega)), fun _ => ⟨vp_in_nI hp (by omega), ?_⟩⟩
    rw [nI_clamp (by omega)]
    refine fX3_isIn (by omega) (fun hb => ⟨fun _ => ih ?_, fun e => absurd rfl e⟩) (fun hb => ⟨fun e => absurd e (by decide), fun _ => fX3_isIn (by omega) (fun hc => ⟨fun e => absurd rfl e, fun _ => ih ?_⟩) (fun hc => ⟨fun _ => ⟨fun hs => hr _ ?_, fun hs => ?_⟩, fun e => absurd e (by decide)⟩)⟩)
    · have e : chF w oo A side s0 ((og &&& A) ||| sPre w oo 0 side N) N p q = false := by unfold chF; rw [hb]; rfl
      rw [if_neg (by rw [e]; decide)] at hr; exact hr
    · have e : chF w oo A side s0 ((og &&& A) ||| sPre w oo 0 side N) N p q = false := by unfold chF; rw [hb, hc]; rfl
      rw [if_neg (by rw [e]; decide)] at hr; exact hr
    · have e : chF w oo A side s0 ((og &&& A) ||| sPre w oo 0 side N) N p q = true := by unfold chF; rw [hb, hc]; simp [hs]
      rw [if_pos e]
    · obtain ⟨h1, h2, h3⟩ := hA hs
      refine fX3_roundsE hN (by omega) h1 h2 h3 (fX3_roundsE hN (by omega) h1 h2 h3 ⟨fun hd => ih ?_, fun hd => hr _ ?_⟩)
      · have e : chF w oo A side s0 ((og &&& A) ||| sPre w oo 0 side N) N p q = false := by unfold chF; rw [hb, hc]; simp [hs, hd]
        rw [if_neg (by rw [e]; decide)] at hr; exact hr
      · have e : chF w oo A side s0 ((og &&& A) ||| sPre w oo 0 side N) N p q = true := by unfold chF; rw [hb, hc]; simp [hs, hd]
        rw [if_pos e]
theorem chF_ls {N p : Nat} {w : Nat → Int32} {oo A side s0 x0 S : Int32} (hN : N < 13) (hp : p < N) (hw : sMW N w) (h : ∀ q, q < N → bt (w p) q = true → (bt S q = true ↔ (bt A q = true ∧ (¬ s0 = 0 ∨ rdA (sStep w oo side N) q 12 0 x0 = rdA (sStep w oo side N) p 12 0 x0 - 1)))) : lsF (chF w oo A side s0 x0 N p) N 0 = lsF (bt (w p &&& S)) 12 0 := by
  have hout : ∀ q, 0 + N ≤ q → bt (w p &&& S) q = false := by
    intro q hq
    rw [b_and]
    rcases Nat.lt_or_ge q 32 with h32 | h32
    · cases hb : bt (w p) q
      · rfl
      · have := hw p hp q h32 hb
        rw [bt_sAll N hN q h32, decide_eq_true_eq] at this
        omega
    · rw [b_big h32]; rfl
  have e12 : 12 = N + (12 - N) := by omega
  rw [e12, lsF_more N (12 - N) 0 hout]
  refine lsF_congr N 0 (fun q _ hq => ?_)
  have hq : q < N := by omega
  unfold chF
  rw [b_and]
  cases hb : bt (w p) q
  · rfl
  · have := h q hq hb
    cases hS : bt S q
    · rw [hS] at this
      have hn : ¬ (bt A q = true ∧ (¬ s0 = 0 ∨ rdA (sStep w oo side N) q 12 0 x0 = rdA (sStep w oo side N) p 12 0 x0 - 1)) := fun k => by
        have := this.mpr k; cases this
      cases hA : bt A q
      · rfl
      · have h1 : s0 = 0 := Classical.byContradiction (fun k => hn ⟨hA, Or.inl k⟩)
        have h2 : ¬ rdA (sStep w oo side N) q 12 0 x0 = rdA (sStep w oo side N) p 12 0 x0 - 1 := fun k => hn ⟨hA, Or.inr k⟩
        simp [h1, h2]
    · have k := this.mp hS
      rw [k.1]
      rcases k.2 with k | k
      · simp [k]
      · simp [k]
theorem fX3_choiceE_j71 {N p : Nat} {w : Nat → Int32} {oo og A side s0 S : Int32} {post : Int32 → Prop} (hN : N < 13) (hp : p < N) (hw : sMW N w) (hA : s0 = 0 → sSub (sPre w oo A side N) A ∧ sSub A (sAll N) ∧ sSub A (sIt (sStep w oo side N) 32 ((og &&& A) ||| sPre w oo 0 side N))) (hS : ∀ q, q < N → bt (w p) q = true → (bt S q = true ↔ (bt A q = true ∧ (¬ s0 = 0 ∨ rdA (sStep w oo side N) q 12 0 ((og &&& A) ||| sPre w oo 0 side N) = rdA (sStep w oo side N) p 12 0 ((og &&& A) ||| sPre w oo 0 side N) - 1)))) (h : post (lsF (bt (w p &&& S)) 12 0)) : qX3_choiceOf_j71 (nI N) oo og N w side (nI p) A s0 post := by
  rw [← chF_ls hN hp hw hS] at h
  have := fX3_choiceE_76 (K := fun _ => post (-1)) (post := post) hN hp hA (fun h _ => h) N 0 (by omega) (fun r e => by rw [e]; exact h)
  exact ⟨N + 1, this⟩
theorem won_c {N : Nat} {w rk : Nat → Int32} {oo og side : Int32} : mWon w oo og rk N 0 side = sLim w oo side N og := if_pos rfl
theorem won_a {N : Nat} {w rk : Nat → Int32} {oo og side : Int32} : mWon w oo og rk N 2 side = sAgain w oo side og N := (if_neg (by decide)).trans ((if_neg (by decide)).trans (if_pos rfl))
theorem won_hyp {N : Nat} {w rk : Nat → Int32} {oo og game side : Int32} (hN : N < 13) (hg : sSub og (sAll N)) (hga : game = 0 ∨ game = 2) : sSub (sPre w oo (mWon w oo og rk N game side) side N) (mWon w oo og rk N game side) ∧ sSub (mWon w oo og rk N game side) (sAll N) ∧ sSub (mWon w oo og rk N game side) (sIt (sStep w oo side N) 32 ((og &&& mWon w oo og rk N game side) ||| sPre w oo 0 side N)) := by
  rcases hga with rfl | rfl
  · rw [won_c]
    refine ⟨pre_lim, lim_all hN hg, ?_⟩
    have e : og &&& sLim w oo side N og = og := and_of_sub (sLim_ge w oo side (by omega) og)
    rw [e]
    exact sLim_mono w oo side (by omega) sSub_orl
  · rw [won_a]
    refine ⟨again_pre hN, again_all hN, ?_⟩
    have h1 : sSub (og &&& sPre w oo (sAgain w oo side og N) side N) ((og &&& sAgain w oo side og N) ||| sPre w oo 0 side N) := (sSub_and2 (again_pre hN)).trans sSub_orl
    have h2 := sLim_mono w oo side (N := N) (by omega) h1
    rw [← sAgain_eq w oo side og hN] at h2
    exact h2
theorem pre0_own {N p : Nat} {w : Nat → Int32} {oo side : Int32} (hN : N < 13) (hp : p < 32) (ho : sOwn oo side p = true) : bt (sPre w oo 0 side N) p = false := by
  rw [bt_sPre w oo 0 side N (by omega) p hp]
  have z : w p &&& 0 = 0 := b_ext fun i _ => by rw [b_and, b_0]; simp
  unfold sCond
  rw [if_pos ho, z]; simp
theorem fX3_choiceOfE {N p : Nat} {w rk : Nat → Int32} {oo og game side : Int32} {post : Int32 → Prop} (hN : N < 13) (hp : p < N) (hw : sMW N w) (hg : sSub og (sAll N)) (hga : game = 0 ∨ game = 1 ∨ game = 2) (h : post (chA N w oo og (mWon w oo og rk N game side) game side p)) : qX3_choiceOf (nI N) oo og N rk N w game side (nI p) post := by
  refine fX3_wonIn hN ?_
  unfold chA at h
  refine uX3_sideOf ⟨fun ho => ?_, fun ho => fX3_isIn (by omega) (fun hb => ⟨fun e => absurd rfl e, fun _ => ?_⟩) (fun hb => ⟨fun _ => ?_, fun e => absurd e (by decide)⟩)⟩
  · have ho : ¬ sOwn oo side p = true := fun k => ho (of_decide_eq_true k)
    rw [if_neg (fun k => ho k.1)] at h; exact h
  · rw [if_neg (fun k => by rw [hb] at k; cases k.2)] at h; exact h
  · have ho : sOwn oo side p = true := decide_eq_true ho
    rw [if_pos ⟨ho, hb⟩] at h
    -- any way that stays in what is won
    have j66 : (game = 1 ∨ (game = 2 ∧ bt og p = true)) → qX3_choiceOf_j66 (nI N) oo og N w side (nI p) (mWon w oo og rk N game side) post := by
      intro k
      rw [if_pos k] at h
      exact uX3_choiceOf_j66 (fX3_choiceE_j71 hN hp hw (fun e => absurd e (by decide)) (fun q _ _ => ⟨fun k => ⟨k, Or.inl (by decide)⟩, fun k => k.1⟩) h)
    -- one round fewer
    have j70 : ¬ (game = 1 ∨ (game = 2 ∧ bt og p = true)) → bt og p = false → qX3_choiceOf_j70 (nI N) oo og N w side (nI p) (mWon w oo og rk N game side) post := by
      intro k hgp
      have hg02 : game = 0 ∨ game = 2 := by
        rcases hga with e | e | e
        · exact Or.inl e
        · exact absurd (Or.inl e) k
        · exact Or.inr e
      obtain ⟨h1, h2, h3⟩ := won_hyp (w := w) (rk := rk) (oo := oo) (side := side) hN hg hg02
      rw [if_neg k] at h
      have h0 : bt ((og &&& mWon w oo og rk N game side) ||| sPre w oo 0 side N) p = false := by
        rw [b_or, b_and, hgp, pre0_own hN (by omega) ho]; rfl
      refine uX3_choiceOf_j70 (fX3_choiceE_j71 hN hp hw (fun _ => ⟨h1, h2, h3⟩) (fun q hq hwq => ?_) h)
      rw [near_iff hN hp hq h1 h2 h3 ho hb h0 hwq]
      simp
    have j45 : (game = 0 → bt og p = false) → qX3_choiceOf_j45 (nI N) oo og N w game side (nI p) (mWon w oo og rk N game side) post := by
      intro h00
      refine uX3_choiceOf_j45 ⟨fun e => j66 (Or.inl e), fun e => ⟨fun e2 => ?_, fun e2 => fX3_isIn (by omega) (fun hgp => ⟨fun _ => j70 (fun k => k.elim e (fun k => by rw [hgp] at k; cases k.2)) hgp, fun e => absurd rfl e⟩) (fun hgp => ⟨fun e => absurd e (by decide), fun _ => j66 (Or.inr ⟨e2, hgp⟩)⟩)⟩⟩
      have e0 : game = 0 := by
        rcases hga with k | k | k
        · exact k
        · exact absurd k e
        · exact absurd k e2
      exact j70 (fun k => k.elim e (fun k => e2 k.1)) (h00 e0)
    refine ⟨fun e => j45 (fun e0 => absurd e0 e), fun e => fX3_isIn (by omega) (fun hgp => ⟨fun _ => j45 (fun _ => hgp), fun e => absurd rfl e⟩) (fun hgp => ⟨fun e => absurd e (by decide), fun _ => ?_⟩)⟩
    -- there already
    rw [if_neg (fun k => by
      rcases k with k | k
      · rw [e] at k; exact absurd k (by decide)
      · rw [e] at k; exact absurd k.1 (by decide))] at h
    have hx : bt ((og &&& mWon w oo og rk N game side) ||| sPre w oo 0 side N) p = true := by
      rw [b_or, b_and, hgp, hb]; rfl
    have e0 : nrA w oo side (og &&& mWon w oo og rk N game side) N p = 0 := by
      unfold nrA; rw [if_pos hx]
    rw [e0, lsF_none] at h
    · exact h
    · intro q _ _
      rw [b_and, b_0]; simp
