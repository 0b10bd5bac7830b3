/-! The told choice, exactly. -/
def lsF (f : Nat → Bool) : Nat → Nat → Int32
  | 0, _ => -1
  | d + 1, p => if f p = true then nI p else lsF f d (p + 1)
theorem lsF_congr {f g : Nat → Bool} : ∀ (d p : Nat), (∀ q, p ≤ q → q < p + d → f q = g q) → lsF f d p = lsF g d p
  | 0, _, _ => rfl
  | d + 1, p, h => by
    rw [lsF, lsF, h p (Nat.le_refl _) (by omega), lsF_congr d (p + 1) (fun q h1 h2 => h q (by omega) (by omega))]
theorem lsF_none {f : Nat → Bool} : ∀ (d p : Nat), (∀ q, p ≤ q → q < p + d → f q = false) → lsF f d p = -1
  | 0, _, _ => rfl
  | d + 1, p, h => by
    rw [lsF, if_neg (by rw [h p (Nat.le_refl _) (by omega)]; decide)]
    exact lsF_none d (p + 1) (fun q h1 h2 => h q (by omega) (by omega))
theorem lsF_more {f : Nat → Bool} : ∀ (d e p : Nat), (∀ q, p + d ≤ q → f q = false) → lsF f (d + e) p = lsF f d p
  | 0, e, p, h => by
    rw [Nat.zero_add]
    exact lsF_none e p (fun q h1 _ => h q h1)
  | d + 1, e, p, h => by
    rw [show d + 1 + e = (d + e) + 1 from by omega, lsF, lsF, lsF_more d e (p + 1) (fun q h1 => h q (by omega))]
theorem fX1_leastE_4 {x : Int32} {K : Int32 → Int32 → Prop} {post : Int32 → Prop} : ∀ (d p : Nat), p + d = 12 → (lsF (bt x) d p = -1 → ∀ a b, K a b) → (∀ r, r = lsF (bt x) d p → post r) → (post (-1) → ∀ a b, K a b) → qX1_member_4 x K post (d + 1) 0 (nI p)
  | 0, p, h, hK, hr, hk => by
    have : p = 12 := by omega
    subst this
    exact ⟨fun _ => hK rfl _ _, fun hc => absurd (nI_le (Nat.le_refl 12) (by omega)) hc⟩
  | d + 1, p, h, hK, hr, hk => by
    rw [lsF] at hr
    refine ⟨fun hc => absurd hc (nI_ge (b := 12) (by omega) (by omega)), fun _ => fX1_has (by omega) (fun hb => ⟨fun _ => ?_, fun e => absurd rfl e⟩) (fun hb => ⟨fun e => absurd e (by decide), fun _ => ⟨fun e => absurd rfl e, fun _ => hr _ (by rw [if_pos hb])⟩⟩)⟩
    rw [if_neg (by rw [hb]; decide)] at hr
    rw [nI_1]
    exact fX1_leastE_4 d (p + 1) (by omega) (fun e a b => hk (hr _ e.symm) a b) hr hk
theorem fX1_leastE {x : Int32} {post : Int32 → Prop} (h : post (lsF (bt x) 12 0)) : qX1_least x post := by
  have := fX1_leastE_4 (x := x) (K := fun _ _ => post (-1)) (post := fun r => post r) 12 0 rfl (fun e _ _ => by rw [e] at h; exact h) (fun r e => by rw [e]; exact h) (fun h _ _ => h)
  exact ⟨13, this⟩
/-! the places with fewer rounds -/
def neA (F : Int32 → Int32) (p : Nat) : Nat → Int32 → Int32
  | 0, _ => 0
  | d + 1, x => if bt (F x) p = true then x else neA F p d (F x)
theorem fX0_nearerE_24 {N p : Nat} {mf w : Nat → Int32} {oo a2 : Int32} {K : Int32 → Int32 → Prop} {post : Int32 → Prop} (hN : N < 13) (hp : p < 32) (hf : ∀ p, p < N → mf p = w p) : ∀ (d k : Nat) (x : Int32), k + d = 12 → (neA (sStep w oo a2 N) p d x = 0 → ∀ a b, K a b) → (∀ r, r = neA (sStep w oo a2 N) p d x → post r) → (post 0 → ∀ a b, K a b) → qX0_nearer_24 mf (nI N) oo a2 (nI p) K post (d + 1) x (nI k)
  | 0, k, x, h, hK, hr, hk => by
    have : k = 12 := by omega
    subst this
    exact ⟨fun _ => hK rfl _ _, fun hc => absurd (nI_le (Nat.le_refl 12) (by omega)) hc⟩
  | d + 1, k, x, h, hK, hr, hk => by
    rw [neA] at hr
    have e : ∀ y, x ||| sPre w oo x a2 N = y → sStep w oo a2 N x = y := fun y h => h
    refine ⟨fun hc => absurd hc (nI_ge (b := 12) (by omega) (by omega)), fun _ => fX0_seenE hN hf (fX1_has hp (fun hb => ⟨fun _ => ?_, fun e => absurd rfl e⟩) (fun hb => ⟨fun e => absurd e (by decide), fun _ => hr _ (by rw [e _ rfl, if_pos hb])⟩))⟩
    rw [e _ rfl, if_neg (by rw [hb]; decide)] at hr
    rw [nI_1]
    exact fX0_nearerE_24 hN hp hf d (k + 1) (sStep w oo a2 N x) (by omega) (fun e a b => hk (hr _ e.symm) a b) hr hk
def nrA (w : Nat → Int32) (sec side x : Int32) (N p : Nat) : Int32 := if bt (x ||| sPre w sec 0 side N) p = true then 0 else neA (sStep w sec side N) p 12 (x ||| sPre w sec 0 side N)
theorem fX0_nearerE {N p : Nat} {mf w : Nat → Int32} {oo a1 a2 : Int32} {post : Int32 → Prop} (hN : N < 13) (hp : p < 32) (hf : ∀ p, p < N → mf p = w p) (h : post (nrA w oo a2 a1 N p)) : qX0_nearer mf (nI N) oo a1 a2 (nI p) post := by
  unfold nrA at h
  refine fX0_seenE hN hf (fX1_has hp (fun hb => ⟨fun _ => ?_, fun e => absurd rfl e⟩) (fun hb => ⟨fun e => absurd e (by decide), fun _ => by rw [if_pos hb] at h; exact h⟩))
  rw [if_neg (by rw [hb]; decide)] at h
  exact ⟨13, fX0_nearerE_24 (K := fun _ _ => post 0) hN hp hf 12 0 (a1 ||| sPre w oo 0 a2 N) rfl (fun e _ _ => by rw [e] at h; exact h) (fun r e => by rw [e]; exact h) (fun h _ _ => h)⟩
/-- the choice told at a place, of a game, in the set that is won -/
def chA (N : Nat) (w : Nat → Int32) (oo og A game side : Int32) (p : Nat) : Int32 :=
  if sOwn oo side p = true ∧ bt A p = true then (if game = 1 ∨ (game = 2 ∧ bt og p = true) then lsF (bt (w p &&& A)) 12 0 else lsF (bt (w p &&& nrA w oo side (og &&& A) N p)) 12 0) else -1
theorem bt_own {N p : Nat} {oo side : Int32} {A r : Int32} (hp : p < N) (hN : N < 13) (hs : kSd side) (hr : r = if side = 1 then oo else sAll N &&& (oo ^^^ (-1 : Int32))) : bt (A &&& r) p = true ↔ (sOwn oo side p = true ∧ bt A p = true) := by
  have hv := has_val oo (p := p) (by omega)
  unfold sOwn
  rw [hv, b_and, hr]
  rcases hs with rfl | rfl
  · rw [if_neg (by decide), b_and, bt_sAll N hN p (by omega), bt_not _ (by omega)]
    cases bt A p <;> cases bt oo p <;> simp [hp]
  · rw [if_pos rfl]
    cases bt A p <;> cases bt oo p <;> simp
theorem fX0_placesOfE {N : Nat} {ms a1 : Int32} {post : Int32 → Prop} (h : post (if a1 = 1 then ms else sAll N &&& (ms ^^^ (-1 : Int32)))) : qX0_placesOf (nI N) ms a1 post :=
  ⟨fun e => uX0_all (by rw [if_neg e] at h; exact h), fun e => by rw [if_pos e] at h; exact h⟩
theorem fX0_pickWithinE {N p : Nat} {mf w : Nat → Int32} {oo og A game side : Int32} {post : Int32 → Prop} (hN : N < 13) (hp : p < N) (hs : kSd side) (hf : ∀ p, p < N → mf p = w p) (h : post (chA N w oo og A game side p)) : qX0_pickWithin mf (nI N) oo og game side (nI p) A post := by
  have own := bt_own (N := N) (p := p) (oo := oo) (side := side) (A := A) hp hN hs rfl
  unfold chA at h
  refine fX0_placesOfE (fX1_has (by omega) (fun hb => ⟨fun e => absurd rfl e, fun _ => ?_⟩) (fun hb => ⟨fun _ => fX0_waysFrom (by omega) ?_, fun e => absurd e (by decide)⟩))
  · rw [if_neg (fun k => by rw [own.mpr k] at hb; cases hb)] at h; exact h
  · rw [if_pos (own.mp hb)] at h
    rw [hf p hp]
    have j : ¬ (game = 1 ∨ (game = 2 ∧ bt og p = true)) → qX0_pickWithin_j54 mf (nI N) oo og side (nI p) A (w p) post := fun k => by
      rw [if_neg k] at h
      exact uX0_pickWithin_j54 (fX0_nearerE hN (by omega) hf (fX1_leastE (post := fun r => post r) h))
    refine ⟨fun e => ?_, fun e => ⟨fun e2 => j (fun k => k.elim e (fun k => e2 k.1)), fun e2 => fX1_has (by omega) (fun hg => ⟨fun _ => j (fun k => k.elim e (fun k => by rw [hg] at k; cases k.2)), fun e => absurd rfl e⟩) (fun hg => ⟨fun e => absurd e (by decide), fun _ => ?_⟩)⟩⟩
    · rw [if_pos (Or.inl e)] at h; exact fX1_leastE (post := fun r => post r) h
    · rw [if_pos (Or.inr ⟨e2, hg⟩)] at h; exact fX1_leastE (post := fun r => post r) h
theorem fX0_pickE {N p : Nat} {mf w rk : Nat → Int32} {oo og k0 k1 game side : Int32} {post : Int32 → Prop} (hN : N < 13) (hp : p < N) (hs : kSd side) (hf : ∀ p, p < N → mf p = w p) (hr : rkR N k0 k1 rk) (hg : sSub og (sAll N)) (h : post (chA N w oo og (mWon w oo og rk N game side) game side p)) : qX0_pick mf (nI N) oo og k0 k1 game side (nI p) post :=
  fX0_wonE (rk := rk) hN hf hr hg (fX0_pickWithinE (post := fun r => post r) hN hp hs hf h)
/-! the reference's: the same place -/
theorem rdA_first (F : Int32 → Int32) (p : Nat) : ∀ (r d k : Nat) (x : Int32), (∀ j, j < r → bt (sIt F j x) p = false) → bt (sIt F r x) p = true → r < d → rdA F p d k x = nI (k + r)
  | 0, d, k, x, h, hb, hd => by
    match d, hd with
    | d + 1, _ =>
      have hb : bt x p = true := hb
      rw [rdA, if_pos hb, Nat.add_zero]
  | r + 1, d, k, x, h, hb, hd => by
    match d, hd with
    | d + 1, hd =>
      have h0 : bt x p = false := h 0 (by omega)
      rw [rdA, if_neg (by rw [h0]; decide), rdA_first F p r d (k + 1) (F x) (fun j hj => h (j + 1) (by omega)) hb (by omega)]
      congr 1; omega
theorem neA_first (F : Int32 → Int32) (p : Nat) : ∀ (r d : Nat) (x : Int32), (∀ j, j < r → bt (sIt F (j + 1) x) p = false) → bt (sIt F (r + 1) x) p = true → r < d → neA F p d x = sIt F r x
  | 0, d, x, h, hb, hd => by
    match d, hd with
    | d + 1, _ =>
      have hb : bt (F x) p = true := hb
      rw [neA, if_pos hb]; rfl
  | r + 1, d, x, h, hb, hd => by
    match d, hd with
    | d + 1, hd =>
      have h0 : bt (F x) p = false := h 0 (by omega)
      rw [neA, if_neg (by rw [h0]; decide), neA_first F p r d (F x) (fun j hj => h (j + 1) (by omega)) hb (by omega)]
      rfl
theorem first_of {f : Nat → Bool} : ∀ n, f n = true → ∃ r, r ≤ n ∧ f r = true ∧ ∀ j, j < r → f j = false
  | 0, h => ⟨0, Nat.le_refl _, h, fun j hj => by omega⟩
  | n + 1, h => by
    by_cases e : ∃ m, m ≤ n ∧ f m = true
    · obtain ⟨m, hm, hf⟩ := e
      have key : ∀ m, m ≤ n → f m = true → ∃ r, r ≤ m ∧ f r = true ∧ ∀ j, j < r → f j = false := by
        intro m
        induction m using Nat.strongRecOn with
        | _ m ih =>
          intro hm hf
          by_cases e2 : ∃ j, j < m ∧ f j = true
          · obtain ⟨j, hj, hfj⟩ := e2
            obtain ⟨r, h1, h2, h3⟩ := ih j hj (by omega) hfj
            exact ⟨r, by omega, h2, h3⟩
          · refine ⟨m, Nat.le_refl _, hf, fun j hj => ?_⟩
            cases hb : f j
            · rfl
            · exact absurd ⟨j, hj, hb⟩ e2
      obtain ⟨r, h1, h2, h3⟩ := key m hm hf
      exact ⟨r, by omega, h2, h3⟩
    · refine ⟨n + 1, Nat.le_refl _, h, fun j hj => ?_⟩
      cases hb : f j
      · rfl
      · exact absurd ⟨j, by omega, hb⟩ e
theorem orb_mono {w : Nat → Int32} {sec side x : Int32} {N : Nat} : ∀ (k j : Nat), sSub (sIt (sStep w sec side N) j x) (sIt (sStep w sec side N) (j + k) x)
  | 0, j => sSub.rfl
  | k + 1, j => by
    have := orb_mono (w := w) (sec := sec) (side := side) (x := x) (N := N) k j
    rw [show j + (k + 1) = (j + k) + 1 from by omega, sIt_out]
    exact this.trans sSub_orl
/-- where an own place is won first in r rounds, its ways to places of fewer rounds lead to places of one round fewer -/
theorem near_iff {w : Nat → Int32} {oo og A side : Int32} {N p q : Nat} (hN : N < 13) (hp : p < N) (hq : q < N) (hA : sSub (sPre w oo A side N) A) (hAN : sSub A (sAll N)) (hR : sSub A (sIt (sStep w oo side N) 32 ((og &&& A) ||| sPre w oo 0 side N))) (ho : sOwn oo side p = true) (hb : bt A p = true) (h0 : bt ((og &&& A) ||| sPre w oo 0 side N) p = false) (hw : bt (w p) q = true) : bt (nrA w oo side (og &&& A) N p) q = true ↔ (bt A q = true ∧ rdA (sStep w oo side N) q 12 0 ((og &&& A) ||| sPre w oo 0 side N) = rdA (sStep w oo side N) p 12 0 ((og &&& A) ||| sPre w oo 0 side N) - 1) := by
  have hx : sSub ((og &&& A) ||| sPre w oo 0 side N) A := sSub_or.mpr ⟨sSub_andr, (sPre_mono w oo side (by omega) sSub_0).trans hA⟩
  have orb := fun k => (rnd_orb hN hA k _ hx).2
  have reach : ∀ q, q < 32 → bt A q = true → ∃ r, r ≤ 11 ∧ bt (sIt (sStep w oo side N) r ((og &&& A) ||| sPre w oo 0 side N)) q = true ∧ ∀ j, j < r → bt (sIt (sStep w oo side N) j ((og &&& A) ||| sPre w oo 0 side N)) q = false := by
    intro q hq hbq
    refine first_of (f := fun j => bt (sIt (sStep w oo side N) j ((og &&& A) ||| sPre w oo 0 side N)) q) 11 ?_
    show bt (sIt (sStep w oo side N) 11 ((og &&& A) ||| sPre w oo 0 side N)) q = true
    rw [← step_11 hN (hx.trans hAN) sSub_orr]; exact hR q hq hbq
  obtain ⟨r, hr, hr1, hr2⟩ := reach p (by omega) hb
  unfold nrA
  rw [if_neg (by rw [h0]; decide)]
  match r, hr, hr1, hr2 with
  | 0, hr, hr1, hr2 => exact absurd hr1 (by rw [show sIt (sStep w oo side N) 0 ((og &&& A) ||| sPre w oo 0 side N) = ((og &&& A) ||| sPre w oo 0 side N) from rfl, h0]; decide)
  | r + 1, hr, hr1, hr2 =>
    rw [neA_first (sStep w oo side N) p r 12 _ (fun j hj => hr2 (j + 1) (by omega)) hr1 (by omega), rdA_first (sStep w oo side N) p (r + 1) 12 0 _ hr2 hr1 (by omega), Nat.zero_add, nI_pred]
    -- a set with q in it: p comes in with the next round
    have next : ∀ j, bt (sIt (sStep w oo side N) j ((og &&& A) ||| sPre w oo 0 side N)) q = true → bt (sIt (sStep w oo side N) (j + 1) ((og &&& A) ||| sPre w oo 0 side N)) p = true := by
      intro j hj
      rw [sIt_out]
      have : bt (sPre w oo (sIt (sStep w oo side N) j ((og &&& A) ||| sPre w oo 0 side N)) side N) p = true := by
        rw [bt_sPre w oo _ side N (by omega) p (by omega)]
        have hc : sCond w oo (sIt (sStep w oo side N) j ((og &&& A) ||| sPre w oo 0 side N)) side p = true := by
          unfold sCond
          rw [if_pos ho, decide_eq_true_eq]
          exact (and_ne0 _ _).mpr ⟨q, by omega, hw, hj⟩
        simp [hp, hc]
      exact sSub_orr p (by omega) this
    constructor
    · intro hqr
      have hqA : bt A q = true := orb r q (by omega) hqr
      refine ⟨hqA, ?_⟩
      obtain ⟨s, hs, hs1, hs2⟩ := reach q (by omega) hqA
      have hsr : s ≤ r := by
        apply Classical.byContradiction
        intro hn
        have := hs2 r (by omega)
        rw [hqr] at this; cases this
      have hrs : r ≤ s := by
        apply Classical.byContradiction
        intro hn
        have h1 := next s hs1
        have h2 := hr2 (s + 1) (by omega)
        rw [h1] at h2; cases h2
      have : s = r := by omega
      subst this
      rw [rdA_first (sStep w oo side N) q s 12 0 _ hs2 hs1 (by omega), Nat.zero_add]
    · rintro ⟨hqA, hrd⟩
      obtain ⟨s, hs, hs1, hs2⟩ := reach q (by omega) hqA
      rw [rdA_first (sStep w oo side N) q s 12 0 _ hs2 hs1 (by omega), Nat.zero_add] at hrd
      have : s = r := (nI_eq (by omega) (by omega)).mp hrd
      rw [← this]; exact hs1
