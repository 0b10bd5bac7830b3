/-! tried: all choices of a side, one after another. -/
theorem strat_all {N : Nat} {w rk : Nat → Int32} {oo og game side : Int32} (hN : N < 13) (hsd : kSd side) (hw : sMW N w) (hg : sSub og (sAll N)) (hga : game = 0 ∨ game = 1 ∨ game = 2 ∨ game = 3) : ∃ st, stOk N w oo side st ∧ ∀ z, oneW N w z oo side st → sSub (mWon w oo og rk N game side) (mWon z oo og rk N game side) := by
  rcases hga with h | h | h | rfl
  · exact strat_told hN hsd hw hg (Or.inl h)
  · exact strat_told hN hsd hw hg (Or.inr (Or.inl h))
  · exact strat_told hN hsd hw hg (Or.inr (Or.inr h))
  · rcases hsd with rfl | rfl
    · obtain ⟨st, hs, h⟩ := strat_r0 (w := w) (oo := oo) (r0 := sRank rk 0 N) (r1 := sRank rk 1 N) (r2 := sRank rk 2 N) hN hw
      refine ⟨st, hs, fun z hz => ?_⟩
      have e : ∀ v, mWon v oo og rk N 3 0 = sRk v oo (sRank rk 0 N) (sRank rk 1 N) (sRank rk 2 N) N := fun v => (if_neg (by decide)).trans ((if_neg (by decide)).trans ((if_neg (by decide)).trans (if_pos rfl)))
      rw [e, e]
      exact h z hz
    · have dj : ∀ a b : Int32, ¬ a = b → ∀ p, p < N → ¬ (bt (sRank rk a N) p = true ∧ bt (sRank rk b N) p = true) := by
        intro a b hab p hp k
        rw [bt_sRank N (by omega) p (by omega), bt_sRank N (by omega) p (by omega)] at k
        simp only [Bool.and_eq_true, decide_eq_true_eq] at k
        exact hab (k.1.2.symm.trans k.2.2)
      obtain ⟨st, hs, h⟩ := strat_r1 (w := w) (oo := oo) (r0 := sRank rk 0 N) (r1 := sRank rk 1 N) (r2 := sRank rk 2 N) hN hw (dj 0 1 (by decide)) (dj 0 2 (by decide)) (dj 1 2 (by decide))
      refine ⟨st, hs, fun z hz => ?_⟩
      have e : ∀ v, mWon v oo og rk N 3 1 = sAll N &&& (sRk v oo (sRank rk 0 N) (sRank rk 1 N) (sRank rk 2 N) N ^^^ (-1 : Int32)) := fun v => (if_neg (by decide)).trans ((if_neg (by decide)).trans ((if_neg (by decide)).trans (if_neg (by decide))))
      rw [e, e]
      exact not_le (h z hz)
/-! the k-th of a set -/
def cB (x : Int32) : Nat → Nat
  | 0 => 0
  | q + 1 => cB x q + (if bt x q = true then 1 else 0)
theorem cB_tab : ∀ a, a < 64 → ∀ b, b < 64 → cB (nI (64 * a + b)) 12 = sCnt (nI (64 * a + b)) := by decide +kernel
theorem cB_12 {x : Int32} (hx : sSub x 4095) : cB x 12 = sCnt x := by
  obtain ⟨k, hk, rfl⟩ := n12_of hx
  have := cB_tab (k / 64) (by omega) (k % 64) (by omega)
  rw [show 64 * (k / 64) + k % 64 = k from by omega] at this
  exact this
theorem cB_le {x : Int32} : ∀ (d q : Nat), cB x q ≤ cB x (q + d)
  | 0, _ => Nat.le_refl _
  | d + 1, q => by
    have := cB_le (x := x) d q
    rw [show q + (d + 1) = (q + d) + 1 from by omega, cB]
    omega
theorem cB_lt {x : Int32} {q : Nat} (hq : q < 12) (h : bt x q = true) : cB x q < cB x 12 := by
  have h1 : cB x (q + 1) = cB x q + 1 := by rw [cB, if_pos h]
  have h2 := cB_le (x := x) (12 - (q + 1)) (q + 1)
  rw [show q + 1 + (12 - (q + 1)) = 12 from by omega] at h2
  omega
theorem cB_inj {x : Int32} {q r : Nat} (hq : bt x q = true) (hr : bt x r = true) (h : cB x q = cB x r) : q = r := by
  apply Classical.byContradiction
  intro hn
  rcases Nat.lt_or_gt_of_ne hn with hlt | hlt
  · have h1 : cB x (q + 1) = cB x q + 1 := by rw [cB, if_pos hq]
    have h2 := cB_le (x := x) (r - (q + 1)) (q + 1)
    rw [show q + 1 + (r - (q + 1)) = r from by omega] at h2
    omega
  · have h1 : cB x (r + 1) = cB x r + 1 := by rw [cB, if_pos hr]
    have h2 := cB_le (x := x) (q - (r + 1)) (r + 1)
    rw [show r + 1 + (q - (r + 1)) = q from by omega] at h2
    omega
theorem fX1_memberE_4 {x : Int32} {k : Nat} {K : Int32 → Int32 → Prop} {post : Int32 → Prop} (hk : k < cB x 12) (hk2 : k < 2 ^ 31) (h : ∀ q, q < 12 → bt x q = true → cB x q = k → post (nI q)) : ∀ (d p : Nat), p + d = 12 → cB x p ≤ k → qX1_member_4 x K post (d + 1) (nI (k - cB x p)) (nI p)
  | 0, p, hp, hle => by
    have : p = 12 := by omega
    subst this
    omega
  | d + 1, p, hp, hle => by
    have ih := fX1_memberE_4 (K := K) hk hk2 h d (p + 1) (by omega)
    refine ⟨fun hc => absurd hc (nI_ge (b := 12) (by omega) (by decide)), fun _ => fX1_has (by omega) (fun hb => ⟨fun _ => ?_, fun e => absurd rfl e⟩) (fun hb => ⟨fun e => absurd e (by decide), fun _ => ⟨fun hv => ?_, fun hv => ?_⟩⟩)⟩
    · have e : cB x (p + 1) = cB x p := by rw [cB, if_neg (by rw [hb]; decide), Nat.add_zero]
      rw [e] at ih
      rw [nI_1]; exact ih hle
    · have e : cB x (p + 1) = cB x p + 1 := by rw [cB, if_pos hb]
      have hne : ¬ k = cB x p := fun e2 => hv (by rw [e2, Nat.sub_self]; decide)
      have ih := ih (by omega)
      rw [e] at ih
      obtain ⟨j, hj⟩ : ∃ j, k - cB x p = j + 1 := ⟨k - cB x p - 1, by omega⟩
      rw [hj, nI_m1, nI_1]
      rw [show k - (cB x p + 1) = j from by omega] at ih
      exact ih
    · refine h p (by omega) hb ?_
      have := (nI_eq (a := k - cB x p) (b := 0) (by omega) (by omega)).mp hv
      omega
theorem fX1_memberE {x : Int32} {k : Nat} {post : Int32 → Prop} (hk : k < cB x 12) (hk2 : k < 2 ^ 31) (h : ∀ q, q < 12 → bt x q = true → cB x q = k → post (nI q)) : qX1_member x (nI k) post := by
  have := fX1_memberE_4 (x := x) (K := fun _ _ => post (-1)) (post := post) hk hk2 h 12 0 rfl (Nat.zero_le _)
  exact ⟨13, this⟩
/-! a number, digit by digit -/
def isD (oo side : Int32) (w : Nat → Int32) (p : Nat) : Prop := ¬ w p = 0 ∧ sOwn oo side p = true
def isDb (oo side : Int32) (w : Nat → Int32) (p : Nat) : Bool := decide (¬ w p = 0) && sOwn oo side p
theorem isDb_t {oo side : Int32} {w : Nat → Int32} {p : Nat} : isDb oo side w p = true ↔ isD oo side w p := by
  unfold isDb isD
  rw [Bool.and_eq_true, decide_eq_true_eq]
def digL (oo side : Int32) (w : Nat → Int32) (L : Nat) : Nat → Nat
  | 0 => L
  | p + 1 => if isDb oo side w p = true then digL oo side w L p / sCnt (w p) else digL oo side w L p
/-- the map that a number tells -/
def zOf (N : Nat) (oo side : Int32) (w : Nat → Int32) (L : Nat) (z : Nat → Int32) : Prop := ∀ p, p < N → (¬ isD oo side w p → z p = w p) ∧ (isD oo side w p → ∃ q, q < 12 ∧ bt (w p) q = true ∧ cB (w p) q = digL oo side w L p % sCnt (w p) ∧ z p = ((1 : Int32) <<< (nI q &&& (31 : Int32))))
theorem digL_le {oo side : Int32} {w : Nat → Int32} {L : Nat} : ∀ p, digL oo side w L p ≤ L
  | 0 => Nat.le_refl _
  | p + 1 => by
    have ih := digL_le (oo := oo) (side := side) (w := w) (L := L) p
    rw [digL]
    split
    · exact Nat.le_trans (Nat.div_le_self _ _) ih
    · exact ih
theorem fJ6_bitE {x : Int32} {post : Int32 → Prop} (hx : sSub x 4095) (h : post (nI (sCnt x))) : qJ6_bitCount_0f7a4 x post := by
  rw [← pcf_eq hx] at h
  exact h
theorem fX1_layE_16 {N L : Nat} {mf w : Nat → Int32} {ms a1 : Int32} {K : Int32 → Int32 → (Nat → Int32) → Prop} (hN : N < 13) (hL : L < 2 ^ 31) (hw : sMW N w) (hf : ∀ p, p < N → mf p = w p) (hK : ∀ a b z, zOf N ms a1 w L z → K a b z) : ∀ (d p : Nat) (z : Nat → Int32), p + d = N → zOf p ms a1 w L z → (∀ q, q < N → p ≤ q → z q = w q) → qX1_layChoices_W16 mf (nI N) ms a1 K (d + 1) (nI (digL ms a1 w L p)) (nI p) z
  | 0, p, z, hp, hz, hz2 => by
    have : p = N := by omega
    subst this
    exact ⟨fun _ => hK _ _ _ hz, fun hc => absurd (nI_le (Nat.le_refl _) (by omega)) hc⟩
  | d + 1, p, z, hp, hz, hz2 => by
    have ih := fun (z : Nat → Int32) hz hz2 => fX1_layE_16 (N := N) (L := L) (mf := mf) (w := w) (ms := ms) (a1 := a1) (K := K) hN hL hw hf hK d (p + 1) z (by omega) hz hz2
    simp only [← nI_1] at ih
    have hx := sSub_12 hN (hw p (by omega))
    have hle := digL_le (oo := ms) (side := a1) (w := w) (L := L) p
    have skip : ¬ isD ms a1 w p → qX1_layChoices_W16 mf (nI N) ms a1 K (d + 1) (nI (digL ms a1 w L p)) (nI p + 1) z := by
      intro hd
      have e : digL ms a1 w L (p + 1) = digL ms a1 w L p := by rw [digL, if_neg (fun k => hd (isDb_t.mp k))]
      have := ih z (fun q hq => by
        by_cases e2 : q = p
        · subst e2
          exact ⟨fun _ => hz2 q (by omega) (Nat.le_refl _), fun k => absurd k hd⟩
        · exact hz q (by omega)) (fun q hq h1 => hz2 q hq (by omega))
      rw [e] at this
      exact this
    refine ⟨fun hc => absurd hc (nI_ge (by omega) (by omega)), fun _ => fX0_waysFrom (by omega) ?_⟩
    rw [hf p (by omega)]
    refine fJ6_bitE hx ⟨fun hc => ?_, fun hc => uX0_sideOf ⟨fun hs => ?_, fun hs => ?_⟩⟩
    · have hm32 := sCnt_le (w p)
      exact skip (fun k => absurd hc (nI_nle (Nat.pos_of_ne_zero (fun e => k.1 (sCnt_0.mp e))) (by omega)))
    · exact skip (fun k => hs (of_decide_eq_true k.2))
    · have hm32 := sCnt_le (w p)
      have h0 : ¬ w p = 0 := fun e => hc (by rw [e, sCnt_0.mpr rfl]; decide)
      have hd : isD ms a1 w p := ⟨h0, decide_eq_true hs⟩
      have hm : 0 < sCnt (w p) := Nat.pos_of_ne_zero (fun e => h0 (sCnt_0.mp e))
      have hmod : digL ms a1 w L p % sCnt (w p) < sCnt (w p) := Nat.mod_lt _ hm
      rw [pk_rem (by omega) hm (by omega), pk_div (by omega) hm (by omega)]
      refine ⟨nI_ne0 hm (by omega), fX1_memberE (by rw [cB_12 hx]; exact hmod) (by omega) (fun q hq hb hcq => fX0_setWaysE (by omega) ⟨nI_ne0 hm (by omega), ?_⟩)⟩
      have e : digL ms a1 w L (p + 1) = digL ms a1 w L p / sCnt (w p) := by rw [digL, if_pos (isDb_t.mpr hd)]
      have := ih (upd z p ((1 : Int32) <<< (nI q &&& (31 : Int32)))) (fun r hr => by
        by_cases e2 : r = p
        · subst e2
          exact ⟨fun k => absurd hd k, fun _ => ⟨q, hq, hb, hcq, upd_eq _ _ _⟩⟩
        · rw [upd_ne e2]; exact hz r (by omega)) (fun r hr h1 => by rw [upd_ne (by omega)]; exact hz2 r hr (by omega))
      rw [e] at this
      exact this
theorem fX1_layE {N L : Nat} {mf w tf : Nat → Int32} {ms mg m0 m1 a1 : Int32} {post : Int32 → Int32 → Int32 → Int32 → Int32 → (Nat → Int32) → Prop} (hN : N < 13) (hL : L < 2 ^ 31) (hw : sMW N w) (hf : ∀ p, p < N → mf p = w p) (h : ∀ z, zOf N ms a1 w L z → post (nI N) ms mg m0 m1 z) : qX1_layChoicesW mf (nI N) ms mg m0 m1 tf a1 (nI L) post := by
  refine uX1_layChoicesW (fX0_copyE (fun z hz => ⟨N + 1, ?_⟩))
  have := fX1_layE_16 (L := L) (w := w) (a1 := a1) (K := fun _ _ z => post (nI N) ms mg m0 m1 z) hN hL hw hf (fun _ _ z hz => h z hz) N 0 z (by omega) (fun q hq => by omega) (fun q hq _ => by rw [hz q (by omega), hf q hq])
  exact this
theorem zOf_res {N L : Nat} {w z : Nat → Int32} {oo side : Int32} (hN : N < 13) (h : zOf N oo side w L z) : resR N w z oo side := by
  intro p hp
  obtain ⟨h1, h2⟩ := h p hp
  refine ⟨fun ho => h1 (fun k => ho k.2), fun ho => ?_⟩
  by_cases h0 : w p = 0
  · have e := h1 (fun k => k.1 h0)
    rw [e]; exact ⟨sSub.rfl, fun k => k⟩
  · obtain ⟨q, hq, hb, _, e⟩ := h2 ⟨h0, ho⟩
    refine ⟨fun r hr hbr => ?_, fun k => absurd k ?_⟩
    · rw [e, bt_bit (by omega) hr, decide_eq_true_eq] at hbr
      rw [hbr]; exact hb
    · intro k
      have := bt_bit (p := q) (q := q) (by omega) (by omega)
      rw [← e, k, b_0] at this
      simp at this
/-- a number for every choice -/
def numF (oo side : Int32) (w : Nat → Int32) (st : Nat → Nat) : Nat → Nat → Nat
  | 0, _ => 0
  | d + 1, p => if isDb oo side w p = true then cB (w p) (st p) + sCnt (w p) * numF oo side w st d (p + 1) else numF oo side w st d (p + 1)
def chN (oo side : Int32) (w : Nat → Int32) : Nat → Nat
  | 0 => 1
  | p + 1 => if isDb oo side w p = true then chN oo side w p * sCnt (w p) else chN oo side w p
theorem chN_P {N : Nat} {w : Nat → Int32} {oo side : Int32} (hN : N < 13) (hw : sMW N w) : ∀ p, p ≤ N → chP oo side w p = nI (chN oo side w p)
  | 0, _ => by rw [chP, chN]; decide
  | p + 1, hp => by
    have ih := chN_P (oo := oo) (side := side) hN hw p (by omega)
    rw [chP, chN, ih]
    by_cases h0 : w p = 0
    · rw [if_pos h0, if_neg (fun k => (isDb_t.mp k).1 h0)]
    · rw [if_neg h0]
      by_cases ho : sOwn oo side p = true
      · rw [if_pos ho, if_pos (isDb_t.mpr ⟨h0, ho⟩), pcf_eq (sSub_12 hN (hw p (by omega))), pk_mul]
      · rw [if_neg ho, if_neg (fun k => ho (isDb_t.mp k).2)]
theorem le_two_pow (m : Nat) : m ≤ 2 ^ m := Nat.le_of_lt Nat.lt_two_pow_self
theorem chN_le {w : Nat → Int32} {oo side : Int32} : ∀ p, chN oo side w p ≤ 2 ^ cWn w p
  | 0 => Nat.le_refl _
  | p + 1 => by
    have ih := chN_le (w := w) (oo := oo) (side := side) p
    rw [chN, cWn, Nat.pow_add]
    split
    · exact Nat.mul_le_mul ih (le_two_pow _)
    · have : 1 ≤ 2 ^ sCnt (w p) := Nat.one_le_two_pow
      calc chN oo side w p ≤ 2 ^ cWn w p := ih
        _ = 2 ^ cWn w p * 1 := (Nat.mul_one _).symm
        _ ≤ 2 ^ cWn w p * 2 ^ sCnt (w p) := Nat.mul_le_mul_left _ this
theorem num_lt {N : Nat} {w : Nat → Int32} {oo side : Int32} {st : Nat → Nat} (hN : N < 13) (hw : sMW N w) (hs : stOk N w oo side st) : ∀ (d p : Nat), p + d = N → (numF oo side w st d p + 1) * chN oo side w p ≤ chN oo side w N
  | 0, p, hp => by
    have : p = N := by omega
    subst this
    rw [numF, Nat.zero_add, Nat.one_mul]; exact Nat.le_refl _
  | d + 1, p, hp => by
    have ih := num_lt hN hw hs d (p + 1) (by omega)
    rw [chN] at ih
    rw [numF]
    by_cases hd : isDb oo side w p = true
    · rw [if_pos hd] at ih ⊢
      have hD := isDb_t.mp hd
      obtain ⟨s1, s2⟩ := hs p (by omega) hD.2 hD.1
      have hlt := cB_lt (x := w p) (q := st p) (by omega) s1
      rw [cB_12 (sSub_12 hN (hw p (by omega)))] at hlt
      refine Nat.le_trans ?_ ih
      have : cB (w p) (st p) + sCnt (w p) * numF oo side w st d (p + 1) + 1 ≤ (numF oo side w st d (p + 1) + 1) * sCnt (w p) := by
        rw [Nat.add_mul, Nat.one_mul, Nat.mul_comm (numF oo side w st d (p + 1))]
        omega
      calc (cB (w p) (st p) + sCnt (w p) * numF oo side w st d (p + 1) + 1) * chN oo side w p ≤ ((numF oo side w st d (p + 1) + 1) * sCnt (w p)) * chN oo side w p := Nat.mul_le_mul_right _ this
        _ = (numF oo side w st d (p + 1) + 1) * (chN oo side w p * sCnt (w p)) := by rw [Nat.mul_assoc, Nat.mul_comm (sCnt (w p))]
    · rw [if_neg hd] at ih ⊢
      exact ih
theorem dig_num {N : Nat} {w : Nat → Int32} {oo side : Int32} {st : Nat → Nat} (hN : N < 13) (hw : sMW N w) (hs : stOk N w oo side st) : ∀ (p d : Nat), p + d = N → digL oo side w (numF oo side w st N 0) p = numF oo side w st d p
  | 0, d, hp => by
    have : d = N := by omega
    subst this; rfl
  | p + 1, d, hp => by
    have ih := dig_num hN hw hs p (d + 1) (by omega)
    rw [digL, ih, numF]
    by_cases hd : isDb oo side w p = true
    · rw [if_pos hd, if_pos hd]
      have hD := isDb_t.mp hd
      obtain ⟨s1, s2⟩ := hs p (by omega) hD.2 hD.1
      have hlt := cB_lt (x := w p) (q := st p) (by omega) s1
      rw [cB_12 (sSub_12 hN (hw p (by omega)))] at hlt
      rw [Nat.add_mul_div_left _ _ (by omega), Nat.div_eq_of_lt hlt, Nat.zero_add]
    · rw [if_neg hd, if_neg hd]
theorem num_one {N : Nat} {w z : Nat → Int32} {oo side : Int32} {st : Nat → Nat} (hN : N < 13) (hw : sMW N w) (hs : stOk N w oo side st) (h : zOf N oo side w (numF oo side w st N 0) z) : oneW N w z oo side st := by
  intro p hp
  obtain ⟨h1, h2⟩ := h p hp
  refine ⟨fun ho => h1 (fun k => ho k.2), fun _ h0 => h1 (fun k => k.1 h0), fun ho h0 => ?_⟩
  obtain ⟨q, hq, hb, hc, e⟩ := h2 ⟨h0, ho⟩
  obtain ⟨s1, s2⟩ := hs p hp ho h0
  have hd : isDb oo side w p = true := isDb_t.mpr ⟨h0, ho⟩
  have hlt := cB_lt (x := w p) (q := st p) (by omega) s1
  rw [cB_12 (sSub_12 hN (hw p hp))] at hlt
  obtain ⟨d, hd2⟩ : ∃ d, p + (d + 1) = N := ⟨N - p - 1, by omega⟩
  rw [dig_num hN hw hs p (d + 1) hd2, numF, if_pos hd, Nat.add_mul_mod_self_left, Nat.mod_eq_of_lt hlt] at hc
  have := cB_inj hb s1 hc
  rw [e, this]
/-! the loop over the numbers -/
theorem fX1_triedE_34 {N Ls M : Nat} {mf w rk : Nat → Int32} {ms mg m0 m1 a1 a2 : Int32} {K : Int32 → Int32 → Int32 → Int32 → Int32 → Int32 → Int32 → (Nat → Int32) → Prop} (hN : N < 13) (hM : M ≤ 64) (hLs : Ls < M) (hsd : kSd a2) (hw : sMW N w) (hf : ∀ p, p < N → mf p = w p) (hr : rkR N m0 m1 rk) (hg : sSub mg (sAll N)) (hbest : ∀ z, zOf N ms a2 w Ls z → sSub (mWon w ms mg rk N a1 a2) (mWon z ms mg rk N a1 a2)) (hK : ∀ b c d e f g z, K (mWon w ms mg rk N a1 a2) b c d e f g z) : ∀ (d k : Nat) (v x1 x2 x3 x4 x5 : Int32) (z : Nat → Int32), k + d = M → sSub v (mWon w ms mg rk N a1 a2) → (Ls < k → sSub (mWon w ms mg rk N a1 a2) v) → qX1_tried_T34 mf (nI N) ms mg m0 m1 a1 a2 (nI M) K (d + 1) v (nI k) x1 x2 x3 x4 x5 z
  | 0, k, v, x1, x2, x3, x4, x5, z, hk, h1, h2 => by
    have : k = M := by omega
    subst this
    have e : v = mWon w ms mg rk N a1 a2 := sSub.antisymm h1 (h2 hLs)
    rw [e]
    exact ⟨fun _ => hK _ _ _ _ _ _ _, fun hc => absurd (nI_le (Nat.le_refl _) (by omega)) hc⟩
  | d + 1, k, v, x1, x2, x3, x4, x5, z, hk, h1, h2 => by
    refine ⟨fun hc => absurd hc (nI_ge (by omega) (by omega)), fun _ => fX1_layE hN (by omega) hw hf (fun z hz => fX0_wonE (mf := z) (w := z) (rk := rk) hN (fun _ _ => rfl) hr hg ?_)⟩
    rw [nI_1]
    refine fX1_triedE_34 hN hM hLs hsd hw hf hr hg hbest hK d (k + 1) _ _ _ _ _ _ _ (by omega) (sSub_or.mpr ⟨h1, won_le hN hsd (zOf_res hN hz)⟩) (fun hlt => ?_)
    by_cases e : Ls = k
    · subst e
      exact (hbest z hz).trans sSub_orr
    · exact (h2 (by omega)).trans sSub_orl
theorem aN_tried {N : Nat} {mf tf : Nat → Int32} {ms mg m0 m1 tz ts tg t0 t1 a1 a2 : Int32} {zn : Int64} {post : Int32 → Int32 → Int32 → Int32 → Int32 → Int32 → (Nat → Int32) → Int64 → Prop} (c : ¬ (kBt a1 0 3 ∧ kSd a2)) (h : post 1 tz ts tg t0 t1 tf zn) : qL_tried mf (nI N) ms mg m0 m1 tf tz ts tg t0 t1 zn a1 a2 post :=
  uL_tried (uX1_triedT (fCkB (fun _ => ⟨rfl, h⟩) (fun k => fCkS (fun _ => ⟨rfl, h⟩) (fun k2 => absurd ⟨k, k2⟩ c))))
theorem i4_of {a : Int32} (c : kBt a 0 3) : a = 0 ∨ a = 1 ∨ a = 2 ∨ a = 3 := by
  obtain ⟨j, hj, rfl⟩ := nI_of2 (M := 3) (n := 3) (by decide) (kBt_l c) c.2
  rcases j with _ | _ | _ | _ | j
  · exact Or.inl (by decide)
  · exact Or.inr (Or.inl (by decide))
  · exact Or.inr (Or.inr (Or.inl (by decide)))
  · exact Or.inr (Or.inr (Or.inr (by decide)))
  · omega
def trA (N : Nat) (w rk : Nat → Int32) (oo og game side : Int32) : Int32 := if chN oo side w N ≤ 64 then mWon w oo og rk N game side else -9
theorem chN_31 {N : Nat} {w : Nat → Int32} {oo side : Int32} (h30 : cWn w N ≤ 30) : chN oo side w N < 2 ^ 31 :=
  Nat.lt_of_le_of_lt (Nat.le_trans (chN_le N) (Nat.pow_le_pow_right (by omega) h30)) (by decide)
theorem aE_tried {N : Nat} {mf tf w rk : Nat → Int32} {ms mg m0 m1 tz ts tg t0 t1 a1 a2 : Int32} {zn : Int64} {post : Int32 → Int32 → Int32 → Int32 → Int32 → Int32 → (Nat → Int32) → Int64 → Prop} (hN : N < 13) (hw : sMW N w) (hf : ∀ p, p < N → mf p = w p) (hr : rkR N m0 m1 rk) (hg : sSub mg (sAll N)) (h30 : cWn w N ≤ 30) (c : kBt a1 0 3 ∧ kSd a2) (h : ∀ x1 x2 x3 x4 x5 g, post 0 x1 x2 x3 x4 x5 g (trA N w rk ms mg a1 a2).toInt64) : qL_tried mf (nI N) ms mg m0 m1 tf tz ts tg t0 t1 zn a1 a2 post := by
  have h31 := chN_31 (oo := ms) (side := a2) h30
  have eP := chN_P (oo := ms) (side := a2) hN hw N (Nat.le_refl N)
  refine uL_tried (uX1_triedT (fCkB (fun k => absurd c.1 k) (fun _ => fCkS (fun k => absurd c.2 k) (fun _ => fX0_choicesE hN hw hf ?_))))
  rw [eP]
  unfold trA at h
  by_cases h64 : chN ms a2 w N ≤ 64
  · refine ⟨fun _ => ?_, fun e => absurd (nI_le (b := 64) h64 (by omega)) e⟩
    rw [if_pos h64] at h
    obtain ⟨st, hs, hst⟩ := strat_all (w := w) (rk := rk) (oo := ms) (og := mg) (game := a1) (side := a2) hN c.2 hw hg (i4_of c.1)
    have hlt := num_lt hN hw hs N 0 (by omega)
    have e1 : chN ms a2 w 0 = 1 := rfl
    rw [e1, Nat.mul_one] at hlt
    refine ⟨chN ms a2 w N + 1, ?_⟩
    have := fX1_triedE_34 (Ls := numF ms a2 w st N 0) (M := chN ms a2 w N) (w := w) (rk := rk) (K := fun v4_34x _ z3_1_34x z3_2_34x z3_3_34x z3_4_34x z3_5_34x z4_0_34x => post 0 z3_1_34x z3_2_34x z3_3_34x z3_4_34x z3_5_34x z4_0_34x v4_34x.toInt64) hN h64 (by omega) c.2 hw hf hr hg (fun z hz => hst z (num_one hN hw hs hz)) (fun _ _ _ _ _ _ _ => h _ _ _ _ _ _) (chN ms a2 w N) 0 0 tz ts tg t0 t1 tf (by omega) sSub_0 (fun hlt => by omega)
    exact this
  · refine ⟨fun e => absurd e (nI_ge (a := 64) (by omega) (by omega)), fun _ => ?_⟩
    rw [if_neg h64] at h
    exact h _ _ _ _ _ _
theorem mE_tried {N : Nat} {w rk : Nat → Int32} {oo og a1 a2 : Int32} {post : Int32 → Int32 → Prop} (hN : N < 13) (hw : sMW N w) (h30 : cWn w N ≤ 30) (c : kBt a1 0 3 ∧ kSd a2) (h : post (trA N w rk oo og a1 a2) 0) : qX3_triedW (nI N) oo og N rk N w a1 a2 post := by
  have h31 := chN_31 (oo := oo) (side := a2) h30
  have eP := chN_P (oo := oo) (side := a2) hN hw N (Nat.le_refl N)
  refine uX3_triedW ⟨fun e => absurd e (kBt_l c.1), fun _ => ⟨fun e => absurd e (Int32.not_lt.mpr c.1.2), fun _ => fX3_isSideE (fun k => absurd c.2 k) (fun _ => ⟨fun _ => uX3_triedW_j22 (fX3_isThrown_W (fun _ => ⟨fun _ => fX3_choicesE hN ?_, fun e => absurd rfl e⟩) (fun e => absurd rfl e)), fun e => absurd e (by decide)⟩)⟩⟩
  rw [eP]
  unfold trA at h
  by_cases h64 : chN oo a2 w N ≤ 64
  · rw [if_pos h64] at h
    exact ⟨fun _ => fX3_wonIn hN h, fun e => absurd (nI_le (b := 64) h64 (by omega)) e⟩
  · rw [if_neg h64] at h
    exact ⟨fun e => absurd e (nI_ge (a := 64) (by omega) (by omega)), fun _ => h⟩
theorem mN_tried {N : Nat} {w rk : Nat → Int32} {oo og a1 a2 : Int32} {post : Int32 → Int32 → Prop} (c : ¬ (kBt a1 0 3 ∧ kSd a2)) (h : post 0 1) : qX3_triedW (nI N) oo og N rk N w a1 a2 post := by
  have thr : qX3_triedW_j17 (nI N) oo og N rk N w a1 a2 post := uX3_triedW_j17 (uX3_triedW_j22 (fX3_isThrown_W (fun e => absurd e (by decide)) (fun _ => ⟨fun e => absurd e (by decide), fun _ => h⟩)))
  refine uX3_triedW ⟨fun _ => thr, fun h0 => ⟨fun _ => thr, fun h3 => fX3_isSideE (fun _ => ⟨fun e => absurd rfl e, fun _ => thr⟩) (fun k => absurd ⟨kBt_of h0 (Int32.not_lt.mp h3), k⟩ c)⟩⟩
