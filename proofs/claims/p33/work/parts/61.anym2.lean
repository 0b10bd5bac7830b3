/-! The reference's longer acts. -/
def kInvM (on : Int32) (orl owl : Nat) (oww : Nat → Int32) (ost : Int32) : Prop := ∃ N, 2 ≤ N ∧ N < 13 ∧ on = nI N ∧ orl = N ∧ owl = N ∧ isPl N ost ∧ sMW N oww
theorem fX3_clear_W37 {n : Nat} {K : Int32 → (Nat → Int32) → Prop} (hn : n < 13) (hK : ∀ a b, K a b) : ∀ (d p : Nat) (z : Nat → Int32), p + d = n → qX3_clear_W37 (nI n) K (d + 1) (nI p) z
  | 0, p, z, hp => by
    have : p = n := by omega
    subst this
    exact ⟨fun _ => hK _ _, fun hc => absurd (nI_le (Nat.le_refl _) (by omega)) hc⟩
  | d + 1, p, z, hp => by
    have ih := fun (z : Nat → Int32) => fX3_clear_W37 (n := n) (K := K) hn hK d (p + 1) z (by omega)
    refine ⟨fun _ => hK _ _, fun _ => ⟨?_, ?_⟩⟩
    · rw [nI_clamp (by omega)]; exact vp_in_nI (by omega) (by omega)
    · rw [nI_1]; exact ih _
theorem fX3_clearW {n : Nat} {oac ore okn oth : Int32} {post : Int32 → Int32 → Int32 → Int32 → Int32 → Int32 → Int32 → Int32 → Int32 → Nat → (Nat → Int32) → Nat → (Nat → Int32) → Prop} (hn : n < 13) (h : ∀ g, post (nI n) 0 0 0 0 oac ore okn oth n g n (fun _ => 0)) : qX3_clearW oac ore okn oth (nI n) post := by
  refine uX3_clearW ?_
  rw [nI_clamp (by omega)]
  exact ⟨nI_pos (by omega), by omega, nI_pos (by omega), by omega, n + 1, fX3_clear_W37 hn (fun _ g => h g) n 0 _ (by omega)⟩
theorem n2_of {a : Int32} (h2 : ¬ a < 2) (h12 : a ≤ 12) : ∃ n, 2 ≤ n ∧ n < 13 ∧ a = nI n := by
  have h0 : ¬ a < 0 := by
    rw [Int32.not_lt] at h2 ⊢
    exact Int32.le_trans (by decide) h2
  obtain ⟨j, hj, rfl⟩ := nI_of2 (M := 12) (n := 12) (by decide) h0 h12
  refine ⟨j, ?_, by omega, rfl⟩
  apply Classical.byContradiction
  intro hn
  exact h2 (nI_lt (b := 2) (by omega) (by omega))
theorem mX3_places {on oo og ost ord oac ore okn a1 : Int32} {orl owl : Nat} {ork oww : Nat → Int32} {post : Int32 → Int32 → Int32 → Int32 → Int32 → Int32 → Int32 → Int32 → Int32 → Int32 → Nat → (Nat → Int32) → Nat → (Nat → Int32) → Prop} (hI : kInvM on orl owl oww ost) (h : ∀ r on' oo' og' ost' ord' oac' ore' oth' orl' ork' owl' oww', kInvM on' orl' owl' oww' ost' → post r on' oo' og' ost' ord' oac' ore' okn oth' orl' ork' owl' oww') : qX3_placesW on oo og orl ork owl oww ost ord oac ore okn a1 post := by
  have thr : qX3_placesW_j12 on oo og orl ork owl oww ost ord oac ore okn a1 post := uX3_placesW_j12 (uX3_placesW_j17 (fX3_isThrown_W (fun e => absurd e (by decide)) (fun _ => ⟨fun e => absurd e (by decide), fun _ => h _ _ _ _ _ _ _ _ _ _ _ _ _ hI⟩)))
  refine uX3_placesW ⟨fun _ => thr, fun h2 => ⟨fun h12 => ?_, fun _ => thr⟩⟩
  obtain ⟨n, hn2, hn, rfl⟩ := n2_of h2 h12
  refine uX3_placesW_j17 (fX3_isThrown_W (fun _ => ⟨fun _ => ?_, fun e => absurd rfl e⟩) (fun e => absurd rfl e))
  exact fX3_clearW hn (fun g => uX3_doneW (h _ _ _ _ _ _ _ _ _ _ _ _ _ ⟨n, hn2, hn, rfl, rfl, rfl, ⟨0, by omega, nI_0.symm⟩, sMW_0⟩))
theorem fX3_initW {oac ore okn oth : Int32} {post : Int32 → Int32 → Int32 → Int32 → Int32 → Int32 → Int32 → Int32 → Int32 → Nat → (Nat → Int32) → Nat → (Nat → Int32) → Prop} (h : ∀ g, post (nI 6) 0 0 0 0 oac ore okn oth 6 g 6 (fun _ => 0)) : qX3_initW oac ore okn oth post := uX3_initW (fX3_clearW (n := 6) (by omega) h)
theorem rem_pl {N s p : Nat} (hN : 0 < N) (hN2 : N < 13) (hp : p < 13) (hs : s < 13) : (nI p + nI s) - (nI p + nI s) / nI N * nI N = nI ((p + s) % N) := by
  rw [nI_add]; exact pk_rem (by omega) hN (by omega)
theorem fX3_circle_W28 {N : Nat} {w : Nat → Int32} {a1 : Int32} {K : Int32 → Int32 → Prop} (h0 : 0 < N) (hN : N < 13) (hK : ∀ a b, K a b) : ∀ (d p : Nat) (x : Int32), p + d = N → qX3_circle_W28 (nI N) N w a1 K (d + 1) x (nI p)
  | 0, p, x, hp => by
    have : p = N := by omega
    subst this
    exact ⟨fun _ => hK _ _, fun hc => absurd (nI_le (Nat.le_refl _) (by omega)) hc⟩
  | d + 1, p, x, hp => by
    have ih := fun (x : Int32) => fX3_circle_W28 (N := N) (w := w) (a1 := a1) (K := K) h0 hN hK d (p + 1) x (by omega)
    simp only [← nI_1] at ih
    exact ⟨fun _ => hK _ _, fun _ => ⟨vp_in_nI (by omega) (by omega), nI_ne0 h0 (by omega), fX3_isIn_any (fun _ => ⟨fun _ => ih _, fun _ => ih _⟩)⟩⟩
theorem fX3_circle_W88 {N s : Nat} {K : Int32 → (Nat → Int32) → Prop} (h0 : 0 < N) (hN : N < 13) (hs : s < 13) (hK : ∀ a z, sMW N z → K a z) : ∀ (d p : Nat) (z : Nat → Int32), p + d = N → sMW N z → qX3_circle_W88 (nI N) N (nI s) K (d + 1) (nI p) z
  | 0, p, z, hp, hz => by
    have : p = N := by omega
    subst this
    exact ⟨fun _ => hK _ _ hz, fun hc => absurd (nI_le (Nat.le_refl _) (by omega)) hc⟩
  | d + 1, p, z, hp, hz => by
    have ih := fun (z : Nat → Int32) hz => fX3_circle_W88 (N := N) (s := s) (K := K) h0 hN hs hK d (p + 1) z (by omega) hz
    simp only [← nI_1] at ih
    refine ⟨fun _ => hK _ _ hz, fun _ => ⟨vp_in_nI (by omega) (by omega), nI_ne0 h0 (by omega), vp_in_nI (by omega) (by omega), ih _ (sMW_ups hz ?_)⟩⟩
    rw [rem_pl h0 hN (by omega) hs, nI_clamp (by omega)]
    exact sSub_or.mpr ⟨hz p (by omega), sBit_all hN (Nat.mod_lt _ h0)⟩
theorem n11_of {a : Int32} (h0 : ¬ a < 0) (h11 : a ≤ 11) : ∃ s, s < 13 ∧ a = nI s := by
  obtain ⟨j, hj, rfl⟩ := nI_of2 (M := 11) (n := 11) (by decide) h0 h11
  exact ⟨j, by omega, rfl⟩
theorem mX3_circle {N : Nat} {w : Nat → Int32} {oac ore a1 : Int32} {post : Int32 → Int32 → Int32 → Int32 → (Nat → Int32) → Prop} (h0 : 0 < N) (hN : N < 13) (hw : sMW N w) (h : ∀ a b c d w', sMW N w' → post a b c d w') : qX3_circleW (nI N) N w oac ore a1 post := by
  have thr : qX3_circleW_j11 (nI N) N w oac ore a1 post := uX3_circleW_j11 (uX3_circleW_j16 (fX3_isThrown_W (fun e => absurd e (by decide)) (fun _ => ⟨fun e => absurd e (by decide), fun _ => h _ _ _ _ _ hw⟩)))
  refine uX3_circleW ⟨fun _ => thr, fun h2 => ⟨fun h12 => ?_, fun _ => thr⟩⟩
  obtain ⟨s, hs, rfl⟩ := n11_of h2 h12
  refine uX3_circleW_j16 (fX3_isThrown_W (fun _ => ⟨fun _ => ?_, fun e => absurd rfl e⟩) (fun e => absurd rfl e))
  refine ⟨N + 1, fX3_circle_W28 h0 hN (fun _ _ => fX3_waysNow_any hN (fun _ => ⟨fun _ => ?_, fun _ => uX3_noW (h _ _ _ _ _ hw)⟩)) N 0 _ (by omega)⟩
  exact ⟨N + 1, fX3_circle_W88 h0 hN hs (fun _ z hz => uX3_doneW (h _ _ _ _ _ hz)) N 0 _ (by omega) hw⟩
theorem strX {s p : Nat} : (nI s + ((7 : Int32) * nI p)) + (nI p * nI p) = nI (s + 7 * p + p * p) := by
  rw [show (7 : Int32) = nI 7 from by decide, pk_mul, pk_mul, nI_add, nI_add]
theorem strY {s p : Nat} : ((3 : Int32) * ((nI s + ((7 : Int32) * nI p)) + (nI p * nI p))) + nI p = nI (3 * (s + 7 * p + p * p) + p) := by
  rw [strX, show (3 : Int32) = nI 3 from by decide, pk_mul, nI_add]
theorem fX3_strew_W37 {N s : Nat} {K : Int32 → Int32 → Int32 → (Nat → Int32) → (Nat → Int32) → Prop} (h0 : 0 < N) (hN : N < 13) (hs : s < 10000) (hK : ∀ a b c z w, sMW N w → K a b c z w) : ∀ (d p : Nat) (x y : Int32) (z w : Nat → Int32), p + d = N → sMW N w → qX3_strew_W37 (nI N) N N (nI s) K (d + 1) (nI p) x y z w
  | 0, p, x, y, z, w, hp, hw => by
    have : p = N := by omega
    subst this
    exact ⟨fun _ => hK _ _ _ _ _ hw, fun hc => absurd (nI_le (Nat.le_refl _) (by omega)) hc⟩
  | d + 1, p, x, y, z, w, hp, hw => by
    have ih := fun (x y : Int32) (z w : Nat → Int32) hw => fX3_strew_W37 (N := N) (s := s) (K := K) h0 hN hs hK d (p + 1) x y z w (by omega) hw
    simp only [← nI_1] at ih
    have hpp : p * p ≤ 12 * 12 := Nat.mul_le_mul (by omega) (by omega)
    have hsub : sSub (((1 : Int32) <<< (((((nI s + ((7 : Int32) * nI p)) + (nI p * nI p)) - ((nI s + ((7 : Int32) * nI p)) + (nI p * nI p)) / nI N * nI N)) &&& (31 : Int32))) ||| ((1 : Int32) <<< (((((3 : Int32) * ((nI s + ((7 : Int32) * nI p)) + (nI p * nI p))) + nI p) - (((3 : Int32) * ((nI s + ((7 : Int32) * nI p)) + (nI p * nI p))) + nI p) / nI N * nI N) &&& (31 : Int32)))) (sAll N) := by
      rw [strY, strX, pk_rem (by omega) h0 (by omega), pk_rem (by omega) h0 (by omega)]
      exact sSub_or.mpr ⟨sBit_all hN (Nat.mod_lt _ h0), sBit_all hN (Nat.mod_lt _ h0)⟩
    exact ⟨fun _ => hK _ _ _ _ _ hw, fun _ => ⟨vp_in_nI (by omega) (by omega), fun _ => ⟨nI_ne0 h0 (by omega), nI_ne0 h0 (by omega), vp_in_nI (by omega) (by omega), ih _ _ _ _ (sMW_ups hw hsub)⟩, fun _ => ⟨nI_ne0 h0 (by omega), nI_ne0 h0 (by omega), vp_in_nI (by omega) (by omega), ih _ _ _ _ (sMW_ups hw hsub)⟩⟩⟩
theorem n9999_of {a : Int32} (h0 : ¬ a < 0) (h9 : a ≤ 9999) : ∃ s, s < 10000 ∧ a = nI s := by
  obtain ⟨j, hj, rfl⟩ := nI_of2 (M := 9999) (n := 9999) (by decide) h0 h9
  exact ⟨j, by omega, rfl⟩
theorem mX3_strew {N : Nat} {w rk : Nat → Int32} {oo og oac a1 : Int32} {post : Int32 → Int32 → Int32 → Int32 → Int32 → (Nat → Int32) → (Nat → Int32) → Prop} (h0 : 0 < N) (hN : N < 13) (hw : sMW N w) (h : ∀ a b c d e z w', sMW N w' → post a b c d e z w') : qX3_strewW (nI N) oo og N rk N w oac a1 post := by
  have thr : qX3_strewW_j12 (nI N) oo og N rk N w oac a1 post := uX3_strewW_j12 (uX3_strewW_j17 (fX3_isThrown_W (fun e => absurd e (by decide)) (fun _ => ⟨fun e => absurd e (by decide), fun _ => h _ _ _ _ _ _ _ hw⟩)))
  refine uX3_strewW ⟨fun _ => thr, fun h2 => ⟨fun h12 => ?_, fun _ => thr⟩⟩
  obtain ⟨s, hs, rfl⟩ := n9999_of h2 h12
  refine uX3_strewW_j17 (fX3_isThrown_W (fun _ => ⟨fun _ => ?_, fun e => absurd rfl e⟩) (fun e => absurd rfl e))
  exact ⟨N + 1, fX3_strew_W37 h0 hN hs (fun _ _ _ _ _ hw' => fX3_waysNow_any hN (fun _ => uX3_doneW (h _ _ _ _ _ _ _ hw'))) N 0 _ _ _ _ (by omega) hw⟩
/-! digest -/
theorem fX3_digest_W11 {N : Nat} {w : Nat → Int32} {oo og ost ord : Int32} {K : Int64 → Int32 → Prop} (hN : N < 13) (hK : ∀ a b, K a b) : ∀ (d p : Nat) (x : Int64), p + d = 7 → qX3_digest_W11 (nI N) oo og N w ost ord K (d + 1) x (nI p)
  | 0, p, x, hp => by
    have : p = 7 := by omega
    subst this
    exact ⟨fun _ => hK _ _, fun hc => absurd (nI_lt (a := 6) (b := 7) (by omega) (by omega)) hc⟩
  | d + 1, p, x, hp => by
    have ih := fun (x : Int64) => fX3_digest_W11 (N := N) (w := w) (oo := oo) (og := og) (ost := ost) (ord := ord) (K := K) hN hK d (p + 1) x (by omega)
    simp only [← nI_1] at ih
    exact ⟨fun _ => hK _ _, fun _ => fX3_toldNow_any hN (fun _ => uX3_add (ih _))⟩
theorem fX3_digest_W90 {N : Nat} {w rk : Nat → Int32} {oo og v5 : Int32} {K : Int64 → Int32 → Prop} (hN : N < 13) (hv : isPl N v5) (hK : ∀ a b, K a b) : ∀ (d p : Nat) (x : Int64), p + d = 4 → qX3_digest_W90 (nI N) oo og N rk N w v5 K (d + 1) x (nI p)
  | 0, p, x, hp => by
    have : p = 4 := by omega
    subst this
    exact ⟨fun _ => hK _ _, fun hc => absurd (nI_lt (a := 3) (b := 4) (by omega) (by omega)) hc⟩
  | d + 1, p, x, hp => by
    have ih := fun (x : Int64) => fX3_digest_W90 (N := N) (w := w) (rk := rk) (oo := oo) (og := og) (v5 := v5) (K := K) hN hv hK d (p + 1) x (by omega)
    simp only [← nI_1] at ih
    exact ⟨fun _ => hK _ _, fun _ => fX3_ofPlaceNow_any hN hv (fun _ => uX3_add (ih _))⟩
theorem upd2_0 {a b : Int32} : (upd (upd (fun _ => (0 : Int32)) (0 : Int32).toNatClampNeg a) (1 : Int32).toNatClampNeg b) (0 : Int32).toNatClampNeg = a := rfl
theorem upd2_1 {a b : Int32} : (upd (upd (fun _ => (0 : Int32)) (0 : Int32).toNatClampNeg a) (1 : Int32).toNatClampNeg b) (1 : Int32).toNatClampNeg = b := rfl
theorem in2_0 : vp_in (0 : Int32) 2 := vp_in_nI (n := 0) (by omega) (by omega)
theorem in2_1 : vp_in (1 : Int32) 2 := vp_in_nI (n := 1) (by omega) (by omega)
theorem fX3_digest_W119 {N : Nat} {w : Nat → Int32} {oo og v5 : Int32} {K : Int64 → Int32 → Prop} {x : Int64} (hN : N < 13) (hv : isPl N v5) (hK : ∀ a b, K a b) : qX3_digest_W119 (nI N) oo og N w (sLim w oo 0 N og) (sLim w oo 1 N og) v5 K 3 x 0 := by
  refine ⟨fun hc => absurd hc (by decide), fun _ => ⟨in2_0, ?_⟩⟩
  rw [upd2_0]
  refine fX3_roundsC hN hv (fun _ => uX3_add ?_)
  rw [show (0 : Int32) + 1 = 1 from by decide]
  refine ⟨fun hc => absurd hc (by decide), fun _ => ⟨in2_1, ?_⟩⟩
  rw [upd2_1]
  refine fX3_roundsC hN hv (fun _ => uX3_add ?_)
  exact ⟨fun _ => hK _ _, fun hc => absurd (by decide) hc⟩
theorem fX3_digest_W152 {N : Nat} {w : Nat → Int32} {oo og v5 : Int32} {K : Int64 → Int32 → Prop} {x : Int64} (hN : N < 13) (hv : isPl N v5) (hK : ∀ a b, K a b) : qX3_digest_W152 (nI N) oo og N w (sAgain w oo 0 og N) (sAgain w oo 1 og N) v5 K 3 x 0 := by
  refine ⟨fun hc => absurd hc (by decide), fun _ => ⟨in2_0, ?_⟩⟩
  rw [upd2_0]
  refine fX3_roundsA hN hv (fun _ => uX3_add ?_)
  rw [show (0 : Int32) + 1 = 1 from by decide]
  refine ⟨fun hc => absurd hc (by decide), fun _ => ⟨in2_1, ?_⟩⟩
  rw [upd2_1]
  refine fX3_roundsA hN hv (fun _ => uX3_add ?_)
  exact ⟨fun _ => hK _ _, fun hc => absurd (by decide) hc⟩
theorem fX3_digest_W192 {N : Nat} {w rk : Nat → Int32} {oo og r41 r49 r61 r69 : Int32} {K : Int64 → Int32 → Prop} (hN : N < 13) (hK : ∀ a b, K a b) : ∀ (d p : Nat) (x : Int64), p + d = 2 → qX3_digest_W192 (nI N) oo og N rk N w r41 r49 r61 r69 K (d + 1) x (nI p)
  | 0, p, x, hp => by
    have : p = 2 := by omega
    subst this
    exact ⟨fun _ => hK _ _, fun hc => absurd (nI_le (Nat.le_refl 2) (by omega)) hc⟩
  | d + 1, p, x, hp => by
    have ih := fun (x : Int64) => fX3_digest_W192 (N := N) (w := w) (rk := rk) (oo := oo) (og := og) (r41 := r41) (r49 := r49) (r61 := r61) (r69 := r69) (K := K) hN hK d (p + 1) x (by omega)
    simp only [← nI_1] at ih
    have hv : vp_in (nI p) 2 := vp_in_nI (by omega) (by omega)
    exact ⟨fun _ => hK _ _, fun _ => ⟨hv, uX3_add (fX3_keepingOf_any hN (fun _ => uX3_add ⟨hv, uX3_add (fX3_wonIn_any hN (fun _ => uX3_add (fX3_fallsOf_any hN (fun _ => uX3_add (fX3_choicesOf_any hN (fun _ => uX3_add (ih _)))))))⟩))⟩⟩
theorem fX3_digest_W78 {N : Nat} {w rk : Nat → Int32} {oo og : Int32} {K : Int64 → Int32 → Prop} (hN : N < 13) (hK : ∀ a b, K a b) : ∀ (d p : Nat) (x : Int64), p + d = N → qX3_digest_W78 (nI N) oo og N rk N w (sLim w oo 0 N og) (sLim w oo 1 N og) (sAgain w oo 0 og N) (sAgain w oo 1 og N) K (d + 1) x (nI p)
  | 0, p, x, hp => by
    have : p = N := by omega
    subst this
    exact ⟨fun _ => hK _ _, fun hc => absurd (nI_le (Nat.le_refl _) (by omega)) hc⟩
  | d + 1, p, x, hp => by
    have ih := fun (x : Int64) => fX3_digest_W78 (N := N) (w := w) (rk := rk) (oo := oo) (og := og) (K := K) hN hK d (p + 1) x (by omega)
    simp only [← nI_1] at ih
    have hv : isPl N (nI p) := ⟨p, by omega, rfl⟩
    exact ⟨fun _ => hK _ _, fun _ => ⟨5, fX3_digest_W90 hN hv (fun _ _ => ⟨3, fX3_digest_W119 hN hv (fun _ _ => ⟨3, fX3_digest_W152 hN hv (fun _ _ => ih _)⟩)⟩) 4 0 _ rfl⟩⟩
theorem mX3_digest {N : Nat} {w rk : Nat → Int32} {oo og ost ord oac ore okn : Int32} {post : Int64 → Int32 → Prop} (hN : N < 13) (h : ∀ a b, post a b) : qX3_digestW (nI N) oo og N rk N w ost ord oac ore okn post := by
  refine uX3_digestW ⟨8, fX3_digest_W11 hN (fun _ _ => ?_) 7 0 _ rfl⟩
  refine fX3_comingOf hN ⟨in2_0, fX3_comingOf hN ⟨in2_1, fX3_againOf hN ⟨in2_0, fX3_againOf hN ⟨in2_1, N + 1, fX3_digest_W78 hN (fun _ _ => ?_) N 0 _ (by omega)⟩⟩⟩⟩
  exact ⟨3, fX3_digest_W192 hN (fun _ _ => uX3_add (uX3_add (uX3_add (uX3_add (h _ _))))) 2 0 _ rfl⟩
/-! text -/
theorem fX3_ways_W33 {N : Nat} {w dO dT : Nat → Int32} {a1 : Int32} {K : Int32 → Int32 → (Nat → Int32) → Nat → Prop} (hN : N < 13) (ha : isPl N a1) (hK : ∀ r c bl bf, c ≤ 40 → sbI c bl bf → K r (nI c) bf bl) : ∀ (d p c bl : Nat) (bf : Nat → Int32), p + d = N → c ≤ 3 * p → sbI c bl bf → qX3_ways_W33 dO dT (nI N) N w a1 K (d + 1) (nI p) (nI c) bf bl
  | 0, p, c, bl, bf, hp, hc, hs => by
    have : p = N := by omega
    subst this
    exact ⟨fun _ => hK _ _ _ _ (by omega) hs, fun hc => absurd (nI_le (Nat.le_refl _) (by omega)) hc⟩
  | d + 1, p, c, bl, bf, hp, hc, hs => by
    have ih := fun (c bl : Nat) (bf : Nat → Int32) hc hs => fX3_ways_W33 (N := N) (w := w) (dO := dO) (dT := dT) (a1 := a1) (K := K) hN ha hK d (p + 1) c bl bf (by omega) hc hs
    simp only [← nI_1] at ih
    refine ⟨fun _ => hK _ _ _ _ (by omega) hs, fun _ => ⟨vp_in_pl hN ha, fX3_isIn_any (fun _ => ⟨fun _ => ih _ _ _ (by omega) hs, fun _ => uJ4_length_8abf5 (uJ5_length_8abf5 ⟨fun _ => ?_, fun _ => ?_⟩)⟩)⟩⟩
    · exact sbStr hs (by omega) (by omega) (fun c' _ _ hc' hs' => sbInt hs' (by omega) (by omega) (fun c2 _ _ hc2 hs2 => ih _ _ _ (by omega) hs2))
    · exact sbStr hs (by omega) (by omega) (fun c' _ _ hc' hs' => sbInt hs' (by omega) (by omega) (fun c2 _ _ hc2 hs2 => ih _ _ _ (by omega) hs2))
theorem fX3_ways_j14 {N : Nat} {w dO dT : Nat → Int32} {a1 s0 : Int32} {post : Int32 → Prop} (hN : N < 13) (ha : s0 = 0 → isPl N a1) (h : ∀ r, post r) : qX3_waysW_j14 dO dT (nI N) N w a1 s0 post := by
  refine uX3_waysW_j14 (fX3_isThrown_W (fun e => ⟨fun _ => ?_, fun e => absurd rfl e⟩) (fun _ => ⟨fun e => absurd e (by decide), fun _ => h _⟩))
  exact sbInit (fun bl bf hs => ⟨N + 1, by omega, fX3_ways_W33 hN (ha e) (fun _ c bl bf hc hs => sbEnd hs (by omega) (fun _ _ _ _ _ _ _ _ => h _)) N 0 0 bl bf (by omega) (by omega) hs⟩)
theorem mX3_ways {N : Nat} {w dO dT : Nat → Int32} {a1 : Int32} {post : Int32 → Prop} (hN : N < 13) (h : ∀ r, post r) : qX3_waysW (nI N) N w dO dT a1 post :=
  uX3_waysW (fX3_isPlace hN ⟨fun e => absurd rfl e, fun _ => fX3_ways_j14 hN (fun e => absurd e (by decide)) h⟩ (fun ha => ⟨fun _ => fX3_ways_j14 hN (fun _ => ha) h, fun e => absurd e (by decide)⟩))
/-- the least place of a set -/
theorem ntz_tab2 : ∀ a, a < 64 → ∀ b, b < 64 → 0 < 64 * a + b → ∃ t, t < 12 ∧ ((nI (64 * a + b) ^^^ (-1)) &&& (nI (64 * a + b) - 1)) = nI (2 ^ t - 1) ∧ bt (nI (64 * a + b)) t = true := by decide +kernel
theorem ntz_tab (k : Nat) (hk : k < 4096) (h0 : 0 < k) : ∃ t, t < 12 ∧ ((nI k ^^^ (-1)) &&& (nI k - 1)) = nI (2 ^ t - 1) ∧ bt (nI k) t = true := by
  have e : 64 * (k / 64) + k % 64 = k := by omega
  have := ntz_tab2 (k / 64) (by omega) (k % 64) (by omega)
  rw [e] at this
  exact this h0
theorem ntz_all {N : Nat} (hN : N < 13) : sSub (sAll N) (4095 : Int32) := by
  intro q hq hb
  rw [bt_sAll N hN q hq, decide_eq_true_eq] at hb
  exact (by decide +kernel : ∀ q, q < 12 → bt 4095 q = true) q (by omega)
theorem and_of_sub {x y : Int32} (h : sSub x y) : x &&& y = x := sSub.antisymm sSub_andl (sSub_and.mpr ⟨sSub.rfl, h⟩)
theorem ntz_val {t : Nat} {x : Int32} {post : Int32 → Prop} (ht : t < 12) (e : ((x ^^^ (-1)) &&& (x - 1)) = nI (2 ^ t - 1)) (h : post (nI t)) : qJ6_numberOfTrailingZeros_0f7a4 x post := by
  refine uJ6_numberOfTrailingZeros_0f7a4 ?_
  rw [e]
  clear e
  rcases t with _ | _ | _ | _ | _ | _ | _ | _ | _ | _ | _ | _ | t
  all_goals first | omega | skip
  all_goals
    repeat' (first | (with_reducible first | exact fun hc => absurd hc (by decide) | exact fun hc => absurd (by decide) hc | refine uJ6_numberOfTrailingZeros_0f7a4_j34 ?_ | refine uJ6_numberOfTrailingZeros_0f7a4_j49 ?_ | refine uJ6_numberOfTrailingZeros_0f7a4_j62 ?_ | refine And.intro ?_ ?_ | intro _) | exact sb_at (P := post) (by decide) h)
theorem fJ6_ntz {N : Nat} {x : Int32} {post : Int32 → Prop} (hN : N < 13) (hx : sSub x (sAll N)) (h0 : ¬ x = 0) (h : ∀ q, q < N → post (nI q)) : qJ6_numberOfTrailingZeros_0f7a4 x post := by
  have e := pk_and x (m := 4095) 12 (by decide)
  rw [and_of_sub (hx.trans (ntz_all hN))] at e
  have hk0 : 0 < x.toBitVec.toNat % 2 ^ 12 := by
    apply Nat.pos_of_ne_zero
    intro hz
    rw [hz, nI_0] at e
    exact h0 e
  obtain ⟨t, ht, e2, hb⟩ := ntz_tab _ (Nat.mod_lt _ (by decide)) hk0
  rw [← e] at e2 hb
  refine ntz_val ht e2 (h t ?_)
  have := hx t (by omega) hb
  rw [bt_sAll N hN t (by omega), decide_eq_true_eq] at this
  exact this
theorem sCnt_all : ∀ N, N < 13 → sCnt (sAll N) = N := by decide +kernel
theorem fX3_play_W55 {N : Nat} {w rk dO dT : Nat → Int32} {oo og a1 : Int32} {K : Int32 → Int32 → Int32 → (Nat → Int32) → Nat → Prop} (hN : N < 13) (hw : sMW N w) (hK : ∀ a b c bl bf, c ≤ 60 → sbI c bl bf → K a b (nI c) bf bl) : ∀ (d t c bl : Nat) (met : Int32) (bf : Nat → Int32), t < N → sSub met (sAll N) → N - sCnt met ≤ d → c + 3 * d ≤ 50 → sbI c bl bf → qX3_play_W55 dO dT (nI N) oo og N rk N w a1 K (d + 1) met (nI t) (nI c) bf bl
  | d, t, c, bl, met, bf, ht, hm, hd, hc, hs => by
    have hin : vp_in (nI t) N := vp_in_nI ht (by omega)
    have tail : ∀ q, q < N → qJ4_append_15ec4W (nI c) bl bf 2 (fun x119_uv03 x119_ul1 x119_uf1 => qJ4_append_bf812W x119_uv03 x119_ul1 x119_uf1 dO dT (nI q) (fun x124_uv03 x124_ul1 x124_uf1 => qX3_isIn met (nI q) (fun r132 => ((r132 = (0 : Int32) → qX3_play_W55 dO dT (nI N) oo og N rk N w a1 K d (met ||| ((1 : Int32) <<< (nI q &&& (31 : Int32)))) (nI q) x124_uv03 x124_uf1 x124_ul1) ∧ (¬ r132 = (0 : Int32) → K met (nI q) x124_uv03 x124_uf1 x124_ul1))))) := by
      intro q hq
      refine sbStr hs (by omega) (by omega) (fun c1 bl1 bf1 hc1 hs1 => sbInt hs1 (by omega) (by omega) (fun c2 bl2 bf2 hc2 hs2 => ?_))
      refine fX3_isIn (by omega) (fun hb => ⟨fun _ => ?_, fun e => absurd rfl e⟩) (fun _ => ⟨fun e => absurd e (by decide), fun _ => hK _ _ _ _ _ (by omega) hs2⟩)
      have hsub : sSub (met ||| ((1 : Int32) <<< (nI q &&& (31 : Int32)))) (sAll N) := sSub_or.mpr ⟨hm, sBit_all hN hq⟩
      have hlt : sCnt met < sCnt (met ||| ((1 : Int32) <<< (nI q &&& (31 : Int32)))) := by
        refine sCnt_lt sSub_orl (fun e => ?_)
        have h1 : bt (met ||| sBit q) q = true := by rw [b_or, bt_sBit (by omega) (by omega)]; simp
        have e' : met = met ||| sBit q := e
        rw [← e', hb] at h1
        cases h1
      have hle := sCnt_mono hsub
      rw [sCnt_all N hN] at hle
      match d, hd, hc with
      | 0, hd, hc => omega
      | d + 1, hd, hc => exact fX3_play_W55 hN hw hK d q c2 bl2 _ bf2 hq hsub (by omega) (by omega) hs2
    refine ⟨hin, fun _ => hK _ _ _ _ _ (by omega) hs, fun h0 => ⟨fun _ => ?_, fun _ => ?_⟩⟩
    · refine fX3_sideOf_any (fun r => fX3_choiceOf_pl hN ⟨t, ht, rfl⟩ (Or.inr (Or.inl rfl)) ⟨fun e => absurd e (by decide), fun _ => ⟨hin, ?_⟩⟩ (fun r hr => ⟨fun _ => ?_, fun e => absurd (isPl_nn hN hr) e⟩))
      · exact fJ6_ntz hN (sMW_at hN hw ⟨t, ht, rfl⟩) h0 (fun q hq => tail q hq)
      · obtain ⟨q, hq, rfl⟩ := hr
        exact tail q hq
    · refine fX3_sideOf_any (fun r => fX3_choiceOf_pl hN ⟨t, ht, rfl⟩ (Or.inl rfl) ⟨fun e => absurd e (by decide), fun _ => ⟨hin, ?_⟩⟩ (fun r hr => ⟨fun _ => ?_, fun e => absurd (isPl_nn hN hr) e⟩))
      · exact fJ6_ntz hN (sMW_at hN hw ⟨t, ht, rfl⟩) h0 (fun q hq => tail q hq)
      · obtain ⟨q, hq, rfl⟩ := hr
        exact tail q hq
theorem fX3_play_j26 {N : Nat} {w rk dO dT : Nat → Int32} {oo og a1 a2 s0 s1 : Int32} {post : Int32 → Prop} (hN : N < 13) (hw : sMW N w) (ha : s1 = 0 → isPl N a2) (h : ∀ r, post r) : qX3_playW_j26 dO dT (nI N) oo og N rk N w a1 a2 s0 s1 post := by
  refine uX3_playW_j26 (fX3_isThrownW (fun e _ => ⟨fun _ => ?_, fun e => absurd rfl e⟩) (fun _ _ => ⟨fun e => absurd e (by decide), fun _ => h _⟩) (fun _ => ⟨fun e => absurd e (by decide), fun _ => h _⟩))
  obtain ⟨t, ht, rfl⟩ := ha e
  refine sbInit (fun bl bf hs => sbInt hs (by omega) (by omega) (fun c bl bf hc hs => ⟨13, by omega, ?_⟩))
  have hb : 1 ≤ sCnt ((1 : Int32) <<< (nI t &&& (31 : Int32))) := by
    have : sCnt 0 < sCnt (sBit t) := sCnt_lt sSub_0 (fun e => by
      have h1 : bt (sBit t) t = true := by rw [bt_sBit (by omega) (by omega)]; simp
      rw [← e, b_0] at h1
      cases h1)
    exact Nat.lt_of_le_of_lt (Nat.zero_le _) this
  exact fX3_play_W55 hN hw (fun _ _ c bl bf hc hs => sbEnd hs (by omega) (fun _ _ _ _ _ _ _ _ => h _)) 12 t c bl _ bf ht (sBit_all hN ht) (by omega) (by omega) hs
theorem mX3_play {N : Nat} {w rk dO dT : Nat → Int32} {oo og a1 a2 : Int32} {post : Int32 → Prop} (hN : N < 13) (hw : sMW N w) (h : ∀ r, post r) : qX3_playW (nI N) oo og N rk N w dO dT a1 a2 post := by
  have j : ∀ s1, (s1 = 0 → isPl N a2) → qX3_playW_j14 dO dT (nI N) oo og N rk N w a1 a2 s1 post := fun s1 ha => uX3_playW_j14 (fX3_isSide ⟨fun e => absurd rfl e, fun _ => fX3_play_j26 hN hw ha h⟩ (fun _ => ⟨fun _ => fX3_play_j26 hN hw ha h, fun e => absurd e (by decide)⟩))
  exact uX3_playW (fX3_isPlace hN ⟨fun e => absurd rfl e, fun _ => j _ (fun e => absurd e (by decide))⟩ (fun ha => ⟨fun _ => j _ (fun _ => ha), fun e => absurd e (by decide)⟩))
