/-! What the class's own methods do, whatever they answer. -/
theorem ne0_of_nle {x : Int32} (h : ¬ x ≤ 0) : ¬ x = 0 := fun e => h (by rw [e]; decide)
theorem fX1_isRankedSound_43 {N : Nat} {w : Nat → Int32} {oo r6 r16 : Int32} {K : Int32 → Prop} {post : Int32 → Prop} (hN : N < 13) (hK : ∀ a, K a) (h : ∀ r, r = 0 ∨ r = 1 → post r) : ∀ (d p : Nat), p + d = N → qX1_isRankedSound_43 w (nI N) oo r6 r16 K post (d + 1) (nI p)
  | 0, p, hp => by
    have : p = N := by omega
    subst this
    exact ⟨fun _ => by exact hK .., fun hc => absurd (nI_le (Nat.le_refl _) (by omega)) hc⟩
  | d + 1, p, hp => by
    have ih := fX1_isRankedSound_43 (N := N) (w := w) (oo := oo) (r6 := r6) (r16 := r16) (K := K) (post := post) hN hK h d (p + 1) (by omega)
    simp only [← nI_1] at ih
    refine ⟨fun _ => by exact hK .., fun _ => ?_⟩
    repeat' (first | (with_reducible first | exact hm | apply h | apply hK | apply ih | exact Or.inl rfl | exact Or.inr rfl | exact h _ (Or.inl rfl) | exact h _ (Or.inr rfl) | refine fX0_waysFrom_any ?_ | refine fJ6_bitCount_any ?_ | refine fX1_has_any ?_ | refine fX0_all_any ?_ | refine fX0_sideOf_any ?_ | refine fX0_rankOf_any ?_ | refine fX0_placesOf_any ?_ | refine fX0_wrapped_any ?_ | refine fX0_seenBefore_any hN ?_ | refine fX0_reaching_any hN ?_ | refine fX0_won_any hN ?_ | refine fX0_setSideW_any ?_ | refine fX0_setRankW_any ?_ | refine fX0_setWaysW_any ?_ | refine fX0_putWayW_any ?_ | refine fX0_takeWayW_any ?_ | refine fX0_countWays_any hN ?_ | refine fX0_countWithoutWays_any hN ?_ | refine fX0_countChoices_any hN ?_ | refine fX0_waysInto_any hN ?_ | refine fX0_roundsTo_any hN ?_ | refine fX0_clearW_any ?_ | refine fX0_copyFromW_any ?_ | exact fun hc => absurd rfl hc | exact fun hc => absurd hc (by decide) | refine And.intro ?_ ?_ | intro _) | apply ih)
theorem fX1_isRankedSound_any {N : Nat} {w : Nat → Int32} {oo og k0 k1 : Int32} {post : Int32 → Prop} (hN : N < 13) (h : ∀ r, r = 0 ∨ r = 1 → post r) : qX1_isRankedSound w (nI N) oo og k0 k1 post := by
  refine uX1_isRankedSound ?_
  repeat' (first | (with_reducible first | exact hm | apply h | apply hK | apply ih | exact Or.inl rfl | exact Or.inr rfl | exact h _ (Or.inl rfl) | exact h _ (Or.inr rfl) | refine ⟨N + 1, fX1_isRankedSound_43 hN (fun _ => h _ (Or.inr rfl)) h N 0 (by omega)⟩ | refine fX0_pick_any hN ?_ ?_ | refine fX0_pickWithin_any hN ?_ ?_ | refine fX1_least_any ?_ ?_ | refine fX1_member_any ?_ ?_ | refine fX0_waysFrom_any ?_ | refine fJ6_bitCount_any ?_ | refine fX1_has_any ?_ | refine fX0_all_any ?_ | refine fX0_sideOf_any ?_ | refine fX0_rankOf_any ?_ | refine fX0_placesOf_any ?_ | refine fX0_wrapped_any ?_ | refine fX0_seenBefore_any hN ?_ | refine fX0_reaching_any hN ?_ | refine fX0_won_any hN ?_ | refine fX0_setSideW_any ?_ | refine fX0_setRankW_any ?_ | refine fX0_setWaysW_any ?_ | refine fX0_putWayW_any ?_ | refine fX0_takeWayW_any ?_ | refine fX0_countWays_any hN ?_ | refine fX0_countWithoutWays_any hN ?_ | refine fX0_countChoices_any hN ?_ | refine fX0_waysInto_any hN ?_ | refine fX0_roundsTo_any hN ?_ | refine fX0_clearW_any ?_ | refine fX0_copyFromW_any ?_ | exact fun hc => absurd rfl hc | exact fun hc => absurd hc (by decide) | refine And.intro ?_ ?_ | intro _))
theorem fX1_isComingSound_any {N : Nat} {w : Nat → Int32} {oo og k0 k1 : Int32} {a1 : Int32} {post : Int32 → Prop} (hN : N < 13) (h : ∀ r, r = 0 ∨ r = 1 → post r) : qX1_isComingSound w (nI N) oo og k0 k1 a1 post := by
  refine uX1_isComingSound ?_
  repeat' (first | (with_reducible first | exact hm | apply h | apply hK | apply ih | exact Or.inl rfl | exact Or.inr rfl | exact h _ (Or.inl rfl) | exact h _ (Or.inr rfl) | refine fX0_pick_any hN ?_ ?_ | refine fX0_pickWithin_any hN ?_ ?_ | refine fX1_least_any ?_ ?_ | refine fX1_member_any ?_ ?_ | refine fX0_waysFrom_any ?_ | refine fJ6_bitCount_any ?_ | refine fX1_has_any ?_ | refine fX0_all_any ?_ | refine fX0_sideOf_any ?_ | refine fX0_rankOf_any ?_ | refine fX0_placesOf_any ?_ | refine fX0_wrapped_any ?_ | refine fX0_seenBefore_any hN ?_ | refine fX0_reaching_any hN ?_ | refine fX0_won_any hN ?_ | refine fX0_setSideW_any ?_ | refine fX0_setRankW_any ?_ | refine fX0_setWaysW_any ?_ | refine fX0_putWayW_any ?_ | refine fX0_takeWayW_any ?_ | refine fX0_countWays_any hN ?_ | refine fX0_countWithoutWays_any hN ?_ | refine fX0_countChoices_any hN ?_ | refine fX0_waysInto_any hN ?_ | refine fX0_roundsTo_any hN ?_ | refine fX0_clearW_any ?_ | refine fX0_copyFromW_any ?_ | exact fun hc => absurd rfl hc | exact fun hc => absurd hc (by decide) | refine And.intro ?_ ?_ | intro _))
theorem fX1_isAgainSound_any {N : Nat} {w : Nat → Int32} {oo og k0 k1 : Int32} {a1 : Int32} {post : Int32 → Prop} (hN : N < 13) (h : ∀ r, r = 0 ∨ r = 1 → post r) : qX1_isAgainSound w (nI N) oo og k0 k1 a1 post := by
  refine uX1_isAgainSound ?_
  repeat' (first | (with_reducible first | exact hm | apply h | apply hK | apply ih | exact Or.inl rfl | exact Or.inr rfl | exact h _ (Or.inl rfl) | exact h _ (Or.inr rfl) | refine fX0_pick_any hN ?_ ?_ | refine fX0_pickWithin_any hN ?_ ?_ | refine fX1_least_any ?_ ?_ | refine fX1_member_any ?_ ?_ | refine fX0_waysFrom_any ?_ | refine fJ6_bitCount_any ?_ | refine fX1_has_any ?_ | refine fX0_all_any ?_ | refine fX0_sideOf_any ?_ | refine fX0_rankOf_any ?_ | refine fX0_placesOf_any ?_ | refine fX0_wrapped_any ?_ | refine fX0_seenBefore_any hN ?_ | refine fX0_reaching_any hN ?_ | refine fX0_won_any hN ?_ | refine fX0_setSideW_any ?_ | refine fX0_setRankW_any ?_ | refine fX0_setWaysW_any ?_ | refine fX0_putWayW_any ?_ | refine fX0_takeWayW_any ?_ | refine fX0_countWays_any hN ?_ | refine fX0_countWithoutWays_any hN ?_ | refine fX0_countChoices_any hN ?_ | refine fX0_waysInto_any hN ?_ | refine fX0_roundsTo_any hN ?_ | refine fX0_clearW_any ?_ | refine fX0_copyFromW_any ?_ | exact fun hc => absurd rfl hc | exact fun hc => absurd hc (by decide) | refine And.intro ?_ ?_ | intro _))
theorem fX1_layChoices_W16 {N : Nat} {w : Nat → Int32} {oo a1 : Int32} {K : Int32 → Int32 → (Nat → Int32) → Prop} (hN : N < 13) (hK : ∀ a b c, K a b c) : ∀ (d p : Nat) (x : Int32) (z : (Nat → Int32)), p + d = N → qX1_layChoices_W16 w (nI N) oo a1 K (d + 1) x (nI p) z
  | 0, p, x, z, hp => by
    have : p = N := by omega
    subst this
    exact ⟨fun _ => by exact hK .., fun hc => absurd (nI_le (Nat.le_refl _) (by omega)) hc⟩
  | d + 1, p, x, z, hp => by
    have ih := fun (x : Int32) (z : (Nat → Int32)) => fX1_layChoices_W16 (N := N) (w := w) (oo := oo) (a1 := a1) (K := K) hN hK d (p + 1) x z (by omega)
    simp only [← nI_1] at ih
    refine ⟨fun _ => by exact hK .., fun _ => ?_⟩
    repeat' (first | (with_reducible first | exact hm | apply h | apply hK | apply ih | exact Or.inl rfl | exact Or.inr rfl | refine fX0_pick_any hN ?_ ?_ | refine fX0_pickWithin_any hN ?_ ?_ | refine fX1_least_any ?_ ?_ | refine fX1_member_any ?_ ?_ | exact ne0_of_nle (by assumption) | refine fX0_waysFrom_any ?_ | refine fJ6_bitCount_any ?_ | refine fX1_has_any ?_ | refine fX0_all_any ?_ | refine fX0_sideOf_any ?_ | refine fX0_rankOf_any ?_ | refine fX0_placesOf_any ?_ | refine fX0_wrapped_any ?_ | refine fX0_seenBefore_any hN ?_ | refine fX0_reaching_any hN ?_ | refine fX0_won_any hN ?_ | refine fX0_setSideW_any ?_ | refine fX0_setRankW_any ?_ | refine fX0_setWaysW_any ?_ | refine fX0_putWayW_any ?_ | refine fX0_takeWayW_any ?_ | refine fX0_countWays_any hN ?_ | refine fX0_countWithoutWays_any hN ?_ | refine fX0_countChoices_any hN ?_ | refine fX0_waysInto_any hN ?_ | refine fX0_roundsTo_any hN ?_ | refine fX0_clearW_any ?_ | refine fX0_copyFromW_any ?_ | exact fun hc => absurd rfl hc | exact fun hc => absurd hc (by decide) | refine And.intro ?_ ?_ | intro _) | apply ih)
theorem fX1_layChoicesW_any {N : Nat} {w : Nat → Int32} {oo og k0 k1 : Int32} {tf : Nat → Int32} {a1 a2 : Int32} {post : Int32 → Int32 → Int32 → Int32 → Int32 → (Nat → Int32) → Prop} (hN : N < 13) (h : ∀ r0 r1 r2 r3 g, post (nI N) r0 r1 r2 r3 g) : qX1_layChoicesW w (nI N) oo og k0 k1 tf a1 a2 post := fX0_copyFromW_any (fun _ _ _ _ _ => ⟨N + 1, fX1_layChoices_W16 hN (fun _ _ _ => h _ _ _ _ _) N 0 _ _ (by omega)⟩)
theorem fX1_holdsByChoices_W24 {N : Nat} {w : Nat → Int32} {oo og a1 a2 r17 : Int32} {K : Int32 → (Nat → Int32) → Prop} (hN : N < 13) (hK : ∀ a b, K a b) : ∀ (d p : Nat) (z : (Nat → Int32)), p + d = N → qX1_holdsByChoices_W24 w (nI N) oo og a1 a2 r17 K (d + 1) (nI p) z
  | 0, p, z, hp => by
    have : p = N := by omega
    subst this
    exact ⟨fun _ => by exact hK .., fun hc => absurd (nI_le (Nat.le_refl _) (by omega)) hc⟩
  | d + 1, p, z, hp => by
    have ih := fun (z : (Nat → Int32)) => fX1_holdsByChoices_W24 (N := N) (w := w) (oo := oo) (og := og) (a1 := a1) (a2 := a2) (r17 := r17) (K := K) hN hK d (p + 1) z (by omega)
    simp only [← nI_1] at ih
    refine ⟨fun _ => by exact hK .., fun _ => ?_⟩
    repeat' (first | (with_reducible first | exact hm | apply h | apply hK | apply ih | exact Or.inl rfl | exact Or.inr rfl | refine fX0_pick_any hN ?_ ?_ | refine fX0_pickWithin_any hN ?_ ?_ | refine fX1_least_any ?_ ?_ | refine fX1_member_any ?_ ?_ | refine fX0_waysFrom_any ?_ | refine fJ6_bitCount_any ?_ | refine fX1_has_any ?_ | refine fX0_all_any ?_ | refine fX0_sideOf_any ?_ | refine fX0_rankOf_any ?_ | refine fX0_placesOf_any ?_ | refine fX0_wrapped_any ?_ | refine fX0_seenBefore_any hN ?_ | refine fX0_reaching_any hN ?_ | refine fX0_won_any hN ?_ | refine fX0_setSideW_any ?_ | refine fX0_setRankW_any ?_ | refine fX0_setWaysW_any ?_ | refine fX0_putWayW_any ?_ | refine fX0_takeWayW_any ?_ | refine fX0_countWays_any hN ?_ | refine fX0_countWithoutWays_any hN ?_ | refine fX0_countChoices_any hN ?_ | refine fX0_waysInto_any hN ?_ | refine fX0_roundsTo_any hN ?_ | refine fX0_clearW_any ?_ | refine fX0_copyFromW_any ?_ | exact fun hc => absurd rfl hc | exact fun hc => absurd hc (by decide) | refine And.intro ?_ ?_ | intro _) | apply ih)
theorem fX1_holdsByChoicesW_any {N : Nat} {w : Nat → Int32} {oo og k0 k1 : Int32} {tf : Nat → Int32} {a1 a2 : Int32} {post : Int32 → Int32 → Int32 → Int32 → Int32 → Int32 → (Nat → Int32) → Prop} (hN : N < 13) (h : ∀ r, r = 0 ∨ r = 1 → ∀ r0 r1 r2 r3 g, post r (nI N) r0 r1 r2 r3 g) : qX1_holdsByChoicesW w (nI N) oo og k0 k1 tf a1 a2 post :=
  fX0_copyFromW_any (fun _ _ _ _ _ => fX0_won_any hN (fun _ => ⟨N + 1, fX1_holdsByChoices_W24 hN (fun _ _ => fX0_won_any hN (fun _ => ⟨fun _ => h _ (Or.inl rfl) _ _ _ _ _, fun _ => h _ (Or.inr rfl) _ _ _ _ _⟩)) N 0 _ (by omega)⟩))
theorem fX1_isSound_W27 {N : Nat} {w : Nat → Int32} {oo og k0 k1 : Int32} {v1 : Int32} {K : Int32 → Int32 → Int32 → Int32 → Int32 → Int32 → (Nat → Int32) → Prop} {post : Int32 → Int32 → Int32 → Int32 → Int32 → Int32 → (Nat → Int32) → Prop} (hN : N < 13) (hK : ∀ a b c d e f g, K a b c d e f g) (h : ∀ r, r = 0 ∨ r = 1 → ∀ r0 r1 r2 r3 r4 g, post r r0 r1 r2 r3 r4 g) : ∀ (d p : Nat) (x1 x2 x3 x4 x5 : Int32) (z : Nat → Int32), p + d = 3 → qX1_isSound_W27 w (nI N) oo og k0 k1 v1 K post (d + 1) (nI p) x1 x2 x3 x4 x5 z
  | 0, p, x1, x2, x3, x4, x5, z, hp => by
    have : p = 3 := by omega
    subst this
    exact ⟨fun _ => hK .., fun hc => absurd (nI_lt (a := 2) (b := 3) (by omega) (by omega)) hc⟩
  | d + 1, p, x1, x2, x3, x4, x5, z, hp => by
    have ih := fun (x1 x2 x3 x4 x5 : Int32) (z : Nat → Int32) => fX1_isSound_W27 (N := N) (w := w) (oo := oo) (og := og) (k0 := k0) (k1 := k1) (v1 := v1) (K := K) (post := post) hN hK h d (p + 1) x1 x2 x3 x4 x5 z (by omega)
    simp only [← nI_1] at ih
    refine ⟨fun _ => hK .., fun _ => ?_⟩
    exact fX1_holdsByChoicesW_any hN (fun r hr _ _ _ _ _ => ⟨fun _ => ih .., fun e => h _ (Or.inl rfl) ..⟩)
theorem fX1_isSound_W2 {N : Nat} {w : Nat → Int32} {oo og k0 k1 : Int32} {K : Int32 → Int32 → Int32 → Int32 → Int32 → Int32 → (Nat → Int32) → Prop} {post : Int32 → Int32 → Int32 → Int32 → Int32 → Int32 → (Nat → Int32) → Prop} (hN : N < 13) (hK : ∀ a b c d e f g, K a b c d e f g) (h : ∀ r, r = 0 ∨ r = 1 → ∀ r0 r1 r2 r3 r4 g, post r r0 r1 r2 r3 r4 g) : ∀ (d p : Nat) (x1 x2 x3 x4 x5 : Int32) (z : Nat → Int32), p + d = 2 → qX1_isSound_W2 w (nI N) oo og k0 k1 K post (d + 1) (nI p) x1 x2 x3 x4 x5 z
  | 0, p, x1, x2, x3, x4, x5, z, hp => by
    have : p = 2 := by omega
    subst this
    exact ⟨fun _ => hK .., fun hc => absurd (nI_lt (a := 1) (b := 2) (by omega) (by omega)) hc⟩
  | d + 1, p, x1, x2, x3, x4, x5, z, hp => by
    have ih := fun (x1 x2 x3 x4 x5 : Int32) (z : Nat → Int32) => fX1_isSound_W2 (N := N) (w := w) (oo := oo) (og := og) (k0 := k0) (k1 := k1) (K := K) (post := post) hN hK h d (p + 1) x1 x2 x3 x4 x5 z (by omega)
    simp only [← nI_1] at ih
    refine ⟨fun _ => hK .., fun _ => ?_⟩
    refine fX1_isComingSound_any hN (fun r _ => ⟨fun _ => h _ (Or.inl rfl) .., fun _ => ?_⟩)
    refine fX1_isAgainSound_any hN (fun r _ => ⟨fun _ => ?_, fun _ => h _ (Or.inl rfl) ..⟩)
    exact ⟨4, fX1_isSound_W27 hN (fun _ _ _ _ _ _ _ => ih ..) h 3 0 _ _ _ _ _ _ rfl⟩
theorem nar01 {r : Int32} (h : r = 0 ∨ r = 1) : narrow .boolean (.int r) = .int r := by
  rcases h with rfl | rfl <;> rfl
theorem fX1_isSoundW_any {N : Nat} {w : Nat → Int32} {oo og k0 k1 : Int32} {tf : Nat → Int32} {tz ts tg t0 t1 : Int32} {post : Int32 → Int32 → Int32 → Int32 → Int32 → Int32 → (Nat → Int32) → Prop} (hN : N < 13) (h : ∀ r, r = 0 ∨ r = 1 → ∀ r0 r1 r2 r3 r4 g, post r r0 r1 r2 r3 r4 g) : qX1_isSoundW w (nI N) oo og k0 k1 tf tz ts tg t0 t1 post :=
  ⟨3, fX1_isSound_W2 hN (fun _ _ _ _ _ _ _ => fX1_isRankedSound_any hN (fun r hr => ⟨nar01 hr, h r hr ..⟩)) h 2 0 _ _ _ _ _ _ rfl⟩
