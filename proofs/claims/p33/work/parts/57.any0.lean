/-! What the class does, whatever it answers: it comes to an end. -/
theorem fX0_all_any {kz : Int32} {post : Int32 → Prop} (h : ∀ r, post r) : qX0_all kz post := h _
theorem fX0_sideOf_any {ks x : Int32} {post : Int32 → Prop} (h : ∀ r, post r) : qX0_sideOf ks x post := h _
theorem fX0_seenBefore_any {N : Nat} {w : Nat → Int32} {oo a1 a2 : Int32} {post : Int32 → Prop} (hN : N < 13) (h : ∀ r, post r) : qX0_seenBefore w (nI N) oo a1 a2 post := fX0_seenBefore hN (h _)
theorem fX0_rankOf_any {k0 k1 x : Int32} {post : Int32 → Prop} (h : ∀ r, post r) : qX0_rankOf k0 k1 x post := fX1_has_any (fun _ _ => ⟨fun _ => fX1_has_any (fun _ _ => ⟨fun _ => h _, fun _ => h _⟩), fun _ => h _⟩)
theorem fX0_wrapped_any {kz x : Int32} {post : Int32 → Prop} (h : ∀ r, post r) : qX0_wrapped kz x post := ⟨fun _ => h _, fun hc => ⟨fun e => hc (by rw [e]; decide), h _⟩⟩
theorem fX0_setSideW_any {ks x y : Int32} {post : Int32 → Prop} (h : ∀ r, post r) : qX0_setSideW ks x y post := h _
theorem fX0_setRankW_any {k0 k1 x y : Int32} {post : Int32 → Int32 → Prop} (h : ∀ r s, post r s) : qX0_setRankW k0 k1 x y post := ⟨fun _ => ⟨fun _ => h _ _, fun _ => h _ _⟩, fun _ => ⟨fun _ => h _ _, fun _ => h _ _⟩⟩
theorem fX0_setWaysW_any {f : Nat → Int32} {x y : Int32} {post : (Nat → Int32) → Prop} (h : ∀ r, post r) : qX0_setWaysW f x y post := by
  refine ⟨fun _ => h _, fun h0 => ⟨fun _ => h _, fun h1 => ⟨?_, h _⟩⟩⟩
  obtain ⟨j, hj, rfl⟩ := nI_of h0
  have hj2 : j < 12 := by
    rcases Nat.lt_or_ge j 12 with q | q
    · exact q
    · exact absurd (nI_le (a := 12) q hj) h1
  exact vp_in_nI hj2 (by decide)
theorem fX0_putWayW_any {f : Nat → Int32} {x y : Int32} {post : (Nat → Int32) → Prop} (h : ∀ r, post r) : qX0_putWayW f x y post := fX0_waysFrom_any (fun _ => fX0_setWaysW_any (fun _ => h _))
theorem fX0_takeWayW_any {f : Nat → Int32} {x y : Int32} {post : (Nat → Int32) → Prop} (h : ∀ r, post r) : qX0_takeWayW f x y post := fX0_waysFrom_any (fun _ => fX0_setWaysW_any (fun _ => h _))
theorem fX0_waysInto_4 {N : Nat} {w : Nat → Int32} {a1 : Int32} {K : Int32 → Int32 → Prop} (hN : N < 13) (hK : ∀ a b, K a b) : ∀ (d p : Nat) (x : Int32), p + d = N → qX0_waysInto_4 w (nI N) a1 K (d + 1) x (nI p)
  | 0, p, x, hp => by
    have : p = N := by omega
    subst this
    exact ⟨fun _ => by exact hK .., fun hc => absurd (nI_le (Nat.le_refl _) (by omega)) hc⟩
  | d + 1, p, x, hp => by
    have ih := fun (x : Int32) => fX0_waysInto_4 (N := N) (w := w) (a1 := a1) (K := K) hN hK d (p + 1) x (by omega)
    simp only [← nI_1] at ih
    refine ⟨fun _ => by exact hK .., fun _ => ?_⟩
    repeat' (first | (with_reducible first | exact hm | apply h | apply hK | apply ih | exact Or.inl rfl | exact Or.inr rfl | refine fX0_waysFrom_any ?_ | refine fJ6_bitCount_any ?_ | refine fX1_has_any ?_ | refine fX0_sideOf_any ?_ | refine fX0_seenBefore_any hN ?_ | refine fX0_reaching_any hN ?_ | refine fX0_wrapped_any ?_ | refine fX0_putWayW_any ?_ | exact fun hc => absurd rfl hc | exact fun hc => absurd hc (by decide) | refine And.intro ?_ ?_ | intro _) | apply ih)
theorem fX0_waysInto_any {N : Nat} {w : Nat → Int32} {a1 : Int32} {post : Int32 → Prop} (hN : N < 13) (h : ∀ r, post r) : qX0_waysInto w (nI N) a1 post := ⟨N + 1, fX0_waysInto_4 hN (fun a _ => h a) N 0 _ (by omega)⟩
theorem fX0_countWays_4 {N : Nat} {w : Nat → Int32} {K : Int32 → Int32 → Prop} (hN : N < 13) (hK : ∀ a b, K a b) : ∀ (d p : Nat) (x : Int32), p + d = N → qX0_countWays_4 w (nI N) K (d + 1) x (nI p)
  | 0, p, x, hp => by
    have : p = N := by omega
    subst this
    exact ⟨fun _ => by exact hK .., fun hc => absurd (nI_le (Nat.le_refl _) (by omega)) hc⟩
  | d + 1, p, x, hp => by
    have ih := fun (x : Int32) => fX0_countWays_4 (N := N) (w := w) (K := K) hN hK d (p + 1) x (by omega)
    simp only [← nI_1] at ih
    refine ⟨fun _ => by exact hK .., fun _ => ?_⟩
    repeat' (first | (with_reducible first | exact hm | apply h | apply hK | apply ih | exact Or.inl rfl | exact Or.inr rfl | refine fX0_waysFrom_any ?_ | refine fJ6_bitCount_any ?_ | refine fX1_has_any ?_ | refine fX0_sideOf_any ?_ | refine fX0_seenBefore_any hN ?_ | refine fX0_reaching_any hN ?_ | refine fX0_wrapped_any ?_ | refine fX0_putWayW_any ?_ | exact fun hc => absurd rfl hc | exact fun hc => absurd hc (by decide) | refine And.intro ?_ ?_ | intro _) | apply ih)
theorem fX0_countWays_any {N : Nat} {w : Nat → Int32} {post : Int32 → Prop} (hN : N < 13) (h : ∀ r, post r) : qX0_countWays w (nI N) post := ⟨N + 1, fX0_countWays_4 hN (fun a _ => h a) N 0 _ (by omega)⟩
theorem fX0_countWithoutWays_4 {N : Nat} {w : Nat → Int32} {K : Int32 → Int32 → Prop} (hN : N < 13) (hK : ∀ a b, K a b) : ∀ (d p : Nat) (x : Int32), p + d = N → qX0_countWithoutWays_4 w (nI N) K (d + 1) x (nI p)
  | 0, p, x, hp => by
    have : p = N := by omega
    subst this
    exact ⟨fun _ => by exact hK .., fun hc => absurd (nI_le (Nat.le_refl _) (by omega)) hc⟩
  | d + 1, p, x, hp => by
    have ih := fun (x : Int32) => fX0_countWithoutWays_4 (N := N) (w := w) (K := K) hN hK d (p + 1) x (by omega)
    simp only [← nI_1] at ih
    refine ⟨fun _ => by exact hK .., fun _ => ?_⟩
    repeat' (first | (with_reducible first | exact hm | apply h | apply hK | apply ih | exact Or.inl rfl | exact Or.inr rfl | refine fX0_waysFrom_any ?_ | refine fJ6_bitCount_any ?_ | refine fX1_has_any ?_ | refine fX0_sideOf_any ?_ | refine fX0_seenBefore_any hN ?_ | refine fX0_reaching_any hN ?_ | refine fX0_wrapped_any ?_ | refine fX0_putWayW_any ?_ | exact fun hc => absurd rfl hc | exact fun hc => absurd hc (by decide) | refine And.intro ?_ ?_ | intro _) | apply ih)
theorem fX0_countWithoutWays_any {N : Nat} {w : Nat → Int32} {post : Int32 → Prop} (hN : N < 13) (h : ∀ r, post r) : qX0_countWithoutWays w (nI N) post := ⟨N + 1, fX0_countWithoutWays_4 hN (fun a _ => h a) N 0 _ (by omega)⟩
theorem fX0_countChoices_4 {N : Nat} {w : Nat → Int32} {oo a1 : Int32} {K : Int32 → Int32 → Prop} (hN : N < 13) (hK : ∀ a b, K a b) : ∀ (d p : Nat) (x : Int32), p + d = N → qX0_countChoices_4 w (nI N) oo a1 K (d + 1) x (nI p)
  | 0, p, x, hp => by
    have : p = N := by omega
    subst this
    exact ⟨fun _ => by exact hK .., fun hc => absurd (nI_le (Nat.le_refl _) (by omega)) hc⟩
  | d + 1, p, x, hp => by
    have ih := fun (x : Int32) => fX0_countChoices_4 (N := N) (w := w) (oo := oo) (a1 := a1) (K := K) hN hK d (p + 1) x (by omega)
    simp only [← nI_1] at ih
    refine ⟨fun _ => by exact hK .., fun _ => ?_⟩
    repeat' (first | (with_reducible first | exact hm | apply h | apply hK | apply ih | exact Or.inl rfl | exact Or.inr rfl | refine fX0_waysFrom_any ?_ | refine fJ6_bitCount_any ?_ | refine fX1_has_any ?_ | refine fX0_sideOf_any ?_ | refine fX0_seenBefore_any hN ?_ | refine fX0_reaching_any hN ?_ | refine fX0_wrapped_any ?_ | refine fX0_putWayW_any ?_ | exact fun hc => absurd rfl hc | exact fun hc => absurd hc (by decide) | refine And.intro ?_ ?_ | intro _) | apply ih)
theorem fX0_countChoices_any {N : Nat} {w : Nat → Int32} {oo a1 : Int32} {post : Int32 → Prop} (hN : N < 13) (h : ∀ r, post r) : qX0_countChoices w (nI N) oo a1 post := ⟨N + 1, fX0_countChoices_4 hN (fun a _ => h a) N 0 _ (by omega)⟩
theorem fX0_roundsTo_13 {N : Nat} {w : Nat → Int32} {oo a2 a3 : Int32} {K : Int32 → Int32 → Prop} {post : Int32 → Prop} (hN : N < 13) (hK : ∀ a b, K a b) (h : ∀ r, post r) : ∀ (d p : Nat) (x : Int32), p + d = 12 → qX0_roundsTo_13 w (nI N) oo a2 a3 K post (d + 1) x (nI p)
  | 0, p, x, hp => by
    have : p = 12 := by omega
    subst this
    exact ⟨fun _ => by exact hK .., fun hc => absurd (nI_le (Nat.le_refl 12) (by omega)) hc⟩
  | d + 1, p, x, hp => by
    have ih := fun (x : Int32) => fX0_roundsTo_13 (N := N) (w := w) (oo := oo) (a2 := a2) (a3 := a3) (K := K) (post := post) hN hK h d (p + 1) x (by omega)
    simp only [← nI_1] at ih
    refine ⟨fun _ => by exact hK .., fun _ => ?_⟩
    repeat' (first | (with_reducible first | exact hm | apply h | apply hK | apply ih | exact Or.inl rfl | exact Or.inr rfl | refine fX0_waysFrom_any ?_ | refine fJ6_bitCount_any ?_ | refine fX1_has_any ?_ | refine fX0_sideOf_any ?_ | refine fX0_seenBefore_any hN ?_ | refine fX0_reaching_any hN ?_ | refine fX0_wrapped_any ?_ | refine fX0_putWayW_any ?_ | exact fun hc => absurd rfl hc | exact fun hc => absurd hc (by decide) | refine And.intro ?_ ?_ | intro _) | apply ih)
theorem fX0_roundsTo_any {N : Nat} {w : Nat → Int32} {oo a1 a2 a3 : Int32} {post : Int32 → Prop} (hN : N < 13) (h : ∀ r, post r) : qX0_roundsTo w (nI N) oo a1 a2 a3 post := fX0_seenBefore hN ⟨13, fX0_roundsTo_13 hN (fun _ _ => h _) h 12 0 _ rfl⟩
theorem fX0_clear_W27 {K : Int32 → (Nat → Int32) → Prop} (hK : ∀ a b, K a b) : ∀ (d p : Nat) (z : (Nat → Int32)), p + d = 12 → qX0_clear_W27 K (d + 1) (nI p) z
  | 0, p, z, hp => by
    have : p = 12 := by omega
    subst this
    exact ⟨fun _ => by exact hK .., fun hc => absurd (nI_le (Nat.le_refl 12) (by omega)) hc⟩
  | d + 1, p, z, hp => by
    have ih := fun (z : (Nat → Int32)) => fX0_clear_W27 (K := K) hK d (p + 1) z (by omega)
    simp only [← nI_1] at ih
    refine ⟨fun _ => by exact hK .., fun _ => ?_⟩
    repeat' (first | (with_reducible first | exact hm | apply h | apply hK | apply ih | exact Or.inl rfl | exact Or.inr rfl | exact vp_in_nI (by omega) (by omega) | refine fX0_waysFrom_any ?_ | refine fJ6_bitCount_any ?_ | refine fX1_has_any ?_ | refine fX0_sideOf_any ?_ | refine fX0_seenBefore_any hN ?_ | refine fX0_reaching_any hN ?_ | refine fX0_wrapped_any ?_ | refine fX0_putWayW_any ?_ | exact fun hc => absurd rfl hc | exact fun hc => absurd hc (by decide) | refine And.intro ?_ ?_ | intro _) | apply ih)
theorem fX0_clearW_any {f : Nat → Int32} {x : Int32} {post : Int32 → Int32 → Int32 → Int32 → Int32 → (Nat → Int32) → Prop} (h : ∀ r0 r1 r2 r3 g, post x r0 r1 r2 r3 g) : qX0_clearW f x post := ⟨13, fX0_clear_W27 (fun _ _ => h _ _ _ _ _) 12 0 _ rfl⟩
theorem fX0_copyFrom_W47 {f : Nat → Int32} {K : Int32 → (Nat → Int32) → Prop} (hK : ∀ a b, K a b) : ∀ (d p : Nat) (z : (Nat → Int32)), p + d = 12 → qX0_copyFrom_W47 f K (d + 1) (nI p) z
  | 0, p, z, hp => by
    have : p = 12 := by omega
    subst this
    exact ⟨fun _ => by exact hK .., fun hc => absurd (nI_le (Nat.le_refl 12) (by omega)) hc⟩
  | d + 1, p, z, hp => by
    have ih := fun (z : (Nat → Int32)) => fX0_copyFrom_W47 (f := f) (K := K) hK d (p + 1) z (by omega)
    simp only [← nI_1] at ih
    refine ⟨fun _ => by exact hK .., fun _ => ?_⟩
    repeat' (first | (with_reducible first | exact hm | apply h | apply hK | apply ih | exact Or.inl rfl | exact Or.inr rfl | exact vp_in_nI (by omega) (by omega) | refine fX0_waysFrom_any ?_ | refine fJ6_bitCount_any ?_ | refine fX1_has_any ?_ | refine fX0_sideOf_any ?_ | refine fX0_seenBefore_any hN ?_ | refine fX0_reaching_any hN ?_ | refine fX0_wrapped_any ?_ | refine fX0_putWayW_any ?_ | exact fun hc => absurd rfl hc | exact fun hc => absurd hc (by decide) | refine And.intro ?_ ?_ | intro _) | apply ih)
theorem fX0_copyFromW_any {f g : Nat → Int32} {x b c d e : Int32} {post : Int32 → Int32 → Int32 → Int32 → Int32 → (Nat → Int32) → Prop} (h : ∀ r0 r1 r2 r3 g, post x r0 r1 r2 r3 g) : qX0_copyFromW f g x b c d e post := ⟨13, fX0_copyFrom_W47 (fun _ _ => h _ _ _ _ _) 12 0 _ rfl⟩
