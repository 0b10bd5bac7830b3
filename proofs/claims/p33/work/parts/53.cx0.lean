/-! What the class's chart answers. -/
theorem fX0_waysFrom {f : Nat → Int32} {p : Nat} {post : Int32 → Prop} (hp : p < 12) (h : post (f p)) : qX0_waysFrom f (nI p) post :=
  ⟨fun hc => absurd hc (nI_pos (by omega)), fun _ => ⟨fun hc => absurd hc (nI_ge (b := 12) hp (by decide)), fun _ => ⟨vp_in_nI hp (by decide), by rw [nI_clamp (by omega)]; exact h⟩⟩⟩
theorem fX0_waysFrom_any {f : Nat → Int32} {x : Int32} {post : Int32 → Prop} (h : ∀ r, post r) : qX0_waysFrom f x post := by
  refine ⟨fun _ => h _, fun h0 => ⟨fun _ => h _, fun h1 => ⟨?_, h _⟩⟩⟩
  obtain ⟨j, hj, rfl⟩ := nI_of h0
  have hj2 : j < 12 := by
    rcases Nat.lt_or_ge j 12 with q | q
    · exact q
    · exact absurd (nI_le (a := 12) q hj) h1
  exact vp_in_nI hj2 (by decide)
theorem fJ6_bitCount_any {x : Int32} {post : Int32 → Prop} (h : ∀ r, post r) : qJ6_bitCount_0f7a4 x post := h _
theorem fX1_has_any {x y : Int32} {post : Int32 → Prop} (h : ∀ r, r = 0 ∨ r = 1 → post r) : qX1_has x y post := ⟨fun _ => h _ (Or.inl rfl), fun _ => h _ (Or.inr rfl)⟩
theorem fX0_seenBefore_5 {N : Nat} {w : Nat → Int32} {oo a1 a2 : Int32} {K : Int32 → Int32 → Prop} (hN : N < 13) (hK : K (sPre w oo a1 a2 N) (nI N)) : ∀ (d p : Nat), p + d = N → qX0_seenBefore_5 w (nI N) oo a1 a2 K (d + 1) (sPre w oo a1 a2 p) (nI p)
  | 0, p, h => by
    have : p = N := by omega
    subst this
    exact ⟨fun _ => hK, fun hc => absurd (nI_le (Nat.le_refl p) (by omega)) hc⟩
  | d + 1, p, h => by
    have ih := fX0_seenBefore_5 hN hK d (p + 1) (by omega)
    refine ⟨fun hc => absurd hc (nI_ge (by omega) (by omega)), fun _ => ⟨fun hc => absurd hc (nI_ge (b := 12) (by omega) (by decide)), fun _ => ?_⟩⟩
    refine ⟨fun hs => ⟨vp_in_nI (by omega) (by omega), fun hc => ?_, fun hc => ?_⟩, fun hs => ⟨vp_in_nI (by omega) (by omega), fun hc => ?_, fun hc => ?_⟩⟩
    · rw [nI_clamp (by omega)] at hc
      rw [nI_1]; rw [sPre_f (sCond_nf hs hc)] at ih; exact ih
    · rw [nI_clamp (by omega)] at hc
      rw [nI_1]; rw [sPre_t (sCond_nt hs hc)] at ih; exact ih
    · rw [nI_clamp (by omega)] at hc
      rw [nI_1]; rw [sPre_f (sCond_of hs hc)] at ih; exact ih
    · rw [nI_clamp (by omega)] at hc
      rw [nI_1]; rw [sPre_t (sCond_ot hs hc)] at ih; exact ih
theorem fX0_seenBefore {N : Nat} {w : Nat → Int32} {oo a1 a2 : Int32} {post : Int32 → Prop} (hN : N < 13) (h : post (sPre w oo a1 a2 N)) : qX0_seenBefore w (nI N) oo a1 a2 post := by
  have := fX0_seenBefore_5 (K := fun x _ => post x) hN h N 0 (by omega)
  exact ⟨N + 1, this⟩
theorem fX0_reaching_12 {N : Nat} {w : Nat → Int32} {oo a2 : Int32} {K : Int32 → Int32 → Prop} (hN : N < 13) (hK : ∀ a b, K a b) : ∀ (d k : Nat) (x : Int32), k + d = 12 → qX0_reaching_12 w (nI N) oo a2 K (d + 1) x (nI k)
  | 0, k, x, h => by
    have : k = 12 := by omega
    subst this
    exact ⟨fun _ => hK _ _, fun hc => absurd (nI_le (Nat.le_refl 12) (by omega)) hc⟩
  | d + 1, k, x, h => by
    have ih := fun y => fX0_reaching_12 (w := w) (oo := oo) (a2 := a2) hN hK d (k + 1) y (by omega)
    exact ⟨fun _ => hK _ _, fun _ => fX0_seenBefore hN ⟨fun _ => by rw [nI_1]; exact ih _, fun _ => hK _ _⟩⟩
theorem fX0_reaching_any {N : Nat} {w : Nat → Int32} {oo a1 a2 : Int32} {post : Int32 → Prop} (hN : N < 13) (h : ∀ r, post r) : qX0_reaching w (nI N) oo a1 a2 post :=
  fX0_seenBefore hN ⟨13, fX0_reaching_12 hN (fun a _ => h a) 12 0 _ rfl⟩
theorem fX0_wonAgain_7 {N : Nat} {w : Nat → Int32} {oo og a1 : Int32} {K : Int32 → Int32 → Prop} (hN : N < 13) (hK : ∀ a b, K a b) : ∀ (d k : Nat) (x : Int32), k + d = 12 → qX0_wonAgain_7 w (nI N) oo og a1 K (d + 1) x (nI k)
  | 0, k, x, h => by
    have : k = 12 := by omega
    subst this
    exact ⟨fun _ => hK _ _, fun hc => absurd (nI_le (Nat.le_refl 12) (by omega)) hc⟩
  | d + 1, k, x, h => by
    have ih := fun y => fX0_wonAgain_7 (w := w) (oo := oo) (og := og) (a1 := a1) hN hK d (k + 1) y (by omega)
    exact ⟨fun _ => hK _ _, fun _ => fX0_seenBefore hN (fX0_reaching_any hN (fun r => ⟨fun _ => by rw [nI_1]; exact ih _, fun _ => hK _ _⟩))⟩
theorem fX0_wonAgain_any {N : Nat} {w : Nat → Int32} {oo og a1 : Int32} {post : Int32 → Prop} (hN : N < 13) (h : ∀ r, post r) : qX0_wonAgain w (nI N) oo og a1 post :=
  ⟨13, fX0_wonAgain_7 hN (fun a _ => h a) 12 0 _ rfl⟩
theorem fX0_holdingRankTwo_25 {N : Nat} {w : Nat → Int32} {oo a1 v2 : Int32} {K : Int32 → Int32 → Int32 → Prop} (hN : N < 13) (hK : ∀ a b c, K a b c) : ∀ (d k : Nat) (x : Int32), k + d = 12 → qX0_holdingRankTwo_25 w (nI N) oo a1 K (d + 1) v2 x (nI k)
  | 0, k, x, h => by
    have : k = 12 := by omega
    subst this
    exact ⟨fun _ => hK _ _ _, fun hc => absurd (nI_le (Nat.le_refl 12) (by omega)) hc⟩
  | d + 1, k, x, h => by
    have ih := fun y => fX0_holdingRankTwo_25 (w := w) (oo := oo) (a1 := a1) (v2 := v2) hN hK d (k + 1) y (by omega)
    exact ⟨fun _ => hK _ _ _, fun _ => fX0_seenBefore hN ⟨fun _ => by rw [nI_1]; exact ih _, fun _ => hK _ _ _⟩⟩
theorem fX0_holdingRankTwo_any {N : Nat} {w : Nat → Int32} {oo k0 k1 a1 : Int32} {post : Int32 → Prop} (hN : N < 13) (h : ∀ r, post r) : qX0_holdingRankTwo w (nI N) oo k0 k1 a1 post :=
  ⟨13, fX0_holdingRankTwo_25 hN (fun _ b _ => h b) 12 0 _ rfl⟩
theorem fX0_wonRanked_31 {N : Nat} {w : Nat → Int32} {oo k0 k1 v3 : Int32} {K : Int32 → Int32 → Int32 → Prop} (hN : N < 13) (hK : ∀ a b c, K a b c) : ∀ (d k : Nat) (x : Int32), k + d = 12 → qX0_wonRankedByZero_31 w (nI N) oo k0 k1 K (d + 1) v3 x (nI k)
  | 0, k, x, h => by
    have : k = 12 := by omega
    subst this
    exact ⟨fun _ => hK _ _ _, fun hc => absurd (nI_le (Nat.le_refl 12) (by omega)) hc⟩
  | d + 1, k, x, h => by
    have ih := fun y => fX0_wonRanked_31 (w := w) (oo := oo) (k0 := k0) (k1 := k1) (v3 := v3) hN hK d (k + 1) y (by omega)
    exact ⟨fun _ => hK _ _ _, fun _ => fX0_seenBefore hN (fX0_holdingRankTwo_any hN (fun r => ⟨fun _ => by rw [nI_1]; exact ih _, fun _ => hK _ _ _⟩))⟩
theorem fX0_wonRanked_7 {N : Nat} {w : Nat → Int32} {oo k0 k1 : Int32} {K : Int32 → Int32 → Prop} (hN : N < 13) (hK : ∀ a b, K a b) : ∀ (d k : Nat) (x : Int32), k + d = 12 → qX0_wonRankedByZero_7 w (nI N) oo k0 k1 K (d + 1) x (nI k)
  | 0, k, x, h => by
    have : k = 12 := by omega
    subst this
    exact ⟨fun _ => hK _ _, fun hc => absurd (nI_le (Nat.le_refl 12) (by omega)) hc⟩
  | d + 1, k, x, h => by
    have ih := fun y => fX0_wonRanked_7 (w := w) (oo := oo) (k0 := k0) (k1 := k1) hN hK d (k + 1) y (by omega)
    exact ⟨fun _ => hK _ _, fun _ => fX0_seenBefore hN ⟨13, fX0_wonRanked_31 hN (fun _ _ _ => ⟨fun _ => by rw [nI_1]; exact ih _, fun _ => hK _ _⟩) 12 0 _ rfl⟩⟩
theorem fX0_wonRanked_any {N : Nat} {w : Nat → Int32} {oo k0 k1 : Int32} {post : Int32 → Prop} (hN : N < 13) (h : ∀ r, post r) : qX0_wonRankedByZero w (nI N) oo k0 k1 post :=
  ⟨13, fX0_wonRanked_7 hN (fun a _ => h a) 12 0 _ rfl⟩
theorem fX0_won_any {N : Nat} {w : Nat → Int32} {oo og k0 k1 a1 a2 : Int32} {post : Int32 → Prop} (hN : N < 13) (h : ∀ r, post r) : qX0_won w (nI N) oo og k0 k1 a1 a2 post :=
  ⟨fun _ => fX0_reaching_any hN h, fun _ => ⟨fun _ => fX0_reaching_any hN (fun _ => h _), fun _ => ⟨fun _ => fX0_wonAgain_any hN h, fun _ => ⟨fun _ => fX0_wonRanked_any hN (fun _ => h _), fun _ => fX0_wonRanked_any hN h⟩⟩⟩⟩
theorem fX1_member_4 {x : Int32} {K : Int32 → Int32 → Prop} {post : Int32 → Prop} (hK : ∀ a b, K a b) (h : ∀ q, q < 12 → post (nI q)) : ∀ (d q : Nat) (v : Int32), q + d = 12 → qX1_member_4 x K post (d + 1) v (nI q)
  | 0, q, v, hq => by
    have : q = 12 := by omega
    subst this
    exact ⟨fun _ => hK _ _, fun hc => absurd (nI_le (Nat.le_refl 12) (by omega)) hc⟩
  | d + 1, q, v, hq => by
    have ih := fun y => fX1_member_4 (x := x) hK h d (q + 1) y (by omega)
    exact ⟨fun _ => hK _ _, fun _ => fX1_has_any (fun r _ => ⟨fun _ => by rw [nI_1]; exact ih _, fun _ => ⟨fun _ => by rw [nI_1]; exact ih _, fun _ => h q (by omega)⟩⟩)⟩
/-- a member is none, or a place below 12 -/
theorem fX1_member_any {x y : Int32} {post : Int32 → Prop} (hm : post (-1)) (h : ∀ q, q < 12 → post (nI q)) : qX1_member x y post :=
  ⟨13, fX1_member_4 (fun _ _ => hm) h 12 0 _ rfl⟩
theorem fX1_least_any {x : Int32} {post : Int32 → Prop} (hm : post (-1)) (h : ∀ q, q < 12 → post (nI q)) : qX1_least x post := fX1_member_any hm h
theorem fX0_nearer_24 {N : Nat} {w : Nat → Int32} {oo a2 a3 : Int32} {K : Int32 → Int32 → Prop} {post : Int32 → Prop} (hN : N < 13) (hK : ∀ a b, K a b) (h : ∀ r, post r) : ∀ (d k : Nat) (x : Int32), k + d = 12 → qX0_nearer_24 w (nI N) oo a2 a3 K post (d + 1) x (nI k)
  | 0, k, x, hk => by
    have : k = 12 := by omega
    subst this
    exact ⟨fun _ => hK _ _, fun hc => absurd (nI_le (Nat.le_refl 12) (by omega)) hc⟩
  | d + 1, k, x, hk => by
    have ih := fun y => fX0_nearer_24 (w := w) (oo := oo) (a2 := a2) (a3 := a3) hN hK h d (k + 1) y (by omega)
    exact ⟨fun _ => hK _ _, fun _ => fX0_seenBefore hN (fX1_has_any (fun r _ => ⟨fun _ => by rw [nI_1]; exact ih _, fun _ => h _⟩))⟩
theorem fX0_nearer_any {N : Nat} {w : Nat → Int32} {oo a1 a2 a3 : Int32} {post : Int32 → Prop} (hN : N < 13) (h : ∀ r, post r) : qX0_nearer w (nI N) oo a1 a2 a3 post :=
  fX0_seenBefore hN (fX1_has_any (fun r _ => ⟨fun _ => ⟨13, fX0_nearer_24 hN (fun _ _ => h _) h 12 0 _ rfl⟩, fun _ => h _⟩))
theorem fX0_placesOf_any {kz ks a1 : Int32} {post : Int32 → Prop} (h : ∀ r, post r) : qX0_placesOf kz ks a1 post := by
  first | exact ⟨fun _ => h _, fun _ => h _⟩ | exact h _
/-- the told choice is none, or a place below 12 -/
theorem fX0_pickWithin_any {N : Nat} {w : Nat → Int32} {oo og a1 a2 a3 a4 : Int32} {post : Int32 → Prop} (hN : N < 13) (hm : post (-1)) (h : ∀ q, q < 12 → post (nI q)) : qX0_pickWithin w (nI N) oo og a1 a2 a3 a4 post := by
  have l : ∀ x, qX1_least x (fun r => post r) := fun x => fX1_least_any hm h
  have j : ∀ r, qX0_pickWithin_j54 w (nI N) oo og a2 a3 a4 r post := fun r => fX0_nearer_any hN (fun _ => l _)
  exact fX0_placesOf_any (fun _ => fX1_has_any (fun _ _ => ⟨fun _ => fX0_waysFrom_any (fun r => ⟨fun _ => l _, fun _ => ⟨fun _ => j r, fun _ => fX1_has_any (fun _ _ => ⟨fun _ => j r, fun _ => l _⟩)⟩⟩), fun _ => hm⟩))
theorem fX0_pick_any {N : Nat} {w : Nat → Int32} {oo og k0 k1 a1 a2 a3 : Int32} {post : Int32 → Prop} (hN : N < 13) (hm : post (-1)) (h : ∀ q, q < 12 → post (nI q)) : qX0_pick w (nI N) oo og k0 k1 a1 a2 a3 post :=
  fX0_won_any hN (fun _ => fX0_pickWithin_any hN hm h)
