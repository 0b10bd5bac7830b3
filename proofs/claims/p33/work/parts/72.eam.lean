/-! The reference's acts, exactly. -/
theorem kBt_of {a l u : Int32} (h0 : ¬ a < l) (h1 : a ≤ u) : kBt a l u := ⟨Int32.not_lt.mp h0, h1⟩
theorem kSet_of {N : Nat} {a : Int32} (h0 : ¬ a < 0) (h1 : a ≤ ((1 : Int32) <<< (nI N &&& (31 : Int32))) - (1 : Int32)) : kSet N a := ⟨Int32.not_lt.mp h0, h1⟩
theorem kBt_l {a l u : Int32} (c : kBt a l u) : ¬ a < l := Int32.not_lt.mpr c.1
theorem fX3_isPlaceE {N : Nat} {a1 : Int32} {post : Int32 → Prop} (hN : N < 13) (h0 : ¬ isPl N a1 → post 0) (h1 : isPl N a1 → post 1) : qX3_isPlace (nI N) a1 post := by
  by_cases c : isPl N a1
  · have h := h1 c
    obtain ⟨p, hp, rfl⟩ := c
    exact ⟨fun e => absurd e (nI_pos (by omega)), fun _ => ⟨fun e => absurd e (nI_ge hp (by omega)), fun _ => h⟩⟩
  · exact fX3_isPlace hN (h0 c) (fun k => absurd k c)
theorem fX3_isSideE {a : Int32} {post : Int32 → Prop} (h0 : ¬ kSd a → post 0) (h1 : kSd a → post 1) : qX3_isSide a post :=
  ⟨fun h => h1 (Or.inl h), fun h => ⟨fun h2 => h0 (fun k => k.elim h h2), fun h => h1 (Or.inr h)⟩⟩
theorem n2_bt {a : Int32} (c : kBt a 2 12) : ∃ n, 2 ≤ n ∧ n < 13 ∧ a = nI n := n2_of (kBt_l c) c.2
theorem n11_bt {a : Int32} (c : kBt a 0 11) : ∃ s, s < 13 ∧ a = nI s := n11_of (kBt_l c) c.2
theorem n9_bt {a : Int32} (c : kBt a 0 9999) : ∃ s, s < 10000 ∧ a = nI s := n9999_of (kBt_l c) c.2
theorem fX3_clearE_37 {n : Nat} {K : Int32 → (Nat → Int32) → Prop} (hn : n < 13) (hK : ∀ a g, (∀ p, p < n → g p = 2) → K a g) : ∀ (d p : Nat) (z : Nat → Int32), p + d = n → (∀ q, q < p → z q = 2) → qX3_clear_W37 (nI n) K (d + 1) (nI p) z
  | 0, p, z, hp, hz => by
    have : p = n := by omega
    subst this
    exact ⟨fun _ => hK _ _ hz, fun hc => absurd (nI_le (Nat.le_refl _) (by omega)) hc⟩
  | d + 1, p, z, hp, hz => by
    have ih := fun (z : Nat → Int32) hz => fX3_clearE_37 hn hK d (p + 1) z (by omega) hz
    refine ⟨fun hc => absurd hc (nI_ge (by omega) (by omega)), fun _ => ⟨?_, ?_⟩⟩
    · rw [nI_clamp (by omega)]; exact vp_in_nI (by omega) (by omega)
    · rw [nI_1, nI_clamp (by omega)]
      refine ih _ (fun q hq => ?_)
      by_cases e : q = p
      · rw [e, upd_eq]
      · rw [upd_ne e]; exact hz q (by omega)
theorem fX3_clearE {n : Nat} {oac ore okn oth : Int32} {post : Int32 → Int32 → Int32 → Int32 → Int32 → Int32 → Int32 → Int32 → Int32 → Nat → (Nat → Int32) → Nat → (Nat → Int32) → Prop} (hn : n < 13) (h : ∀ g, (∀ p, p < n → g p = 2) → post (nI n) 0 0 0 0 oac ore okn oth n g n (fun _ => 0)) : qX3_clearW oac ore okn oth (nI n) post := by
  refine uX3_clearW ?_
  rw [nI_clamp (by omega)]
  exact ⟨nI_pos (by omega), by omega, nI_pos (by omega), by omega, n + 1, fX3_clearE_37 hn (fun _ g hg => h g hg) n 0 _ (by omega) (fun q hq => by omega)⟩
theorem fX3_initE {oac ore okn oth : Int32} {post : Int32 → Int32 → Int32 → Int32 → Int32 → Int32 → Int32 → Int32 → Int32 → Nat → (Nat → Int32) → Nat → (Nat → Int32) → Prop} (h : ∀ g, (∀ p, p < 6 → g p = 2) → post (nI 6) 0 0 0 0 oac ore okn oth 6 g 6 (fun _ => 0)) : qX3_initW oac ore okn oth post := uX3_initW (fX3_clearE (n := 6) (by omega) h)
theorem mN_places {on oo og ost ord oac ore okn a1 : Int32} {orl owl : Nat} {ork oww : Nat → Int32} {post : Int32 → Int32 → Int32 → Int32 → Int32 → Int32 → Int32 → Int32 → Int32 → Int32 → Nat → (Nat → Int32) → Nat → (Nat → Int32) → Prop} (c : ¬ kBt a1 2 12) (h : post 0 on oo og ost ord oac ore okn 1 orl ork owl oww) : qX3_placesW on oo og orl ork owl oww ost ord oac ore okn a1 post := by
  refine uX3_placesW ?_
  repeat' (first | (with_reducible first | exact h | assumption | exact vp_in_pl hN (by assumption) | exact vp_in_nI (by omega) (by omega) | exact absurd (kBt_of (by assumption) (by assumption)) c | exact absurd (kSet_of (by assumption) (by assumption)) c | exact absurd (And.intro (by assumption) (by assumption)) c | exact absurd (hb.symm.trans (by assumption)) (by decide) | refine uX3_placesW_j17 ?_ | refine uX3_placesW_j12 ?_ | refine fX3_isPlaceE hN ?_ ?_ | refine fX3_isSideE ?_ ?_ | refine fX3_isThrownW ?_ ?_ ?_ | refine fX3_isThrown_W ?_ ?_ | refine uX3_doneW ?_ | refine uX3_noW ?_ | exact nar0 | exact nar1 | refine fX3_isIn (by omega) ?_ ?_ | refine uX3_sideOf ?_ | exact fun hc => absurd rfl hc | exact fun hc => absurd hc (by decide) | contradiction | refine And.intro ?_ ?_ | intro _))
theorem mE_places {n : Nat} {on oo og ost ord oac ore okn : Int32} {orl owl : Nat} {ork oww : Nat → Int32} {post : Int32 → Int32 → Int32 → Int32 → Int32 → Int32 → Int32 → Int32 → Int32 → Int32 → Nat → (Nat → Int32) → Nat → (Nat → Int32) → Prop} (hn : n < 13) (c : kBt (nI n) 2 12) (h : ∀ g, (∀ p, p < n → g p = 2) → post on (nI n) 0 0 0 0 (oac + 1) ore okn 0 n g n (fun _ => 0)) : qX3_placesW on oo og orl ork owl oww ost ord oac ore okn (nI n) post := by
  have c1 := kBt_l c
  have c2 := c.2
  refine uX3_placesW ?_
  repeat' (first | (with_reducible first | exact h | assumption | exact vp_in_pl hN (by assumption) | exact vp_in_nI (by omega) (by omega) | exact absurd (kBt_of (by assumption) (by assumption)) c | exact absurd (kSet_of (by assumption) (by assumption)) c | exact absurd (And.intro (by assumption) (by assumption)) c | exact absurd (hb.symm.trans (by assumption)) (by decide) | refine fX3_clearE hn (fun g hg => uX3_doneW (h g hg)) | refine uX3_placesW_j17 ?_ | refine uX3_placesW_j12 ?_ | refine fX3_isPlaceE hN ?_ ?_ | refine fX3_isSideE ?_ ?_ | refine fX3_isThrownW ?_ ?_ ?_ | refine fX3_isThrown_W ?_ ?_ | refine uX3_doneW ?_ | refine uX3_noW ?_ | exact nar0 | exact nar1 | refine fX3_isIn (by omega) ?_ ?_ | refine uX3_sideOf ?_ | exact fun hc => absurd rfl hc | exact fun hc => absurd hc (by decide) | contradiction | refine And.intro ?_ ?_ | intro _))
theorem mP_give {N : Nat} {oo oac a1 a2 : Int32} {post : Int32 → Int32 → Int32 → Int32 → Prop} (hN : N < 13) (c : ¬ isPl N a1) (h : post 0 oo oac 1) : qX3_giveW (nI N) oo oac a1 a2 post := by
  refine uX3_giveW ?_
  repeat' (first | (with_reducible first | exact h | assumption | exact vp_in_pl hN (by assumption) | exact vp_in_nI (by omega) (by omega) | exact absurd (kBt_of (by assumption) (by assumption)) c | exact absurd (kSet_of (by assumption) (by assumption)) c | exact absurd (And.intro (by assumption) (by assumption)) c | exact absurd (hb.symm.trans (by assumption)) (by decide) | refine uX3_giveW_j26 ?_ | refine uX3_giveW_j14 ?_ | refine fX3_isPlaceE hN ?_ ?_ | refine fX3_isSideE ?_ ?_ | refine fX3_isThrownW ?_ ?_ ?_ | refine fX3_isThrown_W ?_ ?_ | refine uX3_doneW ?_ | refine uX3_noW ?_ | exact nar0 | exact nar1 | refine fX3_isIn (by omega) ?_ ?_ | refine uX3_sideOf ?_ | exact fun hc => absurd rfl hc | exact fun hc => absurd hc (by decide) | contradiction | refine And.intro ?_ ?_ | intro _))
theorem mN_give {N : Nat} {oo oac a1 a2 : Int32} {post : Int32 → Int32 → Int32 → Int32 → Prop} (hN : N < 13) (c : isPl N a1) (c2 : ¬ kSd a2) (h : post 0 oo oac 2) : qX3_giveW (nI N) oo oac a1 a2 post := by
  refine uX3_giveW ?_
  repeat' (first | (with_reducible first | exact h | assumption | exact vp_in_pl hN (by assumption) | exact vp_in_nI (by omega) (by omega) | exact absurd (kBt_of (by assumption) (by assumption)) c | exact absurd (kSet_of (by assumption) (by assumption)) c | exact absurd (And.intro (by assumption) (by assumption)) c | exact absurd (hb.symm.trans (by assumption)) (by decide) | refine uX3_giveW_j26 ?_ | refine uX3_giveW_j14 ?_ | refine fX3_isPlaceE hN ?_ ?_ | refine fX3_isSideE ?_ ?_ | refine fX3_isThrownW ?_ ?_ ?_ | refine fX3_isThrown_W ?_ ?_ | refine uX3_doneW ?_ | refine uX3_noW ?_ | exact nar0 | exact nar1 | refine fX3_isIn (by omega) ?_ ?_ | refine uX3_sideOf ?_ | exact fun hc => absurd rfl hc | exact fun hc => absurd hc (by decide) | contradiction | refine And.intro ?_ ?_ | intro _))
theorem mE_give {N : Nat} {oo oac a1 a2 : Int32} {post : Int32 → Int32 → Int32 → Int32 → Prop} (hN : N < 13) (c : isPl N a1) (c2 : kSd a2) (h : post ((oo >>> (a1 &&& (31 : Int32))) &&& (1 : Int32)) ((oo &&& (((1 : Int32) <<< (a1 &&& (31 : Int32))) ^^^ (-1 : Int32))) ||| (a2 <<< (a1 &&& (31 : Int32)))) (oac + 1) 0) : qX3_giveW (nI N) oo oac a1 a2 post := by
  refine uX3_giveW ?_
  repeat' (first | (with_reducible first | exact h | assumption | exact vp_in_pl hN (by assumption) | exact vp_in_nI (by omega) (by omega) | exact absurd (kBt_of (by assumption) (by assumption)) c | exact absurd (kSet_of (by assumption) (by assumption)) c | exact absurd (And.intro (by assumption) (by assumption)) c | exact absurd (hb.symm.trans (by assumption)) (by decide) | refine uX3_giveW_j26 ?_ | refine uX3_giveW_j14 ?_ | refine fX3_isPlaceE hN ?_ ?_ | refine fX3_isSideE ?_ ?_ | refine fX3_isThrownW ?_ ?_ ?_ | refine fX3_isThrown_W ?_ ?_ | refine uX3_doneW ?_ | refine uX3_noW ?_ | exact nar0 | exact nar1 | refine fX3_isIn (by omega) ?_ ?_ | refine uX3_sideOf ?_ | exact fun hc => absurd rfl hc | exact fun hc => absurd hc (by decide) | contradiction | refine And.intro ?_ ?_ | intro _))
theorem mP_rank {N : Nat} {rk : Nat → Int32} {oac a1 a2 : Int32} {post : Int32 → Int32 → Int32 → (Nat → Int32) → Prop} (hN : N < 13) (c : ¬ isPl N a1) (h : post 0 oac 1 rk) : qX3_rankW (nI N) N rk oac a1 a2 post := by
  refine uX3_rankW ?_
  repeat' (first | (with_reducible first | exact h | assumption | exact vp_in_pl hN (by assumption) | exact vp_in_nI (by omega) (by omega) | exact absurd (kBt_of (by assumption) (by assumption)) c | exact absurd (kSet_of (by assumption) (by assumption)) c | exact absurd (And.intro (by assumption) (by assumption)) c | exact absurd (hb.symm.trans (by assumption)) (by decide) | refine uX3_rankW_j28 ?_ | refine uX3_rankW_j23 ?_ | refine uX3_rankW_j14 ?_ | refine fX3_isPlaceE hN ?_ ?_ | refine fX3_isSideE ?_ ?_ | refine fX3_isThrownW ?_ ?_ ?_ | refine fX3_isThrown_W ?_ ?_ | refine uX3_doneW ?_ | refine uX3_noW ?_ | exact nar0 | exact nar1 | refine fX3_isIn (by omega) ?_ ?_ | refine uX3_sideOf ?_ | exact fun hc => absurd rfl hc | exact fun hc => absurd hc (by decide) | contradiction | refine And.intro ?_ ?_ | intro _))
theorem mN_rank {N : Nat} {rk : Nat → Int32} {oac a1 a2 : Int32} {post : Int32 → Int32 → Int32 → (Nat → Int32) → Prop} (hN : N < 13) (c1 : isPl N a1) (c : ¬ kBt a2 0 2) (h : post 0 oac 2 rk) : qX3_rankW (nI N) N rk oac a1 a2 post := by
  refine uX3_rankW ?_
  repeat' (first | (with_reducible first | exact h | assumption | exact vp_in_pl hN (by assumption) | exact vp_in_nI (by omega) (by omega) | exact absurd (kBt_of (by assumption) (by assumption)) c | exact absurd (kSet_of (by assumption) (by assumption)) c | exact absurd (And.intro (by assumption) (by assumption)) c | exact absurd (hb.symm.trans (by assumption)) (by decide) | refine uX3_rankW_j28 ?_ | refine uX3_rankW_j23 ?_ | refine uX3_rankW_j14 ?_ | refine fX3_isPlaceE hN ?_ ?_ | refine fX3_isSideE ?_ ?_ | refine fX3_isThrownW ?_ ?_ ?_ | refine fX3_isThrown_W ?_ ?_ | refine uX3_doneW ?_ | refine uX3_noW ?_ | exact nar0 | exact nar1 | refine fX3_isIn (by omega) ?_ ?_ | refine uX3_sideOf ?_ | exact fun hc => absurd rfl hc | exact fun hc => absurd hc (by decide) | contradiction | refine And.intro ?_ ?_ | intro _))
theorem mE_rank {N p : Nat} {rk : Nat → Int32} {oac a2 : Int32} {post : Int32 → Int32 → Int32 → (Nat → Int32) → Prop} (hN : N < 13) (hp : p < N) (c : kBt a2 0 2) (h : post (rk p) (oac + 1) 0 (upd rk p a2)) : qX3_rankW (nI N) N rk oac (nI p) a2 post := by
  have hcl : (nI p).toNatClampNeg = p := nI_clamp (by omega)
  have c0 : isPl N (nI p) := ⟨p, hp, rfl⟩
  have c1 := kBt_l c
  have c2 := c.2
  refine uX3_rankW ?_
  repeat' (first | rw [hcl] | (with_reducible first | exact h | assumption | exact vp_in_pl hN (by assumption) | exact vp_in_nI (by omega) (by omega) | exact absurd (kBt_of (by assumption) (by assumption)) c | exact absurd (kSet_of (by assumption) (by assumption)) c | exact absurd (And.intro (by assumption) (by assumption)) c | exact absurd (hb.symm.trans (by assumption)) (by decide) | refine uX3_rankW_j28 ?_ | refine uX3_rankW_j23 ?_ | refine uX3_rankW_j14 ?_ | refine fX3_isPlaceE hN ?_ ?_ | refine fX3_isSideE ?_ ?_ | refine fX3_isThrownW ?_ ?_ ?_ | refine fX3_isThrown_W ?_ ?_ | refine uX3_doneW ?_ | refine uX3_noW ?_ | exact nar0 | exact nar1 | refine fX3_isIn (by omega) ?_ ?_ | refine uX3_sideOf ?_ | exact fun hc => absurd rfl hc | exact fun hc => absurd hc (by decide) | contradiction | refine And.intro ?_ ?_ | intro _))
theorem mN_goal {N : Nat} {og oac a1 : Int32} {post : Int32 → Int32 → Int32 → Int32 → Prop} (c : ¬ kSet N a1) (h : post 0 og oac 1) : qX3_goalW (nI N) og oac a1 post := by
  refine uX3_goalW ?_
  repeat' (first | (with_reducible first | exact h | assumption | exact vp_in_pl hN (by assumption) | exact vp_in_nI (by omega) (by omega) | exact absurd (kBt_of (by assumption) (by assumption)) c | exact absurd (kSet_of (by assumption) (by assumption)) c | exact absurd (And.intro (by assumption) (by assumption)) c | exact absurd (hb.symm.trans (by assumption)) (by decide) | refine uX3_all ?_ | refine uX3_goalW_j18 ?_ | refine uX3_goalW_j13 ?_ | refine fX3_isPlaceE hN ?_ ?_ | refine fX3_isSideE ?_ ?_ | refine fX3_isThrownW ?_ ?_ ?_ | refine fX3_isThrown_W ?_ ?_ | refine uX3_doneW ?_ | refine uX3_noW ?_ | exact nar0 | exact nar1 | refine fX3_isIn (by omega) ?_ ?_ | refine uX3_sideOf ?_ | exact fun hc => absurd rfl hc | exact fun hc => absurd hc (by decide) | contradiction | refine And.intro ?_ ?_ | intro _))
theorem mE_goal {N : Nat} {og oac a1 : Int32} {post : Int32 → Int32 → Int32 → Int32 → Prop} (c : kSet N a1) (h : post og a1 (oac + 1) 0) : qX3_goalW (nI N) og oac a1 post := by
  have c1 := kBt_l c
  have c2 := c.2
  unfold sAll at c2
  refine uX3_goalW ?_
  repeat' (first | (with_reducible first | exact h | assumption | exact vp_in_pl hN (by assumption) | exact vp_in_nI (by omega) (by omega) | exact absurd (kBt_of (by assumption) (by assumption)) c | exact absurd (kSet_of (by assumption) (by assumption)) c | exact absurd (And.intro (by assumption) (by assumption)) c | exact absurd (hb.symm.trans (by assumption)) (by decide) | refine uX3_all ?_ | refine uX3_goalW_j18 ?_ | refine uX3_goalW_j13 ?_ | refine fX3_isPlaceE hN ?_ ?_ | refine fX3_isSideE ?_ ?_ | refine fX3_isThrownW ?_ ?_ ?_ | refine fX3_isThrown_W ?_ ?_ | refine uX3_doneW ?_ | refine uX3_noW ?_ | exact nar0 | exact nar1 | refine fX3_isIn (by omega) ?_ ?_ | refine uX3_sideOf ?_ | exact fun hc => absurd rfl hc | exact fun hc => absurd hc (by decide) | contradiction | refine And.intro ?_ ?_ | intro _))
theorem mN_way {N : Nat} {w : Nat → Int32} {oac ore a1 a2 : Int32} {post : Int32 → Int32 → Int32 → Int32 → (Nat → Int32) → Prop} (hN : N < 13) (c : ¬ (isPl N a1 ∧ isPl N a2)) (h : post 0 oac ore 1 w) : qX3_wayW (nI N) N w oac ore a1 a2 post := by
  refine uX3_wayW ?_
  repeat' (first | (with_reducible first | exact h | assumption | exact vp_in_pl hN (by assumption) | exact vp_in_nI (by omega) (by omega) | exact absurd (kBt_of (by assumption) (by assumption)) c | exact absurd (kSet_of (by assumption) (by assumption)) c | exact absurd (And.intro (by assumption) (by assumption)) c | exact absurd (hb.symm.trans (by assumption)) (by decide) | refine uX3_wayW_j22 ?_ | refine uX3_wayW_j17 ?_ | refine fX3_isPlaceE hN ?_ ?_ | refine fX3_isSideE ?_ ?_ | refine fX3_isThrownW ?_ ?_ ?_ | refine fX3_isThrown_W ?_ ?_ | refine uX3_doneW ?_ | refine uX3_noW ?_ | exact nar0 | exact nar1 | refine fX3_isIn (by omega) ?_ ?_ | refine uX3_sideOf ?_ | exact fun hc => absurd rfl hc | exact fun hc => absurd hc (by decide) | contradiction | refine And.intro ?_ ?_ | intro _))
theorem mT_way {N p q : Nat} {w : Nat → Int32} {oac ore : Int32} {post : Int32 → Int32 → Int32 → Int32 → (Nat → Int32) → Prop} (hN : N < 13) (hp : p < N) (hq : q < N) (hb : bt (w p) q = true) (h : post 0 (oac + 1) ore 0 w) : qX3_wayW (nI N) N w oac ore (nI p) (nI q) post := by
  have hcl : (nI p).toNatClampNeg = p := nI_clamp (by omega)
  have c1 : isPl N (nI p) := ⟨p, hp, rfl⟩
  have c2 : isPl N (nI q) := ⟨q, hq, rfl⟩
  refine uX3_wayW ?_
  repeat' (first | rw [hcl] | (with_reducible first | exact h | assumption | exact vp_in_pl hN (by assumption) | exact vp_in_nI (by omega) (by omega) | exact absurd (kBt_of (by assumption) (by assumption)) c | exact absurd (kSet_of (by assumption) (by assumption)) c | exact absurd (And.intro (by assumption) (by assumption)) c | exact absurd (hb.symm.trans (by assumption)) (by decide) | refine uX3_wayW_j22 ?_ | refine uX3_wayW_j17 ?_ | refine fX3_isPlaceE hN ?_ ?_ | refine fX3_isSideE ?_ ?_ | refine fX3_isThrownW ?_ ?_ ?_ | refine fX3_isThrown_W ?_ ?_ | refine uX3_doneW ?_ | refine uX3_noW ?_ | exact nar0 | exact nar1 | refine fX3_isIn (by omega) ?_ ?_ | refine uX3_sideOf ?_ | exact fun hc => absurd rfl hc | exact fun hc => absurd hc (by decide) | contradiction | refine And.intro ?_ ?_ | intro _))
theorem mF_way {N p q : Nat} {w : Nat → Int32} {oac ore : Int32} {post : Int32 → Int32 → Int32 → Int32 → (Nat → Int32) → Prop} (hN : N < 13) (hp : p < N) (hq : q < N) (hw : sMW N w) (hb : ¬ bt (w p) q = true) (hc : cWn w N < 30) (h : post 1 (oac + 1) ore 0 (upd w p (w p ||| ((1 : Int32) <<< (nI q &&& (31 : Int32)))))) : qX3_wayW (nI N) N w oac ore (nI p) (nI q) post := by
  have hcl : (nI p).toNatClampNeg = p := nI_clamp (by omega)
  have c1 : isPl N (nI p) := ⟨p, hp, rfl⟩
  have c2 : isPl N (nI q) := ⟨q, hq, rfl⟩
  have h30 : ¬ nI (cWn w N) = 30 := fun e => absurd ((nI_eq (b := 30) (by omega) (by omega)).mp e) (by omega)
  refine uX3_wayW ?_
  repeat' (first | rw [hcl] | (with_reducible first | exact h | assumption | exact vp_in_pl hN (by assumption) | exact vp_in_nI (by omega) (by omega) | exact absurd (kBt_of (by assumption) (by assumption)) c | exact absurd (kSet_of (by assumption) (by assumption)) c | exact absurd (And.intro (by assumption) (by assumption)) c | exact absurd (hb.symm.trans (by assumption)) (by decide) | refine fX3_waysNowE hN hw ?_ | refine uX3_wayW_j22 ?_ | refine uX3_wayW_j17 ?_ | refine fX3_isPlaceE hN ?_ ?_ | refine fX3_isSideE ?_ ?_ | refine fX3_isThrownW ?_ ?_ ?_ | refine fX3_isThrown_W ?_ ?_ | refine uX3_doneW ?_ | refine uX3_noW ?_ | exact nar0 | exact nar1 | refine fX3_isIn (by omega) ?_ ?_ | refine uX3_sideOf ?_ | exact fun hc => absurd rfl hc | exact fun hc => absurd hc (by decide) | contradiction | refine And.intro ?_ ?_ | intro _))
theorem mR_way {N p q : Nat} {w : Nat → Int32} {oac ore : Int32} {post : Int32 → Int32 → Int32 → Int32 → (Nat → Int32) → Prop} (hN : N < 13) (hp : p < N) (hq : q < N) (hw : sMW N w) (hb : ¬ bt (w p) q = true) (hc : ¬ cWn w N < 30) (h30 : cWn w N ≤ 30) (h : post (-9) oac (ore + 1) 0 w) : qX3_wayW (nI N) N w oac ore (nI p) (nI q) post := by
  have hcl : (nI p).toNatClampNeg = p := nI_clamp (by omega)
  have c1 : isPl N (nI p) := ⟨p, hp, rfl⟩
  have c2 : isPl N (nI q) := ⟨q, hq, rfl⟩
  have h30 : nI (cWn w N) = 30 := by rw [show cWn w N = 30 from by omega]; decide
  refine uX3_wayW ?_
  repeat' (first | rw [hcl] | (with_reducible first | exact h | assumption | exact vp_in_pl hN (by assumption) | exact vp_in_nI (by omega) (by omega) | exact absurd (kBt_of (by assumption) (by assumption)) c | exact absurd (kSet_of (by assumption) (by assumption)) c | exact absurd (And.intro (by assumption) (by assumption)) c | exact absurd (hb.symm.trans (by assumption)) (by decide) | refine fX3_waysNowE hN hw ?_ | refine uX3_wayW_j22 ?_ | refine uX3_wayW_j17 ?_ | refine fX3_isPlaceE hN ?_ ?_ | refine fX3_isSideE ?_ ?_ | refine fX3_isThrownW ?_ ?_ ?_ | refine fX3_isThrown_W ?_ ?_ | refine uX3_doneW ?_ | refine uX3_noW ?_ | exact nar0 | exact nar1 | refine fX3_isIn (by omega) ?_ ?_ | refine uX3_sideOf ?_ | exact fun hc => absurd rfl hc | exact fun hc => absurd hc (by decide) | contradiction | refine And.intro ?_ ?_ | intro _))
theorem mN_lose {N : Nat} {w : Nat → Int32} {oac a1 a2 : Int32} {post : Int32 → Int32 → Int32 → (Nat → Int32) → Prop} (hN : N < 13) (c : ¬ (isPl N a1 ∧ isPl N a2)) (h : post 0 oac 1 w) : qX3_loseW (nI N) N w oac a1 a2 post := by
  refine uX3_loseW ?_
  repeat' (first | (with_reducible first | exact h | assumption | exact vp_in_pl hN (by assumption) | exact vp_in_nI (by omega) (by omega) | exact absurd (kBt_of (by assumption) (by assumption)) c | exact absurd (kSet_of (by assumption) (by assumption)) c | exact absurd (And.intro (by assumption) (by assumption)) c | exact absurd (hb.symm.trans (by assumption)) (by decide) | refine uX3_loseW_j22 ?_ | refine uX3_loseW_j17 ?_ | refine fX3_isPlaceE hN ?_ ?_ | refine fX3_isSideE ?_ ?_ | refine fX3_isThrownW ?_ ?_ ?_ | refine fX3_isThrown_W ?_ ?_ | refine uX3_doneW ?_ | refine uX3_noW ?_ | exact nar0 | exact nar1 | refine fX3_isIn (by omega) ?_ ?_ | refine uX3_sideOf ?_ | exact fun hc => absurd rfl hc | exact fun hc => absurd hc (by decide) | contradiction | refine And.intro ?_ ?_ | intro _))
theorem mE_lose {N p q : Nat} {w : Nat → Int32} {oac : Int32} {post : Int32 → Int32 → Int32 → (Nat → Int32) → Prop} (hN : N < 13) (hp : p < N) (hq : q < N) (h0 : post (if bt (w p) q = true then (1 : Int32) else 0) (oac + 1) 0 (upd w p (w p &&& (((1 : Int32) <<< (nI q &&& (31 : Int32))) ^^^ (-1 : Int32))))) : qX3_loseW (nI N) N w oac (nI p) (nI q) post := by
  have hcl : (nI p).toNatClampNeg = p := nI_clamp (by omega)
  have c1 : isPl N (nI p) := ⟨p, hp, rfl⟩
  have c2 : isPl N (nI q) := ⟨q, hq, rfl⟩
  have h1 : bt (w p) q = true → post 1 (oac + 1) 0 (upd w p (w p &&& (((1 : Int32) <<< (nI q &&& (31 : Int32))) ^^^ (-1 : Int32)))) := fun hb => by rw [if_pos hb] at h0; exact h0
  have h2 : bt (w p) q = false → post 0 (oac + 1) 0 (upd w p (w p &&& (((1 : Int32) <<< (nI q &&& (31 : Int32))) ^^^ (-1 : Int32)))) := fun hb => by rw [if_neg (by rw [hb]; decide)] at h0; exact h0
  refine uX3_loseW ?_
  repeat' (first | rw [hcl] | (with_reducible first | exact h | assumption | exact vp_in_pl hN (by assumption) | exact vp_in_nI (by omega) (by omega) | exact absurd (kBt_of (by assumption) (by assumption)) c | exact absurd (kSet_of (by assumption) (by assumption)) c | exact absurd (And.intro (by assumption) (by assumption)) c | exact absurd (hb.symm.trans (by assumption)) (by decide) | exact h1 (by assumption) | exact h2 (by assumption) | refine uX3_loseW_j22 ?_ | refine uX3_loseW_j17 ?_ | refine fX3_isPlaceE hN ?_ ?_ | refine fX3_isSideE ?_ ?_ | refine fX3_isThrownW ?_ ?_ ?_ | refine fX3_isThrown_W ?_ ?_ | refine uX3_doneW ?_ | refine uX3_noW ?_ | exact nar0 | exact nar1 | refine fX3_isIn (by omega) ?_ ?_ | refine uX3_sideOf ?_ | exact fun hc => absurd rfl hc | exact fun hc => absurd hc (by decide) | contradiction | refine And.intro ?_ ?_ | intro _))
/-! circle -/
def cirN (w : Nat → Int32) (N s : Nat) : Nat → Nat
  | 0 => 0
  | p + 1 => if bt (w p) ((p + s) % N) = true then cirN w N s p else cirN w N s p + 1
theorem cirN_eq {N s : Nat} {w : Nat → Int32} (h0 : 0 < N) (hN : N < 13) : ∀ M, cWn (cirW w N s) M = cWn w M + cirN w N s M
  | 0 => rfl
  | p + 1 => by
    have ih := cirN_eq (s := s) (w := w) h0 hN p
    have hm : (p + s) % N < N := Nat.mod_lt _ h0
    have hc := sCnt_ob (x := w p) (p := (p + s) % N) (by omega)
    rw [cWn, cWn, cirN, ih]
    have e : sCnt (cirW w N s p) = sCnt (w p ||| sBit ((p + s) % N)) := rfl
    rw [e, hc]
    by_cases hb : bt (w p) ((p + s) % N) = true
    · rw [if_pos hb, if_pos hb]; omega
    · rw [if_neg hb, if_neg hb]; omega
theorem fX3_circleE_28 {N s : Nat} {w : Nat → Int32} {K : Int32 → Int32 → Prop} (h0 : 0 < N) (hN : N < 13) (hs : s < 13) (hK : ∀ a, K (nI (cirN w N s N)) a) : ∀ (d p : Nat), p + d = N → qX3_circle_W28 (nI N) N w (nI s) K (d + 1) (nI (cirN w N s p)) (nI p)
  | 0, p, hp => by
    have : p = N := by omega
    subst this
    exact ⟨fun _ => hK _, fun hc => absurd (nI_le (Nat.le_refl _) (by omega)) hc⟩
  | d + 1, p, hp => by
    have ih := fX3_circleE_28 h0 hN hs hK d (p + 1) (by omega)
    rw [cirN] at ih
    have hm : (p + s) % N < N := Nat.mod_lt _ h0
    refine ⟨fun hc => absurd hc (nI_ge (by omega) (by omega)), fun _ => ⟨vp_in_nI (by omega) (by omega), nI_ne0 h0 (by omega), ?_⟩⟩
    rw [rem_pl h0 hN (by omega) hs, nI_clamp (by omega), nI_1 p]
    refine fX3_isIn (by omega) (fun hb => ⟨fun _ => ?_, fun e => absurd rfl e⟩) (fun hb => ⟨fun e => absurd e (by decide), fun _ => ?_⟩)
    · rw [if_neg (by rw [hb]; decide)] at ih; rw [nI_1]; exact ih
    · rw [if_pos hb] at ih; rw [add0]; exact ih
theorem fX3_circleE_88 {N s : Nat} {w : Nat → Int32} {K : Int32 → (Nat → Int32) → Prop} (h0 : 0 < N) (hN : N < 13) (hs : s < 13) (hK : ∀ a z, (∀ p, p < N → z p = cirW w N s p) → K a z) : ∀ (d p : Nat) (z : Nat → Int32), p + d = N → (∀ q, q < N → z q = if q < p then cirW w N s q else w q) → qX3_circle_W88 (nI N) N (nI s) K (d + 1) (nI p) z
  | 0, p, z, hp, hz => by
    have : p = N := by omega
    subst this
    exact ⟨fun _ => hK _ _ (fun q hq => by rw [hz q hq, if_pos hq]), fun hc => absurd (nI_le (Nat.le_refl _) (by omega)) hc⟩
  | d + 1, p, z, hp, hz => by
    have ih := fun (z : Nat → Int32) hz => fX3_circleE_88 h0 hN hs hK d (p + 1) z (by omega) hz
    simp only [← nI_1] at ih
    have hv : vp_in (nI p) N := vp_in_nI (by omega) (by omega)
    refine ⟨fun hc => absurd hc (nI_ge (by omega) (by omega)), fun _ => ⟨hv, nI_ne0 h0 (by omega), hv, ih _ (fun q hq => ?_)⟩⟩
    rw [rem_pl h0 hN (by omega) hs, nI_clamp (by omega)]
    have hzp := hz p (by omega)
    rw [if_neg (by omega)] at hzp
    by_cases e : q = p
    · rw [e, upd_eq, if_pos (by omega), hzp]; rfl
    · have hq2 := hz q hq
      rw [upd_ne e, hq2]
      by_cases e2 : q < p
      · rw [if_pos e2, if_pos (by omega)]
      · rw [if_neg e2, if_neg (by omega)]
theorem mN_circle {N : Nat} {w : Nat → Int32} {oac ore a1 : Int32} {post : Int32 → Int32 → Int32 → Int32 → (Nat → Int32) → Prop} (c : ¬ kBt a1 0 11) (h : post 0 oac ore 1 w) : qX3_circleW (nI N) N w oac ore a1 post := by
  refine uX3_circleW ?_
  repeat' (first | (with_reducible first | exact h | assumption | exact vp_in_pl hN (by assumption) | exact vp_in_nI (by omega) (by omega) | exact absurd (kBt_of (by assumption) (by assumption)) c | exact absurd (kSet_of (by assumption) (by assumption)) c | exact absurd (And.intro (by assumption) (by assumption)) c | exact absurd (hb.symm.trans (by assumption)) (by decide) | refine uX3_circleW_j16 ?_ | refine uX3_circleW_j11 ?_ | refine fX3_isPlaceE hN ?_ ?_ | refine fX3_isSideE ?_ ?_ | refine fX3_isThrownW ?_ ?_ ?_ | refine fX3_isThrown_W ?_ ?_ | refine uX3_doneW ?_ | refine uX3_noW ?_ | exact nar0 | exact nar1 | refine fX3_isIn (by omega) ?_ ?_ | refine uX3_sideOf ?_ | exact fun hc => absurd rfl hc | exact fun hc => absurd hc (by decide) | contradiction | refine And.intro ?_ ?_ | intro _))
theorem mE_circle {N s : Nat} {w : Nat → Int32} {oac ore : Int32} {post : Int32 → Int32 → Int32 → Int32 → (Nat → Int32) → Prop} (g2 : 2 ≤ N) (hN : N < 13) (hs : s < 13) (c : kBt (nI s) 0 11) (hw : sMW N w) (hc : cWn (cirW w N s) N ≤ 30) (h : ∀ w', (∀ p, p < N → w' p = cirW w N s p) → post (nI (cWn (cirW w N s) N) - nI (cWn w N)) (oac + 1) ore 0 w') : qX3_circleW (nI N) N w oac ore (nI s) post := by
  have e := cirN_eq (s := s) (w := w) (by omega) hN N
  have e2 : nI (cWn (cirW w N s) N) - nI (cWn w N) = nI (cirN w N s N) := by
    rw [e, nI_sub (by omega)]; congr 1; omega
  rw [e2] at h
  refine uX3_circleW ⟨fun k => absurd k (kBt_l c), fun _ => ⟨fun _ => uX3_circleW_j16 (fX3_isThrown_W (fun _ => ⟨fun _ => ⟨N + 1, ?_⟩, fun e => absurd rfl e⟩) (fun e => absurd rfl e)), fun k => absurd c.2 k⟩⟩
  have := fX3_circleE_28 (K := fun v2_28x v3_28x => qX3_waysNow N w (fun r71 => (((r71 + v2_28x) ≤ (30 : Int32) → (∃ n, qX3_circle_W88 (nI N) N (nI s) (fun v3_88x z2_0_88x => qX3_doneW oac v2_28x (fun r123 x123_0 => post r123 x123_0 ore 0 z2_0_88x)) n (0 : Int32) w)) ∧ (¬ (r71 + v2_28x) ≤ (30 : Int32) → qX3_noW ore (fun r82 x82_0 => post r82 oac x82_0 0 w))))) (by omega) hN hs (fun _ => fX3_waysNowE hN hw (by
    rw [nI_add, ← e]
    refine ⟨fun _ => ⟨N + 1, ?_⟩, fun k => absurd (nI_le (b := 30) hc (by omega)) k⟩
    exact fX3_circleE_88 (by omega) hN hs (fun _ z hz => uX3_doneW (h z hz)) N 0 w (by omega) (fun q hq => by rw [if_neg (by omega)]))) N 0 (by omega)
  exact this
theorem mR_circle {N s : Nat} {w : Nat → Int32} {oac ore : Int32} {post : Int32 → Int32 → Int32 → Int32 → (Nat → Int32) → Prop} (g2 : 2 ≤ N) (hN : N < 13) (hs : s < 13) (c : kBt (nI s) 0 11) (hw : sMW N w) (hc : ¬ cWn (cirW w N s) N ≤ 30) (h : post (-9) oac (ore + 1) 0 w) : qX3_circleW (nI N) N w oac ore (nI s) post := by
  have e := cirN_eq (s := s) (w := w) (by omega) hN N
  have hle := cWn_le hN (cir_MW (s := s) (w := w) (by omega) hN hw) N (Nat.le_refl N)
  refine uX3_circleW ⟨fun k => absurd k (kBt_l c), fun _ => ⟨fun _ => uX3_circleW_j16 (fX3_isThrown_W (fun _ => ⟨fun _ => ⟨N + 1, ?_⟩, fun e => absurd rfl e⟩) (fun e => absurd rfl e)), fun k => absurd c.2 k⟩⟩
  have := fX3_circleE_28 (K := fun v2_28x v3_28x => qX3_waysNow N w (fun r71 => (((r71 + v2_28x) ≤ (30 : Int32) → (∃ n, qX3_circle_W88 (nI N) N (nI s) (fun v3_88x z2_0_88x => qX3_doneW oac v2_28x (fun r123 x123_0 => post r123 x123_0 ore 0 z2_0_88x)) n (0 : Int32) w)) ∧ (¬ (r71 + v2_28x) ≤ (30 : Int32) → qX3_noW ore (fun r82 x82_0 => post r82 oac x82_0 0 w))))) (by omega) hN hs (fun _ => fX3_waysNowE hN hw (by
    rw [nI_add, ← e]
    exact ⟨fun k => absurd k (nI_ge (a := 30) (by omega) (by omega)), fun _ => uX3_noW h⟩)) N 0 (by omega)
  exact this
theorem mN_strew {N : Nat} {w rk : Nat → Int32} {oo og oac a1 : Int32} {post : Int32 → Int32 → Int32 → Int32 → Int32 → (Nat → Int32) → (Nat → Int32) → Prop} (c : ¬ kBt a1 0 9999) (h : post 0 oo og oac 1 rk w) : qX3_strewW (nI N) oo og N rk N w oac a1 post := by
  refine uX3_strewW ?_
  repeat' (first | (with_reducible first | exact h | assumption | exact vp_in_pl hN (by assumption) | exact vp_in_nI (by omega) (by omega) | exact absurd (kBt_of (by assumption) (by assumption)) c | exact absurd (kSet_of (by assumption) (by assumption)) c | exact absurd (And.intro (by assumption) (by assumption)) c | exact absurd (hb.symm.trans (by assumption)) (by decide) | refine uX3_strewW_j17 ?_ | refine uX3_strewW_j12 ?_ | refine fX3_isPlaceE hN ?_ ?_ | refine fX3_isSideE ?_ ?_ | refine fX3_isThrownW ?_ ?_ ?_ | refine fX3_isThrown_W ?_ ?_ | refine uX3_doneW ?_ | refine uX3_noW ?_ | exact nar0 | exact nar1 | refine fX3_isIn (by omega) ?_ ?_ | refine uX3_sideOf ?_ | exact fun hc => absurd rfl hc | exact fun hc => absurd hc (by decide) | contradiction | refine And.intro ?_ ?_ | intro _))
theorem fX3_strewE_37 {N s : Nat} {K : Int32 → Int32 → Int32 → (Nat → Int32) → (Nat → Int32) → Prop} (h0 : 0 < N) (hN : N < 13) (hs : s < 10000) (hK : ∀ a rk w, (∀ p, p < N → rk p = nI (strN s p % 3)) → (∀ p, p < N → w p = strW s N p) → K a (strO s N) (strG s N) rk w) : ∀ (d p : Nat) (rk w : Nat → Int32), p + d = N → (∀ q, q < p → rk q = nI (strN s q % 3)) → (∀ q, q < p → w q = strW s N q) → qX3_strew_W37 (nI N) N N (nI s) K (d + 1) (nI p) (strO s p) (strG s p) rk w
  | 0, p, rk, w, hp, hr, hz => by
    have : p = N := by omega
    subst this
    exact ⟨fun _ => hK _ _ _ hr hz, fun hc => absurd (nI_le (Nat.le_refl _) (by omega)) hc⟩
  | d + 1, p, rk, w, hp, hr, hz => by
    have ih := fun (rk w : Nat → Int32) hr hz => fX3_strewE_37 h0 hN hs hK d (p + 1) rk w (by omega) hr hz
    simp only [← nI_1] at ih
    have hpp : p * p ≤ 12 * 12 := Nat.mul_le_mul (by omega) (by omega)
    have hx : strN s p < 2 ^ 31 := by unfold strN; omega
    have hX : ((nI s + ((7 : Int32) * nI p)) + (nI p * nI p)) = nI (strN s p) := strX
    have hY : (((3 : Int32) * nI (strN s p)) + nI p) = nI (3 * strN s p + p) := by rw [show (3 : Int32) = nI 3 from by decide, pk_mul, nI_add]
    have e2 : nI (strN s p) - nI (strN s p) / (2 : Int32) * (2 : Int32) = nI (strN s p % 2) := pk_rem (d := 2) hx (by omega) (by omega)
    have e3 : nI (strN s p) - nI (strN s p) / (3 : Int32) * (3 : Int32) = nI (strN s p % 3) := pk_rem (d := 3) hx (by omega) (by omega)
    have e5 : nI (strN s p) - nI (strN s p) / (5 : Int32) * (5 : Int32) = nI (strN s p % 5) := pk_rem (d := 5) hx (by omega) (by omega)
    have eN : nI (strN s p) - nI (strN s p) / nI N * nI N = nI (strN s p % N) := pk_rem hx h0 (by omega)
    have eN3 : nI (3 * strN s p + p) - nI (3 * strN s p + p) / nI N * nI N = nI ((3 * strN s p + p) % N) := pk_rem (by unfold strN; omega) h0 (by omega)
    have hv : vp_in (nI p) N := vp_in_nI (by omega) (by omega)
    have hr' : ∀ q, q < p + 1 → (upd rk p (nI (strN s p % 3))) q = nI (strN s q % 3) := by
      intro q hq
      by_cases e : q = p
      · rw [e, upd_eq]
      · rw [upd_ne e]; exact hr q (by omega)
    have hz' : ∀ q, q < p + 1 → (upd w p (((1 : Int32) <<< (nI (strN s p % N) &&& (31 : Int32))) ||| ((1 : Int32) <<< (nI ((3 * strN s p + p) % N) &&& (31 : Int32))))) q = strW s N q := by
      intro q hq
      by_cases e : q = p
      · rw [e, upd_eq]; rfl
      · rw [upd_ne e]; exact hz q (by omega)
    have ih := ih _ _ hr' hz'
    rw [strO, strG] at ih
    refine ⟨fun hc => absurd hc (nI_ge (by omega) (by omega)), fun _ => ⟨hv, ?_⟩⟩
    rw [hX, hY, e2, e3, e5, eN, eN3, nI_clamp (by omega)]
    refine ⟨fun h5 => ⟨nI_ne0 h0 (by omega), nI_ne0 h0 (by omega), hv, ?_⟩, fun h5 => ⟨nI_ne0 h0 (by omega), nI_ne0 h0 (by omega), hv, ?_⟩⟩
    · rw [if_neg (fun e => h5 (by rw [e]; decide))] at ih
      rw [or0]; exact ih
    · rw [if_pos ((nI_eq (b := 0) (by omega) (by omega)).mp h5)] at ih
      exact ih
theorem mE_strew {N s : Nat} {w rk : Nat → Int32} {oo og oac : Int32} {post : Int32 → Int32 → Int32 → Int32 → Int32 → (Nat → Int32) → (Nat → Int32) → Prop} (g2 : 2 ≤ N) (hN : N < 13) (hs : s < 10000) (c : kBt (nI s) 0 9999) (h : ∀ rk' w', (∀ p, p < N → rk' p = nI (strN s p % 3)) → (∀ p, p < N → w' p = strW s N p) → post (nI (cWn (strW s N) N)) (strO s N) (strG s N) (oac + 1) 0 rk' w') : qX3_strewW (nI N) oo og N rk N w oac (nI s) post := by
  refine uX3_strewW ⟨fun k => absurd k (kBt_l c), fun _ => ⟨fun _ => uX3_strewW_j17 (fX3_isThrown_W (fun _ => ⟨fun _ => ⟨N + 1, ?_⟩, fun e => absurd rfl e⟩) (fun e => absurd rfl e)), fun k => absurd c.2 k⟩⟩
  have := fX3_strewE_37 (K := fun v2_37x z0_1_37x z0_2_37x z1_0_37x z2_0_37x => qX3_waysNow N z2_0_37x (fun r136 => qX3_doneW oac r136 (fun r139 x139_0 => post r139 z0_1_37x z0_2_37x x139_0 0 z1_0_37x z2_0_37x))) (by omega) hN hs (fun _ rk' w' hr hz => by
    have hw' : sMW N w' := fun p hp => by rw [hz p hp]; exact str_MW (by omega) hN p hp
    refine fX3_waysNowE hN hw' (uX3_doneW ?_)
    rw [cWn_congr N hz]
    exact h rk' w' hr hz) N 0 rk w (by omega) (fun q hq => by omega) (fun q hq => by omega)
  exact this
theorem mE_change {N : Nat} {oo oac : Int32} {post : Int32 → Int32 → Int32 → Int32 → Prop} (h : post (nI N - pcf (sAll N &&& (oo ^^^ (-1 : Int32)))) (sAll N &&& (oo ^^^ (-1 : Int32))) (oac + 1) 0) : qX3_changeW (nI N) oo oac post := h
