/-! Questions of what can be won, exactly. -/
theorem aN_coming {N : Nat} {mf : Nat → Int32} {ms mg m0 m1 a1 : Int32} {zn : Int64} {post : Int32 → Int64 → Prop} (c : ¬ kSd a1) (h : post 1 zn) : qL_coming mf (nI N) ms mg m0 m1 zn a1 post :=
  uL_coming (uX1_comingT (fCkS (fun _ => ⟨rfl, h⟩) (fun k => absurd k c)))
theorem aE_coming {N : Nat} {mf w rk : Nat → Int32} {ms mg m0 m1 a1 : Int32} {zn : Int64} {post : Int32 → Int64 → Prop} (hN : N < 13) (c : kSd a1) (hf : ∀ p, p < N → mf p = w p) (hr : rkR N m0 m1 rk) (hg : sSub mg (sAll N)) (h : post 0 (sLim w ms a1 N mg).toInt64) : qL_coming mf (nI N) ms mg m0 m1 zn a1 post :=
  uL_coming (uX1_comingT (fCkS (fun k => absurd c k) (fun _ => fX0_wonE (rk := rk) (post := fun r => post 0 r.toInt64) hN hf hr hg (by
    have e : mWon w ms mg rk N 0 a1 = sLim w ms a1 N mg := if_pos rfl
    rw [e]; exact h))))
theorem mN_coming {N : Nat} {w : Nat → Int32} {oo og a1 : Int32} {post : Int32 → Int32 → Prop} (c : ¬ kSd a1) (h : post 0 1) : qX3_comingW (nI N) oo og N w a1 post := by
  refine uX3_comingW ?_
  repeat' (first | (with_reducible first | exact h | assumption | exact vp_in_pl hN (by assumption) | exact vp_in_nI (by omega) (by omega) | exact absurd (kBt_of (by assumption) (by assumption)) c | exact absurd (kSet_of (by assumption) (by assumption)) c | exact absurd (And.intro (by assumption) (by assumption)) c | exact absurd (hb.symm.trans (by assumption)) (by decide) | refine fX3_isPlaceE hN ?_ ?_ | refine fX3_isSideE ?_ ?_ | refine fX3_isThrownW ?_ ?_ ?_ | refine fX3_isThrown_W ?_ ?_ | refine uX3_doneW ?_ | refine uX3_noW ?_ | exact nar0 | exact nar1 | refine fX3_isIn (by omega) ?_ ?_ | refine uX3_sideOf ?_ | exact fun hc => absurd rfl hc | exact fun hc => absurd hc (by decide) | contradiction | refine And.intro ?_ ?_ | intro _))
theorem mE_coming {N : Nat} {w : Nat → Int32} {oo og a1 : Int32} {post : Int32 → Int32 → Prop} (hN : N < 13) (c : kSd a1) (h : post (sLim w oo a1 N og) 0) : qX3_comingW (nI N) oo og N w a1 post := by
  refine uX3_comingW ?_
  repeat' (first | (with_reducible first | exact h | assumption | exact vp_in_pl hN (by assumption) | exact vp_in_nI (by omega) (by omega) | exact absurd (kBt_of (by assumption) (by assumption)) c | exact absurd (kSet_of (by assumption) (by assumption)) c | exact absurd (And.intro (by assumption) (by assumption)) c | exact absurd (hb.symm.trans (by assumption)) (by decide) | refine fX3_comingOf hN ?_ | refine fX3_isPlaceE hN ?_ ?_ | refine fX3_isSideE ?_ ?_ | refine fX3_isThrownW ?_ ?_ ?_ | refine fX3_isThrown_W ?_ ?_ | refine uX3_doneW ?_ | refine uX3_noW ?_ | exact nar0 | exact nar1 | refine fX3_isIn (by omega) ?_ ?_ | refine uX3_sideOf ?_ | exact fun hc => absurd rfl hc | exact fun hc => absurd hc (by decide) | contradiction | refine And.intro ?_ ?_ | intro _))
theorem aN_keeping {N : Nat} {mf : Nat → Int32} {ms mg m0 m1 a1 : Int32} {zn : Int64} {post : Int32 → Int64 → Prop} (c : ¬ kSd a1) (h : post 1 zn) : qL_keeping mf (nI N) ms mg m0 m1 zn a1 post :=
  uL_keeping (uX1_keepingT (fCkS (fun _ => ⟨rfl, h⟩) (fun k => absurd k c)))
theorem aE_keeping {N : Nat} {mf w rk : Nat → Int32} {ms mg m0 m1 a1 : Int32} {zn : Int64} {post : Int32 → Int64 → Prop} (hN : N < 13) (c : kSd a1) (hf : ∀ p, p < N → mf p = w p) (hr : rkR N m0 m1 rk) (hg : sSub mg (sAll N)) (h : post 0 (sAll N &&& (sLim w ms (1 - a1) N mg ^^^ (-1 : Int32))).toInt64) : qL_keeping mf (nI N) ms mg m0 m1 zn a1 post :=
  uL_keeping (uX1_keepingT (fCkS (fun k => absurd c k) (fun _ => fX0_wonE (rk := rk) (post := fun r => post 0 r.toInt64) hN hf hr hg (by
    have e : mWon w ms mg rk N 1 a1 = sAll N &&& (sLim w ms (1 - a1) N mg ^^^ (-1 : Int32)) := (if_neg (by decide)).trans (if_pos rfl)
    rw [e]; exact h))))
theorem mN_keeping {N : Nat} {w : Nat → Int32} {oo og a1 : Int32} {post : Int32 → Int32 → Prop} (c : ¬ kSd a1) (h : post 0 1) : qX3_keepingW (nI N) oo og N w a1 post := by
  refine uX3_keepingW ?_
  repeat' (first | (with_reducible first | exact h | assumption | exact vp_in_pl hN (by assumption) | exact vp_in_nI (by omega) (by omega) | exact absurd (kBt_of (by assumption) (by assumption)) c | exact absurd (kSet_of (by assumption) (by assumption)) c | exact absurd (And.intro (by assumption) (by assumption)) c | exact absurd (hb.symm.trans (by assumption)) (by decide) | refine fX3_isPlaceE hN ?_ ?_ | refine fX3_isSideE ?_ ?_ | refine fX3_isThrownW ?_ ?_ ?_ | refine fX3_isThrown_W ?_ ?_ | refine uX3_doneW ?_ | refine uX3_noW ?_ | exact nar0 | exact nar1 | refine fX3_isIn (by omega) ?_ ?_ | refine uX3_sideOf ?_ | exact fun hc => absurd rfl hc | exact fun hc => absurd hc (by decide) | contradiction | refine And.intro ?_ ?_ | intro _))
theorem mE_keeping {N : Nat} {w : Nat → Int32} {oo og a1 : Int32} {post : Int32 → Int32 → Prop} (hN : N < 13) (c : kSd a1) (h : post (sAll N &&& (sLim w oo (1 - a1) N og ^^^ (-1 : Int32))) 0) : qX3_keepingW (nI N) oo og N w a1 post := by
  refine uX3_keepingW ?_
  repeat' (first | (with_reducible first | exact h | assumption | exact vp_in_pl hN (by assumption) | exact vp_in_nI (by omega) (by omega) | exact absurd (kBt_of (by assumption) (by assumption)) c | exact absurd (kSet_of (by assumption) (by assumption)) c | exact absurd (And.intro (by assumption) (by assumption)) c | exact absurd (hb.symm.trans (by assumption)) (by decide) | refine fX3_keepingOf hN ?_ | refine fX3_isPlaceE hN ?_ ?_ | refine fX3_isSideE ?_ ?_ | refine fX3_isThrownW ?_ ?_ ?_ | refine fX3_isThrown_W ?_ ?_ | refine uX3_doneW ?_ | refine uX3_noW ?_ | exact nar0 | exact nar1 | refine fX3_isIn (by omega) ?_ ?_ | refine uX3_sideOf ?_ | exact fun hc => absurd rfl hc | exact fun hc => absurd hc (by decide) | contradiction | refine And.intro ?_ ?_ | intro _))
theorem aN_again {N : Nat} {mf : Nat → Int32} {ms mg m0 m1 a1 : Int32} {zn : Int64} {post : Int32 → Int64 → Prop} (c : ¬ kSd a1) (h : post 1 zn) : qL_again mf (nI N) ms mg m0 m1 zn a1 post :=
  uL_again (uX1_againT (fCkS (fun _ => ⟨rfl, h⟩) (fun k => absurd k c)))
theorem aE_again {N : Nat} {mf w rk : Nat → Int32} {ms mg m0 m1 a1 : Int32} {zn : Int64} {post : Int32 → Int64 → Prop} (hN : N < 13) (c : kSd a1) (hf : ∀ p, p < N → mf p = w p) (hr : rkR N m0 m1 rk) (hg : sSub mg (sAll N)) (h : post 0 (sAgain w ms a1 mg N).toInt64) : qL_again mf (nI N) ms mg m0 m1 zn a1 post :=
  uL_again (uX1_againT (fCkS (fun k => absurd c k) (fun _ => fX0_wonE (rk := rk) (post := fun r => post 0 r.toInt64) hN hf hr hg (by
    have e : mWon w ms mg rk N 2 a1 = sAgain w ms a1 mg N := (if_neg (by decide)).trans ((if_neg (by decide)).trans (if_pos rfl))
    rw [e]; exact h))))
theorem mN_again {N : Nat} {w : Nat → Int32} {oo og a1 : Int32} {post : Int32 → Int32 → Prop} (c : ¬ kSd a1) (h : post 0 1) : qX3_againW (nI N) oo og N w a1 post := by
  refine uX3_againW ?_
  repeat' (first | (with_reducible first | exact h | assumption | exact vp_in_pl hN (by assumption) | exact vp_in_nI (by omega) (by omega) | exact absurd (kBt_of (by assumption) (by assumption)) c | exact absurd (kSet_of (by assumption) (by assumption)) c | exact absurd (And.intro (by assumption) (by assumption)) c | exact absurd (hb.symm.trans (by assumption)) (by decide) | refine fX3_isPlaceE hN ?_ ?_ | refine fX3_isSideE ?_ ?_ | refine fX3_isThrownW ?_ ?_ ?_ | refine fX3_isThrown_W ?_ ?_ | refine uX3_doneW ?_ | refine uX3_noW ?_ | exact nar0 | exact nar1 | refine fX3_isIn (by omega) ?_ ?_ | refine uX3_sideOf ?_ | exact fun hc => absurd rfl hc | exact fun hc => absurd hc (by decide) | contradiction | refine And.intro ?_ ?_ | intro _))
theorem mE_again {N : Nat} {w : Nat → Int32} {oo og a1 : Int32} {post : Int32 → Int32 → Prop} (hN : N < 13) (c : kSd a1) (h : post (sAgain w oo a1 og N) 0) : qX3_againW (nI N) oo og N w a1 post := by
  refine uX3_againW ?_
  repeat' (first | (with_reducible first | exact h | assumption | exact vp_in_pl hN (by assumption) | exact vp_in_nI (by omega) (by omega) | exact absurd (kBt_of (by assumption) (by assumption)) c | exact absurd (kSet_of (by assumption) (by assumption)) c | exact absurd (And.intro (by assumption) (by assumption)) c | exact absurd (hb.symm.trans (by assumption)) (by decide) | refine fX3_againOf hN ?_ | refine fX3_isPlaceE hN ?_ ?_ | refine fX3_isSideE ?_ ?_ | refine fX3_isThrownW ?_ ?_ ?_ | refine fX3_isThrown_W ?_ ?_ | refine uX3_doneW ?_ | refine uX3_noW ?_ | exact nar0 | exact nar1 | refine fX3_isIn (by omega) ?_ ?_ | refine uX3_sideOf ?_ | exact fun hc => absurd rfl hc | exact fun hc => absurd hc (by decide) | contradiction | refine And.intro ?_ ?_ | intro _))
theorem aN_ranked {N : Nat} {mf : Nat → Int32} {ms mg m0 m1 a1 : Int32} {zn : Int64} {post : Int32 → Int64 → Prop} (c : ¬ kSd a1) (h : post 1 zn) : qL_ranked mf (nI N) ms mg m0 m1 zn a1 post :=
  uL_ranked (uX1_rankedT (fCkS (fun _ => ⟨rfl, h⟩) (fun k => absurd k c)))
theorem aE_ranked {N : Nat} {mf w rk : Nat → Int32} {ms mg m0 m1 a1 : Int32} {zn : Int64} {post : Int32 → Int64 → Prop} (hN : N < 13) (c : kSd a1) (hf : ∀ p, p < N → mf p = w p) (hr : rkR N m0 m1 rk) (hg : sSub mg (sAll N)) (h : post 0 (mWon w ms mg rk N 3 a1).toInt64) : qL_ranked mf (nI N) ms mg m0 m1 zn a1 post :=
  uL_ranked (uX1_rankedT (fCkS (fun k => absurd c k) (fun _ => fX0_wonE (rk := rk) (post := fun r => post 0 r.toInt64) hN hf hr hg (by
    have e : mWon w ms mg rk N 3 a1 = mWon w ms mg rk N 3 a1 := rfl
    rw [e]; exact h))))
theorem mN_ranked {N : Nat} {w rk : Nat → Int32} {oo og a1 : Int32} {post : Int32 → Int32 → Prop} (c : ¬ kSd a1) (h : post 0 1) : qX3_rankedW (nI N) oo og N rk N w a1 post := by
  refine uX3_rankedW ?_
  repeat' (first | (with_reducible first | exact h | assumption | exact vp_in_pl hN (by assumption) | exact vp_in_nI (by omega) (by omega) | exact absurd (kBt_of (by assumption) (by assumption)) c | exact absurd (kSet_of (by assumption) (by assumption)) c | exact absurd (And.intro (by assumption) (by assumption)) c | exact absurd (hb.symm.trans (by assumption)) (by decide) | refine uX3_rankedW_j13 ?_ | refine fX3_isPlaceE hN ?_ ?_ | refine fX3_isSideE ?_ ?_ | refine fX3_isThrownW ?_ ?_ ?_ | refine fX3_isThrown_W ?_ ?_ | refine uX3_doneW ?_ | refine uX3_noW ?_ | exact nar0 | exact nar1 | refine fX3_isIn (by omega) ?_ ?_ | refine uX3_sideOf ?_ | exact fun hc => absurd rfl hc | exact fun hc => absurd hc (by decide) | contradiction | refine And.intro ?_ ?_ | intro _))
theorem mE_ranked {N : Nat} {w rk : Nat → Int32} {oo og a1 : Int32} {post : Int32 → Int32 → Prop} (hN : N < 13) (c : kSd a1) (h : post (mWon w oo og rk N 3 a1) 0) : qX3_rankedW (nI N) oo og N rk N w a1 post := by
  refine uX3_rankedW ?_
  repeat' (first | (with_reducible first | exact h | assumption | exact vp_in_pl hN (by assumption) | exact vp_in_nI (by omega) (by omega) | exact absurd (kBt_of (by assumption) (by assumption)) c | exact absurd (kSet_of (by assumption) (by assumption)) c | exact absurd (And.intro (by assumption) (by assumption)) c | exact absurd (hb.symm.trans (by assumption)) (by decide) | refine fX3_wonIn hN ?_ | refine uX3_rankedW_j13 ?_ | refine fX3_isPlaceE hN ?_ ?_ | refine fX3_isSideE ?_ ?_ | refine fX3_isThrownW ?_ ?_ ?_ | refine fX3_isThrown_W ?_ ?_ | refine uX3_doneW ?_ | refine uX3_noW ?_ | exact nar0 | exact nar1 | refine fX3_isIn (by omega) ?_ ?_ | refine uX3_sideOf ?_ | exact fun hc => absurd rfl hc | exact fun hc => absurd hc (by decide) | contradiction | refine And.intro ?_ ?_ | intro _))
theorem i5_of {a : Int32} (c : kBt a 0 4) : a = 0 ∨ a = 1 ∨ a = 2 ∨ a = 3 ∨ a = 4 := by
  obtain ⟨j, hj, rfl⟩ := nI_of2 (M := 4) (n := 4) (by decide) (kBt_l c) c.2
  rcases j with _ | _ | _ | _ | _ | j
  · exact Or.inl (by decide)
  · exact Or.inr (Or.inl (by decide))
  · exact Or.inr (Or.inr (Or.inl (by decide)))
  · exact Or.inr (Or.inr (Or.inr (Or.inl (by decide))))
  · exact Or.inr (Or.inr (Or.inr (Or.inr (by decide))))
  · omega
/-- who wins: the game asked, and the side that it is asked of -/
def wnG (a : Int32) : Int32 := if a = 4 then 3 else if a = 0 ∨ a = 1 then 0 else 2
def wnS (a : Int32) : Int32 := if a = 1 ∨ a = 3 then 1 else 0
def wnA (N : Nat) (w rk : Nat → Int32) (oo og : Int32) (p : Nat) (a : Int32) : Int32 := if bt (mWon w oo og rk N (wnG a) (wnS a)) p = true then wnS a else 1 - wnS a
theorem aP_winner {N : Nat} {mf : Nat → Int32} {ms mg m0 m1 a1 a2 : Int32} {zn : Int64} {post : Int32 → Int64 → Prop} (hN : N < 13) (c : ¬ isPl N a2) (h : post 1 zn) : qL_winner mf (nI N) ms mg m0 m1 zn a1 a2 post :=
  uL_winner (uX1_winnerT (fCkP hN (fun _ => Or.inl ⟨rfl, h⟩) (fun k => absurd k c)))
theorem aN_winner {N : Nat} {mf : Nat → Int32} {ms mg m0 m1 a1 a2 : Int32} {zn : Int64} {post : Int32 → Int64 → Prop} (hN : N < 13) (c : isPl N a2) (c2 : ¬ kBt a1 0 4) (h : post 2 zn) : qL_winner mf (nI N) ms mg m0 m1 zn a1 a2 post :=
  uL_winner (uX1_winnerT (fCkP hN (fun k => absurd c k) (fun _ => fCkB (fun _ => Or.inr ⟨rfl, h⟩) (fun k => absurd k c2))))
theorem aE_winner {N p : Nat} {mf w rk : Nat → Int32} {ms mg m0 m1 a1 : Int32} {zn : Int64} {post : Int32 → Int64 → Prop} (hN : N < 13) (hp : p < N) (c : kBt a1 0 4) (hf : ∀ p, p < N → mf p = w p) (hr : rkR N m0 m1 rk) (hg : sSub mg (sAll N)) (h : post 0 (wnA N w rk ms mg p a1).toInt64) : qL_winner mf (nI N) ms mg m0 m1 zn a1 (nI p) post := by
  refine uL_winner (uX1_winnerT (fCkP hN (fun k => absurd ⟨p, hp, rfl⟩ k) (fun _ => fCkB (fun k => absurd c k) (fun _ => ?_))))
  have h5 := i5_of c
  have t : ∀ g s : Int32, wnG a1 = g → wnS a1 = s → (bt (mWon w ms mg rk N g s) p = true → post 0 s.toInt64) ∧ (bt (mWon w ms mg rk N g s) p = false → post 0 (1 - s).toInt64) := by
    rintro g s rfl rfl
    refine ⟨fun hb => ?_, fun hb => ?_⟩
    · unfold wnA at h; rw [if_pos hb] at h; exact h
    · unfold wnA at h; rw [if_neg (by rw [hb]; decide)] at h; exact h
  have g0 : ∀ g : Int32, wnG a1 = g → wnS a1 = 0 → qX0_won mf (nI N) ms mg m0 m1 g 0 (fun r50 => qX1_has r50 (nI p) (fun r54 => ((r54 = (0 : Int32) → post 0 (1 : Int32).toInt64) ∧ (¬ r54 = (0 : Int32) → post 0 (0 : Int32).toInt64)))) := by
    intro g e1 e2
    obtain ⟨t1, t2⟩ := t g 0 e1 e2
    exact fX0_wonE (rk := rk) hN hf hr hg (fX1_has (by omega) (fun hb => ⟨fun _ => t2 hb, fun e => absurd rfl e⟩) (fun hb => ⟨fun e => absurd e (by decide), fun _ => t1 hb⟩))
  have g1 : ∀ g : Int32, wnG a1 = g → wnS a1 = 1 → qX0_won mf (nI N) ms mg m0 m1 g 1 (fun r50 => qX1_has r50 (nI p) (fun r54 => ((r54 = (0 : Int32) → post 0 (0 : Int32).toInt64) ∧ (¬ r54 = (0 : Int32) → post 0 (1 : Int32).toInt64)))) := by
    intro g e1 e2
    obtain ⟨t1, t2⟩ := t g 1 e1 e2
    exact fX0_wonE (rk := rk) hN hf hr hg (fX1_has (by omega) (fun hb => ⟨fun _ => t2 hb, fun e => absurd rfl e⟩) (fun hb => ⟨fun e => absurd e (by decide), fun _ => t1 hb⟩))
  refine ⟨fun e0 => ?_, fun e0 => ⟨fun e1 => ?_, fun e1 => ⟨fun e2 => ?_, fun e2 => ⟨fun e3 => ?_, fun e3 => ?_⟩⟩⟩⟩
  · exact g0 0 (by rw [e0]; decide) (by rw [e0]; decide)
  · exact g1 0 (by rw [e1]; decide) (by rw [e1]; decide)
  · exact g0 2 (by rw [e2]; decide) (by rw [e2]; decide)
  · exact g1 2 (by rw [e3]; decide) (by rw [e3]; decide)
  · have e4 : a1 = 4 := by
      rcases h5 with h | h | h | h | h
      · exact absurd h e0
      · exact absurd h e1
      · exact absurd h e2
      · exact absurd h e3
      · exact h
    exact g0 3 (by rw [e4]; decide) (by rw [e4]; decide)
theorem mP_winner {N : Nat} {w rk : Nat → Int32} {oo og a1 a2 : Int32} {post : Int32 → Int32 → Prop} (hN : N < 13) (c : ¬ isPl N a2) (h : post 0 1) : qX3_winnerW (nI N) oo og N rk N w a1 a2 post := by
  refine uX3_winnerW ?_
  repeat' (first | (with_reducible first | exact h | assumption | exact vp_in_pl hN (by assumption) | exact vp_in_nI (by omega) (by omega) | exact absurd (kBt_of (by assumption) (by assumption)) c | exact absurd (kSet_of (by assumption) (by assumption)) c | exact absurd (And.intro (by assumption) (by assumption)) c | exact absurd (hb.symm.trans (by assumption)) (by decide) | refine uX3_winnerW_j69 ?_ | refine uX3_winnerW_j48 ?_ | refine uX3_winnerW_j28 ?_ | refine uX3_winnerW_j23 ?_ | refine uX3_winnerW_j14 ?_ | refine fX3_isPlaceE hN ?_ ?_ | refine fX3_isSideE ?_ ?_ | refine fX3_isThrownW ?_ ?_ ?_ | refine fX3_isThrown_W ?_ ?_ | refine uX3_doneW ?_ | refine uX3_noW ?_ | exact nar0 | exact nar1 | refine fX3_isIn (by omega) ?_ ?_ | refine uX3_sideOf ?_ | exact fun hc => absurd rfl hc | exact fun hc => absurd hc (by decide) | contradiction | refine And.intro ?_ ?_ | intro _))
theorem mN_winner {N : Nat} {w rk : Nat → Int32} {oo og a1 a2 : Int32} {post : Int32 → Int32 → Prop} (hN : N < 13) (c1 : isPl N a2) (c : ¬ kBt a1 0 4) (h : post 0 2) : qX3_winnerW (nI N) oo og N rk N w a1 a2 post := by
  refine uX3_winnerW ?_
  repeat' (first | (with_reducible first | exact h | assumption | exact vp_in_pl hN (by assumption) | exact vp_in_nI (by omega) (by omega) | exact absurd (kBt_of (by assumption) (by assumption)) c | exact absurd (kSet_of (by assumption) (by assumption)) c | exact absurd (And.intro (by assumption) (by assumption)) c | exact absurd (hb.symm.trans (by assumption)) (by decide) | refine uX3_winnerW_j69 ?_ | refine uX3_winnerW_j48 ?_ | refine uX3_winnerW_j28 ?_ | refine uX3_winnerW_j23 ?_ | refine uX3_winnerW_j14 ?_ | refine fX3_isPlaceE hN ?_ ?_ | refine fX3_isSideE ?_ ?_ | refine fX3_isThrownW ?_ ?_ ?_ | refine fX3_isThrown_W ?_ ?_ | refine uX3_doneW ?_ | refine uX3_noW ?_ | exact nar0 | exact nar1 | refine fX3_isIn (by omega) ?_ ?_ | refine uX3_sideOf ?_ | exact fun hc => absurd rfl hc | exact fun hc => absurd hc (by decide) | contradiction | refine And.intro ?_ ?_ | intro _))
theorem mW_winner {N p : Nat} {w rk : Nat → Int32} {oo og a1 s g : Int32} {post : Int32 → Int32 → Prop} (hN : N < 13) (hp : p < N) (hg : wnG a1 = g) (hs : wnS a1 = s) (h : post (wnA N w rk oo og p a1) 0) : qX3_winnerW_j69 (nI N) oo og N rk N w (nI p) 0 s g post := by
  subst hg hs
  unfold wnA at h
  exact uX3_winnerW_j69 (fX3_wonIn hN (fX3_isIn (by omega) (fun hb => ⟨fun _ => by rw [if_neg (by rw [hb]; decide)] at h; exact h, fun e => absurd rfl e⟩) (fun hb => ⟨fun e => absurd e (by decide), fun _ => by rw [if_pos hb] at h; exact h⟩)))
theorem mE_winner {N p : Nat} {w rk : Nat → Int32} {oo og a1 : Int32} {post : Int32 → Int32 → Prop} (hN : N < 13) (hp : p < N) (c : kBt a1 0 4) (h : post (wnA N w rk oo og p a1) 0) : qX3_winnerW (nI N) oo og N rk N w a1 (nI p) post := by
  have h5 := i5_of c
  refine uX3_winnerW (fX3_isPlaceE hN (fun k => absurd ⟨p, hp, rfl⟩ k) (fun _ => ⟨fun _ => uX3_winnerW_j14 ⟨fun e => absurd e (kBt_l c), fun _ => ⟨fun _ => uX3_winnerW_j28 (fX3_isThrownW (fun _ _ => ⟨fun _ => ?_, fun e => absurd rfl e⟩) (fun _ e => absurd rfl e) (fun e => absurd rfl e)), fun e => absurd c.2 e⟩⟩, fun e => absurd e (by decide)⟩))
  rcases h5 with rfl | rfl | rfl | rfl | rfl
  · exact ⟨fun _ => uX3_winnerW_j48 ⟨fun _ => ⟨fun e => absurd e (by decide), fun _ => mW_winner hN hp (by decide) (by decide) h⟩, fun e => absurd e (by decide)⟩, fun e => absurd e (by decide)⟩
  · exact ⟨fun _ => uX3_winnerW_j48 ⟨fun _ => ⟨fun e => absurd e (by decide), fun _ => mW_winner hN hp (by decide) (by decide) h⟩, fun e => absurd e (by decide)⟩, fun e => absurd e (by decide)⟩
  · exact ⟨fun _ => uX3_winnerW_j48 ⟨fun _ => ⟨fun _ => mW_winner hN hp (by decide) (by decide) h, fun e => absurd (by decide) e⟩, fun e => absurd e (by decide)⟩, fun e => absurd e (by decide)⟩
  · exact ⟨fun _ => uX3_winnerW_j48 ⟨fun _ => ⟨fun _ => mW_winner hN hp (by decide) (by decide) h, fun e => absurd (by decide) e⟩, fun e => absurd e (by decide)⟩, fun e => absurd e (by decide)⟩
  · exact ⟨fun e => absurd rfl e, fun _ => uX3_winnerW_j48 ⟨fun e => absurd rfl e, fun _ => mW_winner hN hp (by decide) (by decide) h⟩⟩
