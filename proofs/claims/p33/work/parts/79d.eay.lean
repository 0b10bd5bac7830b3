/-! The stone, what is told, the counts, the told choice, exactly. -/
theorem aN_stand {N : Nat} {xst xgo xdo a1 : Int32} {zn : Int64} {post : Int32 → Int32 → Int32 → Int32 → Int64 → Prop} (hN : N < 13) (c : ¬ isPl N a1) (h : post 1 xst xgo xdo zn) : qL_stand (nI N) xst xgo xdo zn a1 post :=
  uL_stand (uX1_standT (fCkP hN (fun _ => ⟨rfl, h⟩) (fun k => absurd k c)))
theorem aE_stand {N : Nat} {xst xgo xdo a1 : Int32} {zn : Int64} {post : Int32 → Int32 → Int32 → Int32 → Int64 → Prop} (hN : N < 13) (c : isPl N a1) (h : post 0 a1 0 (xdo + 1) xst.toInt64) : qL_stand (nI N) xst xgo xdo zn a1 post :=
  uL_stand (uX1_standT (fCkP hN (fun k => absurd c k) (fun _ => h)))
theorem aN_go {N : Nat} {mf : Nat → Int32} {xst xgo xdo xre a1 : Int32} {zn : Int64} {post : Int32 → Int32 → Int32 → Int32 → Int32 → Int64 → Prop} (hN : N < 13) (c : ¬ isPl N a1) (h : post 1 xst xgo xdo xre zn) : qL_go mf (nI N) xst xgo xdo xre zn a1 post :=
  uL_go (uX1_goT (fCkP hN (fun _ => ⟨rfl, h⟩) (fun k => absurd k c)))
theorem aT_go {N t q : Nat} {mf w : Nat → Int32} {xgo xdo xre : Int32} {zn : Int64} {post : Int32 → Int32 → Int32 → Int32 → Int32 → Int64 → Prop} (hN : N < 13) (ht : t < N) (hq : q < N) (hf : ∀ p, p < N → mf p = w p) (hb : bt (w t) q = true) (h : post 0 (nI q) (xgo + 1) (xdo + 1) xre (xgo + 1).toInt64) : qL_go mf (nI N) (nI t) xgo xdo xre zn (nI q) post :=
  uL_go (uX1_goT (fCkP hN (fun k => absurd ⟨q, hq, rfl⟩ k) (fun _ => fX0_waysFrom (by omega) (fX1_has (by omega) (fun h0 => absurd hb (by rw [← hf t ht, h0]; decide)) (fun _ => ⟨fun _ => uX1_moveStoneW h, fun e => absurd e (by decide)⟩)))))
theorem aF_go {N t q : Nat} {mf w : Nat → Int32} {xgo xdo xre : Int32} {zn : Int64} {post : Int32 → Int32 → Int32 → Int32 → Int32 → Int64 → Prop} (hN : N < 13) (ht : t < N) (hq : q < N) (hf : ∀ p, p < N → mf p = w p) (hb : ¬ bt (w t) q = true) (h : post 0 (nI t) xgo xdo (xre + 1) (-9 : Int32).toInt64) : qL_go mf (nI N) (nI t) xgo xdo xre zn (nI q) post :=
  uL_go (uX1_goT (fCkP hN (fun k => absurd ⟨q, hq, rfl⟩ k) (fun _ => fX0_waysFrom (by omega) (fX1_has (by omega) (fun _ => ⟨fun e => absurd rfl e, fun _ => uX1_refuseW h⟩) (fun h1 => absurd (by rw [← hf t ht]; exact h1) hb)))))
/-! told choices: none, or a place of the map -/
theorem lsF_cases {f : Nat → Bool} : ∀ (d p : Nat), lsF f d p = -1 ∨ ∃ q, f q = true ∧ lsF f d p = nI q
  | 0, _ => Or.inl rfl
  | d + 1, p => by
    rw [lsF]
    by_cases h : f p = true
    · rw [if_pos h]; exact Or.inr ⟨p, h, rfl⟩
    · rw [if_neg h]; exact lsF_cases d (p + 1)
theorem chA_cases {N p : Nat} {w : Nat → Int32} {oo og A game side : Int32} (hN : N < 13) (hp : p < N) (hw : sMW N w) : chA N w oo og A game side p = -1 ∨ isPl N (chA N w oo og A game side p) := by
  have key : ∀ S, lsF (bt (w p &&& S)) 12 0 = -1 ∨ isPl N (lsF (bt (w p &&& S)) 12 0) := by
    intro S
    rcases lsF_cases (f := bt (w p &&& S)) 12 0 with h | ⟨q, hq, h⟩
    · exact Or.inl h
    · right
      have h32 : q < 32 := by
        apply Classical.byContradiction
        intro hn
        rw [b_big (by omega)] at hq; cases hq
      rw [b_and, Bool.and_eq_true] at hq
      have := hw p hp q h32 hq.1
      rw [bt_sAll N hN q h32, decide_eq_true_eq] at this
      exact ⟨q, this, h⟩
  unfold chA
  split
  · split
    · exact key _
    · exact key _
  · exact Or.inl rfl
theorem side_kSd {oo : Int32} {t : Nat} (ht : t < 32) : kSd ((oo >>> (nI t &&& (31 : Int32))) &&& (1 : Int32)) := by
  rw [has_val oo ht]
  cases bt oo t
  · exact Or.inl rfl
  · exact Or.inr rfl
/-- what follow chooses -/
def flC (N : Nat) (w rk : Nat → Int32) (oo og game : Int32) (t : Nat) : Int32 := chA N w oo og (mWon w oo og rk N game ((oo >>> (nI t &&& (31 : Int32))) &&& (1 : Int32))) game ((oo >>> (nI t &&& (31 : Int32))) &&& (1 : Int32)) t
theorem flC_cases {N t : Nat} {w rk : Nat → Int32} {oo og game : Int32} (hN : N < 13) (ht : t < N) (hw : sMW N w) : flC N w rk oo og game t = -1 ∨ isPl N (flC N w rk oo og game t) := chA_cases hN ht hw
theorem aN_follow {N : Nat} {mf : Nat → Int32} {ms mg m0 m1 xst xgo xdo xre a1 : Int32} {zn : Int64} {post : Int32 → Int32 → Int32 → Int32 → Int32 → Int64 → Prop} (c : ¬ kBt a1 0 2) (h : post 1 xst xgo xdo xre zn) : qL_follow mf (nI N) ms mg m0 m1 xst xgo xdo xre zn a1 post :=
  uL_follow (uX1_followT (fCkB (fun _ => ⟨rfl, h⟩) (fun k => absurd k c)))
theorem aT_follow {N t : Nat} {mf w rk : Nat → Int32} {ms mg m0 m1 xgo xdo xre a1 : Int32} {zn : Int64} {post : Int32 → Int32 → Int32 → Int32 → Int32 → Int64 → Prop} (hN : N < 13) (ht : t < N) (c : kBt a1 0 2) (hf : ∀ p, p < N → mf p = w p) (hr : rkR N m0 m1 rk) (hg : sSub mg (sAll N)) (hc : ¬ flC N w rk ms mg a1 t = -1) (h : post 0 (flC N w rk ms mg a1 t) (xgo + 1) (xdo + 1) xre (flC N w rk ms mg a1 t).toInt64) : qL_follow mf (nI N) ms mg m0 m1 (nI t) xgo xdo xre zn a1 post :=
  uL_follow (uX1_followT (fCkB (fun k => absurd c k) (fun _ => uX0_sideOf (fX0_pickE (rk := rk) hN ht (side_kSd (by omega)) hf hr hg ⟨fun _ => uX1_moveStoneW h, fun e => absurd e hc⟩))))
theorem aF_follow {N t : Nat} {mf w rk : Nat → Int32} {ms mg m0 m1 xgo xdo xre a1 : Int32} {zn : Int64} {post : Int32 → Int32 → Int32 → Int32 → Int32 → Int64 → Prop} (hN : N < 13) (ht : t < N) (c : kBt a1 0 2) (hf : ∀ p, p < N → mf p = w p) (hr : rkR N m0 m1 rk) (hg : sSub mg (sAll N)) (hc : flC N w rk ms mg a1 t = -1) (h : post 0 (nI t) xgo xdo (xre + 1) (-9 : Int32).toInt64) : qL_follow mf (nI N) ms mg m0 m1 (nI t) xgo xdo xre zn a1 post :=
  uL_follow (uX1_followT (fCkB (fun k => absurd c k) (fun _ => uX0_sideOf (fX0_pickE (rk := rk) hN ht (side_kSd (by omega)) hf hr hg ⟨fun e => absurd hc e, fun _ => uX1_refuseW h⟩))))
/-! told, house, choice -/
def tdA (N : Nat) (w : Nat → Int32) (oo og st gn a : Int32) : Int32 := if a = 0 then nI N else if a = 1 then nI (cWn w N) else if a = 2 then og else if a = 3 then oo else if a = 4 then st else if a = 5 then gn else nI (cSt w N)
theorem aN_told {N : Nat} {mf : Nat → Int32} {ms mg xst xgo a1 : Int32} {zn : Int64} {post : Int32 → Int64 → Prop} (c : ¬ kBt a1 0 6) (h : post 1 zn) : qL_told mf (nI N) ms mg xst xgo zn a1 post :=
  uL_told (uX1_toldT (fCkB (fun _ => ⟨rfl, h⟩) (fun k => absurd k c)))
theorem aE_told {N : Nat} {mf w : Nat → Int32} {ms mg xst xgo a1 : Int32} {zn : Int64} {post : Int32 → Int64 → Prop} (hN : N < 13) (c : kBt a1 0 6) (hw : sMW N w) (hf : ∀ p, p < N → mf p = w p) (h : post 0 (tdA N w ms mg xst xgo a1).toInt64) : qL_told mf (nI N) ms mg xst xgo zn a1 post := by
  refine uL_told (uX1_toldT (fCkB (fun k => absurd c k) (fun _ => ?_)))
  unfold tdA at h
  refine ⟨fun e0 => ?_, fun e0 => ⟨fun e1 => ?_, fun e1 => ⟨fun e2 => ?_, fun e2 => ⟨fun e3 => ?_, fun e3 => ⟨fun e4 => ?_, fun e4 => ⟨fun e5 => ?_, fun e5 => ?_⟩⟩⟩⟩⟩⟩
  · rw [if_pos e0] at h; exact h
  · rw [if_neg e0, if_pos e1] at h; exact fX0_countWaysE hN hw hf h
  · rw [if_neg e0, if_neg e1, if_pos e2] at h; exact h
  · rw [if_neg e0, if_neg e1, if_neg e2, if_pos e3] at h; exact ⟨fun e => absurd rfl e, fun _ => h⟩
  · rw [if_neg e0, if_neg e1, if_neg e2, if_neg e3, if_pos e4] at h; exact h
  · rw [if_neg e0, if_neg e1, if_neg e2, if_neg e3, if_neg e4, if_pos e5] at h; exact h
  · rw [if_neg e0, if_neg e1, if_neg e2, if_neg e3, if_neg e4, if_neg e5] at h; exact fX0_withoutE hN hf h
theorem fX3_toldNowE {N : Nat} {w : Nat → Int32} {oo og ost ord a1 : Int32} {post : Int32 → Prop} (hN : N < 13) (hw : sMW N w) (h : post (tdA N w oo og ost ord a1)) : qX3_toldNow (nI N) oo og N w ost ord a1 post := by
  unfold tdA at h
  refine ⟨fun e0 => ?_, fun e0 => ⟨fun e1 => ?_, fun e1 => ⟨fun e2 => ?_, fun e2 => ⟨fun e3 => ?_, fun e3 => ⟨fun e4 => ?_, fun e4 => ⟨fun e5 => ?_, fun e5 => ?_⟩⟩⟩⟩⟩⟩
  · rw [if_pos e0] at h; exact h
  · rw [if_neg e0, if_pos e1] at h; exact fX3_waysNowE hN hw h
  · rw [if_neg e0, if_neg e1, if_pos e2] at h; exact h
  · rw [if_neg e0, if_neg e1, if_neg e2, if_pos e3] at h; exact h
  · rw [if_neg e0, if_neg e1, if_neg e2, if_neg e3, if_pos e4] at h; exact h
  · rw [if_neg e0, if_neg e1, if_neg e2, if_neg e3, if_neg e4, if_pos e5] at h; exact h
  · rw [if_neg e0, if_neg e1, if_neg e2, if_neg e3, if_neg e4, if_neg e5] at h; exact fX3_stuckE hN h
def hoA (dn rf kn a : Int32) : Int32 := if a = 0 then dn else if a = 1 then rf else kn
theorem aN_house {xdo xre xkn a1 : Int32} {zn : Int64} {post : Int32 → Int64 → Prop} (c : ¬ kBt a1 0 2) (h : post 1 zn) : qL_house xdo xre xkn zn a1 post :=
  uL_house (uX1_houseT (fCkB (fun _ => ⟨rfl, h⟩) (fun k => absurd k c)))
theorem aE_house {xdo xre xkn a1 : Int32} {zn : Int64} {post : Int32 → Int64 → Prop} (c : kBt a1 0 2) (h : post 0 (hoA xdo xre xkn a1).toInt64) : qL_house xdo xre xkn zn a1 post := by
  refine uL_house (uX1_houseT (fCkB (fun k => absurd c k) (fun _ => ?_)))
  unfold hoA at h
  refine ⟨fun e0 => ?_, fun e0 => ⟨fun e1 => ?_, fun e1 => ?_⟩⟩
  · rw [if_pos e0] at h; exact h
  · rw [if_neg e0, if_pos e1] at h; exact h
  · rw [if_neg e0, if_neg e1] at h; exact h
theorem mE_house {oac ore okn a1 : Int32} {post : Int32 → Int32 → Prop} (c : kBt a1 0 2) (h : post (hoA oac ore okn a1) 0) : qX3_houseW oac ore okn a1 post := by
  unfold hoA at h
  refine uX3_houseW ⟨fun e => absurd e (kBt_l c), fun _ => ⟨fun _ => uX3_houseW_j15 (fX3_isThrown_W (fun _ => ⟨fun _ => ⟨fun e0 => ⟨fun e1 => ?_, fun e1 => ?_⟩, fun e0 => ?_⟩, fun e => absurd rfl e⟩) (fun e => absurd rfl e)), fun e => absurd c.2 e⟩⟩
  · rw [if_neg e0, if_neg e1] at h; exact h
  · rw [if_neg e0, if_pos e1] at h; exact h
  · rw [if_pos e0] at h; exact h
theorem aP_choice {N : Nat} {mf : Nat → Int32} {ms mg m0 m1 a1 a2 a3 : Int32} {zn : Int64} {post : Int32 → Int64 → Prop} (hN : N < 13) (c : ¬ isPl N a3) (h : post 1 zn) : qL_choice mf (nI N) ms mg m0 m1 zn a1 a2 a3 post :=
  uL_choice (uX1_choiceT (fCkP hN (fun _ => Or.inl ⟨rfl, h⟩) (fun k => absurd k c)))
theorem aN_choice {N : Nat} {mf : Nat → Int32} {ms mg m0 m1 a1 a2 a3 : Int32} {zn : Int64} {post : Int32 → Int64 → Prop} (hN : N < 13) (c : isPl N a3) (c2 : ¬ (kBt a1 0 2 ∧ kSd a2)) (h : post 2 zn) : qL_choice mf (nI N) ms mg m0 m1 zn a1 a2 a3 post :=
  uL_choice (uX1_choiceT (fCkP hN (fun k => absurd c k) (fun _ => fCkB (fun _ => Or.inr ⟨rfl, h⟩) (fun k => fCkS (fun _ => Or.inr ⟨rfl, h⟩) (fun k2 => absurd ⟨k, k2⟩ c2)))))
theorem aE_choice {N p : Nat} {mf w rk : Nat → Int32} {ms mg m0 m1 a1 a2 : Int32} {zn : Int64} {post : Int32 → Int64 → Prop} (hN : N < 13) (hp : p < N) (c2 : kBt a1 0 2 ∧ kSd a2) (hf : ∀ p, p < N → mf p = w p) (hr : rkR N m0 m1 rk) (hg : sSub mg (sAll N)) (h : post 0 (chA N w ms mg (mWon w ms mg rk N a1 a2) a1 a2 p).toInt64) : qL_choice mf (nI N) ms mg m0 m1 zn a1 a2 (nI p) post :=
  uL_choice (uX1_choiceT (fCkP hN (fun k => absurd ⟨p, hp, rfl⟩ k) (fun _ => fCkB (fun k => absurd c2.1 k) (fun _ => fCkS (fun k => absurd c2.2 k) (fun _ => fX0_pickE (rk := rk) (post := fun r => post 0 r.toInt64) hN hp c2.2 hf hr hg h)))))
theorem mN_stand {N : Nat} {ost ord oac a1 : Int32} {post : Int32 → Int32 → Int32 → Int32 → Int32 → Prop} (hN : N < 13) (c : ¬ isPl N a1) (h : post 0 ost ord oac 1) : qX3_standW (nI N) ost ord oac a1 post := by
  refine uX3_standW ?_
  repeat' (first | (with_reducible first | exact h | assumption | exact vp_in_pl hN (by assumption) | exact vp_in_nI (by omega) (by omega) | exact absurd (kBt_of (by assumption) (by assumption)) c | exact absurd (kSet_of (by assumption) (by assumption)) c | exact absurd (And.intro (by assumption) (by assumption)) c | exact absurd (hb.symm.trans (by assumption)) (by decide) | refine uX3_standW_j14 ?_ | refine fX3_isPlaceE hN ?_ ?_ | refine fX3_isSideE ?_ ?_ | refine fX3_isThrownW ?_ ?_ ?_ | refine fX3_isThrown_W ?_ ?_ | refine uX3_doneW ?_ | refine uX3_noW ?_ | exact nar0 | exact nar1 | refine fX3_isIn (by omega) ?_ ?_ | refine uX3_sideOf ?_ | exact fun hc => absurd rfl hc | exact fun hc => absurd hc (by decide) | contradiction | refine And.intro ?_ ?_ | intro _))
theorem mE_stand {N : Nat} {ost ord oac a1 : Int32} {post : Int32 → Int32 → Int32 → Int32 → Int32 → Prop} (hN : N < 13) (c : isPl N a1) (h : post ost a1 0 (oac + 1) 0) : qX3_standW (nI N) ost ord oac a1 post := by
  refine uX3_standW ?_
  repeat' (first | (with_reducible first | exact h | assumption | exact vp_in_pl hN (by assumption) | exact vp_in_nI (by omega) (by omega) | exact absurd (kBt_of (by assumption) (by assumption)) c | exact absurd (kSet_of (by assumption) (by assumption)) c | exact absurd (And.intro (by assumption) (by assumption)) c | exact absurd (hb.symm.trans (by assumption)) (by decide) | refine uX3_standW_j14 ?_ | refine fX3_isPlaceE hN ?_ ?_ | refine fX3_isSideE ?_ ?_ | refine fX3_isThrownW ?_ ?_ ?_ | refine fX3_isThrown_W ?_ ?_ | refine uX3_doneW ?_ | refine uX3_noW ?_ | exact nar0 | exact nar1 | refine fX3_isIn (by omega) ?_ ?_ | refine uX3_sideOf ?_ | exact fun hc => absurd rfl hc | exact fun hc => absurd hc (by decide) | contradiction | refine And.intro ?_ ?_ | intro _))
theorem mN_go {N : Nat} {w : Nat → Int32} {ost ord oac ore a1 : Int32} {post : Int32 → Int32 → Int32 → Int32 → Int32 → Int32 → Prop} (hN : N < 13) (c : ¬ isPl N a1) (h : post 0 ost ord oac ore 1) : qX3_goW (nI N) N w ost ord oac ore a1 post := by
  refine uX3_goW ?_
  repeat' (first | (with_reducible first | exact h | assumption | exact vp_in_pl hN (by assumption) | exact vp_in_nI (by omega) (by omega) | exact absurd (kBt_of (by assumption) (by assumption)) c | exact absurd (kSet_of (by assumption) (by assumption)) c | exact absurd (And.intro (by assumption) (by assumption)) c | exact absurd (hb.symm.trans (by assumption)) (by decide) | refine uX3_goW_j14 ?_ | refine fX3_isPlaceE hN ?_ ?_ | refine fX3_isSideE ?_ ?_ | refine fX3_isThrownW ?_ ?_ ?_ | refine fX3_isThrown_W ?_ ?_ | refine uX3_doneW ?_ | refine uX3_noW ?_ | exact nar0 | exact nar1 | refine fX3_isIn (by omega) ?_ ?_ | refine uX3_sideOf ?_ | exact fun hc => absurd rfl hc | exact fun hc => absurd hc (by decide) | contradiction | refine And.intro ?_ ?_ | intro _))
theorem mT_go {N t q : Nat} {w : Nat → Int32} {ord oac ore : Int32} {post : Int32 → Int32 → Int32 → Int32 → Int32 → Int32 → Prop} (hN : N < 13) (ht : t < N) (hq : q < N) (hb : bt (w t) q = true) (h : post (ord + 1) (nI q) (ord + 1) (oac + 1) ore 0) : qX3_goW (nI N) N w (nI t) ord oac ore (nI q) post := by
  have hcl : (nI t).toNatClampNeg = t := nI_clamp (by omega)
  have c1 : isPl N (nI t) := ⟨t, ht, rfl⟩
  have c2 : isPl N (nI q) := ⟨q, hq, rfl⟩
  refine uX3_goW ?_
  repeat' (first | rw [hcl] | (with_reducible first | exact h | assumption | exact vp_in_pl hN (by assumption) | exact vp_in_nI (by omega) (by omega) | exact absurd (kBt_of (by assumption) (by assumption)) c | exact absurd (kSet_of (by assumption) (by assumption)) c | exact absurd (And.intro (by assumption) (by assumption)) c | exact absurd (hb.symm.trans (by assumption)) (by decide) | refine uX3_goW_j14 ?_ | refine fX3_isPlaceE hN ?_ ?_ | refine fX3_isSideE ?_ ?_ | refine fX3_isThrownW ?_ ?_ ?_ | refine fX3_isThrown_W ?_ ?_ | refine uX3_doneW ?_ | refine uX3_noW ?_ | exact nar0 | exact nar1 | refine fX3_isIn (by omega) ?_ ?_ | refine uX3_sideOf ?_ | exact fun hc => absurd rfl hc | exact fun hc => absurd hc (by decide) | contradiction | refine And.intro ?_ ?_ | intro _))
theorem mF_go {N t q : Nat} {w : Nat → Int32} {ord oac ore : Int32} {post : Int32 → Int32 → Int32 → Int32 → Int32 → Int32 → Prop} (hN : N < 13) (ht : t < N) (hq : q < N) (hb : ¬ bt (w t) q = true) (h : post (-9) (nI t) ord oac (ore + 1) 0) : qX3_goW (nI N) N w (nI t) ord oac ore (nI q) post := by
  have hcl : (nI t).toNatClampNeg = t := nI_clamp (by omega)
  have c1 : isPl N (nI t) := ⟨t, ht, rfl⟩
  have c2 : isPl N (nI q) := ⟨q, hq, rfl⟩
  refine uX3_goW ?_
  repeat' (first | rw [hcl] | (with_reducible first | exact h | assumption | exact vp_in_pl hN (by assumption) | exact vp_in_nI (by omega) (by omega) | exact absurd (kBt_of (by assumption) (by assumption)) c | exact absurd (kSet_of (by assumption) (by assumption)) c | exact absurd (And.intro (by assumption) (by assumption)) c | exact absurd (hb.symm.trans (by assumption)) (by decide) | refine uX3_goW_j14 ?_ | refine fX3_isPlaceE hN ?_ ?_ | refine fX3_isSideE ?_ ?_ | refine fX3_isThrownW ?_ ?_ ?_ | refine fX3_isThrown_W ?_ ?_ | refine uX3_doneW ?_ | refine uX3_noW ?_ | exact nar0 | exact nar1 | refine fX3_isIn (by omega) ?_ ?_ | refine uX3_sideOf ?_ | exact fun hc => absurd rfl hc | exact fun hc => absurd hc (by decide) | contradiction | refine And.intro ?_ ?_ | intro _))
theorem mN_follow {N : Nat} {w rk : Nat → Int32} {oo og ost ord oac ore a1 : Int32} {post : Int32 → Int32 → Int32 → Int32 → Int32 → Int32 → Prop} (c : ¬ kBt a1 0 2) (h : post 0 ost ord oac ore 1) : qX3_followW (nI N) oo og N rk N w ost ord oac ore a1 post := by
  refine uX3_followW ?_
  repeat' (first | (with_reducible first | exact h | assumption | exact vp_in_pl hN (by assumption) | exact vp_in_nI (by omega) (by omega) | exact absurd (kBt_of (by assumption) (by assumption)) c | exact absurd (kSet_of (by assumption) (by assumption)) c | exact absurd (And.intro (by assumption) (by assumption)) c | exact absurd (hb.symm.trans (by assumption)) (by decide) | refine uX3_followW_j15 ?_ | refine uX3_followW_j10 ?_ | refine fX3_isPlaceE hN ?_ ?_ | refine fX3_isSideE ?_ ?_ | refine fX3_isThrownW ?_ ?_ ?_ | refine fX3_isThrown_W ?_ ?_ | refine uX3_doneW ?_ | refine uX3_noW ?_ | exact nar0 | exact nar1 | refine fX3_isIn (by omega) ?_ ?_ | refine uX3_sideOf ?_ | exact fun hc => absurd rfl hc | exact fun hc => absurd hc (by decide) | contradiction | refine And.intro ?_ ?_ | intro _))
theorem mT_follow {N t : Nat} {w rk : Nat → Int32} {oo og ord oac ore a1 : Int32} {post : Int32 → Int32 → Int32 → Int32 → Int32 → Int32 → Prop} (hN : N < 13) (ht : t < N) (c : kBt a1 0 2) (hw : sMW N w) (hg : sSub og (sAll N)) (hc : ¬ flC N w rk oo og a1 t = -1) (h : post (flC N w rk oo og a1 t) (flC N w rk oo og a1 t) (ord + 1) (oac + 1) ore 0) : qX3_followW (nI N) oo og N rk N w (nI t) ord oac ore a1 post := by
  refine uX3_followW ⟨fun e => absurd e (kBt_l c), fun _ => ⟨fun _ => uX3_followW_j15 (fX3_isThrown_W (fun _ => ⟨fun _ => uX3_sideOf (fX3_choiceOfE hN ht hw hg (i3_of (kBt_l c) c.2) ⟨fun _ => uX3_doneW h, fun e => ?_⟩), fun e => absurd rfl e⟩) (fun e => absurd rfl e)), fun e => absurd c.2 e⟩⟩
  exact absurd (isPl_nn hN ((flC_cases hN ht hw).resolve_left hc)) e
theorem mF_follow {N t : Nat} {w rk : Nat → Int32} {oo og ord oac ore a1 : Int32} {post : Int32 → Int32 → Int32 → Int32 → Int32 → Int32 → Prop} (hN : N < 13) (ht : t < N) (c : kBt a1 0 2) (hw : sMW N w) (hg : sSub og (sAll N)) (hc : flC N w rk oo og a1 t = -1) (h : post (-9) (nI t) ord oac (ore + 1) 0) : qX3_followW (nI N) oo og N rk N w (nI t) ord oac ore a1 post := by
  have e0 : ¬ (0 : Int32) ≤ flC N w rk oo og a1 t := by rw [hc]; decide
  exact uX3_followW ⟨fun e => absurd e (kBt_l c), fun _ => ⟨fun _ => uX3_followW_j15 (fX3_isThrown_W (fun _ => ⟨fun _ => uX3_sideOf (fX3_choiceOfE hN ht hw hg (i3_of (kBt_l c) c.2) ⟨fun e => absurd e e0, fun _ => uX3_noW h⟩), fun e => absurd rfl e⟩) (fun e => absurd rfl e)), fun e => absurd c.2 e⟩⟩
theorem mN_told {N : Nat} {w : Nat → Int32} {oo og ost ord a1 : Int32} {post : Int32 → Int32 → Prop} (c : ¬ kBt a1 0 6) (h : post 0 1) : qX3_toldW (nI N) oo og N w ost ord a1 post := by
  refine uX3_toldW ?_
  repeat' (first | (with_reducible first | exact h | assumption | exact vp_in_pl hN (by assumption) | exact vp_in_nI (by omega) (by omega) | exact absurd (kBt_of (by assumption) (by assumption)) c | exact absurd (kSet_of (by assumption) (by assumption)) c | exact absurd (And.intro (by assumption) (by assumption)) c | exact absurd (hb.symm.trans (by assumption)) (by decide) | refine uX3_toldW_j11 ?_ | refine fX3_isPlaceE hN ?_ ?_ | refine fX3_isSideE ?_ ?_ | refine fX3_isThrownW ?_ ?_ ?_ | refine fX3_isThrown_W ?_ ?_ | refine uX3_doneW ?_ | refine uX3_noW ?_ | exact nar0 | exact nar1 | refine fX3_isIn (by omega) ?_ ?_ | refine uX3_sideOf ?_ | exact fun hc => absurd rfl hc | exact fun hc => absurd hc (by decide) | contradiction | refine And.intro ?_ ?_ | intro _))
theorem mE_told {N : Nat} {w : Nat → Int32} {oo og ost ord a1 : Int32} {post : Int32 → Int32 → Prop} (hN : N < 13) (hw : sMW N w) (c : kBt a1 0 6) (h : post (tdA N w oo og ost ord a1) 0) : qX3_toldW (nI N) oo og N w ost ord a1 post := by
  have c1 := kBt_l c
  have c2 := c.2
  refine uX3_toldW ?_
  repeat' (first | (with_reducible first | exact h | assumption | exact vp_in_pl hN (by assumption) | exact vp_in_nI (by omega) (by omega) | exact absurd (kBt_of (by assumption) (by assumption)) c | exact absurd (kSet_of (by assumption) (by assumption)) c | exact absurd (And.intro (by assumption) (by assumption)) c | exact absurd (hb.symm.trans (by assumption)) (by decide) | refine fX3_toldNowE hN hw ?_ | refine uX3_toldW_j11 ?_ | refine fX3_isPlaceE hN ?_ ?_ | refine fX3_isSideE ?_ ?_ | refine fX3_isThrownW ?_ ?_ ?_ | refine fX3_isThrown_W ?_ ?_ | refine uX3_doneW ?_ | refine uX3_noW ?_ | exact nar0 | exact nar1 | refine fX3_isIn (by omega) ?_ ?_ | refine uX3_sideOf ?_ | exact fun hc => absurd rfl hc | exact fun hc => absurd hc (by decide) | contradiction | refine And.intro ?_ ?_ | intro _))
theorem mN_house {oac ore okn a1 : Int32} {post : Int32 → Int32 → Prop} (c : ¬ kBt a1 0 2) (h : post 0 1) : qX3_houseW oac ore okn a1 post := by
  refine uX3_houseW ?_
  repeat' (first | (with_reducible first | exact h | assumption | exact vp_in_pl hN (by assumption) | exact vp_in_nI (by omega) (by omega) | exact absurd (kBt_of (by assumption) (by assumption)) c | exact absurd (kSet_of (by assumption) (by assumption)) c | exact absurd (And.intro (by assumption) (by assumption)) c | exact absurd (hb.symm.trans (by assumption)) (by decide) | refine uX3_houseW_j15 ?_ | refine uX3_houseW_j10 ?_ | refine fX3_isPlaceE hN ?_ ?_ | refine fX3_isSideE ?_ ?_ | refine fX3_isThrownW ?_ ?_ ?_ | refine fX3_isThrown_W ?_ ?_ | refine uX3_doneW ?_ | refine uX3_noW ?_ | exact nar0 | exact nar1 | refine fX3_isIn (by omega) ?_ ?_ | refine uX3_sideOf ?_ | exact fun hc => absurd rfl hc | exact fun hc => absurd hc (by decide) | contradiction | refine And.intro ?_ ?_ | intro _))
theorem mP_choice {N : Nat} {w rk : Nat → Int32} {oo og a1 a2 a3 : Int32} {post : Int32 → Int32 → Prop} (hN : N < 13) (c : ¬ isPl N a3) (h : post 0 1) : qX3_choiceW (nI N) oo og N rk N w a1 a2 a3 post := by
  refine uX3_choiceW ?_
  repeat' (first | (with_reducible first | exact h | assumption | exact vp_in_pl hN (by assumption) | exact vp_in_nI (by omega) (by omega) | exact absurd (kBt_of (by assumption) (by assumption)) c | exact absurd (kSet_of (by assumption) (by assumption)) c | exact absurd (And.intro (by assumption) (by assumption)) c | exact absurd (hb.symm.trans (by assumption)) (by decide) | refine uX3_choiceW_j35 ?_ | refine uX3_choiceW_j30 ?_ | refine uX3_choiceW_j14 ?_ | refine fX3_isPlaceE hN ?_ ?_ | refine fX3_isSideE ?_ ?_ | refine fX3_isThrownW ?_ ?_ ?_ | refine fX3_isThrown_W ?_ ?_ | refine uX3_doneW ?_ | refine uX3_noW ?_ | exact nar0 | exact nar1 | refine fX3_isIn (by omega) ?_ ?_ | refine uX3_sideOf ?_ | exact fun hc => absurd rfl hc | exact fun hc => absurd hc (by decide) | contradiction | refine And.intro ?_ ?_ | intro _))
theorem mN_choice {N : Nat} {w rk : Nat → Int32} {oo og a1 a2 a3 : Int32} {post : Int32 → Int32 → Prop} (hN : N < 13) (c1 : isPl N a3) (c : ¬ (kBt a1 0 2 ∧ kSd a2)) (h : post 0 2) : qX3_choiceW (nI N) oo og N rk N w a1 a2 a3 post := by
  refine uX3_choiceW ?_
  repeat' (first | (with_reducible first | exact h | assumption | exact vp_in_pl hN (by assumption) | exact vp_in_nI (by omega) (by omega) | exact absurd (kBt_of (by assumption) (by assumption)) c | exact absurd (kSet_of (by assumption) (by assumption)) c | exact absurd (And.intro (by assumption) (by assumption)) c | exact absurd (hb.symm.trans (by assumption)) (by decide) | exact absurd (And.intro (kBt_of (by assumption) (Int32.not_lt.mp (by assumption))) (by assumption)) c | refine uX3_choiceW_j35 ?_ | refine uX3_choiceW_j30 ?_ | refine uX3_choiceW_j14 ?_ | refine fX3_isPlaceE hN ?_ ?_ | refine fX3_isSideE ?_ ?_ | refine fX3_isThrownW ?_ ?_ ?_ | refine fX3_isThrown_W ?_ ?_ | refine uX3_doneW ?_ | refine uX3_noW ?_ | exact nar0 | exact nar1 | refine fX3_isIn (by omega) ?_ ?_ | refine uX3_sideOf ?_ | exact fun hc => absurd rfl hc | exact fun hc => absurd hc (by decide) | contradiction | refine And.intro ?_ ?_ | intro _))
theorem mE_choice {N p : Nat} {w rk : Nat → Int32} {oo og a1 a2 : Int32} {post : Int32 → Int32 → Prop} (hN : N < 13) (hp : p < N) (hw : sMW N w) (hg : sSub og (sAll N)) (c : kBt a1 0 2 ∧ kSd a2) (h : post (chA N w oo og (mWon w oo og rk N a1 a2) a1 a2 p) 0) : qX3_choiceW (nI N) oo og N rk N w a1 a2 (nI p) post := by
  have c1 : isPl N (nI p) := ⟨p, hp, rfl⟩
  have c2 := kBt_l c.1
  have c3 := Int32.not_lt.mpr c.1.2
  have c4 := c.2
  have c5 := c.1.2
  refine uX3_choiceW ?_
  repeat' (first | (with_reducible first | exact h | assumption | exact vp_in_pl hN (by assumption) | exact vp_in_nI (by omega) (by omega) | exact absurd (kBt_of (by assumption) (by assumption)) c | exact absurd (kSet_of (by assumption) (by assumption)) c | exact absurd (And.intro (by assumption) (by assumption)) c | exact absurd (hb.symm.trans (by assumption)) (by decide) | refine fX3_choiceOfE hN hp hw hg (i3_of c2 c5) ?_ | refine uX3_choiceW_j35 ?_ | refine uX3_choiceW_j30 ?_ | refine uX3_choiceW_j14 ?_ | refine fX3_isPlaceE hN ?_ ?_ | refine fX3_isSideE ?_ ?_ | refine fX3_isThrownW ?_ ?_ ?_ | refine fX3_isThrown_W ?_ ?_ | refine uX3_doneW ?_ | refine uX3_noW ?_ | exact nar0 | exact nar1 | refine fX3_isIn (by omega) ?_ ?_ | refine uX3_sideOf ?_ | exact fun hc => absurd rfl hc | exact fun hc => absurd hc (by decide) | contradiction | refine And.intro ?_ ?_ | intro _))
