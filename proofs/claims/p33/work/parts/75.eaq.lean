/-! Questions, exactly: what a place is, whether there is a way, the places ahead, the choices. -/
def opA (N : Nat) (w rk : Nat → Int32) (oo og : Int32) (p : Nat) (a : Int32) : Int32 :=
  if a = 0 then ((oo >>> (nI p &&& (31 : Int32))) &&& (1 : Int32)) else if a = 1 then rk p else if a = 2 then (if bt og p = true then 1 else 0) else if a = 3 then w p else wIn w p N
theorem aE_ofPlace {N p : Nat} {mf w rk : Nat → Int32} {ms mg m0 m1 a2 : Int32} {zn : Int64} {post : Int32 → Int64 → Prop} (hN : N < 13) (hp : p < N) (c2 : kBt a2 0 4) (hf : ∀ p, p < N → mf p = w p) (hr : rkR N m0 m1 rk) (h : post 0 (opA N w rk ms mg p a2).toInt64) : qL_ofPlace mf (nI N) ms mg m0 m1 zn (nI p) a2 post := by
  refine uL_ofPlace (uX1_ofPlaceT (fCkP hN (fun k => absurd ⟨p, hp, rfl⟩ k) (fun _ => fCkB (fun k => absurd c2 k) (fun _ => ?_))))
  unfold opA at h
  refine ⟨fun e0 => ?_, fun e0 => ⟨fun e1 => ?_, fun e1 => ⟨fun e2 => ?_, fun e2 => ⟨fun e3 => ?_, fun e3 => ?_⟩⟩⟩⟩
  · rw [if_pos e0] at h; exact h
  · rw [if_neg e0, if_pos e1] at h; exact fX0_rankOfE hN hp hr h
  · rw [if_neg e0, if_neg e1, if_pos e2] at h
    exact fX1_has (by omega) (fun hb => ⟨fun _ => by rw [if_neg (by rw [hb]; decide)] at h; exact h, fun e => absurd rfl e⟩) (fun hb => ⟨fun e => absurd e (by decide), fun _ => by rw [if_pos hb] at h; exact h⟩)
  · rw [if_neg e0, if_neg e1, if_neg e2, if_pos e3] at h
    exact fX0_waysFrom (by omega) (by rw [hf p hp]; exact h)
  · rw [if_neg e0, if_neg e1, if_neg e2, if_neg e3] at h
    exact fX0_intoE hN (by omega) hf h
theorem aP_ofPlace {N : Nat} {mf : Nat → Int32} {ms mg m0 m1 a1 a2 : Int32} {zn : Int64} {post : Int32 → Int64 → Prop} (hN : N < 13) (c : ¬ isPl N a1) (h : post 1 zn) : qL_ofPlace mf (nI N) ms mg m0 m1 zn a1 a2 post :=
  uL_ofPlace (uX1_ofPlaceT (fCkP hN (fun _ => Or.inl ⟨rfl, h⟩) (fun k => absurd k c)))
theorem aN_ofPlace {N : Nat} {mf : Nat → Int32} {ms mg m0 m1 a1 a2 : Int32} {zn : Int64} {post : Int32 → Int64 → Prop} (hN : N < 13) (c : isPl N a1) (c2 : ¬ kBt a2 0 4) (h : post 2 zn) : qL_ofPlace mf (nI N) ms mg m0 m1 zn a1 a2 post :=
  uL_ofPlace (uX1_ofPlaceT (fCkP hN (fun k => absurd c k) (fun _ => fCkB (fun _ => Or.inr ⟨rfl, h⟩) (fun k => absurd k c2))))
theorem fX3_ofPlaceNowE {N p : Nat} {w rk : Nat → Int32} {oo og a2 : Int32} {post : Int32 → Prop} (hN : N < 13) (hp : p < N) (h : post (opA N w rk oo og p a2)) : qX3_ofPlaceNow (nI N) oo og N rk N w (nI p) a2 post := by
  have hv : vp_in (nI p) N := vp_in_nI hp (by omega)
  have hcl : (nI p).toNatClampNeg = p := nI_clamp (by omega)
  unfold opA at h
  refine ⟨fun e0 => ?_, fun e0 => ⟨fun e1 => ⟨hv, ?_⟩, fun e1 => ⟨fun e2 => ?_, fun e2 => ⟨fun e3 => ⟨hv, ?_⟩, fun e3 => ⟨N + 1, ?_⟩⟩⟩⟩⟩
  · rw [if_pos e0] at h; exact h
  · rw [if_neg e0, if_pos e1] at h; rw [hcl]; exact h
  · rw [if_neg e0, if_neg e1, if_pos e2] at h; rw [has_val _ (by omega)]; exact h
  · rw [if_neg e0, if_neg e1, if_neg e2, if_pos e3] at h; rw [hcl]; exact h
  · rw [if_neg e0, if_neg e1, if_neg e2, if_neg e3] at h
    have := fX3_intoE_66 (K := fun x _ => post x) hN (by omega) h N 0 (by omega)
    exact this
theorem mE_ofPlace {N p : Nat} {w rk : Nat → Int32} {oo og a2 : Int32} {post : Int32 → Int32 → Prop} (hN : N < 13) (hp : p < N) (c2 : kBt a2 0 4) (h : post (opA N w rk oo og p a2) 0) : qX3_ofPlaceW (nI N) oo og N rk N w (nI p) a2 post :=
  uX3_ofPlaceW (fX3_isPlaceE hN (fun k => absurd ⟨p, hp, rfl⟩ k) (fun _ => ⟨fun _ => uX3_ofPlaceW_j14 ⟨fun e => absurd e (kBt_l c2), fun _ => ⟨fun _ => uX3_ofPlaceW_j28 (fX3_isThrownW (fun _ _ => ⟨fun _ => fX3_ofPlaceNowE hN hp h, fun e => absurd rfl e⟩) (fun _ e => absurd rfl e) (fun e => absurd rfl e)), fun e => absurd c2.2 e⟩⟩, fun e => absurd e (by decide)⟩))
theorem mP_ofPlace {N : Nat} {w rk : Nat → Int32} {oo og a1 a2 : Int32} {post : Int32 → Int32 → Prop} (hN : N < 13) (c : ¬ isPl N a1) (h : post 0 1) : qX3_ofPlaceW (nI N) oo og N rk N w a1 a2 post := by
  refine uX3_ofPlaceW ?_
  repeat' (first | (with_reducible first | exact h | assumption | exact vp_in_pl hN (by assumption) | exact vp_in_nI (by omega) (by omega) | exact absurd (kBt_of (by assumption) (by assumption)) c | exact absurd (kSet_of (by assumption) (by assumption)) c | exact absurd (And.intro (by assumption) (by assumption)) c | exact absurd (hb.symm.trans (by assumption)) (by decide) | refine uX3_ofPlaceW_j28 ?_ | refine uX3_ofPlaceW_j23 ?_ | refine uX3_ofPlaceW_j14 ?_ | refine fX3_isPlaceE hN ?_ ?_ | refine fX3_isSideE ?_ ?_ | refine fX3_isThrownW ?_ ?_ ?_ | refine fX3_isThrown_W ?_ ?_ | refine uX3_doneW ?_ | refine uX3_noW ?_ | exact nar0 | exact nar1 | refine fX3_isIn (by omega) ?_ ?_ | refine uX3_sideOf ?_ | exact fun hc => absurd rfl hc | exact fun hc => absurd hc (by decide) | contradiction | refine And.intro ?_ ?_ | intro _))
theorem mN_ofPlace {N : Nat} {w rk : Nat → Int32} {oo og a1 a2 : Int32} {post : Int32 → Int32 → Prop} (hN : N < 13) (c1 : isPl N a1) (c : ¬ kBt a2 0 4) (h : post 0 2) : qX3_ofPlaceW (nI N) oo og N rk N w a1 a2 post := by
  refine uX3_ofPlaceW ?_
  repeat' (first | (with_reducible first | exact h | assumption | exact vp_in_pl hN (by assumption) | exact vp_in_nI (by omega) (by omega) | exact absurd (kBt_of (by assumption) (by assumption)) c | exact absurd (kSet_of (by assumption) (by assumption)) c | exact absurd (And.intro (by assumption) (by assumption)) c | exact absurd (hb.symm.trans (by assumption)) (by decide) | refine uX3_ofPlaceW_j28 ?_ | refine uX3_ofPlaceW_j23 ?_ | refine uX3_ofPlaceW_j14 ?_ | refine fX3_isPlaceE hN ?_ ?_ | refine fX3_isSideE ?_ ?_ | refine fX3_isThrownW ?_ ?_ ?_ | refine fX3_isThrown_W ?_ ?_ | refine uX3_doneW ?_ | refine uX3_noW ?_ | exact nar0 | exact nar1 | refine fX3_isIn (by omega) ?_ ?_ | refine uX3_sideOf ?_ | exact fun hc => absurd rfl hc | exact fun hc => absurd hc (by decide) | contradiction | refine And.intro ?_ ?_ | intro _))
theorem aN_isWay {N : Nat} {mf : Nat → Int32} {a1 a2 : Int32} {zn : Int64} {post : Int32 → Int64 → Prop} (hN : N < 13) (c : ¬ (isPl N a1 ∧ isPl N a2)) (h : post 1 zn) : qL_isWay mf (nI N) zn a1 a2 post :=
  uL_isWay (uX1_isWayT (fCkP2 hN (fun _ => ⟨rfl, h⟩) (fun k => absurd k c)))
theorem aT_isWay {N p q : Nat} {mf w : Nat → Int32} {zn : Int64} {post : Int32 → Int64 → Prop} (hN : N < 13) (hp : p < N) (hq : q < N) (hf : ∀ p, p < N → mf p = w p) (hb : bt (w p) q = true) (h : post 0 1) : qL_isWay mf (nI N) zn (nI p) (nI q) post :=
  uL_isWay (uX1_isWayT (fCkP2 hN (fun k => absurd ⟨⟨p, hp, rfl⟩, ⟨q, hq, rfl⟩⟩ k) (fun _ => fX0_waysFrom (by omega) (fX1_has (by omega) (fun h0 => absurd hb (by rw [← hf p hp, h0]; decide)) (fun _ => ⟨nar1, fun e => absurd e (by decide), fun _ => h⟩)))))
theorem aF_isWay {N p q : Nat} {mf w : Nat → Int32} {zn : Int64} {post : Int32 → Int64 → Prop} (hN : N < 13) (hp : p < N) (hq : q < N) (hf : ∀ p, p < N → mf p = w p) (hb : ¬ bt (w p) q = true) (h : post 0 0) : qL_isWay mf (nI N) zn (nI p) (nI q) post :=
  uL_isWay (uX1_isWayT (fCkP2 hN (fun k => absurd ⟨⟨p, hp, rfl⟩, ⟨q, hq, rfl⟩⟩ k) (fun _ => fX0_waysFrom (by omega) (fX1_has (by omega) (fun _ => ⟨nar0, fun _ => h, fun e => absurd rfl e⟩) (fun h1 => absurd (by rw [← hf p hp]; exact h1) hb)))))
theorem mN_isWay {N : Nat} {w : Nat → Int32} {a1 a2 : Int32} {post : Int32 → Int32 → Prop} (hN : N < 13) (c : ¬ (isPl N a1 ∧ isPl N a2)) (h : post 0 1) : qX3_isWayW (nI N) N w a1 a2 post := by
  refine uX3_isWayW ?_
  repeat' (first | (with_reducible first | exact h | assumption | exact vp_in_pl hN (by assumption) | exact vp_in_nI (by omega) (by omega) | exact absurd (kBt_of (by assumption) (by assumption)) c | exact absurd (kSet_of (by assumption) (by assumption)) c | exact absurd (And.intro (by assumption) (by assumption)) c | exact absurd (hb.symm.trans (by assumption)) (by decide) | refine uX3_isWayW_j22 ?_ | refine uX3_isWayW_j17 ?_ | refine fX3_isPlaceE hN ?_ ?_ | refine fX3_isSideE ?_ ?_ | refine fX3_isThrownW ?_ ?_ ?_ | refine fX3_isThrown_W ?_ ?_ | refine uX3_doneW ?_ | refine uX3_noW ?_ | exact nar0 | exact nar1 | refine fX3_isIn (by omega) ?_ ?_ | refine uX3_sideOf ?_ | exact fun hc => absurd rfl hc | exact fun hc => absurd hc (by decide) | contradiction | refine And.intro ?_ ?_ | intro _))
theorem mT_isWay {N p q : Nat} {w : Nat → Int32} {post : Int32 → Int32 → Prop} (hN : N < 13) (hp : p < N) (hq : q < N) (hb : bt (w p) q = true) (h : post 1 0) : qX3_isWayW (nI N) N w (nI p) (nI q) post := by
  have hcl : (nI p).toNatClampNeg = p := nI_clamp (by omega)
  have c1 : isPl N (nI p) := ⟨p, hp, rfl⟩
  have c2 : isPl N (nI q) := ⟨q, hq, rfl⟩
  refine uX3_isWayW ?_
  repeat' (first | rw [hcl] | (with_reducible first | exact h | assumption | exact vp_in_pl hN (by assumption) | exact vp_in_nI (by omega) (by omega) | exact absurd (kBt_of (by assumption) (by assumption)) c | exact absurd (kSet_of (by assumption) (by assumption)) c | exact absurd (And.intro (by assumption) (by assumption)) c | exact absurd (hb.symm.trans (by assumption)) (by decide) | refine uX3_isWayW_j22 ?_ | refine uX3_isWayW_j17 ?_ | refine fX3_isPlaceE hN ?_ ?_ | refine fX3_isSideE ?_ ?_ | refine fX3_isThrownW ?_ ?_ ?_ | refine fX3_isThrown_W ?_ ?_ | refine uX3_doneW ?_ | refine uX3_noW ?_ | exact nar0 | exact nar1 | refine fX3_isIn (by omega) ?_ ?_ | refine uX3_sideOf ?_ | exact fun hc => absurd rfl hc | exact fun hc => absurd hc (by decide) | contradiction | refine And.intro ?_ ?_ | intro _))
theorem mF_isWay {N p q : Nat} {w : Nat → Int32} {post : Int32 → Int32 → Prop} (hN : N < 13) (hp : p < N) (hq : q < N) (hb : ¬ bt (w p) q = true) (h : post 0 0) : qX3_isWayW (nI N) N w (nI p) (nI q) post := by
  have hcl : (nI p).toNatClampNeg = p := nI_clamp (by omega)
  have c1 : isPl N (nI p) := ⟨p, hp, rfl⟩
  have c2 : isPl N (nI q) := ⟨q, hq, rfl⟩
  refine uX3_isWayW ?_
  repeat' (first | rw [hcl] | (with_reducible first | exact h | assumption | exact vp_in_pl hN (by assumption) | exact vp_in_nI (by omega) (by omega) | exact absurd (kBt_of (by assumption) (by assumption)) c | exact absurd (kSet_of (by assumption) (by assumption)) c | exact absurd (And.intro (by assumption) (by assumption)) c | exact absurd (hb.symm.trans (by assumption)) (by decide) | refine uX3_isWayW_j22 ?_ | refine uX3_isWayW_j17 ?_ | refine fX3_isPlaceE hN ?_ ?_ | refine fX3_isSideE ?_ ?_ | refine fX3_isThrownW ?_ ?_ ?_ | refine fX3_isThrown_W ?_ ?_ | refine uX3_doneW ?_ | refine uX3_noW ?_ | exact nar0 | exact nar1 | refine fX3_isIn (by omega) ?_ ?_ | refine uX3_sideOf ?_ | exact fun hc => absurd rfl hc | exact fun hc => absurd hc (by decide) | contradiction | refine And.intro ?_ ?_ | intro _))
theorem fX0_seenE {N : Nat} {mf w : Nat → Int32} {oo a1 a2 : Int32} {post : Int32 → Prop} (hN : N < 13) (hf : ∀ p, p < N → mf p = w p) (h : post (sPre w oo a1 a2 N)) : qX0_seenBefore mf (nI N) oo a1 a2 post :=
  fX0_seenBefore hN (by rw [sPre_congr oo a1 a2 N hf]; exact h)
theorem aN_ahead {N : Nat} {mf : Nat → Int32} {ms a1 a2 : Int32} {zn : Int64} {post : Int32 → Int64 → Prop} (c : ¬ (kSet N a1 ∧ kSd a2)) (h : post 1 zn) : qL_ahead mf (nI N) ms zn a1 a2 post :=
  uL_ahead (uX1_aheadT (fCkSet (fun _ => ⟨rfl, h⟩) (fun k => fCkS (fun _ => ⟨rfl, h⟩) (fun k2 => absurd ⟨k, k2⟩ c))))
theorem aE_ahead {N : Nat} {mf w : Nat → Int32} {ms a1 a2 : Int32} {zn : Int64} {post : Int32 → Int64 → Prop} (hN : N < 13) (c : kSet N a1 ∧ kSd a2) (hf : ∀ p, p < N → mf p = w p) (h : post 0 (sPre w ms a1 a2 N).toInt64) : qL_ahead mf (nI N) ms zn a1 a2 post :=
  uL_ahead (uX1_aheadT (fCkSet (fun k => absurd c.1 k) (fun _ => fCkS (fun k => absurd c.2 k) (fun _ => fX0_seenE hN hf h))))
theorem mN_ahead {N : Nat} {w : Nat → Int32} {oo a1 a2 : Int32} {post : Int32 → Int32 → Prop} (hN : N < 13) (c : ¬ (kSet N a1 ∧ kSd a2)) (h : post 0 1) : qX3_aheadW (nI N) oo N w a1 a2 post := by
  refine uX3_aheadW ?_
  repeat' (first | (with_reducible first | exact h | assumption | exact vp_in_pl hN (by assumption) | exact vp_in_nI (by omega) (by omega) | exact absurd (kBt_of (by assumption) (by assumption)) c | exact absurd (kSet_of (by assumption) (by assumption)) c | exact absurd (And.intro (by assumption) (by assumption)) c | exact absurd (hb.symm.trans (by assumption)) (by decide) | refine uX3_all ?_ | exact absurd (And.intro (kSet_of (by assumption) (Int32.not_lt.mp (by assumption))) (by assumption)) c | refine uX3_aheadW_j25 ?_ | refine uX3_aheadW_j20 ?_ | refine fX3_isPlaceE hN ?_ ?_ | refine fX3_isSideE ?_ ?_ | refine fX3_isThrownW ?_ ?_ ?_ | refine fX3_isThrown_W ?_ ?_ | refine uX3_doneW ?_ | refine uX3_noW ?_ | exact nar0 | exact nar1 | refine fX3_isIn (by omega) ?_ ?_ | refine uX3_sideOf ?_ | exact fun hc => absurd rfl hc | exact fun hc => absurd hc (by decide) | contradiction | refine And.intro ?_ ?_ | intro _))
theorem mE_ahead {N : Nat} {w : Nat → Int32} {oo a1 a2 : Int32} {post : Int32 → Int32 → Prop} (hN : N < 13) (c : kSet N a1 ∧ kSd a2) (h : post (sPre w oo a1 a2 N) 0) : qX3_aheadW (nI N) oo N w a1 a2 post := by
  have c1 := kBt_l c.1
  have c2 := c.1.2
  have c3 := c.2
  unfold sAll at c2
  have c4 := Int32.not_lt.mpr c2
  refine uX3_aheadW ?_
  repeat' (first | (with_reducible first | exact h | assumption | exact vp_in_pl hN (by assumption) | exact vp_in_nI (by omega) (by omega) | exact absurd (kBt_of (by assumption) (by assumption)) c | exact absurd (kSet_of (by assumption) (by assumption)) c | exact absurd (And.intro (by assumption) (by assumption)) c | exact absurd (hb.symm.trans (by assumption)) (by decide) | refine uX3_all ?_ | refine fX3_aheadOf hN ?_ | refine uX3_aheadW_j25 ?_ | refine uX3_aheadW_j20 ?_ | refine fX3_isPlaceE hN ?_ ?_ | refine fX3_isSideE ?_ ?_ | refine fX3_isThrownW ?_ ?_ ?_ | refine fX3_isThrown_W ?_ ?_ | refine uX3_doneW ?_ | refine uX3_noW ?_ | exact nar0 | exact nar1 | refine fX3_isIn (by omega) ?_ ?_ | refine uX3_sideOf ?_ | exact fun hc => absurd rfl hc | exact fun hc => absurd hc (by decide) | contradiction | refine And.intro ?_ ?_ | intro _))
theorem aN_choices {N : Nat} {mf : Nat → Int32} {ms a1 : Int32} {zn : Int64} {post : Int32 → Int64 → Prop} (c : ¬ kSd a1) (h : post 1 zn) : qL_choices mf (nI N) ms zn a1 post :=
  uL_choices (uX1_choicesT (fCkS (fun _ => ⟨rfl, h⟩) (fun k => absurd k c)))
theorem aE_choices {N : Nat} {mf w : Nat → Int32} {ms a1 : Int32} {zn : Int64} {post : Int32 → Int64 → Prop} (hN : N < 13) (c : kSd a1) (hw : sMW N w) (hf : ∀ p, p < N → mf p = w p) (h : post 0 (chP ms a1 w N).toInt64) : qL_choices mf (nI N) ms zn a1 post :=
  uL_choices (uX1_choicesT (fCkS (fun k => absurd c k) (fun _ => fX0_choicesE hN hw hf h)))
theorem mN_choices {N : Nat} {w : Nat → Int32} {oo a1 : Int32} {post : Int32 → Int32 → Prop} (c : ¬ kSd a1) (h : post 0 1) : qX3_choicesW (nI N) oo N w a1 post := by
  refine uX3_choicesW ?_
  repeat' (first | (with_reducible first | exact h | assumption | exact vp_in_pl hN (by assumption) | exact vp_in_nI (by omega) (by omega) | exact absurd (kBt_of (by assumption) (by assumption)) c | exact absurd (kSet_of (by assumption) (by assumption)) c | exact absurd (And.intro (by assumption) (by assumption)) c | exact absurd (hb.symm.trans (by assumption)) (by decide) | refine fX3_isPlaceE hN ?_ ?_ | refine fX3_isSideE ?_ ?_ | refine fX3_isThrownW ?_ ?_ ?_ | refine fX3_isThrown_W ?_ ?_ | refine uX3_doneW ?_ | refine uX3_noW ?_ | exact nar0 | exact nar1 | refine fX3_isIn (by omega) ?_ ?_ | refine uX3_sideOf ?_ | exact fun hc => absurd rfl hc | exact fun hc => absurd hc (by decide) | contradiction | refine And.intro ?_ ?_ | intro _))
theorem mE_choices {N : Nat} {w : Nat → Int32} {oo a1 : Int32} {post : Int32 → Int32 → Prop} (hN : N < 13) (c : kSd a1) (h : post (chP oo a1 w N) 0) : qX3_choicesW (nI N) oo N w a1 post := by
  refine uX3_choicesW ?_
  repeat' (first | (with_reducible first | exact h | assumption | exact vp_in_pl hN (by assumption) | exact vp_in_nI (by omega) (by omega) | exact absurd (kBt_of (by assumption) (by assumption)) c | exact absurd (kSet_of (by assumption) (by assumption)) c | exact absurd (And.intro (by assumption) (by assumption)) c | exact absurd (hb.symm.trans (by assumption)) (by decide) | refine fX3_choicesE hN ?_ | refine fX3_isPlaceE hN ?_ ?_ | refine fX3_isSideE ?_ ?_ | refine fX3_isThrownW ?_ ?_ ?_ | refine fX3_isThrown_W ?_ ?_ | refine uX3_doneW ?_ | refine uX3_noW ?_ | exact nar0 | exact nar1 | refine fX3_isIn (by omega) ?_ ?_ | refine uX3_sideOf ?_ | exact fun hc => absurd rfl hc | exact fun hc => absurd hc (by decide) | contradiction | refine And.intro ?_ ?_ | intro _))
