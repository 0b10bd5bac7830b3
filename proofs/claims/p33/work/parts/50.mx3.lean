/-! What the reference's readers answer. -/
theorem sCond_ot {w : Nat → Int32} {sec set side : Int32} {p : Nat} (ho : ((sec >>> (nI p &&& (31 : Int32))) &&& (1 : Int32)) = side) (h : ¬ (w p &&& set) = 0) : sCond w sec set side p = true := by
  unfold sCond sOwn; rw [decide_eq_true ho, if_pos rfl]; exact decide_eq_true h
theorem sCond_of {w : Nat → Int32} {sec set side : Int32} {p : Nat} (ho : ((sec >>> (nI p &&& (31 : Int32))) &&& (1 : Int32)) = side) (h : (w p &&& set) = 0) : sCond w sec set side p = false := by
  unfold sCond sOwn; rw [decide_eq_true ho, if_pos rfl]; exact decide_eq_false (fun k => k h)
theorem sCond_nt {w : Nat → Int32} {sec set side : Int32} {p : Nat} (ho : ¬ ((sec >>> (nI p &&& (31 : Int32))) &&& (1 : Int32)) = side) (h : (w p &&& (set ^^^ (-1))) = 0) : sCond w sec set side p = true := by
  unfold sCond sOwn; rw [decide_eq_false ho, if_neg (by simp)]; exact decide_eq_true h
theorem sCond_nf {w : Nat → Int32} {sec set side : Int32} {p : Nat} (ho : ¬ ((sec >>> (nI p &&& (31 : Int32))) &&& (1 : Int32)) = side) (h : ¬ (w p &&& (set ^^^ (-1))) = 0) : sCond w sec set side p = false := by
  unfold sCond sOwn; rw [decide_eq_false ho, if_neg (by simp)]; exact decide_eq_false h
theorem sPre_t {w : Nat → Int32} {sec set side : Int32} {p : Nat} (h : sCond w sec set side p = true) : sPre w sec set side (p + 1) = sPre w sec set side p ||| ((1 : Int32) <<< (nI p &&& (31 : Int32))) := by
  rw [sPre, if_pos h]; rfl
theorem sPre_f {w : Nat → Int32} {sec set side : Int32} {p : Nat} (h : sCond w sec set side p = false) : sPre w sec set side (p + 1) = sPre w sec set side p := by
  rw [sPre, if_neg (by rw [h]; simp)]
theorem fX3_aheadOf_5 {N : Nat} {w : Nat → Int32} {oo a1 a2 : Int32} {K : Int32 → Int32 → Prop} (hN : N < 13) (hK : K (sPre w oo a1 a2 N) (nI N)) : ∀ (d p : Nat), p + d = N → qX3_aheadOf_5 (nI N) oo N w a1 a2 K (d + 1) (sPre w oo a1 a2 p) (nI p)
  | 0, p, h => by
    have : p = N := by omega
    subst this
    exact ⟨fun _ => hK, fun hc => absurd (nI_le (Nat.le_refl p) (by omega)) hc⟩
  | d + 1, p, h => by
    have ih := fX3_aheadOf_5 hN hK d (p + 1) (by omega)
    refine ⟨fun hc => absurd hc (nI_ge (by omega) (by omega)), fun _ => ?_⟩
    refine ⟨fun hs => ⟨vp_in_nI (by omega) (by omega), fun hc => ?_, fun hc => ?_⟩, fun hs => ⟨vp_in_nI (by omega) (by omega), fun hc => ?_, fun hc => ?_⟩⟩
    · rw [nI_clamp (by omega)] at hc
      rw [nI_1]; rw [sPre_f (sCond_nf hs hc)] at ih; exact ih
    · rw [nI_clamp (by omega)] at hc
      rw [nI_1]; rw [sPre_t (sCond_nt hs hc)] at ih; exact ih
    · rw [nI_clamp (by omega)] at hc
      rw [nI_1]; rw [sPre_f (sCond_of hs hc)] at ih; exact ih
    · rw [nI_clamp (by omega)] at hc
      rw [nI_1]; rw [sPre_t (sCond_ot hs hc)] at ih; exact ih
theorem fX3_aheadOf {N : Nat} {w : Nat → Int32} {oo a1 a2 : Int32} {post : Int32 → Prop} (hN : N < 13) (h : post (sPre w oo a1 a2 N)) : qX3_aheadOf (nI N) oo N w a1 a2 post := by
  have := fX3_aheadOf_5 (K := fun x _ => post x) hN h N 0 (by omega)
  exact ⟨N + 1, this⟩
theorem fX3_toward_2 {N : Nat} {w : Nat → Int32} {oo a2 : Int32} {K : Int32 → Prop} (hN : N < 13) : ∀ (d : Nat) (x : Int32), 32 - sCnt x ≤ d → K (sLim w oo a2 N x) → qX3_toward_2 (nI N) oo N w a2 K (d + 1) x
  | d, x, hd, hK => by
    have go : ∀ (hx : ¬ (x ||| sPre w oo x a2 N) = x), qX3_aheadOf (nI N) oo N w x a2 (fun r18 => qX3_toward_2 (nI N) oo N w a2 K d (x ||| r18)) := by
      intro hx
      refine fX3_aheadOf hN ?_
      have hl := sCnt_lt (x := x) (y := x ||| sPre w oo x a2 N) sSub_orl (fun e => hx e.symm)
      have hle := sCnt_le (x ||| sPre w oo x a2 N)
      have hK2 : K (sLim w oo a2 N (x ||| sPre w oo x a2 N)) := by
        have e := sLim_step w oo a2 (N := N) x
        unfold sStep at e
        rw [e]; exact hK
      match d, hd with
      | 0, hd => omega
      | d + 1, hd => exact fX3_toward_2 hN d _ (by omega) hK2
    refine fX3_aheadOf hN ⟨fun hx => ?_, fun hx => go hx⟩
    have e : sLim w oo a2 N x = x := sIt_fix (F := sStep w oo a2 N) hx 32
    rw [e] at hK
    exact hK
theorem fX3_toward {N : Nat} {w : Nat → Int32} {oo a1 a2 : Int32} {post : Int32 → Prop} (hN : N < 13) (h : post (sLim w oo a2 N a1)) : qX3_toward (nI N) oo N w a1 a2 post :=
  ⟨33, fX3_toward_2 hN 32 a1 (by omega) h⟩
theorem fX3_comingOf {N : Nat} {w : Nat → Int32} {oo og a1 : Int32} {post : Int32 → Prop} (hN : N < 13) (h : post (sLim w oo a1 N og)) : qX3_comingOf (nI N) oo og N w a1 post := fX3_toward hN h
theorem fX3_keepingOf {N : Nat} {w : Nat → Int32} {oo og a1 : Int32} {post : Int32 → Prop} (hN : N < 13) (h : post (sAll N &&& (sLim w oo (1 - a1) N og ^^^ (-1)))) : qX3_keepingOf (nI N) oo og N w a1 post := fX3_comingOf hN h
theorem fX3_fallen {N : Nat} {w : Nat → Int32} {oo og a1 a2 : Int32} {post : Int32 → Prop} (hN : N < 13) (h : post (sFall w oo a2 og N a1)) : qX3_fallen (nI N) oo og N w a1 a2 post := fX3_aheadOf hN (fX3_toward hN h)
theorem fX3_againOf_5 {N : Nat} {w : Nat → Int32} {oo og a1 : Int32} {K : Int32 → Prop} (hN : N < 13) : ∀ (d : Nat) (x : Int32), sCnt x ≤ d → K (sIt (sFall w oo a1 og N) 32 x) → qX3_againOf_5 (nI N) oo og N w a1 K (d + 1) x
  | d, x, hd, hK => by
    have go : ∀ (hx : ¬ sFall w oo a1 og N x = x), qX3_fallen (nI N) oo og N w x a1 (fun r18 => qX3_againOf_5 (nI N) oo og N w a1 K d r18) := by
      intro hx
      refine fX3_fallen hN ?_
      have hl := sCnt_lt (x := sFall w oo a1 og N x) (y := x) sSub_andl hx
      have hK2 : K (sIt (sFall w oo a1 og N) 32 (sFall w oo a1 og N x)) := by
        rw [sIt_next (sIt_dec (fun _ => sSub_andl))]; exact hK
      match d, hd with
      | 0, hd => omega
      | d + 1, hd => exact fX3_againOf_5 hN d _ (by omega) hK2
    refine fX3_fallen hN ⟨fun hx => ?_, fun hx => go hx⟩
    rw [sIt_fix hx 32] at hK
    exact hK
theorem fX3_againOf {N : Nat} {w : Nat → Int32} {oo og a1 : Int32} {post : Int32 → Prop} (hN : N < 13) (h : post (sAgain w oo a1 og N)) : qX3_againOf (nI N) oo og N w a1 post :=
  ⟨33, fX3_againOf_5 hN 32 _ (sCnt_le _) h⟩
theorem fX3_fallsOf_7 {N : Nat} {w : Nat → Int32} {oo og a1 : Int32} {K : Int32 → Int32 → Prop} (hN : N < 13) (hK : ∀ a b, K a b) : ∀ (d : Nat) (v x : Int32), sCnt x ≤ d → qX3_fallsOf_7 (nI N) oo og N w a1 K (d + 1) v x
  | d, v, x, hd => by
    refine fX3_fallen hN ⟨fun _ => hK _ _, fun hx => ?_⟩
    refine fX3_fallen hN ?_
    have hl := sCnt_lt (x := sFall w oo a1 og N x) (y := x) sSub_andl hx
    match d, hd with
    | 0, hd => omega
    | d + 1, hd => exact fX3_fallsOf_7 hN hK d _ _ (by omega)
/-- at least an answer -/
theorem fX3_fallsOf_any {N : Nat} {w : Nat → Int32} {oo og a1 : Int32} {post : Int32 → Prop} (hN : N < 13) (h : ∀ r, post r) : qX3_fallsOf (nI N) oo og N w a1 post :=
  ⟨33, fX3_fallsOf_7 hN (fun a _ => h a) 32 _ _ (sCnt_le _)⟩
