/-- what is won in a game, as the reference reckons it -/
def mWon (w : Nat → Int32) (oo og : Int32) (rk : Nat → Int32) (N : Nat) (game side : Int32) : Int32 :=
  if game = 0 then sLim w oo side N og else if game = 1 then sAll N &&& (sLim w oo (1 - side) N og ^^^ (-1)) else if game = 2 then sAgain w oo side og N
  else if side = 0 then mRk w oo rk N else sAll N &&& (mRk w oo rk N ^^^ (-1))
theorem fX3_wonIn {N : Nat} {w rk : Nat → Int32} {oo og a1 a2 : Int32} {post : Int32 → Prop} (hN : N < 13) (h : post (mWon w oo og rk N a1 a2)) : qX3_wonIn (nI N) oo og N rk N w a1 a2 post := by
  unfold mWon at h
  refine ⟨fun h0 => ?_, fun h0 => ⟨fun h1 => ?_, fun h1 => ⟨fun h2 => ?_, fun h2 => ⟨fun h3 => ?_, fun h3 => ?_⟩⟩⟩⟩
  · rw [if_pos h0] at h; exact fX3_comingOf (post := fun r => post r) hN h
  · rw [if_neg h0, if_pos h1] at h; exact fX3_keepingOf (post := fun r => post r) hN h
  · rw [if_neg h0, if_neg h1, if_pos h2] at h; exact fX3_againOf (post := fun r => post r) hN h
  · rw [if_neg h0, if_neg h1, if_neg h2, if_neg h3] at h
    rw [qX3_all]
    exact fX3_rankedOf (post := fun r => post ((((1 : Int32) <<< (nI N &&& (31 : Int32))) - (1 : Int32)) &&& (r ^^^ (-1 : Int32)))) hN h
  · rw [if_neg h0, if_neg h1, if_neg h2, if_pos h3] at h; exact fX3_rankedOf (post := fun r => post r) hN h
