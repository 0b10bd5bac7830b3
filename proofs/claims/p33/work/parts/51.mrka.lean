/-! The reference's ranked game: three sets. -/
def sRank (rk : Nat → Int32) (r : Int32) : Nat → Int32
  | 0 => 0
  | p + 1 => if rk p = r then sRank rk r p ||| ((1 : Int32) <<< (nI p &&& (31 : Int32))) else sRank rk r p ||| 0
theorem fX3_withRank_4 {N : Nat} {rk : Nat → Int32} {a1 : Int32} {K : Int32 → Int32 → Prop} (hN : N < 13) (hK : K (sRank rk a1 N) (nI N)) : ∀ (d p : Nat), p + d = N → qX3_withRank_4 (nI N) N rk a1 K (d + 1) (sRank rk a1 p) (nI p)
  | 0, p, h => by
    have : p = N := by omega
    subst this
    exact ⟨fun _ => hK, fun hc => absurd (nI_le (Nat.le_refl p) (by omega)) hc⟩
  | d + 1, p, h => by
    have ih := fX3_withRank_4 hN hK d (p + 1) (by omega)
    refine ⟨fun hc => absurd hc (nI_ge (by omega) (by omega)), fun _ => ⟨vp_in_nI (by omega) (by omega), fun hc => ?_, fun hc => ?_⟩⟩
    · rw [nI_clamp (by omega)] at hc
      rw [nI_1]; rw [sRank, if_neg hc] at ih; exact ih
    · rw [nI_clamp (by omega)] at hc
      rw [nI_1]; rw [sRank, if_pos hc] at ih; exact ih
theorem fX3_withRank {N : Nat} {rk : Nat → Int32} {a1 : Int32} {post : Int32 → Prop} (hN : N < 13) (h : post (sRank rk a1 N)) : qX3_withRank (nI N) N rk a1 post := by
  have := fX3_withRank_4 (K := fun x _ => post x) hN h N 0 (by omega)
  exact ⟨N + 1, this⟩
/-- the innermost step: r0, r1, r2 the places of a rank each -/
def sF3 (w : Nat → Int32) (sec r0 r1 r2 : Int32) (N : Nat) (o m x : Int32) : Int32 := ((r0 &&& sPre w sec o 0 N) ||| (r1 &&& sPre w sec m 0 N)) ||| (r2 &&& sPre w sec x 0 N)
def sG3 (w : Nat → Int32) (sec r0 r1 r2 : Int32) (N : Nat) (o m : Int32) : Int32 := sIt (sF3 w sec r0 r1 r2 N o m) 32 (sAll N)
def sH3 (w : Nat → Int32) (sec r0 r1 r2 : Int32) (N : Nat) (o : Int32) : Int32 := sIt (sG3 w sec r0 r1 r2 N o) 32 0
def sRk (w : Nat → Int32) (sec r0 r1 r2 : Int32) (N : Nat) : Int32 := sIt (sH3 w sec r0 r1 r2 N) 32 (sAll N)
theorem sSub_or2 {a b c d : Int32} (h : sSub a c) (k : sSub b d) : sSub (a ||| b) (c ||| d) := sSub_or.mpr ⟨h.trans sSub_orl, k.trans sSub_orr⟩
theorem sSub_and2 {a b c : Int32} (h : sSub b c) : sSub (a &&& b) (a &&& c) := sSub_and.mpr ⟨sSub_andl, sSub_andr.trans h⟩
section RK
variable (w : Nat → Int32) (sec r0 r1 r2 : Int32) {N : Nat}
theorem sF3_mono (hN : N < 13) {o o' m m' x x' : Int32} (ho : sSub o o') (hm : sSub m m') (hx : sSub x x') : sSub (sF3 w sec r0 r1 r2 N o m x) (sF3 w sec r0 r1 r2 N o' m' x') :=
  sSub_or2 (sSub_or2 (sSub_and2 (sPre_mono w sec 0 (by omega) ho)) (sSub_and2 (sPre_mono w sec 0 (by omega) hm))) (sSub_and2 (sPre_mono w sec 0 (by omega) hx))
theorem sF3_all (hN : N < 13) (o m x : Int32) : sSub (sF3 w sec r0 r1 r2 N o m x) (sAll N) :=
  sSub_or.mpr ⟨sSub_or.mpr ⟨sSub_andr.trans (sPre_all w sec 0 o hN), sSub_andr.trans (sPre_all w sec 0 m hN)⟩, sSub_andr.trans (sPre_all w sec 0 x hN)⟩
theorem sF3_dec (hN : N < 13) (o m : Int32) : ∀ k, sSub (sF3 w sec r0 r1 r2 N o m (sIt (sF3 w sec r0 r1 r2 N o m) k (sAll N))) (sIt (sF3 w sec r0 r1 r2 N o m) k (sAll N)) :=
  sIt_decM (fun _ _ h => sF3_mono w sec r0 r1 r2 hN sSub.rfl sSub.rfl h) (sF3_all w sec r0 r1 r2 hN o m _)
theorem sG3_fix (hN : N < 13) (o m : Int32) : sF3 w sec r0 r1 r2 N o m (sG3 w sec r0 r1 r2 N o m) = sG3 w sec r0 r1 r2 N o m := sIt_dec (sF3_dec w sec r0 r1 r2 hN o m)
theorem sG3_all (hN : N < 13) (o m : Int32) : sSub (sG3 w sec r0 r1 r2 N o m) (sAll N) := by
  rw [← sG3_fix w sec r0 r1 r2 hN]; exact sF3_all w sec r0 r1 r2 hN _ _ _
theorem sG3_mono (hN : N < 13) {o o' m m' : Int32} (ho : sSub o o') (hm : sSub m m') : sSub (sG3 w sec r0 r1 r2 N o m) (sG3 w sec r0 r1 r2 N o' m') := by
  refine sIt_ge (fun _ _ h => sF3_mono w sec r0 r1 r2 hN sSub.rfl sSub.rfl h) (sG3_all w sec r0 r1 r2 hN o m) ?_ 32
  have e := sG3_fix w sec r0 r1 r2 hN o m
  have h := sF3_mono w sec r0 r1 r2 hN (o := o) (o' := o') (m := m) (m' := m') (x := sG3 w sec r0 r1 r2 N o m) (x' := sG3 w sec r0 r1 r2 N o m) ho hm sSub.rfl
  rw [e] at h
  exact h
theorem sG3_inc (hN : N < 13) (o : Int32) : ∀ k, sSub (sIt (sG3 w sec r0 r1 r2 N o) k 0) (sG3 w sec r0 r1 r2 N o (sIt (sG3 w sec r0 r1 r2 N o) k 0)) :=
  sIt_incM (fun _ _ h => sG3_mono w sec r0 r1 r2 hN sSub.rfl h) sSub_0
theorem sH3_fix (hN : N < 13) (o : Int32) : sG3 w sec r0 r1 r2 N o (sH3 w sec r0 r1 r2 N o) = sH3 w sec r0 r1 r2 N o := sIt_inc (sG3_inc w sec r0 r1 r2 hN o)
theorem sH3_all (hN : N < 13) (o : Int32) : sSub (sH3 w sec r0 r1 r2 N o) (sAll N) := by
  rw [← sH3_fix w sec r0 r1 r2 hN]; exact sG3_all w sec r0 r1 r2 hN _ _
theorem sH3_mono (hN : N < 13) {o o' : Int32} (ho : sSub o o') : sSub (sH3 w sec r0 r1 r2 N o) (sH3 w sec r0 r1 r2 N o') := by
  refine sIt_le (fun _ _ h => sG3_mono w sec r0 r1 r2 hN sSub.rfl h) sSub_0 ?_ 32
  have h := sG3_mono w sec r0 r1 r2 hN (o := o) (o' := o') (m := sH3 w sec r0 r1 r2 N o') (m' := sH3 w sec r0 r1 r2 N o') ho sSub.rfl
  rw [sH3_fix w sec r0 r1 r2 hN] at h
  exact h
theorem sH3_dec (hN : N < 13) : ∀ k, sSub (sH3 w sec r0 r1 r2 N (sIt (sH3 w sec r0 r1 r2 N) k (sAll N))) (sIt (sH3 w sec r0 r1 r2 N) k (sAll N)) :=
  sIt_decM (fun _ _ h => sH3_mono w sec r0 r1 r2 hN h) (sH3_all w sec r0 r1 r2 hN _)
theorem sRk_fix (hN : N < 13) : sH3 w sec r0 r1 r2 N (sRk w sec r0 r1 r2 N) = sRk w sec r0 r1 r2 N := sIt_dec (sH3_dec w sec r0 r1 r2 hN)
end RK
theorem sIt_tail {F : Int32 → Int32} {R : Int32 → Int32 → Prop} {x : Int32} (h : ∀ k, R (F (sIt F k x)) (sIt F k x)) : ∀ k, R (F (sIt F k (F x))) (sIt F k (F x)) := fun k => h (k + 1)
/-- what the reference's innermost loop reckons -/
abbrev mF (w : Nat → Int32) (oo : Int32) (rk : Nat → Int32) (N : Nat) : Int32 → Int32 → Int32 → Int32 := sF3 w oo (sRank rk 0 N) (sRank rk 1 N) (sRank rk 2 N) N
abbrev mG (w : Nat → Int32) (oo : Int32) (rk : Nat → Int32) (N : Nat) : Int32 → Int32 → Int32 := sG3 w oo (sRank rk 0 N) (sRank rk 1 N) (sRank rk 2 N) N
abbrev mH (w : Nat → Int32) (oo : Int32) (rk : Nat → Int32) (N : Nat) : Int32 → Int32 := sH3 w oo (sRank rk 0 N) (sRank rk 1 N) (sRank rk 2 N) N
def mRk (w : Nat → Int32) (oo : Int32) (rk : Nat → Int32) (N : Nat) : Int32 := sRk w oo (sRank rk 0 N) (sRank rk 1 N) (sRank rk 2 N) N
