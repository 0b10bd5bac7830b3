/-! Sets that grow or fall until nothing is other. -/
def sIt (F : Int32 → Int32) : Nat → Int32 → Int32
  | 0, x => x
  | k + 1, x => sIt F k (F x)
theorem sIt_fix {F : Int32 → Int32} {x : Int32} (h : F x = x) : ∀ k, sIt F k x = x
  | 0 => rfl
  | k + 1 => by rw [sIt, h]; exact sIt_fix h k
theorem sIt_out (F : Int32 → Int32) : ∀ k x, sIt F (k + 1) x = F (sIt F k x)
  | 0, _ => rfl
  | k + 1, x => by rw [sIt, sIt_out F k (F x)]; rfl
theorem sIt_dec {F : Int32 → Int32} {x : Int32} (hd : ∀ k, sSub (F (sIt F k x)) (sIt F k x)) : F (sIt F 32 x) = sIt F 32 x := by
  have key : ∀ k, F (sIt F k x) = sIt F k x ∨ sCnt (sIt F k x) + k ≤ sCnt x := by
    intro k
    induction k with
    | zero => exact Or.inr (Nat.le_refl _)
    | succ k ih =>
      rcases ih with ih | ih
      · left; rw [sIt_out, ih, ih]
      · by_cases h : F (sIt F k x) = sIt F k x
        · left; rw [sIt_out, h, h]
        · right
          have := sCnt_lt (hd k) h
          rw [sIt_out]; omega
  rcases key 32 with h | h
  · exact h
  · apply Classical.byContradiction
    intro hn
    have h1 := sCnt_lt (hd 32) hn
    have h2 := sCnt_le x
    omega
theorem sIt_inc {F : Int32 → Int32} {x : Int32} (hd : ∀ k, sSub (sIt F k x) (F (sIt F k x))) : F (sIt F 32 x) = sIt F 32 x := by
  have key : ∀ k, F (sIt F k x) = sIt F k x ∨ sCnt x + k ≤ sCnt (sIt F k x) := by
    intro k
    induction k with
    | zero => exact Or.inr (Nat.le_refl _)
    | succ k ih =>
      rcases ih with ih | ih
      · left; rw [sIt_out, ih, ih]
      · by_cases h : F (sIt F k x) = sIt F k x
        · left; rw [sIt_out, h, h]
        · right
          have := sCnt_lt (hd k) (fun e => h e.symm)
          rw [sIt_out]; omega
  rcases key 32 with h | h
  · exact h
  · apply Classical.byContradiction
    intro hn
    have h1 := sCnt_lt (hd 32) (fun e => hn e.symm)
    have h2 := sCnt_le (F (sIt F 32 x))
    omega
/-- once the limit is reached: the same from one step on -/
theorem sIt_next {F : Int32 → Int32} {x : Int32} (h : F (sIt F 32 x) = sIt F 32 x) : sIt F 32 (F x) = sIt F 32 x := by
  have e : sIt F 33 x = sIt F 32 (F x) := rfl
  rw [← e, sIt_out, h]
/-- the limit of a loop that goes on until F x = x, for sets that fall -/
theorem sIt_decM {F : Int32 → Int32} (hm : ∀ x y, sSub x y → sSub (F x) (F y)) {x : Int32} (h0 : sSub (F x) x) : ∀ k, sSub (F (sIt F k x)) (sIt F k x)
  | 0 => h0
  | k + 1 => by rw [sIt_out]; exact hm _ _ (sIt_decM hm h0 k)
theorem sIt_incM {F : Int32 → Int32} (hm : ∀ x y, sSub x y → sSub (F x) (F y)) {x : Int32} (h0 : sSub x (F x)) : ∀ k, sSub (sIt F k x) (F (sIt F k x))
  | 0 => h0
  | k + 1 => by rw [sIt_out]; exact hm _ _ (sIt_incM hm h0 k)
/-- above every set that F lets grow, when it began above it -/
theorem sIt_ge {F : Int32 → Int32} (hm : ∀ x y, sSub x y → sSub (F x) (F y)) {x y : Int32} (h : sSub y x) (hy : sSub y (F y)) : ∀ k, sSub y (sIt F k x)
  | 0 => h
  | k + 1 => by rw [sIt_out]; exact hy.trans (hm _ _ (sIt_ge hm h hy k))
theorem sIt_le {F : Int32 → Int32} (hm : ∀ x y, sSub x y → sSub (F x) (F y)) {x y : Int32} (h : sSub x y) (hy : sSub (F y) y) : ∀ k, sSub (sIt F k x) y
  | 0 => h
  | k + 1 => by rw [sIt_out]; exact (hm _ _ (sIt_le hm h hy k)).trans hy
/-- a step of a side's way to a set -/
def sStep (w : Nat → Int32) (sec side : Int32) (N : Nat) (x : Int32) : Int32 := x ||| sPre w sec x side N
theorem sStep_mono (w : Nat → Int32) (sec side : Int32) {N : Nat} (hN : N ≤ 32) (x y : Int32) (h : sSub x y) : sSub (sStep w sec side N x) (sStep w sec side N y) :=
  sSub_or.mpr ⟨h.trans sSub_orl, (sPre_mono w sec side hN h).trans sSub_orr⟩
/-- from where a side brings a set about (or the other side is stuck) -/
def sLim (w : Nat → Int32) (sec side : Int32) (N : Nat) (x : Int32) : Int32 := sIt (sStep w sec side N) 32 x
section LIM
variable (w : Nat → Int32) (sec side : Int32) {N : Nat}
theorem sLim_fix (x : Int32) : sStep w sec side N (sLim w sec side N x) = sLim w sec side N x := sIt_inc (fun _ => sSub_orl)
theorem sLim_step (x : Int32) : sLim w sec side N (sStep w sec side N x) = sLim w sec side N x := sIt_next (sLim_fix w sec side x)
theorem sLim_pre (x : Int32) : sSub (sPre w sec (sLim w sec side N x) side N) (sLim w sec side N x) := or_eq_left.mp (sLim_fix w sec side x)

theorem sLim_ge (hN : N ≤ 32) (x : Int32) : sSub x (sLim w sec side N x) := sIt_ge (sStep_mono w sec side hN) sSub.rfl sSub_orl 32
theorem sLim_least (hN : N ≤ 32) {x y : Int32} (h : sSub x y) (hy : sSub (sPre w sec y side N) y) : sSub (sLim w sec side N x) y :=
  sIt_le (sStep_mono w sec side hN) h (sSub_or.mpr ⟨sSub.rfl, hy⟩) 32
theorem sLim_mono (hN : N ≤ 32) {x y : Int32} (h : sSub x y) : sSub (sLim w sec side N x) (sLim w sec side N y) :=
  sLim_least w sec side hN (h.trans (sLim_ge w sec side hN y)) (sLim_pre w sec side y)
end LIM
/-- left out what can't come back, once -/
def sFall (w : Nat → Int32) (sec side goal : Int32) (N : Nat) (x : Int32) : Int32 := x &&& sLim w sec side N (goal &&& sPre w sec x side N)
def sAgain (w : Nat → Int32) (sec side goal : Int32) (N : Nat) : Int32 := sIt (sFall w sec side goal N) 32 (sAll N)
theorem sFall_fix (w : Nat → Int32) (sec side goal : Int32) (N : Nat) : sFall w sec side goal N (sAgain w sec side goal N) = sAgain w sec side goal N := sIt_dec (fun _ => sSub_andl)
