/-! The relation with the stone and the counts; change's answer. -/
def kRelB (mf : Nat → Int32) (mz ms mg m0 m1 xst xgo xdo xre xkn on oo og ost ord oac ore okn : Int32) (orl : Nat) (ork : Nat → Int32) (owl : Nat) (oww : Nat → Int32) : Prop := ∃ N, 2 ≤ N ∧ N < 13 ∧ mz = nI N ∧ on = nI N ∧ orl = N ∧ owl = N ∧ isPl N ost ∧ kR N mf ms mg m0 m1 oo og ork oww ∧ xst = ost ∧ xgo = ord ∧ xdo = oac ∧ xre = ore ∧ xkn = okn
theorem kRelB_mk {N : Nat} {mf : Nat → Int32} {ms mg m0 m1 st gn dn rf kn oo og : Int32} {rk w : Nat → Int32} (g2 : 2 ≤ N) (hN : N < 13) (hs : isPl N st) (h : kR N mf ms mg m0 m1 oo og rk w) : kRelB mf (nI N) ms mg m0 m1 st gn dn rf kn (nI N) oo og st gn dn rf kn N rk N w := ⟨N, g2, hN, rfl, rfl, rfl, rfl, hs, h, rfl, rfl, rfl, rfl, rfl⟩
theorem not_all {N : Nat} {y : Int32} (hy : sSub y (sAll N)) : sCnt (sAll N &&& (y ^^^ (-1 : Int32))) + sCnt y = sCnt (sAll N) := by
  have e1 : (sAll N &&& (y ^^^ (-1 : Int32))) ||| y = sAll N := b_ext fun i hi => by
    rw [b_or, b_and, bt_not _ hi]
    cases hb : bt y i
    · simp
    · rw [hy i hi hb]; rfl
  have e2 : (sAll N &&& (y ^^^ (-1 : Int32))) &&& y = 0 := b_ext fun i hi => by
    rw [b_and, b_and, bt_not _ hi, b_0]
    cases bt y i <;> simp
  have := sCnt_oa (sAll N &&& (y ^^^ (-1 : Int32))) y
  rw [e1, e2, sCnt_0.mpr rfl] at this
  omega
theorem chg_eq {N : Nat} {x : Int32} (hN : N < 13) : pcf (sAll N &&& ((sAll N &&& (x ^^^ (-1 : Int32))) ^^^ (-1 : Int32))) = nI N - pcf (sAll N &&& (x ^^^ (-1 : Int32))) := by
  have h1 : sSub (sAll N &&& (x ^^^ (-1 : Int32))) (sAll N) := sSub_andl
  have h := not_all h1
  rw [sCnt_all N hN] at h
  have hle := sCnt_N hN h1
  rw [pcf_eq (sSub_12 hN sSub_andl), pcf_eq (sSub_12 hN h1), nI_sub hle]
  congr 1; omega
