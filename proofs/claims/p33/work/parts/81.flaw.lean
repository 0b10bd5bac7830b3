/-! The loop of the law, and its start. -/
theorem five_of {L i : Nat} (hL : L ≤ 320) (hi : i ≤ L) (h : ¬ ((Int32.ofNat L) - (5 : Int32)) < nI i) : i + 5 ≤ L := by
  apply Classical.byContradiction
  intro hn
  apply h
  have e3 : Int32.ofNat L = nI L := rfl
  rw [e3, show (5 : Int32) = nI 5 from by decide]
  rcases Nat.lt_or_ge L 5 with h5 | h5
  · rw [nI_subn (by omega), Int32.lt_iff_toInt_lt, sb_negT (by omega), nI_toInt (by omega)]
    omega
  · rw [nI_sub h5]
    exact nI_lt (by omega) (by omega)
theorem kLoop {xs : Nat → Int32} {L : Nat} {dO dT : Nat → Int32} (hL : L ≤ 320) : ∀ (n i : Nat) (xst : Int32) (xgo : Int32) (xdo : Int32) (xre : Int32) (xkn : Int32) (mz : Int32) (ms : Int32) (mg : Int32) (m0 : Int32) (m1 : Int32) (mf : Nat → Int32) (tz : Int32) (ts : Int32) (tg : Int32) (t0 : Int32) (t1 : Int32) (tf : Nat → Int32) (zn : Int64) (on : Int32) (oo : Int32) (og : Int32) (ost : Int32) (ord : Int32) (oac : Int32) (ore : Int32) (okn : Int32) (oth : Int32) (orl : Nat) (ork : Nat → Int32) (owl : Nat) (oww : Nat → Int32), kRelA mf mz ms mg m0 m1 on oo og ost orl ork owl oww → i ≤ L → L + 5 ≤ 5 * n + i → qLaw_loop xs L dO dT n (nI i) xst xgo xdo xre xkn mz ms mg m0 m1 mf tz ts tg t0 t1 tf zn on oo og ost ord oac ore okn oth orl ork owl oww
  | 0, i, xst, xgo, xdo, xre, xkn, mz, ms, mg, m0, m1, mf, tz, ts, tg, t0, t1, tf, zn, on, oo, og, ost, ord, oac, ore, okn, oth, orl, ork, owl, oww, hI, hi, hn => by omega
  | n + 1, i, xst, xgo, xdo, xre, xkn, mz, ms, mg, m0, m1, mf, tz, ts, tg, t0, t1, tf, zn, on, oo, og, ost, ord, oac, ore, okn, oth, orl, ork, owl, oww, hI, hi, hn => by
    refine ⟨fun _ => trivial, fun hc => ?_⟩
    have h5 := five_of hL hi hc
    have v0 : vp_in (nI i) L := vp_in_nI (by omega) (by omega)
    have v1 : vp_in (nI i + 1) L := by rw [show (1 : Int32) = nI 1 from by decide, nI_add]; exact vp_in_nI (by omega) (by omega)
    have v2 : vp_in (nI i + 2) L := by rw [show (2 : Int32) = nI 2 from by decide, nI_add]; exact vp_in_nI (by omega) (by omega)
    have v3 : vp_in (nI i + 3) L := by rw [show (3 : Int32) = nI 3 from by decide, nI_add]; exact vp_in_nI (by omega) (by omega)
    have v4 : vp_in (nI i + 4) L := by rw [show (4 : Int32) = nI 4 from by decide, nI_add]; exact vp_in_nI (by omega) (by omega)
    have hK : ∀ (xst : Int32) (xgo : Int32) (xdo : Int32) (xre : Int32) (xkn : Int32) (mz : Int32) (ms : Int32) (mg : Int32) (m0 : Int32) (m1 : Int32) (mf : Nat → Int32) (tz : Int32) (ts : Int32) (tg : Int32) (t0 : Int32) (t1 : Int32) (tf : Nat → Int32) (zn : Int64) (on : Int32) (oo : Int32) (og : Int32) (ost : Int32) (ord : Int32) (oac : Int32) (ore : Int32) (okn : Int32) (oth : Int32) (orl : Nat) (ork : Nat → Int32) (owl : Nat) (oww : Nat → Int32), kRelA mf mz ms mg m0 m1 on oo og ost orl ork owl oww → qLaw_loop xs L dO dT n (nI i + 5) xst xgo xdo xre xkn mz ms mg m0 m1 mf tz ts tg t0 t1 tf zn on oo og ost ord oac ore okn oth orl ork owl oww := by
      intro xst xgo xdo xre xkn mz ms mg m0 m1 mf tz ts tg t0 t1 tf zn on oo og ost ord oac ore okn oth orl ork owl oww hI
      rw [show (5 : Int32) = nI 5 from by decide, nI_add]
      exact kLoop hL n (i + 5) xst xgo xdo xre xkn mz ms mg m0 m1 mf tz ts tg t0 t1 tf zn on oo og ost ord oac ore okn oth orl ork owl oww hI (by omega) (by omega)
    refine ⟨v0, ?_⟩
    repeat' (with_reducible first | exact aLaw_c200 hI v1 v2 v3 v4 hK | exact aLaw_c228 hI v1 v2 v3 v4 hK | exact aLaw_c268 hI v1 v2 v3 v4 hK | exact aLaw_c308 hI v1 v2 v3 v4 hK | exact aLaw_c336 hI v1 v2 v3 v4 hK | exact aLaw_c376 hI v1 v2 v3 v4 hK | exact aLaw_c416 hI v1 v2 v3 v4 hK | exact aLaw_c444 hI v1 v2 v3 v4 hK | exact aLaw_c472 hI hK | exact aLaw_c485 hI v1 v2 v3 v4 hK | exact aLaw_c513 hI v1 v2 v3 v4 hK | exact aLaw_c541 hI v1 v2 v3 v4 hK | exact aLaw_c569 hI v1 v2 v3 v4 hK | exact aLaw_c597 hI v1 v2 v3 v4 hK | exact aLaw_c637 hI v1 v2 v3 v4 hK | exact aLaw_c677 hI v1 v2 v3 v4 hK | exact aLaw_c705 hI v1 v2 v3 v4 hK | exact aLaw_c745 hI v1 v2 v3 v4 hK | exact aLaw_c773 hI v1 v2 v3 v4 hK | exact aLaw_c801 hI v1 v2 v3 v4 hK | exact aLaw_c829 hI v1 v2 v3 v4 hK | exact aLaw_c857 hI v1 v2 v3 v4 hK | exact aLaw_c897 hI v1 v2 v3 v4 hK | exact aLaw_c937 hI v1 v2 v3 v4 hK | exact aLaw_c977 hI v1 v2 v3 v4 hK | exact aLaw_c1005 hI v1 v2 v3 v4 hK | exact aLaw_c1057 hI v1 v2 v3 v4 hK | exact aLaw_c1097 hI v1 v2 v3 v4 hK | exact aLaw_c1137 hI v1 v2 v3 v4 hK | exact aLaw_c1165 hI v1 v2 v3 v4 hK | exact aLaw_c1205 hI v1 v2 v3 v4 hK | exact aLaw_c1257 hI v1 v2 v3 v4 hK | exact aLaw_c1350 hI v1 v2 v3 v4 hK | exact aLaw_c1378 hI hK | exact aLaw_c1391 hI hK | exact aLaw_c1404 hI hK | exact aLaw_c1417 hI hK | refine And.intro ?_ ?_ | intro _)
theorem fLaw (xs : Nat → Int32) (L : Nat) (hL : L ≤ 320) : qLaw_start xs L kD1 kD2 := by
  unfold qLaw_start
  refine uX1_initW (uX0_initW (uX0_initW (fX3_initE (fun g hg => ?_))))
  show qLaw_loop xs L kD1 kD2 65 0 _ _ _ _ _ _ _ _ _ _ _ _ _ _ _ _ _ _ _ _ _ _ _ _ _ _ _ _ _ _ _
  have hk : ∀ (xst : Int32) (xgo : Int32) (xdo : Int32) (xre : Int32) (xkn : Int32) (mz : Int32) (ms : Int32) (mg : Int32) (m0 : Int32) (m1 : Int32) (mf : Nat → Int32) (tz : Int32) (ts : Int32) (tg : Int32) (t0 : Int32) (t1 : Int32) (tf : Nat → Int32) (zn : Int64) (on : Int32) (oo : Int32) (og : Int32) (ost : Int32) (ord : Int32) (oac : Int32) (ore : Int32) (okn : Int32) (oth : Int32) (orl : Nat) (ork : Nat → Int32) (owl : Nat) (oww : Nat → Int32), kRelA mf mz ms mg m0 m1 on oo og ost orl ork owl oww → qLaw_loop xs L kD1 kD2 65 0 xst xgo xdo xre xkn mz ms mg m0 m1 mf tz ts tg t0 t1 tf zn on oo og ost ord oac ore okn oth orl ork owl oww := by
    intro xst xgo xdo xre xkn mz ms mg m0 m1 mf tz ts tg t0 t1 tf zn on oo og ost ord oac ore okn oth orl ork owl oww hI
    have := kLoop (xs := xs) (dO := kD1) (dT := kD2) hL 65 0 xst xgo xdo xre xkn mz ms mg m0 m1 mf tz ts tg t0 t1 tf zn on oo og ost ord oac ore okn oth orl ork owl oww hI (by omega) (by omega)
    rw [nI_0] at this
    exact this
  apply hk
  rw [show (6 : Int32) = nI 6 from by decide]
  exact kRelA_mk (by omega) (by omega) ⟨0, by omega, nI_0.symm⟩ (R_places (by omega) (fun _ _ => rfl) hg)
