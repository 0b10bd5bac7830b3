/-! walks by program (wip/gen) -/
set_option maxHeartbeats 4000000 in
set_option maxRecDepth 100000 in
theorem kX1_told (l : Launch) (D : va_G) (cI cB : ClassId) (h0 : Nat) (h1 : Nat) (h2 : Nat) (h3 : Nat) (h4 : Nat) (mf : Nat → Int32) (mz : Int32) (ms : Int32) (mg : Int32) (m0 : Int32) (m1 : Int32) (tf : Nat → Int32) (tz : Int32) (ts : Int32) (tg : Int32) (t0 : Int32) (t1 : Int32) (xst : Int32) (xgo : Int32) (xdo : Int32) (xre : Int32) (xkn : Int32) (a1 : Int32) (post : Int32 → Prop) (hv : qX1_told mf mz ms mg xst xgo a1 post) : Met l yX1_told wsX1_told ({ frames := 2, cells := 0, slots := 0, locals := 43 }) (va_Pc [.ref h0, .int a1] (kB D cI cB [(h0, .inr (3, [.ref h1, .ref h3, .int xst, .int xgo, .int xdo, .int xre, .int xkn])), (h1, .inr (2, [.ref h2, .int mz, .int ms, .int mg, .int m0, .int m1])), (h2, .inl (cI, 12, .inl mf)), (h3, .inr (2, [.ref h4, .int tz, .int ts, .int tg, .int t0, .int t1])), (h4, .inl (cI, 12, .inl tf))])) (vp_Si post) 0 0 (fun _ => False) := by
  refine Met.ofW (cc := cX1_told) (maxL := 2) (ret := (some .int)) (by decide) rfl ?_
  intro p e s m args below meth c s₁ B hml hv0
  obtain ⟨rfl, hP, hK, hN⟩ := hv0
  have hx := B.exec
  have hb := B.bytes
  have hr := B.returns
  have hts := atoms_spec (ws := wsX1_told) B.pre
  have hown : s.vm.findClass RX1 = some m.cls := findClass_of_methodNamed B.named
  have hlocks := B.notSynchronized
  have hi_X0 : ∀ w ∈ wsX00, w ∈ wsX1_told := by decide +kernel
  have hi_X1 : ∀ w ∈ wsX10, w ∈ wsX1_told := by decide +kernel
  have hF10 := hts (.fieldLink RX1 10 "Roadgame" "map" "LRoadgame$Chart;") (by decide +kernel)
  have hF31 := hts (.fieldLink RX1 31 "Roadgame" "stone" "I") (by decide +kernel)
  have hF34 := hts (.fieldLink RX1 34 "Roadgame" "gone" "I") (by decide +kernel)
  have hl := lv_entry ([.ref h0, .int a1]) (n := 2) (Nat.le_of_ble_eq_true rfl)
  rw [lg_entry_eq]
  generalize (lg_sl ([.ref h0, .int a1]) ++ List.replicate (2 - (lg_sl ([.ref h0, .int a1])).length) Slot.unset).toArray = ls at hl ⊢
  have hl : lv_has ls 2 [(0, .ref h0), (1, .int a1)] := hl
  refine lv_iload_n hx hb dX1_told_0 rfl (lv_at hl 1 rfl) ?_
  refine lv_iconst (v := (0 : Int32)) hx hb dX1_told_1 (by decide) ?_
  refine lv_bipush (v := (6 : Int32)) hx hb dX1_told_2 (by decide) ?_
  refine kc_Sv (As := [.int a1, .int (0 : Int32), .int (6 : Int32)]) (rest := []) ⟨hx, hb, hml, hown, hts⟩ (kX1_checkBetween l D cI cB a1 (0 : Int32) (6 : Int32) _ hv) (va_cwS 3 hts gX1_told_X1_checkBetween rfl rfl rfl (by decide +kernel) ⟨Nat.le_of_ble_eq_true rfl, Nat.le_of_ble_eq_true rfl⟩) (hP.sub (ws' := []) [] rfl) hK hN rfl hl.1 rfl (Nat.le_of_ble_eq_true rfl) dX1_told_4 ⟨Nat.zero_le _, Nat.zero_le _⟩ (fun hv => ?_)
  refine lv_iload_n hx hb dX1_told_7 rfl (lv_at hl 1 rfl) ?_
  by_cases hc0 : a1 = (0 : Int32)
  · have hv := hv.1 hc0
    refine lv_tableIn (off := 40) (tgt := 48) hx hb dX1_told_8 (by rw [hc0]; decide) (by rw [hc0]; decide) (by rw [hc0]; decide) (by decide) ?_
    refine lv_aload_n hx hb dX1_told_48 rfl (lv_at hl 0 rfl) ?_
    refine va_get (D := D) (ci := 3) (v := .ref h1) (C := RX1) (T := TX1) (N := 7) hx hb hts hi_X1 hown hK hP 0 rfl rfl 0 (by decide) hF10 (fun _ h9 => h9) rfl dX1_told_49 ?_
    refine va_getN (D := D) (ci := 2) (v := .int mz) (C := RX0) (T := TX0) (N := 6) (host := "Roadgame") hx hb hts hi_X0 hown hK hP 1 rfl rfl 1 (by decide) (va_Nw.use rfl hN.1) (fun _ h9 => h9) rfl dX1_told_52 ?_
    exact W.iret (v := mz) hx hb hr (kSi_ret rfl hv) (fun _ h => by cases h) dX1_told_55
  · have hv := hv.2 hc0
    by_cases hc1 : a1 = (1 : Int32)
    · have hv := hv.1 hc1
      refine lv_tableIn (off := 48) (tgt := 56) hx hb dX1_told_8 (by rw [hc1]; decide) (by rw [hc1]; decide) (by rw [hc1]; decide) (by decide) ?_
      refine lv_aload_n hx hb dX1_told_56 rfl (lv_at hl 0 rfl) ?_
      refine va_get (D := D) (ci := 3) (v := .ref h1) (C := RX1) (T := TX1) (N := 7) hx hb hts hi_X1 hown hK hP 0 rfl rfl 0 (by decide) hF10 (fun _ h9 => h9) rfl dX1_told_57 ?_
      refine kc_V (As := []) (rest := []) ⟨hx, hb, hml, hown, hts⟩ (kX0_countWays l D cI cB h1 h2 mf mz ms mg m0 m1 _ hv) (cwV 0 hts gX1_told_X0_countWays rfl rfl rfl (by decide +kernel) ⟨Nat.le_of_ble_eq_true rfl, Nat.le_of_ble_eq_true rfl⟩) (hP.sub (ws' := [(h1, .inr (2, [.ref h2, .int mz, .int ms, .int mg, .int m0, .int m1])), (h2, .inl (cI, 12, .inl mf))]) [1, 2] rfl) hK hN 2 rfl rfl rfl rfl hl.1 rfl (Nat.le_of_ble_eq_true rfl) dX1_told_60 ⟨Nat.zero_le _, Nat.zero_le _⟩ (fun r60 hv => ?_)
      exact W.iret (v := r60) hx hb hr (kSi_ret rfl hv) (fun _ h => by cases h) dX1_told_63
    · have hv := hv.2 hc1
      by_cases hc2 : a1 = (2 : Int32)
      · have hv := hv.1 hc2
        refine lv_tableIn (off := 56) (tgt := 64) hx hb dX1_told_8 (by rw [hc2]; decide) (by rw [hc2]; decide) (by rw [hc2]; decide) (by decide) ?_
        refine lv_aload_n hx hb dX1_told_64 rfl (lv_at hl 0 rfl) ?_
        refine va_get (D := D) (ci := 3) (v := .ref h1) (C := RX1) (T := TX1) (N := 7) hx hb hts hi_X1 hown hK hP 0 rfl rfl 0 (by decide) hF10 (fun _ h9 => h9) rfl dX1_told_65 ?_
        refine va_getN (D := D) (ci := 2) (v := .int mg) (C := RX0) (T := TX0) (N := 6) (host := "Roadgame") hx hb hts hi_X0 hown hK hP 1 rfl rfl 3 (by decide) (va_Nw.use rfl hN.2.2.1) (fun _ h9 => h9) rfl dX1_told_68 ?_
        exact W.iret (v := mg) hx hb hr (kSi_ret rfl hv) (fun _ h => by cases h) dX1_told_71
      · have hv := hv.2 hc2
        by_cases hc3 : a1 = (3 : Int32)
        · have hv := hv.1 hc3
          refine lv_tableIn (off := 64) (tgt := 72) hx hb dX1_told_8 (by rw [hc3]; decide) (by rw [hc3]; decide) (by rw [hc3]; decide) (by decide) ?_
          refine lv_aload_n hx hb dX1_told_72 rfl (lv_at hl 0 rfl) ?_
          refine va_get (D := D) (ci := 3) (v := .ref h1) (C := RX1) (T := TX1) (N := 7) hx hb hts hi_X1 hown hK hP 0 rfl rfl 0 (by decide) hF10 (fun _ h9 => h9) rfl dX1_told_73 ?_
          refine lv_iconst (v := (1 : Int32)) hx hb dX1_told_76 (by decide) ?_
          refine kc_V (As := [.int (1 : Int32)]) (rest := []) ⟨hx, hb, hml, hown, hts⟩ (kX0_placesOf l D cI cB h1 h2 mf mz ms mg m0 m1 (1 : Int32) _ hv) (cwV 1 hts gX1_told_X0_placesOf rfl rfl rfl (by decide +kernel) ⟨Nat.le_of_ble_eq_true rfl, Nat.le_of_ble_eq_true rfl⟩) (hP.sub (ws' := [(h1, .inr (2, [.ref h2, .int mz, .int ms, .int mg, .int m0, .int m1])), (h2, .inl (cI, 12, .inl mf))]) [1, 2] rfl) hK hN 2 rfl rfl rfl rfl hl.1 rfl (Nat.le_of_ble_eq_true rfl) dX1_told_77 ⟨Nat.zero_le _, Nat.zero_le _⟩ (fun r77 hv => ?_)
          exact W.iret (v := r77) hx hb hr (kSi_ret rfl hv) (fun _ h => by cases h) dX1_told_80
        · have hv := hv.2 hc3
          by_cases hc4 : a1 = (4 : Int32)
          · have hv := hv.1 hc4
            refine lv_tableIn (off := 73) (tgt := 81) hx hb dX1_told_8 (by rw [hc4]; decide) (by rw [hc4]; decide) (by rw [hc4]; decide) (by decide) ?_
            refine lv_aload_n hx hb dX1_told_81 rfl (lv_at hl 0 rfl) ?_
            refine va_get (D := D) (ci := 3) (v := .int xst) (C := RX1) (T := TX1) (N := 7) hx hb hts hi_X1 hown hK hP 0 rfl rfl 2 (by decide) hF31 (fun _ h9 => h9) rfl dX1_told_82 ?_
            exact W.iret (v := xst) hx hb hr (kSi_ret rfl hv) (fun _ h => by cases h) dX1_told_85
          · have hv := hv.2 hc4
            by_cases hc5 : a1 = (5 : Int32)
            · have hv := hv.1 hc5
              refine lv_tableIn (off := 78) (tgt := 86) hx hb dX1_told_8 (by rw [hc5]; decide) (by rw [hc5]; decide) (by rw [hc5]; decide) (by decide) ?_
              refine lv_aload_n hx hb dX1_told_86 rfl (lv_at hl 0 rfl) ?_
              refine va_get (D := D) (ci := 3) (v := .int xgo) (C := RX1) (T := TX1) (N := 7) hx hb hts hi_X1 hown hK hP 0 rfl rfl 3 (by decide) hF34 (fun _ h9 => h9) rfl dX1_told_87 ?_
              exact W.iret (v := xgo) hx hb hr (kSi_ret rfl hv) (fun _ h => by cases h) dX1_told_90
            · have hv := hv.2 hc5
              refine lv_tableOut (tgt := 91) hx hb dX1_told_8 (by have g0 := lv_neT hc0 (a := 0) (by decide); have g1 := lv_neT hc1 (a := 1) (by decide); have g2 := lv_neT hc2 (a := 2) (by decide); have g3 := lv_neT hc3 (a := 3) (by decide); have g4 := lv_neT hc4 (a := 4) (by decide); have g5 := lv_neT hc5 (a := 5) (by decide); omega) (by decide) ?_
              refine lv_aload_n hx hb dX1_told_91 rfl (lv_at hl 0 rfl) ?_
              refine va_get (D := D) (ci := 3) (v := .ref h1) (C := RX1) (T := TX1) (N := 7) hx hb hts hi_X1 hown hK hP 0 rfl rfl 0 (by decide) hF10 (fun _ h9 => h9) rfl dX1_told_92 ?_
              refine kc_V (As := []) (rest := []) ⟨hx, hb, hml, hown, hts⟩ (kX0_countWithoutWays l D cI cB h1 h2 mf mz ms mg m0 m1 _ hv) (cwV 0 hts gX1_told_X0_countWithoutWays rfl rfl rfl (by decide +kernel) ⟨Nat.le_of_ble_eq_true rfl, Nat.le_of_ble_eq_true rfl⟩) (hP.sub (ws' := [(h1, .inr (2, [.ref h2, .int mz, .int ms, .int mg, .int m0, .int m1])), (h2, .inl (cI, 12, .inl mf))]) [1, 2] rfl) hK hN 2 rfl rfl rfl rfl hl.1 rfl (Nat.le_of_ble_eq_true rfl) dX1_told_95 ⟨Nat.zero_le _, Nat.zero_le _⟩ (fun r95 hv => ?_)
              exact W.iret (v := r95) hx hb hr (kSi_ret rfl hv) (fun _ h => by cases h) dX1_told_98
set_option maxHeartbeats 4000000 in
set_option maxRecDepth 100000 in
theorem kX1_ofPlace (l : Launch) (D : va_G) (cI cB : ClassId) (h0 : Nat) (h1 : Nat) (h2 : Nat) (h3 : Nat) (h4 : Nat) (mf : Nat → Int32) (mz : Int32) (ms : Int32) (mg : Int32) (m0 : Int32) (m1 : Int32) (tf : Nat → Int32) (tz : Int32) (ts : Int32) (tg : Int32) (t0 : Int32) (t1 : Int32) (xst : Int32) (xgo : Int32) (xdo : Int32) (xre : Int32) (xkn : Int32) (a1 : Int32) (a2 : Int32) (post : Int32 → Prop) (hv : qX1_ofPlace mf mz ms mg m0 m1 a1 a2 post) : Met l yX1_ofPlace wsX1_ofPlace ({ frames := 2, cells := 0, slots := 0, locals := 44 }) (va_Pc [.ref h0, .int a1, .int a2] (kB D cI cB [(h0, .inr (3, [.ref h1, .ref h3, .int xst, .int xgo, .int xdo, .int xre, .int xkn])), (h1, .inr (2, [.ref h2, .int mz, .int ms, .int mg, .int m0, .int m1])), (h2, .inl (cI, 12, .inl mf)), (h3, .inr (2, [.ref h4, .int tz, .int ts, .int tg, .int t0, .int t1])), (h4, .inl (cI, 12, .inl tf))])) (vp_Si post) 0 0 (fun _ => False) := by
  refine Met.ofW (cc := cX1_ofPlace) (maxL := 3) (ret := (some .int)) (by decide) rfl ?_
  intro p e s m args below meth c s₁ B hml hv0
  obtain ⟨rfl, hP, hK, hN⟩ := hv0
  have hx := B.exec
  have hb := B.bytes
  have hr := B.returns
  have hts := atoms_spec (ws := wsX1_ofPlace) B.pre
  have hown : s.vm.findClass RX1 = some m.cls := findClass_of_methodNamed B.named
  have hlocks := B.notSynchronized
  have hi_X0 : ∀ w ∈ wsX00, w ∈ wsX1_ofPlace := by decide +kernel
  have hi_X1 : ∀ w ∈ wsX10, w ∈ wsX1_ofPlace := by decide +kernel
  have hF10 := hts (.fieldLink RX1 10 "Roadgame" "map" "LRoadgame$Chart;") (by decide +kernel)
  have hl := lv_entry ([.ref h0, .int a1, .int a2]) (n := 3) (Nat.le_of_ble_eq_true rfl)
  rw [lg_entry_eq]
  generalize (lg_sl ([.ref h0, .int a1, .int a2]) ++ List.replicate (3 - (lg_sl ([.ref h0, .int a1, .int a2])).length) Slot.unset).toArray = ls at hl ⊢
  have hl : lv_has ls 3 [(0, .ref h0), (1, .int a1), (2, .int a2)] := hl
  refine lv_aload_n hx hb dX1_ofPlace_0 rfl (lv_at hl 0 rfl) ?_
  refine lv_iload_n hx hb dX1_ofPlace_1 rfl (lv_at hl 1 rfl) ?_
  refine kc_Vv (As := [.int a1]) (rest := []) ⟨hx, hb, hml, hown, hts⟩ (kX1_checkPlace l D cI cB h0 h1 h2 h3 h4 mf mz ms mg m0 m1 tf tz ts tg t0 t1 xst xgo xdo xre xkn a1 _ hv) (cwV 1 hts gX1_ofPlace_X1_checkPlace rfl rfl rfl (by decide +kernel) ⟨Nat.le_of_ble_eq_true rfl, Nat.le_of_ble_eq_true rfl⟩) hP hK hN 3 rfl rfl rfl rfl hl.1 rfl (Nat.le_of_ble_eq_true rfl) dX1_ofPlace_2 ⟨Nat.zero_le _, Nat.zero_le _⟩ (fun hv => ?_)
  refine lv_iload_n hx hb dX1_ofPlace_5 rfl (lv_at hl 2 rfl) ?_
  refine lv_iconst (v := (0 : Int32)) hx hb dX1_ofPlace_6 (by decide) ?_
  refine lv_iconst (v := (4 : Int32)) hx hb dX1_ofPlace_7 (by decide) ?_
  refine kc_Sv (As := [.int a2, .int (0 : Int32), .int (4 : Int32)]) (rest := []) ⟨hx, hb, hml, hown, hts⟩ (kX1_checkBetween l D cI cB a2 (0 : Int32) (4 : Int32) _ hv) (va_cwS 3 hts gX1_ofPlace_X1_checkBetween rfl rfl rfl (by decide +kernel) ⟨Nat.le_of_ble_eq_true rfl, Nat.le_of_ble_eq_true rfl⟩) (hP.sub (ws' := []) [] rfl) hK hN rfl hl.1 rfl (Nat.le_of_ble_eq_true rfl) dX1_ofPlace_8 ⟨Nat.zero_le _, Nat.zero_le _⟩ (fun hv => ?_)
  refine lv_iload_n hx hb dX1_ofPlace_11 rfl (lv_at hl 2 rfl) ?_
  by_cases hc0 : a2 = (0 : Int32)
  · have hv := hv.1 hc0
    refine lv_tableIn (off := 32) (tgt := 44) hx hb dX1_ofPlace_12 (by rw [hc0]; decide) (by rw [hc0]; decide) (by rw [hc0]; decide) (by decide) ?_
    refine lv_aload_n hx hb dX1_ofPlace_44 rfl (lv_at hl 0 rfl) ?_
    refine va_get (D := D) (ci := 3) (v := .ref h1) (C := RX1) (T := TX1) (N := 7) hx hb hts hi_X1 hown hK hP 0 rfl rfl 0 (by decide) hF10 (fun _ h9 => h9) rfl dX1_ofPlace_45 ?_
    refine lv_iload_n hx hb dX1_ofPlace_48 rfl (lv_at hl 1 rfl) ?_
    refine kc_V (As := [.int a1]) (rest := []) ⟨hx, hb, hml, hown, hts⟩ (kX0_sideOf l D cI cB h1 h2 mf mz ms mg m0 m1 a1 _ hv) (cwV 1 hts gX1_ofPlace_X0_sideOf rfl rfl rfl (by decide +kernel) ⟨Nat.le_of_ble_eq_true rfl, Nat.le_of_ble_eq_true rfl⟩) (hP.sub (ws' := [(h1, .inr (2, [.ref h2, .int mz, .int ms, .int mg, .int m0, .int m1])), (h2, .inl (cI, 12, .inl mf))]) [1, 2] rfl) hK hN 2 rfl rfl rfl rfl hl.1 rfl (Nat.le_of_ble_eq_true rfl) dX1_ofPlace_49 ⟨Nat.zero_le _, Nat.zero_le _⟩ (fun r49 hv => ?_)
    exact W.iret (v := r49) hx hb hr (kSi_ret rfl hv) (fun _ h => by cases h) dX1_ofPlace_52
  · have hv := hv.2 hc0
    by_cases hc1 : a2 = (1 : Int32)
    · have hv := hv.1 hc1
      refine lv_tableIn (off := 41) (tgt := 53) hx hb dX1_ofPlace_12 (by rw [hc1]; decide) (by rw [hc1]; decide) (by rw [hc1]; decide) (by decide) ?_
      refine lv_aload_n hx hb dX1_ofPlace_53 rfl (lv_at hl 0 rfl) ?_
      refine va_get (D := D) (ci := 3) (v := .ref h1) (C := RX1) (T := TX1) (N := 7) hx hb hts hi_X1 hown hK hP 0 rfl rfl 0 (by decide) hF10 (fun _ h9 => h9) rfl dX1_ofPlace_54 ?_
      refine lv_iload_n hx hb dX1_ofPlace_57 rfl (lv_at hl 1 rfl) ?_
      refine kc_V (As := [.int a1]) (rest := []) ⟨hx, hb, hml, hown, hts⟩ (kX0_rankOf l D cI cB h1 h2 mf mz ms mg m0 m1 a1 _ hv) (cwV 1 hts gX1_ofPlace_X0_rankOf rfl rfl rfl (by decide +kernel) ⟨Nat.le_of_ble_eq_true rfl, Nat.le_of_ble_eq_true rfl⟩) (hP.sub (ws' := [(h1, .inr (2, [.ref h2, .int mz, .int ms, .int mg, .int m0, .int m1])), (h2, .inl (cI, 12, .inl mf))]) [1, 2] rfl) hK hN 2 rfl rfl rfl rfl hl.1 rfl (Nat.le_of_ble_eq_true rfl) dX1_ofPlace_58 ⟨Nat.zero_le _, Nat.zero_le _⟩ (fun r58 hv => ?_)
      exact W.iret (v := r58) hx hb hr (kSi_ret rfl hv) (fun _ h => by cases h) dX1_ofPlace_61
    · have hv := hv.2 hc1
      by_cases hc2 : a2 = (2 : Int32)
      · have hv := hv.1 hc2
        refine lv_tableIn (off := 50) (tgt := 62) hx hb dX1_ofPlace_12 (by rw [hc2]; decide) (by rw [hc2]; decide) (by rw [hc2]; decide) (by decide) ?_
        refine lv_aload_n hx hb dX1_ofPlace_62 rfl (lv_at hl 0 rfl) ?_
        refine va_get (D := D) (ci := 3) (v := .ref h1) (C := RX1) (T := TX1) (N := 7) hx hb hts hi_X1 hown hK hP 0 rfl rfl 0 (by decide) hF10 (fun _ h9 => h9) rfl dX1_ofPlace_63 ?_
        refine va_getN (D := D) (ci := 2) (v := .int mg) (C := RX0) (T := TX0) (N := 6) (host := "Roadgame") hx hb hts hi_X0 hown hK hP 1 rfl rfl 3 (by decide) (va_Nw.use rfl hN.2.2.1) (fun _ h9 => h9) rfl dX1_ofPlace_66 ?_
        refine lv_iload_n hx hb dX1_ofPlace_69 rfl (lv_at hl 1 rfl) ?_
        refine kc_S (As := [.int mg, .int a1]) (rest := []) ⟨hx, hb, hml, hown, hts⟩ (kX1_has l D cI cB mg a1 _ hv) (va_cwS 2 hts gX1_ofPlace_X1_has rfl rfl rfl (by decide +kernel) ⟨Nat.le_of_ble_eq_true rfl, Nat.le_of_ble_eq_true rfl⟩) (hP.sub (ws' := []) [] rfl) hK hN rfl hl.1 rfl (Nat.le_of_ble_eq_true rfl) dX1_ofPlace_70 ⟨Nat.zero_le _, Nat.zero_le _⟩ (fun r70 hv => ?_)
        refine lv_if_eq (tgt := 80) hx hb dX1_ofPlace_73 (by decide) (fun hc => ?_) (fun hc => ?_)
        · have hv := hv.1 hc
          refine lv_iconst (v := (0 : Int32)) hx hb dX1_ofPlace_80 (by decide) ?_
          exact W.iret (v := (0 : Int32)) hx hb hr (kSi_ret rfl hv) (fun _ h => by cases h) dX1_ofPlace_81
        · have hv := hv.2 hc
          refine lv_iconst (v := (1 : Int32)) hx hb dX1_ofPlace_76 (by decide) ?_
          refine lv_goto (tgt := 81) hx hb dX1_ofPlace_77 (by decide) ?_
          exact W.iret (v := (1 : Int32)) hx hb hr (kSi_ret rfl hv) (fun _ h => by cases h) dX1_ofPlace_81
      · have hv := hv.2 hc2
        by_cases hc3 : a2 = (3 : Int32)
        · have hv := hv.1 hc3
          refine lv_tableIn (off := 70) (tgt := 82) hx hb dX1_ofPlace_12 (by rw [hc3]; decide) (by rw [hc3]; decide) (by rw [hc3]; decide) (by decide) ?_
          refine lv_aload_n hx hb dX1_ofPlace_82 rfl (lv_at hl 0 rfl) ?_
          refine va_get (D := D) (ci := 3) (v := .ref h1) (C := RX1) (T := TX1) (N := 7) hx hb hts hi_X1 hown hK hP 0 rfl rfl 0 (by decide) hF10 (fun _ h9 => h9) rfl dX1_ofPlace_83 ?_
          refine lv_iload_n hx hb dX1_ofPlace_86 rfl (lv_at hl 1 rfl) ?_
          refine kc_V (As := [.int a1]) (rest := []) ⟨hx, hb, hml, hown, hts⟩ (kX0_waysFrom l D cI cB h1 h2 mf mz ms mg m0 m1 a1 _ hv) (cwV 1 hts gX1_ofPlace_X0_waysFrom rfl rfl rfl (by decide +kernel) ⟨Nat.le_of_ble_eq_true rfl, Nat.le_of_ble_eq_true rfl⟩) (hP.sub (ws' := [(h1, .inr (2, [.ref h2, .int mz, .int ms, .int mg, .int m0, .int m1])), (h2, .inl (cI, 12, .inl mf))]) [1, 2] rfl) hK hN 2 rfl rfl rfl rfl hl.1 rfl (Nat.le_of_ble_eq_true rfl) dX1_ofPlace_87 ⟨Nat.zero_le _, Nat.zero_le _⟩ (fun r87 hv => ?_)
          exact W.iret (v := r87) hx hb hr (kSi_ret rfl hv) (fun _ h => by cases h) dX1_ofPlace_90
        · have hv := hv.2 hc3
          refine lv_tableOut (tgt := 91) hx hb dX1_ofPlace_12 (by have g0 := lv_neT hc0 (a := 0) (by decide); have g1 := lv_neT hc1 (a := 1) (by decide); have g2 := lv_neT hc2 (a := 2) (by decide); have g3 := lv_neT hc3 (a := 3) (by decide); omega) (by decide) ?_
          refine lv_aload_n hx hb dX1_ofPlace_91 rfl (lv_at hl 0 rfl) ?_
          refine va_get (D := D) (ci := 3) (v := .ref h1) (C := RX1) (T := TX1) (N := 7) hx hb hts hi_X1 hown hK hP 0 rfl rfl 0 (by decide) hF10 (fun _ h9 => h9) rfl dX1_ofPlace_92 ?_
          refine lv_iload_n hx hb dX1_ofPlace_95 rfl (lv_at hl 1 rfl) ?_
          refine kc_V (As := [.int a1]) (rest := []) ⟨hx, hb, hml, hown, hts⟩ (kX0_waysInto l D cI cB h1 h2 mf mz ms mg m0 m1 a1 _ hv) (cwV 1 hts gX1_ofPlace_X0_waysInto rfl rfl rfl (by decide +kernel) ⟨Nat.le_of_ble_eq_true rfl, Nat.le_of_ble_eq_true rfl⟩) (hP.sub (ws' := [(h1, .inr (2, [.ref h2, .int mz, .int ms, .int mg, .int m0, .int m1])), (h2, .inl (cI, 12, .inl mf))]) [1, 2] rfl) hK hN 2 rfl rfl rfl rfl hl.1 rfl (Nat.le_of_ble_eq_true rfl) dX1_ofPlace_96 ⟨Nat.zero_le _, Nat.zero_le _⟩ (fun r96 hv => ?_)
          exact W.iret (v := r96) hx hb hr (kSi_ret rfl hv) (fun _ h => by cases h) dX1_ofPlace_99
set_option maxHeartbeats 4000000 in
set_option maxRecDepth 100000 in
theorem kX1_rounds (l : Launch) (D : va_G) (cI cB : ClassId) (h0 : Nat) (h1 : Nat) (h2 : Nat) (h3 : Nat) (h4 : Nat) (mf : Nat → Int32) (mz : Int32) (ms : Int32) (mg : Int32) (m0 : Int32) (m1 : Int32) (tf : Nat → Int32) (tz : Int32) (ts : Int32) (tg : Int32) (t0 : Int32) (t1 : Int32) (xst : Int32) (xgo : Int32) (xdo : Int32) (xre : Int32) (xkn : Int32) (a1 : Int32) (a2 : Int32) (post : Int32 → Prop) (hv : qX1_rounds mf mz ms mg a1 a2 post) : Met l yX1_rounds wsX1_rounds ({ frames := 2, cells := 0, slots := 0, locals := 51 }) (va_Pc [.ref h0, .int a1, .int a2] (kB D cI cB [(h0, .inr (3, [.ref h1, .ref h3, .int xst, .int xgo, .int xdo, .int xre, .int xkn])), (h1, .inr (2, [.ref h2, .int mz, .int ms, .int mg, .int m0, .int m1])), (h2, .inl (cI, 12, .inl mf)), (h3, .inr (2, [.ref h4, .int tz, .int ts, .int tg, .int t0, .int t1])), (h4, .inl (cI, 12, .inl tf))])) (vp_Si post) 0 0 (fun _ => False) := by
  refine Met.ofW (cc := cX1_rounds) (maxL := 3) (ret := (some .int)) (by decide) rfl ?_
  intro p e s m args below meth c s₁ B hml hv0
  obtain ⟨rfl, hP, hK, hN⟩ := hv0
  have hx := B.exec
  have hb := B.bytes
  have hr := B.returns
  have hts := atoms_spec (ws := wsX1_rounds) B.pre
  have hown : s.vm.findClass RX1 = some m.cls := findClass_of_methodNamed B.named
  have hlocks := B.notSynchronized
  have hi_X0 : ∀ w ∈ wsX00, w ∈ wsX1_rounds := by decide +kernel
  have hi_X1 : ∀ w ∈ wsX10, w ∈ wsX1_rounds := by decide +kernel
  have hF10 := hts (.fieldLink RX1 10 "Roadgame" "map" "LRoadgame$Chart;") (by decide +kernel)
  have hl := lv_entry ([.ref h0, .int a1, .int a2]) (n := 3) (Nat.le_of_ble_eq_true rfl)
  rw [lg_entry_eq]
  generalize (lg_sl ([.ref h0, .int a1, .int a2]) ++ List.replicate (3 - (lg_sl ([.ref h0, .int a1, .int a2])).length) Slot.unset).toArray = ls at hl ⊢
  have hl : lv_has ls 3 [(0, .ref h0), (1, .int a1), (2, .int a2)] := hl
  refine lv_aload_n hx hb dX1_rounds_0 rfl (lv_at hl 0 rfl) ?_
  refine lv_iload_n hx hb dX1_rounds_1 rfl (lv_at hl 2 rfl) ?_
  refine kc_Vv (As := [.int a2]) (rest := []) ⟨hx, hb, hml, hown, hts⟩ (kX1_checkPlace l D cI cB h0 h1 h2 h3 h4 mf mz ms mg m0 m1 tf tz ts tg t0 t1 xst xgo xdo xre xkn a2 _ hv) (cwV 1 hts gX1_rounds_X1_checkPlace rfl rfl rfl (by decide +kernel) ⟨Nat.le_of_ble_eq_true rfl, Nat.le_of_ble_eq_true rfl⟩) hP hK hN 3 rfl rfl rfl rfl hl.1 rfl (Nat.le_of_ble_eq_true rfl) dX1_rounds_2 ⟨Nat.zero_le _, Nat.zero_le _⟩ (fun hv => ?_)
  refine lv_iload_n hx hb dX1_rounds_5 rfl (lv_at hl 1 rfl) ?_
  refine kc_Sv (As := [.int a1]) (rest := []) ⟨hx, hb, hml, hown, hts⟩ (kX1_checkSide l D cI cB a1 _ hv) (va_cwS 1 hts gX1_rounds_X1_checkSide rfl rfl rfl (by decide +kernel) ⟨Nat.le_of_ble_eq_true rfl, Nat.le_of_ble_eq_true rfl⟩) (hP.sub (ws' := []) [] rfl) hK hN rfl hl.1 rfl (Nat.le_of_ble_eq_true rfl) dX1_rounds_6 ⟨Nat.zero_le _, Nat.zero_le _⟩ (fun hv => ?_)
  refine lv_aload_n hx hb dX1_rounds_9 rfl (lv_at hl 0 rfl) ?_
  refine va_get (D := D) (ci := 3) (v := .ref h1) (C := RX1) (T := TX1) (N := 7) hx hb hts hi_X1 hown hK hP 0 rfl rfl 0 (by decide) hF10 (fun _ h9 => h9) rfl dX1_rounds_10 ?_
  refine lv_aload_n hx hb dX1_rounds_13 rfl (lv_at hl 0 rfl) ?_
  refine va_get (D := D) (ci := 3) (v := .ref h1) (C := RX1) (T := TX1) (N := 7) hx hb hts hi_X1 hown hK hP 0 rfl rfl 0 (by decide) hF10 (fun _ h9 => h9) rfl dX1_rounds_14 ?_
  refine va_getN (D := D) (ci := 2) (v := .int mg) (C := RX0) (T := TX0) (N := 6) (host := "Roadgame") hx hb hts hi_X0 hown hK hP 1 rfl rfl 3 (by decide) (va_Nw.use rfl hN.2.2.1) (fun _ h9 => h9) rfl dX1_rounds_17 ?_
  refine lv_iload_n hx hb dX1_rounds_20 rfl (lv_at hl 1 rfl) ?_
  refine lv_iload_n hx hb dX1_rounds_21 rfl (lv_at hl 2 rfl) ?_
  refine kc_V (As := [.int mg, .int a1, .int a2]) (rest := []) ⟨hx, hb, hml, hown, hts⟩ (kX0_roundsTo l D cI cB h1 h2 mf mz ms mg m0 m1 mg a1 a2 _ hv) (cwV 3 hts gX1_rounds_X0_roundsTo rfl rfl rfl (by decide +kernel) ⟨Nat.le_of_ble_eq_true rfl, Nat.le_of_ble_eq_true rfl⟩) (hP.sub (ws' := [(h1, .inr (2, [.ref h2, .int mz, .int ms, .int mg, .int m0, .int m1])), (h2, .inl (cI, 12, .inl mf))]) [1, 2] rfl) hK hN 2 rfl rfl rfl rfl hl.1 rfl (Nat.le_of_ble_eq_true rfl) dX1_rounds_22 ⟨Nat.zero_le _, Nat.zero_le _⟩ (fun r22 hv => ?_)
  exact W.iret (v := r22) hx hb hr (kSi_ret rfl hv) (fun _ h => by cases h) dX1_rounds_25
set_option maxHeartbeats 4000000 in
set_option maxRecDepth 100000 in
theorem kX1_againRounds (l : Launch) (D : va_G) (cI cB : ClassId) (h0 : Nat) (h1 : Nat) (h2 : Nat) (h3 : Nat) (h4 : Nat) (mf : Nat → Int32) (mz : Int32) (ms : Int32) (mg : Int32) (m0 : Int32) (m1 : Int32) (tf : Nat → Int32) (tz : Int32) (ts : Int32) (tg : Int32) (t0 : Int32) (t1 : Int32) (xst : Int32) (xgo : Int32) (xdo : Int32) (xre : Int32) (xkn : Int32) (a1 : Int32) (a2 : Int32) (post : Int32 → Prop) (hv : qX1_againRounds mf mz ms mg m0 m1 a1 a2 post) : Met l yX1_againRounds wsX1_againRounds ({ frames := 4, cells := 0, slots := 0, locals := 99 }) (va_Pc [.ref h0, .int a1, .int a2] (kB D cI cB [(h0, .inr (3, [.ref h1, .ref h3, .int xst, .int xgo, .int xdo, .int xre, .int xkn])), (h1, .inr (2, [.ref h2, .int mz, .int ms, .int mg, .int m0, .int m1])), (h2, .inl (cI, 12, .inl mf)), (h3, .inr (2, [.ref h4, .int tz, .int ts, .int tg, .int t0, .int t1])), (h4, .inl (cI, 12, .inl tf))])) (vp_Si post) 0 0 (fun _ => False) := by
  refine Met.ofW (cc := cX1_againRounds) (maxL := 3) (ret := (some .int)) (by decide) rfl ?_
  intro p e s m args below meth c s₁ B hml hv0
  obtain ⟨rfl, hP, hK, hN⟩ := hv0
  have hx := B.exec
  have hb := B.bytes
  have hr := B.returns
  have hts := atoms_spec (ws := wsX1_againRounds) B.pre
  have hown : s.vm.findClass RX1 = some m.cls := findClass_of_methodNamed B.named
  have hlocks := B.notSynchronized
  have hi_X0 : ∀ w ∈ wsX00, w ∈ wsX1_againRounds := by decide +kernel
  have hi_X1 : ∀ w ∈ wsX10, w ∈ wsX1_againRounds := by decide +kernel
  have hF10 := hts (.fieldLink RX1 10 "Roadgame" "map" "LRoadgame$Chart;") (by decide +kernel)
  have hl := lv_entry ([.ref h0, .int a1, .int a2]) (n := 3) (Nat.le_of_ble_eq_true rfl)
  rw [lg_entry_eq]
  generalize (lg_sl ([.ref h0, .int a1, .int a2]) ++ List.replicate (3 - (lg_sl ([.ref h0, .int a1, .int a2])).length) Slot.unset).toArray = ls at hl ⊢
  have hl : lv_has ls 3 [(0, .ref h0), (1, .int a1), (2, .int a2)] := hl
  refine lv_aload_n hx hb dX1_againRounds_0 rfl (lv_at hl 0 rfl) ?_
  refine lv_iload_n hx hb dX1_againRounds_1 rfl (lv_at hl 2 rfl) ?_
  refine kc_Vv (As := [.int a2]) (rest := []) ⟨hx, hb, hml, hown, hts⟩ (kX1_checkPlace l D cI cB h0 h1 h2 h3 h4 mf mz ms mg m0 m1 tf tz ts tg t0 t1 xst xgo xdo xre xkn a2 _ hv) (cwV 1 hts gX1_againRounds_X1_checkPlace rfl rfl rfl (by decide +kernel) ⟨Nat.le_of_ble_eq_true rfl, Nat.le_of_ble_eq_true rfl⟩) hP hK hN 3 rfl rfl rfl rfl hl.1 rfl (Nat.le_of_ble_eq_true rfl) dX1_againRounds_2 ⟨Nat.zero_le _, Nat.zero_le _⟩ (fun hv => ?_)
  refine lv_iload_n hx hb dX1_againRounds_5 rfl (lv_at hl 1 rfl) ?_
  refine kc_Sv (As := [.int a1]) (rest := []) ⟨hx, hb, hml, hown, hts⟩ (kX1_checkSide l D cI cB a1 _ hv) (va_cwS 1 hts gX1_againRounds_X1_checkSide rfl rfl rfl (by decide +kernel) ⟨Nat.le_of_ble_eq_true rfl, Nat.le_of_ble_eq_true rfl⟩) (hP.sub (ws' := []) [] rfl) hK hN rfl hl.1 rfl (Nat.le_of_ble_eq_true rfl) dX1_againRounds_6 ⟨Nat.zero_le _, Nat.zero_le _⟩ (fun hv => ?_)
  refine lv_aload_n hx hb dX1_againRounds_9 rfl (lv_at hl 0 rfl) ?_
  refine va_get (D := D) (ci := 3) (v := .ref h1) (C := RX1) (T := TX1) (N := 7) hx hb hts hi_X1 hown hK hP 0 rfl rfl 0 (by decide) hF10 (fun _ h9 => h9) rfl dX1_againRounds_10 ?_
  refine lv_aload_n hx hb dX1_againRounds_13 rfl (lv_at hl 0 rfl) ?_
  refine va_get (D := D) (ci := 3) (v := .ref h1) (C := RX1) (T := TX1) (N := 7) hx hb hts hi_X1 hown hK hP 0 rfl rfl 0 (by decide) hF10 (fun _ h9 => h9) rfl dX1_againRounds_14 ?_
  refine va_getN (D := D) (ci := 2) (v := .int mg) (C := RX0) (T := TX0) (N := 6) (host := "Roadgame") hx hb hts hi_X0 hown hK hP 1 rfl rfl 3 (by decide) (va_Nw.use rfl hN.2.2.1) (fun _ h9 => h9) rfl dX1_againRounds_17 ?_
  refine lv_aload_n hx hb dX1_againRounds_20 rfl (lv_at hl 0 rfl) ?_
  refine va_get (D := D) (ci := 3) (v := .ref h1) (C := RX1) (T := TX1) (N := 7) hx hb hts hi_X1 hown hK hP 0 rfl rfl 0 (by decide) hF10 (fun _ h9 => h9) rfl dX1_againRounds_21 ?_
  refine lv_iconst (v := (2 : Int32)) hx hb dX1_againRounds_24 (by decide) ?_
  refine lv_iload_n hx hb dX1_againRounds_25 rfl (lv_at hl 1 rfl) ?_
  refine kc_V (As := [.int (2 : Int32), .int a1]) (rest := [.int mg, .ref h1]) ⟨hx, hb, hml, hown, hts⟩ (kX0_won l D cI cB h1 h2 mf mz ms mg m0 m1 (2 : Int32) a1 _ hv) (cwV 2 hts gX1_againRounds_X0_won rfl rfl rfl (by decide +kernel) ⟨Nat.le_of_ble_eq_true rfl, Nat.le_of_ble_eq_true rfl⟩) (hP.sub (ws' := [(h1, .inr (2, [.ref h2, .int mz, .int ms, .int mg, .int m0, .int m1])), (h2, .inl (cI, 12, .inl mf))]) [1, 2] rfl) hK hN 2 rfl rfl rfl rfl hl.1 rfl (Nat.le_of_ble_eq_true rfl) dX1_againRounds_26 ⟨Nat.zero_le _, Nat.zero_le _⟩ (fun r26 hv => ?_)
  refine lv_iand hx hb dX1_againRounds_29 ?_
  refine lv_iload_n hx hb dX1_againRounds_30 rfl (lv_at hl 1 rfl) ?_
  refine lv_iload_n hx hb dX1_againRounds_31 rfl (lv_at hl 2 rfl) ?_
  refine kc_V (As := [.int (mg &&& r26), .int a1, .int a2]) (rest := []) ⟨hx, hb, hml, hown, hts⟩ (kX0_roundsTo l D cI cB h1 h2 mf mz ms mg m0 m1 (mg &&& r26) a1 a2 _ hv) (cwV 3 hts gX1_againRounds_X0_roundsTo rfl rfl rfl (by decide +kernel) ⟨Nat.le_of_ble_eq_true rfl, Nat.le_of_ble_eq_true rfl⟩) (hP.sub (ws' := [(h1, .inr (2, [.ref h2, .int mz, .int ms, .int mg, .int m0, .int m1])), (h2, .inl (cI, 12, .inl mf))]) [1, 2] rfl) hK hN 2 rfl rfl rfl rfl hl.1 rfl (Nat.le_of_ble_eq_true rfl) dX1_againRounds_32 ⟨Nat.zero_le _, Nat.zero_le _⟩ (fun r32 hv => ?_)
  exact W.iret (v := r32) hx hb hr (kSi_ret rfl hv) (fun _ h => by cases h) dX1_againRounds_35
set_option maxHeartbeats 4000000 in
set_option maxRecDepth 100000 in
theorem kX1_coming (l : Launch) (D : va_G) (cI cB : ClassId) (h0 : Nat) (h1 : Nat) (h2 : Nat) (h3 : Nat) (h4 : Nat) (mf : Nat → Int32) (mz : Int32) (ms : Int32) (mg : Int32) (m0 : Int32) (m1 : Int32) (tf : Nat → Int32) (tz : Int32) (ts : Int32) (tg : Int32) (t0 : Int32) (t1 : Int32) (xst : Int32) (xgo : Int32) (xdo : Int32) (xre : Int32) (xkn : Int32) (a1 : Int32) (post : Int32 → Prop) (hv : qX1_coming mf mz ms mg m0 m1 a1 post) : Met l yX1_coming wsX1_coming ({ frames := 4, cells := 0, slots := 0, locals := 99 }) (va_Pc [.ref h0, .int a1] (kB D cI cB [(h0, .inr (3, [.ref h1, .ref h3, .int xst, .int xgo, .int xdo, .int xre, .int xkn])), (h1, .inr (2, [.ref h2, .int mz, .int ms, .int mg, .int m0, .int m1])), (h2, .inl (cI, 12, .inl mf)), (h3, .inr (2, [.ref h4, .int tz, .int ts, .int tg, .int t0, .int t1])), (h4, .inl (cI, 12, .inl tf))])) (vp_Si post) 0 0 (fun _ => False) := by
  refine Met.ofW (cc := cX1_coming) (maxL := 2) (ret := (some .int)) (by decide) rfl ?_
  intro p e s m args below meth c s₁ B hml hv0
  obtain ⟨rfl, hP, hK, hN⟩ := hv0
  have hx := B.exec
  have hb := B.bytes
  have hr := B.returns
  have hts := atoms_spec (ws := wsX1_coming) B.pre
  have hown : s.vm.findClass RX1 = some m.cls := findClass_of_methodNamed B.named
  have hlocks := B.notSynchronized
  have hi_X1 : ∀ w ∈ wsX10, w ∈ wsX1_coming := by decide +kernel
  have hF10 := hts (.fieldLink RX1 10 "Roadgame" "map" "LRoadgame$Chart;") (by decide +kernel)
  have hl := lv_entry ([.ref h0, .int a1]) (n := 2) (Nat.le_of_ble_eq_true rfl)
  rw [lg_entry_eq]
  generalize (lg_sl ([.ref h0, .int a1]) ++ List.replicate (2 - (lg_sl ([.ref h0, .int a1])).length) Slot.unset).toArray = ls at hl ⊢
  have hl : lv_has ls 2 [(0, .ref h0), (1, .int a1)] := hl
  refine lv_iload_n hx hb dX1_coming_0 rfl (lv_at hl 1 rfl) ?_
  refine kc_Sv (As := [.int a1]) (rest := []) ⟨hx, hb, hml, hown, hts⟩ (kX1_checkSide l D cI cB a1 _ hv) (va_cwS 1 hts gX1_coming_X1_checkSide rfl rfl rfl (by decide +kernel) ⟨Nat.le_of_ble_eq_true rfl, Nat.le_of_ble_eq_true rfl⟩) (hP.sub (ws' := []) [] rfl) hK hN rfl hl.1 rfl (Nat.le_of_ble_eq_true rfl) dX1_coming_1 ⟨Nat.zero_le _, Nat.zero_le _⟩ (fun hv => ?_)
  refine lv_aload_n hx hb dX1_coming_4 rfl (lv_at hl 0 rfl) ?_
  refine va_get (D := D) (ci := 3) (v := .ref h1) (C := RX1) (T := TX1) (N := 7) hx hb hts hi_X1 hown hK hP 0 rfl rfl 0 (by decide) hF10 (fun _ h9 => h9) rfl dX1_coming_5 ?_
  refine lv_iconst (v := (0 : Int32)) hx hb dX1_coming_8 (by decide) ?_
  refine lv_iload_n hx hb dX1_coming_9 rfl (lv_at hl 1 rfl) ?_
  refine kc_V (As := [.int (0 : Int32), .int a1]) (rest := []) ⟨hx, hb, hml, hown, hts⟩ (kX0_won l D cI cB h1 h2 mf mz ms mg m0 m1 (0 : Int32) a1 _ hv) (cwV 2 hts gX1_coming_X0_won rfl rfl rfl (by decide +kernel) ⟨Nat.le_of_ble_eq_true rfl, Nat.le_of_ble_eq_true rfl⟩) (hP.sub (ws' := [(h1, .inr (2, [.ref h2, .int mz, .int ms, .int mg, .int m0, .int m1])), (h2, .inl (cI, 12, .inl mf))]) [1, 2] rfl) hK hN 2 rfl rfl rfl rfl hl.1 rfl (Nat.le_of_ble_eq_true rfl) dX1_coming_10 ⟨Nat.zero_le _, Nat.zero_le _⟩ (fun r10 hv => ?_)
  exact W.iret (v := r10) hx hb hr (kSi_ret rfl hv) (fun _ h => by cases h) dX1_coming_13
set_option maxHeartbeats 4000000 in
set_option maxRecDepth 100000 in
theorem kX1_keeping (l : Launch) (D : va_G) (cI cB : ClassId) (h0 : Nat) (h1 : Nat) (h2 : Nat) (h3 : Nat) (h4 : Nat) (mf : Nat → Int32) (mz : Int32) (ms : Int32) (mg : Int32) (m0 : Int32) (m1 : Int32) (tf : Nat → Int32) (tz : Int32) (ts : Int32) (tg : Int32) (t0 : Int32) (t1 : Int32) (xst : Int32) (xgo : Int32) (xdo : Int32) (xre : Int32) (xkn : Int32) (a1 : Int32) (post : Int32 → Prop) (hv : qX1_keeping mf mz ms mg m0 m1 a1 post) : Met l yX1_keeping wsX1_keeping ({ frames := 4, cells := 0, slots := 0, locals := 99 }) (va_Pc [.ref h0, .int a1] (kB D cI cB [(h0, .inr (3, [.ref h1, .ref h3, .int xst, .int xgo, .int xdo, .int xre, .int xkn])), (h1, .inr (2, [.ref h2, .int mz, .int ms, .int mg, .int m0, .int m1])), (h2, .inl (cI, 12, .inl mf)), (h3, .inr (2, [.ref h4, .int tz, .int ts, .int tg, .int t0, .int t1])), (h4, .inl (cI, 12, .inl tf))])) (vp_Si post) 0 0 (fun _ => False) := by
  refine Met.ofW (cc := cX1_keeping) (maxL := 2) (ret := (some .int)) (by decide) rfl ?_
  intro p e s m args below meth c s₁ B hml hv0
  obtain ⟨rfl, hP, hK, hN⟩ := hv0
  have hx := B.exec
  have hb := B.bytes
  have hr := B.returns
  have hts := atoms_spec (ws := wsX1_keeping) B.pre
  have hown : s.vm.findClass RX1 = some m.cls := findClass_of_methodNamed B.named
  have hlocks := B.notSynchronized
  have hi_X1 : ∀ w ∈ wsX10, w ∈ wsX1_keeping := by decide +kernel
  have hF10 := hts (.fieldLink RX1 10 "Roadgame" "map" "LRoadgame$Chart;") (by decide +kernel)
  have hl := lv_entry ([.ref h0, .int a1]) (n := 2) (Nat.le_of_ble_eq_true rfl)
  rw [lg_entry_eq]
  generalize (lg_sl ([.ref h0, .int a1]) ++ List.replicate (2 - (lg_sl ([.ref h0, .int a1])).length) Slot.unset).toArray = ls at hl ⊢
  have hl : lv_has ls 2 [(0, .ref h0), (1, .int a1)] := hl
  refine lv_iload_n hx hb dX1_keeping_0 rfl (lv_at hl 1 rfl) ?_
  refine kc_Sv (As := [.int a1]) (rest := []) ⟨hx, hb, hml, hown, hts⟩ (kX1_checkSide l D cI cB a1 _ hv) (va_cwS 1 hts gX1_keeping_X1_checkSide rfl rfl rfl (by decide +kernel) ⟨Nat.le_of_ble_eq_true rfl, Nat.le_of_ble_eq_true rfl⟩) (hP.sub (ws' := []) [] rfl) hK hN rfl hl.1 rfl (Nat.le_of_ble_eq_true rfl) dX1_keeping_1 ⟨Nat.zero_le _, Nat.zero_le _⟩ (fun hv => ?_)
  refine lv_aload_n hx hb dX1_keeping_4 rfl (lv_at hl 0 rfl) ?_
  refine va_get (D := D) (ci := 3) (v := .ref h1) (C := RX1) (T := TX1) (N := 7) hx hb hts hi_X1 hown hK hP 0 rfl rfl 0 (by decide) hF10 (fun _ h9 => h9) rfl dX1_keeping_5 ?_
  refine lv_iconst (v := (1 : Int32)) hx hb dX1_keeping_8 (by decide) ?_
  refine lv_iload_n hx hb dX1_keeping_9 rfl (lv_at hl 1 rfl) ?_
  refine kc_V (As := [.int (1 : Int32), .int a1]) (rest := []) ⟨hx, hb, hml, hown, hts⟩ (kX0_won l D cI cB h1 h2 mf mz ms mg m0 m1 (1 : Int32) a1 _ hv) (cwV 2 hts gX1_keeping_X0_won rfl rfl rfl (by decide +kernel) ⟨Nat.le_of_ble_eq_true rfl, Nat.le_of_ble_eq_true rfl⟩) (hP.sub (ws' := [(h1, .inr (2, [.ref h2, .int mz, .int ms, .int mg, .int m0, .int m1])), (h2, .inl (cI, 12, .inl mf))]) [1, 2] rfl) hK hN 2 rfl rfl rfl rfl hl.1 rfl (Nat.le_of_ble_eq_true rfl) dX1_keeping_10 ⟨Nat.zero_le _, Nat.zero_le _⟩ (fun r10 hv => ?_)
  exact W.iret (v := r10) hx hb hr (kSi_ret rfl hv) (fun _ h => by cases h) dX1_keeping_13
set_option maxHeartbeats 4000000 in
set_option maxRecDepth 100000 in
theorem kX1_again (l : Launch) (D : va_G) (cI cB : ClassId) (h0 : Nat) (h1 : Nat) (h2 : Nat) (h3 : Nat) (h4 : Nat) (mf : Nat → Int32) (mz : Int32) (ms : Int32) (mg : Int32) (m0 : Int32) (m1 : Int32) (tf : Nat → Int32) (tz : Int32) (ts : Int32) (tg : Int32) (t0 : Int32) (t1 : Int32) (xst : Int32) (xgo : Int32) (xdo : Int32) (xre : Int32) (xkn : Int32) (a1 : Int32) (post : Int32 → Prop) (hv : qX1_again mf mz ms mg m0 m1 a1 post) : Met l yX1_again wsX1_again ({ frames := 4, cells := 0, slots := 0, locals := 99 }) (va_Pc [.ref h0, .int a1] (kB D cI cB [(h0, .inr (3, [.ref h1, .ref h3, .int xst, .int xgo, .int xdo, .int xre, .int xkn])), (h1, .inr (2, [.ref h2, .int mz, .int ms, .int mg, .int m0, .int m1])), (h2, .inl (cI, 12, .inl mf)), (h3, .inr (2, [.ref h4, .int tz, .int ts, .int tg, .int t0, .int t1])), (h4, .inl (cI, 12, .inl tf))])) (vp_Si post) 0 0 (fun _ => False) := by
  refine Met.ofW (cc := cX1_again) (maxL := 2) (ret := (some .int)) (by decide) rfl ?_
  intro p e s m args below meth c s₁ B hml hv0
  obtain ⟨rfl, hP, hK, hN⟩ := hv0
  have hx := B.exec
  have hb := B.bytes
  have hr := B.returns
  have hts := atoms_spec (ws := wsX1_again) B.pre
  have hown : s.vm.findClass RX1 = some m.cls := findClass_of_methodNamed B.named
  have hlocks := B.notSynchronized
  have hi_X1 : ∀ w ∈ wsX10, w ∈ wsX1_again := by decide +kernel
  have hF10 := hts (.fieldLink RX1 10 "Roadgame" "map" "LRoadgame$Chart;") (by decide +kernel)
  have hl := lv_entry ([.ref h0, .int a1]) (n := 2) (Nat.le_of_ble_eq_true rfl)
  rw [lg_entry_eq]
  generalize (lg_sl ([.ref h0, .int a1]) ++ List.replicate (2 - (lg_sl ([.ref h0, .int a1])).length) Slot.unset).toArray = ls at hl ⊢
  have hl : lv_has ls 2 [(0, .ref h0), (1, .int a1)] := hl
  refine lv_iload_n hx hb dX1_again_0 rfl (lv_at hl 1 rfl) ?_
  refine kc_Sv (As := [.int a1]) (rest := []) ⟨hx, hb, hml, hown, hts⟩ (kX1_checkSide l D cI cB a1 _ hv) (va_cwS 1 hts gX1_again_X1_checkSide rfl rfl rfl (by decide +kernel) ⟨Nat.le_of_ble_eq_true rfl, Nat.le_of_ble_eq_true rfl⟩) (hP.sub (ws' := []) [] rfl) hK hN rfl hl.1 rfl (Nat.le_of_ble_eq_true rfl) dX1_again_1 ⟨Nat.zero_le _, Nat.zero_le _⟩ (fun hv => ?_)
  refine lv_aload_n hx hb dX1_again_4 rfl (lv_at hl 0 rfl) ?_
  refine va_get (D := D) (ci := 3) (v := .ref h1) (C := RX1) (T := TX1) (N := 7) hx hb hts hi_X1 hown hK hP 0 rfl rfl 0 (by decide) hF10 (fun _ h9 => h9) rfl dX1_again_5 ?_
  refine lv_iconst (v := (2 : Int32)) hx hb dX1_again_8 (by decide) ?_
  refine lv_iload_n hx hb dX1_again_9 rfl (lv_at hl 1 rfl) ?_
  refine kc_V (As := [.int (2 : Int32), .int a1]) (rest := []) ⟨hx, hb, hml, hown, hts⟩ (kX0_won l D cI cB h1 h2 mf mz ms mg m0 m1 (2 : Int32) a1 _ hv) (cwV 2 hts gX1_again_X0_won rfl rfl rfl (by decide +kernel) ⟨Nat.le_of_ble_eq_true rfl, Nat.le_of_ble_eq_true rfl⟩) (hP.sub (ws' := [(h1, .inr (2, [.ref h2, .int mz, .int ms, .int mg, .int m0, .int m1])), (h2, .inl (cI, 12, .inl mf))]) [1, 2] rfl) hK hN 2 rfl rfl rfl rfl hl.1 rfl (Nat.le_of_ble_eq_true rfl) dX1_again_10 ⟨Nat.zero_le _, Nat.zero_le _⟩ (fun r10 hv => ?_)
  exact W.iret (v := r10) hx hb hr (kSi_ret rfl hv) (fun _ h => by cases h) dX1_again_13
set_option maxHeartbeats 4000000 in
set_option maxRecDepth 100000 in
theorem kX1_ranked (l : Launch) (D : va_G) (cI cB : ClassId) (h0 : Nat) (h1 : Nat) (h2 : Nat) (h3 : Nat) (h4 : Nat) (mf : Nat → Int32) (mz : Int32) (ms : Int32) (mg : Int32) (m0 : Int32) (m1 : Int32) (tf : Nat → Int32) (tz : Int32) (ts : Int32) (tg : Int32) (t0 : Int32) (t1 : Int32) (xst : Int32) (xgo : Int32) (xdo : Int32) (xre : Int32) (xkn : Int32) (a1 : Int32) (post : Int32 → Prop) (hv : qX1_ranked mf mz ms mg m0 m1 a1 post) : Met l yX1_ranked wsX1_ranked ({ frames := 4, cells := 0, slots := 0, locals := 99 }) (va_Pc [.ref h0, .int a1] (kB D cI cB [(h0, .inr (3, [.ref h1, .ref h3, .int xst, .int xgo, .int xdo, .int xre, .int xkn])), (h1, .inr (2, [.ref h2, .int mz, .int ms, .int mg, .int m0, .int m1])), (h2, .inl (cI, 12, .inl mf)), (h3, .inr (2, [.ref h4, .int tz, .int ts, .int tg, .int t0, .int t1])), (h4, .inl (cI, 12, .inl tf))])) (vp_Si post) 0 0 (fun _ => False) := by
  refine Met.ofW (cc := cX1_ranked) (maxL := 2) (ret := (some .int)) (by decide) rfl ?_
  intro p e s m args below meth c s₁ B hml hv0
  obtain ⟨rfl, hP, hK, hN⟩ := hv0
  have hx := B.exec
  have hb := B.bytes
  have hr := B.returns
  have hts := atoms_spec (ws := wsX1_ranked) B.pre
  have hown : s.vm.findClass RX1 = some m.cls := findClass_of_methodNamed B.named
  have hlocks := B.notSynchronized
  have hi_X1 : ∀ w ∈ wsX10, w ∈ wsX1_ranked := by decide +kernel
  have hF10 := hts (.fieldLink RX1 10 "Roadgame" "map" "LRoadgame$Chart;") (by decide +kernel)
  have hl := lv_entry ([.ref h0, .int a1]) (n := 2) (Nat.le_of_ble_eq_true rfl)
  rw [lg_entry_eq]
  generalize (lg_sl ([.ref h0, .int a1]) ++ List.replicate (2 - (lg_sl ([.ref h0, .int a1])).length) Slot.unset).toArray = ls at hl ⊢
  have hl : lv_has ls 2 [(0, .ref h0), (1, .int a1)] := hl
  refine lv_iload_n hx hb dX1_ranked_0 rfl (lv_at hl 1 rfl) ?_
  refine kc_Sv (As := [.int a1]) (rest := []) ⟨hx, hb, hml, hown, hts⟩ (kX1_checkSide l D cI cB a1 _ hv) (va_cwS 1 hts gX1_ranked_X1_checkSide rfl rfl rfl (by decide +kernel) ⟨Nat.le_of_ble_eq_true rfl, Nat.le_of_ble_eq_true rfl⟩) (hP.sub (ws' := []) [] rfl) hK hN rfl hl.1 rfl (Nat.le_of_ble_eq_true rfl) dX1_ranked_1 ⟨Nat.zero_le _, Nat.zero_le _⟩ (fun hv => ?_)
  refine lv_aload_n hx hb dX1_ranked_4 rfl (lv_at hl 0 rfl) ?_
  refine va_get (D := D) (ci := 3) (v := .ref h1) (C := RX1) (T := TX1) (N := 7) hx hb hts hi_X1 hown hK hP 0 rfl rfl 0 (by decide) hF10 (fun _ h9 => h9) rfl dX1_ranked_5 ?_
  refine lv_iconst (v := (3 : Int32)) hx hb dX1_ranked_8 (by decide) ?_
  refine lv_iload_n hx hb dX1_ranked_9 rfl (lv_at hl 1 rfl) ?_
  refine kc_V (As := [.int (3 : Int32), .int a1]) (rest := []) ⟨hx, hb, hml, hown, hts⟩ (kX0_won l D cI cB h1 h2 mf mz ms mg m0 m1 (3 : Int32) a1 _ hv) (cwV 2 hts gX1_ranked_X0_won rfl rfl rfl (by decide +kernel) ⟨Nat.le_of_ble_eq_true rfl, Nat.le_of_ble_eq_true rfl⟩) (hP.sub (ws' := [(h1, .inr (2, [.ref h2, .int mz, .int ms, .int mg, .int m0, .int m1])), (h2, .inl (cI, 12, .inl mf))]) [1, 2] rfl) hK hN 2 rfl rfl rfl rfl hl.1 rfl (Nat.le_of_ble_eq_true rfl) dX1_ranked_10 ⟨Nat.zero_le _, Nat.zero_le _⟩ (fun r10 hv => ?_)
  exact W.iret (v := r10) hx hb hr (kSi_ret rfl hv) (fun _ h => by cases h) dX1_ranked_13
set_option maxHeartbeats 4000000 in
set_option maxRecDepth 100000 in
theorem kX1_falls (l : Launch) (D : va_G) (cI cB : ClassId) (h0 : Nat) (h1 : Nat) (h2 : Nat) (h3 : Nat) (h4 : Nat) (mf : Nat → Int32) (mz : Int32) (ms : Int32) (mg : Int32) (m0 : Int32) (m1 : Int32) (tf : Nat → Int32) (tz : Int32) (ts : Int32) (tg : Int32) (t0 : Int32) (t1 : Int32) (xst : Int32) (xgo : Int32) (xdo : Int32) (xre : Int32) (xkn : Int32) (a1 : Int32) (post : Int32 → Prop) (hv : qX1_falls mf mz ms mg a1 post) : Met l yX1_falls wsX1_falls ({ frames := 2, cells := 0, slots := 0, locals := 51 }) (va_Pc [.ref h0, .int a1] (kB D cI cB [(h0, .inr (3, [.ref h1, .ref h3, .int xst, .int xgo, .int xdo, .int xre, .int xkn])), (h1, .inr (2, [.ref h2, .int mz, .int ms, .int mg, .int m0, .int m1])), (h2, .inl (cI, 12, .inl mf)), (h3, .inr (2, [.ref h4, .int tz, .int ts, .int tg, .int t0, .int t1])), (h4, .inl (cI, 12, .inl tf))])) (vp_Si post) 0 0 (fun _ => False) := by
  refine Met.ofW (cc := cX1_falls) (maxL := 6) (ret := (some .int)) (by decide) rfl ?_
  intro p e s m args below meth c s₁ B hml hv0
  obtain ⟨rfl, hP, hK, hN⟩ := hv0
  have hx := B.exec
  have hb := B.bytes
  have hr := B.returns
  have hts := atoms_spec (ws := wsX1_falls) B.pre
  have hown : s.vm.findClass RX1 = some m.cls := findClass_of_methodNamed B.named
  have hlocks := B.notSynchronized
  have hi_X0 : ∀ w ∈ wsX00, w ∈ wsX1_falls := by decide +kernel
  have hi_X1 : ∀ w ∈ wsX10, w ∈ wsX1_falls := by decide +kernel
  have hF10 := hts (.fieldLink RX1 10 "Roadgame" "map" "LRoadgame$Chart;") (by decide +kernel)
  have hl := lv_entry ([.ref h0, .int a1]) (n := 6) (Nat.le_of_ble_eq_true rfl)
  rw [lg_entry_eq]
  generalize (lg_sl ([.ref h0, .int a1]) ++ List.replicate (6 - (lg_sl ([.ref h0, .int a1])).length) Slot.unset).toArray = ls at hl ⊢
  have hl : lv_has ls 6 [(0, .ref h0), (1, .int a1)] := hl
  refine lv_iload_n hx hb dX1_falls_0 rfl (lv_at hl 1 rfl) ?_
  refine kc_Sv (As := [.int a1]) (rest := []) ⟨hx, hb, hml, hown, hts⟩ (kX1_checkSide l D cI cB a1 _ hv) (va_cwS 1 hts gX1_falls_X1_checkSide rfl rfl rfl (by decide +kernel) ⟨Nat.le_of_ble_eq_true rfl, Nat.le_of_ble_eq_true rfl⟩) (hP.sub (ws' := []) [] rfl) hK hN rfl hl.1 rfl (Nat.le_of_ble_eq_true rfl) dX1_falls_1 ⟨Nat.zero_le _, Nat.zero_le _⟩ (fun hv => ?_)
  refine lv_aload_n hx hb dX1_falls_4 rfl (lv_at hl 0 rfl) ?_
  refine va_get (D := D) (ci := 3) (v := .ref h1) (C := RX1) (T := TX1) (N := 7) hx hb hts hi_X1 hown hK hP 0 rfl rfl 0 (by decide) hF10 (fun _ h9 => h9) rfl dX1_falls_5 ?_
  refine kc_V (As := []) (rest := []) ⟨hx, hb, hml, hown, hts⟩ (kX0_all l D cI cB h1 h2 mf mz ms mg m0 m1 _ hv) (cwV 0 hts gX1_falls_X0_all rfl rfl rfl (by decide +kernel) ⟨Nat.le_of_ble_eq_true rfl, Nat.le_of_ble_eq_true rfl⟩) (hP.sub (ws' := [(h1, .inr (2, [.ref h2, .int mz, .int ms, .int mg, .int m0, .int m1])), (h2, .inl (cI, 12, .inl mf))]) [1, 2] rfl) hK hN 2 rfl rfl rfl rfl hl.1 rfl (Nat.le_of_ble_eq_true rfl) dX1_falls_8 ⟨Nat.zero_le _, Nat.zero_le _⟩ (fun r8 hv => ?_)
  refine lv_istore_n (lv' := [(2, .int r8), (0, .ref h0), (1, .int a1)]) hx hb dX1_falls_11 rfl hl (by decide) rfl (fun ls hl => ?_)
  refine lv_iconst (v := (0 : Int32)) hx hb dX1_falls_12 (by decide) ?_
  refine lv_istore_n (lv' := [(3, .int (0 : Int32)), (2, .int r8), (0, .ref h0), (1, .int a1)]) hx hb dX1_falls_13 rfl hl (by decide) rfl (fun ls hl => ?_)
  refine lv_iconst (v := (0 : Int32)) hx hb dX1_falls_14 (by decide) ?_
  refine lv_istore (lv' := [(4, .int (0 : Int32)), (3, .int (0 : Int32)), (2, .int r8), (0, .ref h0), (1, .int a1)]) hx hb dX1_falls_15 hl (by decide) rfl (fun ls hl => ?_)
  have L17 : ∀ (K17_72 : Int32 → Int32 → Int32 → Prop), (∀ (v2_17 : Int32) (v3_17 : Int32) (v4_17 : Int32) (ls : Array Slot), K17_72 v2_17 v3_17 v4_17 → lv_has ls 6 [(0, .ref h0), (1, .int a1), (2, .int v2_17), (3, .int v3_17), (4, .int v4_17)] → W p l e (headSpec wsX1_falls ({ frames := 2, cells := 0, slots := 0, locals := 51 })).room s m ([.ref h0, .int a1] : List Value).toArray below meth c s.heap [] 0 0 (MQ below (vp_Si post) ([.ref h0, .int a1] : List Value).toArray s 0 0 (fun _ => False)) (F0 m 72 ls [])) → ∀ (n17 : Nat) (v2_17 : Int32) (v3_17 : Int32) (v4_17 : Int32) (ls : Array Slot), qX1_falls_17 mf mz ms mg a1 K17_72 n17 v2_17 v3_17 v4_17 → lv_has ls 6 [(0, .ref h0), (1, .int a1), (2, .int v2_17), (3, .int v3_17), (4, .int v4_17)] → W p l e (headSpec wsX1_falls ({ frames := 2, cells := 0, slots := 0, locals := 51 })).room s m ([.ref h0, .int a1] : List Value).toArray below meth c s.heap [] 0 0 (MQ below (vp_Si post) ([.ref h0, .int a1] : List Value).toArray s 0 0 (fun _ => False)) (F0 m 17 ls []) := by
    intro K17_72 hk17_72
    intro n17
    induction n17 with
    | zero => intro v2_17 v3_17 v4_17 ls hv hl; exact hv.elim
    | succ n17 ih17 =>
      intro v2_17 v3_17 v4_17 ls hv hl
      refine lv_iload hx hb dX1_falls_17 (lv_at hl 4 rfl) ?_
      refine lv_bipush (v := (12 : Int32)) hx hb dX1_falls_19 (by decide) ?_
      refine lv_icmp_ge (tgt := 72) hx hb dX1_falls_21 (by decide) (fun hc => ?_) (fun hc => ?_)
      · have hv := hv.1 hc
        exact hk17_72 _ _ _ ls hv (lv_sub hl [0, 1, 2, 3, 4] rfl)
      · have hv := hv.2 hc
        refine lv_aload_n hx hb dX1_falls_24 rfl (lv_at hl 0 rfl) ?_
        refine va_get (D := D) (ci := 3) (v := .ref h1) (C := RX1) (T := TX1) (N := 7) hx hb hts hi_X1 hown hK hP 0 rfl rfl 0 (by decide) hF10 (fun _ h9 => h9) rfl dX1_falls_25 ?_
        refine lv_aload_n hx hb dX1_falls_28 rfl (lv_at hl 0 rfl) ?_
        refine va_get (D := D) (ci := 3) (v := .ref h1) (C := RX1) (T := TX1) (N := 7) hx hb hts hi_X1 hown hK hP 0 rfl rfl 0 (by decide) hF10 (fun _ h9 => h9) rfl dX1_falls_29 ?_
        refine va_getN (D := D) (ci := 2) (v := .int mg) (C := RX0) (T := TX0) (N := 6) (host := "Roadgame") hx hb hts hi_X0 hown hK hP 1 rfl rfl 3 (by decide) (va_Nw.use rfl hN.2.2.1) (fun _ h9 => h9) rfl dX1_falls_32 ?_
        refine lv_aload_n hx hb dX1_falls_35 rfl (lv_at hl 0 rfl) ?_
        refine va_get (D := D) (ci := 3) (v := .ref h1) (C := RX1) (T := TX1) (N := 7) hx hb hts hi_X1 hown hK hP 0 rfl rfl 0 (by decide) hF10 (fun _ h9 => h9) rfl dX1_falls_36 ?_
        refine lv_iload_n hx hb dX1_falls_39 rfl (lv_at hl 2 rfl) ?_
        refine lv_iload_n hx hb dX1_falls_40 rfl (lv_at hl 1 rfl) ?_
        refine kc_V (As := [.int v2_17, .int a1]) (rest := [.int mg, .ref h1]) ⟨hx, hb, hml, hown, hts⟩ (kX0_seenBefore l D cI cB h1 h2 mf mz ms mg m0 m1 v2_17 a1 _ hv) (cwV 2 hts gX1_falls_X0_seenBefore rfl rfl rfl (by decide +kernel) ⟨Nat.le_of_ble_eq_true rfl, Nat.le_of_ble_eq_true rfl⟩) (hP.sub (ws' := [(h1, .inr (2, [.ref h2, .int mz, .int ms, .int mg, .int m0, .int m1])), (h2, .inl (cI, 12, .inl mf))]) [1, 2] rfl) hK hN 2 rfl rfl rfl rfl hl.1 rfl (Nat.le_of_ble_eq_true rfl) dX1_falls_41 ⟨Nat.zero_le _, Nat.zero_le _⟩ (fun r41 hv => ?_)
        refine lv_iand hx hb dX1_falls_44 ?_
        refine lv_iload_n hx hb dX1_falls_45 rfl (lv_at hl 1 rfl) ?_
        refine kc_V (As := [.int (mg &&& r41), .int a1]) (rest := []) ⟨hx, hb, hml, hown, hts⟩ (kX0_reaching l D cI cB h1 h2 mf mz ms mg m0 m1 (mg &&& r41) a1 _ hv) (cwV 2 hts gX1_falls_X0_reaching rfl rfl rfl (by decide +kernel) ⟨Nat.le_of_ble_eq_true rfl, Nat.le_of_ble_eq_true rfl⟩) (hP.sub (ws' := [(h1, .inr (2, [.ref h2, .int mz, .int ms, .int mg, .int m0, .int m1])), (h2, .inl (cI, 12, .inl mf))]) [1, 2] rfl) hK hN 2 rfl rfl rfl rfl hl.1 rfl (Nat.le_of_ble_eq_true rfl) dX1_falls_46 ⟨Nat.zero_le _, Nat.zero_le _⟩ (fun r46 hv => ?_)
        refine lv_istore (lv' := [(5, .int r46), (0, .ref h0), (1, .int a1), (2, .int v2_17), (3, .int v3_17), (4, .int v4_17)]) hx hb dX1_falls_49 hl (by decide) rfl (fun ls hl => ?_)
        refine lv_iload hx hb dX1_falls_51 (lv_at hl 0 rfl) ?_
        refine lv_iload_n hx hb dX1_falls_53 rfl (lv_at hl 3 rfl) ?_
        refine lv_icmp_ne (tgt := 60) hx hb dX1_falls_54 (by decide) (fun hc => ?_) (fun hc => ?_)
        · have hv := hv.1 hc
          refine lv_iload hx hb dX1_falls_60 (lv_at hl 0 rfl) ?_
          refine lv_istore_n (lv' := [(2, .int r46), (5, .int r46), (0, .ref h0), (1, .int a1), (3, .int v3_17), (4, .int v4_17)]) hx hb dX1_falls_62 rfl hl (by decide) rfl (fun ls hl => ?_)
          refine lv_iinc (v := (v3_17 + (1 : Int32))) (lv' := [(3, .int (v3_17 + (1 : Int32))), (2, .int r46), (5, .int r46), (0, .ref h0), (1, .int a1), (4, .int v4_17)]) hx hb dX1_falls_63 hl (k := 4) rfl rfl (by decide) rfl (fun ls hl => ?_)
          refine lv_iinc (v := (v4_17 + (1 : Int32))) (lv' := [(4, .int (v4_17 + (1 : Int32))), (3, .int (v3_17 + (1 : Int32))), (2, .int r46), (5, .int r46), (0, .ref h0), (1, .int a1)]) hx hb dX1_falls_66 hl (k := 5) rfl rfl (by decide) rfl (fun ls hl => ?_)
          refine lv_goto (tgt := 17) hx hb dX1_falls_69 (by decide) ?_
          exact ih17 _ _ _ ls hv (lv_sub hl [4, 5, 2, 1, 0] rfl)
        · have hv := hv.2 hc
          refine lv_goto (tgt := 72) hx hb dX1_falls_57 (by decide) ?_
          exact hk17_72 _ _ _ ls hv (lv_sub hl [1, 2, 3, 4, 5] rfl)
  obtain ⟨n17, hv⟩ := hv
  refine L17 _ (fun v2_17x v3_17x v4_17x ls hv hl => ?_) n17 _ _ _ _ hv (lv_sub hl [3, 4, 2, 1, 0] rfl)
  refine lv_iload_n hx hb dX1_falls_72 rfl (lv_at hl 3 rfl) ?_
  exact W.iret (v := v3_17x) hx hb hr (kSi_ret rfl hv) (fun _ h => by cases h) dX1_falls_73
set_option maxHeartbeats 4000000 in
set_option maxRecDepth 100000 in
theorem kX1_choices (l : Launch) (D : va_G) (cI cB : ClassId) (h0 : Nat) (h1 : Nat) (h2 : Nat) (h3 : Nat) (h4 : Nat) (mf : Nat → Int32) (mz : Int32) (ms : Int32) (mg : Int32) (m0 : Int32) (m1 : Int32) (tf : Nat → Int32) (tz : Int32) (ts : Int32) (tg : Int32) (t0 : Int32) (t1 : Int32) (xst : Int32) (xgo : Int32) (xdo : Int32) (xre : Int32) (xkn : Int32) (a1 : Int32) (post : Int32 → Prop) (hv : qX1_choices mf mz ms a1 post) : Met l yX1_choices wsX1_choices ({ frames := 2, cells := 0, slots := 0, locals := 45 }) (va_Pc [.ref h0, .int a1] (kB D cI cB [(h0, .inr (3, [.ref h1, .ref h3, .int xst, .int xgo, .int xdo, .int xre, .int xkn])), (h1, .inr (2, [.ref h2, .int mz, .int ms, .int mg, .int m0, .int m1])), (h2, .inl (cI, 12, .inl mf)), (h3, .inr (2, [.ref h4, .int tz, .int ts, .int tg, .int t0, .int t1])), (h4, .inl (cI, 12, .inl tf))])) (vp_Si post) 0 0 (fun _ => False) := by
  refine Met.ofW (cc := cX1_choices) (maxL := 2) (ret := (some .int)) (by decide) rfl ?_
  intro p e s m args below meth c s₁ B hml hv0
  obtain ⟨rfl, hP, hK, hN⟩ := hv0
  have hx := B.exec
  have hb := B.bytes
  have hr := B.returns
  have hts := atoms_spec (ws := wsX1_choices) B.pre
  have hown : s.vm.findClass RX1 = some m.cls := findClass_of_methodNamed B.named
  have hlocks := B.notSynchronized
  have hi_X1 : ∀ w ∈ wsX10, w ∈ wsX1_choices := by decide +kernel
  have hF10 := hts (.fieldLink RX1 10 "Roadgame" "map" "LRoadgame$Chart;") (by decide +kernel)
  have hl := lv_entry ([.ref h0, .int a1]) (n := 2) (Nat.le_of_ble_eq_true rfl)
  rw [lg_entry_eq]
  generalize (lg_sl ([.ref h0, .int a1]) ++ List.replicate (2 - (lg_sl ([.ref h0, .int a1])).length) Slot.unset).toArray = ls at hl ⊢
  have hl : lv_has ls 2 [(0, .ref h0), (1, .int a1)] := hl
  refine lv_iload_n hx hb dX1_choices_0 rfl (lv_at hl 1 rfl) ?_
  refine kc_Sv (As := [.int a1]) (rest := []) ⟨hx, hb, hml, hown, hts⟩ (kX1_checkSide l D cI cB a1 _ hv) (va_cwS 1 hts gX1_choices_X1_checkSide rfl rfl rfl (by decide +kernel) ⟨Nat.le_of_ble_eq_true rfl, Nat.le_of_ble_eq_true rfl⟩) (hP.sub (ws' := []) [] rfl) hK hN rfl hl.1 rfl (Nat.le_of_ble_eq_true rfl) dX1_choices_1 ⟨Nat.zero_le _, Nat.zero_le _⟩ (fun hv => ?_)
  refine lv_aload_n hx hb dX1_choices_4 rfl (lv_at hl 0 rfl) ?_
  refine va_get (D := D) (ci := 3) (v := .ref h1) (C := RX1) (T := TX1) (N := 7) hx hb hts hi_X1 hown hK hP 0 rfl rfl 0 (by decide) hF10 (fun _ h9 => h9) rfl dX1_choices_5 ?_
  refine lv_iload_n hx hb dX1_choices_8 rfl (lv_at hl 1 rfl) ?_
  refine kc_V (As := [.int a1]) (rest := []) ⟨hx, hb, hml, hown, hts⟩ (kX0_countChoices l D cI cB h1 h2 mf mz ms mg m0 m1 a1 _ hv) (cwV 1 hts gX1_choices_X0_countChoices rfl rfl rfl (by decide +kernel) ⟨Nat.le_of_ble_eq_true rfl, Nat.le_of_ble_eq_true rfl⟩) (hP.sub (ws' := [(h1, .inr (2, [.ref h2, .int mz, .int ms, .int mg, .int m0, .int m1])), (h2, .inl (cI, 12, .inl mf))]) [1, 2] rfl) hK hN 2 rfl rfl rfl rfl hl.1 rfl (Nat.le_of_ble_eq_true rfl) dX1_choices_9 ⟨Nat.zero_le _, Nat.zero_le _⟩ (fun r9 hv => ?_)
  exact W.iret (v := r9) hx hb hr (kSi_ret rfl hv) (fun _ h => by cases h) dX1_choices_12
set_option maxHeartbeats 4000000 in
set_option maxRecDepth 100000 in
theorem kX1_house (l : Launch) (D : va_G) (cI cB : ClassId) (h0 : Nat) (h1 : Nat) (h2 : Nat) (h3 : Nat) (h4 : Nat) (mf : Nat → Int32) (mz : Int32) (ms : Int32) (mg : Int32) (m0 : Int32) (m1 : Int32) (tf : Nat → Int32) (tz : Int32) (ts : Int32) (tg : Int32) (t0 : Int32) (t1 : Int32) (xst : Int32) (xgo : Int32) (xdo : Int32) (xre : Int32) (xkn : Int32) (a1 : Int32) (post : Int32 → Prop) (hv : qX1_house xdo xre xkn a1 post) : Met l yX1_house wsX1_house ({ frames := 1, cells := 0, slots := 0, locals := 22 }) (va_Pc [.ref h0, .int a1] (kB D cI cB [(h0, .inr (3, [.ref h1, .ref h3, .int xst, .int xgo, .int xdo, .int xre, .int xkn])), (h1, .inr (2, [.ref h2, .int mz, .int ms, .int mg, .int m0, .int m1])), (h2, .inl (cI, 12, .inl mf)), (h3, .inr (2, [.ref h4, .int tz, .int ts, .int tg, .int t0, .int t1])), (h4, .inl (cI, 12, .inl tf))])) (vp_Si post) 0 0 (fun _ => False) := by
  refine Met.ofW (cc := cX1_house) (maxL := 2) (ret := (some .int)) (by decide) rfl ?_
  intro p e s m args below meth c s₁ B hml hv0
  obtain ⟨rfl, hP, hK, hN⟩ := hv0
  have hx := B.exec
  have hb := B.bytes
  have hr := B.returns
  have hts := atoms_spec (ws := wsX1_house) B.pre
  have hown : s.vm.findClass RX1 = some m.cls := findClass_of_methodNamed B.named
  have hlocks := B.notSynchronized
  have hi_X1 : ∀ w ∈ wsX10, w ∈ wsX1_house := by decide +kernel
  have hF37 := hts (.fieldLink RX1 37 "Roadgame" "done" "I") (by decide +kernel)
  have hF162 := hts (.fieldLink RX1 162 "Roadgame" "refused" "I") (by decide +kernel)
  have hF165 := hts (.fieldLink RX1 165 "Roadgame" "knocks" "I") (by decide +kernel)
  have hl := lv_entry ([.ref h0, .int a1]) (n := 2) (Nat.le_of_ble_eq_true rfl)
  rw [lg_entry_eq]
  generalize (lg_sl ([.ref h0, .int a1]) ++ List.replicate (2 - (lg_sl ([.ref h0, .int a1])).length) Slot.unset).toArray = ls at hl ⊢
  have hl : lv_has ls 2 [(0, .ref h0), (1, .int a1)] := hl
  refine lv_iload_n hx hb dX1_house_0 rfl (lv_at hl 1 rfl) ?_
  refine lv_iconst (v := (0 : Int32)) hx hb dX1_house_1 (by decide) ?_
  refine lv_iconst (v := (2 : Int32)) hx hb dX1_house_2 (by decide) ?_
  refine kc_Sv (As := [.int a1, .int (0 : Int32), .int (2 : Int32)]) (rest := []) ⟨hx, hb, hml, hown, hts⟩ (kX1_checkBetween l D cI cB a1 (0 : Int32) (2 : Int32) _ hv) (va_cwS 3 hts gX1_house_X1_checkBetween rfl rfl rfl (by decide +kernel) ⟨Nat.le_of_ble_eq_true rfl, Nat.le_of_ble_eq_true rfl⟩) (hP.sub (ws' := []) [] rfl) hK hN rfl hl.1 rfl (Nat.le_of_ble_eq_true rfl) dX1_house_3 ⟨Nat.zero_le _, Nat.zero_le _⟩ (fun hv => ?_)
  refine lv_iload_n hx hb dX1_house_6 rfl (lv_at hl 1 rfl) ?_
  by_cases hc0 : a1 = (0 : Int32)
  · have hv := hv.1 hc0
    refine lv_lookup (off := 25) (tgt := 32) hx hb dX1_house_7 (by decide) (by rw [hc0]; decide) (by decide) ?_
    refine lv_aload_n hx hb dX1_house_32 rfl (lv_at hl 0 rfl) ?_
    refine va_get (D := D) (ci := 3) (v := .int xdo) (C := RX1) (T := TX1) (N := 7) hx hb hts hi_X1 hown hK hP 0 rfl rfl 4 (by decide) hF37 (fun _ h9 => h9) rfl dX1_house_33 ?_
    exact W.iret (v := xdo) hx hb hr (kSi_ret rfl hv) (fun _ h => by cases h) dX1_house_36
  · have hv := hv.2 hc0
    by_cases hc1 : a1 = (1 : Int32)
    · have hv := hv.1 hc1
      refine lv_lookup (off := 30) (tgt := 37) hx hb dX1_house_7 (by decide) (by rw [hc1]; decide) (by decide) ?_
      refine lv_aload_n hx hb dX1_house_37 rfl (lv_at hl 0 rfl) ?_
      refine va_get (D := D) (ci := 3) (v := .int xre) (C := RX1) (T := TX1) (N := 7) hx hb hts hi_X1 hown hK hP 0 rfl rfl 5 (by decide) hF162 (fun _ h9 => h9) rfl dX1_house_38 ?_
      exact W.iret (v := xre) hx hb hr (kSi_ret rfl hv) (fun _ h => by cases h) dX1_house_41
    · have hv := hv.2 hc1
      refine lv_lookup (off := 35) (tgt := 42) hx hb dX1_house_7 (by decide) ((lv_osw hc0 (by decide)).trans ((lv_osw hc1 (by decide)).trans rfl)) (by decide) ?_
      refine lv_aload_n hx hb dX1_house_42 rfl (lv_at hl 0 rfl) ?_
      refine va_get (D := D) (ci := 3) (v := .int xkn) (C := RX1) (T := TX1) (N := 7) hx hb hts hi_X1 hown hK hP 0 rfl rfl 6 (by decide) hF165 (fun _ h9 => h9) rfl dX1_house_43 ?_
      exact W.iret (v := xkn) hx hb hr (kSi_ret rfl hv) (fun _ h => by cases h) dX1_house_46
set_option maxHeartbeats 4000000 in
set_option maxRecDepth 100000 in
theorem kX1_digestW (l : Launch) (D : va_G) (cI cB : ClassId) (h0 : Nat) (h1 : Nat) (h2 : Nat) (h3 : Nat) (h4 : Nat) (mf : Nat → Int32) (mz : Int32) (ms : Int32) (mg : Int32) (m0 : Int32) (m1 : Int32) (tf : Nat → Int32) (tz : Int32) (ts : Int32) (tg : Int32) (t0 : Int32) (t1 : Int32) (xst : Int32) (xgo : Int32) (xdo : Int32) (xre : Int32) (xkn : Int32)  (sz : Nat) (post : Int64 → Int32 → Int32 → Int32 → Int32 → Int32 → (Nat → Int32) → Prop) (hv : qX1_digestW mf mz ms mg m0 m1 tf tz ts tg t0 t1 xst xgo xdo xre xkn post) : Met l yX1_digest wsX1_digest ({ frames := 6, cells := 0, slots := 0, locals := 146 }) (va_Pc [.ref h0] (kBW D cI cB sz [(h0, .inr (3, [.ref h1, .ref h3, .int xst, .int xgo, .int xdo, .int xre, .int xkn])), (h1, .inr (2, [.ref h2, .int mz, .int ms, .int mg, .int m0, .int m1])), (h2, .inl (cI, 12, .inl mf)), (h3, .inr (2, [.ref h4, .int tz, .int ts, .int tg, .int t0, .int t1])), (h4, .inl (cI, 12, .inl tf))])) (va_Ql (fun (r : Int64) (u : Int32 × Int32 × Int32 × Int32 × Int32 × (Nat → Int32)) => post r u.1 u.2.1 u.2.2.1 u.2.2.2.1 u.2.2.2.2.1 u.2.2.2.2.2) (fun (u : Int32 × Int32 × Int32 × Int32 × Int32 × (Nat → Int32)) (t : State) => kE D (va_A [(h0, .inr (3, [.ref h1, .ref h3, .int xst, .int xgo, .int xdo, .int xre, .int xkn])), (h1, .inr (2, [.ref h2, .int mz, .int ms, .int mg, .int m0, .int m1])), (h2, .inl (cI, 12, .inl mf)), (h3, .inr (2, [.ref h4, .int tz, .int ts, .int tg, .int t0, .int t1])), (h4, .inl (cI, 12, .inl tf))] sz) [(h0, .inr (3, [.ref h1, .ref h3, .int xst, .int xgo, .int xdo, .int xre, .int xkn])), (h1, .inr (2, [.ref h2, .int mz, .int ms, .int mg, .int m0, .int m1])), (h2, .inl (cI, 12, .inl mf)), (h3, .inr (2, [.ref h4, .int (u.1), .int (u.2.1), .int (u.2.2.1), .int (u.2.2.2.1), .int (u.2.2.2.2.1)])), (h4, .inl (cI, 12, .inl (u.2.2.2.2.2)))] t) (va_A [(h0, .inr (3, [.ref h1, .ref h3, .int xst, .int xgo, .int xdo, .int xre, .int xkn])), (h1, .inr (2, [.ref h2, .int mz, .int ms, .int mg, .int m0, .int m1])), (h2, .inl (cI, 12, .inl mf)), (h3, .inr (2, [.ref h4, .int tz, .int ts, .int tg, .int t0, .int t1])), (h4, .inl (cI, 12, .inl tf))] sz)) 0 0 (va_A [(h0, .inr (3, [.ref h1, .ref h3, .int xst, .int xgo, .int xdo, .int xre, .int xkn])), (h1, .inr (2, [.ref h2, .int mz, .int ms, .int mg, .int m0, .int m1])), (h2, .inl (cI, 12, .inl mf)), (h3, .inr (2, [.ref h4, .int tz, .int ts, .int tg, .int t0, .int t1])), (h4, .inl (cI, 12, .inl tf))] sz) := by
  refine Met.ofW (cc := cX1_digest) (maxL := 5) (ret := (some .long)) (by decide) rfl ?_
  intro p e s m args below meth c s₁ B hml hv0
  obtain ⟨rfl, hsz, ⟨hP, hK, hN⟩, hD0⟩ := hv0
  have hx := B.exec
  have hb := B.bytes
  have hr := B.returns
  have hts := atoms_spec (ws := wsX1_digest) B.pre
  have hown : s.vm.findClass RX1 = some m.cls := findClass_of_methodNamed B.named
  have hlocks := B.notSynchronized
  have hi_X0 : ∀ w ∈ wsX00, w ∈ wsX1_digest := by decide +kernel
  have hi_X1 : ∀ w ∈ wsX10, w ∈ wsX1_digest := by decide +kernel
  have hF10 := hts (.fieldLink RX1 10 "Roadgame" "map" "LRoadgame$Chart;") (by decide +kernel)
  have hC179 := hts (.constantLong RX1 179 (8031 : Int64)) (by decide +kernel)
  have hC181 := hts (.constantLong RX1 181 (31 : Int64)) (by decide +kernel)
  subst hsz
  have hD := hD0.self (sz := s.heap.size)
  generalize hAe : va_A [(h0, .inr (3, [.ref h1, .ref h3, .int xst, .int xgo, .int xdo, .int xre, .int xkn])), (h1, .inr (2, [.ref h2, .int mz, .int ms, .int mg, .int m0, .int m1])), (h2, .inl (cI, 12, .inl mf)), (h3, .inr (2, [.ref h4, .int tz, .int ts, .int tg, .int t0, .int t1])), (h4, .inl (cI, 12, .inl tf))] s.heap.size = A at hD ⊢
  have hA : ∀ q : Nat, s.heap.size ≤ q → A q := fun q h => by rw [← hAe]; exact Or.inr h
  have hS : va_S A s.heap s.heap [] := va_S.rf
  have hl := lv_entry ([.ref h0]) (n := 5) (Nat.le_of_ble_eq_true rfl)
  rw [lg_entry_eq]
  generalize (lg_sl ([.ref h0]) ++ List.replicate (5 - (lg_sl ([.ref h0])).length) Slot.unset).toArray = ls at hl ⊢
  have hl : lv_has ls 5 [(0, .ref h0)] := hl
  refine lv_ldc2 (v := (8031 : Int64)) hx hb hown hC179 dX1_digest_0 ?_
  refine lv_lstore_n (lv' := [(1, .long (8031 : Int64)), (0, .ref h0)]) hx hb dX1_digest_3 rfl hl (by decide) rfl (fun ls hl => ?_)
  refine lv_iconst (v := (0 : Int32)) hx hb dX1_digest_4 (by decide) ?_
  refine lv_istore_n (lv' := [(3, .int (0 : Int32)), (1, .long (8031 : Int64)), (0, .ref h0)]) hx hb dX1_digest_5 rfl hl (by decide) rfl (fun ls hl => ?_)
  have L6 : ∀ (K6_31 : Int64 → Int32 → Prop), (∀ (v1_6 : Int64) (v3_6 : Int32) (H : Heap) (locs : List Loc) (ls : Array Slot), va_P D vwCl [(h0, .inr (3, [.ref h1, .ref h3, .int xst, .int xgo, .int xdo, .int xre, .int xkn])), (h1, .inr (2, [.ref h2, .int mz, .int ms, .int mg, .int m0, .int m1])), (h2, .inl (cI, 12, .inl mf)), (h3, .inr (2, [.ref h4, .int tz, .int ts, .int tg, .int t0, .int t1])), (h4, .inl (cI, 12, .inl tf))] H → va_D A [(h0, .inr (3, [.ref h1, .ref h3, .int xst, .int xgo, .int xdo, .int xre, .int xkn])), (h1, .inr (2, [.ref h2, .int mz, .int ms, .int mg, .int m0, .int m1])), (h2, .inl (cI, 12, .inl mf)), (h3, .inr (2, [.ref h4, .int tz, .int ts, .int tg, .int t0, .int t1])), (h4, .inl (cI, 12, .inl tf))] → va_S A s.heap H locs → K6_31 v1_6 v3_6 → lv_has ls 5 [(0, .ref h0), (1, .long v1_6), (3, .int v3_6)] → W p l e (headSpec wsX1_digest ({ frames := 6, cells := 0, slots := 0, locals := 146 })).room s m ([.ref h0] : List Value).toArray below meth c H locs 0 0 (MQ below (va_Ql (fun (r : Int64) (u : Int32 × Int32 × Int32 × Int32 × Int32 × (Nat → Int32)) => post r u.1 u.2.1 u.2.2.1 u.2.2.2.1 u.2.2.2.2.1 u.2.2.2.2.2) (fun (u : Int32 × Int32 × Int32 × Int32 × Int32 × (Nat → Int32)) (t : State) => kE D A [(h0, .inr (3, [.ref h1, .ref h3, .int xst, .int xgo, .int xdo, .int xre, .int xkn])), (h1, .inr (2, [.ref h2, .int mz, .int ms, .int mg, .int m0, .int m1])), (h2, .inl (cI, 12, .inl mf)), (h3, .inr (2, [.ref h4, .int (u.1), .int (u.2.1), .int (u.2.2.1), .int (u.2.2.2.1), .int (u.2.2.2.2.1)])), (h4, .inl (cI, 12, .inl (u.2.2.2.2.2)))] t) A) ([.ref h0] : List Value).toArray s 0 0 A) (F0 m 31 ls [])) → ∀ (n6 : Nat) (v1_6 : Int64) (v3_6 : Int32) (H : Heap) (locs : List Loc) (ls : Array Slot), va_P D vwCl [(h0, .inr (3, [.ref h1, .ref h3, .int xst, .int xgo, .int xdo, .int xre, .int xkn])), (h1, .inr (2, [.ref h2, .int mz, .int ms, .int mg, .int m0, .int m1])), (h2, .inl (cI, 12, .inl mf)), (h3, .inr (2, [.ref h4, .int tz, .int ts, .int tg, .int t0, .int t1])), (h4, .inl (cI, 12, .inl tf))] H → va_D A [(h0, .inr (3, [.ref h1, .ref h3, .int xst, .int xgo, .int xdo, .int xre, .int xkn])), (h1, .inr (2, [.ref h2, .int mz, .int ms, .int mg, .int m0, .int m1])), (h2, .inl (cI, 12, .inl mf)), (h3, .inr (2, [.ref h4, .int tz, .int ts, .int tg, .int t0, .int t1])), (h4, .inl (cI, 12, .inl tf))] → va_S A s.heap H locs → qX1_digest_W6 mf mz ms mg xst xgo K6_31 n6 v1_6 v3_6 → lv_has ls 5 [(0, .ref h0), (1, .long v1_6), (3, .int v3_6)] → W p l e (headSpec wsX1_digest ({ frames := 6, cells := 0, slots := 0, locals := 146 })).room s m ([.ref h0] : List Value).toArray below meth c H locs 0 0 (MQ below (va_Ql (fun (r : Int64) (u : Int32 × Int32 × Int32 × Int32 × Int32 × (Nat → Int32)) => post r u.1 u.2.1 u.2.2.1 u.2.2.2.1 u.2.2.2.2.1 u.2.2.2.2.2) (fun (u : Int32 × Int32 × Int32 × Int32 × Int32 × (Nat → Int32)) (t : State) => kE D A [(h0, .inr (3, [.ref h1, .ref h3, .int xst, .int xgo, .int xdo, .int xre, .int xkn])), (h1, .inr (2, [.ref h2, .int mz, .int ms, .int mg, .int m0, .int m1])), (h2, .inl (cI, 12, .inl mf)), (h3, .inr (2, [.ref h4, .int (u.1), .int (u.2.1), .int (u.2.2.1), .int (u.2.2.2.1), .int (u.2.2.2.2.1)])), (h4, .inl (cI, 12, .inl (u.2.2.2.2.2)))] t) A) ([.ref h0] : List Value).toArray s 0 0 A) (F0 m 6 ls []) := by
    intro K6_31 hk6_31
    intro n6
    induction n6 with
    | zero => intro v1_6 v3_6 H locs ls hP hD hS hv hl; exact hv.elim
    | succ n6 ih6 =>
      intro v1_6 v3_6 H locs ls hP hD hS hv hl
      refine lv_iload_n hx hb dX1_digest_6 rfl (lv_at hl 2 rfl) ?_
      refine lv_bipush (v := (6 : Int32)) hx hb dX1_digest_7 (by decide) ?_
      refine lv_icmp_gt (tgt := 31) hx hb dX1_digest_9 (by decide) (fun hc => ?_) (fun hc => ?_)
      · have hv := hv.1 hc
        exact hk6_31 _ _ _ _ _ hP hD hS hv (lv_sub hl [0, 1, 2] rfl)
      · have hv := hv.2 hc
        refine lv_lload_n hx hb dX1_digest_12 rfl (lv_at hl 1 rfl) ?_
        refine lv_ldc2 (v := (31 : Int64)) hx hb hown hC181 dX1_digest_13 ?_
        refine lv_lmul hx hb dX1_digest_16 ?_
        refine lv_aload_n hx hb dX1_digest_17 rfl (lv_at hl 0 rfl) ?_
        refine lv_iload_n hx hb dX1_digest_18 rfl (lv_at hl 2 rfl) ?_
        refine kc_V (As := [.int v3_6]) (rest := [.long (v1_6 * (31 : Int64))]) ⟨hx, hb, hml, hown, hts⟩ (kX1_told l D cI cB h0 h1 h2 h3 h4 mf mz ms mg m0 m1 tf tz ts tg t0 t1 xst xgo xdo xre xkn v3_6 _ hv) (cwV 1 hts gX1_digest_X1_told rfl rfl rfl (by decide +kernel) ⟨Nat.le_of_ble_eq_true rfl, Nat.le_of_ble_eq_true rfl⟩) hP hK hN 3 rfl rfl rfl rfl hl.1 rfl (Nat.le_of_ble_eq_true rfl) dX1_digest_19 ⟨Nat.le_of_ble_eq_true rfl, Nat.le_of_ble_eq_true rfl⟩ (fun r19 hv => ?_)
        refine lv_i2l hx hb dX1_digest_22 rfl ?_
        refine lv_ladd hx hb dX1_digest_23 ?_
        refine lv_lstore_n (lv' := [(1, .long ((v1_6 * (31 : Int64)) + r19.toInt64)), (0, .ref h0), (3, .int v3_6)]) hx hb dX1_digest_24 rfl hl (by decide) rfl (fun ls hl => ?_)
        refine lv_iinc (v := (v3_6 + (1 : Int32))) (lv' := [(3, .int (v3_6 + (1 : Int32))), (1, .long ((v1_6 * (31 : Int64)) + r19.toInt64)), (0, .ref h0)]) hx hb dX1_digest_25 hl (k := 2) rfl rfl (by decide) rfl (fun ls hl => ?_)
        refine lv_goto (tgt := 6) hx hb dX1_digest_28 (by decide) ?_
        exact ih6 _ _ _ _ _ hP hD hS hv (lv_sub hl [2, 1, 0] rfl)
  obtain ⟨n6, hv⟩ := hv
  refine L6 _ (fun v1_6x v3_6x H locs ls hP hD hS hv hl => ?_) n6 _ _ _ _ _ hP hD hS hv (lv_sub hl [2, 1, 0] rfl)
  refine lv_iconst (v := (0 : Int32)) hx hb dX1_digest_31 (by decide) ?_
  refine lv_istore_n (lv' := [(3, .int (0 : Int32)), (0, .ref h0), (1, .long v1_6x)]) hx hb dX1_digest_32 rfl hl (by decide) rfl (fun ls hl => ?_)
  have L33 : ∀ (K33_136 : Int64 → Int32 → Prop), (∀ (v1_33 : Int64) (v3_33 : Int32) (H : Heap) (locs : List Loc) (ls : Array Slot), va_P D vwCl [(h0, .inr (3, [.ref h1, .ref h3, .int xst, .int xgo, .int xdo, .int xre, .int xkn])), (h1, .inr (2, [.ref h2, .int mz, .int ms, .int mg, .int m0, .int m1])), (h2, .inl (cI, 12, .inl mf)), (h3, .inr (2, [.ref h4, .int tz, .int ts, .int tg, .int t0, .int t1])), (h4, .inl (cI, 12, .inl tf))] H → va_D A [(h0, .inr (3, [.ref h1, .ref h3, .int xst, .int xgo, .int xdo, .int xre, .int xkn])), (h1, .inr (2, [.ref h2, .int mz, .int ms, .int mg, .int m0, .int m1])), (h2, .inl (cI, 12, .inl mf)), (h3, .inr (2, [.ref h4, .int tz, .int ts, .int tg, .int t0, .int t1])), (h4, .inl (cI, 12, .inl tf))] → va_S A s.heap H locs → K33_136 v1_33 v3_33 → lv_has ls 5 [(0, .ref h0), (1, .long v1_33), (3, .int v3_33)] → W p l e (headSpec wsX1_digest ({ frames := 6, cells := 0, slots := 0, locals := 146 })).room s m ([.ref h0] : List Value).toArray below meth c H locs 0 0 (MQ below (va_Ql (fun (r : Int64) (u : Int32 × Int32 × Int32 × Int32 × Int32 × (Nat → Int32)) => post r u.1 u.2.1 u.2.2.1 u.2.2.2.1 u.2.2.2.2.1 u.2.2.2.2.2) (fun (u : Int32 × Int32 × Int32 × Int32 × Int32 × (Nat → Int32)) (t : State) => kE D A [(h0, .inr (3, [.ref h1, .ref h3, .int xst, .int xgo, .int xdo, .int xre, .int xkn])), (h1, .inr (2, [.ref h2, .int mz, .int ms, .int mg, .int m0, .int m1])), (h2, .inl (cI, 12, .inl mf)), (h3, .inr (2, [.ref h4, .int (u.1), .int (u.2.1), .int (u.2.2.1), .int (u.2.2.2.1), .int (u.2.2.2.2.1)])), (h4, .inl (cI, 12, .inl (u.2.2.2.2.2)))] t) A) ([.ref h0] : List Value).toArray s 0 0 A) (F0 m 136 ls [])) → ∀ (n33 : Nat) (v1_33 : Int64) (v3_33 : Int32) (H : Heap) (locs : List Loc) (ls : Array Slot), va_P D vwCl [(h0, .inr (3, [.ref h1, .ref h3, .int xst, .int xgo, .int xdo, .int xre, .int xkn])), (h1, .inr (2, [.ref h2, .int mz, .int ms, .int mg, .int m0, .int m1])), (h2, .inl (cI, 12, .inl mf)), (h3, .inr (2, [.ref h4, .int tz, .int ts, .int tg, .int t0, .int t1])), (h4, .inl (cI, 12, .inl tf))] H → va_D A [(h0, .inr (3, [.ref h1, .ref h3, .int xst, .int xgo, .int xdo, .int xre, .int xkn])), (h1, .inr (2, [.ref h2, .int mz, .int ms, .int mg, .int m0, .int m1])), (h2, .inl (cI, 12, .inl mf)), (h3, .inr (2, [.ref h4, .int tz, .int ts, .int tg, .int t0, .int t1])), (h4, .inl (cI, 12, .inl tf))] → va_S A s.heap H locs → qX1_digest_W33 mf mz ms mg m0 m1 K33_136 n33 v1_33 v3_33 → lv_has ls 5 [(0, .ref h0), (1, .long v1_33), (3, .int v3_33)] → W p l e (headSpec wsX1_digest ({ frames := 6, cells := 0, slots := 0, locals := 146 })).room s m ([.ref h0] : List Value).toArray below meth c H locs 0 0 (MQ below (va_Ql (fun (r : Int64) (u : Int32 × Int32 × Int32 × Int32 × Int32 × (Nat → Int32)) => post r u.1 u.2.1 u.2.2.1 u.2.2.2.1 u.2.2.2.2.1 u.2.2.2.2.2) (fun (u : Int32 × Int32 × Int32 × Int32 × Int32 × (Nat → Int32)) (t : State) => kE D A [(h0, .inr (3, [.ref h1, .ref h3, .int xst, .int xgo, .int xdo, .int xre, .int xkn])), (h1, .inr (2, [.ref h2, .int mz, .int ms, .int mg, .int m0, .int m1])), (h2, .inl (cI, 12, .inl mf)), (h3, .inr (2, [.ref h4, .int (u.1), .int (u.2.1), .int (u.2.2.1), .int (u.2.2.2.1), .int (u.2.2.2.2.1)])), (h4, .inl (cI, 12, .inl (u.2.2.2.2.2)))] t) A) ([.ref h0] : List Value).toArray s 0 0 A) (F0 m 33 ls []) := by
    intro K33_136 hk33_136
    intro n33
    induction n33 with
    | zero => intro v1_33 v3_33 H locs ls hP hD hS hv hl; exact hv.elim
    | succ n33 ih33 =>
      intro v1_33 v3_33 H locs ls hP hD hS hv hl
      refine lv_iload_n hx hb dX1_digest_33 rfl (lv_at hl 2 rfl) ?_
      refine lv_aload_n hx hb dX1_digest_34 rfl (lv_at hl 0 rfl) ?_
      refine va_get (D := D) (ci := 3) (v := .ref h1) (C := RX1) (T := TX1) (N := 7) hx hb hts hi_X1 hown hK hP 0 rfl rfl 0 (by decide) hF10 (fun _ h9 => h9) rfl dX1_digest_35 ?_
      refine va_getN (D := D) (ci := 2) (v := .int mz) (C := RX0) (T := TX0) (N := 6) (host := "Roadgame") hx hb hts hi_X0 hown hK hP 1 rfl rfl 1 (by decide) (va_Nw.use rfl hN.1) (fun _ h9 => h9) rfl dX1_digest_38 ?_
      refine lv_icmp_ge (tgt := 136) hx hb dX1_digest_41 (by decide) (fun hc => ?_) (fun hc => ?_)
      · have hv := hv.1 hc
        exact hk33_136 _ _ _ _ _ hP hD hS hv (lv_sub hl [0, 1, 2] rfl)
      · have hv := hv.2 hc
        refine lv_iconst (v := (0 : Int32)) hx hb dX1_digest_44 (by decide) ?_
        refine lv_istore (lv' := [(4, .int (0 : Int32)), (0, .ref h0), (1, .long v1_33), (3, .int v3_33)]) hx hb dX1_digest_45 hl (by decide) rfl (fun ls hl => ?_)
        have L47 : ∀ (K47_74 : Int64 → Int32 → Prop), (∀ (v1_47 : Int64) (v4_47 : Int32) (H : Heap) (locs : List Loc) (ls : Array Slot), va_P D vwCl [(h0, .inr (3, [.ref h1, .ref h3, .int xst, .int xgo, .int xdo, .int xre, .int xkn])), (h1, .inr (2, [.ref h2, .int mz, .int ms, .int mg, .int m0, .int m1])), (h2, .inl (cI, 12, .inl mf)), (h3, .inr (2, [.ref h4, .int tz, .int ts, .int tg, .int t0, .int t1])), (h4, .inl (cI, 12, .inl tf))] H → va_D A [(h0, .inr (3, [.ref h1, .ref h3, .int xst, .int xgo, .int xdo, .int xre, .int xkn])), (h1, .inr (2, [.ref h2, .int mz, .int ms, .int mg, .int m0, .int m1])), (h2, .inl (cI, 12, .inl mf)), (h3, .inr (2, [.ref h4, .int tz, .int ts, .int tg, .int t0, .int t1])), (h4, .inl (cI, 12, .inl tf))] → va_S A s.heap H locs → K47_74 v1_47 v4_47 → lv_has ls 5 [(0, .ref h0), (1, .long v1_47), (3, .int v3_33), (4, .int v4_47)] → W p l e (headSpec wsX1_digest ({ frames := 6, cells := 0, slots := 0, locals := 146 })).room s m ([.ref h0] : List Value).toArray below meth c H locs 0 0 (MQ below (va_Ql (fun (r : Int64) (u : Int32 × Int32 × Int32 × Int32 × Int32 × (Nat → Int32)) => post r u.1 u.2.1 u.2.2.1 u.2.2.2.1 u.2.2.2.2.1 u.2.2.2.2.2) (fun (u : Int32 × Int32 × Int32 × Int32 × Int32 × (Nat → Int32)) (t : State) => kE D A [(h0, .inr (3, [.ref h1, .ref h3, .int xst, .int xgo, .int xdo, .int xre, .int xkn])), (h1, .inr (2, [.ref h2, .int mz, .int ms, .int mg, .int m0, .int m1])), (h2, .inl (cI, 12, .inl mf)), (h3, .inr (2, [.ref h4, .int (u.1), .int (u.2.1), .int (u.2.2.1), .int (u.2.2.2.1), .int (u.2.2.2.2.1)])), (h4, .inl (cI, 12, .inl (u.2.2.2.2.2)))] t) A) ([.ref h0] : List Value).toArray s 0 0 A) (F0 m 74 ls [])) → ∀ (n47 : Nat) (v1_47 : Int64) (v4_47 : Int32) (H : Heap) (locs : List Loc) (ls : Array Slot), va_P D vwCl [(h0, .inr (3, [.ref h1, .ref h3, .int xst, .int xgo, .int xdo, .int xre, .int xkn])), (h1, .inr (2, [.ref h2, .int mz, .int ms, .int mg, .int m0, .int m1])), (h2, .inl (cI, 12, .inl mf)), (h3, .inr (2, [.ref h4, .int tz, .int ts, .int tg, .int t0, .int t1])), (h4, .inl (cI, 12, .inl tf))] H → va_D A [(h0, .inr (3, [.ref h1, .ref h3, .int xst, .int xgo, .int xdo, .int xre, .int xkn])), (h1, .inr (2, [.ref h2, .int mz, .int ms, .int mg, .int m0, .int m1])), (h2, .inl (cI, 12, .inl mf)), (h3, .inr (2, [.ref h4, .int tz, .int ts, .int tg, .int t0, .int t1])), (h4, .inl (cI, 12, .inl tf))] → va_S A s.heap H locs → qX1_digest_W47 mf mz ms mg m0 m1 v3_33 K47_74 n47 v1_47 v4_47 → lv_has ls 5 [(0, .ref h0), (1, .long v1_47), (3, .int v3_33), (4, .int v4_47)] → W p l e (headSpec wsX1_digest ({ frames := 6, cells := 0, slots := 0, locals := 146 })).room s m ([.ref h0] : List Value).toArray below meth c H locs 0 0 (MQ below (va_Ql (fun (r : Int64) (u : Int32 × Int32 × Int32 × Int32 × Int32 × (Nat → Int32)) => post r u.1 u.2.1 u.2.2.1 u.2.2.2.1 u.2.2.2.2.1 u.2.2.2.2.2) (fun (u : Int32 × Int32 × Int32 × Int32 × Int32 × (Nat → Int32)) (t : State) => kE D A [(h0, .inr (3, [.ref h1, .ref h3, .int xst, .int xgo, .int xdo, .int xre, .int xkn])), (h1, .inr (2, [.ref h2, .int mz, .int ms, .int mg, .int m0, .int m1])), (h2, .inl (cI, 12, .inl mf)), (h3, .inr (2, [.ref h4, .int (u.1), .int (u.2.1), .int (u.2.2.1), .int (u.2.2.2.1), .int (u.2.2.2.2.1)])), (h4, .inl (cI, 12, .inl (u.2.2.2.2.2)))] t) A) ([.ref h0] : List Value).toArray s 0 0 A) (F0 m 47 ls []) := by
          intro K47_74 hk47_74
          intro n47
          induction n47 with
          | zero => intro v1_47 v4_47 H locs ls hP hD hS hv hl; exact hv.elim
          | succ n47 ih47 =>
            intro v1_47 v4_47 H locs ls hP hD hS hv hl
            refine lv_iload hx hb dX1_digest_47 (lv_at hl 3 rfl) ?_
            refine lv_iconst (v := (3 : Int32)) hx hb dX1_digest_49 (by decide) ?_
            refine lv_icmp_gt (tgt := 74) hx hb dX1_digest_50 (by decide) (fun hc => ?_) (fun hc => ?_)
            · have hv := hv.1 hc
              exact hk47_74 _ _ _ _ _ hP hD hS hv (lv_sub hl [0, 1, 2, 3] rfl)
            · have hv := hv.2 hc
              refine lv_lload_n hx hb dX1_digest_53 rfl (lv_at hl 1 rfl) ?_
              refine lv_ldc2 (v := (31 : Int64)) hx hb hown hC181 dX1_digest_54 ?_
              refine lv_lmul hx hb dX1_digest_57 ?_
              refine lv_aload_n hx hb dX1_digest_58 rfl (lv_at hl 0 rfl) ?_
              refine lv_iload_n hx hb dX1_digest_59 rfl (lv_at hl 2 rfl) ?_
              refine lv_iload hx hb dX1_digest_60 (lv_at hl 3 rfl) ?_
              refine kc_V (As := [.int v3_33, .int v4_47]) (rest := [.long (v1_47 * (31 : Int64))]) ⟨hx, hb, hml, hown, hts⟩ (kX1_ofPlace l D cI cB h0 h1 h2 h3 h4 mf mz ms mg m0 m1 tf tz ts tg t0 t1 xst xgo xdo xre xkn v3_33 v4_47 _ hv) (cwV 2 hts gX1_digest_X1_ofPlace rfl rfl rfl (by decide +kernel) ⟨Nat.le_of_ble_eq_true rfl, Nat.le_of_ble_eq_true rfl⟩) hP hK hN 3 rfl rfl rfl rfl hl.1 rfl (Nat.le_of_ble_eq_true rfl) dX1_digest_62 ⟨Nat.le_of_ble_eq_true rfl, Nat.le_of_ble_eq_true rfl⟩ (fun r62 hv => ?_)
              refine lv_i2l hx hb dX1_digest_65 rfl ?_
              refine lv_ladd hx hb dX1_digest_66 ?_
              refine lv_lstore_n (lv' := [(1, .long ((v1_47 * (31 : Int64)) + r62.toInt64)), (0, .ref h0), (3, .int v3_33), (4, .int v4_47)]) hx hb dX1_digest_67 rfl hl (by decide) rfl (fun ls hl => ?_)
              refine lv_iinc (v := (v4_47 + (1 : Int32))) (lv' := [(4, .int (v4_47 + (1 : Int32))), (1, .long ((v1_47 * (31 : Int64)) + r62.toInt64)), (0, .ref h0), (3, .int v3_33)]) hx hb dX1_digest_68 hl (k := 3) rfl rfl (by decide) rfl (fun ls hl => ?_)
              refine lv_goto (tgt := 47) hx hb dX1_digest_71 (by decide) ?_
              exact ih47 _ _ _ _ _ hP hD hS hv (lv_sub hl [2, 1, 3, 0] rfl)
        obtain ⟨n47, hv⟩ := hv
        refine L47 _ (fun v1_47x v4_47x H locs ls hP hD hS hv hl => ?_) n47 _ _ _ _ _ hP hD hS hv (lv_sub hl [1, 2, 3, 0] rfl)
        refine lv_lload_n hx hb dX1_digest_74 rfl (lv_at hl 1 rfl) ?_
        refine lv_ldc2 (v := (31 : Int64)) hx hb hown hC181 dX1_digest_75 ?_
        refine lv_lmul hx hb dX1_digest_78 ?_
        refine lv_aload_n hx hb dX1_digest_79 rfl (lv_at hl 0 rfl) ?_
        refine lv_iconst (v := (0 : Int32)) hx hb dX1_digest_80 (by decide) ?_
        refine lv_iload_n hx hb dX1_digest_81 rfl (lv_at hl 2 rfl) ?_
        refine kc_V (As := [.int (0 : Int32), .int v3_33]) (rest := [.long (v1_47x * (31 : Int64))]) ⟨hx, hb, hml, hown, hts⟩ (kX1_rounds l D cI cB h0 h1 h2 h3 h4 mf mz ms mg m0 m1 tf tz ts tg t0 t1 xst xgo xdo xre xkn (0 : Int32) v3_33 _ hv) (cwV 2 hts gX1_digest_X1_rounds rfl rfl rfl (by decide +kernel) ⟨Nat.le_of_ble_eq_true rfl, Nat.le_of_ble_eq_true rfl⟩) hP hK hN 3 rfl rfl rfl rfl hl.1 rfl (Nat.le_of_ble_eq_true rfl) dX1_digest_82 ⟨Nat.le_of_ble_eq_true rfl, Nat.le_of_ble_eq_true rfl⟩ (fun r82 hv => ?_)
        refine lv_i2l hx hb dX1_digest_85 rfl ?_
        refine lv_ladd hx hb dX1_digest_86 ?_
        refine lv_lstore_n (lv' := [(1, .long ((v1_47x * (31 : Int64)) + r82.toInt64)), (0, .ref h0), (3, .int v3_33), (4, .int v4_47x)]) hx hb dX1_digest_87 rfl hl (by decide) rfl (fun ls hl => ?_)
        refine lv_lload_n hx hb dX1_digest_88 rfl (lv_at hl 0 rfl) ?_
        refine lv_ldc2 (v := (31 : Int64)) hx hb hown hC181 dX1_digest_89 ?_
        refine lv_lmul hx hb dX1_digest_92 ?_
        refine lv_aload_n hx hb dX1_digest_93 rfl (lv_at hl 1 rfl) ?_
        refine lv_iconst (v := (1 : Int32)) hx hb dX1_digest_94 (by decide) ?_
        refine lv_iload_n hx hb dX1_digest_95 rfl (lv_at hl 2 rfl) ?_
        refine kc_V (As := [.int (1 : Int32), .int v3_33]) (rest := [.long (((v1_47x * (31 : Int64)) + r82.toInt64) * (31 : Int64))]) ⟨hx, hb, hml, hown, hts⟩ (kX1_rounds l D cI cB h0 h1 h2 h3 h4 mf mz ms mg m0 m1 tf tz ts tg t0 t1 xst xgo xdo xre xkn (1 : Int32) v3_33 _ hv) (cwV 2 hts gX1_digest_X1_rounds rfl rfl rfl (by decide +kernel) ⟨Nat.le_of_ble_eq_true rfl, Nat.le_of_ble_eq_true rfl⟩) hP hK hN 3 rfl rfl rfl rfl hl.1 rfl (Nat.le_of_ble_eq_true rfl) dX1_digest_96 ⟨Nat.le_of_ble_eq_true rfl, Nat.le_of_ble_eq_true rfl⟩ (fun r96 hv => ?_)
        refine lv_i2l hx hb dX1_digest_99 rfl ?_
        refine lv_ladd hx hb dX1_digest_100 ?_
        refine lv_lstore_n (lv' := [(1, .long ((((v1_47x * (31 : Int64)) + r82.toInt64) * (31 : Int64)) + r96.toInt64)), (0, .ref h0), (3, .int v3_33), (4, .int v4_47x)]) hx hb dX1_digest_101 rfl hl (by decide) rfl (fun ls hl => ?_)
        refine lv_lload_n hx hb dX1_digest_102 rfl (lv_at hl 0 rfl) ?_
        refine lv_ldc2 (v := (31 : Int64)) hx hb hown hC181 dX1_digest_103 ?_
        refine lv_lmul hx hb dX1_digest_106 ?_
        refine lv_aload_n hx hb dX1_digest_107 rfl (lv_at hl 1 rfl) ?_
        refine lv_iconst (v := (0 : Int32)) hx hb dX1_digest_108 (by decide) ?_
        refine lv_iload_n hx hb dX1_digest_109 rfl (lv_at hl 2 rfl) ?_
        refine kc_V (As := [.int (0 : Int32), .int v3_33]) (rest := [.long (((((v1_47x * (31 : Int64)) + r82.toInt64) * (31 : Int64)) + r96.toInt64) * (31 : Int64))]) ⟨hx, hb, hml, hown, hts⟩ (kX1_againRounds l D cI cB h0 h1 h2 h3 h4 mf mz ms mg m0 m1 tf tz ts tg t0 t1 xst xgo xdo xre xkn (0 : Int32) v3_33 _ hv) (cwV 2 hts gX1_digest_X1_againRounds rfl rfl rfl (by decide +kernel) ⟨Nat.le_of_ble_eq_true rfl, Nat.le_of_ble_eq_true rfl⟩) hP hK hN 3 rfl rfl rfl rfl hl.1 rfl (Nat.le_of_ble_eq_true rfl) dX1_digest_110 ⟨Nat.le_of_ble_eq_true rfl, Nat.le_of_ble_eq_true rfl⟩ (fun r110 hv => ?_)
        refine lv_i2l hx hb dX1_digest_113 rfl ?_
        refine lv_ladd hx hb dX1_digest_114 ?_
        refine lv_lstore_n (lv' := [(1, .long ((((((v1_47x * (31 : Int64)) + r82.toInt64) * (31 : Int64)) + r96.toInt64) * (31 : Int64)) + r110.toInt64)), (0, .ref h0), (3, .int v3_33), (4, .int v4_47x)]) hx hb dX1_digest_115 rfl hl (by decide) rfl (fun ls hl => ?_)
        refine lv_lload_n hx hb dX1_digest_116 rfl (lv_at hl 0 rfl) ?_
        refine lv_ldc2 (v := (31 : Int64)) hx hb hown hC181 dX1_digest_117 ?_
        refine lv_lmul hx hb dX1_digest_120 ?_
        refine lv_aload_n hx hb dX1_digest_121 rfl (lv_at hl 1 rfl) ?_
        refine lv_iconst (v := (1 : Int32)) hx hb dX1_digest_122 (by decide) ?_
        refine lv_iload_n hx hb dX1_digest_123 rfl (lv_at hl 2 rfl) ?_
        refine kc_V (As := [.int (1 : Int32), .int v3_33]) (rest := [.long (((((((v1_47x * (31 : Int64)) + r82.toInt64) * (31 : Int64)) + r96.toInt64) * (31 : Int64)) + r110.toInt64) * (31 : Int64))]) ⟨hx, hb, hml, hown, hts⟩ (kX1_againRounds l D cI cB h0 h1 h2 h3 h4 mf mz ms mg m0 m1 tf tz ts tg t0 t1 xst xgo xdo xre xkn (1 : Int32) v3_33 _ hv) (cwV 2 hts gX1_digest_X1_againRounds rfl rfl rfl (by decide +kernel) ⟨Nat.le_of_ble_eq_true rfl, Nat.le_of_ble_eq_true rfl⟩) hP hK hN 3 rfl rfl rfl rfl hl.1 rfl (Nat.le_of_ble_eq_true rfl) dX1_digest_124 ⟨Nat.le_of_ble_eq_true rfl, Nat.le_of_ble_eq_true rfl⟩ (fun r124 hv => ?_)
        refine lv_i2l hx hb dX1_digest_127 rfl ?_
        refine lv_ladd hx hb dX1_digest_128 ?_
        refine lv_lstore_n (lv' := [(1, .long ((((((((v1_47x * (31 : Int64)) + r82.toInt64) * (31 : Int64)) + r96.toInt64) * (31 : Int64)) + r110.toInt64) * (31 : Int64)) + r124.toInt64)), (0, .ref h0), (3, .int v3_33), (4, .int v4_47x)]) hx hb dX1_digest_129 rfl hl (by decide) rfl (fun ls hl => ?_)
        refine lv_iinc (v := (v3_33 + (1 : Int32))) (lv' := [(3, .int (v3_33 + (1 : Int32))), (1, .long ((((((((v1_47x * (31 : Int64)) + r82.toInt64) * (31 : Int64)) + r96.toInt64) * (31 : Int64)) + r110.toInt64) * (31 : Int64)) + r124.toInt64)), (0, .ref h0), (4, .int v4_47x)]) hx hb dX1_digest_130 hl (k := 2) rfl rfl (by decide) rfl (fun ls hl => ?_)
        refine lv_goto (tgt := 33) hx hb dX1_digest_133 (by decide) ?_
        exact ih33 _ _ _ _ _ hP hD hS hv (lv_sub hl [2, 1, 0] rfl)
  obtain ⟨n33, hv⟩ := hv
  refine L33 _ (fun v1_33x v3_33x H locs ls hP hD hS hv hl => ?_) n33 _ _ _ _ _ hP hD hS hv (lv_sub hl [1, 2, 0] rfl)
  refine lv_iconst (v := (0 : Int32)) hx hb dX1_digest_136 (by decide) ?_
  refine lv_istore_n (lv' := [(3, .int (0 : Int32)), (0, .ref h0), (1, .long v1_33x)]) hx hb dX1_digest_137 rfl hl (by decide) rfl (fun ls hl => ?_)
  have L138 : ∀ (K138_227 : Int64 → Int32 → Prop), (∀ (v1_138 : Int64) (v3_138 : Int32) (H : Heap) (locs : List Loc) (ls : Array Slot), va_P D vwCl [(h0, .inr (3, [.ref h1, .ref h3, .int xst, .int xgo, .int xdo, .int xre, .int xkn])), (h1, .inr (2, [.ref h2, .int mz, .int ms, .int mg, .int m0, .int m1])), (h2, .inl (cI, 12, .inl mf)), (h3, .inr (2, [.ref h4, .int tz, .int ts, .int tg, .int t0, .int t1])), (h4, .inl (cI, 12, .inl tf))] H → va_D A [(h0, .inr (3, [.ref h1, .ref h3, .int xst, .int xgo, .int xdo, .int xre, .int xkn])), (h1, .inr (2, [.ref h2, .int mz, .int ms, .int mg, .int m0, .int m1])), (h2, .inl (cI, 12, .inl mf)), (h3, .inr (2, [.ref h4, .int tz, .int ts, .int tg, .int t0, .int t1])), (h4, .inl (cI, 12, .inl tf))] → va_S A s.heap H locs → K138_227 v1_138 v3_138 → lv_has ls 5 [(0, .ref h0), (1, .long v1_138), (3, .int v3_138)] → W p l e (headSpec wsX1_digest ({ frames := 6, cells := 0, slots := 0, locals := 146 })).room s m ([.ref h0] : List Value).toArray below meth c H locs 0 0 (MQ below (va_Ql (fun (r : Int64) (u : Int32 × Int32 × Int32 × Int32 × Int32 × (Nat → Int32)) => post r u.1 u.2.1 u.2.2.1 u.2.2.2.1 u.2.2.2.2.1 u.2.2.2.2.2) (fun (u : Int32 × Int32 × Int32 × Int32 × Int32 × (Nat → Int32)) (t : State) => kE D A [(h0, .inr (3, [.ref h1, .ref h3, .int xst, .int xgo, .int xdo, .int xre, .int xkn])), (h1, .inr (2, [.ref h2, .int mz, .int ms, .int mg, .int m0, .int m1])), (h2, .inl (cI, 12, .inl mf)), (h3, .inr (2, [.ref h4, .int (u.1), .int (u.2.1), .int (u.2.2.1), .int (u.2.2.2.1), .int (u.2.2.2.2.1)])), (h4, .inl (cI, 12, .inl (u.2.2.2.2.2)))] t) A) ([.ref h0] : List Value).toArray s 0 0 A) (F0 m 227 ls [])) → ∀ (n138 : Nat) (v1_138 : Int64) (v3_138 : Int32) (H : Heap) (locs : List Loc) (ls : Array Slot), va_P D vwCl [(h0, .inr (3, [.ref h1, .ref h3, .int xst, .int xgo, .int xdo, .int xre, .int xkn])), (h1, .inr (2, [.ref h2, .int mz, .int ms, .int mg, .int m0, .int m1])), (h2, .inl (cI, 12, .inl mf)), (h3, .inr (2, [.ref h4, .int tz, .int ts, .int tg, .int t0, .int t1])), (h4, .inl (cI, 12, .inl tf))] H → va_D A [(h0, .inr (3, [.ref h1, .ref h3, .int xst, .int xgo, .int xdo, .int xre, .int xkn])), (h1, .inr (2, [.ref h2, .int mz, .int ms, .int mg, .int m0, .int m1])), (h2, .inl (cI, 12, .inl mf)), (h3, .inr (2, [.ref h4, .int tz, .int ts, .int tg, .int t0, .int t1])), (h4, .inl (cI, 12, .inl tf))] → va_S A s.heap H locs → qX1_digest_W138 mf mz ms mg m0 m1 K138_227 n138 v1_138 v3_138 → lv_has ls 5 [(0, .ref h0), (1, .long v1_138), (3, .int v3_138)] → W p l e (headSpec wsX1_digest ({ frames := 6, cells := 0, slots := 0, locals := 146 })).room s m ([.ref h0] : List Value).toArray below meth c H locs 0 0 (MQ below (va_Ql (fun (r : Int64) (u : Int32 × Int32 × Int32 × Int32 × Int32 × (Nat → Int32)) => post r u.1 u.2.1 u.2.2.1 u.2.2.2.1 u.2.2.2.2.1 u.2.2.2.2.2) (fun (u : Int32 × Int32 × Int32 × Int32 × Int32 × (Nat → Int32)) (t : State) => kE D A [(h0, .inr (3, [.ref h1, .ref h3, .int xst, .int xgo, .int xdo, .int xre, .int xkn])), (h1, .inr (2, [.ref h2, .int mz, .int ms, .int mg, .int m0, .int m1])), (h2, .inl (cI, 12, .inl mf)), (h3, .inr (2, [.ref h4, .int (u.1), .int (u.2.1), .int (u.2.2.1), .int (u.2.2.2.1), .int (u.2.2.2.2.1)])), (h4, .inl (cI, 12, .inl (u.2.2.2.2.2)))] t) A) ([.ref h0] : List Value).toArray s 0 0 A) (F0 m 138 ls []) := by
    intro K138_227 hk138_227
    intro n138
    induction n138 with
    | zero => intro v1_138 v3_138 H locs ls hP hD hS hv hl; exact hv.elim
    | succ n138 ih138 =>
      intro v1_138 v3_138 H locs ls hP hD hS hv hl
      refine lv_iload_n hx hb dX1_digest_138 rfl (lv_at hl 2 rfl) ?_
      refine lv_iconst (v := (1 : Int32)) hx hb dX1_digest_139 (by decide) ?_
      refine lv_icmp_gt (tgt := 227) hx hb dX1_digest_140 (by decide) (fun hc => ?_) (fun hc => ?_)
      · have hv := hv.1 hc
        exact hk138_227 _ _ _ _ _ hP hD hS hv (lv_sub hl [0, 1, 2] rfl)
      · have hv := hv.2 hc
        refine lv_lload_n hx hb dX1_digest_143 rfl (lv_at hl 1 rfl) ?_
        refine lv_ldc2 (v := (31 : Int64)) hx hb hown hC181 dX1_digest_144 ?_
        refine lv_lmul hx hb dX1_digest_147 ?_
        refine lv_aload_n hx hb dX1_digest_148 rfl (lv_at hl 0 rfl) ?_
        refine lv_iload_n hx hb dX1_digest_149 rfl (lv_at hl 2 rfl) ?_
        refine kc_V (As := [.int v3_138]) (rest := [.long (v1_138 * (31 : Int64))]) ⟨hx, hb, hml, hown, hts⟩ (kX1_coming l D cI cB h0 h1 h2 h3 h4 mf mz ms mg m0 m1 tf tz ts tg t0 t1 xst xgo xdo xre xkn v3_138 _ hv) (cwV 1 hts gX1_digest_X1_coming rfl rfl rfl (by decide +kernel) ⟨Nat.le_of_ble_eq_true rfl, Nat.le_of_ble_eq_true rfl⟩) hP hK hN 3 rfl rfl rfl rfl hl.1 rfl (Nat.le_of_ble_eq_true rfl) dX1_digest_150 ⟨Nat.le_of_ble_eq_true rfl, Nat.le_of_ble_eq_true rfl⟩ (fun r150 hv => ?_)
        refine lv_i2l hx hb dX1_digest_153 rfl ?_
        refine lv_ladd hx hb dX1_digest_154 ?_
        refine lv_lstore_n (lv' := [(1, .long ((v1_138 * (31 : Int64)) + r150.toInt64)), (0, .ref h0), (3, .int v3_138)]) hx hb dX1_digest_155 rfl hl (by decide) rfl (fun ls hl => ?_)
        refine lv_lload_n hx hb dX1_digest_156 rfl (lv_at hl 0 rfl) ?_
        refine lv_ldc2 (v := (31 : Int64)) hx hb hown hC181 dX1_digest_157 ?_
        refine lv_lmul hx hb dX1_digest_160 ?_
        refine lv_aload_n hx hb dX1_digest_161 rfl (lv_at hl 1 rfl) ?_
        refine lv_iload_n hx hb dX1_digest_162 rfl (lv_at hl 2 rfl) ?_
        refine kc_V (As := [.int v3_138]) (rest := [.long (((v1_138 * (31 : Int64)) + r150.toInt64) * (31 : Int64))]) ⟨hx, hb, hml, hown, hts⟩ (kX1_keeping l D cI cB h0 h1 h2 h3 h4 mf mz ms mg m0 m1 tf tz ts tg t0 t1 xst xgo xdo xre xkn v3_138 _ hv) (cwV 1 hts gX1_digest_X1_keeping rfl rfl rfl (by decide +kernel) ⟨Nat.le_of_ble_eq_true rfl, Nat.le_of_ble_eq_true rfl⟩) hP hK hN 3 rfl rfl rfl rfl hl.1 rfl (Nat.le_of_ble_eq_true rfl) dX1_digest_163 ⟨Nat.le_of_ble_eq_true rfl, Nat.le_of_ble_eq_true rfl⟩ (fun r163 hv => ?_)
        refine lv_i2l hx hb dX1_digest_166 rfl ?_
        refine lv_ladd hx hb dX1_digest_167 ?_
        refine lv_lstore_n (lv' := [(1, .long ((((v1_138 * (31 : Int64)) + r150.toInt64) * (31 : Int64)) + r163.toInt64)), (0, .ref h0), (3, .int v3_138)]) hx hb dX1_digest_168 rfl hl (by decide) rfl (fun ls hl => ?_)
        refine lv_lload_n hx hb dX1_digest_169 rfl (lv_at hl 0 rfl) ?_
        refine lv_ldc2 (v := (31 : Int64)) hx hb hown hC181 dX1_digest_170 ?_
        refine lv_lmul hx hb dX1_digest_173 ?_
        refine lv_aload_n hx hb dX1_digest_174 rfl (lv_at hl 1 rfl) ?_
        refine lv_iload_n hx hb dX1_digest_175 rfl (lv_at hl 2 rfl) ?_
        refine kc_V (As := [.int v3_138]) (rest := [.long (((((v1_138 * (31 : Int64)) + r150.toInt64) * (31 : Int64)) + r163.toInt64) * (31 : Int64))]) ⟨hx, hb, hml, hown, hts⟩ (kX1_again l D cI cB h0 h1 h2 h3 h4 mf mz ms mg m0 m1 tf tz ts tg t0 t1 xst xgo xdo xre xkn v3_138 _ hv) (cwV 1 hts gX1_digest_X1_again rfl rfl rfl (by decide +kernel) ⟨Nat.le_of_ble_eq_true rfl, Nat.le_of_ble_eq_true rfl⟩) hP hK hN 3 rfl rfl rfl rfl hl.1 rfl (Nat.le_of_ble_eq_true rfl) dX1_digest_176 ⟨Nat.le_of_ble_eq_true rfl, Nat.le_of_ble_eq_true rfl⟩ (fun r176 hv => ?_)
        refine lv_i2l hx hb dX1_digest_179 rfl ?_
        refine lv_ladd hx hb dX1_digest_180 ?_
        refine lv_lstore_n (lv' := [(1, .long ((((((v1_138 * (31 : Int64)) + r150.toInt64) * (31 : Int64)) + r163.toInt64) * (31 : Int64)) + r176.toInt64)), (0, .ref h0), (3, .int v3_138)]) hx hb dX1_digest_181 rfl hl (by decide) rfl (fun ls hl => ?_)
        refine lv_lload_n hx hb dX1_digest_182 rfl (lv_at hl 0 rfl) ?_
        refine lv_ldc2 (v := (31 : Int64)) hx hb hown hC181 dX1_digest_183 ?_
        refine lv_lmul hx hb dX1_digest_186 ?_
        refine lv_aload_n hx hb dX1_digest_187 rfl (lv_at hl 1 rfl) ?_
        refine lv_iload_n hx hb dX1_digest_188 rfl (lv_at hl 2 rfl) ?_
        refine kc_V (As := [.int v3_138]) (rest := [.long (((((((v1_138 * (31 : Int64)) + r150.toInt64) * (31 : Int64)) + r163.toInt64) * (31 : Int64)) + r176.toInt64) * (31 : Int64))]) ⟨hx, hb, hml, hown, hts⟩ (kX1_ranked l D cI cB h0 h1 h2 h3 h4 mf mz ms mg m0 m1 tf tz ts tg t0 t1 xst xgo xdo xre xkn v3_138 _ hv) (cwV 1 hts gX1_digest_X1_ranked rfl rfl rfl (by decide +kernel) ⟨Nat.le_of_ble_eq_true rfl, Nat.le_of_ble_eq_true rfl⟩) hP hK hN 3 rfl rfl rfl rfl hl.1 rfl (Nat.le_of_ble_eq_true rfl) dX1_digest_189 ⟨Nat.le_of_ble_eq_true rfl, Nat.le_of_ble_eq_true rfl⟩ (fun r189 hv => ?_)
        refine lv_i2l hx hb dX1_digest_192 rfl ?_
        refine lv_ladd hx hb dX1_digest_193 ?_
        refine lv_lstore_n (lv' := [(1, .long ((((((((v1_138 * (31 : Int64)) + r150.toInt64) * (31 : Int64)) + r163.toInt64) * (31 : Int64)) + r176.toInt64) * (31 : Int64)) + r189.toInt64)), (0, .ref h0), (3, .int v3_138)]) hx hb dX1_digest_194 rfl hl (by decide) rfl (fun ls hl => ?_)
        refine lv_lload_n hx hb dX1_digest_195 rfl (lv_at hl 0 rfl) ?_
        refine lv_ldc2 (v := (31 : Int64)) hx hb hown hC181 dX1_digest_196 ?_
        refine lv_lmul hx hb dX1_digest_199 ?_
        refine lv_aload_n hx hb dX1_digest_200 rfl (lv_at hl 1 rfl) ?_
        refine lv_iload_n hx hb dX1_digest_201 rfl (lv_at hl 2 rfl) ?_
        refine kc_V (As := [.int v3_138]) (rest := [.long (((((((((v1_138 * (31 : Int64)) + r150.toInt64) * (31 : Int64)) + r163.toInt64) * (31 : Int64)) + r176.toInt64) * (31 : Int64)) + r189.toInt64) * (31 : Int64))]) ⟨hx, hb, hml, hown, hts⟩ (kX1_falls l D cI cB h0 h1 h2 h3 h4 mf mz ms mg m0 m1 tf tz ts tg t0 t1 xst xgo xdo xre xkn v3_138 _ hv) (cwV 1 hts gX1_digest_X1_falls rfl rfl rfl (by decide +kernel) ⟨Nat.le_of_ble_eq_true rfl, Nat.le_of_ble_eq_true rfl⟩) hP hK hN 3 rfl rfl rfl rfl hl.1 rfl (Nat.le_of_ble_eq_true rfl) dX1_digest_202 ⟨Nat.le_of_ble_eq_true rfl, Nat.le_of_ble_eq_true rfl⟩ (fun r202 hv => ?_)
        refine lv_i2l hx hb dX1_digest_205 rfl ?_
        refine lv_ladd hx hb dX1_digest_206 ?_
        refine lv_lstore_n (lv' := [(1, .long ((((((((((v1_138 * (31 : Int64)) + r150.toInt64) * (31 : Int64)) + r163.toInt64) * (31 : Int64)) + r176.toInt64) * (31 : Int64)) + r189.toInt64) * (31 : Int64)) + r202.toInt64)), (0, .ref h0), (3, .int v3_138)]) hx hb dX1_digest_207 rfl hl (by decide) rfl (fun ls hl => ?_)
        refine lv_lload_n hx hb dX1_digest_208 rfl (lv_at hl 0 rfl) ?_
        refine lv_ldc2 (v := (31 : Int64)) hx hb hown hC181 dX1_digest_209 ?_
        refine lv_lmul hx hb dX1_digest_212 ?_
        refine lv_aload_n hx hb dX1_digest_213 rfl (lv_at hl 1 rfl) ?_
        refine lv_iload_n hx hb dX1_digest_214 rfl (lv_at hl 2 rfl) ?_
        refine kc_V (As := [.int v3_138]) (rest := [.long (((((((((((v1_138 * (31 : Int64)) + r150.toInt64) * (31 : Int64)) + r163.toInt64) * (31 : Int64)) + r176.toInt64) * (31 : Int64)) + r189.toInt64) * (31 : Int64)) + r202.toInt64) * (31 : Int64))]) ⟨hx, hb, hml, hown, hts⟩ (kX1_choices l D cI cB h0 h1 h2 h3 h4 mf mz ms mg m0 m1 tf tz ts tg t0 t1 xst xgo xdo xre xkn v3_138 _ hv) (cwV 1 hts gX1_digest_X1_choices rfl rfl rfl (by decide +kernel) ⟨Nat.le_of_ble_eq_true rfl, Nat.le_of_ble_eq_true rfl⟩) hP hK hN 3 rfl rfl rfl rfl hl.1 rfl (Nat.le_of_ble_eq_true rfl) dX1_digest_215 ⟨Nat.le_of_ble_eq_true rfl, Nat.le_of_ble_eq_true rfl⟩ (fun r215 hv => ?_)
        refine lv_i2l hx hb dX1_digest_218 rfl ?_
        refine lv_ladd hx hb dX1_digest_219 ?_
        refine lv_lstore_n (lv' := [(1, .long ((((((((((((v1_138 * (31 : Int64)) + r150.toInt64) * (31 : Int64)) + r163.toInt64) * (31 : Int64)) + r176.toInt64) * (31 : Int64)) + r189.toInt64) * (31 : Int64)) + r202.toInt64) * (31 : Int64)) + r215.toInt64)), (0, .ref h0), (3, .int v3_138)]) hx hb dX1_digest_220 rfl hl (by decide) rfl (fun ls hl => ?_)
        refine lv_iinc (v := (v3_138 + (1 : Int32))) (lv' := [(3, .int (v3_138 + (1 : Int32))), (1, .long ((((((((((((v1_138 * (31 : Int64)) + r150.toInt64) * (31 : Int64)) + r163.toInt64) * (31 : Int64)) + r176.toInt64) * (31 : Int64)) + r189.toInt64) * (31 : Int64)) + r202.toInt64) * (31 : Int64)) + r215.toInt64)), (0, .ref h0)]) hx hb dX1_digest_221 hl (k := 2) rfl rfl (by decide) rfl (fun ls hl => ?_)
        refine lv_goto (tgt := 138) hx hb dX1_digest_224 (by decide) ?_
        exact ih138 _ _ _ _ _ hP hD hS hv (lv_sub hl [2, 1, 0] rfl)
  obtain ⟨n138, hv⟩ := hv
  refine L138 _ (fun v1_138x v3_138x H locs ls hP hD hS hv hl => ?_) n138 _ _ _ _ _ hP hD hS hv (lv_sub hl [1, 2, 0] rfl)
  refine lv_iconst (v := (0 : Int32)) hx hb dX1_digest_227 (by decide) ?_
  refine lv_istore_n (lv' := [(3, .int (0 : Int32)), (0, .ref h0), (1, .long v1_138x)]) hx hb dX1_digest_228 rfl hl (by decide) rfl (fun ls hl => ?_)
  have L229 : ∀ (K229_253 : Int64 → Int32 → Prop), (∀ (v1_229 : Int64) (v3_229 : Int32) (H : Heap) (locs : List Loc) (ls : Array Slot), va_P D vwCl [(h0, .inr (3, [.ref h1, .ref h3, .int xst, .int xgo, .int xdo, .int xre, .int xkn])), (h1, .inr (2, [.ref h2, .int mz, .int ms, .int mg, .int m0, .int m1])), (h2, .inl (cI, 12, .inl mf)), (h3, .inr (2, [.ref h4, .int tz, .int ts, .int tg, .int t0, .int t1])), (h4, .inl (cI, 12, .inl tf))] H → va_D A [(h0, .inr (3, [.ref h1, .ref h3, .int xst, .int xgo, .int xdo, .int xre, .int xkn])), (h1, .inr (2, [.ref h2, .int mz, .int ms, .int mg, .int m0, .int m1])), (h2, .inl (cI, 12, .inl mf)), (h3, .inr (2, [.ref h4, .int tz, .int ts, .int tg, .int t0, .int t1])), (h4, .inl (cI, 12, .inl tf))] → va_S A s.heap H locs → K229_253 v1_229 v3_229 → lv_has ls 5 [(0, .ref h0), (1, .long v1_229), (3, .int v3_229)] → W p l e (headSpec wsX1_digest ({ frames := 6, cells := 0, slots := 0, locals := 146 })).room s m ([.ref h0] : List Value).toArray below meth c H locs 0 0 (MQ below (va_Ql (fun (r : Int64) (u : Int32 × Int32 × Int32 × Int32 × Int32 × (Nat → Int32)) => post r u.1 u.2.1 u.2.2.1 u.2.2.2.1 u.2.2.2.2.1 u.2.2.2.2.2) (fun (u : Int32 × Int32 × Int32 × Int32 × Int32 × (Nat → Int32)) (t : State) => kE D A [(h0, .inr (3, [.ref h1, .ref h3, .int xst, .int xgo, .int xdo, .int xre, .int xkn])), (h1, .inr (2, [.ref h2, .int mz, .int ms, .int mg, .int m0, .int m1])), (h2, .inl (cI, 12, .inl mf)), (h3, .inr (2, [.ref h4, .int (u.1), .int (u.2.1), .int (u.2.2.1), .int (u.2.2.2.1), .int (u.2.2.2.2.1)])), (h4, .inl (cI, 12, .inl (u.2.2.2.2.2)))] t) A) ([.ref h0] : List Value).toArray s 0 0 A) (F0 m 253 ls [])) → ∀ (n229 : Nat) (v1_229 : Int64) (v3_229 : Int32) (H : Heap) (locs : List Loc) (ls : Array Slot), va_P D vwCl [(h0, .inr (3, [.ref h1, .ref h3, .int xst, .int xgo, .int xdo, .int xre, .int xkn])), (h1, .inr (2, [.ref h2, .int mz, .int ms, .int mg, .int m0, .int m1])), (h2, .inl (cI, 12, .inl mf)), (h3, .inr (2, [.ref h4, .int tz, .int ts, .int tg, .int t0, .int t1])), (h4, .inl (cI, 12, .inl tf))] H → va_D A [(h0, .inr (3, [.ref h1, .ref h3, .int xst, .int xgo, .int xdo, .int xre, .int xkn])), (h1, .inr (2, [.ref h2, .int mz, .int ms, .int mg, .int m0, .int m1])), (h2, .inl (cI, 12, .inl mf)), (h3, .inr (2, [.ref h4, .int tz, .int ts, .int tg, .int t0, .int t1])), (h4, .inl (cI, 12, .inl tf))] → va_S A s.heap H locs → qX1_digest_W229 xdo xre xkn K229_253 n229 v1_229 v3_229 → lv_has ls 5 [(0, .ref h0), (1, .long v1_229), (3, .int v3_229)] → W p l e (headSpec wsX1_digest ({ frames := 6, cells := 0, slots := 0, locals := 146 })).room s m ([.ref h0] : List Value).toArray below meth c H locs 0 0 (MQ below (va_Ql (fun (r : Int64) (u : Int32 × Int32 × Int32 × Int32 × Int32 × (Nat → Int32)) => post r u.1 u.2.1 u.2.2.1 u.2.2.2.1 u.2.2.2.2.1 u.2.2.2.2.2) (fun (u : Int32 × Int32 × Int32 × Int32 × Int32 × (Nat → Int32)) (t : State) => kE D A [(h0, .inr (3, [.ref h1, .ref h3, .int xst, .int xgo, .int xdo, .int xre, .int xkn])), (h1, .inr (2, [.ref h2, .int mz, .int ms, .int mg, .int m0, .int m1])), (h2, .inl (cI, 12, .inl mf)), (h3, .inr (2, [.ref h4, .int (u.1), .int (u.2.1), .int (u.2.2.1), .int (u.2.2.2.1), .int (u.2.2.2.2.1)])), (h4, .inl (cI, 12, .inl (u.2.2.2.2.2)))] t) A) ([.ref h0] : List Value).toArray s 0 0 A) (F0 m 229 ls []) := by
    intro K229_253 hk229_253
    intro n229
    induction n229 with
    | zero => intro v1_229 v3_229 H locs ls hP hD hS hv hl; exact hv.elim
    | succ n229 ih229 =>
      intro v1_229 v3_229 H locs ls hP hD hS hv hl
      refine lv_iload_n hx hb dX1_digest_229 rfl (lv_at hl 2 rfl) ?_
      refine lv_iconst (v := (2 : Int32)) hx hb dX1_digest_230 (by decide) ?_
      refine lv_icmp_gt (tgt := 253) hx hb dX1_digest_231 (by decide) (fun hc => ?_) (fun hc => ?_)
      · have hv := hv.1 hc
        exact hk229_253 _ _ _ _ _ hP hD hS hv (lv_sub hl [0, 1, 2] rfl)
      · have hv := hv.2 hc
        refine lv_lload_n hx hb dX1_digest_234 rfl (lv_at hl 1 rfl) ?_
        refine lv_ldc2 (v := (31 : Int64)) hx hb hown hC181 dX1_digest_235 ?_
        refine lv_lmul hx hb dX1_digest_238 ?_
        refine lv_aload_n hx hb dX1_digest_239 rfl (lv_at hl 0 rfl) ?_
        refine lv_iload_n hx hb dX1_digest_240 rfl (lv_at hl 2 rfl) ?_
        refine kc_V (As := [.int v3_229]) (rest := [.long (v1_229 * (31 : Int64))]) ⟨hx, hb, hml, hown, hts⟩ (kX1_house l D cI cB h0 h1 h2 h3 h4 mf mz ms mg m0 m1 tf tz ts tg t0 t1 xst xgo xdo xre xkn v3_229 _ hv) (cwV 1 hts gX1_digest_X1_house rfl rfl rfl (by decide +kernel) ⟨Nat.le_of_ble_eq_true rfl, Nat.le_of_ble_eq_true rfl⟩) hP hK hN 3 rfl rfl rfl rfl hl.1 rfl (Nat.le_of_ble_eq_true rfl) dX1_digest_241 ⟨Nat.le_of_ble_eq_true rfl, Nat.le_of_ble_eq_true rfl⟩ (fun r241 hv => ?_)
        refine lv_i2l hx hb dX1_digest_244 rfl ?_
        refine lv_ladd hx hb dX1_digest_245 ?_
        refine lv_lstore_n (lv' := [(1, .long ((v1_229 * (31 : Int64)) + r241.toInt64)), (0, .ref h0), (3, .int v3_229)]) hx hb dX1_digest_246 rfl hl (by decide) rfl (fun ls hl => ?_)
        refine lv_iinc (v := (v3_229 + (1 : Int32))) (lv' := [(3, .int (v3_229 + (1 : Int32))), (1, .long ((v1_229 * (31 : Int64)) + r241.toInt64)), (0, .ref h0)]) hx hb dX1_digest_247 hl (k := 2) rfl rfl (by decide) rfl (fun ls hl => ?_)
        refine lv_goto (tgt := 229) hx hb dX1_digest_250 (by decide) ?_
        exact ih229 _ _ _ _ _ hP hD hS hv (lv_sub hl [2, 1, 0] rfl)
  obtain ⟨n229, hv⟩ := hv
  refine L229 _ (fun v1_229x v3_229x H locs ls hP hD hS hv hl => ?_) n229 _ _ _ _ _ hP hD hS hv (lv_sub hl [1, 2, 0] rfl)
  refine lv_lload_n hx hb dX1_digest_253 rfl (lv_at hl 1 rfl) ?_
  refine lv_ldc2 (v := (31 : Int64)) hx hb hown hC181 dX1_digest_254 ?_
  refine lv_lmul hx hb dX1_digest_257 ?_
  refine lv_aload_n hx hb dX1_digest_258 rfl (lv_at hl 0 rfl) ?_
  refine kw_i (wr := []) (va_runV (As := []) (rest := [.long (v1_229x * (31 : Int64))]) ⟨hx, hb, hml, hown, hts⟩ (kX1_isSoundW l D cI cB h0 h1 h2 h3 h4 mf mz ms mg m0 m1 tf tz ts tg t0 t1 xst xgo xdo xre xkn _ _ hv) (cwV 0 hts gX1_digest_X1_isSound rfl rfl rfl (by decide +kernel) ⟨Nat.le_of_ble_eq_true rfl, Nat.le_of_ble_eq_true rfl⟩) ⟨(kPreW (As := [.ref h0]) (hP.sub (ws' := [(h0, .inr (3, [.ref h1, .ref h3, .int xst, .int xgo, .int xdo, .int xre, .int xkn])), (h1, .inr (2, [.ref h2, .int mz, .int ms, .int mg, .int m0, .int m1])), (h2, .inl (cI, 12, .inl mf)), (h3, .inr (2, [.ref h4, .int tz, .int ts, .int tg, .int t0, .int t1])), (h4, .inl (cI, 12, .inl tf))]) [0, 1, 2, 3, 4] rfl) (hD.sub (ws' := [(h0, .inr (3, [.ref h1, .ref h3, .int xst, .int xgo, .int xdo, .int xre, .int xkn])), (h1, .inr (2, [.ref h2, .int mz, .int ms, .int mg, .int m0, .int m1])), (h2, .inl (cI, 12, .inl mf)), (h3, .inr (2, [.ref h4, .int tz, .int ts, .int tg, .int t0, .int t1])), (h4, .inl (cI, 12, .inl tf))]) [0, 1, 2, 3, 4] (by decide) rfl) hK hN).1, kRecv (hP.sub (ws' := [(h0, .inr (3, [.ref h1, .ref h3, .int xst, .int xgo, .int xdo, .int xre, .int xkn])), (h1, .inr (2, [.ref h2, .int mz, .int ms, .int mg, .int m0, .int m1])), (h2, .inl (cI, 12, .inl mf)), (h3, .inr (2, [.ref h4, .int tz, .int ts, .int tg, .int t0, .int t1])), (h4, .inl (cI, 12, .inl tf))]) [0, 1, 2, 3, 4] rfl) hK 3 rfl rfl rfl, (kPreW (As := [.ref h0]) (hP.sub (ws' := [(h0, .inr (3, [.ref h1, .ref h3, .int xst, .int xgo, .int xdo, .int xre, .int xkn])), (h1, .inr (2, [.ref h2, .int mz, .int ms, .int mg, .int m0, .int m1])), (h2, .inl (cI, 12, .inl mf)), (h3, .inr (2, [.ref h4, .int tz, .int ts, .int tg, .int t0, .int t1])), (h4, .inl (cI, 12, .inl tf))]) [0, 1, 2, 3, 4] rfl) (hD.sub (ws' := [(h0, .inr (3, [.ref h1, .ref h3, .int xst, .int xgo, .int xdo, .int xre, .int xkn])), (h1, .inr (2, [.ref h2, .int mz, .int ms, .int mg, .int m0, .int m1])), (h2, .inl (cI, 12, .inl mf)), (h3, .inr (2, [.ref h4, .int tz, .int ts, .int tg, .int t0, .int t1])), (h4, .inl (cI, 12, .inl tf))]) [0, 1, 2, 3, 4] (by decide) rfl) hK hN).2⟩ rfl rfl hl.1 rfl (lv_room (Nat.le_of_ble_eq_true rfl)) dX1_digest_259 ⟨Nat.le_of_ble_eq_true rfl, Nat.le_of_ble_eq_true rfl⟩) hP hD hS hA [0, 1, 2, 3, 4] [] rfl rfl (by decide) (by decide) (fun r259 u H locs hv hP hD hS => ?_)
  obtain ⟨x259_0, x259_1, x259_2, x259_3, x259_4, x259_5⟩ := u
  have hP : va_P D vwCl [(h0, .inr (3, [.ref h1, .ref h3, .int xst, .int xgo, .int xdo, .int xre, .int xkn])), (h1, .inr (2, [.ref h2, .int mz, .int ms, .int mg, .int m0, .int m1])), (h2, .inl (cI, 12, .inl mf)), (h3, .inr (2, [.ref h4, .int x259_0, .int x259_1, .int x259_2, .int x259_3, .int x259_4])), (h4, .inl (cI, 12, .inl x259_5))] H := hP.sub [0, 1, 2, 3, 4] rfl
  have hD : va_D A [(h0, .inr (3, [.ref h1, .ref h3, .int xst, .int xgo, .int xdo, .int xre, .int xkn])), (h1, .inr (2, [.ref h2, .int mz, .int ms, .int mg, .int m0, .int m1])), (h2, .inl (cI, 12, .inl mf)), (h3, .inr (2, [.ref h4, .int x259_0, .int x259_1, .int x259_2, .int x259_3, .int x259_4])), (h4, .inl (cI, 12, .inl x259_5))] := hD.sub [0, 1, 2, 3, 4] (by decide) rfl
  refine lv_if_eq (tgt := 269) hx hb dX1_digest_262 (by decide) (fun hc => ?_) (fun hc => ?_)
  · have hv := hv.1 hc
    refine lv_iconst (v := (0 : Int32)) hx hb dX1_digest_269 (by decide) ?_
    refine lv_i2l hx hb dX1_digest_270 rfl ?_
    refine lv_ladd hx hb dX1_digest_271 ?_
    refine W.widen (k := 0) (n := 0) (Nat.le_of_ble_eq_true rfl) (Nat.le_of_ble_eq_true rfl) ?_
    exact W.lret (v := ((v1_229x * (31 : Int64)) + (0 : Int32).toInt64)) hx hb hr (kWl_ret (u := (x259_0, x259_1, x259_2, x259_3, x259_4, x259_5)) hv hP hD hS) hS.2.2 dX1_digest_272
  · have hv := hv.2 hc
    refine lv_iconst (v := (1 : Int32)) hx hb dX1_digest_265 (by decide) ?_
    refine lv_goto (tgt := 270) hx hb dX1_digest_266 (by decide) ?_
    refine lv_i2l hx hb dX1_digest_270 rfl ?_
    refine lv_ladd hx hb dX1_digest_271 ?_
    refine W.widen (k := 0) (n := 0) (Nat.le_of_ble_eq_true rfl) (Nat.le_of_ble_eq_true rfl) ?_
    exact W.lret (v := ((v1_229x * (31 : Int64)) + (1 : Int32).toInt64)) hx hb hr (kWl_ret (u := (x259_0, x259_1, x259_2, x259_3, x259_4, x259_5)) hv hP hD hS) hS.2.2 dX1_digest_272
