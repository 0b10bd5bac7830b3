/-! walks by program (wip/gen) -/
set_option maxHeartbeats 4000000 in
set_option maxRecDepth 100000 in
theorem kX1_checkBetween (l : Launch) (D : va_G) (cI cB : ClassId)   (a0 : Int32) (a1 : Int32) (a2 : Int32) (post : Prop) (hv : qX1_checkBetween a0 a1 a2 post) : Met l yX1_checkBetween wsX1_checkBetween ({ frames := 0, cells := 0, slots := 0, locals := 0 }) (va_Pc [.int a0, .int a1, .int a2] (kB D cI cB [])) (va_Sv (fun _ => post)) 0 0 (fun _ => False) := by
  refine Met.ofW (cc := cX1_checkBetween) (maxL := 3) (ret := none) (by decide) rfl ?_
  intro p e s m args below meth c s₁ B hml hv0
  obtain ⟨rfl, hP, hK, hN⟩ := hv0
  have hx := B.exec
  have hb := B.bytes
  have hr := B.returns
  have hts := atoms_spec (ws := wsX1_checkBetween) B.pre
  have hown : s.vm.findClass RX1 = some m.cls := findClass_of_methodNamed B.named
  have hlocks := B.notSynchronized
  have hl := lv_entry ([.int a0, .int a1, .int a2]) (n := 3) (Nat.le_of_ble_eq_true rfl)
  rw [lg_entry_eq]
  generalize (lg_sl ([.int a0, .int a1, .int a2]) ++ List.replicate (3 - (lg_sl ([.int a0, .int a1, .int a2])).length) Slot.unset).toArray = ls at hl ⊢
  have hl : lv_has ls 3 [(0, .int a0), (1, .int a1), (2, .int a2)] := hl
  refine lv_iload_n hx hb dX1_checkBetween_0 rfl (lv_at hl 0 rfl) ?_
  refine lv_iload_n hx hb dX1_checkBetween_1 rfl (lv_at hl 1 rfl) ?_
  refine lv_icmp_lt (tgt := 10) hx hb dX1_checkBetween_2 (by decide) (fun hc => ?_) (fun hc => ?_)
  · have hv := hv.1 hc
    exact hv.elim
  · have hv := hv.2 hc
    refine lv_iload_n hx hb dX1_checkBetween_5 rfl (lv_at hl 0 rfl) ?_
    refine lv_iload_n hx hb dX1_checkBetween_6 rfl (lv_at hl 2 rfl) ?_
    refine lv_icmp_le (tgt := 20) hx hb dX1_checkBetween_7 (by decide) (fun hc => ?_) (fun hc => ?_)
    · have hv := hv.1 hc
      exact W.vret hx hb hr (fun t ht _ => ⟨rfl, hv, ht⟩) (fun _ h => by cases h) dX1_checkBetween_20
    · have hv := hv.2 hc
      exact hv.elim
set_option maxHeartbeats 4000000 in
set_option maxRecDepth 100000 in
theorem kX1_checkSide (l : Launch) (D : va_G) (cI cB : ClassId)   (a0 : Int32) (post : Prop) (hv : qX1_checkSide a0 post) : Met l yX1_checkSide wsX1_checkSide ({ frames := 1, cells := 0, slots := 0, locals := 22 }) (va_Pc [.int a0] (kB D cI cB [])) (va_Sv (fun _ => post)) 0 0 (fun _ => False) := by
  refine Met.ofW (cc := cX1_checkSide) (maxL := 1) (ret := none) (by decide) rfl ?_
  intro p e s m args below meth c s₁ B hml hv0
  obtain ⟨rfl, hP, hK, hN⟩ := hv0
  have hx := B.exec
  have hb := B.bytes
  have hr := B.returns
  have hts := atoms_spec (ws := wsX1_checkSide) B.pre
  have hown : s.vm.findClass RX1 = some m.cls := findClass_of_methodNamed B.named
  have hlocks := B.notSynchronized
  have hl := lv_entry ([.int a0]) (n := 1) (Nat.le_of_ble_eq_true rfl)
  rw [lg_entry_eq]
  generalize (lg_sl ([.int a0]) ++ List.replicate (1 - (lg_sl ([.int a0])).length) Slot.unset).toArray = ls at hl ⊢
  have hl : lv_has ls 1 [(0, .int a0)] := hl
  refine lv_iload_n hx hb dX1_checkSide_0 rfl (lv_at hl 0 rfl) ?_
  refine lv_iconst (v := (0 : Int32)) hx hb dX1_checkSide_1 (by decide) ?_
  refine lv_iconst (v := (1 : Int32)) hx hb dX1_checkSide_2 (by decide) ?_
  refine kc_Sv (As := [.int a0, .int (0 : Int32), .int (1 : Int32)]) (rest := []) ⟨hx, hb, hml, hown, hts⟩ (kX1_checkBetween l D cI cB a0 (0 : Int32) (1 : Int32) _ hv) (va_cwS 3 hts gX1_checkSide_X1_checkBetween rfl rfl rfl (by decide +kernel) ⟨Nat.le_of_ble_eq_true rfl, Nat.le_of_ble_eq_true rfl⟩) hP hK hN rfl hl.1 rfl (Nat.le_of_ble_eq_true rfl) dX1_checkSide_3 ⟨Nat.zero_le _, Nat.zero_le _⟩ (fun hv => ?_)
  exact W.vret hx hb hr (fun t ht _ => ⟨rfl, hv, ht⟩) (fun _ h => by cases h) dX1_checkSide_6
set_option maxHeartbeats 4000000 in
set_option maxRecDepth 100000 in
theorem kX1_checkPlace (l : Launch) (D : va_G) (cI cB : ClassId) (h0 : Nat) (h1 : Nat) (h2 : Nat) (h3 : Nat) (h4 : Nat) (mf : Nat → Int32) (mz : Int32) (ms : Int32) (mg : Int32) (m0 : Int32) (m1 : Int32) (tf : Nat → Int32) (tz : Int32) (ts : Int32) (tg : Int32) (t0 : Int32) (t1 : Int32) (xst : Int32) (xgo : Int32) (xdo : Int32) (xre : Int32) (xkn : Int32) (a1 : Int32) (post : Prop) (hv : qX1_checkPlace mz a1 post) : Met l yX1_checkPlace wsX1_checkPlace ({ frames := 0, cells := 0, slots := 0, locals := 0 }) (va_Pc [.ref h0, .int a1] (kB D cI cB [(h0, .inr (3, [.ref h1, .ref h3, .int xst, .int xgo, .int xdo, .int xre, .int xkn])), (h1, .inr (2, [.ref h2, .int mz, .int ms, .int mg, .int m0, .int m1])), (h2, .inl (cI, 12, .inl mf)), (h3, .inr (2, [.ref h4, .int tz, .int ts, .int tg, .int t0, .int t1])), (h4, .inl (cI, 12, .inl tf))])) (va_Sv (fun _ => post)) 0 0 (fun _ => False) := by
  refine Met.ofW (cc := cX1_checkPlace) (maxL := 2) (ret := none) (by decide) rfl ?_
  intro p e s m args below meth c s₁ B hml hv0
  obtain ⟨rfl, hP, hK, hN⟩ := hv0
  have hx := B.exec
  have hb := B.bytes
  have hr := B.returns
  have hts := atoms_spec (ws := wsX1_checkPlace) B.pre
  have hown : s.vm.findClass RX1 = some m.cls := findClass_of_methodNamed B.named
  have hlocks := B.notSynchronized
  have hi_X0 : ∀ w ∈ wsX00, w ∈ wsX1_checkPlace := by decide +kernel
  have hi_X1 : ∀ w ∈ wsX10, w ∈ wsX1_checkPlace := by decide +kernel
  have hF10 := hts (.fieldLink RX1 10 "Roadgame" "map" "LRoadgame$Chart;") (by decide +kernel)
  have hl := lv_entry ([.ref h0, .int a1]) (n := 2) (Nat.le_of_ble_eq_true rfl)
  rw [lg_entry_eq]
  generalize (lg_sl ([.ref h0, .int a1]) ++ List.replicate (2 - (lg_sl ([.ref h0, .int a1])).length) Slot.unset).toArray = ls at hl ⊢
  have hl : lv_has ls 2 [(0, .ref h0), (1, .int a1)] := hl
  refine lv_iload_n hx hb dX1_checkPlace_0 rfl (lv_at hl 1 rfl) ?_
  refine lv_if_lt (tgt := 15) hx hb dX1_checkPlace_1 (by decide) (fun hc => ?_) (fun hc => ?_)
  · have hv := hv.1 hc
    exact hv.elim
  · have hv := hv.2 hc
    refine lv_iload_n hx hb dX1_checkPlace_4 rfl (lv_at hl 1 rfl) ?_
    refine lv_aload_n hx hb dX1_checkPlace_5 rfl (lv_at hl 0 rfl) ?_
    refine va_get (D := D) (ci := 3) (v := .ref h1) (C := RX1) (T := TX1) (N := 7) hx hb hts hi_X1 hown hK hP 0 rfl rfl 0 (by decide) hF10 (fun _ h9 => h9) rfl dX1_checkPlace_6 ?_
    refine va_getN (D := D) (ci := 2) (v := .int mz) (C := RX0) (T := TX0) (N := 6) (host := "Roadgame") hx hb hts hi_X0 hown hK hP 1 rfl rfl 1 (by decide) (va_Nw.use rfl hN.1) (fun _ h9 => h9) rfl dX1_checkPlace_9 ?_
    refine lv_icmp_lt (tgt := 25) hx hb dX1_checkPlace_12 (by decide) (fun hc => ?_) (fun hc => ?_)
    · have hv := hv.1 hc
      exact W.vret hx hb hr (fun t ht _ => ⟨rfl, hv, ht⟩) (fun _ h => by cases h) dX1_checkPlace_25
    · have hv := hv.2 hc
      exact hv.elim
set_option maxHeartbeats 4000000 in
set_option maxRecDepth 100000 in
theorem kX1_checkSet (l : Launch) (D : va_G) (cI cB : ClassId) (h0 : Nat) (h1 : Nat) (h2 : Nat) (h3 : Nat) (h4 : Nat) (mf : Nat → Int32) (mz : Int32) (ms : Int32) (mg : Int32) (m0 : Int32) (m1 : Int32) (tf : Nat → Int32) (tz : Int32) (ts : Int32) (tg : Int32) (t0 : Int32) (t1 : Int32) (xst : Int32) (xgo : Int32) (xdo : Int32) (xre : Int32) (xkn : Int32) (a1 : Int32) (post : Prop) (hv : qX1_checkSet mz a1 post) : Met l yX1_checkSet wsX1_checkSet ({ frames := 1, cells := 0, slots := 0, locals := 22 }) (va_Pc [.ref h0, .int a1] (kB D cI cB [(h0, .inr (3, [.ref h1, .ref h3, .int xst, .int xgo, .int xdo, .int xre, .int xkn])), (h1, .inr (2, [.ref h2, .int mz, .int ms, .int mg, .int m0, .int m1])), (h2, .inl (cI, 12, .inl mf)), (h3, .inr (2, [.ref h4, .int tz, .int ts, .int tg, .int t0, .int t1])), (h4, .inl (cI, 12, .inl tf))])) (va_Sv (fun _ => post)) 0 0 (fun _ => False) := by
  refine Met.ofW (cc := cX1_checkSet) (maxL := 2) (ret := none) (by decide) rfl ?_
  intro p e s m args below meth c s₁ B hml hv0
  obtain ⟨rfl, hP, hK, hN⟩ := hv0
  have hx := B.exec
  have hb := B.bytes
  have hr := B.returns
  have hts := atoms_spec (ws := wsX1_checkSet) B.pre
  have hown : s.vm.findClass RX1 = some m.cls := findClass_of_methodNamed B.named
  have hlocks := B.notSynchronized
  have hi_X1 : ∀ w ∈ wsX10, w ∈ wsX1_checkSet := by decide +kernel
  have hF10 := hts (.fieldLink RX1 10 "Roadgame" "map" "LRoadgame$Chart;") (by decide +kernel)
  have hl := lv_entry ([.ref h0, .int a1]) (n := 2) (Nat.le_of_ble_eq_true rfl)
  rw [lg_entry_eq]
  generalize (lg_sl ([.ref h0, .int a1]) ++ List.replicate (2 - (lg_sl ([.ref h0, .int a1])).length) Slot.unset).toArray = ls at hl ⊢
  have hl : lv_has ls 2 [(0, .ref h0), (1, .int a1)] := hl
  refine lv_iload_n hx hb dX1_checkSet_0 rfl (lv_at hl 1 rfl) ?_
  refine lv_iconst (v := (0 : Int32)) hx hb dX1_checkSet_1 (by decide) ?_
  refine lv_aload_n hx hb dX1_checkSet_2 rfl (lv_at hl 0 rfl) ?_
  refine va_get (D := D) (ci := 3) (v := .ref h1) (C := RX1) (T := TX1) (N := 7) hx hb hts hi_X1 hown hK hP 0 rfl rfl 0 (by decide) hF10 (fun _ h9 => h9) rfl dX1_checkSet_3 ?_
  refine kc_V (As := []) (rest := [.int (0 : Int32), .int a1]) ⟨hx, hb, hml, hown, hts⟩ (kX0_all l D cI cB h1 h2 mf mz ms mg m0 m1 _ hv) (cwV 0 hts gX1_checkSet_X0_all rfl rfl rfl (by decide +kernel) ⟨Nat.le_of_ble_eq_true rfl, Nat.le_of_ble_eq_true rfl⟩) (hP.sub (ws' := [(h1, .inr (2, [.ref h2, .int mz, .int ms, .int mg, .int m0, .int m1])), (h2, .inl (cI, 12, .inl mf))]) [1, 2] rfl) hK hN 2 rfl rfl rfl rfl hl.1 rfl (Nat.le_of_ble_eq_true rfl) dX1_checkSet_6 ⟨Nat.zero_le _, Nat.zero_le _⟩ (fun r6 hv => ?_)
  refine kc_Sv (As := [.int a1, .int (0 : Int32), .int r6]) (rest := []) ⟨hx, hb, hml, hown, hts⟩ (kX1_checkBetween l D cI cB a1 (0 : Int32) r6 _ hv) (va_cwS 3 hts gX1_checkSet_X1_checkBetween rfl rfl rfl (by decide +kernel) ⟨Nat.le_of_ble_eq_true rfl, Nat.le_of_ble_eq_true rfl⟩) (hP.sub (ws' := []) [] rfl) hK hN rfl hl.1 rfl (Nat.le_of_ble_eq_true rfl) dX1_checkSet_9 ⟨Nat.zero_le _, Nat.zero_le _⟩ (fun hv => ?_)
  exact W.vret hx hb hr (fun t ht _ => ⟨rfl, hv, ht⟩) (fun _ h => by cases h) dX1_checkSet_12
set_option maxHeartbeats 4000000 in
set_option maxRecDepth 100000 in
theorem kX1_playedFrom (l : Launch) (D : va_G) (cI cB : ClassId) (h0 : Nat) (h1 : Nat) (h2 : Nat) (h3 : Nat) (h4 : Nat) (mf : Nat → Int32) (mz : Int32) (ms : Int32) (mg : Int32) (m0 : Int32) (m1 : Int32) (tf : Nat → Int32) (tz : Int32) (ts : Int32) (tg : Int32) (t0 : Int32) (t1 : Int32) (xst : Int32) (xgo : Int32) (xdo : Int32) (xre : Int32) (xkn : Int32) (a1 : Int32) (a2 : Int32) (post : Int32 → Prop) (hv : qX1_playedFrom mf mz ms mg m0 m1 a1 a2 post) : Met l yX1_playedFrom wsX1_playedFrom ({ frames := 5, cells := 0, slots := 0, locals := 122 }) (va_Pc [.ref h0, .int a1, .int a2] (kB D cI cB [(h0, .inr (3, [.ref h1, .ref h3, .int xst, .int xgo, .int xdo, .int xre, .int xkn])), (h1, .inr (2, [.ref h2, .int mz, .int ms, .int mg, .int m0, .int m1])), (h2, .inl (cI, 12, .inl mf)), (h3, .inr (2, [.ref h4, .int tz, .int ts, .int tg, .int t0, .int t1])), (h4, .inl (cI, 12, .inl tf))])) (vp_Si post) 0 0 (fun _ => False) := by
  refine Met.ofW (cc := cX1_playedFrom) (maxL := 5) (ret := (some .int)) (by decide) rfl ?_
  intro p e s m args below meth c s₁ B hml hv0
  obtain ⟨rfl, hP, hK, hN⟩ := hv0
  have hx := B.exec
  have hb := B.bytes
  have hr := B.returns
  have hts := atoms_spec (ws := wsX1_playedFrom) B.pre
  have hown : s.vm.findClass RX1 = some m.cls := findClass_of_methodNamed B.named
  have hlocks := B.notSynchronized
  have hi_X1 : ∀ w ∈ wsX10, w ∈ wsX1_playedFrom := by decide +kernel
  have hF10 := hts (.fieldLink RX1 10 "Roadgame" "map" "LRoadgame$Chart;") (by decide +kernel)
  have hl := lv_entry ([.ref h0, .int a1, .int a2]) (n := 5) (Nat.le_of_ble_eq_true rfl)
  rw [lg_entry_eq]
  generalize (lg_sl ([.ref h0, .int a1, .int a2]) ++ List.replicate (5 - (lg_sl ([.ref h0, .int a1, .int a2])).length) Slot.unset).toArray = ls at hl ⊢
  have hl : lv_has ls 5 [(0, .ref h0), (1, .int a1), (2, .int a2)] := hl
  refine lv_aload_n hx hb dX1_playedFrom_0 rfl (lv_at hl 0 rfl) ?_
  refine va_get (D := D) (ci := 3) (v := .ref h1) (C := RX1) (T := TX1) (N := 7) hx hb hts hi_X1 hown hK hP 0 rfl rfl 0 (by decide) hF10 (fun _ h9 => h9) rfl dX1_playedFrom_1 ?_
  refine lv_iload_n hx hb dX1_playedFrom_4 rfl (lv_at hl 2 rfl) ?_
  refine kc_V (As := [.int a2]) (rest := []) ⟨hx, hb, hml, hown, hts⟩ (kX0_sideOf l D cI cB h1 h2 mf mz ms mg m0 m1 a2 _ hv) (cwV 1 hts gX1_playedFrom_X0_sideOf rfl rfl rfl (by decide +kernel) ⟨Nat.le_of_ble_eq_true rfl, Nat.le_of_ble_eq_true rfl⟩) (hP.sub (ws' := [(h1, .inr (2, [.ref h2, .int mz, .int ms, .int mg, .int m0, .int m1])), (h2, .inl (cI, 12, .inl mf))]) [1, 2] rfl) hK hN 2 rfl rfl rfl rfl hl.1 rfl (Nat.le_of_ble_eq_true rfl) dX1_playedFrom_5 ⟨Nat.zero_le _, Nat.zero_le _⟩ (fun r5 hv => ?_)
  refine lv_istore_n (lv' := [(3, .int r5), (0, .ref h0), (1, .int a1), (2, .int a2)]) hx hb dX1_playedFrom_8 rfl hl (by decide) rfl (fun ls hl => ?_)
  refine lv_aload_n hx hb dX1_playedFrom_9 rfl (lv_at hl 1 rfl) ?_
  refine va_get (D := D) (ci := 3) (v := .ref h1) (C := RX1) (T := TX1) (N := 7) hx hb hts hi_X1 hown hK hP 0 rfl rfl 0 (by decide) hF10 (fun _ h9 => h9) rfl dX1_playedFrom_10 ?_
  refine lv_iload_n hx hb dX1_playedFrom_13 rfl (lv_at hl 0 rfl) ?_
  refine lv_iload_n hx hb dX1_playedFrom_14 rfl (lv_at hl 2 rfl) ?_
  have J23 : ∀ (s0_j23 : Int32) (ls : Array Slot), qX1_playedFrom_j23 mf mz ms mg m0 m1 a2 r5 s0_j23 post → lv_has ls 5 [(0, .ref h0), (1, .int a1), (2, .int a2), (3, .int r5)] → W p l e (headSpec wsX1_playedFrom ({ frames := 5, cells := 0, slots := 0, locals := 122 })).room s m ([.ref h0, .int a1, .int a2] : List Value).toArray below meth c s.heap [] 0 0 (MQ below (vp_Si post) ([.ref h0, .int a1, .int a2] : List Value).toArray s 0 0 (fun _ => False)) (F0 m 23 ls [.int s0_j23, .ref h1]) := by
    intro s0_j23 ls hv hl
    refine lv_iload_n hx hb dX1_playedFrom_23 rfl (lv_at hl 3 rfl) ?_
    refine lv_iload_n hx hb dX1_playedFrom_24 rfl (lv_at hl 2 rfl) ?_
    refine kc_V (As := [.int s0_j23, .int r5, .int a2]) (rest := []) ⟨hx, hb, hml, hown, hts⟩ (kX0_pick l D cI cB h1 h2 mf mz ms mg m0 m1 s0_j23 r5 a2 _ hv) (cwV 3 hts gX1_playedFrom_X0_pick rfl rfl rfl (by decide +kernel) ⟨Nat.le_of_ble_eq_true rfl, Nat.le_of_ble_eq_true rfl⟩) (hP.sub (ws' := [(h1, .inr (2, [.ref h2, .int mz, .int ms, .int mg, .int m0, .int m1])), (h2, .inl (cI, 12, .inl mf))]) [1, 2] rfl) hK hN 2 rfl rfl rfl rfl hl.1 rfl (Nat.le_of_ble_eq_true rfl) dX1_playedFrom_25 ⟨Nat.zero_le _, Nat.zero_le _⟩ (fun r25 hv => ?_)
    refine lv_istore (lv' := [(4, .int r25), (0, .ref h0), (1, .int a1), (2, .int a2), (3, .int r5)]) hx hb dX1_playedFrom_28 hl (by decide) rfl (fun ls hl => ?_)
    refine lv_iload hx hb dX1_playedFrom_30 (lv_at hl 0 rfl) ?_
    refine lv_iconst (v := (-1 : Int32)) hx hb dX1_playedFrom_32 (by decide) ?_
    refine lv_icmp_ne (tgt := 50) hx hb dX1_playedFrom_33 (by decide) (fun hc => ?_) (fun hc => ?_)
    · have hv := hv.1 hc
      refine lv_iload hx hb dX1_playedFrom_50 (lv_at hl 0 rfl) ?_
      exact W.iret (v := r25) hx hb hr (kSi_ret rfl hv) (fun _ h => by cases h) dX1_playedFrom_52
    · have hv := hv.2 hc
      refine lv_aload_n hx hb dX1_playedFrom_36 rfl (lv_at hl 1 rfl) ?_
      refine va_get (D := D) (ci := 3) (v := .ref h1) (C := RX1) (T := TX1) (N := 7) hx hb hts hi_X1 hown hK hP 0 rfl rfl 0 (by decide) hF10 (fun _ h9 => h9) rfl dX1_playedFrom_37 ?_
      refine lv_iload_n hx hb dX1_playedFrom_40 rfl (lv_at hl 3 rfl) ?_
      refine kc_V (As := [.int a2]) (rest := []) ⟨hx, hb, hml, hown, hts⟩ (kX0_waysFrom l D cI cB h1 h2 mf mz ms mg m0 m1 a2 _ hv) (cwV 1 hts gX1_playedFrom_X0_waysFrom rfl rfl rfl (by decide +kernel) ⟨Nat.le_of_ble_eq_true rfl, Nat.le_of_ble_eq_true rfl⟩) (hP.sub (ws' := [(h1, .inr (2, [.ref h2, .int mz, .int ms, .int mg, .int m0, .int m1])), (h2, .inl (cI, 12, .inl mf))]) [1, 2] rfl) hK hN 2 rfl rfl rfl rfl hl.1 rfl (Nat.le_of_ble_eq_true rfl) dX1_playedFrom_41 ⟨Nat.zero_le _, Nat.zero_le _⟩ (fun r41 hv => ?_)
      refine kc_S (As := [.int r41]) (rest := []) ⟨hx, hb, hml, hown, hts⟩ (kX1_least l D cI cB r41 _ hv) (va_cwS 1 hts gX1_playedFrom_X1_least rfl rfl rfl (by decide +kernel) ⟨Nat.le_of_ble_eq_true rfl, Nat.le_of_ble_eq_true rfl⟩) (hP.sub (ws' := []) [] rfl) hK hN rfl hl.1 rfl (Nat.le_of_ble_eq_true rfl) dX1_playedFrom_44 ⟨Nat.zero_le _, Nat.zero_le _⟩ (fun r44 hv => ?_)
      refine lv_goto (tgt := 52) hx hb dX1_playedFrom_47 (by decide) ?_
      exact W.iret (v := r44) hx hb hr (kSi_ret rfl hv) (fun _ h => by cases h) dX1_playedFrom_52
  refine lv_icmp_ne (tgt := 22) hx hb dX1_playedFrom_15 (by decide) (fun hc => ?_) (fun hc => ?_)
  · have hv := hv.1 hc
    refine lv_iconst (v := (1 : Int32)) hx hb dX1_playedFrom_22 (by decide) ?_
    exact J23 _ _ hv (lv_sub hl [1, 2, 3, 0] rfl)
  · have hv := hv.2 hc
    refine lv_iconst (v := (0 : Int32)) hx hb dX1_playedFrom_18 (by decide) ?_
    refine lv_goto (tgt := 23) hx hb dX1_playedFrom_19 (by decide) ?_
    exact J23 _ _ hv (lv_sub hl [1, 2, 3, 0] rfl)
set_option maxHeartbeats 4000000 in
set_option maxRecDepth 100000 in
theorem kX1_isComingSound (l : Launch) (D : va_G) (cI cB : ClassId) (h0 : Nat) (h1 : Nat) (h2 : Nat) (h3 : Nat) (h4 : Nat) (mf : Nat → Int32) (mz : Int32) (ms : Int32) (mg : Int32) (m0 : Int32) (m1 : Int32) (tf : Nat → Int32) (tz : Int32) (ts : Int32) (tg : Int32) (t0 : Int32) (t1 : Int32) (xst : Int32) (xgo : Int32) (xdo : Int32) (xre : Int32) (xkn : Int32) (a1 : Int32) (post : Int32 → Prop) (hv : qX1_isComingSound mf mz ms mg m0 m1 a1 post) : Met l yX1_isComingSound wsX1_isComingSound ({ frames := 4, cells := 0, slots := 0, locals := 99 }) (va_Pc [.ref h0, .int a1] (kB D cI cB [(h0, .inr (3, [.ref h1, .ref h3, .int xst, .int xgo, .int xdo, .int xre, .int xkn])), (h1, .inr (2, [.ref h2, .int mz, .int ms, .int mg, .int m0, .int m1])), (h2, .inl (cI, 12, .inl mf)), (h3, .inr (2, [.ref h4, .int tz, .int ts, .int tg, .int t0, .int t1])), (h4, .inl (cI, 12, .inl tf))])) (vp_Si post) 0 0 (fun _ => False) := by
  refine Met.ofW (cc := cX1_isComingSound) (maxL := 5) (ret := (some .boolean)) (by decide) rfl ?_
  intro p e s m args below meth c s₁ B hml hv0
  obtain ⟨rfl, hP, hK, hN⟩ := hv0
  have hx := B.exec
  have hb := B.bytes
  have hr := B.returns
  have hts := atoms_spec (ws := wsX1_isComingSound) B.pre
  have hown : s.vm.findClass RX1 = some m.cls := findClass_of_methodNamed B.named
  have hlocks := B.notSynchronized
  have hi_X0 : ∀ w ∈ wsX00, w ∈ wsX1_isComingSound := by decide +kernel
  have hi_X1 : ∀ w ∈ wsX10, w ∈ wsX1_isComingSound := by decide +kernel
  have hF10 := hts (.fieldLink RX1 10 "Roadgame" "map" "LRoadgame$Chart;") (by decide +kernel)
  have hl := lv_entry ([.ref h0, .int a1]) (n := 5) (Nat.le_of_ble_eq_true rfl)
  rw [lg_entry_eq]
  generalize (lg_sl ([.ref h0, .int a1]) ++ List.replicate (5 - (lg_sl ([.ref h0, .int a1])).length) Slot.unset).toArray = ls at hl ⊢
  have hl : lv_has ls 5 [(0, .ref h0), (1, .int a1)] := hl
  refine lv_aload_n hx hb dX1_isComingSound_0 rfl (lv_at hl 0 rfl) ?_
  refine va_get (D := D) (ci := 3) (v := .ref h1) (C := RX1) (T := TX1) (N := 7) hx hb hts hi_X1 hown hK hP 0 rfl rfl 0 (by decide) hF10 (fun _ h9 => h9) rfl dX1_isComingSound_1 ?_
  refine lv_iconst (v := (0 : Int32)) hx hb dX1_isComingSound_4 (by decide) ?_
  refine lv_iload_n hx hb dX1_isComingSound_5 rfl (lv_at hl 1 rfl) ?_
  refine kc_V (As := [.int (0 : Int32), .int a1]) (rest := []) ⟨hx, hb, hml, hown, hts⟩ (kX0_won l D cI cB h1 h2 mf mz ms mg m0 m1 (0 : Int32) a1 _ hv) (cwV 2 hts gX1_isComingSound_X0_won rfl rfl rfl (by decide +kernel) ⟨Nat.le_of_ble_eq_true rfl, Nat.le_of_ble_eq_true rfl⟩) (hP.sub (ws' := [(h1, .inr (2, [.ref h2, .int mz, .int ms, .int mg, .int m0, .int m1])), (h2, .inl (cI, 12, .inl mf))]) [1, 2] rfl) hK hN 2 rfl rfl rfl rfl hl.1 rfl (Nat.le_of_ble_eq_true rfl) dX1_isComingSound_6 ⟨Nat.zero_le _, Nat.zero_le _⟩ (fun r6 hv => ?_)
  refine lv_istore_n (lv' := [(2, .int r6), (0, .ref h0), (1, .int a1)]) hx hb dX1_isComingSound_9 rfl hl (by decide) rfl (fun ls hl => ?_)
  refine lv_aload_n hx hb dX1_isComingSound_10 rfl (lv_at hl 1 rfl) ?_
  refine va_get (D := D) (ci := 3) (v := .ref h1) (C := RX1) (T := TX1) (N := 7) hx hb hts hi_X1 hown hK hP 0 rfl rfl 0 (by decide) hF10 (fun _ h9 => h9) rfl dX1_isComingSound_11 ?_
  refine lv_iconst (v := (1 : Int32)) hx hb dX1_isComingSound_14 (by decide) ?_
  refine lv_iconst (v := (1 : Int32)) hx hb dX1_isComingSound_15 (by decide) ?_
  refine lv_iload_n hx hb dX1_isComingSound_16 rfl (lv_at hl 2 rfl) ?_
  refine lv_isub hx hb dX1_isComingSound_17 ?_
  refine kc_V (As := [.int (1 : Int32), .int ((1 : Int32) - a1)]) (rest := []) ⟨hx, hb, hml, hown, hts⟩ (kX0_won l D cI cB h1 h2 mf mz ms mg m0 m1 (1 : Int32) ((1 : Int32) - a1) _ hv) (cwV 2 hts gX1_isComingSound_X0_won rfl rfl rfl (by decide +kernel) ⟨Nat.le_of_ble_eq_true rfl, Nat.le_of_ble_eq_true rfl⟩) (hP.sub (ws' := [(h1, .inr (2, [.ref h2, .int mz, .int ms, .int mg, .int m0, .int m1])), (h2, .inl (cI, 12, .inl mf))]) [1, 2] rfl) hK hN 2 rfl rfl rfl rfl hl.1 rfl (Nat.le_of_ble_eq_true rfl) dX1_isComingSound_18 ⟨Nat.zero_le _, Nat.zero_le _⟩ (fun r18 hv => ?_)
  refine lv_istore_n (lv' := [(3, .int r18), (2, .int r6), (0, .ref h0), (1, .int a1)]) hx hb dX1_isComingSound_21 rfl hl (by decide) rfl (fun ls hl => ?_)
  refine lv_iload_n hx hb dX1_isComingSound_22 rfl (lv_at hl 1 rfl) ?_
  refine lv_iload_n hx hb dX1_isComingSound_23 rfl (lv_at hl 0 rfl) ?_
  refine lv_iand hx hb dX1_isComingSound_24 ?_
  refine lv_if_ne (tgt := 41) hx hb dX1_isComingSound_25 (by decide) (fun hc => ?_) (fun hc => ?_)
  · have hv := hv.1 hc
    refine lv_iconst (v := (0 : Int32)) hx hb dX1_isComingSound_41 (by decide) ?_
    exact W.zret (v := (0 : Int32)) (ty := .boolean) hx hb hr rfl (kSi_ret rfl hv) (fun _ h => by cases h) dX1_isComingSound_42
  · have hv := hv.2 hc
    refine lv_iload_n hx hb dX1_isComingSound_28 rfl (lv_at hl 1 rfl) ?_
    refine lv_iload_n hx hb dX1_isComingSound_29 rfl (lv_at hl 0 rfl) ?_
    refine lv_ior hx hb dX1_isComingSound_30 ?_
    refine lv_aload_n hx hb dX1_isComingSound_31 rfl (lv_at hl 2 rfl) ?_
    refine va_get (D := D) (ci := 3) (v := .ref h1) (C := RX1) (T := TX1) (N := 7) hx hb hts hi_X1 hown hK hP 0 rfl rfl 0 (by decide) hF10 (fun _ h9 => h9) rfl dX1_isComingSound_32 ?_
    refine kc_V (As := []) (rest := [.int (r6 ||| r18)]) ⟨hx, hb, hml, hown, hts⟩ (kX0_all l D cI cB h1 h2 mf mz ms mg m0 m1 _ hv) (cwV 0 hts gX1_isComingSound_X0_all rfl rfl rfl (by decide +kernel) ⟨Nat.le_of_ble_eq_true rfl, Nat.le_of_ble_eq_true rfl⟩) (hP.sub (ws' := [(h1, .inr (2, [.ref h2, .int mz, .int ms, .int mg, .int m0, .int m1])), (h2, .inl (cI, 12, .inl mf))]) [1, 2] rfl) hK hN 2 rfl rfl rfl rfl hl.1 rfl (Nat.le_of_ble_eq_true rfl) dX1_isComingSound_35 ⟨Nat.zero_le _, Nat.zero_le _⟩ (fun r35 hv => ?_)
    refine lv_icmp_eq (tgt := 43) hx hb dX1_isComingSound_38 (by decide) (fun hc => ?_) (fun hc => ?_)
    · have hv := hv.1 hc
      refine lv_aload_n hx hb dX1_isComingSound_43 rfl (lv_at hl 2 rfl) ?_
      refine va_get (D := D) (ci := 3) (v := .ref h1) (C := RX1) (T := TX1) (N := 7) hx hb hts hi_X1 hown hK hP 0 rfl rfl 0 (by decide) hF10 (fun _ h9 => h9) rfl dX1_isComingSound_44 ?_
      refine lv_iload_n hx hb dX1_isComingSound_47 rfl (lv_at hl 1 rfl) ?_
      refine lv_iload_n hx hb dX1_isComingSound_48 rfl (lv_at hl 3 rfl) ?_
      refine kc_V (As := [.int r6, .int a1]) (rest := []) ⟨hx, hb, hml, hown, hts⟩ (kX0_seenBefore l D cI cB h1 h2 mf mz ms mg m0 m1 r6 a1 _ hv) (cwV 2 hts gX1_isComingSound_X0_seenBefore rfl rfl rfl (by decide +kernel) ⟨Nat.le_of_ble_eq_true rfl, Nat.le_of_ble_eq_true rfl⟩) (hP.sub (ws' := [(h1, .inr (2, [.ref h2, .int mz, .int ms, .int mg, .int m0, .int m1])), (h2, .inl (cI, 12, .inl mf))]) [1, 2] rfl) hK hN 2 rfl rfl rfl rfl hl.1 rfl (Nat.le_of_ble_eq_true rfl) dX1_isComingSound_49 ⟨Nat.zero_le _, Nat.zero_le _⟩ (fun r49 hv => ?_)
      refine lv_aload_n hx hb dX1_isComingSound_52 rfl (lv_at hl 2 rfl) ?_
      refine va_get (D := D) (ci := 3) (v := .ref h1) (C := RX1) (T := TX1) (N := 7) hx hb hts hi_X1 hown hK hP 0 rfl rfl 0 (by decide) hF10 (fun _ h9 => h9) rfl dX1_isComingSound_53 ?_
      refine va_getN (D := D) (ci := 2) (v := .int mg) (C := RX0) (T := TX0) (N := 6) (host := "Roadgame") hx hb hts hi_X0 hown hK hP 1 rfl rfl 3 (by decide) (va_Nw.use rfl hN.2.2.1) (fun _ h9 => h9) rfl dX1_isComingSound_56 ?_
      refine lv_ior hx hb dX1_isComingSound_59 ?_
      refine lv_istore (lv' := [(4, .int (r49 ||| mg)), (3, .int r18), (2, .int r6), (0, .ref h0), (1, .int a1)]) hx hb dX1_isComingSound_60 hl (by decide) rfl (fun ls hl => ?_)
      refine lv_iload hx hb dX1_isComingSound_62 (lv_at hl 0 rfl) ?_
      refine lv_iload_n hx hb dX1_isComingSound_64 rfl (lv_at hl 2 rfl) ?_
      refine lv_iconst (v := (-1 : Int32)) hx hb dX1_isComingSound_65 (by decide) ?_
      refine lv_ixor hx hb dX1_isComingSound_66 ?_
      refine lv_iand hx hb dX1_isComingSound_67 ?_
      refine lv_if_ne (tgt := 75) hx hb dX1_isComingSound_68 (by decide) (fun hc => ?_) (fun hc => ?_)
      · have hv := hv.1 hc
        refine lv_iconst (v := (0 : Int32)) hx hb dX1_isComingSound_75 (by decide) ?_
        exact W.zret (v := (0 : Int32)) (ty := .boolean) hx hb hr rfl (kSi_ret rfl hv) (fun _ h => by cases h) dX1_isComingSound_76
      · have hv := hv.2 hc
        refine lv_iconst (v := (1 : Int32)) hx hb dX1_isComingSound_71 (by decide) ?_
        refine lv_goto (tgt := 76) hx hb dX1_isComingSound_72 (by decide) ?_
        exact W.zret (v := (1 : Int32)) (ty := .boolean) hx hb hr rfl (kSi_ret rfl hv) (fun _ h => by cases h) dX1_isComingSound_76
    · have hv := hv.2 hc
      refine lv_iconst (v := (0 : Int32)) hx hb dX1_isComingSound_41 (by decide) ?_
      exact W.zret (v := (0 : Int32)) (ty := .boolean) hx hb hr rfl (kSi_ret rfl hv) (fun _ h => by cases h) dX1_isComingSound_42
set_option maxHeartbeats 4000000 in
set_option maxRecDepth 100000 in
theorem kX1_isAgainSound (l : Launch) (D : va_G) (cI cB : ClassId) (h0 : Nat) (h1 : Nat) (h2 : Nat) (h3 : Nat) (h4 : Nat) (mf : Nat → Int32) (mz : Int32) (ms : Int32) (mg : Int32) (m0 : Int32) (m1 : Int32) (tf : Nat → Int32) (tz : Int32) (ts : Int32) (tg : Int32) (t0 : Int32) (t1 : Int32) (xst : Int32) (xgo : Int32) (xdo : Int32) (xre : Int32) (xkn : Int32) (a1 : Int32) (post : Int32 → Prop) (hv : qX1_isAgainSound mf mz ms mg m0 m1 a1 post) : Met l yX1_isAgainSound wsX1_isAgainSound ({ frames := 4, cells := 0, slots := 0, locals := 99 }) (va_Pc [.ref h0, .int a1] (kB D cI cB [(h0, .inr (3, [.ref h1, .ref h3, .int xst, .int xgo, .int xdo, .int xre, .int xkn])), (h1, .inr (2, [.ref h2, .int mz, .int ms, .int mg, .int m0, .int m1])), (h2, .inl (cI, 12, .inl mf)), (h3, .inr (2, [.ref h4, .int tz, .int ts, .int tg, .int t0, .int t1])), (h4, .inl (cI, 12, .inl tf))])) (vp_Si post) 0 0 (fun _ => False) := by
  refine Met.ofW (cc := cX1_isAgainSound) (maxL := 3) (ret := (some .boolean)) (by decide) rfl ?_
  intro p e s m args below meth c s₁ B hml hv0
  obtain ⟨rfl, hP, hK, hN⟩ := hv0
  have hx := B.exec
  have hb := B.bytes
  have hr := B.returns
  have hts := atoms_spec (ws := wsX1_isAgainSound) B.pre
  have hown : s.vm.findClass RX1 = some m.cls := findClass_of_methodNamed B.named
  have hlocks := B.notSynchronized
  have hi_X1 : ∀ w ∈ wsX10, w ∈ wsX1_isAgainSound := by decide +kernel
  have hF10 := hts (.fieldLink RX1 10 "Roadgame" "map" "LRoadgame$Chart;") (by decide +kernel)
  have hl := lv_entry ([.ref h0, .int a1]) (n := 3) (Nat.le_of_ble_eq_true rfl)
  rw [lg_entry_eq]
  generalize (lg_sl ([.ref h0, .int a1]) ++ List.replicate (3 - (lg_sl ([.ref h0, .int a1])).length) Slot.unset).toArray = ls at hl ⊢
  have hl : lv_has ls 3 [(0, .ref h0), (1, .int a1)] := hl
  refine lv_aload_n hx hb dX1_isAgainSound_0 rfl (lv_at hl 0 rfl) ?_
  refine va_get (D := D) (ci := 3) (v := .ref h1) (C := RX1) (T := TX1) (N := 7) hx hb hts hi_X1 hown hK hP 0 rfl rfl 0 (by decide) hF10 (fun _ h9 => h9) rfl dX1_isAgainSound_1 ?_
  refine lv_iconst (v := (2 : Int32)) hx hb dX1_isAgainSound_4 (by decide) ?_
  refine lv_iload_n hx hb dX1_isAgainSound_5 rfl (lv_at hl 1 rfl) ?_
  refine kc_V (As := [.int (2 : Int32), .int a1]) (rest := []) ⟨hx, hb, hml, hown, hts⟩ (kX0_won l D cI cB h1 h2 mf mz ms mg m0 m1 (2 : Int32) a1 _ hv) (cwV 2 hts gX1_isAgainSound_X0_won rfl rfl rfl (by decide +kernel) ⟨Nat.le_of_ble_eq_true rfl, Nat.le_of_ble_eq_true rfl⟩) (hP.sub (ws' := [(h1, .inr (2, [.ref h2, .int mz, .int ms, .int mg, .int m0, .int m1])), (h2, .inl (cI, 12, .inl mf))]) [1, 2] rfl) hK hN 2 rfl rfl rfl rfl hl.1 rfl (Nat.le_of_ble_eq_true rfl) dX1_isAgainSound_6 ⟨Nat.zero_le _, Nat.zero_le _⟩ (fun r6 hv => ?_)
  refine lv_istore_n (lv' := [(2, .int r6), (0, .ref h0), (1, .int a1)]) hx hb dX1_isAgainSound_9 rfl hl (by decide) rfl (fun ls hl => ?_)
  refine lv_iload_n hx hb dX1_isAgainSound_10 rfl (lv_at hl 0 rfl) ?_
  refine lv_aload_n hx hb dX1_isAgainSound_11 rfl (lv_at hl 1 rfl) ?_
  refine va_get (D := D) (ci := 3) (v := .ref h1) (C := RX1) (T := TX1) (N := 7) hx hb hts hi_X1 hown hK hP 0 rfl rfl 0 (by decide) hF10 (fun _ h9 => h9) rfl dX1_isAgainSound_12 ?_
  refine lv_iconst (v := (0 : Int32)) hx hb dX1_isAgainSound_15 (by decide) ?_
  refine lv_iload_n hx hb dX1_isAgainSound_16 rfl (lv_at hl 2 rfl) ?_
  refine kc_V (As := [.int (0 : Int32), .int a1]) (rest := [.int r6]) ⟨hx, hb, hml, hown, hts⟩ (kX0_won l D cI cB h1 h2 mf mz ms mg m0 m1 (0 : Int32) a1 _ hv) (cwV 2 hts gX1_isAgainSound_X0_won rfl rfl rfl (by decide +kernel) ⟨Nat.le_of_ble_eq_true rfl, Nat.le_of_ble_eq_true rfl⟩) (hP.sub (ws' := [(h1, .inr (2, [.ref h2, .int mz, .int ms, .int mg, .int m0, .int m1])), (h2, .inl (cI, 12, .inl mf))]) [1, 2] rfl) hK hN 2 rfl rfl rfl rfl hl.1 rfl (Nat.le_of_ble_eq_true rfl) dX1_isAgainSound_17 ⟨Nat.zero_le _, Nat.zero_le _⟩ (fun r17 hv => ?_)
  refine lv_iconst (v := (-1 : Int32)) hx hb dX1_isAgainSound_20 (by decide) ?_
  refine lv_ixor hx hb dX1_isAgainSound_21 ?_
  refine lv_iand hx hb dX1_isAgainSound_22 ?_
  refine lv_if_eq (tgt := 28) hx hb dX1_isAgainSound_23 (by decide) (fun hc => ?_) (fun hc => ?_)
  · have hv := hv.1 hc
    refine lv_aload_n hx hb dX1_isAgainSound_28 rfl (lv_at hl 1 rfl) ?_
    refine va_get (D := D) (ci := 3) (v := .ref h1) (C := RX1) (T := TX1) (N := 7) hx hb hts hi_X1 hown hK hP 0 rfl rfl 0 (by decide) hF10 (fun _ h9 => h9) rfl dX1_isAgainSound_29 ?_
    refine lv_iload_n hx hb dX1_isAgainSound_32 rfl (lv_at hl 0 rfl) ?_
    refine lv_iload_n hx hb dX1_isAgainSound_33 rfl (lv_at hl 2 rfl) ?_
    refine kc_V (As := [.int r6, .int a1]) (rest := []) ⟨hx, hb, hml, hown, hts⟩ (kX0_seenBefore l D cI cB h1 h2 mf mz ms mg m0 m1 r6 a1 _ hv) (cwV 2 hts gX1_isAgainSound_X0_seenBefore rfl rfl rfl (by decide +kernel) ⟨Nat.le_of_ble_eq_true rfl, Nat.le_of_ble_eq_true rfl⟩) (hP.sub (ws' := [(h1, .inr (2, [.ref h2, .int mz, .int ms, .int mg, .int m0, .int m1])), (h2, .inl (cI, 12, .inl mf))]) [1, 2] rfl) hK hN 2 rfl rfl rfl rfl hl.1 rfl (Nat.le_of_ble_eq_true rfl) dX1_isAgainSound_34 ⟨Nat.zero_le _, Nat.zero_le _⟩ (fun r34 hv => ?_)
    refine lv_iload_n hx hb dX1_isAgainSound_37 rfl (lv_at hl 0 rfl) ?_
    refine lv_iconst (v := (-1 : Int32)) hx hb dX1_isAgainSound_38 (by decide) ?_
    refine lv_ixor hx hb dX1_isAgainSound_39 ?_
    refine lv_iand hx hb dX1_isAgainSound_40 ?_
    refine lv_if_ne (tgt := 48) hx hb dX1_isAgainSound_41 (by decide) (fun hc => ?_) (fun hc => ?_)
    · have hv := hv.1 hc
      refine lv_iconst (v := (0 : Int32)) hx hb dX1_isAgainSound_48 (by decide) ?_
      exact W.zret (v := (0 : Int32)) (ty := .boolean) hx hb hr rfl (kSi_ret rfl hv) (fun _ h => by cases h) dX1_isAgainSound_49
    · have hv := hv.2 hc
      refine lv_iconst (v := (1 : Int32)) hx hb dX1_isAgainSound_44 (by decide) ?_
      refine lv_goto (tgt := 49) hx hb dX1_isAgainSound_45 (by decide) ?_
      exact W.zret (v := (1 : Int32)) (ty := .boolean) hx hb hr rfl (kSi_ret rfl hv) (fun _ h => by cases h) dX1_isAgainSound_49
  · have hv := hv.2 hc
    refine lv_iconst (v := (0 : Int32)) hx hb dX1_isAgainSound_26 (by decide) ?_
    exact W.zret (v := (0 : Int32)) (ty := .boolean) hx hb hr rfl (kSi_ret rfl hv) (fun _ h => by cases h) dX1_isAgainSound_27
set_option maxHeartbeats 4000000 in
set_option maxRecDepth 100000 in
theorem kX1_isRankedSound (l : Launch) (D : va_G) (cI cB : ClassId) (h0 : Nat) (h1 : Nat) (h2 : Nat) (h3 : Nat) (h4 : Nat) (mf : Nat → Int32) (mz : Int32) (ms : Int32) (mg : Int32) (m0 : Int32) (m1 : Int32) (tf : Nat → Int32) (tz : Int32) (ts : Int32) (tg : Int32) (t0 : Int32) (t1 : Int32) (xst : Int32) (xgo : Int32) (xdo : Int32) (xre : Int32) (xkn : Int32)  (post : Int32 → Prop) (hv : qX1_isRankedSound mf mz ms mg m0 m1 post) : Met l yX1_isRankedSound wsX1_isRankedSound ({ frames := 4, cells := 0, slots := 0, locals := 99 }) (va_Pc [.ref h0] (kB D cI cB [(h0, .inr (3, [.ref h1, .ref h3, .int xst, .int xgo, .int xdo, .int xre, .int xkn])), (h1, .inr (2, [.ref h2, .int mz, .int ms, .int mg, .int m0, .int m1])), (h2, .inl (cI, 12, .inl mf)), (h3, .inr (2, [.ref h4, .int tz, .int ts, .int tg, .int t0, .int t1])), (h4, .inl (cI, 12, .inl tf))])) (vp_Si post) 0 0 (fun _ => False) := by
  refine Met.ofW (cc := cX1_isRankedSound) (maxL := 5) (ret := (some .boolean)) (by decide) rfl ?_
  intro p e s m args below meth c s₁ B hml hv0
  obtain ⟨rfl, hP, hK, hN⟩ := hv0
  have hx := B.exec
  have hb := B.bytes
  have hr := B.returns
  have hts := atoms_spec (ws := wsX1_isRankedSound) B.pre
  have hown : s.vm.findClass RX1 = some m.cls := findClass_of_methodNamed B.named
  have hlocks := B.notSynchronized
  have hi_X0 : ∀ w ∈ wsX00, w ∈ wsX1_isRankedSound := by decide +kernel
  have hi_X1 : ∀ w ∈ wsX10, w ∈ wsX1_isRankedSound := by decide +kernel
  have hF10 := hts (.fieldLink RX1 10 "Roadgame" "map" "LRoadgame$Chart;") (by decide +kernel)
  have hl := lv_entry ([.ref h0]) (n := 5) (Nat.le_of_ble_eq_true rfl)
  rw [lg_entry_eq]
  generalize (lg_sl ([.ref h0]) ++ List.replicate (5 - (lg_sl ([.ref h0])).length) Slot.unset).toArray = ls at hl ⊢
  have hl : lv_has ls 5 [(0, .ref h0)] := hl
  refine lv_aload_n hx hb dX1_isRankedSound_0 rfl (lv_at hl 0 rfl) ?_
  refine va_get (D := D) (ci := 3) (v := .ref h1) (C := RX1) (T := TX1) (N := 7) hx hb hts hi_X1 hown hK hP 0 rfl rfl 0 (by decide) hF10 (fun _ h9 => h9) rfl dX1_isRankedSound_1 ?_
  refine lv_iconst (v := (3 : Int32)) hx hb dX1_isRankedSound_4 (by decide) ?_
  refine lv_iconst (v := (0 : Int32)) hx hb dX1_isRankedSound_5 (by decide) ?_
  refine kc_V (As := [.int (3 : Int32), .int (0 : Int32)]) (rest := []) ⟨hx, hb, hml, hown, hts⟩ (kX0_won l D cI cB h1 h2 mf mz ms mg m0 m1 (3 : Int32) (0 : Int32) _ hv) (cwV 2 hts gX1_isRankedSound_X0_won rfl rfl rfl (by decide +kernel) ⟨Nat.le_of_ble_eq_true rfl, Nat.le_of_ble_eq_true rfl⟩) (hP.sub (ws' := [(h1, .inr (2, [.ref h2, .int mz, .int ms, .int mg, .int m0, .int m1])), (h2, .inl (cI, 12, .inl mf))]) [1, 2] rfl) hK hN 2 rfl rfl rfl rfl hl.1 rfl (Nat.le_of_ble_eq_true rfl) dX1_isRankedSound_6 ⟨Nat.zero_le _, Nat.zero_le _⟩ (fun r6 hv => ?_)
  refine lv_istore_n (lv' := [(1, .int r6), (0, .ref h0)]) hx hb dX1_isRankedSound_9 rfl hl (by decide) rfl (fun ls hl => ?_)
  refine lv_aload_n hx hb dX1_isRankedSound_10 rfl (lv_at hl 1 rfl) ?_
  refine va_get (D := D) (ci := 3) (v := .ref h1) (C := RX1) (T := TX1) (N := 7) hx hb hts hi_X1 hown hK hP 0 rfl rfl 0 (by decide) hF10 (fun _ h9 => h9) rfl dX1_isRankedSound_11 ?_
  refine lv_iconst (v := (3 : Int32)) hx hb dX1_isRankedSound_14 (by decide) ?_
  refine lv_iconst (v := (1 : Int32)) hx hb dX1_isRankedSound_15 (by decide) ?_
  refine kc_V (As := [.int (3 : Int32), .int (1 : Int32)]) (rest := []) ⟨hx, hb, hml, hown, hts⟩ (kX0_won l D cI cB h1 h2 mf mz ms mg m0 m1 (3 : Int32) (1 : Int32) _ hv) (cwV 2 hts gX1_isRankedSound_X0_won rfl rfl rfl (by decide +kernel) ⟨Nat.le_of_ble_eq_true rfl, Nat.le_of_ble_eq_true rfl⟩) (hP.sub (ws' := [(h1, .inr (2, [.ref h2, .int mz, .int ms, .int mg, .int m0, .int m1])), (h2, .inl (cI, 12, .inl mf))]) [1, 2] rfl) hK hN 2 rfl rfl rfl rfl hl.1 rfl (Nat.le_of_ble_eq_true rfl) dX1_isRankedSound_16 ⟨Nat.zero_le _, Nat.zero_le _⟩ (fun r16 hv => ?_)
  refine lv_istore_n (lv' := [(2, .int r16), (1, .int r6), (0, .ref h0)]) hx hb dX1_isRankedSound_19 rfl hl (by decide) rfl (fun ls hl => ?_)
  refine lv_iload_n hx hb dX1_isRankedSound_20 rfl (lv_at hl 1 rfl) ?_
  refine lv_iload_n hx hb dX1_isRankedSound_21 rfl (lv_at hl 0 rfl) ?_
  refine lv_iand hx hb dX1_isRankedSound_22 ?_
  refine lv_if_ne (tgt := 39) hx hb dX1_isRankedSound_23 (by decide) (fun hc => ?_) (fun hc => ?_)
  · have hv := hv.1 hc
    refine lv_iconst (v := (0 : Int32)) hx hb dX1_isRankedSound_39 (by decide) ?_
    exact W.zret (v := (0 : Int32)) (ty := .boolean) hx hb hr rfl (kSi_ret rfl hv) (fun _ h => by cases h) dX1_isRankedSound_40
  · have hv := hv.2 hc
    refine lv_iload_n hx hb dX1_isRankedSound_26 rfl (lv_at hl 1 rfl) ?_
    refine lv_iload_n hx hb dX1_isRankedSound_27 rfl (lv_at hl 0 rfl) ?_
    refine lv_ior hx hb dX1_isRankedSound_28 ?_
    refine lv_aload_n hx hb dX1_isRankedSound_29 rfl (lv_at hl 2 rfl) ?_
    refine va_get (D := D) (ci := 3) (v := .ref h1) (C := RX1) (T := TX1) (N := 7) hx hb hts hi_X1 hown hK hP 0 rfl rfl 0 (by decide) hF10 (fun _ h9 => h9) rfl dX1_isRankedSound_30 ?_
    refine kc_V (As := []) (rest := [.int (r6 ||| r16)]) ⟨hx, hb, hml, hown, hts⟩ (kX0_all l D cI cB h1 h2 mf mz ms mg m0 m1 _ hv) (cwV 0 hts gX1_isRankedSound_X0_all rfl rfl rfl (by decide +kernel) ⟨Nat.le_of_ble_eq_true rfl, Nat.le_of_ble_eq_true rfl⟩) (hP.sub (ws' := [(h1, .inr (2, [.ref h2, .int mz, .int ms, .int mg, .int m0, .int m1])), (h2, .inl (cI, 12, .inl mf))]) [1, 2] rfl) hK hN 2 rfl rfl rfl rfl hl.1 rfl (Nat.le_of_ble_eq_true rfl) dX1_isRankedSound_33 ⟨Nat.zero_le _, Nat.zero_le _⟩ (fun r33 hv => ?_)
    refine lv_icmp_eq (tgt := 41) hx hb dX1_isRankedSound_36 (by decide) (fun hc => ?_) (fun hc => ?_)
    · have hv := hv.1 hc
      refine lv_iconst (v := (0 : Int32)) hx hb dX1_isRankedSound_41 (by decide) ?_
      refine lv_istore_n (lv' := [(3, .int (0 : Int32)), (2, .int r16), (1, .int r6), (0, .ref h0)]) hx hb dX1_isRankedSound_42 rfl hl (by decide) rfl (fun ls hl => ?_)
      have L43 : ∀ (K43_100 : Int32 → Prop), (∀ (v3_43 : Int32) (ls : Array Slot), K43_100 v3_43 → lv_has ls 5 [(0, .ref h0), (1, .int r6), (2, .int r16), (3, .int v3_43)] → W p l e (headSpec wsX1_isRankedSound ({ frames := 4, cells := 0, slots := 0, locals := 99 })).room s m ([.ref h0] : List Value).toArray below meth c s.heap [] 0 0 (MQ below (vp_Si post) ([.ref h0] : List Value).toArray s 0 0 (fun _ => False)) (F0 m 100 ls [])) → ∀ (n43 : Nat) (v3_43 : Int32) (ls : Array Slot), qX1_isRankedSound_43 mf mz ms r6 r16 K43_100 post n43 v3_43 → lv_has ls 5 [(0, .ref h0), (1, .int r6), (2, .int r16), (3, .int v3_43)] → W p l e (headSpec wsX1_isRankedSound ({ frames := 4, cells := 0, slots := 0, locals := 99 })).room s m ([.ref h0] : List Value).toArray below meth c s.heap [] 0 0 (MQ below (vp_Si post) ([.ref h0] : List Value).toArray s 0 0 (fun _ => False)) (F0 m 43 ls []) := by
        intro K43_100 hk43_100
        intro n43
        induction n43 with
        | zero => intro v3_43 ls hv hl; exact hv.elim
        | succ n43 ih43 =>
          intro v3_43 ls hv hl
          refine lv_iload_n hx hb dX1_isRankedSound_43 rfl (lv_at hl 3 rfl) ?_
          refine lv_aload_n hx hb dX1_isRankedSound_44 rfl (lv_at hl 0 rfl) ?_
          refine va_get (D := D) (ci := 3) (v := .ref h1) (C := RX1) (T := TX1) (N := 7) hx hb hts hi_X1 hown hK hP 0 rfl rfl 0 (by decide) hF10 (fun _ h9 => h9) rfl dX1_isRankedSound_45 ?_
          refine va_getN (D := D) (ci := 2) (v := .int mz) (C := RX0) (T := TX0) (N := 6) (host := "Roadgame") hx hb hts hi_X0 hown hK hP 1 rfl rfl 1 (by decide) (va_Nw.use rfl hN.1) (fun _ h9 => h9) rfl dX1_isRankedSound_48 ?_
          refine lv_icmp_ge (tgt := 100) hx hb dX1_isRankedSound_51 (by decide) (fun hc => ?_) (fun hc => ?_)
          · have hv := hv.1 hc
            exact hk43_100 _ ls hv (lv_sub hl [0, 1, 2, 3] rfl)
          · have hv := hv.2 hc
            refine lv_aload_n hx hb dX1_isRankedSound_54 rfl (lv_at hl 0 rfl) ?_
            refine va_get (D := D) (ci := 3) (v := .ref h1) (C := RX1) (T := TX1) (N := 7) hx hb hts hi_X1 hown hK hP 0 rfl rfl 0 (by decide) hF10 (fun _ h9 => h9) rfl dX1_isRankedSound_55 ?_
            refine lv_iload_n hx hb dX1_isRankedSound_58 rfl (lv_at hl 3 rfl) ?_
            refine kc_V (As := [.int v3_43]) (rest := []) ⟨hx, hb, hml, hown, hts⟩ (kX0_sideOf l D cI cB h1 h2 mf mz ms mg m0 m1 v3_43 _ hv) (cwV 1 hts gX1_isRankedSound_X0_sideOf rfl rfl rfl (by decide +kernel) ⟨Nat.le_of_ble_eq_true rfl, Nat.le_of_ble_eq_true rfl⟩) (hP.sub (ws' := [(h1, .inr (2, [.ref h2, .int mz, .int ms, .int mg, .int m0, .int m1])), (h2, .inl (cI, 12, .inl mf))]) [1, 2] rfl) hK hN 2 rfl rfl rfl rfl hl.1 rfl (Nat.le_of_ble_eq_true rfl) dX1_isRankedSound_59 ⟨Nat.zero_le _, Nat.zero_le _⟩ (fun r59 hv => ?_)
            refine lv_if_ne (tgt := 69) hx hb dX1_isRankedSound_62 (by decide) (fun hc => ?_) (fun hc => ?_)
            · have hv := hv.1 hc
              refine lv_iload_n hx hb dX1_isRankedSound_69 rfl (lv_at hl 2 rfl) ?_
              refine lv_istore (lv' := [(4, .int r16), (0, .ref h0), (1, .int r6), (2, .int r16), (3, .int v3_43)]) hx hb dX1_isRankedSound_70 hl (by decide) rfl (fun ls hl => ?_)
              refine lv_aload_n hx hb dX1_isRankedSound_72 rfl (lv_at hl 1 rfl) ?_
              refine va_get (D := D) (ci := 3) (v := .ref h1) (C := RX1) (T := TX1) (N := 7) hx hb hts hi_X1 hown hK hP 0 rfl rfl 0 (by decide) hF10 (fun _ h9 => h9) rfl dX1_isRankedSound_73 ?_
              refine lv_iload_n hx hb dX1_isRankedSound_76 rfl (lv_at hl 4 rfl) ?_
              refine kc_V (As := [.int v3_43]) (rest := []) ⟨hx, hb, hml, hown, hts⟩ (kX0_waysFrom l D cI cB h1 h2 mf mz ms mg m0 m1 v3_43 _ hv) (cwV 1 hts gX1_isRankedSound_X0_waysFrom rfl rfl rfl (by decide +kernel) ⟨Nat.le_of_ble_eq_true rfl, Nat.le_of_ble_eq_true rfl⟩) (hP.sub (ws' := [(h1, .inr (2, [.ref h2, .int mz, .int ms, .int mg, .int m0, .int m1])), (h2, .inl (cI, 12, .inl mf))]) [1, 2] rfl) hK hN 2 rfl rfl rfl rfl hl.1 rfl (Nat.le_of_ble_eq_true rfl) dX1_isRankedSound_77 ⟨Nat.zero_le _, Nat.zero_le _⟩ (fun r77 hv => ?_)
              refine lv_if_ne (tgt := 94) hx hb dX1_isRankedSound_80 (by decide) (fun hc => ?_) (fun hc => ?_)
              · have hv := hv.1 hc
                refine lv_iinc (v := (v3_43 + (1 : Int32))) (lv' := [(3, .int (v3_43 + (1 : Int32))), (4, .int r16), (0, .ref h0), (1, .int r6), (2, .int r16)]) hx hb dX1_isRankedSound_94 hl (k := 4) rfl rfl (by decide) rfl (fun ls hl => ?_)
                refine lv_goto (tgt := 43) hx hb dX1_isRankedSound_97 (by decide) ?_
                exact ih43 _ ls hv (lv_sub hl [2, 3, 4, 0] rfl)
              · have hv := hv.2 hc
                refine lv_iload hx hb dX1_isRankedSound_83 (lv_at hl 0 rfl) ?_
                refine lv_iload_n hx hb dX1_isRankedSound_85 rfl (lv_at hl 4 rfl) ?_
                refine kc_S (As := [.int r16, .int v3_43]) (rest := []) ⟨hx, hb, hml, hown, hts⟩ (kX1_has l D cI cB r16 v3_43 _ hv) (va_cwS 2 hts gX1_isRankedSound_X1_has rfl rfl rfl (by decide +kernel) ⟨Nat.le_of_ble_eq_true rfl, Nat.le_of_ble_eq_true rfl⟩) (hP.sub (ws' := []) [] rfl) hK hN rfl hl.1 rfl (Nat.le_of_ble_eq_true rfl) dX1_isRankedSound_86 ⟨Nat.zero_le _, Nat.zero_le _⟩ (fun r86 hv => ?_)
                refine lv_if_eq (tgt := 94) hx hb dX1_isRankedSound_89 (by decide) (fun hc => ?_) (fun hc => ?_)
                · have hv := hv.1 hc
                  refine lv_iinc (v := (v3_43 + (1 : Int32))) (lv' := [(3, .int (v3_43 + (1 : Int32))), (4, .int r16), (0, .ref h0), (1, .int r6), (2, .int r16)]) hx hb dX1_isRankedSound_94 hl (k := 4) rfl rfl (by decide) rfl (fun ls hl => ?_)
                  refine lv_goto (tgt := 43) hx hb dX1_isRankedSound_97 (by decide) ?_
                  exact ih43 _ ls hv (lv_sub hl [2, 3, 4, 0] rfl)
                · have hv := hv.2 hc
                  refine lv_iconst (v := (0 : Int32)) hx hb dX1_isRankedSound_92 (by decide) ?_
                  exact W.zret (v := (0 : Int32)) (ty := .boolean) hx hb hr rfl (kSi_ret rfl hv) (fun _ h => by cases h) dX1_isRankedSound_93
            · have hv := hv.2 hc
              refine lv_iload_n hx hb dX1_isRankedSound_65 rfl (lv_at hl 1 rfl) ?_
              refine lv_goto (tgt := 70) hx hb dX1_isRankedSound_66 (by decide) ?_
              refine lv_istore (lv' := [(4, .int r6), (0, .ref h0), (1, .int r6), (2, .int r16), (3, .int v3_43)]) hx hb dX1_isRankedSound_70 hl (by decide) rfl (fun ls hl => ?_)
              refine lv_aload_n hx hb dX1_isRankedSound_72 rfl (lv_at hl 1 rfl) ?_
              refine va_get (D := D) (ci := 3) (v := .ref h1) (C := RX1) (T := TX1) (N := 7) hx hb hts hi_X1 hown hK hP 0 rfl rfl 0 (by decide) hF10 (fun _ h9 => h9) rfl dX1_isRankedSound_73 ?_
              refine lv_iload_n hx hb dX1_isRankedSound_76 rfl (lv_at hl 4 rfl) ?_
              refine kc_V (As := [.int v3_43]) (rest := []) ⟨hx, hb, hml, hown, hts⟩ (kX0_waysFrom l D cI cB h1 h2 mf mz ms mg m0 m1 v3_43 _ hv) (cwV 1 hts gX1_isRankedSound_X0_waysFrom rfl rfl rfl (by decide +kernel) ⟨Nat.le_of_ble_eq_true rfl, Nat.le_of_ble_eq_true rfl⟩) (hP.sub (ws' := [(h1, .inr (2, [.ref h2, .int mz, .int ms, .int mg, .int m0, .int m1])), (h2, .inl (cI, 12, .inl mf))]) [1, 2] rfl) hK hN 2 rfl rfl rfl rfl hl.1 rfl (Nat.le_of_ble_eq_true rfl) dX1_isRankedSound_77 ⟨Nat.zero_le _, Nat.zero_le _⟩ (fun r77 hv => ?_)
              refine lv_if_ne (tgt := 94) hx hb dX1_isRankedSound_80 (by decide) (fun hc => ?_) (fun hc => ?_)
              · have hv := hv.1 hc
                refine lv_iinc (v := (v3_43 + (1 : Int32))) (lv' := [(3, .int (v3_43 + (1 : Int32))), (4, .int r6), (0, .ref h0), (1, .int r6), (2, .int r16)]) hx hb dX1_isRankedSound_94 hl (k := 4) rfl rfl (by decide) rfl (fun ls hl => ?_)
                refine lv_goto (tgt := 43) hx hb dX1_isRankedSound_97 (by decide) ?_
                exact ih43 _ ls hv (lv_sub hl [2, 3, 4, 0] rfl)
              · have hv := hv.2 hc
                refine lv_iload hx hb dX1_isRankedSound_83 (lv_at hl 0 rfl) ?_
                refine lv_iload_n hx hb dX1_isRankedSound_85 rfl (lv_at hl 4 rfl) ?_
                refine kc_S (As := [.int r6, .int v3_43]) (rest := []) ⟨hx, hb, hml, hown, hts⟩ (kX1_has l D cI cB r6 v3_43 _ hv) (va_cwS 2 hts gX1_isRankedSound_X1_has rfl rfl rfl (by decide +kernel) ⟨Nat.le_of_ble_eq_true rfl, Nat.le_of_ble_eq_true rfl⟩) (hP.sub (ws' := []) [] rfl) hK hN rfl hl.1 rfl (Nat.le_of_ble_eq_true rfl) dX1_isRankedSound_86 ⟨Nat.zero_le _, Nat.zero_le _⟩ (fun r86 hv => ?_)
                refine lv_if_eq (tgt := 94) hx hb dX1_isRankedSound_89 (by decide) (fun hc => ?_) (fun hc => ?_)
                · have hv := hv.1 hc
                  refine lv_iinc (v := (v3_43 + (1 : Int32))) (lv' := [(3, .int (v3_43 + (1 : Int32))), (4, .int r6), (0, .ref h0), (1, .int r6), (2, .int r16)]) hx hb dX1_isRankedSound_94 hl (k := 4) rfl rfl (by decide) rfl (fun ls hl => ?_)
                  refine lv_goto (tgt := 43) hx hb dX1_isRankedSound_97 (by decide) ?_
                  exact ih43 _ ls hv (lv_sub hl [2, 3, 4, 0] rfl)
                · have hv := hv.2 hc
                  refine lv_iconst (v := (0 : Int32)) hx hb dX1_isRankedSound_92 (by decide) ?_
                  exact W.zret (v := (0 : Int32)) (ty := .boolean) hx hb hr rfl (kSi_ret rfl hv) (fun _ h => by cases h) dX1_isRankedSound_93
      obtain ⟨n43, hv⟩ := hv
      refine L43 _ (fun v3_43x ls hv hl => ?_) n43 _ _ hv (lv_sub hl [3, 2, 1, 0] rfl)
      refine lv_iconst (v := (1 : Int32)) hx hb dX1_isRankedSound_100 (by decide) ?_
      exact W.zret (v := (1 : Int32)) (ty := .boolean) hx hb hr rfl (kSi_ret rfl hv) (fun _ h => by cases h) dX1_isRankedSound_101
    · have hv := hv.2 hc
      refine lv_iconst (v := (0 : Int32)) hx hb dX1_isRankedSound_39 (by decide) ?_
      exact W.zret (v := (0 : Int32)) (ty := .boolean) hx hb hr rfl (kSi_ret rfl hv) (fun _ h => by cases h) dX1_isRankedSound_40
set_option maxHeartbeats 4000000 in
set_option maxRecDepth 100000 in
theorem kX1_refuseW (l : Launch) (D : va_G) (cI cB : ClassId) (h0 : Nat) (h1 : Nat) (h2 : Nat) (h3 : Nat) (h4 : Nat) (mf : Nat → Int32) (mz : Int32) (ms : Int32) (mg : Int32) (m0 : Int32) (m1 : Int32) (tf : Nat → Int32) (tz : Int32) (ts : Int32) (tg : Int32) (t0 : Int32) (t1 : Int32) (xst : Int32) (xgo : Int32) (xdo : Int32) (xre : Int32) (xkn : Int32)  (sz : Nat) (post : Int32 → Int32 → Prop) (hv : qX1_refuseW xre post) : Met l yX1_refuse wsX1_refuse ({ frames := 0, cells := 0, slots := 0, locals := 0 }) (va_Pc [.ref h0] (kBW D cI cB sz [(h0, .inr (3, [.ref h1, .ref h3, .int xst, .int xgo, .int xdo, .int xre, .int xkn])), (h1, .inr (2, [.ref h2, .int mz, .int ms, .int mg, .int m0, .int m1])), (h2, .inl (cI, 12, .inl mf)), (h3, .inr (2, [.ref h4, .int tz, .int ts, .int tg, .int t0, .int t1])), (h4, .inl (cI, 12, .inl tf))])) (va_Qi (fun (r : Int32) (u : Int32) => post r u) (fun (u : Int32) (t : State) => kE D (va_A [(h0, .inr (3, [.ref h1, .ref h3, .int xst, .int xgo, .int xdo, .int xre, .int xkn])), (h1, .inr (2, [.ref h2, .int mz, .int ms, .int mg, .int m0, .int m1])), (h2, .inl (cI, 12, .inl mf)), (h3, .inr (2, [.ref h4, .int tz, .int ts, .int tg, .int t0, .int t1])), (h4, .inl (cI, 12, .inl tf))] sz) [(h0, .inr (3, [.ref h1, .ref h3, .int xst, .int xgo, .int xdo, .int u, .int xkn])), (h1, .inr (2, [.ref h2, .int mz, .int ms, .int mg, .int m0, .int m1])), (h2, .inl (cI, 12, .inl mf)), (h3, .inr (2, [.ref h4, .int tz, .int ts, .int tg, .int t0, .int t1])), (h4, .inl (cI, 12, .inl tf))] t) (va_A [(h0, .inr (3, [.ref h1, .ref h3, .int xst, .int xgo, .int xdo, .int xre, .int xkn])), (h1, .inr (2, [.ref h2, .int mz, .int ms, .int mg, .int m0, .int m1])), (h2, .inl (cI, 12, .inl mf)), (h3, .inr (2, [.ref h4, .int tz, .int ts, .int tg, .int t0, .int t1])), (h4, .inl (cI, 12, .inl tf))] sz)) 0 0 (va_A [(h0, .inr (3, [.ref h1, .ref h3, .int xst, .int xgo, .int xdo, .int xre, .int xkn])), (h1, .inr (2, [.ref h2, .int mz, .int ms, .int mg, .int m0, .int m1])), (h2, .inl (cI, 12, .inl mf)), (h3, .inr (2, [.ref h4, .int tz, .int ts, .int tg, .int t0, .int t1])), (h4, .inl (cI, 12, .inl tf))] sz) := by
  refine Met.ofW (cc := cX1_refuse) (maxL := 1) (ret := (some .int)) (by decide) rfl ?_
  intro p e s m args below meth c s₁ B hml hv0
  obtain ⟨rfl, hsz, ⟨hP, hK, hN⟩, hD0⟩ := hv0
  have hx := B.exec
  have hb := B.bytes
  have hr := B.returns
  have hts := atoms_spec (ws := wsX1_refuse) B.pre
  have hown : s.vm.findClass RX1 = some m.cls := findClass_of_methodNamed B.named
  have hlocks := B.notSynchronized
  have hi_X1 : ∀ w ∈ wsX10, w ∈ wsX1_refuse := by decide +kernel
  have hF162 := hts (.fieldLink RX1 162 "Roadgame" "refused" "I") (by decide +kernel)
  subst hsz
  have hD := hD0.self (sz := s.heap.size)
  generalize hAe : va_A [(h0, .inr (3, [.ref h1, .ref h3, .int xst, .int xgo, .int xdo, .int xre, .int xkn])), (h1, .inr (2, [.ref h2, .int mz, .int ms, .int mg, .int m0, .int m1])), (h2, .inl (cI, 12, .inl mf)), (h3, .inr (2, [.ref h4, .int tz, .int ts, .int tg, .int t0, .int t1])), (h4, .inl (cI, 12, .inl tf))] s.heap.size = A at hD ⊢
  have hA : ∀ q : Nat, s.heap.size ≤ q → A q := fun q h => by rw [← hAe]; exact Or.inr h
  have hS : va_S A s.heap s.heap [] := va_S.rf
  have hl := lv_entry ([.ref h0]) (n := 1) (Nat.le_of_ble_eq_true rfl)
  rw [lg_entry_eq]
  generalize (lg_sl ([.ref h0]) ++ List.replicate (1 - (lg_sl ([.ref h0])).length) Slot.unset).toArray = ls at hl ⊢
  have hl : lv_has ls 1 [(0, .ref h0)] := hl
  refine lv_aload_n hx hb dX1_refuse_0 rfl (lv_at hl 0 rfl) ?_
  refine lv_dup hx hb dX1_refuse_1 rfl ?_
  refine va_get (D := D) (ci := 3) (v := .int xre) (C := RX1) (T := TX1) (N := 7) hx hb hts hi_X1 hown hK hP 0 rfl rfl 5 (by decide) hF162 (fun _ h9 => h9) rfl dX1_refuse_2 ?_
  refine lv_iconst (v := (1 : Int32)) hx hb dX1_refuse_5 (by decide) ?_
  refine lv_iadd hx hb dX1_refuse_6 ?_
  refine va_put (D := D) (ci := 3) (v := .int (xre + (1 : Int32))) (ty := .int) (C := RX1) (T := TX1) (N := 7) hx hb hts hi_X1 tyX1 tyX1_ok nmX1 hown hK hP hD hS 0 rfl rfl 5 (by decide) hF162 (fun _ h9 => h9) rfl (by decide +kernel) rfl rfl (Nat.le_of_ble_eq_true rfl) dX1_refuse_7 (fun H locs hP hD hS => ?_)
  have hP : va_P D vwCl [(h0, .inr (3, [.ref h1, .ref h3, .int xst, .int xgo, .int xdo, .int (xre + (1 : Int32)), .int xkn])), (h1, .inr (2, [.ref h2, .int mz, .int ms, .int mg, .int m0, .int m1])), (h2, .inl (cI, 12, .inl mf)), (h3, .inr (2, [.ref h4, .int tz, .int ts, .int tg, .int t0, .int t1])), (h4, .inl (cI, 12, .inl tf))] H := hP
  have hD : va_D A [(h0, .inr (3, [.ref h1, .ref h3, .int xst, .int xgo, .int xdo, .int (xre + (1 : Int32)), .int xkn])), (h1, .inr (2, [.ref h2, .int mz, .int ms, .int mg, .int m0, .int m1])), (h2, .inl (cI, 12, .inl mf)), (h3, .inr (2, [.ref h4, .int tz, .int ts, .int tg, .int t0, .int t1])), (h4, .inl (cI, 12, .inl tf))] := hD
  refine lv_bipush (v := (-9 : Int32)) hx hb dX1_refuse_10 (by decide) ?_
  refine W.widen (k := 0) (n := 0) (Nat.le_of_ble_eq_true rfl) (Nat.le_of_ble_eq_true rfl) ?_
  exact W.iret (v := (-9 : Int32)) hx hb hr (kWi_ret (u := (xre + (1 : Int32))) hv hP hD hS) hS.2.2 dX1_refuse_12
set_option maxHeartbeats 4000000 in
set_option maxRecDepth 100000 in
theorem kX1_moveStoneW (l : Launch) (D : va_G) (cI cB : ClassId) (h0 : Nat) (h1 : Nat) (h2 : Nat) (h3 : Nat) (h4 : Nat) (mf : Nat → Int32) (mz : Int32) (ms : Int32) (mg : Int32) (m0 : Int32) (m1 : Int32) (tf : Nat → Int32) (tz : Int32) (ts : Int32) (tg : Int32) (t0 : Int32) (t1 : Int32) (xst : Int32) (xgo : Int32) (xdo : Int32) (xre : Int32) (xkn : Int32) (a1 : Int32) (sz : Nat) (post : Int32 → Int32 → Int32 → Prop) (hv : qX1_moveStoneW xgo xdo a1 post) : Met l yX1_moveStone wsX1_moveStone ({ frames := 0, cells := 0, slots := 0, locals := 0 }) (va_Pc [.ref h0, .int a1] (kBW D cI cB sz [(h0, .inr (3, [.ref h1, .ref h3, .int xst, .int xgo, .int xdo, .int xre, .int xkn])), (h1, .inr (2, [.ref h2, .int mz, .int ms, .int mg, .int m0, .int m1])), (h2, .inl (cI, 12, .inl mf)), (h3, .inr (2, [.ref h4, .int tz, .int ts, .int tg, .int t0, .int t1])), (h4, .inl (cI, 12, .inl tf))])) (va_Qv (fun (u : Int32 × Int32 × Int32) => post u.1 u.2.1 u.2.2) (fun (u : Int32 × Int32 × Int32) (t : State) => kE D (va_A [(h0, .inr (3, [.ref h1, .ref h3, .int xst, .int xgo, .int xdo, .int xre, .int xkn])), (h1, .inr (2, [.ref h2, .int mz, .int ms, .int mg, .int m0, .int m1])), (h2, .inl (cI, 12, .inl mf)), (h3, .inr (2, [.ref h4, .int tz, .int ts, .int tg, .int t0, .int t1])), (h4, .inl (cI, 12, .inl tf))] sz) [(h0, .inr (3, [.ref h1, .ref h3, .int (u.1), .int (u.2.1), .int (u.2.2), .int xre, .int xkn])), (h1, .inr (2, [.ref h2, .int mz, .int ms, .int mg, .int m0, .int m1])), (h2, .inl (cI, 12, .inl mf)), (h3, .inr (2, [.ref h4, .int tz, .int ts, .int tg, .int t0, .int t1])), (h4, .inl (cI, 12, .inl tf))] t) (va_A [(h0, .inr (3, [.ref h1, .ref h3, .int xst, .int xgo, .int xdo, .int xre, .int xkn])), (h1, .inr (2, [.ref h2, .int mz, .int ms, .int mg, .int m0, .int m1])), (h2, .inl (cI, 12, .inl mf)), (h3, .inr (2, [.ref h4, .int tz, .int ts, .int tg, .int t0, .int t1])), (h4, .inl (cI, 12, .inl tf))] sz)) 0 0 (va_A [(h0, .inr (3, [.ref h1, .ref h3, .int xst, .int xgo, .int xdo, .int xre, .int xkn])), (h1, .inr (2, [.ref h2, .int mz, .int ms, .int mg, .int m0, .int m1])), (h2, .inl (cI, 12, .inl mf)), (h3, .inr (2, [.ref h4, .int tz, .int ts, .int tg, .int t0, .int t1])), (h4, .inl (cI, 12, .inl tf))] sz) := by
  refine Met.ofW (cc := cX1_moveStone) (maxL := 2) (ret := none) (by decide) rfl ?_
  intro p e s m args below meth c s₁ B hml hv0
  obtain ⟨rfl, hsz, ⟨hP, hK, hN⟩, hD0⟩ := hv0
  have hx := B.exec
  have hb := B.bytes
  have hr := B.returns
  have hts := atoms_spec (ws := wsX1_moveStone) B.pre
  have hown : s.vm.findClass RX1 = some m.cls := findClass_of_methodNamed B.named
  have hlocks := B.notSynchronized
  have hi_X1 : ∀ w ∈ wsX10, w ∈ wsX1_moveStone := by decide +kernel
  have hF31 := hts (.fieldLink RX1 31 "Roadgame" "stone" "I") (by decide +kernel)
  have hF34 := hts (.fieldLink RX1 34 "Roadgame" "gone" "I") (by decide +kernel)
  have hF37 := hts (.fieldLink RX1 37 "Roadgame" "done" "I") (by decide +kernel)
  subst hsz
  have hD := hD0.self (sz := s.heap.size)
  generalize hAe : va_A [(h0, .inr (3, [.ref h1, .ref h3, .int xst, .int xgo, .int xdo, .int xre, .int xkn])), (h1, .inr (2, [.ref h2, .int mz, .int ms, .int mg, .int m0, .int m1])), (h2, .inl (cI, 12, .inl mf)), (h3, .inr (2, [.ref h4, .int tz, .int ts, .int tg, .int t0, .int t1])), (h4, .inl (cI, 12, .inl tf))] s.heap.size = A at hD ⊢
  have hA : ∀ q : Nat, s.heap.size ≤ q → A q := fun q h => by rw [← hAe]; exact Or.inr h
  have hS : va_S A s.heap s.heap [] := va_S.rf
  have hl := lv_entry ([.ref h0, .int a1]) (n := 2) (Nat.le_of_ble_eq_true rfl)
  rw [lg_entry_eq]
  generalize (lg_sl ([.ref h0, .int a1]) ++ List.replicate (2 - (lg_sl ([.ref h0, .int a1])).length) Slot.unset).toArray = ls at hl ⊢
  have hl : lv_has ls 2 [(0, .ref h0), (1, .int a1)] := hl
  refine lv_aload_n hx hb dX1_moveStone_0 rfl (lv_at hl 0 rfl) ?_
  refine lv_iload_n hx hb dX1_moveStone_1 rfl (lv_at hl 1 rfl) ?_
  refine va_put (D := D) (ci := 3) (v := .int a1) (ty := .int) (C := RX1) (T := TX1) (N := 7) hx hb hts hi_X1 tyX1 tyX1_ok nmX1 hown hK hP hD hS 0 rfl rfl 2 (by decide) hF31 (fun _ h9 => h9) rfl (by decide +kernel) rfl rfl (Nat.le_of_ble_eq_true rfl) dX1_moveStone_2 (fun H locs hP hD hS => ?_)
  have hP : va_P D vwCl [(h0, .inr (3, [.ref h1, .ref h3, .int a1, .int xgo, .int xdo, .int xre, .int xkn])), (h1, .inr (2, [.ref h2, .int mz, .int ms, .int mg, .int m0, .int m1])), (h2, .inl (cI, 12, .inl mf)), (h3, .inr (2, [.ref h4, .int tz, .int ts, .int tg, .int t0, .int t1])), (h4, .inl (cI, 12, .inl tf))] H := hP
  have hD : va_D A [(h0, .inr (3, [.ref h1, .ref h3, .int a1, .int xgo, .int xdo, .int xre, .int xkn])), (h1, .inr (2, [.ref h2, .int mz, .int ms, .int mg, .int m0, .int m1])), (h2, .inl (cI, 12, .inl mf)), (h3, .inr (2, [.ref h4, .int tz, .int ts, .int tg, .int t0, .int t1])), (h4, .inl (cI, 12, .inl tf))] := hD
  refine lv_aload_n hx hb dX1_moveStone_5 rfl (lv_at hl 0 rfl) ?_
  refine lv_dup hx hb dX1_moveStone_6 rfl ?_
  refine va_get (D := D) (ci := 3) (v := .int xgo) (C := RX1) (T := TX1) (N := 7) hx hb hts hi_X1 hown hK hP 0 rfl rfl 3 (by decide) hF34 (fun _ h9 => h9) rfl dX1_moveStone_7 ?_
  refine lv_iconst (v := (1 : Int32)) hx hb dX1_moveStone_10 (by decide) ?_
  refine lv_iadd hx hb dX1_moveStone_11 ?_
  refine va_put (D := D) (ci := 3) (v := .int (xgo + (1 : Int32))) (ty := .int) (C := RX1) (T := TX1) (N := 7) hx hb hts hi_X1 tyX1 tyX1_ok nmX1 hown hK hP hD hS 0 rfl rfl 3 (by decide) hF34 (fun _ h9 => h9) rfl (by decide +kernel) rfl rfl (Nat.le_of_ble_eq_true rfl) dX1_moveStone_12 (fun H locs hP hD hS => ?_)
  have hP : va_P D vwCl [(h0, .inr (3, [.ref h1, .ref h3, .int a1, .int (xgo + (1 : Int32)), .int xdo, .int xre, .int xkn])), (h1, .inr (2, [.ref h2, .int mz, .int ms, .int mg, .int m0, .int m1])), (h2, .inl (cI, 12, .inl mf)), (h3, .inr (2, [.ref h4, .int tz, .int ts, .int tg, .int t0, .int t1])), (h4, .inl (cI, 12, .inl tf))] H := hP
  have hD : va_D A [(h0, .inr (3, [.ref h1, .ref h3, .int a1, .int (xgo + (1 : Int32)), .int xdo, .int xre, .int xkn])), (h1, .inr (2, [.ref h2, .int mz, .int ms, .int mg, .int m0, .int m1])), (h2, .inl (cI, 12, .inl mf)), (h3, .inr (2, [.ref h4, .int tz, .int ts, .int tg, .int t0, .int t1])), (h4, .inl (cI, 12, .inl tf))] := hD
  refine lv_aload_n hx hb dX1_moveStone_15 rfl (lv_at hl 0 rfl) ?_
  refine lv_dup hx hb dX1_moveStone_16 rfl ?_
  refine va_get (D := D) (ci := 3) (v := .int xdo) (C := RX1) (T := TX1) (N := 7) hx hb hts hi_X1 hown hK hP 0 rfl rfl 4 (by decide) hF37 (fun _ h9 => h9) rfl dX1_moveStone_17 ?_
  refine lv_iconst (v := (1 : Int32)) hx hb dX1_moveStone_20 (by decide) ?_
  refine lv_iadd hx hb dX1_moveStone_21 ?_
  refine va_put (D := D) (ci := 3) (v := .int (xdo + (1 : Int32))) (ty := .int) (C := RX1) (T := TX1) (N := 7) hx hb hts hi_X1 tyX1 tyX1_ok nmX1 hown hK hP hD hS 0 rfl rfl 4 (by decide) hF37 (fun _ h9 => h9) rfl (by decide +kernel) rfl rfl (Nat.le_of_ble_eq_true rfl) dX1_moveStone_22 (fun H locs hP hD hS => ?_)
  have hP : va_P D vwCl [(h0, .inr (3, [.ref h1, .ref h3, .int a1, .int (xgo + (1 : Int32)), .int (xdo + (1 : Int32)), .int xre, .int xkn])), (h1, .inr (2, [.ref h2, .int mz, .int ms, .int mg, .int m0, .int m1])), (h2, .inl (cI, 12, .inl mf)), (h3, .inr (2, [.ref h4, .int tz, .int ts, .int tg, .int t0, .int t1])), (h4, .inl (cI, 12, .inl tf))] H := hP
  have hD : va_D A [(h0, .inr (3, [.ref h1, .ref h3, .int a1, .int (xgo + (1 : Int32)), .int (xdo + (1 : Int32)), .int xre, .int xkn])), (h1, .inr (2, [.ref h2, .int mz, .int ms, .int mg, .int m0, .int m1])), (h2, .inl (cI, 12, .inl mf)), (h3, .inr (2, [.ref h4, .int tz, .int ts, .int tg, .int t0, .int t1])), (h4, .inl (cI, 12, .inl tf))] := hD
  refine W.widen (k := 0) (n := 0) (Nat.le_of_ble_eq_true rfl) (Nat.le_of_ble_eq_true rfl) ?_
  exact W.vret hx hb hr (kWv_ret (u := (a1, (xgo + (1 : Int32)), (xdo + (1 : Int32)))) hv hP hD hS) hS.2.2 dX1_moveStone_25
set_option maxHeartbeats 4000000 in
set_option maxRecDepth 100000 in
theorem kX1_knockW (l : Launch) (D : va_G) (cI cB : ClassId) (h0 : Nat) (h1 : Nat) (h2 : Nat) (h3 : Nat) (h4 : Nat) (mf : Nat → Int32) (mz : Int32) (ms : Int32) (mg : Int32) (m0 : Int32) (m1 : Int32) (tf : Nat → Int32) (tz : Int32) (ts : Int32) (tg : Int32) (t0 : Int32) (t1 : Int32) (xst : Int32) (xgo : Int32) (xdo : Int32) (xre : Int32) (xkn : Int32)  (sz : Nat) (post : Int32 → Int32 → Prop) (hv : qX1_knockW xkn post) : Met l yX1_knock wsX1_knock ({ frames := 0, cells := 0, slots := 0, locals := 0 }) (va_Pc [.ref h0] (kBW D cI cB sz [(h0, .inr (3, [.ref h1, .ref h3, .int xst, .int xgo, .int xdo, .int xre, .int xkn])), (h1, .inr (2, [.ref h2, .int mz, .int ms, .int mg, .int m0, .int m1])), (h2, .inl (cI, 12, .inl mf)), (h3, .inr (2, [.ref h4, .int tz, .int ts, .int tg, .int t0, .int t1])), (h4, .inl (cI, 12, .inl tf))])) (va_Qi (fun (r : Int32) (u : Int32) => post r u) (fun (u : Int32) (t : State) => kE D (va_A [(h0, .inr (3, [.ref h1, .ref h3, .int xst, .int xgo, .int xdo, .int xre, .int xkn])), (h1, .inr (2, [.ref h2, .int mz, .int ms, .int mg, .int m0, .int m1])), (h2, .inl (cI, 12, .inl mf)), (h3, .inr (2, [.ref h4, .int tz, .int ts, .int tg, .int t0, .int t1])), (h4, .inl (cI, 12, .inl tf))] sz) [(h0, .inr (3, [.ref h1, .ref h3, .int xst, .int xgo, .int xdo, .int xre, .int u])), (h1, .inr (2, [.ref h2, .int mz, .int ms, .int mg, .int m0, .int m1])), (h2, .inl (cI, 12, .inl mf)), (h3, .inr (2, [.ref h4, .int tz, .int ts, .int tg, .int t0, .int t1])), (h4, .inl (cI, 12, .inl tf))] t) (va_A [(h0, .inr (3, [.ref h1, .ref h3, .int xst, .int xgo, .int xdo, .int xre, .int xkn])), (h1, .inr (2, [.ref h2, .int mz, .int ms, .int mg, .int m0, .int m1])), (h2, .inl (cI, 12, .inl mf)), (h3, .inr (2, [.ref h4, .int tz, .int ts, .int tg, .int t0, .int t1])), (h4, .inl (cI, 12, .inl tf))] sz)) 0 0 (va_A [(h0, .inr (3, [.ref h1, .ref h3, .int xst, .int xgo, .int xdo, .int xre, .int xkn])), (h1, .inr (2, [.ref h2, .int mz, .int ms, .int mg, .int m0, .int m1])), (h2, .inl (cI, 12, .inl mf)), (h3, .inr (2, [.ref h4, .int tz, .int ts, .int tg, .int t0, .int t1])), (h4, .inl (cI, 12, .inl tf))] sz) := by
  refine Met.ofW (cc := cX1_knock) (maxL := 1) (ret := (some .int)) (by decide) rfl ?_
  intro p e s m args below meth c s₁ B hml hv0
  obtain ⟨rfl, hsz, ⟨hP, hK, hN⟩, hD0⟩ := hv0
  have hx := B.exec
  have hb := B.bytes
  have hr := B.returns
  have hts := atoms_spec (ws := wsX1_knock) B.pre
  have hown : s.vm.findClass RX1 = some m.cls := findClass_of_methodNamed B.named
  have hlocks := B.notSynchronized
  have hi_X1 : ∀ w ∈ wsX10, w ∈ wsX1_knock := by decide +kernel
  have hF165 := hts (.fieldLink RX1 165 "Roadgame" "knocks" "I") (by decide +kernel)
  subst hsz
  have hD := hD0.self (sz := s.heap.size)
  generalize hAe : va_A [(h0, .inr (3, [.ref h1, .ref h3, .int xst, .int xgo, .int xdo, .int xre, .int xkn])), (h1, .inr (2, [.ref h2, .int mz, .int ms, .int mg, .int m0, .int m1])), (h2, .inl (cI, 12, .inl mf)), (h3, .inr (2, [.ref h4, .int tz, .int ts, .int tg, .int t0, .int t1])), (h4, .inl (cI, 12, .inl tf))] s.heap.size = A at hD ⊢
  have hA : ∀ q : Nat, s.heap.size ≤ q → A q := fun q h => by rw [← hAe]; exact Or.inr h
  have hS : va_S A s.heap s.heap [] := va_S.rf
  have hl := lv_entry ([.ref h0]) (n := 1) (Nat.le_of_ble_eq_true rfl)
  rw [lg_entry_eq]
  generalize (lg_sl ([.ref h0]) ++ List.replicate (1 - (lg_sl ([.ref h0])).length) Slot.unset).toArray = ls at hl ⊢
  have hl : lv_has ls 1 [(0, .ref h0)] := hl
  refine lv_aload_n hx hb dX1_knock_0 rfl (lv_at hl 0 rfl) ?_
  refine lv_dup hx hb dX1_knock_1 rfl ?_
  refine va_get (D := D) (ci := 3) (v := .int xkn) (C := RX1) (T := TX1) (N := 7) hx hb hts hi_X1 hown hK hP 0 rfl rfl 6 (by decide) hF165 (fun _ h9 => h9) rfl dX1_knock_2 ?_
  refine lv_iconst (v := (1 : Int32)) hx hb dX1_knock_5 (by decide) ?_
  refine lv_iadd hx hb dX1_knock_6 ?_
  refine va_put (D := D) (ci := 3) (v := .int (xkn + (1 : Int32))) (ty := .int) (C := RX1) (T := TX1) (N := 7) hx hb hts hi_X1 tyX1 tyX1_ok nmX1 hown hK hP hD hS 0 rfl rfl 6 (by decide) hF165 (fun _ h9 => h9) rfl (by decide +kernel) rfl rfl (Nat.le_of_ble_eq_true rfl) dX1_knock_7 (fun H locs hP hD hS => ?_)
  have hP : va_P D vwCl [(h0, .inr (3, [.ref h1, .ref h3, .int xst, .int xgo, .int xdo, .int xre, .int (xkn + (1 : Int32))])), (h1, .inr (2, [.ref h2, .int mz, .int ms, .int mg, .int m0, .int m1])), (h2, .inl (cI, 12, .inl mf)), (h3, .inr (2, [.ref h4, .int tz, .int ts, .int tg, .int t0, .int t1])), (h4, .inl (cI, 12, .inl tf))] H := hP
  have hD : va_D A [(h0, .inr (3, [.ref h1, .ref h3, .int xst, .int xgo, .int xdo, .int xre, .int (xkn + (1 : Int32))])), (h1, .inr (2, [.ref h2, .int mz, .int ms, .int mg, .int m0, .int m1])), (h2, .inl (cI, 12, .inl mf)), (h3, .inr (2, [.ref h4, .int tz, .int ts, .int tg, .int t0, .int t1])), (h4, .inl (cI, 12, .inl tf))] := hD
  refine lv_aload_n hx hb dX1_knock_10 rfl (lv_at hl 0 rfl) ?_
  refine va_get (D := D) (ci := 3) (v := .int (xkn + (1 : Int32))) (C := RX1) (T := TX1) (N := 7) hx hb hts hi_X1 hown hK hP 0 rfl rfl 6 (by decide) hF165 (fun _ h9 => h9) rfl dX1_knock_11 ?_
  refine W.widen (k := 0) (n := 0) (Nat.le_of_ble_eq_true rfl) (Nat.le_of_ble_eq_true rfl) ?_
  exact W.iret (v := (xkn + (1 : Int32))) hx hb hr (kWi_ret (u := (xkn + (1 : Int32))) hv hP hD hS) hS.2.2 dX1_knock_14
set_option maxHeartbeats 4000000 in
set_option maxRecDepth 100000 in
theorem kX1_changeW (l : Launch) (D : va_G) (cI cB : ClassId) (h0 : Nat) (h1 : Nat) (h2 : Nat) (h3 : Nat) (h4 : Nat) (mf : Nat → Int32) (mz : Int32) (ms : Int32) (mg : Int32) (m0 : Int32) (m1 : Int32) (tf : Nat → Int32) (tz : Int32) (ts : Int32) (tg : Int32) (t0 : Int32) (t1 : Int32) (xst : Int32) (xgo : Int32) (xdo : Int32) (xre : Int32) (xkn : Int32)  (sz : Nat) (post : Int32 → Int32 → Int32 → Prop) (hv : qX1_changeW mz ms xdo post) : Met l yX1_change wsX1_change ({ frames := 2, cells := 0, slots := 0, locals := 41 }) (va_Pc [.ref h0] (kBW D cI cB sz [(h0, .inr (3, [.ref h1, .ref h3, .int xst, .int xgo, .int xdo, .int xre, .int xkn])), (h1, .inr (2, [.ref h2, .int mz, .int ms, .int mg, .int m0, .int m1])), (h2, .inl (cI, 12, .inl mf)), (h3, .inr (2, [.ref h4, .int tz, .int ts, .int tg, .int t0, .int t1])), (h4, .inl (cI, 12, .inl tf))])) (va_Qi (fun (r : Int32) (u : Int32 × Int32) => post r u.1 u.2) (fun (u : Int32 × Int32) (t : State) => kE D (va_A [(h0, .inr (3, [.ref h1, .ref h3, .int xst, .int xgo, .int xdo, .int xre, .int xkn])), (h1, .inr (2, [.ref h2, .int mz, .int ms, .int mg, .int m0, .int m1])), (h2, .inl (cI, 12, .inl mf)), (h3, .inr (2, [.ref h4, .int tz, .int ts, .int tg, .int t0, .int t1])), (h4, .inl (cI, 12, .inl tf))] sz) [(h0, .inr (3, [.ref h1, .ref h3, .int xst, .int xgo, .int (u.1), .int xre, .int xkn])), (h1, .inr (2, [.ref h2, .int mz, .int (u.2), .int mg, .int m0, .int m1])), (h2, .inl (cI, 12, .inl mf)), (h3, .inr (2, [.ref h4, .int tz, .int ts, .int tg, .int t0, .int t1])), (h4, .inl (cI, 12, .inl tf))] t) (va_A [(h0, .inr (3, [.ref h1, .ref h3, .int xst, .int xgo, .int xdo, .int xre, .int xkn])), (h1, .inr (2, [.ref h2, .int mz, .int ms, .int mg, .int m0, .int m1])), (h2, .inl (cI, 12, .inl mf)), (h3, .inr (2, [.ref h4, .int tz, .int ts, .int tg, .int t0, .int t1])), (h4, .inl (cI, 12, .inl tf))] sz)) 0 0 (va_A [(h0, .inr (3, [.ref h1, .ref h3, .int xst, .int xgo, .int xdo, .int xre, .int xkn])), (h1, .inr (2, [.ref h2, .int mz, .int ms, .int mg, .int m0, .int m1])), (h2, .inl (cI, 12, .inl mf)), (h3, .inr (2, [.ref h4, .int tz, .int ts, .int tg, .int t0, .int t1])), (h4, .inl (cI, 12, .inl tf))] sz) := by
  refine Met.ofW (cc := cX1_change) (maxL := 1) (ret := (some .int)) (by decide) rfl ?_
  intro p e s m args below meth c s₁ B hml hv0
  obtain ⟨rfl, hsz, ⟨hP, hK, hN⟩, hD0⟩ := hv0
  have hx := B.exec
  have hb := B.bytes
  have hr := B.returns
  have hts := atoms_spec (ws := wsX1_change) B.pre
  have hown : s.vm.findClass RX1 = some m.cls := findClass_of_methodNamed B.named
  have hlocks := B.notSynchronized
  have hi_X0 : ∀ w ∈ wsX00, w ∈ wsX1_change := by decide +kernel
  have hi_X1 : ∀ w ∈ wsX10, w ∈ wsX1_change := by decide +kernel
  have hF10 := hts (.fieldLink RX1 10 "Roadgame" "map" "LRoadgame$Chart;") (by decide +kernel)
  have hF37 := hts (.fieldLink RX1 37 "Roadgame" "done" "I") (by decide +kernel)
  subst hsz
  have hD := hD0.self (sz := s.heap.size)
  generalize hAe : va_A [(h0, .inr (3, [.ref h1, .ref h3, .int xst, .int xgo, .int xdo, .int xre, .int xkn])), (h1, .inr (2, [.ref h2, .int mz, .int ms, .int mg, .int m0, .int m1])), (h2, .inl (cI, 12, .inl mf)), (h3, .inr (2, [.ref h4, .int tz, .int ts, .int tg, .int t0, .int t1])), (h4, .inl (cI, 12, .inl tf))] s.heap.size = A at hD ⊢
  have hA : ∀ q : Nat, s.heap.size ≤ q → A q := fun q h => by rw [← hAe]; exact Or.inr h
  have hS : va_S A s.heap s.heap [] := va_S.rf
  have hl := lv_entry ([.ref h0]) (n := 1) (Nat.le_of_ble_eq_true rfl)
  rw [lg_entry_eq]
  generalize (lg_sl ([.ref h0]) ++ List.replicate (1 - (lg_sl ([.ref h0])).length) Slot.unset).toArray = ls at hl ⊢
  have hl : lv_has ls 1 [(0, .ref h0)] := hl
  refine lv_aload_n hx hb dX1_change_0 rfl (lv_at hl 0 rfl) ?_
  refine va_get (D := D) (ci := 3) (v := .ref h1) (C := RX1) (T := TX1) (N := 7) hx hb hts hi_X1 hown hK hP 0 rfl rfl 0 (by decide) hF10 (fun _ h9 => h9) rfl dX1_change_1 ?_
  refine lv_aload_n hx hb dX1_change_4 rfl (lv_at hl 0 rfl) ?_
  refine va_get (D := D) (ci := 3) (v := .ref h1) (C := RX1) (T := TX1) (N := 7) hx hb hts hi_X1 hown hK hP 0 rfl rfl 0 (by decide) hF10 (fun _ h9 => h9) rfl dX1_change_5 ?_
  refine kc_V (As := []) (rest := [.ref h1]) ⟨hx, hb, hml, hown, hts⟩ (kX0_all l D cI cB h1 h2 mf mz ms mg m0 m1 _ hv) (cwV 0 hts gX1_change_X0_all rfl rfl rfl (by decide +kernel) ⟨Nat.le_of_ble_eq_true rfl, Nat.le_of_ble_eq_true rfl⟩) (hP.sub (ws' := [(h1, .inr (2, [.ref h2, .int mz, .int ms, .int mg, .int m0, .int m1])), (h2, .inl (cI, 12, .inl mf))]) [1, 2] rfl) hK hN 2 rfl rfl rfl rfl hl.1 rfl (Nat.le_of_ble_eq_true rfl) dX1_change_8 ⟨Nat.le_of_ble_eq_true rfl, Nat.le_of_ble_eq_true rfl⟩ (fun r8 hv => ?_)
  refine lv_aload_n hx hb dX1_change_11 rfl (lv_at hl 0 rfl) ?_
  refine va_get (D := D) (ci := 3) (v := .ref h1) (C := RX1) (T := TX1) (N := 7) hx hb hts hi_X1 hown hK hP 0 rfl rfl 0 (by decide) hF10 (fun _ h9 => h9) rfl dX1_change_12 ?_
  refine va_getN (D := D) (ci := 2) (v := .int ms) (C := RX0) (T := TX0) (N := 6) (host := "Roadgame") hx hb hts hi_X0 hown hK hP 1 rfl rfl 2 (by decide) (va_Nw.use rfl hN.2.1) (fun _ h9 => h9) rfl dX1_change_15 ?_
  refine lv_iconst (v := (-1 : Int32)) hx hb dX1_change_18 (by decide) ?_
  refine lv_ixor hx hb dX1_change_19 ?_
  refine lv_iand hx hb dX1_change_20 ?_
  refine va_putN (D := D) (ci := 2) (v := .int (r8 &&& (ms ^^^ (-1 : Int32)))) (ty := .int) (C := RX0) (T := TX0) (N := 6) (host := "Roadgame") hx hb hts hi_X0 tyX0 tyX0_ok nmX0 hown hK hP hD hS 1 rfl rfl 2 (by decide) (va_Nw.use rfl hN.2.1) (fun _ h9 => h9) rfl (by decide +kernel) rfl rfl (Nat.le_of_ble_eq_true rfl) dX1_change_21 (fun H locs hP hD hS => ?_)
  have hP : va_P D vwCl [(h0, .inr (3, [.ref h1, .ref h3, .int xst, .int xgo, .int xdo, .int xre, .int xkn])), (h1, .inr (2, [.ref h2, .int mz, .int (r8 &&& (ms ^^^ (-1 : Int32))), .int mg, .int m0, .int m1])), (h2, .inl (cI, 12, .inl mf)), (h3, .inr (2, [.ref h4, .int tz, .int ts, .int tg, .int t0, .int t1])), (h4, .inl (cI, 12, .inl tf))] H := hP
  have hD : va_D A [(h0, .inr (3, [.ref h1, .ref h3, .int xst, .int xgo, .int xdo, .int xre, .int xkn])), (h1, .inr (2, [.ref h2, .int mz, .int (r8 &&& (ms ^^^ (-1 : Int32))), .int mg, .int m0, .int m1])), (h2, .inl (cI, 12, .inl mf)), (h3, .inr (2, [.ref h4, .int tz, .int ts, .int tg, .int t0, .int t1])), (h4, .inl (cI, 12, .inl tf))] := hD
  refine lv_aload_n hx hb dX1_change_24 rfl (lv_at hl 0 rfl) ?_
  refine lv_dup hx hb dX1_change_25 rfl ?_
  refine va_get (D := D) (ci := 3) (v := .int xdo) (C := RX1) (T := TX1) (N := 7) hx hb hts hi_X1 hown hK hP 0 rfl rfl 4 (by decide) hF37 (fun _ h9 => h9) rfl dX1_change_26 ?_
  refine lv_iconst (v := (1 : Int32)) hx hb dX1_change_29 (by decide) ?_
  refine lv_iadd hx hb dX1_change_30 ?_
  refine va_put (D := D) (ci := 3) (v := .int (xdo + (1 : Int32))) (ty := .int) (C := RX1) (T := TX1) (N := 7) hx hb hts hi_X1 tyX1 tyX1_ok nmX1 hown hK hP hD hS 0 rfl rfl 4 (by decide) hF37 (fun _ h9 => h9) rfl (by decide +kernel) rfl rfl (Nat.le_of_ble_eq_true rfl) dX1_change_31 (fun H locs hP hD hS => ?_)
  have hP : va_P D vwCl [(h0, .inr (3, [.ref h1, .ref h3, .int xst, .int xgo, .int (xdo + (1 : Int32)), .int xre, .int xkn])), (h1, .inr (2, [.ref h2, .int mz, .int (r8 &&& (ms ^^^ (-1 : Int32))), .int mg, .int m0, .int m1])), (h2, .inl (cI, 12, .inl mf)), (h3, .inr (2, [.ref h4, .int tz, .int ts, .int tg, .int t0, .int t1])), (h4, .inl (cI, 12, .inl tf))] H := hP
  have hD : va_D A [(h0, .inr (3, [.ref h1, .ref h3, .int xst, .int xgo, .int (xdo + (1 : Int32)), .int xre, .int xkn])), (h1, .inr (2, [.ref h2, .int mz, .int (r8 &&& (ms ^^^ (-1 : Int32))), .int mg, .int m0, .int m1])), (h2, .inl (cI, 12, .inl mf)), (h3, .inr (2, [.ref h4, .int tz, .int ts, .int tg, .int t0, .int t1])), (h4, .inl (cI, 12, .inl tf))] := hD
  refine lv_aload_n hx hb dX1_change_34 rfl (lv_at hl 0 rfl) ?_
  refine va_get (D := D) (ci := 3) (v := .ref h1) (C := RX1) (T := TX1) (N := 7) hx hb hts hi_X1 hown hK hP 0 rfl rfl 0 (by decide) hF10 (fun _ h9 => h9) rfl dX1_change_35 ?_
  refine lv_iconst (v := (0 : Int32)) hx hb dX1_change_38 (by decide) ?_
  refine kc_V (As := [.int (0 : Int32)]) (rest := []) ⟨hx, hb, hml, hown, hts⟩ (kX0_placesOf l D cI cB h1 h2 mf mz (r8 &&& (ms ^^^ (-1 : Int32))) mg m0 m1 (0 : Int32) _ hv) (cwV 1 hts gX1_change_X0_placesOf rfl rfl rfl (by decide +kernel) ⟨Nat.le_of_ble_eq_true rfl, Nat.le_of_ble_eq_true rfl⟩) (hP.sub (ws' := [(h1, .inr (2, [.ref h2, .int mz, .int (r8 &&& (ms ^^^ (-1 : Int32))), .int mg, .int m0, .int m1])), (h2, .inl (cI, 12, .inl mf))]) [1, 2] rfl) hK hN 2 rfl rfl rfl rfl hl.1 rfl (Nat.le_of_ble_eq_true rfl) dX1_change_39 ⟨Nat.le_of_ble_eq_true rfl, Nat.le_of_ble_eq_true rfl⟩ (fun r39 hv => ?_)
  refine kc_S (As := [.int r39]) (rest := []) ⟨hx, hb, hml, hown, hts⟩ (kJ6_bitCount_0f7a4 l D cI cB r39 _ hv) (va_cwS 1 hts gX1_change_J6_bitCount_0f7a4 rfl rfl rfl (by decide +kernel) ⟨Nat.le_of_ble_eq_true rfl, Nat.le_of_ble_eq_true rfl⟩) (hP.sub (ws' := []) [] rfl) hK hN rfl hl.1 rfl (Nat.le_of_ble_eq_true rfl) dX1_change_42 ⟨Nat.le_of_ble_eq_true rfl, Nat.le_of_ble_eq_true rfl⟩ (fun r42 hv => ?_)
  refine W.widen (k := 0) (n := 0) (Nat.le_of_ble_eq_true rfl) (Nat.le_of_ble_eq_true rfl) ?_
  exact W.iret (v := r42) hx hb hr (kWi_ret (u := ((xdo + (1 : Int32)), (r8 &&& (ms ^^^ (-1 : Int32))))) hv hP hD hS) hS.2.2 dX1_change_45
set_option maxHeartbeats 4000000 in
set_option maxRecDepth 100000 in
theorem kX1_layChoicesW (l : Launch) (D : va_G) (cI cB : ClassId) (h0 : Nat) (h1 : Nat) (h2 : Nat) (h3 : Nat) (h4 : Nat) (mf : Nat → Int32) (mz : Int32) (ms : Int32) (mg : Int32) (m0 : Int32) (m1 : Int32) (tf : Nat → Int32) (tz : Int32) (ts : Int32) (tg : Int32) (t0 : Int32) (t1 : Int32) (xst : Int32) (xgo : Int32) (xdo : Int32) (xre : Int32) (xkn : Int32) (a1 : Int32) (a2 : Int32) (sz : Nat) (post : Int32 → Int32 → Int32 → Int32 → Int32 → (Nat → Int32) → Prop) (hv : qX1_layChoicesW mf mz ms mg m0 m1 tf a1 a2 post) : Met l yX1_layChoices wsX1_layChoices ({ frames := 2, cells := 0, slots := 0, locals := 44 }) (va_Pc [.ref h0, .int a1, .int a2] (kBW D cI cB sz [(h0, .inr (3, [.ref h1, .ref h3, .int xst, .int xgo, .int xdo, .int xre, .int xkn])), (h1, .inr (2, [.ref h2, .int mz, .int ms, .int mg, .int m0, .int m1])), (h2, .inl (cI, 12, .inl mf)), (h3, .inr (2, [.ref h4, .int tz, .int ts, .int tg, .int t0, .int t1])), (h4, .inl (cI, 12, .inl tf))])) (va_Qv (fun (u : Int32 × Int32 × Int32 × Int32 × Int32 × (Nat → Int32)) => post u.1 u.2.1 u.2.2.1 u.2.2.2.1 u.2.2.2.2.1 u.2.2.2.2.2) (fun (u : Int32 × Int32 × Int32 × Int32 × Int32 × (Nat → Int32)) (t : State) => kE D (va_A [(h0, .inr (3, [.ref h1, .ref h3, .int xst, .int xgo, .int xdo, .int xre, .int xkn])), (h1, .inr (2, [.ref h2, .int mz, .int ms, .int mg, .int m0, .int m1])), (h2, .inl (cI, 12, .inl mf)), (h3, .inr (2, [.ref h4, .int tz, .int ts, .int tg, .int t0, .int t1])), (h4, .inl (cI, 12, .inl tf))] sz) [(h0, .inr (3, [.ref h1, .ref h3, .int xst, .int xgo, .int xdo, .int xre, .int xkn])), (h1, .inr (2, [.ref h2, .int mz, .int ms, .int mg, .int m0, .int m1])), (h2, .inl (cI, 12, .inl mf)), (h3, .inr (2, [.ref h4, .int (u.1), .int (u.2.1), .int (u.2.2.1), .int (u.2.2.2.1), .int (u.2.2.2.2.1)])), (h4, .inl (cI, 12, .inl (u.2.2.2.2.2)))] t) (va_A [(h0, .inr (3, [.ref h1, .ref h3, .int xst, .int xgo, .int xdo, .int xre, .int xkn])), (h1, .inr (2, [.ref h2, .int mz, .int ms, .int mg, .int m0, .int m1])), (h2, .inl (cI, 12, .inl mf)), (h3, .inr (2, [.ref h4, .int tz, .int ts, .int tg, .int t0, .int t1])), (h4, .inl (cI, 12, .inl tf))] sz)) 0 0 (va_A [(h0, .inr (3, [.ref h1, .ref h3, .int xst, .int xgo, .int xdo, .int xre, .int xkn])), (h1, .inr (2, [.ref h2, .int mz, .int ms, .int mg, .int m0, .int m1])), (h2, .inl (cI, 12, .inl mf)), (h3, .inr (2, [.ref h4, .int tz, .int ts, .int tg, .int t0, .int t1])), (h4, .inl (cI, 12, .inl tf))] sz) := by
  refine Met.ofW (cc := cX1_layChoices) (maxL := 7) (ret := none) (by decide) rfl ?_
  intro p e s m args below meth c s₁ B hml hv0
  obtain ⟨rfl, hsz, ⟨hP, hK, hN⟩, hD0⟩ := hv0
  have hx := B.exec
  have hb := B.bytes
  have hr := B.returns
  have hts := atoms_spec (ws := wsX1_layChoices) B.pre
  have hown : s.vm.findClass RX1 = some m.cls := findClass_of_methodNamed B.named
  have hlocks := B.notSynchronized
  have hi_X0 : ∀ w ∈ wsX00, w ∈ wsX1_layChoices := by decide +kernel
  have hi_X1 : ∀ w ∈ wsX10, w ∈ wsX1_layChoices := by decide +kernel
  have hF10 := hts (.fieldLink RX1 10 "Roadgame" "map" "LRoadgame$Chart;") (by decide +kernel)
  have hF16 := hts (.fieldLink RX1 16 "Roadgame" "trial" "LRoadgame$Chart;") (by decide +kernel)
  subst hsz
  have hD := hD0.self (sz := s.heap.size)
  generalize hAe : va_A [(h0, .inr (3, [.ref h1, .ref h3, .int xst, .int xgo, .int xdo, .int xre, .int xkn])), (h1, .inr (2, [.ref h2, .int mz, .int ms, .int mg, .int m0, .int m1])), (h2, .inl (cI, 12, .inl mf)), (h3, .inr (2, [.ref h4, .int tz, .int ts, .int tg, .int t0, .int t1])), (h4, .inl (cI, 12, .inl tf))] s.heap.size = A at hD ⊢
  have hA : ∀ q : Nat, s.heap.size ≤ q → A q := fun q h => by rw [← hAe]; exact Or.inr h
  have hS : va_S A s.heap s.heap [] := va_S.rf
  have hl := lv_entry ([.ref h0, .int a1, .int a2]) (n := 7) (Nat.le_of_ble_eq_true rfl)
  rw [lg_entry_eq]
  generalize (lg_sl ([.ref h0, .int a1, .int a2]) ++ List.replicate (7 - (lg_sl ([.ref h0, .int a1, .int a2])).length) Slot.unset).toArray = ls at hl ⊢
  have hl : lv_has ls 7 [(0, .ref h0), (1, .int a1), (2, .int a2)] := hl
  refine lv_aload_n hx hb dX1_layChoices_0 rfl (lv_at hl 0 rfl) ?_
  refine va_get (D := D) (ci := 3) (v := .ref h3) (C := RX1) (T := TX1) (N := 7) hx hb hts hi_X1 hown hK hP 0 rfl rfl 1 (by decide) hF16 (fun _ h9 => h9) rfl dX1_layChoices_1 ?_
  refine lv_aload_n hx hb dX1_layChoices_4 rfl (lv_at hl 0 rfl) ?_
  refine va_get (D := D) (ci := 3) (v := .ref h1) (C := RX1) (T := TX1) (N := 7) hx hb hts hi_X1 hown hK hP 0 rfl rfl 0 (by decide) hF10 (fun _ h9 => h9) rfl dX1_layChoices_5 ?_
  refine kw_v (wr := [(h0, .inr (3, [.ref h1, .ref h3, .int xst, .int xgo, .int xdo, .int xre, .int xkn]))]) (va_runV (As := [.ref h1]) (rest := []) ⟨hx, hb, hml, hown, hts⟩ (kX0_copyFromW l D cI cB h3 h4 h1 h2 tf tz ts tg t0 t1 mf mz ms mg m0 m1 _ _ hv) (cwV 1 hts gX1_layChoices_X0_copyFrom rfl rfl rfl (by decide +kernel) ⟨Nat.le_of_ble_eq_true rfl, Nat.le_of_ble_eq_true rfl⟩) ⟨(kPreW (As := [.ref h3, .ref h1]) (hP.sub (ws' := [(h3, .inr (2, [.ref h4, .int tz, .int ts, .int tg, .int t0, .int t1])), (h4, .inl (cI, 12, .inl tf)), (h1, .inr (2, [.ref h2, .int mz, .int ms, .int mg, .int m0, .int m1])), (h2, .inl (cI, 12, .inl mf))]) [3, 4, 1, 2] rfl) (hD.sub (ws' := [(h3, .inr (2, [.ref h4, .int tz, .int ts, .int tg, .int t0, .int t1])), (h4, .inl (cI, 12, .inl tf)), (h1, .inr (2, [.ref h2, .int mz, .int ms, .int mg, .int m0, .int m1])), (h2, .inl (cI, 12, .inl mf))]) [3, 4, 1, 2] (by decide) rfl) hK hN).1, kRecv (hP.sub (ws' := [(h3, .inr (2, [.ref h4, .int tz, .int ts, .int tg, .int t0, .int t1])), (h4, .inl (cI, 12, .inl tf)), (h1, .inr (2, [.ref h2, .int mz, .int ms, .int mg, .int m0, .int m1])), (h2, .inl (cI, 12, .inl mf))]) [3, 4, 1, 2] rfl) hK 2 rfl rfl rfl, (kPreW (As := [.ref h3, .ref h1]) (hP.sub (ws' := [(h3, .inr (2, [.ref h4, .int tz, .int ts, .int tg, .int t0, .int t1])), (h4, .inl (cI, 12, .inl tf)), (h1, .inr (2, [.ref h2, .int mz, .int ms, .int mg, .int m0, .int m1])), (h2, .inl (cI, 12, .inl mf))]) [3, 4, 1, 2] rfl) (hD.sub (ws' := [(h3, .inr (2, [.ref h4, .int tz, .int ts, .int tg, .int t0, .int t1])), (h4, .inl (cI, 12, .inl tf)), (h1, .inr (2, [.ref h2, .int mz, .int ms, .int mg, .int m0, .int m1])), (h2, .inl (cI, 12, .inl mf))]) [3, 4, 1, 2] (by decide) rfl) hK hN).2⟩ rfl rfl hl.1 rfl (lv_room (Nat.le_of_ble_eq_true rfl)) dX1_layChoices_8 ⟨Nat.le_of_ble_eq_true rfl, Nat.le_of_ble_eq_true rfl⟩) hP hD hS hA [3, 4, 1, 2] [0] rfl rfl (by decide) (by decide) (fun u H locs hv hP hD hS => ?_)
  obtain ⟨x8_0, x8_1, x8_2, x8_3, x8_4, x8_5⟩ := u
  have hP : va_P D vwCl [(h0, .inr (3, [.ref h1, .ref h3, .int xst, .int xgo, .int xdo, .int xre, .int xkn])), (h1, .inr (2, [.ref h2, .int mz, .int ms, .int mg, .int m0, .int m1])), (h2, .inl (cI, 12, .inl mf)), (h3, .inr (2, [.ref h4, .int x8_0, .int x8_1, .int x8_2, .int x8_3, .int x8_4])), (h4, .inl (cI, 12, .inl x8_5))] H := hP.sub [0, 3, 4, 1, 2] rfl
  have hD : va_D A [(h0, .inr (3, [.ref h1, .ref h3, .int xst, .int xgo, .int xdo, .int xre, .int xkn])), (h1, .inr (2, [.ref h2, .int mz, .int ms, .int mg, .int m0, .int m1])), (h2, .inl (cI, 12, .inl mf)), (h3, .inr (2, [.ref h4, .int x8_0, .int x8_1, .int x8_2, .int x8_3, .int x8_4])), (h4, .inl (cI, 12, .inl x8_5))] := hD.sub [0, 3, 4, 1, 2] (by decide) rfl
  refine lv_iload_n hx hb dX1_layChoices_11 rfl (lv_at hl 2 rfl) ?_
  refine lv_istore_n (lv' := [(3, .int a2), (0, .ref h0), (1, .int a1), (2, .int a2)]) hx hb dX1_layChoices_12 rfl hl (by decide) rfl (fun ls hl => ?_)
  refine lv_iconst (v := (0 : Int32)) hx hb dX1_layChoices_13 (by decide) ?_
  refine lv_istore (lv' := [(4, .int (0 : Int32)), (3, .int a2), (0, .ref h0), (1, .int a1), (2, .int a2)]) hx hb dX1_layChoices_14 hl (by decide) rfl (fun ls hl => ?_)
  have L16 : ∀ (K16_95 : Int32 → Int32 → (Nat → Int32) → Prop), (∀ (v3_16 : Int32) (v4_16 : Int32) (z4_0_16 : Nat → Int32) (H : Heap) (locs : List Loc) (ls : Array Slot), va_P D vwCl [(h0, .inr (3, [.ref h1, .ref h3, .int xst, .int xgo, .int xdo, .int xre, .int xkn])), (h1, .inr (2, [.ref h2, .int mz, .int ms, .int mg, .int m0, .int m1])), (h2, .inl (cI, 12, .inl mf)), (h3, .inr (2, [.ref h4, .int x8_0, .int x8_1, .int x8_2, .int x8_3, .int x8_4])), (h4, .inl (cI, 12, .inl z4_0_16))] H → va_D A [(h0, .inr (3, [.ref h1, .ref h3, .int xst, .int xgo, .int xdo, .int xre, .int xkn])), (h1, .inr (2, [.ref h2, .int mz, .int ms, .int mg, .int m0, .int m1])), (h2, .inl (cI, 12, .inl mf)), (h3, .inr (2, [.ref h4, .int x8_0, .int x8_1, .int x8_2, .int x8_3, .int x8_4])), (h4, .inl (cI, 12, .inl z4_0_16))] → va_S A s.heap H locs → K16_95 v3_16 v4_16 z4_0_16 → lv_has ls 7 [(0, .ref h0), (1, .int a1), (2, .int a2), (3, .int v3_16), (4, .int v4_16)] → W p l e (headSpec wsX1_layChoices ({ frames := 2, cells := 0, slots := 0, locals := 44 })).room s m ([.ref h0, .int a1, .int a2] : List Value).toArray below meth c H locs 0 0 (MQ below (va_Qv (fun (u : Int32 × Int32 × Int32 × Int32 × Int32 × (Nat → Int32)) => post u.1 u.2.1 u.2.2.1 u.2.2.2.1 u.2.2.2.2.1 u.2.2.2.2.2) (fun (u : Int32 × Int32 × Int32 × Int32 × Int32 × (Nat → Int32)) (t : State) => kE D A [(h0, .inr (3, [.ref h1, .ref h3, .int xst, .int xgo, .int xdo, .int xre, .int xkn])), (h1, .inr (2, [.ref h2, .int mz, .int ms, .int mg, .int m0, .int m1])), (h2, .inl (cI, 12, .inl mf)), (h3, .inr (2, [.ref h4, .int (u.1), .int (u.2.1), .int (u.2.2.1), .int (u.2.2.2.1), .int (u.2.2.2.2.1)])), (h4, .inl (cI, 12, .inl (u.2.2.2.2.2)))] t) A) ([.ref h0, .int a1, .int a2] : List Value).toArray s 0 0 A) (F0 m 95 ls [])) → ∀ (n16 : Nat) (v3_16 : Int32) (v4_16 : Int32) (z4_0_16 : Nat → Int32) (H : Heap) (locs : List Loc) (ls : Array Slot), va_P D vwCl [(h0, .inr (3, [.ref h1, .ref h3, .int xst, .int xgo, .int xdo, .int xre, .int xkn])), (h1, .inr (2, [.ref h2, .int mz, .int ms, .int mg, .int m0, .int m1])), (h2, .inl (cI, 12, .inl mf)), (h3, .inr (2, [.ref h4, .int x8_0, .int x8_1, .int x8_2, .int x8_3, .int x8_4])), (h4, .inl (cI, 12, .inl z4_0_16))] H → va_D A [(h0, .inr (3, [.ref h1, .ref h3, .int xst, .int xgo, .int xdo, .int xre, .int xkn])), (h1, .inr (2, [.ref h2, .int mz, .int ms, .int mg, .int m0, .int m1])), (h2, .inl (cI, 12, .inl mf)), (h3, .inr (2, [.ref h4, .int x8_0, .int x8_1, .int x8_2, .int x8_3, .int x8_4])), (h4, .inl (cI, 12, .inl z4_0_16))] → va_S A s.heap H locs → qX1_layChoices_W16 mf mz ms a1 K16_95 n16 v3_16 v4_16 z4_0_16 → lv_has ls 7 [(0, .ref h0), (1, .int a1), (2, .int a2), (3, .int v3_16), (4, .int v4_16)] → W p l e (headSpec wsX1_layChoices ({ frames := 2, cells := 0, slots := 0, locals := 44 })).room s m ([.ref h0, .int a1, .int a2] : List Value).toArray below meth c H locs 0 0 (MQ below (va_Qv (fun (u : Int32 × Int32 × Int32 × Int32 × Int32 × (Nat → Int32)) => post u.1 u.2.1 u.2.2.1 u.2.2.2.1 u.2.2.2.2.1 u.2.2.2.2.2) (fun (u : Int32 × Int32 × Int32 × Int32 × Int32 × (Nat → Int32)) (t : State) => kE D A [(h0, .inr (3, [.ref h1, .ref h3, .int xst, .int xgo, .int xdo, .int xre, .int xkn])), (h1, .inr (2, [.ref h2, .int mz, .int ms, .int mg, .int m0, .int m1])), (h2, .inl (cI, 12, .inl mf)), (h3, .inr (2, [.ref h4, .int (u.1), .int (u.2.1), .int (u.2.2.1), .int (u.2.2.2.1), .int (u.2.2.2.2.1)])), (h4, .inl (cI, 12, .inl (u.2.2.2.2.2)))] t) A) ([.ref h0, .int a1, .int a2] : List Value).toArray s 0 0 A) (F0 m 16 ls []) := by
    intro K16_95 hk16_95
    intro n16
    induction n16 with
    | zero => intro v3_16 v4_16 z4_0_16 H locs ls hP hD hS hv hl; exact hv.elim
    | succ n16 ih16 =>
      intro v3_16 v4_16 z4_0_16 H locs ls hP hD hS hv hl
      refine lv_iload hx hb dX1_layChoices_16 (lv_at hl 4 rfl) ?_
      refine lv_aload_n hx hb dX1_layChoices_18 rfl (lv_at hl 0 rfl) ?_
      refine va_get (D := D) (ci := 3) (v := .ref h1) (C := RX1) (T := TX1) (N := 7) hx hb hts hi_X1 hown hK hP 0 rfl rfl 0 (by decide) hF10 (fun _ h9 => h9) rfl dX1_layChoices_19 ?_
      refine va_getN (D := D) (ci := 2) (v := .int mz) (C := RX0) (T := TX0) (N := 6) (host := "Roadgame") hx hb hts hi_X0 hown hK hP 1 rfl rfl 1 (by decide) (va_Nw.use rfl hN.1) (fun _ h9 => h9) rfl dX1_layChoices_22 ?_
      refine lv_icmp_ge (tgt := 95) hx hb dX1_layChoices_25 (by decide) (fun hc => ?_) (fun hc => ?_)
      · have hv := hv.1 hc
        exact hk16_95 _ _ _ _ _ _ hP hD hS hv (lv_sub hl [0, 1, 2, 3, 4] rfl)
      · have hv := hv.2 hc
        refine lv_aload_n hx hb dX1_layChoices_28 rfl (lv_at hl 0 rfl) ?_
        refine va_get (D := D) (ci := 3) (v := .ref h1) (C := RX1) (T := TX1) (N := 7) hx hb hts hi_X1 hown hK hP 0 rfl rfl 0 (by decide) hF10 (fun _ h9 => h9) rfl dX1_layChoices_29 ?_
        refine lv_iload hx hb dX1_layChoices_32 (lv_at hl 4 rfl) ?_
        refine kc_V (As := [.int v4_16]) (rest := []) ⟨hx, hb, hml, hown, hts⟩ (kX0_waysFrom l D cI cB h1 h2 mf mz ms mg m0 m1 v4_16 _ hv) (cwV 1 hts gX1_layChoices_X0_waysFrom rfl rfl rfl (by decide +kernel) ⟨Nat.le_of_ble_eq_true rfl, Nat.le_of_ble_eq_true rfl⟩) (hP.sub (ws' := [(h1, .inr (2, [.ref h2, .int mz, .int ms, .int mg, .int m0, .int m1])), (h2, .inl (cI, 12, .inl mf))]) [1, 2] rfl) hK hN 2 rfl rfl rfl rfl hl.1 rfl (Nat.le_of_ble_eq_true rfl) dX1_layChoices_34 ⟨Nat.le_of_ble_eq_true rfl, Nat.le_of_ble_eq_true rfl⟩ (fun r34 hv => ?_)
        refine lv_istore (lv' := [(5, .int r34), (0, .ref h0), (1, .int a1), (2, .int a2), (3, .int v3_16), (4, .int v4_16)]) hx hb dX1_layChoices_37 hl (by decide) rfl (fun ls hl => ?_)
        refine lv_iload hx hb dX1_layChoices_39 (lv_at hl 0 rfl) ?_
        refine kc_S (As := [.int r34]) (rest := []) ⟨hx, hb, hml, hown, hts⟩ (kJ6_bitCount_0f7a4 l D cI cB r34 _ hv) (va_cwS 1 hts gX1_layChoices_J6_bitCount_0f7a4 rfl rfl rfl (by decide +kernel) ⟨Nat.le_of_ble_eq_true rfl, Nat.le_of_ble_eq_true rfl⟩) (hP.sub (ws' := []) [] rfl) hK hN rfl hl.1 rfl (Nat.le_of_ble_eq_true rfl) dX1_layChoices_41 ⟨Nat.le_of_ble_eq_true rfl, Nat.le_of_ble_eq_true rfl⟩ (fun r41 hv => ?_)
        refine lv_istore (lv' := [(6, .int r41), (5, .int r34), (0, .ref h0), (1, .int a1), (2, .int a2), (3, .int v3_16), (4, .int v4_16)]) hx hb dX1_layChoices_44 hl (by decide) rfl (fun ls hl => ?_)
        refine lv_iload hx hb dX1_layChoices_46 (lv_at hl 0 rfl) ?_
        refine lv_if_le (tgt := 89) hx hb dX1_layChoices_48 (by decide) (fun hc => ?_) (fun hc => ?_)
        · have hv := hv.1 hc
          refine lv_iinc (v := (v4_16 + (1 : Int32))) (lv' := [(4, .int (v4_16 + (1 : Int32))), (6, .int r41), (5, .int r34), (0, .ref h0), (1, .int a1), (2, .int a2), (3, .int v3_16)]) hx hb dX1_layChoices_89 hl (k := 6) rfl rfl (by decide) rfl (fun ls hl => ?_)
          refine lv_goto (tgt := 16) hx hb dX1_layChoices_92 (by decide) ?_
          exact ih16 _ _ _ _ _ _ hP hD hS hv (lv_sub hl [3, 4, 5, 6, 0] rfl)
        · have hv := hv.2 hc
          refine lv_aload_n hx hb dX1_layChoices_51 rfl (lv_at hl 2 rfl) ?_
          refine va_get (D := D) (ci := 3) (v := .ref h1) (C := RX1) (T := TX1) (N := 7) hx hb hts hi_X1 hown hK hP 0 rfl rfl 0 (by decide) hF10 (fun _ h9 => h9) rfl dX1_layChoices_52 ?_
          refine lv_iload hx hb dX1_layChoices_55 (lv_at hl 6 rfl) ?_
          refine kc_V (As := [.int v4_16]) (rest := []) ⟨hx, hb, hml, hown, hts⟩ (kX0_sideOf l D cI cB h1 h2 mf mz ms mg m0 m1 v4_16 _ hv) (cwV 1 hts gX1_layChoices_X0_sideOf rfl rfl rfl (by decide +kernel) ⟨Nat.le_of_ble_eq_true rfl, Nat.le_of_ble_eq_true rfl⟩) (hP.sub (ws' := [(h1, .inr (2, [.ref h2, .int mz, .int ms, .int mg, .int m0, .int m1])), (h2, .inl (cI, 12, .inl mf))]) [1, 2] rfl) hK hN 2 rfl rfl rfl rfl hl.1 rfl (Nat.le_of_ble_eq_true rfl) dX1_layChoices_57 ⟨Nat.le_of_ble_eq_true rfl, Nat.le_of_ble_eq_true rfl⟩ (fun r57 hv => ?_)
          refine lv_iload_n hx hb dX1_layChoices_60 rfl (lv_at hl 3 rfl) ?_
          refine lv_icmp_ne (tgt := 89) hx hb dX1_layChoices_61 (by decide) (fun hc => ?_) (fun hc => ?_)
          · have hv := hv.1 hc
            refine lv_iinc (v := (v4_16 + (1 : Int32))) (lv' := [(4, .int (v4_16 + (1 : Int32))), (6, .int r41), (5, .int r34), (0, .ref h0), (1, .int a1), (2, .int a2), (3, .int v3_16)]) hx hb dX1_layChoices_89 hl (k := 6) rfl rfl (by decide) rfl (fun ls hl => ?_)
            refine lv_goto (tgt := 16) hx hb dX1_layChoices_92 (by decide) ?_
            exact ih16 _ _ _ _ _ _ hP hD hS hv (lv_sub hl [3, 4, 5, 6, 0] rfl)
          · have hv := hv.2 hc
            refine lv_aload_n hx hb dX1_layChoices_64 rfl (lv_at hl 2 rfl) ?_
            refine va_get (D := D) (ci := 3) (v := .ref h3) (C := RX1) (T := TX1) (N := 7) hx hb hts hi_X1 hown hK hP 0 rfl rfl 1 (by decide) hF16 (fun _ h9 => h9) rfl dX1_layChoices_65 ?_
            refine lv_iload hx hb dX1_layChoices_68 (lv_at hl 6 rfl) ?_
            refine lv_iconst (v := (1 : Int32)) hx hb dX1_layChoices_70 (by decide) ?_
            refine lv_iload hx hb dX1_layChoices_71 (lv_at hl 1 rfl) ?_
            refine lv_iload_n hx hb dX1_layChoices_73 rfl (lv_at hl 5 rfl) ?_
            refine lv_iload hx hb dX1_layChoices_74 (lv_at hl 0 rfl) ?_
            obtain ⟨hq, hv⟩ := hv
            refine lv_irem hx hb dX1_layChoices_76 hq ?_
            refine kc_S (As := [.int r34, .int (v3_16 - v3_16 / r41 * r41)]) (rest := [.int (1 : Int32), .int v4_16, .ref h3]) ⟨hx, hb, hml, hown, hts⟩ (kX1_member l D cI cB r34 (v3_16 - v3_16 / r41 * r41) _ hv) (va_cwS 2 hts gX1_layChoices_X1_member rfl rfl rfl (by decide +kernel) ⟨Nat.le_of_ble_eq_true rfl, Nat.le_of_ble_eq_true rfl⟩) (hP.sub (ws' := []) [] rfl) hK hN rfl hl.1 rfl (Nat.le_of_ble_eq_true rfl) dX1_layChoices_77 ⟨Nat.le_of_ble_eq_true rfl, Nat.le_of_ble_eq_true rfl⟩ (fun r77 hv => ?_)
            refine lv_ishl hx hb dX1_layChoices_80 ?_
            refine kw_v (wr := [(h0, .inr (3, [.ref h1, .ref h3, .int xst, .int xgo, .int xdo, .int xre, .int xkn])), (h1, .inr (2, [.ref h2, .int mz, .int ms, .int mg, .int m0, .int m1])), (h2, .inl (cI, 12, .inl mf))]) (va_runV (As := [.int v4_16, .int ((1 : Int32) <<< (r77 &&& (31 : Int32)))]) (rest := []) ⟨hx, hb, hml, hown, hts⟩ (kX0_setWaysW l D cI cB h3 h4 z4_0_16 x8_0 x8_1 x8_2 x8_3 x8_4 v4_16 ((1 : Int32) <<< (r77 &&& (31 : Int32))) _ _ hv) (cwV 2 hts gX1_layChoices_X0_setWays rfl rfl rfl (by decide +kernel) ⟨Nat.le_of_ble_eq_true rfl, Nat.le_of_ble_eq_true rfl⟩) ⟨(kPreW (As := [.ref h3, .int v4_16, .int ((1 : Int32) <<< (r77 &&& (31 : Int32)))]) (hP.sub (ws' := [(h3, .inr (2, [.ref h4, .int x8_0, .int x8_1, .int x8_2, .int x8_3, .int x8_4])), (h4, .inl (cI, 12, .inl z4_0_16))]) [3, 4] rfl) (hD.sub (ws' := [(h3, .inr (2, [.ref h4, .int x8_0, .int x8_1, .int x8_2, .int x8_3, .int x8_4])), (h4, .inl (cI, 12, .inl z4_0_16))]) [3, 4] (by decide) rfl) hK hN).1, kRecv (hP.sub (ws' := [(h3, .inr (2, [.ref h4, .int x8_0, .int x8_1, .int x8_2, .int x8_3, .int x8_4])), (h4, .inl (cI, 12, .inl z4_0_16))]) [3, 4] rfl) hK 2 rfl rfl rfl, (kPreW (As := [.ref h3, .int v4_16, .int ((1 : Int32) <<< (r77 &&& (31 : Int32)))]) (hP.sub (ws' := [(h3, .inr (2, [.ref h4, .int x8_0, .int x8_1, .int x8_2, .int x8_3, .int x8_4])), (h4, .inl (cI, 12, .inl z4_0_16))]) [3, 4] rfl) (hD.sub (ws' := [(h3, .inr (2, [.ref h4, .int x8_0, .int x8_1, .int x8_2, .int x8_3, .int x8_4])), (h4, .inl (cI, 12, .inl z4_0_16))]) [3, 4] (by decide) rfl) hK hN).2⟩ rfl rfl hl.1 rfl (lv_room (Nat.le_of_ble_eq_true rfl)) dX1_layChoices_81 ⟨Nat.le_of_ble_eq_true rfl, Nat.le_of_ble_eq_true rfl⟩) hP hD hS hA [3, 4] [0, 1, 2] rfl rfl (by decide) (by decide) (fun u H locs hv hP hD hS => ?_)
            obtain ⟨x81_0, rfl⟩ : ∃ z, z = u := ⟨_, rfl⟩
            have hP : va_P D vwCl [(h0, .inr (3, [.ref h1, .ref h3, .int xst, .int xgo, .int xdo, .int xre, .int xkn])), (h1, .inr (2, [.ref h2, .int mz, .int ms, .int mg, .int m0, .int m1])), (h2, .inl (cI, 12, .inl mf)), (h3, .inr (2, [.ref h4, .int x8_0, .int x8_1, .int x8_2, .int x8_3, .int x8_4])), (h4, .inl (cI, 12, .inl x81_0))] H := hP.sub [0, 1, 2, 3, 4] rfl
            have hD : va_D A [(h0, .inr (3, [.ref h1, .ref h3, .int xst, .int xgo, .int xdo, .int xre, .int xkn])), (h1, .inr (2, [.ref h2, .int mz, .int ms, .int mg, .int m0, .int m1])), (h2, .inl (cI, 12, .inl mf)), (h3, .inr (2, [.ref h4, .int x8_0, .int x8_1, .int x8_2, .int x8_3, .int x8_4])), (h4, .inl (cI, 12, .inl x81_0))] := hD.sub [0, 1, 2, 3, 4] (by decide) rfl
            refine lv_iload_n hx hb dX1_layChoices_84 rfl (lv_at hl 5 rfl) ?_
            refine lv_iload hx hb dX1_layChoices_85 (lv_at hl 0 rfl) ?_
            obtain ⟨hq, hv⟩ := hv
            refine lv_idiv hx hb dX1_layChoices_87 hq ?_
            refine lv_istore_n (lv' := [(3, .int (v3_16 / r41)), (6, .int r41), (5, .int r34), (0, .ref h0), (1, .int a1), (2, .int a2), (4, .int v4_16)]) hx hb dX1_layChoices_88 rfl hl (by decide) rfl (fun ls hl => ?_)
            refine lv_iinc (v := (v4_16 + (1 : Int32))) (lv' := [(4, .int (v4_16 + (1 : Int32))), (3, .int (v3_16 / r41)), (6, .int r41), (5, .int r34), (0, .ref h0), (1, .int a1), (2, .int a2)]) hx hb dX1_layChoices_89 hl (k := 6) rfl rfl (by decide) rfl (fun ls hl => ?_)
            refine lv_goto (tgt := 16) hx hb dX1_layChoices_92 (by decide) ?_
            exact ih16 _ _ _ _ _ _ hP hD hS hv (lv_sub hl [4, 5, 6, 1, 0] rfl)
  obtain ⟨n16, hv⟩ := hv
  refine L16 _ (fun v3_16x v4_16x z4_0_16x H locs ls hP hD hS hv hl => ?_) n16 _ _ _ _ _ _ hP hD hS hv (lv_sub hl [2, 3, 4, 1, 0] rfl)
  refine W.widen (k := 0) (n := 0) (Nat.le_of_ble_eq_true rfl) (Nat.le_of_ble_eq_true rfl) ?_
  exact W.vret hx hb hr (kWv_ret (u := (x8_0, x8_1, x8_2, x8_3, x8_4, z4_0_16x)) hv hP hD hS) hS.2.2 dX1_layChoices_95
set_option maxHeartbeats 4000000 in
set_option maxRecDepth 100000 in
theorem kX1_holdsByChoicesW (l : Launch) (D : va_G) (cI cB : ClassId) (h0 : Nat) (h1 : Nat) (h2 : Nat) (h3 : Nat) (h4 : Nat) (mf : Nat → Int32) (mz : Int32) (ms : Int32) (mg : Int32) (m0 : Int32) (m1 : Int32) (tf : Nat → Int32) (tz : Int32) (ts : Int32) (tg : Int32) (t0 : Int32) (t1 : Int32) (xst : Int32) (xgo : Int32) (xdo : Int32) (xre : Int32) (xkn : Int32) (a1 : Int32) (a2 : Int32) (sz : Nat) (post : Int32 → Int32 → Int32 → Int32 → Int32 → Int32 → (Nat → Int32) → Prop) (hv : qX1_holdsByChoicesW mf mz ms mg m0 m1 tf a1 a2 post) : Met l yX1_holdsByChoices wsX1_holdsByChoices ({ frames := 4, cells := 0, slots := 0, locals := 99 }) (va_Pc [.ref h0, .int a1, .int a2] (kBW D cI cB sz [(h0, .inr (3, [.ref h1, .ref h3, .int xst, .int xgo, .int xdo, .int xre, .int xkn])), (h1, .inr (2, [.ref h2, .int mz, .int ms, .int mg, .int m0, .int m1])), (h2, .inl (cI, 12, .inl mf)), (h3, .inr (2, [.ref h4, .int tz, .int ts, .int tg, .int t0, .int t1])), (h4, .inl (cI, 12, .inl tf))])) (va_Qi (fun (r : Int32) (u : Int32 × Int32 × Int32 × Int32 × Int32 × (Nat → Int32)) => post r u.1 u.2.1 u.2.2.1 u.2.2.2.1 u.2.2.2.2.1 u.2.2.2.2.2) (fun (u : Int32 × Int32 × Int32 × Int32 × Int32 × (Nat → Int32)) (t : State) => kE D (va_A [(h0, .inr (3, [.ref h1, .ref h3, .int xst, .int xgo, .int xdo, .int xre, .int xkn])), (h1, .inr (2, [.ref h2, .int mz, .int ms, .int mg, .int m0, .int m1])), (h2, .inl (cI, 12, .inl mf)), (h3, .inr (2, [.ref h4, .int tz, .int ts, .int tg, .int t0, .int t1])), (h4, .inl (cI, 12, .inl tf))] sz) [(h0, .inr (3, [.ref h1, .ref h3, .int xst, .int xgo, .int xdo, .int xre, .int xkn])), (h1, .inr (2, [.ref h2, .int mz, .int ms, .int mg, .int m0, .int m1])), (h2, .inl (cI, 12, .inl mf)), (h3, .inr (2, [.ref h4, .int (u.1), .int (u.2.1), .int (u.2.2.1), .int (u.2.2.2.1), .int (u.2.2.2.2.1)])), (h4, .inl (cI, 12, .inl (u.2.2.2.2.2)))] t) (va_A [(h0, .inr (3, [.ref h1, .ref h3, .int xst, .int xgo, .int xdo, .int xre, .int xkn])), (h1, .inr (2, [.ref h2, .int mz, .int ms, .int mg, .int m0, .int m1])), (h2, .inl (cI, 12, .inl mf)), (h3, .inr (2, [.ref h4, .int tz, .int ts, .int tg, .int t0, .int t1])), (h4, .inl (cI, 12, .inl tf))] sz)) 0 0 (va_A [(h0, .inr (3, [.ref h1, .ref h3, .int xst, .int xgo, .int xdo, .int xre, .int xkn])), (h1, .inr (2, [.ref h2, .int mz, .int ms, .int mg, .int m0, .int m1])), (h2, .inl (cI, 12, .inl mf)), (h3, .inr (2, [.ref h4, .int tz, .int ts, .int tg, .int t0, .int t1])), (h4, .inl (cI, 12, .inl tf))] sz) := by
  refine Met.ofW (cc := cX1_holdsByChoices) (maxL := 6) (ret := (some .boolean)) (by decide) rfl ?_
  intro p e s m args below meth c s₁ B hml hv0
  obtain ⟨rfl, hsz, ⟨hP, hK, hN⟩, hD0⟩ := hv0
  have hx := B.exec
  have hb := B.bytes
  have hr := B.returns
  have hts := atoms_spec (ws := wsX1_holdsByChoices) B.pre
  have hown : s.vm.findClass RX1 = some m.cls := findClass_of_methodNamed B.named
  have hlocks := B.notSynchronized
  have hi_X0 : ∀ w ∈ wsX00, w ∈ wsX1_holdsByChoices := by decide +kernel
  have hi_X1 : ∀ w ∈ wsX10, w ∈ wsX1_holdsByChoices := by decide +kernel
  have hF10 := hts (.fieldLink RX1 10 "Roadgame" "map" "LRoadgame$Chart;") (by decide +kernel)
  have hF16 := hts (.fieldLink RX1 16 "Roadgame" "trial" "LRoadgame$Chart;") (by decide +kernel)
  subst hsz
  have hD := hD0.self (sz := s.heap.size)
  generalize hAe : va_A [(h0, .inr (3, [.ref h1, .ref h3, .int xst, .int xgo, .int xdo, .int xre, .int xkn])), (h1, .inr (2, [.ref h2, .int mz, .int ms, .int mg, .int m0, .int m1])), (h2, .inl (cI, 12, .inl mf)), (h3, .inr (2, [.ref h4, .int tz, .int ts, .int tg, .int t0, .int t1])), (h4, .inl (cI, 12, .inl tf))] s.heap.size = A at hD ⊢
  have hA : ∀ q : Nat, s.heap.size ≤ q → A q := fun q h => by rw [← hAe]; exact Or.inr h
  have hS : va_S A s.heap s.heap [] := va_S.rf
  have hl := lv_entry ([.ref h0, .int a1, .int a2]) (n := 6) (Nat.le_of_ble_eq_true rfl)
  rw [lg_entry_eq]
  generalize (lg_sl ([.ref h0, .int a1, .int a2]) ++ List.replicate (6 - (lg_sl ([.ref h0, .int a1, .int a2])).length) Slot.unset).toArray = ls at hl ⊢
  have hl : lv_has ls 6 [(0, .ref h0), (1, .int a1), (2, .int a2)] := hl
  refine lv_aload_n hx hb dX1_holdsByChoices_0 rfl (lv_at hl 0 rfl) ?_
  refine va_get (D := D) (ci := 3) (v := .ref h3) (C := RX1) (T := TX1) (N := 7) hx hb hts hi_X1 hown hK hP 0 rfl rfl 1 (by decide) hF16 (fun _ h9 => h9) rfl dX1_holdsByChoices_1 ?_
  refine lv_aload_n hx hb dX1_holdsByChoices_4 rfl (lv_at hl 0 rfl) ?_
  refine va_get (D := D) (ci := 3) (v := .ref h1) (C := RX1) (T := TX1) (N := 7) hx hb hts hi_X1 hown hK hP 0 rfl rfl 0 (by decide) hF10 (fun _ h9 => h9) rfl dX1_holdsByChoices_5 ?_
  refine kw_v (wr := [(h0, .inr (3, [.ref h1, .ref h3, .int xst, .int xgo, .int xdo, .int xre, .int xkn]))]) (va_runV (As := [.ref h1]) (rest := []) ⟨hx, hb, hml, hown, hts⟩ (kX0_copyFromW l D cI cB h3 h4 h1 h2 tf tz ts tg t0 t1 mf mz ms mg m0 m1 _ _ hv) (cwV 1 hts gX1_holdsByChoices_X0_copyFrom rfl rfl rfl (by decide +kernel) ⟨Nat.le_of_ble_eq_true rfl, Nat.le_of_ble_eq_true rfl⟩) ⟨(kPreW (As := [.ref h3, .ref h1]) (hP.sub (ws' := [(h3, .inr (2, [.ref h4, .int tz, .int ts, .int tg, .int t0, .int t1])), (h4, .inl (cI, 12, .inl tf)), (h1, .inr (2, [.ref h2, .int mz, .int ms, .int mg, .int m0, .int m1])), (h2, .inl (cI, 12, .inl mf))]) [3, 4, 1, 2] rfl) (hD.sub (ws' := [(h3, .inr (2, [.ref h4, .int tz, .int ts, .int tg, .int t0, .int t1])), (h4, .inl (cI, 12, .inl tf)), (h1, .inr (2, [.ref h2, .int mz, .int ms, .int mg, .int m0, .int m1])), (h2, .inl (cI, 12, .inl mf))]) [3, 4, 1, 2] (by decide) rfl) hK hN).1, kRecv (hP.sub (ws' := [(h3, .inr (2, [.ref h4, .int tz, .int ts, .int tg, .int t0, .int t1])), (h4, .inl (cI, 12, .inl tf)), (h1, .inr (2, [.ref h2, .int mz, .int ms, .int mg, .int m0, .int m1])), (h2, .inl (cI, 12, .inl mf))]) [3, 4, 1, 2] rfl) hK 2 rfl rfl rfl, (kPreW (As := [.ref h3, .ref h1]) (hP.sub (ws' := [(h3, .inr (2, [.ref h4, .int tz, .int ts, .int tg, .int t0, .int t1])), (h4, .inl (cI, 12, .inl tf)), (h1, .inr (2, [.ref h2, .int mz, .int ms, .int mg, .int m0, .int m1])), (h2, .inl (cI, 12, .inl mf))]) [3, 4, 1, 2] rfl) (hD.sub (ws' := [(h3, .inr (2, [.ref h4, .int tz, .int ts, .int tg, .int t0, .int t1])), (h4, .inl (cI, 12, .inl tf)), (h1, .inr (2, [.ref h2, .int mz, .int ms, .int mg, .int m0, .int m1])), (h2, .inl (cI, 12, .inl mf))]) [3, 4, 1, 2] (by decide) rfl) hK hN).2⟩ rfl rfl hl.1 rfl (lv_room (Nat.le_of_ble_eq_true rfl)) dX1_holdsByChoices_8 ⟨Nat.le_of_ble_eq_true rfl, Nat.le_of_ble_eq_true rfl⟩) hP hD hS hA [3, 4, 1, 2] [0] rfl rfl (by decide) (by decide) (fun u H locs hv hP hD hS => ?_)
  obtain ⟨x8_0, x8_1, x8_2, x8_3, x8_4, x8_5⟩ := u
  have hP : va_P D vwCl [(h0, .inr (3, [.ref h1, .ref h3, .int xst, .int xgo, .int xdo, .int xre, .int xkn])), (h1, .inr (2, [.ref h2, .int mz, .int ms, .int mg, .int m0, .int m1])), (h2, .inl (cI, 12, .inl mf)), (h3, .inr (2, [.ref h4, .int x8_0, .int x8_1, .int x8_2, .int x8_3, .int x8_4])), (h4, .inl (cI, 12, .inl x8_5))] H := hP.sub [0, 3, 4, 1, 2] rfl
  have hD : va_D A [(h0, .inr (3, [.ref h1, .ref h3, .int xst, .int xgo, .int xdo, .int xre, .int xkn])), (h1, .inr (2, [.ref h2, .int mz, .int ms, .int mg, .int m0, .int m1])), (h2, .inl (cI, 12, .inl mf)), (h3, .inr (2, [.ref h4, .int x8_0, .int x8_1, .int x8_2, .int x8_3, .int x8_4])), (h4, .inl (cI, 12, .inl x8_5))] := hD.sub [0, 3, 4, 1, 2] (by decide) rfl
  refine lv_aload_n hx hb dX1_holdsByChoices_11 rfl (lv_at hl 0 rfl) ?_
  refine va_get (D := D) (ci := 3) (v := .ref h1) (C := RX1) (T := TX1) (N := 7) hx hb hts hi_X1 hown hK hP 0 rfl rfl 0 (by decide) hF10 (fun _ h9 => h9) rfl dX1_holdsByChoices_12 ?_
  refine lv_iload_n hx hb dX1_holdsByChoices_15 rfl (lv_at hl 1 rfl) ?_
  refine lv_iload_n hx hb dX1_holdsByChoices_16 rfl (lv_at hl 2 rfl) ?_
  refine kc_V (As := [.int a1, .int a2]) (rest := []) ⟨hx, hb, hml, hown, hts⟩ (kX0_won l D cI cB h1 h2 mf mz ms mg m0 m1 a1 a2 _ hv) (cwV 2 hts gX1_holdsByChoices_X0_won rfl rfl rfl (by decide +kernel) ⟨Nat.le_of_ble_eq_true rfl, Nat.le_of_ble_eq_true rfl⟩) (hP.sub (ws' := [(h1, .inr (2, [.ref h2, .int mz, .int ms, .int mg, .int m0, .int m1])), (h2, .inl (cI, 12, .inl mf))]) [1, 2] rfl) hK hN 2 rfl rfl rfl rfl hl.1 rfl (Nat.le_of_ble_eq_true rfl) dX1_holdsByChoices_17 ⟨Nat.le_of_ble_eq_true rfl, Nat.le_of_ble_eq_true rfl⟩ (fun r17 hv => ?_)
  refine lv_istore_n (lv' := [(3, .int r17), (0, .ref h0), (1, .int a1), (2, .int a2)]) hx hb dX1_holdsByChoices_20 rfl hl (by decide) rfl (fun ls hl => ?_)
  refine lv_iconst (v := (0 : Int32)) hx hb dX1_holdsByChoices_21 (by decide) ?_
  refine lv_istore (lv' := [(4, .int (0 : Int32)), (3, .int r17), (0, .ref h0), (1, .int a1), (2, .int a2)]) hx hb dX1_holdsByChoices_22 hl (by decide) rfl (fun ls hl => ?_)
  have L24 : ∀ (K24_75 : Int32 → (Nat → Int32) → Prop), (∀ (v4_24 : Int32) (z4_0_24 : Nat → Int32) (H : Heap) (locs : List Loc) (ls : Array Slot), va_P D vwCl [(h0, .inr (3, [.ref h1, .ref h3, .int xst, .int xgo, .int xdo, .int xre, .int xkn])), (h1, .inr (2, [.ref h2, .int mz, .int ms, .int mg, .int m0, .int m1])), (h2, .inl (cI, 12, .inl mf)), (h3, .inr (2, [.ref h4, .int x8_0, .int x8_1, .int x8_2, .int x8_3, .int x8_4])), (h4, .inl (cI, 12, .inl z4_0_24))] H → va_D A [(h0, .inr (3, [.ref h1, .ref h3, .int xst, .int xgo, .int xdo, .int xre, .int xkn])), (h1, .inr (2, [.ref h2, .int mz, .int ms, .int mg, .int m0, .int m1])), (h2, .inl (cI, 12, .inl mf)), (h3, .inr (2, [.ref h4, .int x8_0, .int x8_1, .int x8_2, .int x8_3, .int x8_4])), (h4, .inl (cI, 12, .inl z4_0_24))] → va_S A s.heap H locs → K24_75 v4_24 z4_0_24 → lv_has ls 6 [(0, .ref h0), (1, .int a1), (2, .int a2), (3, .int r17), (4, .int v4_24)] → W p l e (headSpec wsX1_holdsByChoices ({ frames := 4, cells := 0, slots := 0, locals := 99 })).room s m ([.ref h0, .int a1, .int a2] : List Value).toArray below meth c H locs 0 0 (MQ below (va_Qi (fun (r : Int32) (u : Int32 × Int32 × Int32 × Int32 × Int32 × (Nat → Int32)) => post r u.1 u.2.1 u.2.2.1 u.2.2.2.1 u.2.2.2.2.1 u.2.2.2.2.2) (fun (u : Int32 × Int32 × Int32 × Int32 × Int32 × (Nat → Int32)) (t : State) => kE D A [(h0, .inr (3, [.ref h1, .ref h3, .int xst, .int xgo, .int xdo, .int xre, .int xkn])), (h1, .inr (2, [.ref h2, .int mz, .int ms, .int mg, .int m0, .int m1])), (h2, .inl (cI, 12, .inl mf)), (h3, .inr (2, [.ref h4, .int (u.1), .int (u.2.1), .int (u.2.2.1), .int (u.2.2.2.1), .int (u.2.2.2.2.1)])), (h4, .inl (cI, 12, .inl (u.2.2.2.2.2)))] t) A) ([.ref h0, .int a1, .int a2] : List Value).toArray s 0 0 A) (F0 m 75 ls [])) → ∀ (n24 : Nat) (v4_24 : Int32) (z4_0_24 : Nat → Int32) (H : Heap) (locs : List Loc) (ls : Array Slot), va_P D vwCl [(h0, .inr (3, [.ref h1, .ref h3, .int xst, .int xgo, .int xdo, .int xre, .int xkn])), (h1, .inr (2, [.ref h2, .int mz, .int ms, .int mg, .int m0, .int m1])), (h2, .inl (cI, 12, .inl mf)), (h3, .inr (2, [.ref h4, .int x8_0, .int x8_1, .int x8_2, .int x8_3, .int x8_4])), (h4, .inl (cI, 12, .inl z4_0_24))] H → va_D A [(h0, .inr (3, [.ref h1, .ref h3, .int xst, .int xgo, .int xdo, .int xre, .int xkn])), (h1, .inr (2, [.ref h2, .int mz, .int ms, .int mg, .int m0, .int m1])), (h2, .inl (cI, 12, .inl mf)), (h3, .inr (2, [.ref h4, .int x8_0, .int x8_1, .int x8_2, .int x8_3, .int x8_4])), (h4, .inl (cI, 12, .inl z4_0_24))] → va_S A s.heap H locs → qX1_holdsByChoices_W24 mf mz ms mg a1 a2 r17 K24_75 n24 v4_24 z4_0_24 → lv_has ls 6 [(0, .ref h0), (1, .int a1), (2, .int a2), (3, .int r17), (4, .int v4_24)] → W p l e (headSpec wsX1_holdsByChoices ({ frames := 4, cells := 0, slots := 0, locals := 99 })).room s m ([.ref h0, .int a1, .int a2] : List Value).toArray below meth c H locs 0 0 (MQ below (va_Qi (fun (r : Int32) (u : Int32 × Int32 × Int32 × Int32 × Int32 × (Nat → Int32)) => post r u.1 u.2.1 u.2.2.1 u.2.2.2.1 u.2.2.2.2.1 u.2.2.2.2.2) (fun (u : Int32 × Int32 × Int32 × Int32 × Int32 × (Nat → Int32)) (t : State) => kE D A [(h0, .inr (3, [.ref h1, .ref h3, .int xst, .int xgo, .int xdo, .int xre, .int xkn])), (h1, .inr (2, [.ref h2, .int mz, .int ms, .int mg, .int m0, .int m1])), (h2, .inl (cI, 12, .inl mf)), (h3, .inr (2, [.ref h4, .int (u.1), .int (u.2.1), .int (u.2.2.1), .int (u.2.2.2.1), .int (u.2.2.2.2.1)])), (h4, .inl (cI, 12, .inl (u.2.2.2.2.2)))] t) A) ([.ref h0, .int a1, .int a2] : List Value).toArray s 0 0 A) (F0 m 24 ls []) := by
    intro K24_75 hk24_75
    intro n24
    induction n24 with
    | zero => intro v4_24 z4_0_24 H locs ls hP hD hS hv hl; exact hv.elim
    | succ n24 ih24 =>
      intro v4_24 z4_0_24 H locs ls hP hD hS hv hl
      refine lv_iload hx hb dX1_holdsByChoices_24 (lv_at hl 4 rfl) ?_
      refine lv_aload_n hx hb dX1_holdsByChoices_26 rfl (lv_at hl 0 rfl) ?_
      refine va_get (D := D) (ci := 3) (v := .ref h1) (C := RX1) (T := TX1) (N := 7) hx hb hts hi_X1 hown hK hP 0 rfl rfl 0 (by decide) hF10 (fun _ h9 => h9) rfl dX1_holdsByChoices_27 ?_
      refine va_getN (D := D) (ci := 2) (v := .int mz) (C := RX0) (T := TX0) (N := 6) (host := "Roadgame") hx hb hts hi_X0 hown hK hP 1 rfl rfl 1 (by decide) (va_Nw.use rfl hN.1) (fun _ h9 => h9) rfl dX1_holdsByChoices_30 ?_
      refine lv_icmp_ge (tgt := 75) hx hb dX1_holdsByChoices_33 (by decide) (fun hc => ?_) (fun hc => ?_)
      · have hv := hv.1 hc
        exact hk24_75 _ _ _ _ _ hP hD hS hv (lv_sub hl [0, 1, 2, 3, 4] rfl)
      · have hv := hv.2 hc
        refine lv_aload_n hx hb dX1_holdsByChoices_36 rfl (lv_at hl 0 rfl) ?_
        refine va_get (D := D) (ci := 3) (v := .ref h1) (C := RX1) (T := TX1) (N := 7) hx hb hts hi_X1 hown hK hP 0 rfl rfl 0 (by decide) hF10 (fun _ h9 => h9) rfl dX1_holdsByChoices_37 ?_
        refine lv_iload_n hx hb dX1_holdsByChoices_40 rfl (lv_at hl 1 rfl) ?_
        refine lv_iload_n hx hb dX1_holdsByChoices_41 rfl (lv_at hl 2 rfl) ?_
        refine lv_iload hx hb dX1_holdsByChoices_42 (lv_at hl 4 rfl) ?_
        refine lv_iload_n hx hb dX1_holdsByChoices_44 rfl (lv_at hl 3 rfl) ?_
        refine kc_V (As := [.int a1, .int a2, .int v4_24, .int r17]) (rest := []) ⟨hx, hb, hml, hown, hts⟩ (kX0_pickWithin l D cI cB h1 h2 mf mz ms mg m0 m1 a1 a2 v4_24 r17 _ hv) (cwV 4 hts gX1_holdsByChoices_X0_pickWithin rfl rfl rfl (by decide +kernel) ⟨Nat.le_of_ble_eq_true rfl, Nat.le_of_ble_eq_true rfl⟩) (hP.sub (ws' := [(h1, .inr (2, [.ref h2, .int mz, .int ms, .int mg, .int m0, .int m1])), (h2, .inl (cI, 12, .inl mf))]) [1, 2] rfl) hK hN 2 rfl rfl rfl rfl hl.1 rfl (Nat.le_of_ble_eq_true rfl) dX1_holdsByChoices_45 ⟨Nat.le_of_ble_eq_true rfl, Nat.le_of_ble_eq_true rfl⟩ (fun r45 hv => ?_)
        refine lv_istore (lv' := [(5, .int r45), (0, .ref h0), (1, .int a1), (2, .int a2), (3, .int r17), (4, .int v4_24)]) hx hb dX1_holdsByChoices_48 hl (by decide) rfl (fun ls hl => ?_)
        refine lv_iload hx hb dX1_holdsByChoices_50 (lv_at hl 0 rfl) ?_
        refine lv_iconst (v := (-1 : Int32)) hx hb dX1_holdsByChoices_52 (by decide) ?_
        refine lv_icmp_eq (tgt := 69) hx hb dX1_holdsByChoices_53 (by decide) (fun hc => ?_) (fun hc => ?_)
        · have hv := hv.1 hc
          refine lv_iinc (v := (v4_24 + (1 : Int32))) (lv' := [(4, .int (v4_24 + (1 : Int32))), (5, .int r45), (0, .ref h0), (1, .int a1), (2, .int a2), (3, .int r17)]) hx hb dX1_holdsByChoices_69 hl (k := 5) rfl rfl (by decide) rfl (fun ls hl => ?_)
          refine lv_goto (tgt := 24) hx hb dX1_holdsByChoices_72 (by decide) ?_
          exact ih24 _ _ _ _ _ hP hD hS hv (lv_sub hl [2, 3, 4, 5, 0] rfl)
        · have hv := hv.2 hc
          refine lv_aload_n hx hb dX1_holdsByChoices_56 rfl (lv_at hl 1 rfl) ?_
          refine va_get (D := D) (ci := 3) (v := .ref h3) (C := RX1) (T := TX1) (N := 7) hx hb hts hi_X1 hown hK hP 0 rfl rfl 1 (by decide) hF16 (fun _ h9 => h9) rfl dX1_holdsByChoices_57 ?_
          refine lv_iload hx hb dX1_holdsByChoices_60 (lv_at hl 5 rfl) ?_
          refine lv_iconst (v := (1 : Int32)) hx hb dX1_holdsByChoices_62 (by decide) ?_
          refine lv_iload hx hb dX1_holdsByChoices_63 (lv_at hl 0 rfl) ?_
          refine lv_ishl hx hb dX1_holdsByChoices_65 ?_
          refine kw_v (wr := [(h0, .inr (3, [.ref h1, .ref h3, .int xst, .int xgo, .int xdo, .int xre, .int xkn])), (h1, .inr (2, [.ref h2, .int mz, .int ms, .int mg, .int m0, .int m1])), (h2, .inl (cI, 12, .inl mf))]) (va_runV (As := [.int v4_24, .int ((1 : Int32) <<< (r45 &&& (31 : Int32)))]) (rest := []) ⟨hx, hb, hml, hown, hts⟩ (kX0_setWaysW l D cI cB h3 h4 z4_0_24 x8_0 x8_1 x8_2 x8_3 x8_4 v4_24 ((1 : Int32) <<< (r45 &&& (31 : Int32))) _ _ hv) (cwV 2 hts gX1_holdsByChoices_X0_setWays rfl rfl rfl (by decide +kernel) ⟨Nat.le_of_ble_eq_true rfl, Nat.le_of_ble_eq_true rfl⟩) ⟨(kPreW (As := [.ref h3, .int v4_24, .int ((1 : Int32) <<< (r45 &&& (31 : Int32)))]) (hP.sub (ws' := [(h3, .inr (2, [.ref h4, .int x8_0, .int x8_1, .int x8_2, .int x8_3, .int x8_4])), (h4, .inl (cI, 12, .inl z4_0_24))]) [3, 4] rfl) (hD.sub (ws' := [(h3, .inr (2, [.ref h4, .int x8_0, .int x8_1, .int x8_2, .int x8_3, .int x8_4])), (h4, .inl (cI, 12, .inl z4_0_24))]) [3, 4] (by decide) rfl) hK hN).1, kRecv (hP.sub (ws' := [(h3, .inr (2, [.ref h4, .int x8_0, .int x8_1, .int x8_2, .int x8_3, .int x8_4])), (h4, .inl (cI, 12, .inl z4_0_24))]) [3, 4] rfl) hK 2 rfl rfl rfl, (kPreW (As := [.ref h3, .int v4_24, .int ((1 : Int32) <<< (r45 &&& (31 : Int32)))]) (hP.sub (ws' := [(h3, .inr (2, [.ref h4, .int x8_0, .int x8_1, .int x8_2, .int x8_3, .int x8_4])), (h4, .inl (cI, 12, .inl z4_0_24))]) [3, 4] rfl) (hD.sub (ws' := [(h3, .inr (2, [.ref h4, .int x8_0, .int x8_1, .int x8_2, .int x8_3, .int x8_4])), (h4, .inl (cI, 12, .inl z4_0_24))]) [3, 4] (by decide) rfl) hK hN).2⟩ rfl rfl hl.1 rfl (lv_room (Nat.le_of_ble_eq_true rfl)) dX1_holdsByChoices_66 ⟨Nat.le_of_ble_eq_true rfl, Nat.le_of_ble_eq_true rfl⟩) hP hD hS hA [3, 4] [0, 1, 2] rfl rfl (by decide) (by decide) (fun u H locs hv hP hD hS => ?_)
          obtain ⟨x66_0, rfl⟩ : ∃ z, z = u := ⟨_, rfl⟩
          have hP : va_P D vwCl [(h0, .inr (3, [.ref h1, .ref h3, .int xst, .int xgo, .int xdo, .int xre, .int xkn])), (h1, .inr (2, [.ref h2, .int mz, .int ms, .int mg, .int m0, .int m1])), (h2, .inl (cI, 12, .inl mf)), (h3, .inr (2, [.ref h4, .int x8_0, .int x8_1, .int x8_2, .int x8_3, .int x8_4])), (h4, .inl (cI, 12, .inl x66_0))] H := hP.sub [0, 1, 2, 3, 4] rfl
          have hD : va_D A [(h0, .inr (3, [.ref h1, .ref h3, .int xst, .int xgo, .int xdo, .int xre, .int xkn])), (h1, .inr (2, [.ref h2, .int mz, .int ms, .int mg, .int m0, .int m1])), (h2, .inl (cI, 12, .inl mf)), (h3, .inr (2, [.ref h4, .int x8_0, .int x8_1, .int x8_2, .int x8_3, .int x8_4])), (h4, .inl (cI, 12, .inl x66_0))] := hD.sub [0, 1, 2, 3, 4] (by decide) rfl
          refine lv_iinc (v := (v4_24 + (1 : Int32))) (lv' := [(4, .int (v4_24 + (1 : Int32))), (5, .int r45), (0, .ref h0), (1, .int a1), (2, .int a2), (3, .int r17)]) hx hb dX1_holdsByChoices_69 hl (k := 5) rfl rfl (by decide) rfl (fun ls hl => ?_)
          refine lv_goto (tgt := 24) hx hb dX1_holdsByChoices_72 (by decide) ?_
          exact ih24 _ _ _ _ _ hP hD hS hv (lv_sub hl [2, 3, 4, 5, 0] rfl)
  obtain ⟨n24, hv⟩ := hv
  refine L24 _ (fun v4_24x z4_0_24x H locs ls hP hD hS hv hl => ?_) n24 _ _ _ _ _ hP hD hS hv (lv_sub hl [2, 3, 4, 1, 0] rfl)
  refine lv_iload_n hx hb dX1_holdsByChoices_75 rfl (lv_at hl 3 rfl) ?_
  refine lv_aload_n hx hb dX1_holdsByChoices_76 rfl (lv_at hl 0 rfl) ?_
  refine va_get (D := D) (ci := 3) (v := .ref h3) (C := RX1) (T := TX1) (N := 7) hx hb hts hi_X1 hown hK hP 0 rfl rfl 1 (by decide) hF16 (fun _ h9 => h9) rfl dX1_holdsByChoices_77 ?_
  refine lv_iload_n hx hb dX1_holdsByChoices_80 rfl (lv_at hl 1 rfl) ?_
  refine lv_iload_n hx hb dX1_holdsByChoices_81 rfl (lv_at hl 2 rfl) ?_
  refine kc_V (As := [.int a1, .int a2]) (rest := [.int r17]) ⟨hx, hb, hml, hown, hts⟩ (kX0_won l D cI cB h3 h4 z4_0_24x x8_0 x8_1 x8_2 x8_3 x8_4 a1 a2 _ hv) (cwV 2 hts gX1_holdsByChoices_X0_won rfl rfl rfl (by decide +kernel) ⟨Nat.le_of_ble_eq_true rfl, Nat.le_of_ble_eq_true rfl⟩) (hP.sub (ws' := [(h3, .inr (2, [.ref h4, .int x8_0, .int x8_1, .int x8_2, .int x8_3, .int x8_4])), (h4, .inl (cI, 12, .inl z4_0_24x))]) [3, 4] rfl) hK hN 2 rfl rfl rfl rfl hl.1 rfl (Nat.le_of_ble_eq_true rfl) dX1_holdsByChoices_82 ⟨Nat.le_of_ble_eq_true rfl, Nat.le_of_ble_eq_true rfl⟩ (fun r82 hv => ?_)
  refine lv_iconst (v := (-1 : Int32)) hx hb dX1_holdsByChoices_85 (by decide) ?_
  refine lv_ixor hx hb dX1_holdsByChoices_86 ?_
  refine lv_iand hx hb dX1_holdsByChoices_87 ?_
  refine lv_if_ne (tgt := 95) hx hb dX1_holdsByChoices_88 (by decide) (fun hc => ?_) (fun hc => ?_)
  · have hv := hv.1 hc
    refine lv_iconst (v := (0 : Int32)) hx hb dX1_holdsByChoices_95 (by decide) ?_
    refine W.widen (k := 0) (n := 0) (Nat.le_of_ble_eq_true rfl) (Nat.le_of_ble_eq_true rfl) ?_
    exact W.zret (v := (0 : Int32)) (ty := .boolean) hx hb hr rfl (kWi_ret (u := (x8_0, x8_1, x8_2, x8_3, x8_4, z4_0_24x)) hv hP hD hS) hS.2.2 dX1_holdsByChoices_96
  · have hv := hv.2 hc
    refine lv_iconst (v := (1 : Int32)) hx hb dX1_holdsByChoices_91 (by decide) ?_
    refine lv_goto (tgt := 96) hx hb dX1_holdsByChoices_92 (by decide) ?_
    refine W.widen (k := 0) (n := 0) (Nat.le_of_ble_eq_true rfl) (Nat.le_of_ble_eq_true rfl) ?_
    exact W.zret (v := (1 : Int32)) (ty := .boolean) hx hb hr rfl (kWi_ret (u := (x8_0, x8_1, x8_2, x8_3, x8_4, z4_0_24x)) hv hP hD hS) hS.2.2 dX1_holdsByChoices_96
set_option maxHeartbeats 4000000 in
set_option maxRecDepth 100000 in
theorem kX1_isSoundW (l : Launch) (D : va_G) (cI cB : ClassId) (h0 : Nat) (h1 : Nat) (h2 : Nat) (h3 : Nat) (h4 : Nat) (mf : Nat → Int32) (mz : Int32) (ms : Int32) (mg : Int32) (m0 : Int32) (m1 : Int32) (tf : Nat → Int32) (tz : Int32) (ts : Int32) (tg : Int32) (t0 : Int32) (t1 : Int32) (xst : Int32) (xgo : Int32) (xdo : Int32) (xre : Int32) (xkn : Int32)  (sz : Nat) (post : Int32 → Int32 → Int32 → Int32 → Int32 → Int32 → (Nat → Int32) → Prop) (hv : qX1_isSoundW mf mz ms mg m0 m1 tf tz ts tg t0 t1 post) : Met l yX1_isSound wsX1_isSound ({ frames := 5, cells := 0, slots := 0, locals := 124 }) (va_Pc [.ref h0] (kBW D cI cB sz [(h0, .inr (3, [.ref h1, .ref h3, .int xst, .int xgo, .int xdo, .int xre, .int xkn])), (h1, .inr (2, [.ref h2, .int mz, .int ms, .int mg, .int m0, .int m1])), (h2, .inl (cI, 12, .inl mf)), (h3, .inr (2, [.ref h4, .int tz, .int ts, .int tg, .int t0, .int t1])), (h4, .inl (cI, 12, .inl tf))])) (va_Qi (fun (r : Int32) (u : Int32 × Int32 × Int32 × Int32 × Int32 × (Nat → Int32)) => post r u.1 u.2.1 u.2.2.1 u.2.2.2.1 u.2.2.2.2.1 u.2.2.2.2.2) (fun (u : Int32 × Int32 × Int32 × Int32 × Int32 × (Nat → Int32)) (t : State) => kE D (va_A [(h0, .inr (3, [.ref h1, .ref h3, .int xst, .int xgo, .int xdo, .int xre, .int xkn])), (h1, .inr (2, [.ref h2, .int mz, .int ms, .int mg, .int m0, .int m1])), (h2, .inl (cI, 12, .inl mf)), (h3, .inr (2, [.ref h4, .int tz, .int ts, .int tg, .int t0, .int t1])), (h4, .inl (cI, 12, .inl tf))] sz) [(h0, .inr (3, [.ref h1, .ref h3, .int xst, .int xgo, .int xdo, .int xre, .int xkn])), (h1, .inr (2, [.ref h2, .int mz, .int ms, .int mg, .int m0, .int m1])), (h2, .inl (cI, 12, .inl mf)), (h3, .inr (2, [.ref h4, .int (u.1), .int (u.2.1), .int (u.2.2.1), .int (u.2.2.2.1), .int (u.2.2.2.2.1)])), (h4, .inl (cI, 12, .inl (u.2.2.2.2.2)))] t) (va_A [(h0, .inr (3, [.ref h1, .ref h3, .int xst, .int xgo, .int xdo, .int xre, .int xkn])), (h1, .inr (2, [.ref h2, .int mz, .int ms, .int mg, .int m0, .int m1])), (h2, .inl (cI, 12, .inl mf)), (h3, .inr (2, [.ref h4, .int tz, .int ts, .int tg, .int t0, .int t1])), (h4, .inl (cI, 12, .inl tf))] sz)) 0 0 (va_A [(h0, .inr (3, [.ref h1, .ref h3, .int xst, .int xgo, .int xdo, .int xre, .int xkn])), (h1, .inr (2, [.ref h2, .int mz, .int ms, .int mg, .int m0, .int m1])), (h2, .inl (cI, 12, .inl mf)), (h3, .inr (2, [.ref h4, .int tz, .int ts, .int tg, .int t0, .int t1])), (h4, .inl (cI, 12, .inl tf))] sz) := by
  refine Met.ofW (cc := cX1_isSound) (maxL := 3) (ret := (some .boolean)) (by decide) rfl ?_
  intro p e s m args below meth c s₁ B hml hv0
  obtain ⟨rfl, hsz, ⟨hP, hK, hN⟩, hD0⟩ := hv0
  have hx := B.exec
  have hb := B.bytes
  have hr := B.returns
  have hts := atoms_spec (ws := wsX1_isSound) B.pre
  have hown : s.vm.findClass RX1 = some m.cls := findClass_of_methodNamed B.named
  have hlocks := B.notSynchronized
  subst hsz
  have hD := hD0.self (sz := s.heap.size)
  generalize hAe : va_A [(h0, .inr (3, [.ref h1, .ref h3, .int xst, .int xgo, .int xdo, .int xre, .int xkn])), (h1, .inr (2, [.ref h2, .int mz, .int ms, .int mg, .int m0, .int m1])), (h2, .inl (cI, 12, .inl mf)), (h3, .inr (2, [.ref h4, .int tz, .int ts, .int tg, .int t0, .int t1])), (h4, .inl (cI, 12, .inl tf))] s.heap.size = A at hD ⊢
  have hA : ∀ q : Nat, s.heap.size ≤ q → A q := fun q h => by rw [← hAe]; exact Or.inr h
  have hS : va_S A s.heap s.heap [] := va_S.rf
  have hl := lv_entry ([.ref h0]) (n := 3) (Nat.le_of_ble_eq_true rfl)
  rw [lg_entry_eq]
  generalize (lg_sl ([.ref h0]) ++ List.replicate (3 - (lg_sl ([.ref h0])).length) Slot.unset).toArray = ls at hl ⊢
  have hl : lv_has ls 3 [(0, .ref h0)] := hl
  refine lv_iconst (v := (0 : Int32)) hx hb dX1_isSound_0 (by decide) ?_
  refine lv_istore_n (lv' := [(1, .int (0 : Int32)), (0, .ref h0)]) hx hb dX1_isSound_1 rfl hl (by decide) rfl (fun ls hl => ?_)
  have L2 : ∀ (K2_55 : Int32 → Int32 → Int32 → Int32 → Int32 → Int32 → (Nat → Int32) → Prop), (∀ (v1_2 : Int32) (z3_1_2 : Int32) (z3_2_2 : Int32) (z3_3_2 : Int32) (z3_4_2 : Int32) (z3_5_2 : Int32) (z4_0_2 : Nat → Int32) (H : Heap) (locs : List Loc) (ls : Array Slot), va_P D vwCl [(h0, .inr (3, [.ref h1, .ref h3, .int xst, .int xgo, .int xdo, .int xre, .int xkn])), (h1, .inr (2, [.ref h2, .int mz, .int ms, .int mg, .int m0, .int m1])), (h2, .inl (cI, 12, .inl mf)), (h3, .inr (2, [.ref h4, .int z3_1_2, .int z3_2_2, .int z3_3_2, .int z3_4_2, .int z3_5_2])), (h4, .inl (cI, 12, .inl z4_0_2))] H → va_D A [(h0, .inr (3, [.ref h1, .ref h3, .int xst, .int xgo, .int xdo, .int xre, .int xkn])), (h1, .inr (2, [.ref h2, .int mz, .int ms, .int mg, .int m0, .int m1])), (h2, .inl (cI, 12, .inl mf)), (h3, .inr (2, [.ref h4, .int z3_1_2, .int z3_2_2, .int z3_3_2, .int z3_4_2, .int z3_5_2])), (h4, .inl (cI, 12, .inl z4_0_2))] → va_S A s.heap H locs → K2_55 v1_2 z3_1_2 z3_2_2 z3_3_2 z3_4_2 z3_5_2 z4_0_2 → lv_has ls 3 [(0, .ref h0), (1, .int v1_2)] → W p l e (headSpec wsX1_isSound ({ frames := 5, cells := 0, slots := 0, locals := 124 })).room s m ([.ref h0] : List Value).toArray below meth c H locs 0 0 (MQ below (va_Qi (fun (r : Int32) (u : Int32 × Int32 × Int32 × Int32 × Int32 × (Nat → Int32)) => post r u.1 u.2.1 u.2.2.1 u.2.2.2.1 u.2.2.2.2.1 u.2.2.2.2.2) (fun (u : Int32 × Int32 × Int32 × Int32 × Int32 × (Nat → Int32)) (t : State) => kE D A [(h0, .inr (3, [.ref h1, .ref h3, .int xst, .int xgo, .int xdo, .int xre, .int xkn])), (h1, .inr (2, [.ref h2, .int mz, .int ms, .int mg, .int m0, .int m1])), (h2, .inl (cI, 12, .inl mf)), (h3, .inr (2, [.ref h4, .int (u.1), .int (u.2.1), .int (u.2.2.1), .int (u.2.2.2.1), .int (u.2.2.2.2.1)])), (h4, .inl (cI, 12, .inl (u.2.2.2.2.2)))] t) A) ([.ref h0] : List Value).toArray s 0 0 A) (F0 m 55 ls [])) → ∀ (n2 : Nat) (v1_2 : Int32) (z3_1_2 : Int32) (z3_2_2 : Int32) (z3_3_2 : Int32) (z3_4_2 : Int32) (z3_5_2 : Int32) (z4_0_2 : Nat → Int32) (H : Heap) (locs : List Loc) (ls : Array Slot), va_P D vwCl [(h0, .inr (3, [.ref h1, .ref h3, .int xst, .int xgo, .int xdo, .int xre, .int xkn])), (h1, .inr (2, [.ref h2, .int mz, .int ms, .int mg, .int m0, .int m1])), (h2, .inl (cI, 12, .inl mf)), (h3, .inr (2, [.ref h4, .int z3_1_2, .int z3_2_2, .int z3_3_2, .int z3_4_2, .int z3_5_2])), (h4, .inl (cI, 12, .inl z4_0_2))] H → va_D A [(h0, .inr (3, [.ref h1, .ref h3, .int xst, .int xgo, .int xdo, .int xre, .int xkn])), (h1, .inr (2, [.ref h2, .int mz, .int ms, .int mg, .int m0, .int m1])), (h2, .inl (cI, 12, .inl mf)), (h3, .inr (2, [.ref h4, .int z3_1_2, .int z3_2_2, .int z3_3_2, .int z3_4_2, .int z3_5_2])), (h4, .inl (cI, 12, .inl z4_0_2))] → va_S A s.heap H locs → qX1_isSound_W2 mf mz ms mg m0 m1 K2_55 post n2 v1_2 z3_1_2 z3_2_2 z3_3_2 z3_4_2 z3_5_2 z4_0_2 → lv_has ls 3 [(0, .ref h0), (1, .int v1_2)] → W p l e (headSpec wsX1_isSound ({ frames := 5, cells := 0, slots := 0, locals := 124 })).room s m ([.ref h0] : List Value).toArray below meth c H locs 0 0 (MQ below (va_Qi (fun (r : Int32) (u : Int32 × Int32 × Int32 × Int32 × Int32 × (Nat → Int32)) => post r u.1 u.2.1 u.2.2.1 u.2.2.2.1 u.2.2.2.2.1 u.2.2.2.2.2) (fun (u : Int32 × Int32 × Int32 × Int32 × Int32 × (Nat → Int32)) (t : State) => kE D A [(h0, .inr (3, [.ref h1, .ref h3, .int xst, .int xgo, .int xdo, .int xre, .int xkn])), (h1, .inr (2, [.ref h2, .int mz, .int ms, .int mg, .int m0, .int m1])), (h2, .inl (cI, 12, .inl mf)), (h3, .inr (2, [.ref h4, .int (u.1), .int (u.2.1), .int (u.2.2.1), .int (u.2.2.2.1), .int (u.2.2.2.2.1)])), (h4, .inl (cI, 12, .inl (u.2.2.2.2.2)))] t) A) ([.ref h0] : List Value).toArray s 0 0 A) (F0 m 2 ls []) := by
    intro K2_55 hk2_55
    intro n2
    induction n2 with
    | zero => intro v1_2 z3_1_2 z3_2_2 z3_3_2 z3_4_2 z3_5_2 z4_0_2 H locs ls hP hD hS hv hl; exact hv.elim
    | succ n2 ih2 =>
      intro v1_2 z3_1_2 z3_2_2 z3_3_2 z3_4_2 z3_5_2 z4_0_2 H locs ls hP hD hS hv hl
      refine lv_iload_n hx hb dX1_isSound_2 rfl (lv_at hl 1 rfl) ?_
      refine lv_iconst (v := (1 : Int32)) hx hb dX1_isSound_3 (by decide) ?_
      refine lv_icmp_gt (tgt := 55) hx hb dX1_isSound_4 (by decide) (fun hc => ?_) (fun hc => ?_)
      · have hv := hv.1 hc
        exact hk2_55 _ _ _ _ _ _ _ _ _ _ hP hD hS hv (lv_sub hl [0, 1] rfl)
      · have hv := hv.2 hc
        refine lv_aload_n hx hb dX1_isSound_7 rfl (lv_at hl 0 rfl) ?_
        refine lv_iload_n hx hb dX1_isSound_8 rfl (lv_at hl 1 rfl) ?_
        refine kc_V (As := [.int v1_2]) (rest := []) ⟨hx, hb, hml, hown, hts⟩ (kX1_isComingSound l D cI cB h0 h1 h2 h3 h4 mf mz ms mg m0 m1 z4_0_2 z3_1_2 z3_2_2 z3_3_2 z3_4_2 z3_5_2 xst xgo xdo xre xkn v1_2 _ hv) (cwV 1 hts gX1_isSound_X1_isComingSound rfl rfl rfl (by decide +kernel) ⟨Nat.le_of_ble_eq_true rfl, Nat.le_of_ble_eq_true rfl⟩) hP hK hN 3 rfl rfl rfl rfl hl.1 rfl (Nat.le_of_ble_eq_true rfl) dX1_isSound_9 ⟨Nat.le_of_ble_eq_true rfl, Nat.le_of_ble_eq_true rfl⟩ (fun r9 hv => ?_)
        refine lv_if_eq (tgt := 23) hx hb dX1_isSound_12 (by decide) (fun hc => ?_) (fun hc => ?_)
        · have hv := hv.1 hc
          refine lv_iconst (v := (0 : Int32)) hx hb dX1_isSound_23 (by decide) ?_
          refine W.widen (k := 0) (n := 0) (Nat.le_of_ble_eq_true rfl) (Nat.le_of_ble_eq_true rfl) ?_
          exact W.zret (v := (0 : Int32)) (ty := .boolean) hx hb hr rfl (kWi_ret (u := (z3_1_2, z3_2_2, z3_3_2, z3_4_2, z3_5_2, z4_0_2)) hv hP hD hS) hS.2.2 dX1_isSound_24
        · have hv := hv.2 hc
          refine lv_aload_n hx hb dX1_isSound_15 rfl (lv_at hl 0 rfl) ?_
          refine lv_iload_n hx hb dX1_isSound_16 rfl (lv_at hl 1 rfl) ?_
          refine kc_V (As := [.int v1_2]) (rest := []) ⟨hx, hb, hml, hown, hts⟩ (kX1_isAgainSound l D cI cB h0 h1 h2 h3 h4 mf mz ms mg m0 m1 z4_0_2 z3_1_2 z3_2_2 z3_3_2 z3_4_2 z3_5_2 xst xgo xdo xre xkn v1_2 _ hv) (cwV 1 hts gX1_isSound_X1_isAgainSound rfl rfl rfl (by decide +kernel) ⟨Nat.le_of_ble_eq_true rfl, Nat.le_of_ble_eq_true rfl⟩) hP hK hN 3 rfl rfl rfl rfl hl.1 rfl (Nat.le_of_ble_eq_true rfl) dX1_isSound_17 ⟨Nat.le_of_ble_eq_true rfl, Nat.le_of_ble_eq_true rfl⟩ (fun r17 hv => ?_)
          refine lv_if_ne (tgt := 25) hx hb dX1_isSound_20 (by decide) (fun hc => ?_) (fun hc => ?_)
          · have hv := hv.1 hc
            refine lv_iconst (v := (0 : Int32)) hx hb dX1_isSound_25 (by decide) ?_
            refine lv_istore_n (lv' := [(2, .int (0 : Int32)), (0, .ref h0), (1, .int v1_2)]) hx hb dX1_isSound_26 rfl hl (by decide) rfl (fun ls hl => ?_)
            have L27 : ∀ (K27_49 : Int32 → Int32 → Int32 → Int32 → Int32 → Int32 → (Nat → Int32) → Prop), (∀ (v2_27 : Int32) (z3_1_27 : Int32) (z3_2_27 : Int32) (z3_3_27 : Int32) (z3_4_27 : Int32) (z3_5_27 : Int32) (z4_0_27 : Nat → Int32) (H : Heap) (locs : List Loc) (ls : Array Slot), va_P D vwCl [(h0, .inr (3, [.ref h1, .ref h3, .int xst, .int xgo, .int xdo, .int xre, .int xkn])), (h1, .inr (2, [.ref h2, .int mz, .int ms, .int mg, .int m0, .int m1])), (h2, .inl (cI, 12, .inl mf)), (h3, .inr (2, [.ref h4, .int z3_1_27, .int z3_2_27, .int z3_3_27, .int z3_4_27, .int z3_5_27])), (h4, .inl (cI, 12, .inl z4_0_27))] H → va_D A [(h0, .inr (3, [.ref h1, .ref h3, .int xst, .int xgo, .int xdo, .int xre, .int xkn])), (h1, .inr (2, [.ref h2, .int mz, .int ms, .int mg, .int m0, .int m1])), (h2, .inl (cI, 12, .inl mf)), (h3, .inr (2, [.ref h4, .int z3_1_27, .int z3_2_27, .int z3_3_27, .int z3_4_27, .int z3_5_27])), (h4, .inl (cI, 12, .inl z4_0_27))] → va_S A s.heap H locs → K27_49 v2_27 z3_1_27 z3_2_27 z3_3_27 z3_4_27 z3_5_27 z4_0_27 → lv_has ls 3 [(0, .ref h0), (1, .int v1_2), (2, .int v2_27)] → W p l e (headSpec wsX1_isSound ({ frames := 5, cells := 0, slots := 0, locals := 124 })).room s m ([.ref h0] : List Value).toArray below meth c H locs 0 0 (MQ below (va_Qi (fun (r : Int32) (u : Int32 × Int32 × Int32 × Int32 × Int32 × (Nat → Int32)) => post r u.1 u.2.1 u.2.2.1 u.2.2.2.1 u.2.2.2.2.1 u.2.2.2.2.2) (fun (u : Int32 × Int32 × Int32 × Int32 × Int32 × (Nat → Int32)) (t : State) => kE D A [(h0, .inr (3, [.ref h1, .ref h3, .int xst, .int xgo, .int xdo, .int xre, .int xkn])), (h1, .inr (2, [.ref h2, .int mz, .int ms, .int mg, .int m0, .int m1])), (h2, .inl (cI, 12, .inl mf)), (h3, .inr (2, [.ref h4, .int (u.1), .int (u.2.1), .int (u.2.2.1), .int (u.2.2.2.1), .int (u.2.2.2.2.1)])), (h4, .inl (cI, 12, .inl (u.2.2.2.2.2)))] t) A) ([.ref h0] : List Value).toArray s 0 0 A) (F0 m 49 ls [])) → ∀ (n27 : Nat) (v2_27 : Int32) (z3_1_27 : Int32) (z3_2_27 : Int32) (z3_3_27 : Int32) (z3_4_27 : Int32) (z3_5_27 : Int32) (z4_0_27 : Nat → Int32) (H : Heap) (locs : List Loc) (ls : Array Slot), va_P D vwCl [(h0, .inr (3, [.ref h1, .ref h3, .int xst, .int xgo, .int xdo, .int xre, .int xkn])), (h1, .inr (2, [.ref h2, .int mz, .int ms, .int mg, .int m0, .int m1])), (h2, .inl (cI, 12, .inl mf)), (h3, .inr (2, [.ref h4, .int z3_1_27, .int z3_2_27, .int z3_3_27, .int z3_4_27, .int z3_5_27])), (h4, .inl (cI, 12, .inl z4_0_27))] H → va_D A [(h0, .inr (3, [.ref h1, .ref h3, .int xst, .int xgo, .int xdo, .int xre, .int xkn])), (h1, .inr (2, [.ref h2, .int mz, .int ms, .int mg, .int m0, .int m1])), (h2, .inl (cI, 12, .inl mf)), (h3, .inr (2, [.ref h4, .int z3_1_27, .int z3_2_27, .int z3_3_27, .int z3_4_27, .int z3_5_27])), (h4, .inl (cI, 12, .inl z4_0_27))] → va_S A s.heap H locs → qX1_isSound_W27 mf mz ms mg m0 m1 v1_2 K27_49 post n27 v2_27 z3_1_27 z3_2_27 z3_3_27 z3_4_27 z3_5_27 z4_0_27 → lv_has ls 3 [(0, .ref h0), (1, .int v1_2), (2, .int v2_27)] → W p l e (headSpec wsX1_isSound ({ frames := 5, cells := 0, slots := 0, locals := 124 })).room s m ([.ref h0] : List Value).toArray below meth c H locs 0 0 (MQ below (va_Qi (fun (r : Int32) (u : Int32 × Int32 × Int32 × Int32 × Int32 × (Nat → Int32)) => post r u.1 u.2.1 u.2.2.1 u.2.2.2.1 u.2.2.2.2.1 u.2.2.2.2.2) (fun (u : Int32 × Int32 × Int32 × Int32 × Int32 × (Nat → Int32)) (t : State) => kE D A [(h0, .inr (3, [.ref h1, .ref h3, .int xst, .int xgo, .int xdo, .int xre, .int xkn])), (h1, .inr (2, [.ref h2, .int mz, .int ms, .int mg, .int m0, .int m1])), (h2, .inl (cI, 12, .inl mf)), (h3, .inr (2, [.ref h4, .int (u.1), .int (u.2.1), .int (u.2.2.1), .int (u.2.2.2.1), .int (u.2.2.2.2.1)])), (h4, .inl (cI, 12, .inl (u.2.2.2.2.2)))] t) A) ([.ref h0] : List Value).toArray s 0 0 A) (F0 m 27 ls []) := by
              intro K27_49 hk27_49
              intro n27
              induction n27 with
              | zero => intro v2_27 z3_1_27 z3_2_27 z3_3_27 z3_4_27 z3_5_27 z4_0_27 H locs ls hP hD hS hv hl; exact hv.elim
              | succ n27 ih27 =>
                intro v2_27 z3_1_27 z3_2_27 z3_3_27 z3_4_27 z3_5_27 z4_0_27 H locs ls hP hD hS hv hl
                refine lv_iload_n hx hb dX1_isSound_27 rfl (lv_at hl 2 rfl) ?_
                refine lv_iconst (v := (2 : Int32)) hx hb dX1_isSound_28 (by decide) ?_
                refine lv_icmp_gt (tgt := 49) hx hb dX1_isSound_29 (by decide) (fun hc => ?_) (fun hc => ?_)
                · have hv := hv.1 hc
                  exact hk27_49 _ _ _ _ _ _ _ _ _ _ hP hD hS hv (lv_sub hl [0, 1, 2] rfl)
                · have hv := hv.2 hc
                  refine lv_aload_n hx hb dX1_isSound_32 rfl (lv_at hl 0 rfl) ?_
                  refine lv_iload_n hx hb dX1_isSound_33 rfl (lv_at hl 2 rfl) ?_
                  refine lv_iload_n hx hb dX1_isSound_34 rfl (lv_at hl 1 rfl) ?_
                  refine kw_i (wr := []) (va_runV (As := [.int v2_27, .int v1_2]) (rest := []) ⟨hx, hb, hml, hown, hts⟩ (kX1_holdsByChoicesW l D cI cB h0 h1 h2 h3 h4 mf mz ms mg m0 m1 z4_0_27 z3_1_27 z3_2_27 z3_3_27 z3_4_27 z3_5_27 xst xgo xdo xre xkn v2_27 v1_2 _ _ hv) (cwV 2 hts gX1_isSound_X1_holdsByChoices rfl rfl rfl (by decide +kernel) ⟨Nat.le_of_ble_eq_true rfl, Nat.le_of_ble_eq_true rfl⟩) ⟨(kPreW (As := [.ref h0, .int v2_27, .int v1_2]) (hP.sub (ws' := [(h0, .inr (3, [.ref h1, .ref h3, .int xst, .int xgo, .int xdo, .int xre, .int xkn])), (h1, .inr (2, [.ref h2, .int mz, .int ms, .int mg, .int m0, .int m1])), (h2, .inl (cI, 12, .inl mf)), (h3, .inr (2, [.ref h4, .int z3_1_27, .int z3_2_27, .int z3_3_27, .int z3_4_27, .int z3_5_27])), (h4, .inl (cI, 12, .inl z4_0_27))]) [0, 1, 2, 3, 4] rfl) (hD.sub (ws' := [(h0, .inr (3, [.ref h1, .ref h3, .int xst, .int xgo, .int xdo, .int xre, .int xkn])), (h1, .inr (2, [.ref h2, .int mz, .int ms, .int mg, .int m0, .int m1])), (h2, .inl (cI, 12, .inl mf)), (h3, .inr (2, [.ref h4, .int z3_1_27, .int z3_2_27, .int z3_3_27, .int z3_4_27, .int z3_5_27])), (h4, .inl (cI, 12, .inl z4_0_27))]) [0, 1, 2, 3, 4] (by decide) rfl) hK hN).1, kRecv (hP.sub (ws' := [(h0, .inr (3, [.ref h1, .ref h3, .int xst, .int xgo, .int xdo, .int xre, .int xkn])), (h1, .inr (2, [.ref h2, .int mz, .int ms, .int mg, .int m0, .int m1])), (h2, .inl (cI, 12, .inl mf)), (h3, .inr (2, [.ref h4, .int z3_1_27, .int z3_2_27, .int z3_3_27, .int z3_4_27, .int z3_5_27])), (h4, .inl (cI, 12, .inl z4_0_27))]) [0, 1, 2, 3, 4] rfl) hK 3 rfl rfl rfl, (kPreW (As := [.ref h0, .int v2_27, .int v1_2]) (hP.sub (ws' := [(h0, .inr (3, [.ref h1, .ref h3, .int xst, .int xgo, .int xdo, .int xre, .int xkn])), (h1, .inr (2, [.ref h2, .int mz, .int ms, .int mg, .int m0, .int m1])), (h2, .inl (cI, 12, .inl mf)), (h3, .inr (2, [.ref h4, .int z3_1_27, .int z3_2_27, .int z3_3_27, .int z3_4_27, .int z3_5_27])), (h4, .inl (cI, 12, .inl z4_0_27))]) [0, 1, 2, 3, 4] rfl) (hD.sub (ws' := [(h0, .inr (3, [.ref h1, .ref h3, .int xst, .int xgo, .int xdo, .int xre, .int xkn])), (h1, .inr (2, [.ref h2, .int mz, .int ms, .int mg, .int m0, .int m1])), (h2, .inl (cI, 12, .inl mf)), (h3, .inr (2, [.ref h4, .int z3_1_27, .int z3_2_27, .int z3_3_27, .int z3_4_27, .int z3_5_27])), (h4, .inl (cI, 12, .inl z4_0_27))]) [0, 1, 2, 3, 4] (by decide) rfl) hK hN).2⟩ rfl rfl hl.1 rfl (lv_room (Nat.le_of_ble_eq_true rfl)) dX1_isSound_35 ⟨Nat.le_of_ble_eq_true rfl, Nat.le_of_ble_eq_true rfl⟩) hP hD hS hA [0, 1, 2, 3, 4] [] rfl rfl (by decide) (by decide) (fun r35 u H locs hv hP hD hS => ?_)
                  obtain ⟨x35_0, x35_1, x35_2, x35_3, x35_4, x35_5⟩ := u
                  have hP : va_P D vwCl [(h0, .inr (3, [.ref h1, .ref h3, .int xst, .int xgo, .int xdo, .int xre, .int xkn])), (h1, .inr (2, [.ref h2, .int mz, .int ms, .int mg, .int m0, .int m1])), (h2, .inl (cI, 12, .inl mf)), (h3, .inr (2, [.ref h4, .int x35_0, .int x35_1, .int x35_2, .int x35_3, .int x35_4])), (h4, .inl (cI, 12, .inl x35_5))] H := hP.sub [0, 1, 2, 3, 4] rfl
                  have hD : va_D A [(h0, .inr (3, [.ref h1, .ref h3, .int xst, .int xgo, .int xdo, .int xre, .int xkn])), (h1, .inr (2, [.ref h2, .int mz, .int ms, .int mg, .int m0, .int m1])), (h2, .inl (cI, 12, .inl mf)), (h3, .inr (2, [.ref h4, .int x35_0, .int x35_1, .int x35_2, .int x35_3, .int x35_4])), (h4, .inl (cI, 12, .inl x35_5))] := hD.sub [0, 1, 2, 3, 4] (by decide) rfl
                  refine lv_if_ne (tgt := 43) hx hb dX1_isSound_38 (by decide) (fun hc => ?_) (fun hc => ?_)
                  · have hv := hv.1 hc
                    refine lv_iinc (v := (v2_27 + (1 : Int32))) (lv' := [(2, .int (v2_27 + (1 : Int32))), (0, .ref h0), (1, .int v1_2)]) hx hb dX1_isSound_43 hl (k := 2) rfl rfl (by decide) rfl (fun ls hl => ?_)
                    refine lv_goto (tgt := 27) hx hb dX1_isSound_46 (by decide) ?_
                    exact ih27 _ _ _ _ _ _ _ _ _ _ hP hD hS hv (lv_sub hl [1, 2, 0] rfl)
                  · have hv := hv.2 hc
                    refine lv_iconst (v := (0 : Int32)) hx hb dX1_isSound_41 (by decide) ?_
                    refine W.widen (k := 0) (n := 0) (Nat.le_of_ble_eq_true rfl) (Nat.le_of_ble_eq_true rfl) ?_
                    exact W.zret (v := (0 : Int32)) (ty := .boolean) hx hb hr rfl (kWi_ret (u := (x35_0, x35_1, x35_2, x35_3, x35_4, x35_5)) hv hP hD hS) hS.2.2 dX1_isSound_42
            obtain ⟨n27, hv⟩ := hv
            refine L27 _ (fun v2_27x z3_1_27x z3_2_27x z3_3_27x z3_4_27x z3_5_27x z4_0_27x H locs ls hP hD hS hv hl => ?_) n27 _ _ _ _ _ _ _ _ _ _ hP hD hS hv (lv_sub hl [1, 2, 0] rfl)
            refine lv_iinc (v := (v1_2 + (1 : Int32))) (lv' := [(1, .int (v1_2 + (1 : Int32))), (0, .ref h0), (2, .int v2_27x)]) hx hb dX1_isSound_49 hl (k := 1) rfl rfl (by decide) rfl (fun ls hl => ?_)
            refine lv_goto (tgt := 2) hx hb dX1_isSound_52 (by decide) ?_
            exact ih2 _ _ _ _ _ _ _ _ _ _ hP hD hS hv (lv_sub hl [1, 0] rfl)
          · have hv := hv.2 hc
            refine lv_iconst (v := (0 : Int32)) hx hb dX1_isSound_23 (by decide) ?_
            refine W.widen (k := 0) (n := 0) (Nat.le_of_ble_eq_true rfl) (Nat.le_of_ble_eq_true rfl) ?_
            exact W.zret (v := (0 : Int32)) (ty := .boolean) hx hb hr rfl (kWi_ret (u := (z3_1_2, z3_2_2, z3_3_2, z3_4_2, z3_5_2, z4_0_2)) hv hP hD hS) hS.2.2 dX1_isSound_24
  obtain ⟨n2, hv⟩ := hv
  refine L2 _ (fun v1_2x z3_1_2x z3_2_2x z3_3_2x z3_4_2x z3_5_2x z4_0_2x H locs ls hP hD hS hv hl => ?_) n2 _ _ _ _ _ _ _ _ _ _ hP hD hS hv (lv_sub hl [1, 0] rfl)
  refine lv_aload_n hx hb dX1_isSound_55 rfl (lv_at hl 0 rfl) ?_
  refine kc_V (As := []) (rest := []) ⟨hx, hb, hml, hown, hts⟩ (kX1_isRankedSound l D cI cB h0 h1 h2 h3 h4 mf mz ms mg m0 m1 z4_0_2x z3_1_2x z3_2_2x z3_3_2x z3_4_2x z3_5_2x xst xgo xdo xre xkn _ hv) (cwV 0 hts gX1_isSound_X1_isRankedSound rfl rfl rfl (by decide +kernel) ⟨Nat.le_of_ble_eq_true rfl, Nat.le_of_ble_eq_true rfl⟩) hP hK hN 3 rfl rfl rfl rfl hl.1 rfl (Nat.le_of_ble_eq_true rfl) dX1_isSound_56 ⟨Nat.le_of_ble_eq_true rfl, Nat.le_of_ble_eq_true rfl⟩ (fun r56 hv => ?_)
  refine W.widen (k := 0) (n := 0) (Nat.le_of_ble_eq_true rfl) (Nat.le_of_ble_eq_true rfl) ?_
  exact W.zret (v := r56) (ty := .boolean) hx hb hr hv.1 (kWi_ret (u := (z3_1_2x, z3_2_2x, z3_3_2x, z3_4_2x, z3_5_2x, z4_0_2x)) hv.2 hP hD hS) hS.2.2 dX1_isSound_59
set_option maxHeartbeats 4000000 in
set_option maxRecDepth 100000 in
theorem kX1_checkBetweenT (l : Launch) (D : va_G) (cI cB : ClassId)   (a0 : Int32) (a1 : Int32) (a2 : Int32) (sz : Nat) (post : Prop) (px : String → Prop) (hst : l.stackTraces = false) (hv : qX1_checkBetweenT a0 a1 a2 post px) : vx_Met l yX1_checkBetween wsX1_checkBetween ({ frames := 6, cells := 1, slots := 6, locals := 82 }) (va_Pc [.int a0, .int a1, .int a2] (kBX D cI cB sz [])) (va_Qv (fun (u : Unit) => post) (fun (u : Unit) (t : State) => kE D (va_A [] sz) [] t) (va_A [] sz)) (kXC D [] (va_A [] sz) px) 1 6 (va_A [] sz) := by
  refine vx_ofW (cc := cX1_checkBetween) (maxL := 3) (ret := none) (by decide) rfl ?_
  intro p e s m args below meth c s₁ B hml hTb hv0
  obtain ⟨rfl, ⟨hsz, ⟨hP, hK, hN⟩, hD0⟩, hX⟩ := hv0
  have hx := B.exec
  have hb := B.bytes
  have hr := B.returns
  have hts := atoms_spec (ws := wsX1_checkBetween) B.pre
  have hown : s.vm.findClass RX1 = some m.cls := findClass_of_methodNamed B.named
  have hlocks := B.notSynchronized
  have hg_IA : ∀ w ∈ (vx_atS RX1 230 kIA kNm).filter goodWord, w ∈ wsX1_checkBetween := by decide +kernel
  subst hsz
  have hD := hD0.self (sz := s.heap.size)
  generalize hAe : va_A [] s.heap.size = A at hD hX ⊢
  have hA : ∀ q : Nat, s.heap.size ≤ q → A q := fun q h => by rw [← hAe]; exact Or.inr h
  have hS : va_S A s.heap s.heap [] := va_S.rf
  have hl := lv_entry ([.int a0, .int a1, .int a2]) (n := 3) (Nat.le_of_ble_eq_true rfl)
  rw [lg_entry_eq]
  generalize (lg_sl ([.int a0, .int a1, .int a2]) ++ List.replicate (3 - (lg_sl ([.int a0, .int a1, .int a2])).length) Slot.unset).toArray = ls at hl ⊢
  have hl : lv_has ls 3 [(0, .int a0), (1, .int a1), (2, .int a2)] := hl
  refine lv_iload_n hx hb dX1_checkBetween_0 rfl (lv_at hl 0 rfl) ?_
  refine lv_iload_n hx hb dX1_checkBetween_1 rfl (lv_at hl 1 rfl) ?_
  refine lv_icmp_lt (tgt := 10) hx hb dX1_checkBetween_2 (by decide) (fun hc => ?_) (fun hc => ?_)
  · have hv := hv.1 hc
    obtain ⟨sa, hsa⟩ := hX.2.2.1
    exact vx_throwS (cls := kIA) (names := kNm) hx hb hst hown (by decide +kernel) (by decide +kernel) (hts (.classLink RX1 226 kIA) (by decide +kernel)) (hts (.initialized kIA) (by decide +kernel)) hsa (vx_hat (fun w h => hts w (hg_IA w h)) kXl_ia (fun w h => va_Nw.use (kXl_tab w h) (hX.2.2.2.2 w h))) kXg_ia hX.1 hX.2.1 hS (by rw [hml]; exact hl.1) dX1_checkBetween_10 dX1_checkBetween_13 dX1_checkBetween_14 dX1_checkBetween_16 dX1_checkBetween_19 (fun x hx => (hTb x hx).elim) (Nat.le_of_ble_eq_true rfl) (Nat.le_of_ble_eq_true rfl) (Nat.le_of_ble_eq_true rfl) (Nat.le_of_ble_eq_true rfl) hlocks (fun t hvm hz hk => ⟨(), trivial, ⟨hv, fun k q h => (hP k q h).kept (hk _ ((hP k q h).lt)), hD⟩, ⟨Nat.le_trans hS.1 hz, fun q h1 h2 => (hk q (Nat.lt_of_lt_of_le h1 hS.1)).trans (hS.2.1 q h1 h2)⟩⟩) hS.2.2 (Nat.le_of_ble_eq_true rfl) (Nat.le_of_ble_eq_true rfl)
  · have hv := hv.2 hc
    refine lv_iload_n hx hb dX1_checkBetween_5 rfl (lv_at hl 0 rfl) ?_
    refine lv_iload_n hx hb dX1_checkBetween_6 rfl (lv_at hl 2 rfl) ?_
    refine lv_icmp_le (tgt := 20) hx hb dX1_checkBetween_7 (by decide) (fun hc => ?_) (fun hc => ?_)
    · have hv := hv.1 hc
      refine W.widen (k := 1) (n := 6) (Nat.le_of_ble_eq_true rfl) (Nat.le_of_ble_eq_true rfl) ?_
      refine vx_ret ?_
      exact W.vret hx hb hr (kWv_ret (u := ()) hv hP hD hS) hS.2.2 dX1_checkBetween_20
    · have hv := hv.2 hc
      obtain ⟨sa, hsa⟩ := hX.2.2.1
      exact vx_throwS (cls := kIA) (names := kNm) hx hb hst hown (by decide +kernel) (by decide +kernel) (hts (.classLink RX1 226 kIA) (by decide +kernel)) (hts (.initialized kIA) (by decide +kernel)) hsa (vx_hat (fun w h => hts w (hg_IA w h)) kXl_ia (fun w h => va_Nw.use (kXl_tab w h) (hX.2.2.2.2 w h))) kXg_ia hX.1 hX.2.1 hS (by rw [hml]; exact hl.1) dX1_checkBetween_10 dX1_checkBetween_13 dX1_checkBetween_14 dX1_checkBetween_16 dX1_checkBetween_19 (fun x hx => (hTb x hx).elim) (Nat.le_of_ble_eq_true rfl) (Nat.le_of_ble_eq_true rfl) (Nat.le_of_ble_eq_true rfl) (Nat.le_of_ble_eq_true rfl) hlocks (fun t hvm hz hk => ⟨(), trivial, ⟨hv, fun k q h => (hP k q h).kept (hk _ ((hP k q h).lt)), hD⟩, ⟨Nat.le_trans hS.1 hz, fun q h1 h2 => (hk q (Nat.lt_of_lt_of_le h1 hS.1)).trans (hS.2.1 q h1 h2)⟩⟩) hS.2.2 (Nat.le_of_ble_eq_true rfl) (Nat.le_of_ble_eq_true rfl)
set_option maxHeartbeats 4000000 in
set_option maxRecDepth 100000 in
theorem kX1_checkSideT (l : Launch) (D : va_G) (cI cB : ClassId)   (a0 : Int32) (sz : Nat) (post : Prop) (px : String → Prop) (hst : l.stackTraces = false) (hv : qX1_checkSideT a0 post px) : vx_Met l yX1_checkSide wsX1_checkSide ({ frames := 7, cells := 1, slots := 6, locals := 104 }) (va_Pc [.int a0] (kBX D cI cB sz [])) (va_Qv (fun (u : Unit) => post) (fun (u : Unit) (t : State) => kE D (va_A [] sz) [] t) (va_A [] sz)) (kXC D [] (va_A [] sz) px) 1 6 (va_A [] sz) := by
  refine vx_ofW (cc := cX1_checkSide) (maxL := 1) (ret := none) (by decide) rfl ?_
  intro p e s m args below meth c s₁ B hml hTb hv0
  obtain ⟨rfl, ⟨hsz, ⟨hP, hK, hN⟩, hD0⟩, hX⟩ := hv0
  have hx := B.exec
  have hb := B.bytes
  have hr := B.returns
  have hts := atoms_spec (ws := wsX1_checkSide) B.pre
  have hown : s.vm.findClass RX1 = some m.cls := findClass_of_methodNamed B.named
  have hlocks := B.notSynchronized
  subst hsz
  have hD := hD0.self (sz := s.heap.size)
  generalize hAe : va_A [] s.heap.size = A at hD hX ⊢
  have hA : ∀ q : Nat, s.heap.size ≤ q → A q := fun q h => by rw [← hAe]; exact Or.inr h
  have hS : va_S A s.heap s.heap [] := va_S.rf
  have hl := lv_entry ([.int a0]) (n := 1) (Nat.le_of_ble_eq_true rfl)
  rw [lg_entry_eq]
  generalize (lg_sl ([.int a0]) ++ List.replicate (1 - (lg_sl ([.int a0])).length) Slot.unset).toArray = ls at hl ⊢
  have hl : lv_has ls 1 [(0, .int a0)] := hl
  refine lv_iload_n hx hb dX1_checkSide_0 rfl (lv_at hl 0 rfl) ?_
  refine lv_iconst (v := (0 : Int32)) hx hb dX1_checkSide_1 (by decide) ?_
  refine lv_iconst (v := (1 : Int32)) hx hb dX1_checkSide_2 (by decide) ?_
  refine kt_v (wr := []) (vx_runS (As := [.int a0, .int (0 : Int32), .int (1 : Int32)]) (rest := []) ⟨hx, hb, hml, hown, hts⟩ (kX1_checkBetweenT l D cI cB a0 (0 : Int32) (1 : Int32) _ _ px hst hv) (va_cwS 3 hts gX1_checkSide_X1_checkBetween rfl rfl rfl (by decide +kernel) ⟨Nat.le_of_ble_eq_true rfl, Nat.le_of_ble_eq_true rfl⟩) (kPreX (As := [.int a0, .int (0 : Int32), .int (1 : Int32)]) (hP.sub (ws' := []) [] rfl) (hD.sub (ws' := []) [] (by decide) rfl) hK hN hX hS (va_free hD hS hA [] rfl)) rfl rfl hl.1 rfl (lv_room (Nat.le_of_ble_eq_true rfl)) dX1_checkSide_3 ⟨Nat.le_of_ble_eq_true rfl, Nat.le_of_ble_eq_true rfl⟩) hP hD hS hA [] [] rfl rfl (by decide) (by decide) (fun E ce q9 H locs hpx hP hD hS g1 g2 g3 => ?_) (fun u H locs hv hP hD hS => ?_)
  · have hP : va_P D vwCl [] H := hP.sub [] rfl
    have hD : va_D A [] := hD.sub [] (by decide) rfl
    exact kx_out hTb hlocks hpx hP hD hS g1 g2 g3 (Nat.le_of_ble_eq_true rfl) (Nat.le_of_ble_eq_true rfl)
  · have hP : va_P D vwCl [] H := hP.sub [] rfl
    have hD : va_D A [] := hD.sub [] (by decide) rfl
    refine W.widen (k := 1) (n := 6) (Nat.le_of_ble_eq_true rfl) (Nat.le_of_ble_eq_true rfl) ?_
    refine W.widen (k := 1) (n := 6) (Nat.le_of_ble_eq_true rfl) (Nat.le_of_ble_eq_true rfl) ?_
    refine vx_ret ?_
    exact W.vret hx hb hr (kWv_ret (u := ()) hv hP hD hS) hS.2.2 dX1_checkSide_6
set_option maxHeartbeats 4000000 in
set_option maxRecDepth 100000 in
theorem kX1_checkPlaceT (l : Launch) (D : va_G) (cI cB : ClassId) (h0 : Nat) (h1 : Nat) (h2 : Nat) (h3 : Nat) (h4 : Nat) (mf : Nat → Int32) (mz : Int32) (ms : Int32) (mg : Int32) (m0 : Int32) (m1 : Int32) (tf : Nat → Int32) (tz : Int32) (ts : Int32) (tg : Int32) (t0 : Int32) (t1 : Int32) (xst : Int32) (xgo : Int32) (xdo : Int32) (xre : Int32) (xkn : Int32) (a1 : Int32) (sz : Nat) (post : Prop) (px : String → Prop) (hst : l.stackTraces = false) (hv : qX1_checkPlaceT mz a1 post px) : vx_Met l yX1_checkPlace wsX1_checkPlace ({ frames := 6, cells := 1, slots := 6, locals := 82 }) (va_Pc [.ref h0, .int a1] (kBX D cI cB sz [(h0, .inr (3, [.ref h1, .ref h3, .int xst, .int xgo, .int xdo, .int xre, .int xkn])), (h1, .inr (2, [.ref h2, .int mz, .int ms, .int mg, .int m0, .int m1])), (h2, .inl (cI, 12, .inl mf)), (h3, .inr (2, [.ref h4, .int tz, .int ts, .int tg, .int t0, .int t1])), (h4, .inl (cI, 12, .inl tf))])) (va_Qv (fun (u : Unit) => post) (fun (u : Unit) (t : State) => kE D (va_A [(h0, .inr (3, [.ref h1, .ref h3, .int xst, .int xgo, .int xdo, .int xre, .int xkn])), (h1, .inr (2, [.ref h2, .int mz, .int ms, .int mg, .int m0, .int m1])), (h2, .inl (cI, 12, .inl mf)), (h3, .inr (2, [.ref h4, .int tz, .int ts, .int tg, .int t0, .int t1])), (h4, .inl (cI, 12, .inl tf))] sz) [(h0, .inr (3, [.ref h1, .ref h3, .int xst, .int xgo, .int xdo, .int xre, .int xkn])), (h1, .inr (2, [.ref h2, .int mz, .int ms, .int mg, .int m0, .int m1])), (h2, .inl (cI, 12, .inl mf)), (h3, .inr (2, [.ref h4, .int tz, .int ts, .int tg, .int t0, .int t1])), (h4, .inl (cI, 12, .inl tf))] t) (va_A [(h0, .inr (3, [.ref h1, .ref h3, .int xst, .int xgo, .int xdo, .int xre, .int xkn])), (h1, .inr (2, [.ref h2, .int mz, .int ms, .int mg, .int m0, .int m1])), (h2, .inl (cI, 12, .inl mf)), (h3, .inr (2, [.ref h4, .int tz, .int ts, .int tg, .int t0, .int t1])), (h4, .inl (cI, 12, .inl tf))] sz)) (kXC D [(h0, .inr (3, [.ref h1, .ref h3, .int xst, .int xgo, .int xdo, .int xre, .int xkn])), (h1, .inr (2, [.ref h2, .int mz, .int ms, .int mg, .int m0, .int m1])), (h2, .inl (cI, 12, .inl mf)), (h3, .inr (2, [.ref h4, .int tz, .int ts, .int tg, .int t0, .int t1])), (h4, .inl (cI, 12, .inl tf))] (va_A [(h0, .inr (3, [.ref h1, .ref h3, .int xst, .int xgo, .int xdo, .int xre, .int xkn])), (h1, .inr (2, [.ref h2, .int mz, .int ms, .int mg, .int m0, .int m1])), (h2, .inl (cI, 12, .inl mf)), (h3, .inr (2, [.ref h4, .int tz, .int ts, .int tg, .int t0, .int t1])), (h4, .inl (cI, 12, .inl tf))] sz) px) 1 6 (va_A [(h0, .inr (3, [.ref h1, .ref h3, .int xst, .int xgo, .int xdo, .int xre, .int xkn])), (h1, .inr (2, [.ref h2, .int mz, .int ms, .int mg, .int m0, .int m1])), (h2, .inl (cI, 12, .inl mf)), (h3, .inr (2, [.ref h4, .int tz, .int ts, .int tg, .int t0, .int t1])), (h4, .inl (cI, 12, .inl tf))] sz) := by
  refine vx_ofW (cc := cX1_checkPlace) (maxL := 2) (ret := none) (by decide) rfl ?_
  intro p e s m args below meth c s₁ B hml hTb hv0
  obtain ⟨rfl, ⟨hsz, ⟨hP, hK, hN⟩, hD0⟩, hX⟩ := hv0
  have hx := B.exec
  have hb := B.bytes
  have hr := B.returns
  have hts := atoms_spec (ws := wsX1_checkPlace) B.pre
  have hown : s.vm.findClass RX1 = some m.cls := findClass_of_methodNamed B.named
  have hlocks := B.notSynchronized
  have hi_X0 : ∀ w ∈ wsX00, w ∈ wsX1_checkPlace := by decide +kernel
  have hi_X1 : ∀ w ∈ wsX10, w ∈ wsX1_checkPlace := by decide +kernel
  have hF10 := hts (.fieldLink RX1 10 "Roadgame" "map" "LRoadgame$Chart;") (by decide +kernel)
  have hg_IO : ∀ w ∈ (vx_atS RX1 223 kIO kNm).filter goodWord, w ∈ wsX1_checkPlace := by decide +kernel
  subst hsz
  have hD := hD0.self (sz := s.heap.size)
  generalize hAe : va_A [(h0, .inr (3, [.ref h1, .ref h3, .int xst, .int xgo, .int xdo, .int xre, .int xkn])), (h1, .inr (2, [.ref h2, .int mz, .int ms, .int mg, .int m0, .int m1])), (h2, .inl (cI, 12, .inl mf)), (h3, .inr (2, [.ref h4, .int tz, .int ts, .int tg, .int t0, .int t1])), (h4, .inl (cI, 12, .inl tf))] s.heap.size = A at hD hX ⊢
  have hA : ∀ q : Nat, s.heap.size ≤ q → A q := fun q h => by rw [← hAe]; exact Or.inr h
  have hS : va_S A s.heap s.heap [] := va_S.rf
  have hl := lv_entry ([.ref h0, .int a1]) (n := 2) (Nat.le_of_ble_eq_true rfl)
  rw [lg_entry_eq]
  generalize (lg_sl ([.ref h0, .int a1]) ++ List.replicate (2 - (lg_sl ([.ref h0, .int a1])).length) Slot.unset).toArray = ls at hl ⊢
  have hl : lv_has ls 2 [(0, .ref h0), (1, .int a1)] := hl
  refine lv_iload_n hx hb dX1_checkPlace_0 rfl (lv_at hl 1 rfl) ?_
  refine lv_if_lt (tgt := 15) hx hb dX1_checkPlace_1 (by decide) (fun hc => ?_) (fun hc => ?_)
  · have hv := hv.1 hc
    obtain ⟨sa, hsa⟩ := hX.2.2.2.1
    exact vx_throwS (cls := kIO) (names := kNm) hx hb hst hown (by decide +kernel) (by decide +kernel) (hts (.classLink RX1 219 kIO) (by decide +kernel)) (hts (.initialized kIO) (by decide +kernel)) hsa (vx_hat (fun w h => hts w (hg_IO w h)) kXl_io (fun w h => va_Nw.use (kXl_tab w h) (hX.2.2.2.2 w h))) kXg_io hX.1 hX.2.1 hS (by rw [hml]; exact hl.1) dX1_checkPlace_15 dX1_checkPlace_18 dX1_checkPlace_19 dX1_checkPlace_21 dX1_checkPlace_24 (fun x hx => (hTb x hx).elim) (Nat.le_of_ble_eq_true rfl) (Nat.le_of_ble_eq_true rfl) (Nat.le_of_ble_eq_true rfl) (Nat.le_of_ble_eq_true rfl) hlocks (fun t hvm hz hk => ⟨(), trivial, ⟨hv, fun k q h => (hP k q h).kept (hk _ ((hP k q h).lt)), hD⟩, ⟨Nat.le_trans hS.1 hz, fun q h1 h2 => (hk q (Nat.lt_of_lt_of_le h1 hS.1)).trans (hS.2.1 q h1 h2)⟩⟩) hS.2.2 (Nat.le_of_ble_eq_true rfl) (Nat.le_of_ble_eq_true rfl)
  · have hv := hv.2 hc
    refine lv_iload_n hx hb dX1_checkPlace_4 rfl (lv_at hl 1 rfl) ?_
    refine lv_aload_n hx hb dX1_checkPlace_5 rfl (lv_at hl 0 rfl) ?_
    refine va_get (D := D) (ci := 3) (v := .ref h1) (C := RX1) (T := TX1) (N := 7) hx hb hts hi_X1 hown hK hP 0 rfl rfl 0 (by decide) hF10 (fun _ h9 => h9) rfl dX1_checkPlace_6 ?_
    refine va_getN (D := D) (ci := 2) (v := .int mz) (C := RX0) (T := TX0) (N := 6) (host := "Roadgame") hx hb hts hi_X0 hown hK hP 1 rfl rfl 1 (by decide) (va_Nw.use rfl hN.1) (fun _ h9 => h9) rfl dX1_checkPlace_9 ?_
    refine lv_icmp_lt (tgt := 25) hx hb dX1_checkPlace_12 (by decide) (fun hc => ?_) (fun hc => ?_)
    · have hv := hv.1 hc
      refine W.widen (k := 1) (n := 6) (Nat.le_of_ble_eq_true rfl) (Nat.le_of_ble_eq_true rfl) ?_
      refine vx_ret ?_
      exact W.vret hx hb hr (kWv_ret (u := ()) hv hP hD hS) hS.2.2 dX1_checkPlace_25
    · have hv := hv.2 hc
      obtain ⟨sa, hsa⟩ := hX.2.2.2.1
      exact vx_throwS (cls := kIO) (names := kNm) hx hb hst hown (by decide +kernel) (by decide +kernel) (hts (.classLink RX1 219 kIO) (by decide +kernel)) (hts (.initialized kIO) (by decide +kernel)) hsa (vx_hat (fun w h => hts w (hg_IO w h)) kXl_io (fun w h => va_Nw.use (kXl_tab w h) (hX.2.2.2.2 w h))) kXg_io hX.1 hX.2.1 hS (by rw [hml]; exact hl.1) dX1_checkPlace_15 dX1_checkPlace_18 dX1_checkPlace_19 dX1_checkPlace_21 dX1_checkPlace_24 (fun x hx => (hTb x hx).elim) (Nat.le_of_ble_eq_true rfl) (Nat.le_of_ble_eq_true rfl) (Nat.le_of_ble_eq_true rfl) (Nat.le_of_ble_eq_true rfl) hlocks (fun t hvm hz hk => ⟨(), trivial, ⟨hv, fun k q h => (hP k q h).kept (hk _ ((hP k q h).lt)), hD⟩, ⟨Nat.le_trans hS.1 hz, fun q h1 h2 => (hk q (Nat.lt_of_lt_of_le h1 hS.1)).trans (hS.2.1 q h1 h2)⟩⟩) hS.2.2 (Nat.le_of_ble_eq_true rfl) (Nat.le_of_ble_eq_true rfl)
set_option maxHeartbeats 4000000 in
set_option maxRecDepth 100000 in
theorem kX1_checkSetT (l : Launch) (D : va_G) (cI cB : ClassId) (h0 : Nat) (h1 : Nat) (h2 : Nat) (h3 : Nat) (h4 : Nat) (mf : Nat → Int32) (mz : Int32) (ms : Int32) (mg : Int32) (m0 : Int32) (m1 : Int32) (tf : Nat → Int32) (tz : Int32) (ts : Int32) (tg : Int32) (t0 : Int32) (t1 : Int32) (xst : Int32) (xgo : Int32) (xdo : Int32) (xre : Int32) (xkn : Int32) (a1 : Int32) (sz : Nat) (post : Prop) (px : String → Prop) (hst : l.stackTraces = false) (hv : qX1_checkSetT mz a1 post px) : vx_Met l yX1_checkSet wsX1_checkSet ({ frames := 7, cells := 1, slots := 6, locals := 104 }) (va_Pc [.ref h0, .int a1] (kBX D cI cB sz [(h0, .inr (3, [.ref h1, .ref h3, .int xst, .int xgo, .int xdo, .int xre, .int xkn])), (h1, .inr (2, [.ref h2, .int mz, .int ms, .int mg, .int m0, .int m1])), (h2, .inl (cI, 12, .inl mf)), (h3, .inr (2, [.ref h4, .int tz, .int ts, .int tg, .int t0, .int t1])), (h4, .inl (cI, 12, .inl tf))])) (va_Qv (fun (u : Unit) => post) (fun (u : Unit) (t : State) => kE D (va_A [(h0, .inr (3, [.ref h1, .ref h3, .int xst, .int xgo, .int xdo, .int xre, .int xkn])), (h1, .inr (2, [.ref h2, .int mz, .int ms, .int mg, .int m0, .int m1])), (h2, .inl (cI, 12, .inl mf)), (h3, .inr (2, [.ref h4, .int tz, .int ts, .int tg, .int t0, .int t1])), (h4, .inl (cI, 12, .inl tf))] sz) [(h0, .inr (3, [.ref h1, .ref h3, .int xst, .int xgo, .int xdo, .int xre, .int xkn])), (h1, .inr (2, [.ref h2, .int mz, .int ms, .int mg, .int m0, .int m1])), (h2, .inl (cI, 12, .inl mf)), (h3, .inr (2, [.ref h4, .int tz, .int ts, .int tg, .int t0, .int t1])), (h4, .inl (cI, 12, .inl tf))] t) (va_A [(h0, .inr (3, [.ref h1, .ref h3, .int xst, .int xgo, .int xdo, .int xre, .int xkn])), (h1, .inr (2, [.ref h2, .int mz, .int ms, .int mg, .int m0, .int m1])), (h2, .inl (cI, 12, .inl mf)), (h3, .inr (2, [.ref h4, .int tz, .int ts, .int tg, .int t0, .int t1])), (h4, .inl (cI, 12, .inl tf))] sz)) (kXC D [(h0, .inr (3, [.ref h1, .ref h3, .int xst, .int xgo, .int xdo, .int xre, .int xkn])), (h1, .inr (2, [.ref h2, .int mz, .int ms, .int mg, .int m0, .int m1])), (h2, .inl (cI, 12, .inl mf)), (h3, .inr (2, [.ref h4, .int tz, .int ts, .int tg, .int t0, .int t1])), (h4, .inl (cI, 12, .inl tf))] (va_A [(h0, .inr (3, [.ref h1, .ref h3, .int xst, .int xgo, .int xdo, .int xre, .int xkn])), (h1, .inr (2, [.ref h2, .int mz, .int ms, .int mg, .int m0, .int m1])), (h2, .inl (cI, 12, .inl mf)), (h3, .inr (2, [.ref h4, .int tz, .int ts, .int tg, .int t0, .int t1])), (h4, .inl (cI, 12, .inl tf))] sz) px) 1 6 (va_A [(h0, .inr (3, [.ref h1, .ref h3, .int xst, .int xgo, .int xdo, .int xre, .int xkn])), (h1, .inr (2, [.ref h2, .int mz, .int ms, .int mg, .int m0, .int m1])), (h2, .inl (cI, 12, .inl mf)), (h3, .inr (2, [.ref h4, .int tz, .int ts, .int tg, .int t0, .int t1])), (h4, .inl (cI, 12, .inl tf))] sz) := by
  refine vx_ofW (cc := cX1_checkSet) (maxL := 2) (ret := none) (by decide) rfl ?_
  intro p e s m args below meth c s₁ B hml hTb hv0
  obtain ⟨rfl, ⟨hsz, ⟨hP, hK, hN⟩, hD0⟩, hX⟩ := hv0
  have hx := B.exec
  have hb := B.bytes
  have hr := B.returns
  have hts := atoms_spec (ws := wsX1_checkSet) B.pre
  have hown : s.vm.findClass RX1 = some m.cls := findClass_of_methodNamed B.named
  have hlocks := B.notSynchronized
  have hi_X1 : ∀ w ∈ wsX10, w ∈ wsX1_checkSet := by decide +kernel
  have hF10 := hts (.fieldLink RX1 10 "Roadgame" "map" "LRoadgame$Chart;") (by decide +kernel)
  subst hsz
  have hD := hD0.self (sz := s.heap.size)
  generalize hAe : va_A [(h0, .inr (3, [.ref h1, .ref h3, .int xst, .int xgo, .int xdo, .int xre, .int xkn])), (h1, .inr (2, [.ref h2, .int mz, .int ms, .int mg, .int m0, .int m1])), (h2, .inl (cI, 12, .inl mf)), (h3, .inr (2, [.ref h4, .int tz, .int ts, .int tg, .int t0, .int t1])), (h4, .inl (cI, 12, .inl tf))] s.heap.size = A at hD hX ⊢
  have hA : ∀ q : Nat, s.heap.size ≤ q → A q := fun q h => by rw [← hAe]; exact Or.inr h
  have hS : va_S A s.heap s.heap [] := va_S.rf
  have hl := lv_entry ([.ref h0, .int a1]) (n := 2) (Nat.le_of_ble_eq_true rfl)
  rw [lg_entry_eq]
  generalize (lg_sl ([.ref h0, .int a1]) ++ List.replicate (2 - (lg_sl ([.ref h0, .int a1])).length) Slot.unset).toArray = ls at hl ⊢
  have hl : lv_has ls 2 [(0, .ref h0), (1, .int a1)] := hl
  refine lv_iload_n hx hb dX1_checkSet_0 rfl (lv_at hl 1 rfl) ?_
  refine lv_iconst (v := (0 : Int32)) hx hb dX1_checkSet_1 (by decide) ?_
  refine lv_aload_n hx hb dX1_checkSet_2 rfl (lv_at hl 0 rfl) ?_
  refine va_get (D := D) (ci := 3) (v := .ref h1) (C := RX1) (T := TX1) (N := 7) hx hb hts hi_X1 hown hK hP 0 rfl rfl 0 (by decide) hF10 (fun _ h9 => h9) rfl dX1_checkSet_3 ?_
  refine kc_V (As := []) (rest := [.int (0 : Int32), .int a1]) ⟨hx, hb, hml, hown, hts⟩ (kX0_all l D cI cB h1 h2 mf mz ms mg m0 m1 _ hv) (cwV 0 hts gX1_checkSet_X0_all rfl rfl rfl (by decide +kernel) ⟨Nat.le_of_ble_eq_true rfl, Nat.le_of_ble_eq_true rfl⟩) (hP.sub (ws' := [(h1, .inr (2, [.ref h2, .int mz, .int ms, .int mg, .int m0, .int m1])), (h2, .inl (cI, 12, .inl mf))]) [1, 2] rfl) hK hN 2 rfl rfl rfl rfl hl.1 rfl (Nat.le_of_ble_eq_true rfl) dX1_checkSet_6 ⟨Nat.le_of_ble_eq_true rfl, Nat.le_of_ble_eq_true rfl⟩ (fun r6 hv => ?_)
  refine kt_v (wr := [(h0, .inr (3, [.ref h1, .ref h3, .int xst, .int xgo, .int xdo, .int xre, .int xkn])), (h1, .inr (2, [.ref h2, .int mz, .int ms, .int mg, .int m0, .int m1])), (h2, .inl (cI, 12, .inl mf)), (h3, .inr (2, [.ref h4, .int tz, .int ts, .int tg, .int t0, .int t1])), (h4, .inl (cI, 12, .inl tf))]) (vx_runS (As := [.int a1, .int (0 : Int32), .int r6]) (rest := []) ⟨hx, hb, hml, hown, hts⟩ (kX1_checkBetweenT l D cI cB a1 (0 : Int32) r6 _ _ px hst hv) (va_cwS 3 hts gX1_checkSet_X1_checkBetween rfl rfl rfl (by decide +kernel) ⟨Nat.le_of_ble_eq_true rfl, Nat.le_of_ble_eq_true rfl⟩) (kPreX (As := [.int a1, .int (0 : Int32), .int r6]) (hP.sub (ws' := []) [] rfl) (hD.sub (ws' := []) [] (by decide) rfl) hK hN hX hS (va_free hD hS hA [] rfl)) rfl rfl hl.1 rfl (lv_room (Nat.le_of_ble_eq_true rfl)) dX1_checkSet_9 ⟨Nat.le_of_ble_eq_true rfl, Nat.le_of_ble_eq_true rfl⟩) hP hD hS hA [] [0, 1, 2, 3, 4] rfl rfl (by decide) (by decide) (fun E ce q9 H locs hpx hP hD hS g1 g2 g3 => ?_) (fun u H locs hv hP hD hS => ?_)
  · have hP : va_P D vwCl [(h0, .inr (3, [.ref h1, .ref h3, .int xst, .int xgo, .int xdo, .int xre, .int xkn])), (h1, .inr (2, [.ref h2, .int mz, .int ms, .int mg, .int m0, .int m1])), (h2, .inl (cI, 12, .inl mf)), (h3, .inr (2, [.ref h4, .int tz, .int ts, .int tg, .int t0, .int t1])), (h4, .inl (cI, 12, .inl tf))] H := hP.sub [0, 1, 2, 3, 4] rfl
    have hD : va_D A [(h0, .inr (3, [.ref h1, .ref h3, .int xst, .int xgo, .int xdo, .int xre, .int xkn])), (h1, .inr (2, [.ref h2, .int mz, .int ms, .int mg, .int m0, .int m1])), (h2, .inl (cI, 12, .inl mf)), (h3, .inr (2, [.ref h4, .int tz, .int ts, .int tg, .int t0, .int t1])), (h4, .inl (cI, 12, .inl tf))] := hD.sub [0, 1, 2, 3, 4] (by decide) rfl
    exact kx_out hTb hlocks hpx hP hD hS g1 g2 g3 (Nat.le_of_ble_eq_true rfl) (Nat.le_of_ble_eq_true rfl)
  · have hP : va_P D vwCl [(h0, .inr (3, [.ref h1, .ref h3, .int xst, .int xgo, .int xdo, .int xre, .int xkn])), (h1, .inr (2, [.ref h2, .int mz, .int ms, .int mg, .int m0, .int m1])), (h2, .inl (cI, 12, .inl mf)), (h3, .inr (2, [.ref h4, .int tz, .int ts, .int tg, .int t0, .int t1])), (h4, .inl (cI, 12, .inl tf))] H := hP.sub [0, 1, 2, 3, 4] rfl
    have hD : va_D A [(h0, .inr (3, [.ref h1, .ref h3, .int xst, .int xgo, .int xdo, .int xre, .int xkn])), (h1, .inr (2, [.ref h2, .int mz, .int ms, .int mg, .int m0, .int m1])), (h2, .inl (cI, 12, .inl mf)), (h3, .inr (2, [.ref h4, .int tz, .int ts, .int tg, .int t0, .int t1])), (h4, .inl (cI, 12, .inl tf))] := hD.sub [0, 1, 2, 3, 4] (by decide) rfl
    refine W.widen (k := 1) (n := 6) (Nat.le_of_ble_eq_true rfl) (Nat.le_of_ble_eq_true rfl) ?_
    refine W.widen (k := 1) (n := 6) (Nat.le_of_ble_eq_true rfl) (Nat.le_of_ble_eq_true rfl) ?_
    refine vx_ret ?_
    exact W.vret hx hb hr (kWv_ret (u := ()) hv hP hD hS) hS.2.2 dX1_checkSet_12
set_option maxHeartbeats 4000000 in
set_option maxRecDepth 100000 in
theorem kX1_initW (l : Launch) (D : va_G) (cI cB : ClassId) (h0 : Nat) (xst : Int32) (xgo : Int32) (xdo : Int32) (xre : Int32) (xkn : Int32)  (sz : Nat) (post : Int32 → Int32 → Int32 → Int32 → Int32 → Int32 → Int32 → Int32 → Int32 → Int32 → (Nat → Int32) → Int32 → Int32 → Int32 → Int32 → Int32 → (Nat → Int32) → Prop) (hv : qX1_initW xst xgo xdo xre xkn post) : Met l yX1_init wsX1_init ({ frames := 2, cells := 4, slots := 36, locals := 32 }) (va_Pc [.ref h0] (kBW D cI cB sz [(h0, .inr (3, [.null, .null, .int xst, .int xgo, .int xdo, .int xre, .int xkn]))])) (va_Qv (fun (u : Nat × Nat × Nat × Nat × Int32 × Int32 × Int32 × Int32 × Int32 × Int32 × Int32 × Int32 × Int32 × Int32 × (Nat → Int32) × Int32 × Int32 × Int32 × Int32 × Int32 × (Nat → Int32)) => post u.2.2.2.2.1 u.2.2.2.2.2.1 u.2.2.2.2.2.2.1 u.2.2.2.2.2.2.2.1 u.2.2.2.2.2.2.2.2.1 u.2.2.2.2.2.2.2.2.2.1 u.2.2.2.2.2.2.2.2.2.2.1 u.2.2.2.2.2.2.2.2.2.2.2.1 u.2.2.2.2.2.2.2.2.2.2.2.2.1 u.2.2.2.2.2.2.2.2.2.2.2.2.2.1 u.2.2.2.2.2.2.2.2.2.2.2.2.2.2.1 u.2.2.2.2.2.2.2.2.2.2.2.2.2.2.2.1 u.2.2.2.2.2.2.2.2.2.2.2.2.2.2.2.2.1 u.2.2.2.2.2.2.2.2.2.2.2.2.2.2.2.2.2.1 u.2.2.2.2.2.2.2.2.2.2.2.2.2.2.2.2.2.2.1 u.2.2.2.2.2.2.2.2.2.2.2.2.2.2.2.2.2.2.2.1 u.2.2.2.2.2.2.2.2.2.2.2.2.2.2.2.2.2.2.2.2) (fun (u : Nat × Nat × Nat × Nat × Int32 × Int32 × Int32 × Int32 × Int32 × Int32 × Int32 × Int32 × Int32 × Int32 × (Nat → Int32) × Int32 × Int32 × Int32 × Int32 × Int32 × (Nat → Int32)) (t : State) => kE D (va_A [(h0, .inr (3, [.null, .null, .int xst, .int xgo, .int xdo, .int xre, .int xkn]))] sz) [(h0, .inr (3, [.ref (u.1), .ref (u.2.2.1), .int (u.2.2.2.2.1), .int (u.2.2.2.2.2.1), .int (u.2.2.2.2.2.2.1), .int (u.2.2.2.2.2.2.2.1), .int (u.2.2.2.2.2.2.2.2.1)])), ((u.1), .inr (2, [.ref (u.2.1), .int (u.2.2.2.2.2.2.2.2.2.1), .int (u.2.2.2.2.2.2.2.2.2.2.1), .int (u.2.2.2.2.2.2.2.2.2.2.2.1), .int (u.2.2.2.2.2.2.2.2.2.2.2.2.1), .int (u.2.2.2.2.2.2.2.2.2.2.2.2.2.1)])), ((u.2.1), .inl (cI, 12, .inl (u.2.2.2.2.2.2.2.2.2.2.2.2.2.2.1))), ((u.2.2.1), .inr (2, [.ref (u.2.2.2.1), .int (u.2.2.2.2.2.2.2.2.2.2.2.2.2.2.2.1), .int (u.2.2.2.2.2.2.2.2.2.2.2.2.2.2.2.2.1), .int (u.2.2.2.2.2.2.2.2.2.2.2.2.2.2.2.2.2.1), .int (u.2.2.2.2.2.2.2.2.2.2.2.2.2.2.2.2.2.2.1), .int (u.2.2.2.2.2.2.2.2.2.2.2.2.2.2.2.2.2.2.2.1)])), ((u.2.2.2.1), .inl (cI, 12, .inl (u.2.2.2.2.2.2.2.2.2.2.2.2.2.2.2.2.2.2.2.2)))] t) (va_A [(h0, .inr (3, [.null, .null, .int xst, .int xgo, .int xdo, .int xre, .int xkn]))] sz)) 4 36 (va_A [(h0, .inr (3, [.null, .null, .int xst, .int xgo, .int xdo, .int xre, .int xkn]))] sz) := by
  refine Met.ofW (cc := cX1_init) (maxL := 1) (ret := none) (by decide) rfl ?_
  intro p e s m args below meth c s₁ B hml hv0
  obtain ⟨rfl, hsz, ⟨hP, hK, hN⟩, hD0⟩ := hv0
  have hx := B.exec
  have hb := B.bytes
  have hr := B.returns
  have hts := atoms_spec (ws := wsX1_init) B.pre
  have hown : s.vm.findClass RX1 = some m.cls := findClass_of_methodNamed B.named
  have hlocks := B.notSynchronized
  have hin : meth.name = "<init>" := (name_of_methodNamed B.named B.method).1
  have hi_X0 : ∀ w ∈ wsX00, w ∈ wsX1_init := by decide +kernel
  have hi_X1 : ∀ w ∈ wsX10, w ∈ wsX1_init := by decide +kernel
  have hF10 := hts (.fieldLink RX1 10 "Roadgame" "map" "LRoadgame$Chart;") (by decide +kernel)
  have hF16 := hts (.fieldLink RX1 16 "Roadgame" "trial" "LRoadgame$Chart;") (by decide +kernel)
  subst hsz
  have hD := hD0.self (sz := s.heap.size)
  generalize hAe : va_A [(h0, .inr (3, [.null, .null, .int xst, .int xgo, .int xdo, .int xre, .int xkn]))] s.heap.size = A at hD ⊢
  have hA : ∀ q : Nat, s.heap.size ≤ q → A q := fun q h => by rw [← hAe]; exact Or.inr h
  have hS : va_S A s.heap s.heap [] := va_S.rf
  have hl := lv_entry ([.ref h0]) (n := 1) (Nat.le_of_ble_eq_true rfl)
  rw [lg_entry_eq]
  generalize (lg_sl ([.ref h0]) ++ List.replicate (1 - (lg_sl ([.ref h0])).length) Slot.unset).toArray = ls at hl ⊢
  have hl : lv_has ls 1 [(0, .ref h0)] := hl
  refine lv_aload_n hx hb dX1_init_0 rfl (lv_at hl 0 rfl) ?_
  refine W.objInit hx hb hown (hts (.methodLink RX1 1 objectInit) (by decide +kernel)) (hts (.instanceMethod objectInit) (by decide +kernel)) (hts (.code objectInit ⟨#[0xb1]⟩ 1 none) (by decide +kernel)) rfl (by rw [hml]; exact hl.1) rfl dX1_init_1 (Nat.le_of_ble_eq_true rfl) (Nat.le_of_ble_eq_true rfl) ?_
  refine W.eq (g2 := F0 m 4 ls _) rfl ?_
  refine lv_aload_n hx hb dX1_init_4 rfl (lv_at hl 0 rfl) ?_
  refine va_new (ci := 2) (fs := [.null, .int (0 : Int32), .int (0 : Int32), .int (0 : Int32), .int (0 : Int32), .int (0 : Int32)]) (C := RX0) (T := TX0) (N := 6) hx hb hts hi_X0 tyX0 tyX0_ok hown (hts (.classLink RX1 7 RX0) (by decide +kernel)) (hts (.instantiable RX0 6) (by decide +kernel)) (hts (.initialized RX0) (by decide +kernel)) hK hP hD hS hA rfl (fun j hj => by rcases (show j = 0 ∨ j = 1 ∨ j = 2 ∨ j = 3 ∨ j = 4 ∨ j = 5 by omega) with rfl | rfl | rfl | rfl | rfl | rfl <;> rfl) (Nat.le_of_ble_eq_true rfl) (Nat.le_of_ble_eq_true rfl) dX1_init_5 (fun w5 H hP hD hS => ?_)
  have hP : va_P D vwCl [(h0, .inr (3, [.null, .null, .int xst, .int xgo, .int xdo, .int xre, .int xkn])), (w5, .inr (2, [.null, .int (0 : Int32), .int (0 : Int32), .int (0 : Int32), .int (0 : Int32), .int (0 : Int32)]))] H := hP
  have hD : va_D A [(h0, .inr (3, [.null, .null, .int xst, .int xgo, .int xdo, .int xre, .int xkn])), (w5, .inr (2, [.null, .int (0 : Int32), .int (0 : Int32), .int (0 : Int32), .int (0 : Int32), .int (0 : Int32)]))] := hD
  refine W.widen (k := 1) (n := 6) (Nat.le_of_ble_eq_true rfl) (Nat.le_of_ble_eq_true rfl) ?_
  refine lv_dup hx hb dX1_init_8 rfl ?_
  refine kw_v (wr := [(h0, .inr (3, [.null, .null, .int xst, .int xgo, .int xdo, .int xre, .int xkn]))]) (va_runI (As := []) (rest := [.ref w5, .ref h0]) ⟨hx, hb, hml, hown, hts⟩ (kX0_initW l D cI cB w5 (0 : Int32) (0 : Int32) (0 : Int32) (0 : Int32) (0 : Int32) _ _ hv) (cwI 0 hts gX1_init_X0_init rfl rfl rfl (hts (.initialized RX0) (by decide +kernel)) (hts (.methodLink RX1 9 yX0_init) (by decide +kernel)) (hts (.instanceMethod yX0_init) (by decide +kernel)) rfl (by decide +kernel) ⟨Nat.le_of_ble_eq_true rfl, Nat.le_of_ble_eq_true rfl⟩) (kPreW (As := [.ref w5]) (hP.sub (ws' := [(w5, .inr (2, [.null, .int (0 : Int32), .int (0 : Int32), .int (0 : Int32), .int (0 : Int32), .int (0 : Int32)]))]) [1] rfl) (hD.sub (ws' := [(w5, .inr (2, [.null, .int (0 : Int32), .int (0 : Int32), .int (0 : Int32), .int (0 : Int32), .int (0 : Int32)]))]) [1] (by decide) rfl) hK hN) rfl rfl hl.1 rfl (lv_room (Nat.le_of_ble_eq_true rfl)) dX1_init_9 ⟨Nat.le_of_ble_eq_true rfl, Nat.le_of_ble_eq_true rfl⟩) hP hD hS hA [1] [0] rfl rfl (by decide) (by decide) (fun u H locs hv hP hD hS => ?_)
  obtain ⟨x9_uq1, x9_uv01, x9_uv02, x9_uv03, x9_uv04, x9_uv05, x9_uf1⟩ := u
  have hP : va_P D vwCl [(h0, .inr (3, [.null, .null, .int xst, .int xgo, .int xdo, .int xre, .int xkn])), (w5, .inr (2, [.ref x9_uq1, .int x9_uv01, .int x9_uv02, .int x9_uv03, .int x9_uv04, .int x9_uv05])), (x9_uq1, .inl (cI, 12, .inl x9_uf1))] H := hP.sub [0, 1, 2] rfl
  have hD : va_D A [(h0, .inr (3, [.null, .null, .int xst, .int xgo, .int xdo, .int xre, .int xkn])), (w5, .inr (2, [.ref x9_uq1, .int x9_uv01, .int x9_uv02, .int x9_uv03, .int x9_uv04, .int x9_uv05])), (x9_uq1, .inl (cI, 12, .inl x9_uf1))] := hD.sub [0, 1, 2] (by decide) rfl
  refine W.widen (k := 2) (n := 18) (Nat.le_of_ble_eq_true rfl) (Nat.le_of_ble_eq_true rfl) ?_
  refine va_putF (D := D) (ci := 3) (v := .ref w5) (ty := .object "Roadgame$Chart") (C := RX1) (T := TX1) (N := 7) hx hb hts hi_X1 tyX1 tyX1_ok nmX1 hown hK hP hD hS 0 rfl rfl 0 (by decide) hF10 (fun _ h9 => h9) rfl hin rfl (by decide +kernel) rfl rfl (Nat.le_of_ble_eq_true rfl) dX1_init_12 (fun H locs hP hD hS => ?_)
  have hP : va_P D vwCl [(h0, .inr (3, [.ref w5, .null, .int xst, .int xgo, .int xdo, .int xre, .int xkn])), (w5, .inr (2, [.ref x9_uq1, .int x9_uv01, .int x9_uv02, .int x9_uv03, .int x9_uv04, .int x9_uv05])), (x9_uq1, .inl (cI, 12, .inl x9_uf1))] H := hP
  have hD : va_D A [(h0, .inr (3, [.ref w5, .null, .int xst, .int xgo, .int xdo, .int xre, .int xkn])), (w5, .inr (2, [.ref x9_uq1, .int x9_uv01, .int x9_uv02, .int x9_uv03, .int x9_uv04, .int x9_uv05])), (x9_uq1, .inl (cI, 12, .inl x9_uf1))] := hD
  refine lv_aload_n hx hb dX1_init_15 rfl (lv_at hl 0 rfl) ?_
  refine va_new (ci := 2) (fs := [.null, .int (0 : Int32), .int (0 : Int32), .int (0 : Int32), .int (0 : Int32), .int (0 : Int32)]) (C := RX0) (T := TX0) (N := 6) hx hb hts hi_X0 tyX0 tyX0_ok hown (hts (.classLink RX1 7 RX0) (by decide +kernel)) (hts (.instantiable RX0 6) (by decide +kernel)) (hts (.initialized RX0) (by decide +kernel)) hK hP hD hS hA rfl (fun j hj => by rcases (show j = 0 ∨ j = 1 ∨ j = 2 ∨ j = 3 ∨ j = 4 ∨ j = 5 by omega) with rfl | rfl | rfl | rfl | rfl | rfl <;> rfl) (Nat.le_of_ble_eq_true rfl) (Nat.le_of_ble_eq_true rfl) dX1_init_16 (fun w16 H hP hD hS => ?_)
  have hP : va_P D vwCl [(h0, .inr (3, [.ref w5, .null, .int xst, .int xgo, .int xdo, .int xre, .int xkn])), (w5, .inr (2, [.ref x9_uq1, .int x9_uv01, .int x9_uv02, .int x9_uv03, .int x9_uv04, .int x9_uv05])), (x9_uq1, .inl (cI, 12, .inl x9_uf1)), (w16, .inr (2, [.null, .int (0 : Int32), .int (0 : Int32), .int (0 : Int32), .int (0 : Int32), .int (0 : Int32)]))] H := hP
  have hD : va_D A [(h0, .inr (3, [.ref w5, .null, .int xst, .int xgo, .int xdo, .int xre, .int xkn])), (w5, .inr (2, [.ref x9_uq1, .int x9_uv01, .int x9_uv02, .int x9_uv03, .int x9_uv04, .int x9_uv05])), (x9_uq1, .inl (cI, 12, .inl x9_uf1)), (w16, .inr (2, [.null, .int (0 : Int32), .int (0 : Int32), .int (0 : Int32), .int (0 : Int32), .int (0 : Int32)]))] := hD
  refine W.widen (k := 3) (n := 24) (Nat.le_of_ble_eq_true rfl) (Nat.le_of_ble_eq_true rfl) ?_
  refine lv_dup hx hb dX1_init_19 rfl ?_
  refine kw_v (wr := [(h0, .inr (3, [.ref w5, .null, .int xst, .int xgo, .int xdo, .int xre, .int xkn])), (w5, .inr (2, [.ref x9_uq1, .int x9_uv01, .int x9_uv02, .int x9_uv03, .int x9_uv04, .int x9_uv05])), (x9_uq1, .inl (cI, 12, .inl x9_uf1))]) (va_runI (As := []) (rest := [.ref w16, .ref h0]) ⟨hx, hb, hml, hown, hts⟩ (kX0_initW l D cI cB w16 (0 : Int32) (0 : Int32) (0 : Int32) (0 : Int32) (0 : Int32) _ _ hv) (cwI 0 hts gX1_init_X0_init rfl rfl rfl (hts (.initialized RX0) (by decide +kernel)) (hts (.methodLink RX1 9 yX0_init) (by decide +kernel)) (hts (.instanceMethod yX0_init) (by decide +kernel)) rfl (by decide +kernel) ⟨Nat.le_of_ble_eq_true rfl, Nat.le_of_ble_eq_true rfl⟩) (kPreW (As := [.ref w16]) (hP.sub (ws' := [(w16, .inr (2, [.null, .int (0 : Int32), .int (0 : Int32), .int (0 : Int32), .int (0 : Int32), .int (0 : Int32)]))]) [3] rfl) (hD.sub (ws' := [(w16, .inr (2, [.null, .int (0 : Int32), .int (0 : Int32), .int (0 : Int32), .int (0 : Int32), .int (0 : Int32)]))]) [3] (by decide) rfl) hK hN) rfl rfl hl.1 rfl (lv_room (Nat.le_of_ble_eq_true rfl)) dX1_init_20 ⟨Nat.le_of_ble_eq_true rfl, Nat.le_of_ble_eq_true rfl⟩) hP hD hS hA [3] [0, 1, 2] rfl rfl (by decide) (by decide) (fun u H locs hv hP hD hS => ?_)
  obtain ⟨x20_uq1, x20_uv01, x20_uv02, x20_uv03, x20_uv04, x20_uv05, x20_uf1⟩ := u
  have hP : va_P D vwCl [(h0, .inr (3, [.ref w5, .null, .int xst, .int xgo, .int xdo, .int xre, .int xkn])), (w5, .inr (2, [.ref x9_uq1, .int x9_uv01, .int x9_uv02, .int x9_uv03, .int x9_uv04, .int x9_uv05])), (x9_uq1, .inl (cI, 12, .inl x9_uf1)), (w16, .inr (2, [.ref x20_uq1, .int x20_uv01, .int x20_uv02, .int x20_uv03, .int x20_uv04, .int x20_uv05])), (x20_uq1, .inl (cI, 12, .inl x20_uf1))] H := hP.sub [0, 1, 2, 3, 4] rfl
  have hD : va_D A [(h0, .inr (3, [.ref w5, .null, .int xst, .int xgo, .int xdo, .int xre, .int xkn])), (w5, .inr (2, [.ref x9_uq1, .int x9_uv01, .int x9_uv02, .int x9_uv03, .int x9_uv04, .int x9_uv05])), (x9_uq1, .inl (cI, 12, .inl x9_uf1)), (w16, .inr (2, [.ref x20_uq1, .int x20_uv01, .int x20_uv02, .int x20_uv03, .int x20_uv04, .int x20_uv05])), (x20_uq1, .inl (cI, 12, .inl x20_uf1))] := hD.sub [0, 1, 2, 3, 4] (by decide) rfl
  refine W.widen (k := 4) (n := 36) (Nat.le_of_ble_eq_true rfl) (Nat.le_of_ble_eq_true rfl) ?_
  refine va_putF (D := D) (ci := 3) (v := .ref w16) (ty := .object "Roadgame$Chart") (C := RX1) (T := TX1) (N := 7) hx hb hts hi_X1 tyX1 tyX1_ok nmX1 hown hK hP hD hS 0 rfl rfl 1 (by decide) hF16 (fun _ h9 => h9) rfl hin rfl (by decide +kernel) rfl rfl (Nat.le_of_ble_eq_true rfl) dX1_init_23 (fun H locs hP hD hS => ?_)
  have hP : va_P D vwCl [(h0, .inr (3, [.ref w5, .ref w16, .int xst, .int xgo, .int xdo, .int xre, .int xkn])), (w5, .inr (2, [.ref x9_uq1, .int x9_uv01, .int x9_uv02, .int x9_uv03, .int x9_uv04, .int x9_uv05])), (x9_uq1, .inl (cI, 12, .inl x9_uf1)), (w16, .inr (2, [.ref x20_uq1, .int x20_uv01, .int x20_uv02, .int x20_uv03, .int x20_uv04, .int x20_uv05])), (x20_uq1, .inl (cI, 12, .inl x20_uf1))] H := hP
  have hD : va_D A [(h0, .inr (3, [.ref w5, .ref w16, .int xst, .int xgo, .int xdo, .int xre, .int xkn])), (w5, .inr (2, [.ref x9_uq1, .int x9_uv01, .int x9_uv02, .int x9_uv03, .int x9_uv04, .int x9_uv05])), (x9_uq1, .inl (cI, 12, .inl x9_uf1)), (w16, .inr (2, [.ref x20_uq1, .int x20_uv01, .int x20_uv02, .int x20_uv03, .int x20_uv04, .int x20_uv05])), (x20_uq1, .inl (cI, 12, .inl x20_uf1))] := hD
  refine W.widen (k := 4) (n := 36) (Nat.le_of_ble_eq_true rfl) (Nat.le_of_ble_eq_true rfl) ?_
  have hP : va_P D vwCl [(h0, .inr (3, [.ref w5, .ref w16, .int xst, .int xgo, .int xdo, .int xre, .int xkn])), (w5, .inr (2, [.ref x9_uq1, .int x9_uv01, .int x9_uv02, .int x9_uv03, .int x9_uv04, .int x9_uv05])), (x9_uq1, .inl (cI, 12, .inl x9_uf1)), (w16, .inr (2, [.ref x20_uq1, .int x20_uv01, .int x20_uv02, .int x20_uv03, .int x20_uv04, .int x20_uv05])), (x20_uq1, .inl (cI, 12, .inl x20_uf1))] _ := hP.sub [0, 1, 2, 3, 4] rfl
  have hD : va_D A [(h0, .inr (3, [.ref w5, .ref w16, .int xst, .int xgo, .int xdo, .int xre, .int xkn])), (w5, .inr (2, [.ref x9_uq1, .int x9_uv01, .int x9_uv02, .int x9_uv03, .int x9_uv04, .int x9_uv05])), (x9_uq1, .inl (cI, 12, .inl x9_uf1)), (w16, .inr (2, [.ref x20_uq1, .int x20_uv01, .int x20_uv02, .int x20_uv03, .int x20_uv04, .int x20_uv05])), (x20_uq1, .inl (cI, 12, .inl x20_uf1))] := hD.sub [0, 1, 2, 3, 4] (by decide) rfl
  exact W.vret hx hb hr (kWv_ret (u := (w5, x9_uq1, w16, x20_uq1, xst, xgo, xdo, xre, xkn, x9_uv01, x9_uv02, x9_uv03, x9_uv04, x9_uv05, x9_uf1, x20_uv01, x20_uv02, x20_uv03, x20_uv04, x20_uv05, x20_uf1)) (w1 := fun (u : Nat × Nat × Nat × Nat × Int32 × Int32 × Int32 × Int32 × Int32 × Int32 × Int32 × Int32 × Int32 × Int32 × (Nat → Int32) × Int32 × Int32 × Int32 × Int32 × Int32 × (Nat → Int32)) => [(h0, .inr (3, [.ref (u.1), .ref (u.2.2.1), .int (u.2.2.2.2.1), .int (u.2.2.2.2.2.1), .int (u.2.2.2.2.2.2.1), .int (u.2.2.2.2.2.2.2.1), .int (u.2.2.2.2.2.2.2.2.1)])), ((u.1), .inr (2, [.ref (u.2.1), .int (u.2.2.2.2.2.2.2.2.2.1), .int (u.2.2.2.2.2.2.2.2.2.2.1), .int (u.2.2.2.2.2.2.2.2.2.2.2.1), .int (u.2.2.2.2.2.2.2.2.2.2.2.2.1), .int (u.2.2.2.2.2.2.2.2.2.2.2.2.2.1)])), ((u.2.1), .inl (cI, 12, .inl (u.2.2.2.2.2.2.2.2.2.2.2.2.2.2.1))), ((u.2.2.1), .inr (2, [.ref (u.2.2.2.1), .int (u.2.2.2.2.2.2.2.2.2.2.2.2.2.2.2.1), .int (u.2.2.2.2.2.2.2.2.2.2.2.2.2.2.2.2.1), .int (u.2.2.2.2.2.2.2.2.2.2.2.2.2.2.2.2.2.1), .int (u.2.2.2.2.2.2.2.2.2.2.2.2.2.2.2.2.2.2.1), .int (u.2.2.2.2.2.2.2.2.2.2.2.2.2.2.2.2.2.2.2.1)])), ((u.2.2.2.1), .inl (cI, 12, .inl (u.2.2.2.2.2.2.2.2.2.2.2.2.2.2.2.2.2.2.2.2)))]) (by exact hv) hP hD hS) hS.2.2 dX1_init_26
