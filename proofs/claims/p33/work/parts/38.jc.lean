/-! text, by program (wip/gen) -/
set_option maxHeartbeats 4000000 in
set_option maxRecDepth 100000 in
theorem kJ5_inflateIfNeededFor_a7421W (l : Launch) (D : va_G) (cI cB : ClassId) (dO dT : Nat → Int32) (adK adV : Nat → Nat) (h0 : Nat) (h1 : Nat) (cn : Int32) (bl : Nat) (bf : Nat → Int32) (ix : Nat)  (sz : Nat) (post : Int32 → Nat → (Nat → Int32) → Prop) (hix : ix < 3) (hv : qJ5_inflateIfNeededFor_a7421W cn bl bf post) : Met l yJ5_inflateIfNeededFor_a7421 wsJ5_inflateIfNeededFor_a7421 ({ frames := 1, cells := 0, slots := 0, locals := 20 }) (va_Pc [.ref h0, .ref (adK ix)] (kBWJ D cI cB dO dT adK adV sz [(h0, .inr (1, [.ref h1, .int (0 : Int32), .int (0 : Int32), .int cn])), (h1, .inl (cB, bl, .inl bf))])) (va_Qv (fun (u : Int32 × Nat × (Nat → Int32)) => post u.1 u.2.1 u.2.2) (fun (u : Int32 × Nat × (Nat → Int32)) (t : State) => kE D (va_A [(h0, .inr (1, [.ref h1, .int (0 : Int32), .int (0 : Int32), .int cn])), (h1, .inl (cB, bl, .inl bf))] sz) [(h0, .inr (1, [.ref h1, .int (0 : Int32), .int (0 : Int32), .int (u.1)])), (h1, .inl (cB, (u.2.1), .inl (u.2.2)))] t) (va_A [(h0, .inr (1, [.ref h1, .int (0 : Int32), .int (0 : Int32), .int cn])), (h1, .inl (cB, bl, .inl bf))] sz)) 0 0 (va_A [(h0, .inr (1, [.ref h1, .int (0 : Int32), .int (0 : Int32), .int cn])), (h1, .inl (cB, bl, .inl bf))] sz) := by
  refine Met.ofW (cc := cJ5_inflateIfNeededFor_a7421) (maxL := 2) (ret := none) (by decide) rfl ?_
  intro p e s m args below meth c s₁ B hml hv0
  obtain ⟨rfl, ⟨hsz, ⟨hP, hK, hN⟩, hD0⟩, hSt⟩ := hv0
  have hx := B.exec
  have hb := B.bytes
  have hr := B.returns
  have hts := atoms_spec (ws := wsJ5_inflateIfNeededFor_a7421) B.pre
  have hown : s.vm.findClass RJ5 = some m.cls := findClass_of_methodNamed B.named
  have hlocks := B.notSynchronized
  have hi_J4 : ∀ w ∈ wsJ40, w ∈ wsJ5_inflateIfNeededFor_a7421 := by decide +kernel
  have hF18 := hts (.fieldLink RJ5 18 "java/lang/String" "COMPACT_STRINGS" "Z") (by decide +kernel)
  have hF22 := hts (.fieldLink RJ5 22 "java/lang/AbstractStringBuilder" "coder" "B") (by decide +kernel)
  subst hsz
  have hD := hD0.self (sz := s.heap.size)
  generalize hAe : va_A [(h0, .inr (1, [.ref h1, .int (0 : Int32), .int (0 : Int32), .int cn])), (h1, .inl (cB, bl, .inl bf))] s.heap.size = A at hD hSt ⊢
  have hA : ∀ q : Nat, s.heap.size ≤ q → A q := fun q h => by rw [← hAe]; exact Or.inr h
  have hS : va_S A s.heap s.heap [] := va_S.rf
  have hl := lv_entry ([.ref h0, .ref (adK ix)]) (n := 2) (Nat.le_of_ble_eq_true rfl)
  rw [lg_entry_eq]
  generalize (lg_sl ([.ref h0, .ref (adK ix)]) ++ List.replicate (2 - (lg_sl ([.ref h0, .ref (adK ix)])).length) Slot.unset).toArray = ls at hl ⊢
  have hl : lv_has ls 2 [(0, .ref h0), (1, .ref (adK ix))] := hl
  refine va_gets (C := "java/lang/String") (n := "COMPACT_STRINGS") (d := "Z") (v := .int 1) hx hb hSt.1 hS hown hF18 (fun _ h9 => h9) dJ5_inflateIfNeededFor_a7421_0 ?_
  refine lv_if_eq (tgt := 21) hx hb dJ5_inflateIfNeededFor_a7421_3 (by decide) (fun hc => absurd hc (by decide)) (fun hc => ?_)
  refine lv_aload_n hx hb dJ5_inflateIfNeededFor_a7421_6 rfl (lv_at hl 0 rfl) ?_
  refine va_get (D := D) (ci := 1) (v := .int (0 : Int32)) (C := RJ4) (T := TJ4) (N := 4) hx hb hts hi_J4 hown hK hP 0 rfl rfl 1 (by decide) hF22 (fun _ h9 => h9) rfl dJ5_inflateIfNeededFor_a7421_7 ?_
  refine lv_aload_n hx hb dJ5_inflateIfNeededFor_a7421_10 rfl (lv_at hl 1 rfl) ?_
  refine vp_callSi (kRun_call (va_runV (As := []) (rest := [.int (0 : Int32)]) ⟨hx, hb, hml, hown, hts⟩ (kJ0_coder_7d493 l D cI cB dO dT adK adV ix _ hix hv) (cwV 0 hts gJ5_inflateIfNeededFor_a7421_J0_coder_7d493 rfl rfl rfl (by decide +kernel) ⟨Nat.le_of_ble_eq_true rfl, Nat.le_of_ble_eq_true rfl⟩) ⟨(kPreJ (As := [.ref (adK ix)]) (hP.sub (ws' := []) [] rfl) hK hN hSt hS).1, (vk_recv (i := ix) hSt.2.2.2.1 hix hS), (kPreJ (As := [.ref (adK ix)]) (hP.sub (ws' := []) [] rfl) hK hN hSt hS).2⟩ rfl rfl hl.1 rfl (lv_room (Nat.le_of_ble_eq_true rfl)) dJ5_inflateIfNeededFor_a7421_11 ⟨Nat.le_of_ble_eq_true rfl, Nat.le_of_ble_eq_true rfl⟩)) (fun r11 hv => ?_)
  refine lv_icmp_eq (tgt := 21) hx hb dJ5_inflateIfNeededFor_a7421_14 (by decide) (fun hc => ?_) (fun hc => ?_)
  · have hv := hv.1 hc
    refine W.widen (k := 0) (n := 0) (Nat.le_of_ble_eq_true rfl) (Nat.le_of_ble_eq_true rfl) ?_
    have hP : va_P D vwCl [(h0, .inr (1, [.ref h1, .int (0 : Int32), .int (0 : Int32), .int cn])), (h1, .inl (cB, bl, .inl bf))] _ := hP.sub [0, 1] rfl
    have hD : va_D A [(h0, .inr (1, [.ref h1, .int (0 : Int32), .int (0 : Int32), .int cn])), (h1, .inl (cB, bl, .inl bf))] := hD.sub [0, 1] (by decide) rfl
    exact W.vret hx hb hr (kWv_ret (u := (cn, bl, bf)) (w1 := fun (u : Int32 × Nat × (Nat → Int32)) => [(h0, .inr (1, [.ref h1, .int (0 : Int32), .int (0 : Int32), .int (u.1)])), (h1, .inl (cB, (u.2.1), .inl (u.2.2)))]) (by exact hv) hP hD hS) hS.2.2 dJ5_inflateIfNeededFor_a7421_21
  · have hv := hv.2 hc
    refine lv_aload_n hx hb dJ5_inflateIfNeededFor_a7421_17 rfl (lv_at hl 0 rfl) ?_
    exact hv.elim
set_option maxHeartbeats 4000000 in
set_option maxRecDepth 100000 in
theorem kJ0_getBytes_840e7W (l : Launch) (D : va_G) (cI cB : ClassId) (dO dT : Nat → Int32) (adK adV : Nat → Nat) (h0 : Nat) (bl : Nat) (bf : Nat → Int32) (ix : Nat) (a2 : Int32) (a3 : Int32) (sz : Nat) (post : Nat → (Nat → Int32) → Prop) (hix : ix < 3) (hv : qJ0_getBytes_840e7W bl bf ix a2 a3 post) : Met l yJ0_getBytes_840e7 wsJ0_getBytes_840e7 ({ frames := 1, cells := 0, slots := 0, locals := 40 }) (va_Pc [.ref (adK ix), .ref h0, .int a2, .int a3] (kBWJ D cI cB dO dT adK adV sz [(h0, .inl (cB, bl, .inl bf))])) (va_Qv (fun (u : Nat × (Nat → Int32)) => post u.1 u.2) (fun (u : Nat × (Nat → Int32)) (t : State) => kE D (va_A [(h0, .inl (cB, bl, .inl bf))] sz) [(h0, .inl (cB, (u.1), .inl (u.2)))] t) (va_A [(h0, .inl (cB, bl, .inl bf))] sz)) 0 0 (va_A [(h0, .inl (cB, bl, .inl bf))] sz) := by
  refine Met.ofW (cc := cJ0_getBytes_840e7) (maxL := 4) (ret := none) (by decide) rfl ?_
  intro p e s m args below meth c s₁ B hml hv0
  obtain ⟨rfl, ⟨hsz, ⟨hP, hK, hN⟩, hD0⟩, hSt⟩ := hv0
  have hx := B.exec
  have hb := B.bytes
  have hr := B.returns
  have hts := atoms_spec (ws := wsJ0_getBytes_840e7) B.pre
  have hown : s.vm.findClass RJ0 = some m.cls := findClass_of_methodNamed B.named
  have hlocks := B.notSynchronized
  have hF9 := hts (.fieldLink RJ0 9 "java/lang/String" "value" "[B") (by decide +kernel)
  subst hsz
  have hD := hD0.self (sz := s.heap.size)
  generalize hAe : va_A [(h0, .inl (cB, bl, .inl bf))] s.heap.size = A at hD hSt ⊢
  have hA : ∀ q : Nat, s.heap.size ≤ q → A q := fun q h => by rw [← hAe]; exact Or.inr h
  have hS : va_S A s.heap s.heap [] := va_S.rf
  have hl := lv_entry ([.ref (adK ix), .ref h0, .int a2, .int a3]) (n := 4) (Nat.le_of_ble_eq_true rfl)
  rw [lg_entry_eq]
  generalize (lg_sl ([.ref (adK ix), .ref h0, .int a2, .int a3]) ++ List.replicate (4 - (lg_sl ([.ref (adK ix), .ref h0, .int a2, .int a3])).length) Slot.unset).toArray = ls at hl ⊢
  have hl : lv_has ls 4 [(0, .ref (adK ix)), (1, .ref h0), (2, .int a2), (3, .int a3)] := hl
  refine lv_aload_n hx hb dJ0_getBytes_840e7_0 rfl (lv_at hl 0 rfl) ?_
  refine vp_callSi (kRun_call (va_runV (As := []) (rest := []) ⟨hx, hb, hml, hown, hts⟩ (kJ0_coder_7d493 l D cI cB dO dT adK adV ix _ hix hv) (cwV 0 hts gJ0_getBytes_840e7_J0_coder_7d493 rfl rfl rfl (by decide +kernel) ⟨Nat.le_of_ble_eq_true rfl, Nat.le_of_ble_eq_true rfl⟩) ⟨(kPreJ (As := [.ref (adK ix)]) (hP.sub (ws' := []) [] rfl) hK hN hSt hS).1, (vk_recv (i := ix) hSt.2.2.2.1 hix hS), (kPreJ (As := [.ref (adK ix)]) (hP.sub (ws' := []) [] rfl) hK hN hSt hS).2⟩ rfl rfl hl.1 rfl (lv_room (Nat.le_of_ble_eq_true rfl)) dJ0_getBytes_840e7_1 ⟨Nat.le_of_ble_eq_true rfl, Nat.le_of_ble_eq_true rfl⟩)) (fun r1 hv => ?_)
  refine lv_iload_n hx hb dJ0_getBytes_840e7_4 rfl (lv_at hl 3 rfl) ?_
  refine lv_icmp_ne (tgt := 28) hx hb dJ0_getBytes_840e7_5 (by decide) (fun hc => ?_) (fun hc => ?_)
  · have hv := hv.1 hc
    refine lv_aload_n hx hb dJ0_getBytes_840e7_28 rfl (lv_at hl 0 rfl) ?_
    refine vk_getf (v := .ref (adV ix)) hx hb ((hSt.2.2.2.1.1 ix hix).2.2.1) hS hown hF9 (fun _ h9 => h9) dJ0_getBytes_840e7_29 ?_
    refine lv_iconst (v := (0 : Int32)) hx hb dJ0_getBytes_840e7_32 (by decide) ?_
    refine lv_aload_n hx hb dJ0_getBytes_840e7_33 rfl (lv_at hl 1 rfl) ?_
    refine lv_iload_n hx hb dJ0_getBytes_840e7_34 rfl (lv_at hl 2 rfl) ?_
    refine lv_aload_n hx hb dJ0_getBytes_840e7_35 rfl (lv_at hl 0 rfl) ?_
    refine vk_getf (v := .ref (adV ix)) hx hb ((hSt.2.2.2.1.1 ix hix).2.2.1) hS hown hF9 (fun _ h9 => h9) dJ0_getBytes_840e7_36 ?_
    refine va_tlen (v := Int32.ofNat ([0, 1, 1].getD ix 0)) hx hb (hSt.2.2.2.1.1 ix hix).2.2.2 hS rfl dJ0_getBytes_840e7_39 ?_
    exact hv.elim
  · have hv := hv.2 hc
    refine lv_aload_n hx hb dJ0_getBytes_840e7_8 rfl (lv_at hl 0 rfl) ?_
    refine vk_getf (v := .ref (adV ix)) hx hb ((hSt.2.2.2.1.1 ix hix).2.2.1) hS hown hF9 (fun _ h9 => h9) dJ0_getBytes_840e7_9 ?_
    refine lv_iconst (v := (0 : Int32)) hx hb dJ0_getBytes_840e7_12 (by decide) ?_
    refine lv_aload_n hx hb dJ0_getBytes_840e7_13 rfl (lv_at hl 1 rfl) ?_
    refine lv_iload_n hx hb dJ0_getBytes_840e7_14 rfl (lv_at hl 2 rfl) ?_
    refine lv_iload_n hx hb dJ0_getBytes_840e7_15 rfl (lv_at hl 3 rfl) ?_
    refine lv_ishl hx hb dJ0_getBytes_840e7_16 ?_
    refine lv_aload_n hx hb dJ0_getBytes_840e7_17 rfl (lv_at hl 0 rfl) ?_
    refine vk_getf (v := .ref (adV ix)) hx hb ((hSt.2.2.2.1.1 ix hix).2.2.1) hS hown hF9 (fun _ h9 => h9) dJ0_getBytes_840e7_18 ?_
    refine va_tlen (v := Int32.ofNat ([0, 1, 1].getD ix 0)) hx hb (hSt.2.2.2.1.1 ix hix).2.2.2 hS rfl dJ0_getBytes_840e7_21 ?_
    obtain ⟨hc1, hc2, hc3, hc4, hc5, hc6, hv⟩ := hv
    refine vk_copyt hx hb (hml.trans hl.1.symm) hown (hts (.methodLink RJ0 212 arraycopyName) (by decide +kernel)) (hts (.native arraycopyName) (by decide +kernel)) (hts (.static arraycopyName) (by decide +kernel)) (hts (.initialized "java/lang/System") (by decide +kernel)) hK hP hD hS (hSt.2.2.2.1.1 ix hix).2.2.2 0 1 rfl rfl hc1 hc2 hc3 hc4 hc5 hc6 (Nat.le_of_ble_eq_true rfl) (Nat.le_of_ble_eq_true rfl) dJ0_getBytes_840e7_22 (fun H locs hP hD hS => ?_)
    have hP : va_P D vwCl [(h0, .inl (cB, bl, .inl (va_cpy (fun j => (([[], [32], [45]] : List (List Int32)).getD ix []).getD j 0) bf (0 : Int32).toNatClampNeg (a2 <<< (a3 &&& (31 : Int32))).toNatClampNeg (Int32.ofNat ([0, 1, 1].getD ix 0)).toNatClampNeg)))] H := hP
    have hD : va_D A [(h0, .inl (cB, bl, .inl (va_cpy (fun j => (([[], [32], [45]] : List (List Int32)).getD ix []).getD j 0) bf (0 : Int32).toNatClampNeg (a2 <<< (a3 &&& (31 : Int32))).toNatClampNeg (Int32.ofNat ([0, 1, 1].getD ix 0)).toNatClampNeg)))] := hD
    refine lv_goto (tgt := 43) hx hb dJ0_getBytes_840e7_25 (by decide) ?_
    refine W.widen (k := 0) (n := 0) (Nat.le_of_ble_eq_true rfl) (Nat.le_of_ble_eq_true rfl) ?_
    have hP : va_P D vwCl [(h0, .inl (cB, bl, .inl (va_cpy (fun j => (([[], [32], [45]] : List (List Int32)).getD ix []).getD j 0) bf (0 : Int32).toNatClampNeg (a2 <<< (a3 &&& (31 : Int32))).toNatClampNeg (Int32.ofNat ([0, 1, 1].getD ix 0)).toNatClampNeg)))] _ := hP.sub [0] rfl
    have hD : va_D A [(h0, .inl (cB, bl, .inl (va_cpy (fun j => (([[], [32], [45]] : List (List Int32)).getD ix []).getD j 0) bf (0 : Int32).toNatClampNeg (a2 <<< (a3 &&& (31 : Int32))).toNatClampNeg (Int32.ofNat ([0, 1, 1].getD ix 0)).toNatClampNeg)))] := hD.sub [0] (by decide) rfl
    exact W.vret hx hb hr (kWv_ret (u := (bl, (va_cpy (fun j => (([[], [32], [45]] : List (List Int32)).getD ix []).getD j 0) bf (0 : Int32).toNatClampNeg (a2 <<< (a3 &&& (31 : Int32))).toNatClampNeg (Int32.ofNat ([0, 1, 1].getD ix 0)).toNatClampNeg))) (w1 := fun (u : Nat × (Nat → Int32)) => [(h0, .inl (cB, (u.1), .inl (u.2)))]) (by exact hv) hP hD hS) hS.2.2 dJ0_getBytes_840e7_43
set_option maxHeartbeats 4000000 in
set_option maxRecDepth 100000 in
theorem kJ5_putStringAt_47b60W (l : Launch) (D : va_G) (cI cB : ClassId) (dO dT : Nat → Int32) (adK adV : Nat → Nat) (h0 : Nat) (h1 : Nat) (cn : Int32) (bl : Nat) (bf : Nat → Int32) (ix : Nat) (a1 : Int32) (sz : Nat) (post : Int32 → Nat → (Nat → Int32) → Prop) (hix : ix < 3) (hv : qJ5_putStringAt_47b60W cn bl bf ix a1 post) : Met l yJ5_putStringAt_47b60 wsJ5_putStringAt_47b60 ({ frames := 2, cells := 0, slots := 0, locals := 63 }) (va_Pc [.ref h0, .int a1, .ref (adK ix)] (kBWJ D cI cB dO dT adK adV sz [(h0, .inr (1, [.ref h1, .int (0 : Int32), .int (0 : Int32), .int cn])), (h1, .inl (cB, bl, .inl bf))])) (va_Qv (fun (u : Int32 × Nat × (Nat → Int32)) => post u.1 u.2.1 u.2.2) (fun (u : Int32 × Nat × (Nat → Int32)) (t : State) => kE D (va_A [(h0, .inr (1, [.ref h1, .int (0 : Int32), .int (0 : Int32), .int cn])), (h1, .inl (cB, bl, .inl bf))] sz) [(h0, .inr (1, [.ref h1, .int (0 : Int32), .int (0 : Int32), .int (u.1)])), (h1, .inl (cB, (u.2.1), .inl (u.2.2)))] t) (va_A [(h0, .inr (1, [.ref h1, .int (0 : Int32), .int (0 : Int32), .int cn])), (h1, .inl (cB, bl, .inl bf))] sz)) 0 0 (va_A [(h0, .inr (1, [.ref h1, .int (0 : Int32), .int (0 : Int32), .int cn])), (h1, .inl (cB, bl, .inl bf))] sz) := by
  refine Met.ofW (cc := cJ5_putStringAt_47b60) (maxL := 3) (ret := none) (by decide) rfl ?_
  intro p e s m args below meth c s₁ B hml hv0
  obtain ⟨rfl, ⟨hsz, ⟨hP, hK, hN⟩, hD0⟩, hSt⟩ := hv0
  have hx := B.exec
  have hb := B.bytes
  have hr := B.returns
  have hts := atoms_spec (ws := wsJ5_putStringAt_47b60) B.pre
  have hown : s.vm.findClass RJ5 = some m.cls := findClass_of_methodNamed B.named
  have hlocks := B.notSynchronized
  have hi_J4 : ∀ w ∈ wsJ40, w ∈ wsJ5_putStringAt_47b60 := by decide +kernel
  have hF15 := hts (.fieldLink RJ5 15 "java/lang/AbstractStringBuilder" "value" "[B") (by decide +kernel)
  have hF22 := hts (.fieldLink RJ5 22 "java/lang/AbstractStringBuilder" "coder" "B") (by decide +kernel)
  subst hsz
  have hD := hD0.self (sz := s.heap.size)
  generalize hAe : va_A [(h0, .inr (1, [.ref h1, .int (0 : Int32), .int (0 : Int32), .int cn])), (h1, .inl (cB, bl, .inl bf))] s.heap.size = A at hD hSt ⊢
  have hA : ∀ q : Nat, s.heap.size ≤ q → A q := fun q h => by rw [← hAe]; exact Or.inr h
  have hS : va_S A s.heap s.heap [] := va_S.rf
  have hl := lv_entry ([.ref h0, .int a1, .ref (adK ix)]) (n := 3) (Nat.le_of_ble_eq_true rfl)
  rw [lg_entry_eq]
  generalize (lg_sl ([.ref h0, .int a1, .ref (adK ix)]) ++ List.replicate (3 - (lg_sl ([.ref h0, .int a1, .ref (adK ix)])).length) Slot.unset).toArray = ls at hl ⊢
  have hl : lv_has ls 3 [(0, .ref h0), (1, .int a1), (2, .ref (adK ix))] := hl
  refine lv_aload_n hx hb dJ5_putStringAt_47b60_0 rfl (lv_at hl 0 rfl) ?_
  refine lv_aload_n hx hb dJ5_putStringAt_47b60_1 rfl (lv_at hl 2 rfl) ?_
  refine kw_v (wr := []) (va_runU (As := [.ref (adK ix)]) (rest := []) ⟨hx, hb, hml, hown, hts⟩ (kJ5_inflateIfNeededFor_a7421W l D cI cB dO dT adK adV h0 h1 cn bl bf ix _ _ hix hv) (va_cwU 1 hts gJ5_putStringAt_47b60_J5_inflateIfNeededFor_a7421_u397J4 rfl rfl rfl rfl (by decide +kernel) ⟨Nat.le_of_ble_eq_true rfl, Nat.le_of_ble_eq_true rfl⟩) ⟨(kPreWJ (As := [.ref h0, .ref (adK ix)]) (hP.sub (ws' := [(h0, .inr (1, [.ref h1, .int (0 : Int32), .int (0 : Int32), .int cn])), (h1, .inl (cB, bl, .inl bf))]) [0, 1] rfl) (hD.sub (ws' := [(h0, .inr (1, [.ref h1, .int (0 : Int32), .int (0 : Int32), .int cn])), (h1, .inl (cB, bl, .inl bf))]) [0, 1] (by decide) rfl) hK hN hSt hS (va_free (wc := [(h0, .inr (1, [.ref h1, .int (0 : Int32), .int (0 : Int32), .int cn])), (h1, .inl (cB, bl, .inl bf))]) hD hS hA [0, 1] rfl)).1, (kRecv (hP.sub (ws' := [(h0, .inr (1, [.ref h1, .int (0 : Int32), .int (0 : Int32), .int cn]))]) [0] rfl) hK 1 rfl rfl rfl), (kPreWJ (As := [.ref h0, .ref (adK ix)]) (hP.sub (ws' := [(h0, .inr (1, [.ref h1, .int (0 : Int32), .int (0 : Int32), .int cn])), (h1, .inl (cB, bl, .inl bf))]) [0, 1] rfl) (hD.sub (ws' := [(h0, .inr (1, [.ref h1, .int (0 : Int32), .int (0 : Int32), .int cn])), (h1, .inl (cB, bl, .inl bf))]) [0, 1] (by decide) rfl) hK hN hSt hS (va_free (wc := [(h0, .inr (1, [.ref h1, .int (0 : Int32), .int (0 : Int32), .int cn])), (h1, .inl (cB, bl, .inl bf))]) hD hS hA [0, 1] rfl)).2⟩ rfl rfl hl.1 rfl (lv_room (Nat.le_of_ble_eq_true rfl)) dJ5_putStringAt_47b60_2 ⟨Nat.le_of_ble_eq_true rfl, Nat.le_of_ble_eq_true rfl⟩) hP hD hS hA [0, 1] [] rfl rfl (by decide) (by decide) (fun u H locs hv hP hD hS => ?_)
  obtain ⟨x2_uv03, x2_ul1, x2_uf1⟩ := u
  have hP : va_P D vwCl [(h0, .inr (1, [.ref h1, .int (0 : Int32), .int (0 : Int32), .int x2_uv03])), (h1, .inl (cB, x2_ul1, .inl x2_uf1))] H := hP.sub [0, 1] rfl
  have hD : va_D A [(h0, .inr (1, [.ref h1, .int (0 : Int32), .int (0 : Int32), .int x2_uv03])), (h1, .inl (cB, x2_ul1, .inl x2_uf1))] := hD.sub [0, 1] (by decide) rfl
  refine lv_aload_n hx hb dJ5_putStringAt_47b60_5 rfl (lv_at hl 2 rfl) ?_
  refine lv_aload_n hx hb dJ5_putStringAt_47b60_6 rfl (lv_at hl 0 rfl) ?_
  refine va_get (D := D) (ci := 1) (v := .ref h1) (C := RJ4) (T := TJ4) (N := 4) hx hb hts hi_J4 hown hK hP 0 rfl rfl 0 (by decide) hF15 (fun _ h9 => h9) rfl dJ5_putStringAt_47b60_7 ?_
  refine lv_iload_n hx hb dJ5_putStringAt_47b60_10 rfl (lv_at hl 1 rfl) ?_
  refine lv_aload_n hx hb dJ5_putStringAt_47b60_11 rfl (lv_at hl 0 rfl) ?_
  refine va_get (D := D) (ci := 1) (v := .int (0 : Int32)) (C := RJ4) (T := TJ4) (N := 4) hx hb hts hi_J4 hown hK hP 0 rfl rfl 1 (by decide) hF22 (fun _ h9 => h9) rfl dJ5_putStringAt_47b60_12 ?_
  refine kw_v (wr := [(h0, .inr (1, [.ref h1, .int (0 : Int32), .int (0 : Int32), .int x2_uv03]))]) (va_runV (As := [.ref h1, .int a1, .int (0 : Int32)]) (rest := []) ⟨hx, hb, hml, hown, hts⟩ (kJ0_getBytes_840e7W l D cI cB dO dT adK adV h1 x2_ul1 x2_uf1 ix a1 (0 : Int32) _ _ hix hv) (cwV 3 hts gJ5_putStringAt_47b60_J0_getBytes_840e7 rfl rfl rfl (by decide +kernel) ⟨Nat.le_of_ble_eq_true rfl, Nat.le_of_ble_eq_true rfl⟩) ⟨(kPreWJ (As := [.ref (adK ix), .ref h1, .int a1, .int (0 : Int32)]) (hP.sub (ws' := [(h1, .inl (cB, x2_ul1, .inl x2_uf1))]) [1] rfl) (hD.sub (ws' := [(h1, .inl (cB, x2_ul1, .inl x2_uf1))]) [1] (by decide) rfl) hK hN hSt hS (va_free (wc := [(h1, .inl (cB, x2_ul1, .inl x2_uf1))]) hD hS hA [1] rfl)).1, (vk_recv (i := ix) hSt.2.2.2.1 hix hS), (kPreWJ (As := [.ref (adK ix), .ref h1, .int a1, .int (0 : Int32)]) (hP.sub (ws' := [(h1, .inl (cB, x2_ul1, .inl x2_uf1))]) [1] rfl) (hD.sub (ws' := [(h1, .inl (cB, x2_ul1, .inl x2_uf1))]) [1] (by decide) rfl) hK hN hSt hS (va_free (wc := [(h1, .inl (cB, x2_ul1, .inl x2_uf1))]) hD hS hA [1] rfl)).2⟩ rfl rfl hl.1 rfl (lv_room (Nat.le_of_ble_eq_true rfl)) dJ5_putStringAt_47b60_15 ⟨Nat.le_of_ble_eq_true rfl, Nat.le_of_ble_eq_true rfl⟩) hP hD hS hA [1] [0] rfl rfl (by decide) (by decide) (fun u H locs hv hP hD hS => ?_)
  obtain ⟨x15_ul0, x15_uf0⟩ := u
  have hP : va_P D vwCl [(h0, .inr (1, [.ref h1, .int (0 : Int32), .int (0 : Int32), .int x2_uv03])), (h1, .inl (cB, x15_ul0, .inl x15_uf0))] H := hP.sub [0, 1] rfl
  have hD : va_D A [(h0, .inr (1, [.ref h1, .int (0 : Int32), .int (0 : Int32), .int x2_uv03])), (h1, .inl (cB, x15_ul0, .inl x15_uf0))] := hD.sub [0, 1] (by decide) rfl
  refine W.widen (k := 0) (n := 0) (Nat.le_of_ble_eq_true rfl) (Nat.le_of_ble_eq_true rfl) ?_
  have hP : va_P D vwCl [(h0, .inr (1, [.ref h1, .int (0 : Int32), .int (0 : Int32), .int x2_uv03])), (h1, .inl (cB, x15_ul0, .inl x15_uf0))] _ := hP.sub [0, 1] rfl
  have hD : va_D A [(h0, .inr (1, [.ref h1, .int (0 : Int32), .int (0 : Int32), .int x2_uv03])), (h1, .inl (cB, x15_ul0, .inl x15_uf0))] := hD.sub [0, 1] (by decide) rfl
  exact W.vret hx hb hr (kWv_ret (u := (x2_uv03, x15_ul0, x15_uf0)) (w1 := fun (u : Int32 × Nat × (Nat → Int32)) => [(h0, .inr (1, [.ref h1, .int (0 : Int32), .int (0 : Int32), .int (u.1)])), (h1, .inl (cB, (u.2.1), .inl (u.2.2)))]) (by exact hv) hP hD hS) hS.2.2 dJ5_putStringAt_47b60_18
set_option maxHeartbeats 4000000 in
set_option maxRecDepth 100000 in
theorem kJ5_append_cf1ceW (l : Launch) (D : va_G) (cI cB : ClassId) (dO dT : Nat → Int32) (adK adV : Nat → Nat) (h0 : Nat) (h1 : Nat) (cn : Int32) (bl : Nat) (bf : Nat → Int32) (ix : Nat)  (sz : Nat) (post : Int32 → Nat → (Nat → Int32) → Prop) (hix : ix < 3) (hv : qJ5_append_cf1ceW cn bl bf ix post) : Met l yJ5_append_cf1ce wsJ5_append_cf1ce ({ frames := 4, cells := 1, slots := 300, locals := 91 }) (va_Pc [.ref h0, .ref (adK ix)] (kBWJ D cI cB dO dT adK adV sz [(h0, .inr (1, [.ref h1, .int (0 : Int32), .int (0 : Int32), .int cn])), (h1, .inl (cB, bl, .inl bf))])) (va_Qr (fun (u : Nat × Int32 × Nat × (Nat → Int32)) => post u.2.1 u.2.2.1 u.2.2.2) (fun (u : Nat × Int32 × Nat × (Nat → Int32)) (q : Nat) (t : State) => q = h0 ∧ kE D (va_A [(h0, .inr (1, [.ref h1, .int (0 : Int32), .int (0 : Int32), .int cn])), (h1, .inl (cB, bl, .inl bf))] sz) [(h0, .inr (1, [.ref (u.1), .int (0 : Int32), .int (0 : Int32), .int (u.2.1)])), ((u.1), .inl (cB, (u.2.2.1), .inl (u.2.2.2)))] t) (va_A [(h0, .inr (1, [.ref h1, .int (0 : Int32), .int (0 : Int32), .int cn])), (h1, .inl (cB, bl, .inl bf))] sz)) 1 300 (va_A [(h0, .inr (1, [.ref h1, .int (0 : Int32), .int (0 : Int32), .int cn])), (h1, .inl (cB, bl, .inl bf))] sz) := by
  refine Met.ofW (cc := cJ5_append_cf1ce) (maxL := 3) (ret := (some (.object "java/lang/AbstractStringBuilder"))) (by decide) rfl ?_
  intro p e s m args below meth c s₁ B hml hv0
  obtain ⟨rfl, ⟨hsz, ⟨hP, hK, hN⟩, hD0⟩, hSt⟩ := hv0
  have hx := B.exec
  have hb := B.bytes
  have hr := B.returns
  have hts := atoms_spec (ws := wsJ5_append_cf1ce) B.pre
  have hown : s.vm.findClass RJ5 = some m.cls := findClass_of_methodNamed B.named
  have hlocks := B.notSynchronized
  have hi_J4 : ∀ w ∈ wsJ40, w ∈ wsJ5_append_cf1ce := by decide +kernel
  have hF79 := hts (.fieldLink RJ5 79 "java/lang/AbstractStringBuilder" "count" "I") (by decide +kernel)
  subst hsz
  have hD := hD0.self (sz := s.heap.size)
  generalize hAe : va_A [(h0, .inr (1, [.ref h1, .int (0 : Int32), .int (0 : Int32), .int cn])), (h1, .inl (cB, bl, .inl bf))] s.heap.size = A at hD hSt ⊢
  have hA : ∀ q : Nat, s.heap.size ≤ q → A q := fun q h => by rw [← hAe]; exact Or.inr h
  have hS : va_S A s.heap s.heap [] := va_S.rf
  have hl := lv_entry ([.ref h0, .ref (adK ix)]) (n := 3) (Nat.le_of_ble_eq_true rfl)
  rw [lg_entry_eq]
  generalize (lg_sl ([.ref h0, .ref (adK ix)]) ++ List.replicate (3 - (lg_sl ([.ref h0, .ref (adK ix)])).length) Slot.unset).toArray = ls at hl ⊢
  have hl : lv_has ls 3 [(0, .ref h0), (1, .ref (adK ix))] := hl
  refine lv_aload_n hx hb dJ5_append_cf1ce_0 rfl (lv_at hl 1 rfl) ?_
  refine lv_ifnonnull (tgt := 9) hx hb dJ5_append_cf1ce_1 (by decide) ?_
  refine lv_aload_n hx hb dJ5_append_cf1ce_9 rfl (lv_at hl 1 rfl) ?_
  refine vp_callSi (kRun_call (va_runV (As := []) (rest := []) ⟨hx, hb, hml, hown, hts⟩ (kJ0_length_8abf5 l D cI cB dO dT adK adV ix _ hix hv) (cwV 0 hts gJ5_append_cf1ce_J0_length_8abf5 rfl rfl rfl (by decide +kernel) ⟨Nat.le_of_ble_eq_true rfl, Nat.le_of_ble_eq_true rfl⟩) ⟨(kPreJ (As := [.ref (adK ix)]) (hP.sub (ws' := []) [] rfl) hK hN hSt hS).1, (vk_recv (i := ix) hSt.2.2.2.1 hix hS), (kPreJ (As := [.ref (adK ix)]) (hP.sub (ws' := []) [] rfl) hK hN hSt hS).2⟩ rfl rfl hl.1 rfl (lv_room (Nat.le_of_ble_eq_true rfl)) dJ5_append_cf1ce_10 ⟨Nat.le_of_ble_eq_true rfl, Nat.le_of_ble_eq_true rfl⟩)) (fun r10 hv => ?_)
  refine lv_istore_n (lv' := [(2, .int r10), (0, .ref h0), (1, .ref (adK ix))]) hx hb dJ5_append_cf1ce_13 rfl hl (by decide) rfl (fun ls hl => ?_)
  refine lv_aload_n hx hb dJ5_append_cf1ce_14 rfl (lv_at hl 1 rfl) ?_
  refine lv_aload_n hx hb dJ5_append_cf1ce_15 rfl (lv_at hl 1 rfl) ?_
  refine va_get (D := D) (ci := 1) (v := .int cn) (C := RJ4) (T := TJ4) (N := 4) hx hb hts hi_J4 hown hK hP 0 rfl rfl 3 (by decide) hF79 (fun _ h9 => h9) rfl dJ5_append_cf1ce_16 ?_
  refine lv_iload_n hx hb dJ5_append_cf1ce_19 rfl (lv_at hl 0 rfl) ?_
  refine lv_iadd hx hb dJ5_append_cf1ce_20 ?_
  refine kw_v (wr := []) (va_runU (As := [.int (cn + r10)]) (rest := []) ⟨hx, hb, hml, hown, hts⟩ (kJ5_ensureCapacityInternal_d00dfW l D cI cB dO dT adK adV h0 h1 cn bl bf (cn + r10) _ _ hv) (va_cwU 1 hts gJ5_append_cf1ce_J5_ensureCapacityInternal_d00df_u100J4 rfl rfl rfl rfl (by decide +kernel) ⟨Nat.le_of_ble_eq_true rfl, Nat.le_of_ble_eq_true rfl⟩) ⟨(kPreWJ (As := [.ref h0, .int (cn + r10)]) (hP.sub (ws' := [(h0, .inr (1, [.ref h1, .int (0 : Int32), .int (0 : Int32), .int cn])), (h1, .inl (cB, bl, .inl bf))]) [0, 1] rfl) (hD.sub (ws' := [(h0, .inr (1, [.ref h1, .int (0 : Int32), .int (0 : Int32), .int cn])), (h1, .inl (cB, bl, .inl bf))]) [0, 1] (by decide) rfl) hK hN hSt hS (va_free (wc := [(h0, .inr (1, [.ref h1, .int (0 : Int32), .int (0 : Int32), .int cn])), (h1, .inl (cB, bl, .inl bf))]) hD hS hA [0, 1] rfl)).1, (kRecv (hP.sub (ws' := [(h0, .inr (1, [.ref h1, .int (0 : Int32), .int (0 : Int32), .int cn]))]) [0] rfl) hK 1 rfl rfl rfl), (kPreWJ (As := [.ref h0, .int (cn + r10)]) (hP.sub (ws' := [(h0, .inr (1, [.ref h1, .int (0 : Int32), .int (0 : Int32), .int cn])), (h1, .inl (cB, bl, .inl bf))]) [0, 1] rfl) (hD.sub (ws' := [(h0, .inr (1, [.ref h1, .int (0 : Int32), .int (0 : Int32), .int cn])), (h1, .inl (cB, bl, .inl bf))]) [0, 1] (by decide) rfl) hK hN hSt hS (va_free (wc := [(h0, .inr (1, [.ref h1, .int (0 : Int32), .int (0 : Int32), .int cn])), (h1, .inl (cB, bl, .inl bf))]) hD hS hA [0, 1] rfl)).2⟩ rfl rfl hl.1 rfl (lv_room (Nat.le_of_ble_eq_true rfl)) dJ5_append_cf1ce_21 ⟨Nat.le_of_ble_eq_true rfl, Nat.le_of_ble_eq_true rfl⟩) hP hD hS hA [0, 1] [] rfl rfl (by decide) (by decide) (fun u H locs hv hP hD hS => ?_)
  obtain ⟨x21_uq1, x21_uv03, x21_ul1, x21_uf1⟩ := u
  have hP : va_P D vwCl [(h0, .inr (1, [.ref x21_uq1, .int (0 : Int32), .int (0 : Int32), .int x21_uv03])), (x21_uq1, .inl (cB, x21_ul1, .inl x21_uf1))] H := hP.sub [0, 1] rfl
  have hD : va_D A [(h0, .inr (1, [.ref x21_uq1, .int (0 : Int32), .int (0 : Int32), .int x21_uv03])), (x21_uq1, .inl (cB, x21_ul1, .inl x21_uf1))] := hD.sub [0, 1] (by decide) rfl
  refine W.widen (k := 1) (n := 300) (Nat.le_of_ble_eq_true rfl) (Nat.le_of_ble_eq_true rfl) ?_
  refine lv_aload_n hx hb dJ5_append_cf1ce_24 rfl (lv_at hl 1 rfl) ?_
  refine lv_aload_n hx hb dJ5_append_cf1ce_25 rfl (lv_at hl 1 rfl) ?_
  refine va_get (D := D) (ci := 1) (v := .int x21_uv03) (C := RJ4) (T := TJ4) (N := 4) hx hb hts hi_J4 hown hK hP 0 rfl rfl 3 (by decide) hF79 (fun _ h9 => h9) rfl dJ5_append_cf1ce_26 ?_
  refine lv_aload_n hx hb dJ5_append_cf1ce_29 rfl (lv_at hl 2 rfl) ?_
  refine kw_v (wr := []) (va_runU (As := [.int x21_uv03, .ref (adK ix)]) (rest := []) ⟨hx, hb, hml, hown, hts⟩ (kJ5_putStringAt_47b60W l D cI cB dO dT adK adV h0 x21_uq1 x21_uv03 x21_ul1 x21_uf1 ix x21_uv03 _ _ hix hv) (va_cwU 2 hts gJ5_append_cf1ce_J5_putStringAt_47b60_u208J4 rfl rfl rfl rfl (by decide +kernel) ⟨Nat.le_of_ble_eq_true rfl, Nat.le_of_ble_eq_true rfl⟩) ⟨(kPreWJ (As := [.ref h0, .int x21_uv03, .ref (adK ix)]) (hP.sub (ws' := [(h0, .inr (1, [.ref x21_uq1, .int (0 : Int32), .int (0 : Int32), .int x21_uv03])), (x21_uq1, .inl (cB, x21_ul1, .inl x21_uf1))]) [0, 1] rfl) (hD.sub (ws' := [(h0, .inr (1, [.ref x21_uq1, .int (0 : Int32), .int (0 : Int32), .int x21_uv03])), (x21_uq1, .inl (cB, x21_ul1, .inl x21_uf1))]) [0, 1] (by decide) rfl) hK hN hSt hS (va_free (wc := [(h0, .inr (1, [.ref x21_uq1, .int (0 : Int32), .int (0 : Int32), .int x21_uv03])), (x21_uq1, .inl (cB, x21_ul1, .inl x21_uf1))]) hD hS hA [0, 1] rfl)).1, (kRecv (hP.sub (ws' := [(h0, .inr (1, [.ref x21_uq1, .int (0 : Int32), .int (0 : Int32), .int x21_uv03]))]) [0] rfl) hK 1 rfl rfl rfl), (kPreWJ (As := [.ref h0, .int x21_uv03, .ref (adK ix)]) (hP.sub (ws' := [(h0, .inr (1, [.ref x21_uq1, .int (0 : Int32), .int (0 : Int32), .int x21_uv03])), (x21_uq1, .inl (cB, x21_ul1, .inl x21_uf1))]) [0, 1] rfl) (hD.sub (ws' := [(h0, .inr (1, [.ref x21_uq1, .int (0 : Int32), .int (0 : Int32), .int x21_uv03])), (x21_uq1, .inl (cB, x21_ul1, .inl x21_uf1))]) [0, 1] (by decide) rfl) hK hN hSt hS (va_free (wc := [(h0, .inr (1, [.ref x21_uq1, .int (0 : Int32), .int (0 : Int32), .int x21_uv03])), (x21_uq1, .inl (cB, x21_ul1, .inl x21_uf1))]) hD hS hA [0, 1] rfl)).2⟩ rfl rfl hl.1 rfl (lv_room (Nat.le_of_ble_eq_true rfl)) dJ5_append_cf1ce_30 ⟨Nat.le_of_ble_eq_true rfl, Nat.le_of_ble_eq_true rfl⟩) hP hD hS hA [0, 1] [] rfl rfl (by decide) (by decide) (fun u H locs hv hP hD hS => ?_)
  obtain ⟨x30_uv03, x30_ul1, x30_uf1⟩ := u
  have hP : va_P D vwCl [(h0, .inr (1, [.ref x21_uq1, .int (0 : Int32), .int (0 : Int32), .int x30_uv03])), (x21_uq1, .inl (cB, x30_ul1, .inl x30_uf1))] H := hP.sub [0, 1] rfl
  have hD : va_D A [(h0, .inr (1, [.ref x21_uq1, .int (0 : Int32), .int (0 : Int32), .int x30_uv03])), (x21_uq1, .inl (cB, x30_ul1, .inl x30_uf1))] := hD.sub [0, 1] (by decide) rfl
  refine lv_aload_n hx hb dJ5_append_cf1ce_33 rfl (lv_at hl 1 rfl) ?_
  refine lv_dup hx hb dJ5_append_cf1ce_34 rfl ?_
  refine va_get (D := D) (ci := 1) (v := .int x30_uv03) (C := RJ4) (T := TJ4) (N := 4) hx hb hts hi_J4 hown hK hP 0 rfl rfl 3 (by decide) hF79 (fun _ h9 => h9) rfl dJ5_append_cf1ce_35 ?_
  refine lv_iload_n hx hb dJ5_append_cf1ce_38 rfl (lv_at hl 0 rfl) ?_
  refine lv_iadd hx hb dJ5_append_cf1ce_39 ?_
  refine va_put (D := D) (ci := 1) (v := .int (x30_uv03 + r10)) (ty := .int) (C := RJ4) (T := TJ4) (N := 4) hx hb hts hi_J4 tyJ4 tyJ4_ok nmJ4 hown hK hP hD hS 0 rfl rfl 3 (by decide) hF79 (fun _ h9 => h9) rfl (by decide +kernel) rfl rfl (Nat.le_of_ble_eq_true rfl) dJ5_append_cf1ce_40 (fun H locs hP hD hS => ?_)
  have hP : va_P D vwCl [(h0, .inr (1, [.ref x21_uq1, .int (0 : Int32), .int (0 : Int32), .int (x30_uv03 + r10)])), (x21_uq1, .inl (cB, x30_ul1, .inl x30_uf1))] H := hP
  have hD : va_D A [(h0, .inr (1, [.ref x21_uq1, .int (0 : Int32), .int (0 : Int32), .int (x30_uv03 + r10)])), (x21_uq1, .inl (cB, x30_ul1, .inl x30_uf1))] := hD
  refine lv_aload_n hx hb dJ5_append_cf1ce_43 rfl (lv_at hl 1 rfl) ?_
  refine W.widen (k := 1) (n := 300) (Nat.le_of_ble_eq_true rfl) (Nat.le_of_ble_eq_true rfl) ?_
  have hP : va_P D vwCl [(h0, .inr (1, [.ref x21_uq1, .int (0 : Int32), .int (0 : Int32), .int (x30_uv03 + r10)])), (x21_uq1, .inl (cB, x30_ul1, .inl x30_uf1))] _ := hP.sub [0, 1] rfl
  have hD : va_D A [(h0, .inr (1, [.ref x21_uq1, .int (0 : Int32), .int (0 : Int32), .int (x30_uv03 + r10)])), (x21_uq1, .inl (cB, x30_ul1, .inl x30_uf1))] := hD.sub [0, 1] (by decide) rfl
  exact W.aret (v := .ref h0) (rt := .object "java/lang/AbstractStringBuilder") hx hb hr (Or.inl ⟨_, rfl⟩) (Or.inr ⟨_, rfl⟩) (kWrt_ret (b0 := h0) (u := (x21_uq1, (x30_uv03 + r10), x30_ul1, x30_uf1)) (w1 := fun (u : Nat × Int32 × Nat × (Nat → Int32)) => [(h0, .inr (1, [.ref (u.1), .int (0 : Int32), .int (0 : Int32), .int (u.2.1)])), ((u.1), .inl (cB, (u.2.2.1), .inl (u.2.2.2)))]) (by exact hv) hP hD hS) hS.2.2 dJ5_append_cf1ce_44
set_option maxHeartbeats 4000000 in
set_option maxRecDepth 100000 in
theorem kJ4_append_15ec4W (l : Launch) (D : va_G) (cI cB : ClassId) (dO dT : Nat → Int32) (adK adV : Nat → Nat) (h0 : Nat) (h1 : Nat) (cn : Int32) (bl : Nat) (bf : Nat → Int32) (ix : Nat)  (sz : Nat) (post : Int32 → Nat → (Nat → Int32) → Prop) (hix : ix < 3) (hv : qJ4_append_15ec4W cn bl bf ix post) : Met l yJ4_append_15ec4 wsJ4_append_15ec4 ({ frames := 5, cells := 1, slots := 300, locals := 113 }) (va_Pc [.ref h0, .ref (adK ix)] (kBWJ D cI cB dO dT adK adV sz [(h0, .inr (1, [.ref h1, .int (0 : Int32), .int (0 : Int32), .int cn])), (h1, .inl (cB, bl, .inl bf))])) (va_Qr (fun (u : Nat × Int32 × Nat × (Nat → Int32)) => post u.2.1 u.2.2.1 u.2.2.2) (fun (u : Nat × Int32 × Nat × (Nat → Int32)) (q : Nat) (t : State) => q = h0 ∧ kE D (va_A [(h0, .inr (1, [.ref h1, .int (0 : Int32), .int (0 : Int32), .int cn])), (h1, .inl (cB, bl, .inl bf))] sz) [(h0, .inr (1, [.ref (u.1), .int (0 : Int32), .int (0 : Int32), .int (u.2.1)])), ((u.1), .inl (cB, (u.2.2.1), .inl (u.2.2.2)))] t) (va_A [(h0, .inr (1, [.ref h1, .int (0 : Int32), .int (0 : Int32), .int cn])), (h1, .inl (cB, bl, .inl bf))] sz)) 1 300 (va_A [(h0, .inr (1, [.ref h1, .int (0 : Int32), .int (0 : Int32), .int cn])), (h1, .inl (cB, bl, .inl bf))] sz) := by
  refine Met.ofW (cc := cJ4_append_15ec4) (maxL := 2) (ret := (some (.object "java/lang/StringBuilder"))) (by decide) rfl ?_
  intro p e s m args below meth c s₁ B hml hv0
  obtain ⟨rfl, ⟨hsz, ⟨hP, hK, hN⟩, hD0⟩, hSt⟩ := hv0
  have hx := B.exec
  have hb := B.bytes
  have hr := B.returns
  have hts := atoms_spec (ws := wsJ4_append_15ec4) B.pre
  have hown : s.vm.findClass RJ4 = some m.cls := findClass_of_methodNamed B.named
  have hlocks := B.notSynchronized
  subst hsz
  have hD := hD0.self (sz := s.heap.size)
  generalize hAe : va_A [(h0, .inr (1, [.ref h1, .int (0 : Int32), .int (0 : Int32), .int cn])), (h1, .inl (cB, bl, .inl bf))] s.heap.size = A at hD hSt ⊢
  have hA : ∀ q : Nat, s.heap.size ≤ q → A q := fun q h => by rw [← hAe]; exact Or.inr h
  have hS : va_S A s.heap s.heap [] := va_S.rf
  have hl := lv_entry ([.ref h0, .ref (adK ix)]) (n := 2) (Nat.le_of_ble_eq_true rfl)
  rw [lg_entry_eq]
  generalize (lg_sl ([.ref h0, .ref (adK ix)]) ++ List.replicate (2 - (lg_sl ([.ref h0, .ref (adK ix)])).length) Slot.unset).toArray = ls at hl ⊢
  have hl : lv_has ls 2 [(0, .ref h0), (1, .ref (adK ix))] := hl
  refine lv_aload_n hx hb dJ4_append_15ec4_0 rfl (lv_at hl 0 rfl) ?_
  refine lv_aload_n hx hb dJ4_append_15ec4_1 rfl (lv_at hl 1 rfl) ?_
  refine kw_rt (wr := []) (va_runSU (As := [.ref (adK ix)]) (rest := []) (hK.1 1 (RJ4, TJ4, 4) rfl).2 ⟨hx, hb, hml, hown, hts⟩ (kJ5_append_cf1ceW l D cI cB dO dT adK adV h0 h1 cn bl bf ix _ _ hix hv) (va_cwSU 1 hts gJ4_append_15ec4_J5_append_cf1ce_s29 rfl rfl rfl (by decide +kernel) ⟨Nat.le_of_ble_eq_true rfl, Nat.le_of_ble_eq_true rfl⟩) ⟨(kPreWJ (As := [.ref h0, .ref (adK ix)]) (hP.sub (ws' := [(h0, .inr (1, [.ref h1, .int (0 : Int32), .int (0 : Int32), .int cn])), (h1, .inl (cB, bl, .inl bf))]) [0, 1] rfl) (hD.sub (ws' := [(h0, .inr (1, [.ref h1, .int (0 : Int32), .int (0 : Int32), .int cn])), (h1, .inl (cB, bl, .inl bf))]) [0, 1] (by decide) rfl) hK hN hSt hS (va_free (wc := [(h0, .inr (1, [.ref h1, .int (0 : Int32), .int (0 : Int32), .int cn])), (h1, .inl (cB, bl, .inl bf))]) hD hS hA [0, 1] rfl)).1, (kRecv (hP.sub (ws' := [(h0, .inr (1, [.ref h1, .int (0 : Int32), .int (0 : Int32), .int cn]))]) [0] rfl) hK 1 rfl rfl rfl), (kPreWJ (As := [.ref h0, .ref (adK ix)]) (hP.sub (ws' := [(h0, .inr (1, [.ref h1, .int (0 : Int32), .int (0 : Int32), .int cn])), (h1, .inl (cB, bl, .inl bf))]) [0, 1] rfl) (hD.sub (ws' := [(h0, .inr (1, [.ref h1, .int (0 : Int32), .int (0 : Int32), .int cn])), (h1, .inl (cB, bl, .inl bf))]) [0, 1] (by decide) rfl) hK hN hSt hS (va_free (wc := [(h0, .inr (1, [.ref h1, .int (0 : Int32), .int (0 : Int32), .int cn])), (h1, .inl (cB, bl, .inl bf))]) hD hS hA [0, 1] rfl)).2⟩ rfl rfl hl.1 rfl (lv_room (Nat.le_of_ble_eq_true rfl)) dJ4_append_15ec4_2 ⟨Nat.le_of_ble_eq_true rfl, Nat.le_of_ble_eq_true rfl⟩) hP hD hS hA [0, 1] [] rfl rfl (by decide) (by decide) (fun u H locs hv hP hD hS => ?_)
  obtain ⟨x2_uq1, x2_uv03, x2_ul1, x2_uf1⟩ := u
  have hP : va_P D vwCl [(h0, .inr (1, [.ref x2_uq1, .int (0 : Int32), .int (0 : Int32), .int x2_uv03])), (x2_uq1, .inl (cB, x2_ul1, .inl x2_uf1))] H := hP.sub [0, 1] rfl
  have hD : va_D A [(h0, .inr (1, [.ref x2_uq1, .int (0 : Int32), .int (0 : Int32), .int x2_uv03])), (x2_uq1, .inl (cB, x2_ul1, .inl x2_uf1))] := hD.sub [0, 1] (by decide) rfl
  refine W.widen (k := 1) (n := 300) (Nat.le_of_ble_eq_true rfl) (Nat.le_of_ble_eq_true rfl) ?_
  refine lv_pop hx hb dJ4_append_15ec4_5 rfl ?_
  refine lv_aload_n hx hb dJ4_append_15ec4_6 rfl (lv_at hl 0 rfl) ?_
  refine W.widen (k := 1) (n := 300) (Nat.le_of_ble_eq_true rfl) (Nat.le_of_ble_eq_true rfl) ?_
  have hP : va_P D vwCl [(h0, .inr (1, [.ref x2_uq1, .int (0 : Int32), .int (0 : Int32), .int x2_uv03])), (x2_uq1, .inl (cB, x2_ul1, .inl x2_uf1))] _ := hP.sub [0, 1] rfl
  have hD : va_D A [(h0, .inr (1, [.ref x2_uq1, .int (0 : Int32), .int (0 : Int32), .int x2_uv03])), (x2_uq1, .inl (cB, x2_ul1, .inl x2_uf1))] := hD.sub [0, 1] (by decide) rfl
  exact W.aret (v := .ref h0) (rt := .object "java/lang/StringBuilder") hx hb hr (Or.inl ⟨_, rfl⟩) (Or.inr ⟨_, rfl⟩) (kWrt_ret (b0 := h0) (u := (x2_uq1, x2_uv03, x2_ul1, x2_uf1)) (w1 := fun (u : Nat × Int32 × Nat × (Nat → Int32)) => [(h0, .inr (1, [.ref (u.1), .int (0 : Int32), .int (0 : Int32), .int (u.2.1)])), ((u.1), .inl (cB, (u.2.2.1), .inl (u.2.2.2)))]) (by exact hv) hP hD hS) hS.2.2 dJ4_append_15ec4_7
set_option maxHeartbeats 4000000 in
set_option maxRecDepth 100000 in
theorem kJ7_copyOfRangeByte_39247W (l : Launch) (D : va_G) (cI cB : ClassId) (dO dT : Nat → Int32) (adK adV : Nat → Nat) (h0 : Nat) (bl : Nat) (bf : Nat → Int32) (a1 : Int32) (a2 : Int32) (sz : Nat) (post : Nat → (Nat → Int32) → Nat → (Nat → Int32) → Prop) (hv : qJ7_copyOfRangeByte_39247W bl bf a1 a2 post) : Met l yJ7_copyOfRangeByte_39247 wsJ7_copyOfRangeByte_39247 ({ frames := 1, cells := 1, slots := 300, locals := 40 }) (va_Pc [.ref h0, .int a1, .int a2] (kBWJ D cI cB dO dT adK adV sz [(h0, .inl (cB, bl, .inl bf))])) (va_Qr (fun (u : Nat × (Nat → Int32) × Nat × (Nat → Int32)) => post u.1 u.2.1 u.2.2.1 u.2.2.2) (fun (u : Nat × (Nat → Int32) × Nat × (Nat → Int32)) (q : Nat) (t : State) => kE D (va_A [(h0, .inl (cB, bl, .inl bf))] sz) [(h0, .inl (cB, (u.1), .inl (u.2.1))), (q, .inl (cB, (u.2.2.1), .inl (u.2.2.2)))] t) (va_A [(h0, .inl (cB, bl, .inl bf))] sz)) 1 300 (va_A [(h0, .inl (cB, bl, .inl bf))] sz) := by
  refine Met.ofW (cc := cJ7_copyOfRangeByte_39247) (maxL := 5) (ret := (some (.array .byte))) (by decide) rfl ?_
  intro p e s m args below meth c s₁ B hml hv0
  obtain ⟨rfl, ⟨hsz, ⟨hP, hK, hN⟩, hD0⟩, hSt⟩ := hv0
  have hx := B.exec
  have hb := B.bytes
  have hr := B.returns
  have hts := atoms_spec (ws := wsJ7_copyOfRangeByte_39247) B.pre
  have hown : s.vm.findClass RJ7 = some m.cls := findClass_of_methodNamed B.named
  have hlocks := B.notSynchronized
  subst hsz
  have hD := hD0.self (sz := s.heap.size)
  generalize hAe : va_A [(h0, .inl (cB, bl, .inl bf))] s.heap.size = A at hD hSt ⊢
  have hA : ∀ q : Nat, s.heap.size ≤ q → A q := fun q h => by rw [← hAe]; exact Or.inr h
  have hS : va_S A s.heap s.heap [] := va_S.rf
  have hl := lv_entry ([.ref h0, .int a1, .int a2]) (n := 5) (Nat.le_of_ble_eq_true rfl)
  rw [lg_entry_eq]
  generalize (lg_sl ([.ref h0, .int a1, .int a2]) ++ List.replicate (5 - (lg_sl ([.ref h0, .int a1, .int a2])).length) Slot.unset).toArray = ls at hl ⊢
  have hl : lv_has ls 5 [(0, .ref h0), (1, .int a1), (2, .int a2)] := hl
  refine lv_iload_n hx hb dJ7_copyOfRangeByte_39247_0 rfl (lv_at hl 1 rfl) ?_
  refine lv_iload_n hx hb dJ7_copyOfRangeByte_39247_1 rfl (lv_at hl 2 rfl) ?_
  refine kcall_Sv (kRun_call (va_runS (As := [.int a1, .int a2]) (rest := []) ⟨hx, hb, hml, hown, hts⟩ (kJ7_checkLength_df160 l D cI cB dO dT adK adV a1 a2 _ hv) (va_cwS 2 hts gJ7_copyOfRangeByte_39247_J7_checkLength_df160 rfl rfl rfl (by decide +kernel) ⟨Nat.le_of_ble_eq_true rfl, Nat.le_of_ble_eq_true rfl⟩) (kPreJ (As := [.int a1, .int a2]) (hP.sub (ws' := []) [] rfl) hK hN hSt hS) rfl rfl hl.1 rfl (lv_room (Nat.le_of_ble_eq_true rfl)) dJ7_copyOfRangeByte_39247_2 ⟨Nat.le_of_ble_eq_true rfl, Nat.le_of_ble_eq_true rfl⟩)) (fun hv => ?_)
  refine lv_iload_n hx hb dJ7_copyOfRangeByte_39247_5 rfl (lv_at hl 2 rfl) ?_
  refine lv_iload_n hx hb dJ7_copyOfRangeByte_39247_6 rfl (lv_at hl 1 rfl) ?_
  refine lv_isub hx hb dJ7_copyOfRangeByte_39247_7 ?_
  refine lv_istore_n (lv' := [(3, .int (a2 - a1)), (0, .ref h0), (1, .int a1), (2, .int a2)]) hx hb dJ7_copyOfRangeByte_39247_8 rfl hl (by decide) rfl (fun ls hl => ?_)
  refine lv_iload_n hx hb dJ7_copyOfRangeByte_39247_9 rfl (lv_at hl 0 rfl) ?_
  obtain ⟨hq0, hq1, hv⟩ := hv
  refine va_newa (atype := .byte) (ty := .byte) (N' := (a2 - a1).toNatClampNeg) (a0 := ((a2 - a1).toNatClampNeg, .inl (fun _ => (0 : Int32)))) hx hb (hts (.arrayClass .byte) (by decide +kernel)) rfl hK hP hD hS hA (fun _ => rfl) hq0 rfl (by show _ * 1 ≤ _; omega) (Nat.le_of_ble_eq_true rfl) (by show _ ≤ _; exact Nat.le_trans (Nat.add_le_add_left hq1 _) (Nat.le_of_ble_eq_true rfl)) dJ7_copyOfRangeByte_39247_10 (fun w10 cA H hK2 hP hD hS => ?_)
  have hcA := kSameB hK hK2
  subst hcA
  have hP : va_P D vwCl [(h0, .inl (cB, bl, .inl bf)), (w10, .inl (cB, ((a2 - a1).toNatClampNeg), .inl (fun _ => (0 : Int32))))] H := hP
  have hD : va_D A [(h0, .inl (cB, bl, .inl bf)), (w10, .inl (cB, ((a2 - a1).toNatClampNeg), .inl (fun _ => (0 : Int32))))] := hD
  refine W.widen (k := 1) (n := 300) (Nat.le_of_ble_eq_true rfl) (by omega) ?_
  refine lv_astore (lv' := [(4, .ref w10), (3, .int (a2 - a1)), (0, .ref h0), (1, .int a1), (2, .int a2)]) hx hb dJ7_copyOfRangeByte_39247_12 hl (by decide) rfl (fun ls hl => ?_)
  refine lv_aload_n hx hb dJ7_copyOfRangeByte_39247_14 rfl (lv_at hl 2 rfl) ?_
  refine lv_iload_n hx hb dJ7_copyOfRangeByte_39247_15 rfl (lv_at hl 3 rfl) ?_
  refine lv_aload hx hb dJ7_copyOfRangeByte_39247_16 (lv_at hl 0 rfl) ?_
  refine lv_iconst (v := (0 : Int32)) hx hb dJ7_copyOfRangeByte_39247_18 (by decide) ?_
  refine lv_aload_n hx hb dJ7_copyOfRangeByte_39247_19 rfl (lv_at hl 2 rfl) ?_
  refine va_alen (v := (Int32.ofNat bl)) hx hb hK hP 0 1 rfl rfl (by first | rfl | decide) dJ7_copyOfRangeByte_39247_20 ?_
  refine lv_iload_n hx hb dJ7_copyOfRangeByte_39247_21 rfl (lv_at hl 3 rfl) ?_
  refine lv_isub hx hb dJ7_copyOfRangeByte_39247_22 ?_
  refine lv_iload_n hx hb dJ7_copyOfRangeByte_39247_23 rfl (lv_at hl 1 rfl) ?_
  refine va_mmin hx hb (hml.trans hl.1.symm) hown (hts (.methodLink RJ7 304 Lib.Math.min.name) (by decide +kernel)) (hts (.static Lib.Math.min.name) (by decide +kernel)) (hts (.initialized "java/lang/Math") (by decide +kernel)) (hts (.code Lib.Math.min.name Lib.Math.min.code 2 (some .int)) (by decide +kernel)) (Nat.le_of_ble_eq_true rfl) (Nat.le_of_ble_eq_true rfl) (Nat.le_of_ble_eq_true rfl) (Nat.le_of_ble_eq_true rfl) dJ7_copyOfRangeByte_39247_24 ?_
  obtain ⟨hc1, hc2, hc3, hc4, hc5, hc6, hv⟩ := hv
  refine va_copyi (ty := .byte) hx hb (hml.trans hl.1.symm) hown (hts (.methodLink RJ7 150 arraycopyName) (by decide +kernel)) (hts (.native arraycopyName) (by decide +kernel)) (hts (.static arraycopyName) (by decide +kernel)) (hts (.initialized "java/lang/System") (by decide +kernel)) hK hP hD hS 0 1 1 1 rfl rfl rfl rfl rfl hc1 hc2 hc3 hc4 hc5 hc6 (Nat.le_of_ble_eq_true rfl) (Nat.le_of_ble_eq_true rfl) dJ7_copyOfRangeByte_39247_27 (fun H locs hP hD hS => ?_)
  have hP : va_P D vwCl [(h0, .inl (cB, bl, .inl bf)), (w10, .inl (cB, ((a2 - a1).toNatClampNeg), .inl (va_cpy bf (fun _ => (0 : Int32)) a1.toNatClampNeg (0 : Int32).toNatClampNeg (if (a2 - a1) < ((Int32.ofNat bl) - a1) then (a2 - a1) else ((Int32.ofNat bl) - a1)).toNatClampNeg)))] H := hP
  have hD : va_D A [(h0, .inl (cB, bl, .inl bf)), (w10, .inl (cB, ((a2 - a1).toNatClampNeg), .inl (va_cpy bf (fun _ => (0 : Int32)) a1.toNatClampNeg (0 : Int32).toNatClampNeg (if (a2 - a1) < ((Int32.ofNat bl) - a1) then (a2 - a1) else ((Int32.ofNat bl) - a1)).toNatClampNeg)))] := hD
  refine lv_aload hx hb dJ7_copyOfRangeByte_39247_30 (lv_at hl 0 rfl) ?_
  refine W.widen (k := 1) (n := 300) (Nat.le_of_ble_eq_true rfl) (Nat.le_of_ble_eq_true rfl) ?_
  have hP : va_P D vwCl [(h0, .inl (cB, bl, .inl bf)), (w10, .inl (cB, ((a2 - a1).toNatClampNeg), .inl (va_cpy bf (fun _ => (0 : Int32)) a1.toNatClampNeg (0 : Int32).toNatClampNeg (if (a2 - a1) < ((Int32.ofNat bl) - a1) then (a2 - a1) else ((Int32.ofNat bl) - a1)).toNatClampNeg)))] _ := hP.sub [0, 1] rfl
  have hD : va_D A [(h0, .inl (cB, bl, .inl bf)), (w10, .inl (cB, ((a2 - a1).toNatClampNeg), .inl (va_cpy bf (fun _ => (0 : Int32)) a1.toNatClampNeg (0 : Int32).toNatClampNeg (if (a2 - a1) < ((Int32.ofNat bl) - a1) then (a2 - a1) else ((Int32.ofNat bl) - a1)).toNatClampNeg)))] := hD.sub [0, 1] (by decide) rfl
  exact W.aret (v := .ref w10) (rt := .array .byte) hx hb hr (Or.inr ⟨_, rfl⟩) (Or.inr ⟨_, rfl⟩) (kWr_ret (q := w10) (u := (bl, bf, ((a2 - a1).toNatClampNeg), (va_cpy bf (fun _ => (0 : Int32)) a1.toNatClampNeg (0 : Int32).toNatClampNeg (if (a2 - a1) < ((Int32.ofNat bl) - a1) then (a2 - a1) else ((Int32.ofNat bl) - a1)).toNatClampNeg))) (w1 := fun (u : Nat × (Nat → Int32) × Nat × (Nat → Int32)) (q : Nat) => [(h0, .inl (cB, (u.1), .inl (u.2.1))), (q, .inl (cB, (u.2.2.1), .inl (u.2.2.2)))]) (by exact hv) hP hD hS) hS.2.2 dJ7_copyOfRangeByte_39247_32
set_option maxHeartbeats 4000000 in
set_option maxRecDepth 100000 in
theorem kJ7_copyOfRange_39247W (l : Launch) (D : va_G) (cI cB : ClassId) (dO dT : Nat → Int32) (adK adV : Nat → Nat) (h0 : Nat) (bl : Nat) (bf : Nat → Int32) (a1 : Int32) (a2 : Int32) (sz : Nat) (post : Nat → (Nat → Int32) → Nat → (Nat → Int32) → Prop) (hv : qJ7_copyOfRange_39247W bl bf a1 a2 post) : Met l yJ7_copyOfRange_39247 wsJ7_copyOfRange_39247 ({ frames := 2, cells := 1, slots := 300, locals := 64 }) (va_Pc [.ref h0, .int a1, .int a2] (kBWJ D cI cB dO dT adK adV sz [(h0, .inl (cB, bl, .inl bf))])) (va_Qr (fun (u : Nat × (Nat → Int32) × Nat × (Nat → Int32)) => post u.1 u.2.1 u.2.2.1 u.2.2.2) (fun (u : Nat × (Nat → Int32) × Nat × (Nat → Int32)) (q : Nat) (t : State) => kE D (va_A [(h0, .inl (cB, bl, .inl bf))] sz) [(h0, .inl (cB, (u.1), .inl (u.2.1))), (q, .inl (cB, (u.2.2.1), .inl (u.2.2.2)))] t) (va_A [(h0, .inl (cB, bl, .inl bf))] sz)) 1 300 (va_A [(h0, .inl (cB, bl, .inl bf))] sz) := by
  refine Met.ofW (cc := cJ7_copyOfRange_39247) (maxL := 3) (ret := (some (.array .byte))) (by decide) rfl ?_
  intro p e s m args below meth c s₁ B hml hv0
  obtain ⟨rfl, ⟨hsz, ⟨hP, hK, hN⟩, hD0⟩, hSt⟩ := hv0
  have hx := B.exec
  have hb := B.bytes
  have hr := B.returns
  have hts := atoms_spec (ws := wsJ7_copyOfRange_39247) B.pre
  have hown : s.vm.findClass RJ7 = some m.cls := findClass_of_methodNamed B.named
  have hlocks := B.notSynchronized
  subst hsz
  have hD := hD0.self (sz := s.heap.size)
  generalize hAe : va_A [(h0, .inl (cB, bl, .inl bf))] s.heap.size = A at hD hSt ⊢
  have hA : ∀ q : Nat, s.heap.size ≤ q → A q := fun q h => by rw [← hAe]; exact Or.inr h
  have hS : va_S A s.heap s.heap [] := va_S.rf
  have hl := lv_entry ([.ref h0, .int a1, .int a2]) (n := 3) (Nat.le_of_ble_eq_true rfl)
  rw [lg_entry_eq]
  generalize (lg_sl ([.ref h0, .int a1, .int a2]) ++ List.replicate (3 - (lg_sl ([.ref h0, .int a1, .int a2])).length) Slot.unset).toArray = ls at hl ⊢
  have hl : lv_has ls 3 [(0, .ref h0), (1, .int a1), (2, .int a2)] := hl
  refine lv_iload_n hx hb dJ7_copyOfRange_39247_0 rfl (lv_at hl 1 rfl) ?_
  refine lv_if_ne (tgt := 10) hx hb dJ7_copyOfRange_39247_1 (by decide) (fun hc => ?_) (fun hc => ?_)
  · have hv := hv.1 hc
    refine lv_aload_n hx hb dJ7_copyOfRange_39247_10 rfl (lv_at hl 0 rfl) ?_
    refine lv_iload_n hx hb dJ7_copyOfRange_39247_11 rfl (lv_at hl 1 rfl) ?_
    refine lv_iload_n hx hb dJ7_copyOfRange_39247_12 rfl (lv_at hl 2 rfl) ?_
    refine kw_r (wr := []) (va_runS (As := [.ref h0, .int a1, .int a2]) (rest := []) ⟨hx, hb, hml, hown, hts⟩ (kJ7_copyOfRangeByte_39247W l D cI cB dO dT adK adV h0 bl bf a1 a2 _ _ hv) (va_cwS 3 hts gJ7_copyOfRange_39247_J7_copyOfRangeByte_39247 rfl rfl rfl (by decide +kernel) ⟨Nat.le_of_ble_eq_true rfl, Nat.le_of_ble_eq_true rfl⟩) (kPreWJ (As := [.ref h0, .int a1, .int a2]) (hP.sub (ws' := [(h0, .inl (cB, bl, .inl bf))]) [0] rfl) (hD.sub (ws' := [(h0, .inl (cB, bl, .inl bf))]) [0] (by decide) rfl) hK hN hSt hS (va_free (wc := [(h0, .inl (cB, bl, .inl bf))]) hD hS hA [0] rfl)) rfl rfl hl.1 rfl (lv_room (Nat.le_of_ble_eq_true rfl)) dJ7_copyOfRange_39247_13 ⟨Nat.le_of_ble_eq_true rfl, Nat.le_of_ble_eq_true rfl⟩) hP hD hS hA [0] [] rfl rfl (by decide) (by decide) (fun u q13n H locs hv hP hD hS => ?_)
    obtain ⟨x13_ul0, x13_uf0, x13_ul1, x13_uf1⟩ := u
    have hP : va_P D vwCl [(h0, .inl (cB, x13_ul0, .inl x13_uf0)), (q13n, .inl (cB, x13_ul1, .inl x13_uf1))] H := hP.sub [0, 1] rfl
    have hD : va_D A [(h0, .inl (cB, x13_ul0, .inl x13_uf0)), (q13n, .inl (cB, x13_ul1, .inl x13_uf1))] := hD.sub [0, 1] (by decide) rfl
    refine W.widen (k := 1) (n := 300) (Nat.le_of_ble_eq_true rfl) (Nat.le_of_ble_eq_true rfl) ?_
    refine W.widen (k := 1) (n := 300) (Nat.le_of_ble_eq_true rfl) (Nat.le_of_ble_eq_true rfl) ?_
    have hP : va_P D vwCl [(h0, .inl (cB, x13_ul0, .inl x13_uf0)), (q13n, .inl (cB, x13_ul1, .inl x13_uf1))] _ := hP.sub [0, 1] rfl
    have hD : va_D A [(h0, .inl (cB, x13_ul0, .inl x13_uf0)), (q13n, .inl (cB, x13_ul1, .inl x13_uf1))] := hD.sub [0, 1] (by decide) rfl
    exact W.aret (v := .ref q13n) (rt := .array .byte) hx hb hr (Or.inr ⟨_, rfl⟩) (Or.inr ⟨_, rfl⟩) (kWr_ret (q := q13n) (u := (x13_ul0, x13_uf0, x13_ul1, x13_uf1)) (w1 := fun (u : Nat × (Nat → Int32) × Nat × (Nat → Int32)) (q : Nat) => [(h0, .inl (cB, (u.1), .inl (u.2.1))), (q, .inl (cB, (u.2.2.1), .inl (u.2.2.2)))]) (by exact hv) hP hD hS) hS.2.2 dJ7_copyOfRange_39247_16
  · have hv := hv.2 hc
    refine lv_iload_n hx hb dJ7_copyOfRange_39247_4 rfl (lv_at hl 2 rfl) ?_
    refine lv_aload_n hx hb dJ7_copyOfRange_39247_5 rfl (lv_at hl 0 rfl) ?_
    refine va_alen (v := (Int32.ofNat bl)) hx hb hK hP 0 1 rfl rfl (by first | rfl | decide) dJ7_copyOfRange_39247_6 ?_
    refine lv_icmp_eq (tgt := 17) hx hb dJ7_copyOfRange_39247_7 (by decide) (fun hc => ?_) (fun hc => ?_)
    · have hv := hv.1 hc
      refine lv_aload_n hx hb dJ7_copyOfRange_39247_17 rfl (lv_at hl 0 rfl) ?_
      obtain ⟨hc5, hc6, hv⟩ := hv
      refine va_clone (ad := "[B") hx hb (hml.trans hl.1.symm) hown (hts (.methodLink RJ7 310 ⟨"[B", "clone", "()Ljava/lang/Object;"⟩) (by decide +kernel)) (hts (.sameMethod "[B" "java/lang/Object" "clone" "()Ljava/lang/Object;") (by decide +kernel)) (hts (.native ⟨"java/lang/Object", "clone", "()Ljava/lang/Object;"⟩) (by decide +kernel)) (hts (.instanceMethod ⟨"java/lang/Object", "clone", "()Ljava/lang/Object;"⟩) (by decide +kernel)) (hts (.selects "[B" ⟨"[B", "clone", "()Ljava/lang/Object;"⟩ ⟨"java/lang/Object", "clone", "()Ljava/lang/Object;"⟩) (by decide +kernel)) hSt.2.2.2.2.2.2.2 hK hP hD hS hA 0 1 rfl rfl (hK.2 1 (cB, .byte) rfl).2 (kFitB hc6) (Nat.le_of_ble_eq_true rfl) (Nat.le_of_ble_eq_true rfl) (Nat.le_of_ble_eq_true rfl) (by show _ ≤ _; exact Nat.le_trans (Nat.add_le_add_left hc5 _) (Nat.le_of_ble_eq_true rfl)) dJ7_copyOfRange_39247_18 (fun w18 H hK2 hP hD hS => ?_)
      have hP : va_P D vwCl [(h0, .inl (cB, bl, .inl bf)), (w18, .inl (cB, bl, .inl bf))] H := hP
      have hD : va_D A [(h0, .inl (cB, bl, .inl bf)), (w18, .inl (cB, bl, .inl bf))] := hD
      refine W.widen (k := 1) (n := 300) (Nat.le_of_ble_eq_true rfl) (by show _ ≤ _; omega) ?_
      refine va_castA hx hb hown (hts (.classLink RJ7 311 "[B") (by decide +kernel)) hP 1 rfl (hK.2 1 (cB, .byte) rfl).2 dJ7_copyOfRange_39247_21 ?_
      refine W.widen (k := 1) (n := 300) (Nat.le_of_ble_eq_true rfl) (Nat.le_of_ble_eq_true rfl) ?_
      have hP : va_P D vwCl [(h0, .inl (cB, bl, .inl bf)), (w18, .inl (cB, bl, .inl bf))] _ := hP.sub [0, 1] rfl
      have hD : va_D A [(h0, .inl (cB, bl, .inl bf)), (w18, .inl (cB, bl, .inl bf))] := hD.sub [0, 1] (by decide) rfl
      exact W.aret (v := .ref w18) (rt := .array .byte) hx hb hr (Or.inr ⟨_, rfl⟩) (Or.inr ⟨_, rfl⟩) (kWr_ret (q := w18) (u := (bl, bf, bl, bf)) (w1 := fun (u : Nat × (Nat → Int32) × Nat × (Nat → Int32)) (q : Nat) => [(h0, .inl (cB, (u.1), .inl (u.2.1))), (q, .inl (cB, (u.2.2.1), .inl (u.2.2.2)))]) (by exact hv) hP hD hS) hS.2.2 dJ7_copyOfRange_39247_24
    · have hv := hv.2 hc
      refine lv_aload_n hx hb dJ7_copyOfRange_39247_10 rfl (lv_at hl 0 rfl) ?_
      refine lv_iload_n hx hb dJ7_copyOfRange_39247_11 rfl (lv_at hl 1 rfl) ?_
      refine lv_iload_n hx hb dJ7_copyOfRange_39247_12 rfl (lv_at hl 2 rfl) ?_
      refine kw_r (wr := []) (va_runS (As := [.ref h0, .int a1, .int a2]) (rest := []) ⟨hx, hb, hml, hown, hts⟩ (kJ7_copyOfRangeByte_39247W l D cI cB dO dT adK adV h0 bl bf a1 a2 _ _ hv) (va_cwS 3 hts gJ7_copyOfRange_39247_J7_copyOfRangeByte_39247 rfl rfl rfl (by decide +kernel) ⟨Nat.le_of_ble_eq_true rfl, Nat.le_of_ble_eq_true rfl⟩) (kPreWJ (As := [.ref h0, .int a1, .int a2]) (hP.sub (ws' := [(h0, .inl (cB, bl, .inl bf))]) [0] rfl) (hD.sub (ws' := [(h0, .inl (cB, bl, .inl bf))]) [0] (by decide) rfl) hK hN hSt hS (va_free (wc := [(h0, .inl (cB, bl, .inl bf))]) hD hS hA [0] rfl)) rfl rfl hl.1 rfl (lv_room (Nat.le_of_ble_eq_true rfl)) dJ7_copyOfRange_39247_13 ⟨Nat.le_of_ble_eq_true rfl, Nat.le_of_ble_eq_true rfl⟩) hP hD hS hA [0] [] rfl rfl (by decide) (by decide) (fun u q13n H locs hv hP hD hS => ?_)
      obtain ⟨x13_ul0, x13_uf0, x13_ul1, x13_uf1⟩ := u
      have hP : va_P D vwCl [(h0, .inl (cB, x13_ul0, .inl x13_uf0)), (q13n, .inl (cB, x13_ul1, .inl x13_uf1))] H := hP.sub [0, 1] rfl
      have hD : va_D A [(h0, .inl (cB, x13_ul0, .inl x13_uf0)), (q13n, .inl (cB, x13_ul1, .inl x13_uf1))] := hD.sub [0, 1] (by decide) rfl
      refine W.widen (k := 1) (n := 300) (Nat.le_of_ble_eq_true rfl) (Nat.le_of_ble_eq_true rfl) ?_
      refine W.widen (k := 1) (n := 300) (Nat.le_of_ble_eq_true rfl) (Nat.le_of_ble_eq_true rfl) ?_
      have hP : va_P D vwCl [(h0, .inl (cB, x13_ul0, .inl x13_uf0)), (q13n, .inl (cB, x13_ul1, .inl x13_uf1))] _ := hP.sub [0, 1] rfl
      have hD : va_D A [(h0, .inl (cB, x13_ul0, .inl x13_uf0)), (q13n, .inl (cB, x13_ul1, .inl x13_uf1))] := hD.sub [0, 1] (by decide) rfl
      exact W.aret (v := .ref q13n) (rt := .array .byte) hx hb hr (Or.inr ⟨_, rfl⟩) (Or.inr ⟨_, rfl⟩) (kWr_ret (q := q13n) (u := (x13_ul0, x13_uf0, x13_ul1, x13_uf1)) (w1 := fun (u : Nat × (Nat → Int32) × Nat × (Nat → Int32)) (q : Nat) => [(h0, .inl (cB, (u.1), .inl (u.2.1))), (q, .inl (cB, (u.2.2.1), .inl (u.2.2.2)))]) (by exact hv) hP hD hS) hS.2.2 dJ7_copyOfRange_39247_16
set_option maxHeartbeats 4000000 in
set_option maxRecDepth 100000 in
theorem kJ0_init_db425W (l : Launch) (D : va_G) (cI cB : ClassId) (dO dT : Nat → Int32) (adK adV : Nat → Nat) (h0 : Nat) (h1 : Nat) (h2 : Nat) (cn : Int32) (bl : Nat) (bf : Nat → Int32)  (sz : Nat) (post : Int32 → Nat → (Nat → Int32) → Int32 → Nat → (Nat → Int32) → Prop) (hv : qJ0_init_db425W cn bl bf post) : Met l yJ0_init_db425 wsJ0_init_db425 ({ frames := 3, cells := 1, slots := 300, locals := 86 }) (va_Pc [.ref h0, .ref h1, .null] (kBWJ D cI cB dO dT adK adV sz [(h0, .inr (0, [.null, .int (0 : Int32), .int (0 : Int32), .int (0 : Int32)])), (h1, .inr (1, [.ref h2, .int (0 : Int32), .int (0 : Int32), .int cn])), (h2, .inl (cB, bl, .inl bf))])) (va_Qv (fun (u : Nat × Int32 × Nat × (Nat → Int32) × Int32 × Nat × (Nat → Int32)) => post u.2.1 u.2.2.1 u.2.2.2.1 u.2.2.2.2.1 u.2.2.2.2.2.1 u.2.2.2.2.2.2) (fun (u : Nat × Int32 × Nat × (Nat → Int32) × Int32 × Nat × (Nat → Int32)) (t : State) => kE D (va_A [(h0, .inr (0, [.null, .int (0 : Int32), .int (0 : Int32), .int (0 : Int32)])), (h1, .inr (1, [.ref h2, .int (0 : Int32), .int (0 : Int32), .int cn])), (h2, .inl (cB, bl, .inl bf))] sz) [(h0, .inr (0, [.ref (u.1), .int (u.2.1), .int (0 : Int32), .int (0 : Int32)])), ((u.1), .inl (cB, (u.2.2.1), .inl (u.2.2.2.1))), (h1, .inr (1, [.ref h2, .int (0 : Int32), .int (0 : Int32), .int (u.2.2.2.2.1)])), (h2, .inl (cB, (u.2.2.2.2.2.1), .inl (u.2.2.2.2.2.2)))] t) (va_A [(h0, .inr (0, [.null, .int (0 : Int32), .int (0 : Int32), .int (0 : Int32)])), (h1, .inr (1, [.ref h2, .int (0 : Int32), .int (0 : Int32), .int cn])), (h2, .inl (cB, bl, .inl bf))] sz)) 1 300 (va_A [(h0, .inr (0, [.null, .int (0 : Int32), .int (0 : Int32), .int (0 : Int32)])), (h1, .inr (1, [.ref h2, .int (0 : Int32), .int (0 : Int32), .int cn])), (h2, .inl (cB, bl, .inl bf))] sz) := by
  refine Met.ofW (cc := cJ0_init_db425) (maxL := 5) (ret := none) (by decide) rfl ?_
  intro p e s m args below meth c s₁ B hml hv0
  obtain ⟨rfl, ⟨hsz, ⟨hP, hK, hN⟩, hD0⟩, hSt⟩ := hv0
  have hx := B.exec
  have hb := B.bytes
  have hr := B.returns
  have hts := atoms_spec (ws := wsJ0_init_db425) B.pre
  have hown : s.vm.findClass RJ0 = some m.cls := findClass_of_methodNamed B.named
  have hlocks := B.notSynchronized
  have hin : meth.name = "<init>" := (name_of_methodNamed B.named B.method).1
  have hi_J0 : ∀ w ∈ wsJ00, w ∈ wsJ0_init_db425 := by decide +kernel
  have hi_J4 : ∀ w ∈ wsJ40, w ∈ wsJ0_init_db425 := by decide +kernel
  have hF9 := hts (.fieldLink RJ0 9 "java/lang/String" "value" "[B") (by decide +kernel)
  have hF15 := hts (.fieldLink RJ0 15 "java/lang/String" "coder" "B") (by decide +kernel)
  have hF38 := hts (.fieldLink RJ0 38 "java/lang/String" "COMPACT_STRINGS" "Z") (by decide +kernel)
  have hF1048 := hts (.fieldLink RJ0 1048 "java/lang/AbstractStringBuilder" "maybeLatin1" "Z") (by decide +kernel)
  subst hsz
  have hD := hD0.self (sz := s.heap.size)
  generalize hAe : va_A [(h0, .inr (0, [.null, .int (0 : Int32), .int (0 : Int32), .int (0 : Int32)])), (h1, .inr (1, [.ref h2, .int (0 : Int32), .int (0 : Int32), .int cn])), (h2, .inl (cB, bl, .inl bf))] s.heap.size = A at hD hSt ⊢
  have hA : ∀ q : Nat, s.heap.size ≤ q → A q := fun q h => by rw [← hAe]; exact Or.inr h
  have hS : va_S A s.heap s.heap [] := va_S.rf
  have hl := lv_entry ([.ref h0, .ref h1, .null]) (n := 5) (Nat.le_of_ble_eq_true rfl)
  rw [lg_entry_eq]
  generalize (lg_sl ([.ref h0, .ref h1, .null]) ++ List.replicate (5 - (lg_sl ([.ref h0, .ref h1, .null])).length) Slot.unset).toArray = ls at hl ⊢
  have hl : lv_has ls 5 [(0, .ref h0), (1, .ref h1), (2, .null)] := hl
  refine lv_aload_n hx hb dJ0_init_db425_0 rfl (lv_at hl 0 rfl) ?_
  refine W.objInit hx hb hown (hts (.methodLink RJ0 1 objectInit) (by decide +kernel)) (hts (.instanceMethod objectInit) (by decide +kernel)) (hts (.code objectInit ⟨#[0xb1]⟩ 1 none) (by decide +kernel)) rfl (by rw [hml]; exact hl.1) rfl dJ0_init_db425_1 (Nat.le_of_ble_eq_true rfl) (Nat.le_of_ble_eq_true rfl) ?_
  refine W.eq (g2 := F0 m 4 ls _) rfl ?_
  refine lv_aload_n hx hb dJ0_init_db425_4 rfl (lv_at hl 1 rfl) ?_
  refine kcall_Sr (kRun_call (va_runU (As := []) (rest := []) ⟨hx, hb, hml, hown, hts⟩ (kJ5_getValue_6d5f1 l D cI cB dO dT adK adV h1 h2 cn bl bf _ hv) (va_cwU 0 hts gJ0_init_db425_J5_getValue_6d5f1_u552J4 rfl rfl rfl rfl (by decide +kernel) ⟨Nat.le_of_ble_eq_true rfl, Nat.le_of_ble_eq_true rfl⟩) ⟨(kPreJ (As := [.ref h1]) (hP.sub (ws' := [(h1, .inr (1, [.ref h2, .int (0 : Int32), .int (0 : Int32), .int cn])), (h2, .inl (cB, bl, .inl bf))]) [1, 2] rfl) hK hN hSt hS).1, (kRecv (hP.sub (ws' := [(h1, .inr (1, [.ref h2, .int (0 : Int32), .int (0 : Int32), .int cn]))]) [1] rfl) hK 1 rfl rfl rfl), (kPreJ (As := [.ref h1]) (hP.sub (ws' := [(h1, .inr (1, [.ref h2, .int (0 : Int32), .int (0 : Int32), .int cn])), (h2, .inl (cB, bl, .inl bf))]) [1, 2] rfl) hK hN hSt hS).2⟩ rfl rfl hl.1 rfl (lv_room (Nat.le_of_ble_eq_true rfl)) dJ0_init_db425_5 ⟨Nat.le_of_ble_eq_true rfl, Nat.le_of_ble_eq_true rfl⟩)) (fun hv => ?_)
  refine lv_astore_n (lv' := [(3, .ref h2), (0, .ref h0), (1, .ref h1), (2, .null)]) hx hb dJ0_init_db425_8 rfl hl (by decide) rfl (fun ls hl => ?_)
  refine lv_aload_n hx hb dJ0_init_db425_9 rfl (lv_at hl 2 rfl) ?_
  refine vp_callSi (kRun_call (va_runU (As := []) (rest := []) ⟨hx, hb, hml, hown, hts⟩ (kJ4_length_8abf5 l D cI cB dO dT adK adV h1 h2 cn bl bf _ hv) (va_cwO 0 hts gJ0_init_db425_J4_length_8abf5_u549J4 rfl rfl rfl (b0 := cJ5_length_8abf5) (m0 := 1) (r0 := (some .int)) (by decide +kernel : Cond.code ⟨"java/lang/AbstractStringBuilder", "length", "()I"⟩ cJ5_length_8abf5 1 (some .int) ∈ wsJ0_init_db425) (by decide +kernel) ⟨Nat.le_of_ble_eq_true rfl, Nat.le_of_ble_eq_true rfl⟩) ⟨(kPreJ (As := [.ref h1]) (hP.sub (ws' := [(h1, .inr (1, [.ref h2, .int (0 : Int32), .int (0 : Int32), .int cn])), (h2, .inl (cB, bl, .inl bf))]) [1, 2] rfl) hK hN hSt hS).1, (kRecv (hP.sub (ws' := [(h1, .inr (1, [.ref h2, .int (0 : Int32), .int (0 : Int32), .int cn]))]) [1] rfl) hK 1 rfl rfl rfl), (kPreJ (As := [.ref h1]) (hP.sub (ws' := [(h1, .inr (1, [.ref h2, .int (0 : Int32), .int (0 : Int32), .int cn])), (h2, .inl (cB, bl, .inl bf))]) [1, 2] rfl) hK hN hSt hS).2⟩ rfl rfl hl.1 rfl (lv_room (Nat.le_of_ble_eq_true rfl)) dJ0_init_db425_10 ⟨Nat.le_of_ble_eq_true rfl, Nat.le_of_ble_eq_true rfl⟩)) (fun r10 hv => ?_)
  refine lv_istore (lv' := [(4, .int r10), (3, .ref h2), (0, .ref h0), (1, .ref h1), (2, .null)]) hx hb dJ0_init_db425_13 hl (by decide) rfl (fun ls hl => ?_)
  refine lv_aload_n hx hb dJ0_init_db425_15 rfl (lv_at hl 3 rfl) ?_
  refine vp_callSi (kRun_call (va_runU (As := []) (rest := []) ⟨hx, hb, hml, hown, hts⟩ (kJ5_isLatin1_aae02 l D cI cB dO dT adK adV h1 h2 cn bl bf _ hv) (va_cwU 0 hts gJ0_init_db425_J5_isLatin1_aae02_u1047J4 rfl rfl rfl rfl (by decide +kernel) ⟨Nat.le_of_ble_eq_true rfl, Nat.le_of_ble_eq_true rfl⟩) ⟨(kPreJ (As := [.ref h1]) (hP.sub (ws' := [(h1, .inr (1, [.ref h2, .int (0 : Int32), .int (0 : Int32), .int cn])), (h2, .inl (cB, bl, .inl bf))]) [1, 2] rfl) hK hN hSt hS).1, (kRecv (hP.sub (ws' := [(h1, .inr (1, [.ref h2, .int (0 : Int32), .int (0 : Int32), .int cn]))]) [1] rfl) hK 1 rfl rfl rfl), (kPreJ (As := [.ref h1]) (hP.sub (ws' := [(h1, .inr (1, [.ref h2, .int (0 : Int32), .int (0 : Int32), .int cn])), (h2, .inl (cB, bl, .inl bf))]) [1, 2] rfl) hK hN hSt hS).2⟩ rfl rfl hl.1 rfl (lv_room (Nat.le_of_ble_eq_true rfl)) dJ0_init_db425_16 ⟨Nat.le_of_ble_eq_true rfl, Nat.le_of_ble_eq_true rfl⟩)) (fun r16 hv => ?_)
  refine lv_if_eq (tgt := 41) hx hb dJ0_init_db425_19 (by decide) (fun hc => ?_) (fun hc => ?_)
  · have hv := hv.1 hc
    refine va_gets (C := "java/lang/String") (n := "COMPACT_STRINGS") (d := "Z") (v := .int 1) hx hb hSt.1 hS hown hF38 (fun _ h9 => h9) dJ0_init_db425_41 ?_
    have J79 : ∀  (H : Heap) (locs : List Loc) (ls : Array Slot), va_P D vwCl [(h0, .inr (0, [.null, .int (0 : Int32), .int (0 : Int32), .int (0 : Int32)])), (h1, .inr (1, [.ref h2, .int (0 : Int32), .int (0 : Int32), .int cn])), (h2, .inl (cB, bl, .inl bf))] H → va_D A [(h0, .inr (0, [.null, .int (0 : Int32), .int (0 : Int32), .int (0 : Int32)])), (h1, .inr (1, [.ref h2, .int (0 : Int32), .int (0 : Int32), .int cn])), (h2, .inl (cB, bl, .inl bf))] → va_S A s.heap H locs → qJ0_init_db425W_j79 cn bl bf r10 post → lv_has ls 5 [(0, .ref h0), (1, .ref h1), (2, .null), (3, .ref h2), (4, .int r10)] → W p l e (headSpec wsJ0_init_db425 ({ frames := 3, cells := 1, slots := 300, locals := 86 })).room s m ([.ref h0, .ref h1, .null] : List Value).toArray below meth c H locs 0 0 (MQ below (va_Qv (fun (u : Nat × Int32 × Nat × (Nat → Int32) × Int32 × Nat × (Nat → Int32)) => post u.2.1 u.2.2.1 u.2.2.2.1 u.2.2.2.2.1 u.2.2.2.2.2.1 u.2.2.2.2.2.2) (fun (u : Nat × Int32 × Nat × (Nat → Int32) × Int32 × Nat × (Nat → Int32)) (t : State) => kE D A [(h0, .inr (0, [.ref (u.1), .int (u.2.1), .int (0 : Int32), .int (0 : Int32)])), ((u.1), .inl (cB, (u.2.2.1), .inl (u.2.2.2.1))), (h1, .inr (1, [.ref h2, .int (0 : Int32), .int (0 : Int32), .int (u.2.2.2.2.1)])), (h2, .inl (cB, (u.2.2.2.2.2.1), .inl (u.2.2.2.2.2.2)))] t) A) ([.ref h0, .ref h1, .null] : List Value).toArray s 1 300 A) (F0 m 79 ls []) := by
      intro  H locs ls hP hD hS hv hl
      refine lv_aload_n hx hb dJ0_init_db425_79 rfl (lv_at hl 0 rfl) ?_
      refine lv_iconst (v := (1 : Int32)) hx hb dJ0_init_db425_80 (by decide) ?_
      refine va_putF (D := D) (ci := 0) (v := .int (1 : Int32)) (ty := .byte) (C := RJ0) (T := TJ0) (N := 4) hx hb hts hi_J0 tyJ0 tyJ0_ok nmJ0 hown hK hP hD hS 0 rfl rfl 1 (by decide) hF15 (fun _ h9 => h9) rfl hin rfl (by decide +kernel) rfl rfl (Nat.le_of_ble_eq_true rfl) dJ0_init_db425_81 (fun H locs hP hD hS => ?_)
      have hP : va_P D vwCl [(h0, .inr (0, [.null, .int (1 : Int32), .int (0 : Int32), .int (0 : Int32)])), (h1, .inr (1, [.ref h2, .int (0 : Int32), .int (0 : Int32), .int cn])), (h2, .inl (cB, bl, .inl bf))] H := hP
      have hD : va_D A [(h0, .inr (0, [.null, .int (1 : Int32), .int (0 : Int32), .int (0 : Int32)])), (h1, .inr (1, [.ref h2, .int (0 : Int32), .int (0 : Int32), .int cn])), (h2, .inl (cB, bl, .inl bf))] := hD
      refine lv_aload_n hx hb dJ0_init_db425_84 rfl (lv_at hl 0 rfl) ?_
      refine lv_aload_n hx hb dJ0_init_db425_85 rfl (lv_at hl 3 rfl) ?_
      refine lv_iconst (v := (0 : Int32)) hx hb dJ0_init_db425_86 (by decide) ?_
      refine lv_iload hx hb dJ0_init_db425_87 (lv_at hl 4 rfl) ?_
      refine lv_iconst (v := (1 : Int32)) hx hb dJ0_init_db425_89 (by decide) ?_
      refine lv_ishl hx hb dJ0_init_db425_90 ?_
      refine kw_r (wr := [(h0, .inr (0, [.null, .int (1 : Int32), .int (0 : Int32), .int (0 : Int32)])), (h1, .inr (1, [.ref h2, .int (0 : Int32), .int (0 : Int32), .int cn]))]) (va_runS (As := [.ref h2, .int (0 : Int32), .int (r10 <<< ((1 : Int32) &&& (31 : Int32)))]) (rest := [.ref h0]) ⟨hx, hb, hml, hown, hts⟩ (kJ7_copyOfRange_39247W l D cI cB dO dT adK adV h2 bl bf (0 : Int32) (r10 <<< ((1 : Int32) &&& (31 : Int32))) _ _ hv) (va_cwS 3 hts gJ0_init_db425_J7_copyOfRange_39247 rfl rfl rfl (by decide +kernel) ⟨Nat.le_of_ble_eq_true rfl, Nat.le_of_ble_eq_true rfl⟩) (kPreWJ (As := [.ref h2, .int (0 : Int32), .int (r10 <<< ((1 : Int32) &&& (31 : Int32)))]) (hP.sub (ws' := [(h2, .inl (cB, bl, .inl bf))]) [2] rfl) (hD.sub (ws' := [(h2, .inl (cB, bl, .inl bf))]) [2] (by decide) rfl) hK hN hSt hS (va_free (wc := [(h2, .inl (cB, bl, .inl bf))]) hD hS hA [2] rfl)) rfl rfl hl.1 rfl (lv_room (Nat.le_of_ble_eq_true rfl)) dJ0_init_db425_91 ⟨Nat.le_of_ble_eq_true rfl, Nat.le_of_ble_eq_true rfl⟩) hP hD hS hA [2] [0, 1] rfl rfl (by decide) (by decide) (fun u q91n H locs hv hP hD hS => ?_)
      obtain ⟨x91_ul0, x91_uf0, x91_ul1, x91_uf1⟩ := u
      have hP : va_P D vwCl [(h0, .inr (0, [.null, .int (1 : Int32), .int (0 : Int32), .int (0 : Int32)])), (h1, .inr (1, [.ref h2, .int (0 : Int32), .int (0 : Int32), .int cn])), (h2, .inl (cB, x91_ul0, .inl x91_uf0)), (q91n, .inl (cB, x91_ul1, .inl x91_uf1))] H := hP.sub [0, 1, 2, 3] rfl
      have hD : va_D A [(h0, .inr (0, [.null, .int (1 : Int32), .int (0 : Int32), .int (0 : Int32)])), (h1, .inr (1, [.ref h2, .int (0 : Int32), .int (0 : Int32), .int cn])), (h2, .inl (cB, x91_ul0, .inl x91_uf0)), (q91n, .inl (cB, x91_ul1, .inl x91_uf1))] := hD.sub [0, 1, 2, 3] (by decide) rfl
      refine W.widen (k := 1) (n := 300) (Nat.le_of_ble_eq_true rfl) (Nat.le_of_ble_eq_true rfl) ?_
      refine va_putF (D := D) (ci := 0) (v := .ref q91n) (ty := .array .byte) (C := RJ0) (T := TJ0) (N := 4) hx hb hts hi_J0 tyJ0 tyJ0_ok nmJ0 hown hK hP hD hS 0 rfl rfl 0 (by decide) hF9 (fun _ h9 => h9) rfl hin rfl (by decide +kernel) rfl rfl (Nat.le_of_ble_eq_true rfl) dJ0_init_db425_94 (fun H locs hP hD hS => ?_)
      have hP : va_P D vwCl [(h0, .inr (0, [.ref q91n, .int (1 : Int32), .int (0 : Int32), .int (0 : Int32)])), (h1, .inr (1, [.ref h2, .int (0 : Int32), .int (0 : Int32), .int cn])), (h2, .inl (cB, x91_ul0, .inl x91_uf0)), (q91n, .inl (cB, x91_ul1, .inl x91_uf1))] H := hP
      have hD : va_D A [(h0, .inr (0, [.ref q91n, .int (1 : Int32), .int (0 : Int32), .int (0 : Int32)])), (h1, .inr (1, [.ref h2, .int (0 : Int32), .int (0 : Int32), .int cn])), (h2, .inl (cB, x91_ul0, .inl x91_uf0)), (q91n, .inl (cB, x91_ul1, .inl x91_uf1))] := hD
      refine W.widen (k := 1) (n := 300) (Nat.le_of_ble_eq_true rfl) (Nat.le_of_ble_eq_true rfl) ?_
      have hP : va_P D vwCl [(h0, .inr (0, [.ref q91n, .int (1 : Int32), .int (0 : Int32), .int (0 : Int32)])), (q91n, .inl (cB, x91_ul1, .inl x91_uf1)), (h1, .inr (1, [.ref h2, .int (0 : Int32), .int (0 : Int32), .int cn])), (h2, .inl (cB, x91_ul0, .inl x91_uf0))] _ := hP.sub [0, 3, 1, 2] rfl
      have hD : va_D A [(h0, .inr (0, [.ref q91n, .int (1 : Int32), .int (0 : Int32), .int (0 : Int32)])), (q91n, .inl (cB, x91_ul1, .inl x91_uf1)), (h1, .inr (1, [.ref h2, .int (0 : Int32), .int (0 : Int32), .int cn])), (h2, .inl (cB, x91_ul0, .inl x91_uf0))] := hD.sub [0, 3, 1, 2] (by decide) rfl
      exact W.vret hx hb hr (kWv_ret (u := (q91n, (1 : Int32), x91_ul1, x91_uf1, cn, x91_ul0, x91_uf0)) (w1 := fun (u : Nat × Int32 × Nat × (Nat → Int32) × Int32 × Nat × (Nat → Int32)) => [(h0, .inr (0, [.ref (u.1), .int (u.2.1), .int (0 : Int32), .int (0 : Int32)])), ((u.1), .inl (cB, (u.2.2.1), .inl (u.2.2.2.1))), (h1, .inr (1, [.ref h2, .int (0 : Int32), .int (0 : Int32), .int (u.2.2.2.2.1)])), (h2, .inl (cB, (u.2.2.2.2.2.1), .inl (u.2.2.2.2.2.2)))]) (by exact hv) hP hD hS) hS.2.2 dJ0_init_db425_97
    refine lv_if_eq (tgt := 79) hx hb dJ0_init_db425_44 (by decide) (fun hc => absurd hc (by decide)) (fun hc => ?_)
    refine lv_aload_n hx hb dJ0_init_db425_47 rfl (lv_at hl 3 rfl) ?_
    refine va_get (D := D) (ci := 1) (v := .int (0 : Int32)) (C := RJ4) (T := TJ4) (N := 4) hx hb hts hi_J4 hown hK hP 1 rfl rfl 2 (by decide) hF1048 (fun _ h9 => h9) rfl dJ0_init_db425_48 ?_
    refine lv_if_eq (tgt := 79) hx hb dJ0_init_db425_51 (by decide) (fun hc => ?_) (fun hc => absurd hc (by decide))
    refine W.widen (k := 0) (n := 0) (Nat.le_of_ble_eq_true rfl) (Nat.le_of_ble_eq_true rfl) ?_
    exact J79  _ _ _ hP hD hS hv (lv_sub hl [2, 3, 4, 1, 0] rfl)
  · have hv := hv.2 hc
    refine lv_aload_n hx hb dJ0_init_db425_22 rfl (lv_at hl 2 rfl) ?_
    refine lv_iconst (v := (0 : Int32)) hx hb dJ0_init_db425_23 (by decide) ?_
    refine va_putF (D := D) (ci := 0) (v := .int (0 : Int32)) (ty := .byte) (C := RJ0) (T := TJ0) (N := 4) hx hb hts hi_J0 tyJ0 tyJ0_ok nmJ0 hown hK hP hD hS 0 rfl rfl 1 (by decide) hF15 (fun _ h9 => h9) rfl hin rfl (by decide +kernel) rfl rfl (Nat.le_of_ble_eq_true rfl) dJ0_init_db425_24 (fun H locs hP hD hS => ?_)
    have hP : va_P D vwCl [(h0, .inr (0, [.null, .int (0 : Int32), .int (0 : Int32), .int (0 : Int32)])), (h1, .inr (1, [.ref h2, .int (0 : Int32), .int (0 : Int32), .int cn])), (h2, .inl (cB, bl, .inl bf))] H := hP
    have hD : va_D A [(h0, .inr (0, [.null, .int (0 : Int32), .int (0 : Int32), .int (0 : Int32)])), (h1, .inr (1, [.ref h2, .int (0 : Int32), .int (0 : Int32), .int cn])), (h2, .inl (cB, bl, .inl bf))] := hD
    refine lv_aload_n hx hb dJ0_init_db425_27 rfl (lv_at hl 2 rfl) ?_
    refine lv_aload_n hx hb dJ0_init_db425_28 rfl (lv_at hl 1 rfl) ?_
    refine lv_iconst (v := (0 : Int32)) hx hb dJ0_init_db425_29 (by decide) ?_
    refine lv_iload hx hb dJ0_init_db425_30 (lv_at hl 0 rfl) ?_
    refine kw_r (wr := [(h0, .inr (0, [.null, .int (0 : Int32), .int (0 : Int32), .int (0 : Int32)])), (h1, .inr (1, [.ref h2, .int (0 : Int32), .int (0 : Int32), .int cn]))]) (va_runS (As := [.ref h2, .int (0 : Int32), .int r10]) (rest := [.ref h0]) ⟨hx, hb, hml, hown, hts⟩ (kJ7_copyOfRange_39247W l D cI cB dO dT adK adV h2 bl bf (0 : Int32) r10 _ _ hv) (va_cwS 3 hts gJ0_init_db425_J7_copyOfRange_39247 rfl rfl rfl (by decide +kernel) ⟨Nat.le_of_ble_eq_true rfl, Nat.le_of_ble_eq_true rfl⟩) (kPreWJ (As := [.ref h2, .int (0 : Int32), .int r10]) (hP.sub (ws' := [(h2, .inl (cB, bl, .inl bf))]) [2] rfl) (hD.sub (ws' := [(h2, .inl (cB, bl, .inl bf))]) [2] (by decide) rfl) hK hN hSt hS (va_free (wc := [(h2, .inl (cB, bl, .inl bf))]) hD hS hA [2] rfl)) rfl rfl hl.1 rfl (lv_room (Nat.le_of_ble_eq_true rfl)) dJ0_init_db425_32 ⟨Nat.le_of_ble_eq_true rfl, Nat.le_of_ble_eq_true rfl⟩) hP hD hS hA [2] [0, 1] rfl rfl (by decide) (by decide) (fun u q32n H locs hv hP hD hS => ?_)
    obtain ⟨x32_ul0, x32_uf0, x32_ul1, x32_uf1⟩ := u
    have hP : va_P D vwCl [(h0, .inr (0, [.null, .int (0 : Int32), .int (0 : Int32), .int (0 : Int32)])), (h1, .inr (1, [.ref h2, .int (0 : Int32), .int (0 : Int32), .int cn])), (h2, .inl (cB, x32_ul0, .inl x32_uf0)), (q32n, .inl (cB, x32_ul1, .inl x32_uf1))] H := hP.sub [0, 1, 2, 3] rfl
    have hD : va_D A [(h0, .inr (0, [.null, .int (0 : Int32), .int (0 : Int32), .int (0 : Int32)])), (h1, .inr (1, [.ref h2, .int (0 : Int32), .int (0 : Int32), .int cn])), (h2, .inl (cB, x32_ul0, .inl x32_uf0)), (q32n, .inl (cB, x32_ul1, .inl x32_uf1))] := hD.sub [0, 1, 2, 3] (by decide) rfl
    refine W.widen (k := 1) (n := 300) (Nat.le_of_ble_eq_true rfl) (Nat.le_of_ble_eq_true rfl) ?_
    refine va_putF (D := D) (ci := 0) (v := .ref q32n) (ty := .array .byte) (C := RJ0) (T := TJ0) (N := 4) hx hb hts hi_J0 tyJ0 tyJ0_ok nmJ0 hown hK hP hD hS 0 rfl rfl 0 (by decide) hF9 (fun _ h9 => h9) rfl hin rfl (by decide +kernel) rfl rfl (Nat.le_of_ble_eq_true rfl) dJ0_init_db425_35 (fun H locs hP hD hS => ?_)
    have hP : va_P D vwCl [(h0, .inr (0, [.ref q32n, .int (0 : Int32), .int (0 : Int32), .int (0 : Int32)])), (h1, .inr (1, [.ref h2, .int (0 : Int32), .int (0 : Int32), .int cn])), (h2, .inl (cB, x32_ul0, .inl x32_uf0)), (q32n, .inl (cB, x32_ul1, .inl x32_uf1))] H := hP
    have hD : va_D A [(h0, .inr (0, [.ref q32n, .int (0 : Int32), .int (0 : Int32), .int (0 : Int32)])), (h1, .inr (1, [.ref h2, .int (0 : Int32), .int (0 : Int32), .int cn])), (h2, .inl (cB, x32_ul0, .inl x32_uf0)), (q32n, .inl (cB, x32_ul1, .inl x32_uf1))] := hD
    refine lv_goto (tgt := 97) hx hb dJ0_init_db425_38 (by decide) ?_
    refine W.widen (k := 1) (n := 300) (Nat.le_of_ble_eq_true rfl) (Nat.le_of_ble_eq_true rfl) ?_
    have hP : va_P D vwCl [(h0, .inr (0, [.ref q32n, .int (0 : Int32), .int (0 : Int32), .int (0 : Int32)])), (q32n, .inl (cB, x32_ul1, .inl x32_uf1)), (h1, .inr (1, [.ref h2, .int (0 : Int32), .int (0 : Int32), .int cn])), (h2, .inl (cB, x32_ul0, .inl x32_uf0))] _ := hP.sub [0, 3, 1, 2] rfl
    have hD : va_D A [(h0, .inr (0, [.ref q32n, .int (0 : Int32), .int (0 : Int32), .int (0 : Int32)])), (q32n, .inl (cB, x32_ul1, .inl x32_uf1)), (h1, .inr (1, [.ref h2, .int (0 : Int32), .int (0 : Int32), .int cn])), (h2, .inl (cB, x32_ul0, .inl x32_uf0))] := hD.sub [0, 3, 1, 2] (by decide) rfl
    exact W.vret hx hb hr (kWv_ret (u := (q32n, (0 : Int32), x32_ul1, x32_uf1, cn, x32_ul0, x32_uf0)) (w1 := fun (u : Nat × Int32 × Nat × (Nat → Int32) × Int32 × Nat × (Nat → Int32)) => [(h0, .inr (0, [.ref (u.1), .int (u.2.1), .int (0 : Int32), .int (0 : Int32)])), ((u.1), .inl (cB, (u.2.2.1), .inl (u.2.2.2.1))), (h1, .inr (1, [.ref h2, .int (0 : Int32), .int (0 : Int32), .int (u.2.2.2.2.1)])), (h2, .inl (cB, (u.2.2.2.2.2.1), .inl (u.2.2.2.2.2.2)))]) (by exact hv) hP hD hS) hS.2.2 dJ0_init_db425_97
set_option maxHeartbeats 4000000 in
set_option maxRecDepth 100000 in
theorem kJ0_init_81219W (l : Launch) (D : va_G) (cI cB : ClassId) (dO dT : Nat → Int32) (adK adV : Nat → Nat) (h0 : Nat) (h1 : Nat) (h2 : Nat) (cn : Int32) (bl : Nat) (bf : Nat → Int32)  (sz : Nat) (post : Int32 → Nat → (Nat → Int32) → Int32 → Int32 → Int32 → Nat → (Nat → Int32) → Prop) (hv : qJ0_init_81219W cn bl bf post) : Met l yJ0_init_81219 wsJ0_init_81219 ({ frames := 4, cells := 1, slots := 300, locals := 110 }) (va_Pc [.ref h0, .ref h1] (kBWJ D cI cB dO dT adK adV sz [(h0, .inr (0, [.null, .int (0 : Int32), .int (0 : Int32), .int (0 : Int32)])), (h1, .inr (1, [.ref h2, .int (0 : Int32), .int (0 : Int32), .int cn])), (h2, .inl (cB, bl, .inl bf))])) (va_Qv (fun (u : Nat × Int32 × Nat × (Nat → Int32) × Int32 × Int32 × Int32 × Nat × (Nat → Int32)) => post u.2.1 u.2.2.1 u.2.2.2.1 u.2.2.2.2.1 u.2.2.2.2.2.1 u.2.2.2.2.2.2.1 u.2.2.2.2.2.2.2.1 u.2.2.2.2.2.2.2.2) (fun (u : Nat × Int32 × Nat × (Nat → Int32) × Int32 × Int32 × Int32 × Nat × (Nat → Int32)) (t : State) => kE D (va_A [(h0, .inr (0, [.null, .int (0 : Int32), .int (0 : Int32), .int (0 : Int32)])), (h1, .inr (1, [.ref h2, .int (0 : Int32), .int (0 : Int32), .int cn])), (h2, .inl (cB, bl, .inl bf))] sz) [(h0, .inr (0, [.ref (u.1), .int (u.2.1), .int (0 : Int32), .int (0 : Int32)])), ((u.1), .inl (cB, (u.2.2.1), .inl (u.2.2.2.1))), (h1, .inr (1, [.ref h2, .int (u.2.2.2.2.1), .int (u.2.2.2.2.2.1), .int (u.2.2.2.2.2.2.1)])), (h2, .inl (cB, (u.2.2.2.2.2.2.2.1), .inl (u.2.2.2.2.2.2.2.2)))] t) (va_A [(h0, .inr (0, [.null, .int (0 : Int32), .int (0 : Int32), .int (0 : Int32)])), (h1, .inr (1, [.ref h2, .int (0 : Int32), .int (0 : Int32), .int cn])), (h2, .inl (cB, bl, .inl bf))] sz)) 1 300 (va_A [(h0, .inr (0, [.null, .int (0 : Int32), .int (0 : Int32), .int (0 : Int32)])), (h1, .inr (1, [.ref h2, .int (0 : Int32), .int (0 : Int32), .int cn])), (h2, .inl (cB, bl, .inl bf))] sz) := by
  refine Met.ofW (cc := cJ0_init_81219) (maxL := 2) (ret := none) (by decide) rfl ?_
  intro p e s m args below meth c s₁ B hml hv0
  obtain ⟨rfl, ⟨hsz, ⟨hP, hK, hN⟩, hD0⟩, hSt⟩ := hv0
  have hx := B.exec
  have hb := B.bytes
  have hr := B.returns
  have hts := atoms_spec (ws := wsJ0_init_81219) B.pre
  have hown : s.vm.findClass RJ0 = some m.cls := findClass_of_methodNamed B.named
  have hlocks := B.notSynchronized
  have hin : meth.name = "<init>" := (name_of_methodNamed B.named B.method).1
  subst hsz
  have hD := hD0.self (sz := s.heap.size)
  generalize hAe : va_A [(h0, .inr (0, [.null, .int (0 : Int32), .int (0 : Int32), .int (0 : Int32)])), (h1, .inr (1, [.ref h2, .int (0 : Int32), .int (0 : Int32), .int cn])), (h2, .inl (cB, bl, .inl bf))] s.heap.size = A at hD hSt ⊢
  have hA : ∀ q : Nat, s.heap.size ≤ q → A q := fun q h => by rw [← hAe]; exact Or.inr h
  have hS : va_S A s.heap s.heap [] := va_S.rf
  have hl := lv_entry ([.ref h0, .ref h1]) (n := 2) (Nat.le_of_ble_eq_true rfl)
  rw [lg_entry_eq]
  generalize (lg_sl ([.ref h0, .ref h1]) ++ List.replicate (2 - (lg_sl ([.ref h0, .ref h1])).length) Slot.unset).toArray = ls at hl ⊢
  have hl : lv_has ls 2 [(0, .ref h0), (1, .ref h1)] := hl
  refine lv_aload_n hx hb dJ0_init_81219_0 rfl (lv_at hl 0 rfl) ?_
  refine lv_aload_n hx hb dJ0_init_81219_1 rfl (lv_at hl 1 rfl) ?_
  refine lv_null hx hb dJ0_init_81219_2 ?_
  refine kw_v (wr := []) (va_runI (As := [.ref h1, .null]) (rest := []) ⟨hx, hb, hml, hown, hts⟩ (kJ0_init_db425W l D cI cB dO dT adK adV h0 h1 h2 cn bl bf _ _ hv) (cwI 2 hts gJ0_init_81219_J0_init_db425 rfl rfl rfl (hts (.initialized RJ0) (by decide +kernel)) (hts (.methodLink RJ0 489 yJ0_init_db425) (by decide +kernel)) (hts (.instanceMethod yJ0_init_db425) (by decide +kernel)) rfl (by decide +kernel) ⟨Nat.le_of_ble_eq_true rfl, Nat.le_of_ble_eq_true rfl⟩) (kPreWJ (As := [.ref h0, .ref h1, .null]) (hP.sub (ws' := [(h0, .inr (0, [.null, .int (0 : Int32), .int (0 : Int32), .int (0 : Int32)])), (h1, .inr (1, [.ref h2, .int (0 : Int32), .int (0 : Int32), .int cn])), (h2, .inl (cB, bl, .inl bf))]) [0, 1, 2] rfl) (hD.sub (ws' := [(h0, .inr (0, [.null, .int (0 : Int32), .int (0 : Int32), .int (0 : Int32)])), (h1, .inr (1, [.ref h2, .int (0 : Int32), .int (0 : Int32), .int cn])), (h2, .inl (cB, bl, .inl bf))]) [0, 1, 2] (by decide) rfl) hK hN hSt hS (va_free (wc := [(h0, .inr (0, [.null, .int (0 : Int32), .int (0 : Int32), .int (0 : Int32)])), (h1, .inr (1, [.ref h2, .int (0 : Int32), .int (0 : Int32), .int cn])), (h2, .inl (cB, bl, .inl bf))]) hD hS hA [0, 1, 2] rfl)) rfl rfl hl.1 rfl (lv_room (Nat.le_of_ble_eq_true rfl)) dJ0_init_81219_3 ⟨Nat.le_of_ble_eq_true rfl, Nat.le_of_ble_eq_true rfl⟩) hP hD hS hA [0, 1, 2] [] rfl rfl (by decide) (by decide) (fun u H locs hv hP hD hS => ?_)
  obtain ⟨x3_uq1, x3_uv01, x3_ul1, x3_uf1, x3_uv23, x3_ul3, x3_uf3⟩ := u
  have hP : va_P D vwCl [(h0, .inr (0, [.ref x3_uq1, .int x3_uv01, .int (0 : Int32), .int (0 : Int32)])), (x3_uq1, .inl (cB, x3_ul1, .inl x3_uf1)), (h1, .inr (1, [.ref h2, .int (0 : Int32), .int (0 : Int32), .int x3_uv23])), (h2, .inl (cB, x3_ul3, .inl x3_uf3))] H := hP.sub [0, 1, 2, 3] rfl
  have hD : va_D A [(h0, .inr (0, [.ref x3_uq1, .int x3_uv01, .int (0 : Int32), .int (0 : Int32)])), (x3_uq1, .inl (cB, x3_ul1, .inl x3_uf1)), (h1, .inr (1, [.ref h2, .int (0 : Int32), .int (0 : Int32), .int x3_uv23])), (h2, .inl (cB, x3_ul3, .inl x3_uf3))] := hD.sub [0, 1, 2, 3] (by decide) rfl
  refine W.widen (k := 1) (n := 300) (Nat.le_of_ble_eq_true rfl) (Nat.le_of_ble_eq_true rfl) ?_
  refine W.widen (k := 1) (n := 300) (Nat.le_of_ble_eq_true rfl) (Nat.le_of_ble_eq_true rfl) ?_
  have hP : va_P D vwCl [(h0, .inr (0, [.ref x3_uq1, .int x3_uv01, .int (0 : Int32), .int (0 : Int32)])), (x3_uq1, .inl (cB, x3_ul1, .inl x3_uf1)), (h1, .inr (1, [.ref h2, .int (0 : Int32), .int (0 : Int32), .int x3_uv23])), (h2, .inl (cB, x3_ul3, .inl x3_uf3))] _ := hP.sub [0, 1, 2, 3] rfl
  have hD : va_D A [(h0, .inr (0, [.ref x3_uq1, .int x3_uv01, .int (0 : Int32), .int (0 : Int32)])), (x3_uq1, .inl (cB, x3_ul1, .inl x3_uf1)), (h1, .inr (1, [.ref h2, .int (0 : Int32), .int (0 : Int32), .int x3_uv23])), (h2, .inl (cB, x3_ul3, .inl x3_uf3))] := hD.sub [0, 1, 2, 3] (by decide) rfl
  exact W.vret hx hb hr (kWv_ret (u := (x3_uq1, x3_uv01, x3_ul1, x3_uf1, (0 : Int32), (0 : Int32), x3_uv23, x3_ul3, x3_uf3)) (w1 := fun (u : Nat × Int32 × Nat × (Nat → Int32) × Int32 × Int32 × Int32 × Nat × (Nat → Int32)) => [(h0, .inr (0, [.ref (u.1), .int (u.2.1), .int (0 : Int32), .int (0 : Int32)])), ((u.1), .inl (cB, (u.2.2.1), .inl (u.2.2.2.1))), (h1, .inr (1, [.ref h2, .int (u.2.2.2.2.1), .int (u.2.2.2.2.2.1), .int (u.2.2.2.2.2.2.1)])), (h2, .inl (cB, (u.2.2.2.2.2.2.2.1), .inl (u.2.2.2.2.2.2.2.2)))]) (by exact hv) hP hD hS) hS.2.2 dJ0_init_81219_6
set_option maxHeartbeats 4000000 in
set_option maxRecDepth 100000 in
theorem kJ4_toString_0e30dW (l : Launch) (D : va_G) (cI cB : ClassId) (dO dT : Nat → Int32) (adK adV : Nat → Nat) (h0 : Nat) (h1 : Nat) (cn : Int32) (bl : Nat) (bf : Nat → Int32)  (sz : Nat) (post : Int32 → Int32 → Int32 → Nat → (Nat → Int32) → Int32 → Nat → (Nat → Int32) → Prop) (hv : qJ4_toString_0e30dW cn bl bf post) : Met l yJ4_toString_0e30d wsJ4_toString_0e30d ({ frames := 5, cells := 2, slots := 304, locals := 131 }) (va_Pc [.ref h0] (kBWJ D cI cB dO dT adK adV sz [(h0, .inr (1, [.ref h1, .int (0 : Int32), .int (0 : Int32), .int cn])), (h1, .inl (cB, bl, .inl bf))])) (va_Qr (fun (u : Nat × Int32 × Int32 × Int32 × Nat × (Nat → Int32) × Int32 × Nat × (Nat → Int32)) => post u.2.1 u.2.2.1 u.2.2.2.1 u.2.2.2.2.1 u.2.2.2.2.2.1 u.2.2.2.2.2.2.1 u.2.2.2.2.2.2.2.1 u.2.2.2.2.2.2.2.2) (fun (u : Nat × Int32 × Int32 × Int32 × Nat × (Nat → Int32) × Int32 × Nat × (Nat → Int32)) (q : Nat) (t : State) => kE D (va_A [(h0, .inr (1, [.ref h1, .int (0 : Int32), .int (0 : Int32), .int cn])), (h1, .inl (cB, bl, .inl bf))] sz) [(h0, .inr (1, [.ref h1, .int (u.2.1), .int (u.2.2.1), .int (u.2.2.2.1)])), (h1, .inl (cB, (u.2.2.2.2.1), .inl (u.2.2.2.2.2.1))), (q, .inr (0, [.ref (u.1), .int (u.2.2.2.2.2.2.1), .int (0 : Int32), .int (0 : Int32)])), ((u.1), .inl (cB, (u.2.2.2.2.2.2.2.1), .inl (u.2.2.2.2.2.2.2.2)))] t) (va_A [(h0, .inr (1, [.ref h1, .int (0 : Int32), .int (0 : Int32), .int cn])), (h1, .inl (cB, bl, .inl bf))] sz)) 2 304 (va_A [(h0, .inr (1, [.ref h1, .int (0 : Int32), .int (0 : Int32), .int cn])), (h1, .inl (cB, bl, .inl bf))] sz) := by
  refine Met.ofW (cc := cJ4_toString_0e30d) (maxL := 1) (ret := (some (.object "java/lang/String"))) (by decide) rfl ?_
  intro p e s m args below meth c s₁ B hml hv0
  obtain ⟨rfl, ⟨hsz, ⟨hP, hK, hN⟩, hD0⟩, hSt⟩ := hv0
  have hx := B.exec
  have hb := B.bytes
  have hr := B.returns
  have hts := atoms_spec (ws := wsJ4_toString_0e30d) B.pre
  have hown : s.vm.findClass RJ4 = some m.cls := findClass_of_methodNamed B.named
  have hlocks := B.notSynchronized
  have hi_J0 : ∀ w ∈ wsJ00, w ∈ wsJ4_toString_0e30d := by decide +kernel
  subst hsz
  have hD := hD0.self (sz := s.heap.size)
  generalize hAe : va_A [(h0, .inr (1, [.ref h1, .int (0 : Int32), .int (0 : Int32), .int cn])), (h1, .inl (cB, bl, .inl bf))] s.heap.size = A at hD hSt ⊢
  have hA : ∀ q : Nat, s.heap.size ≤ q → A q := fun q h => by rw [← hAe]; exact Or.inr h
  have hS : va_S A s.heap s.heap [] := va_S.rf
  have hl := lv_entry ([.ref h0]) (n := 1) (Nat.le_of_ble_eq_true rfl)
  rw [lg_entry_eq]
  generalize (lg_sl ([.ref h0]) ++ List.replicate (1 - (lg_sl ([.ref h0])).length) Slot.unset).toArray = ls at hl ⊢
  have hl : lv_has ls 1 [(0, .ref h0)] := hl
  refine va_new (ci := 0) (fs := [.null, .int (0 : Int32), .int (0 : Int32), .int (0 : Int32)]) (C := RJ0) (T := TJ0) (N := 4) hx hb hts hi_J0 tyJ0 tyJ0_ok hown (hts (.classLink RJ4 18 RJ0) (by decide +kernel)) (hts (.instantiable RJ0 4) (by decide +kernel)) (hts (.initialized RJ0) (by decide +kernel)) hK hP hD hS hA rfl (fun j hj => by rcases (show j = 0 ∨ j = 1 ∨ j = 2 ∨ j = 3 by omega) with rfl | rfl | rfl | rfl <;> rfl) (Nat.le_of_ble_eq_true rfl) (Nat.le_of_ble_eq_true rfl) dJ4_toString_0e30d_0 (fun w0 H hP hD hS => ?_)
  have hP : va_P D vwCl [(h0, .inr (1, [.ref h1, .int (0 : Int32), .int (0 : Int32), .int cn])), (h1, .inl (cB, bl, .inl bf)), (w0, .inr (0, [.null, .int (0 : Int32), .int (0 : Int32), .int (0 : Int32)]))] H := hP
  have hD : va_D A [(h0, .inr (1, [.ref h1, .int (0 : Int32), .int (0 : Int32), .int cn])), (h1, .inl (cB, bl, .inl bf)), (w0, .inr (0, [.null, .int (0 : Int32), .int (0 : Int32), .int (0 : Int32)]))] := hD
  refine W.widen (k := 1) (n := 4) (Nat.le_of_ble_eq_true rfl) (Nat.le_of_ble_eq_true rfl) ?_
  refine lv_dup hx hb dJ4_toString_0e30d_3 rfl ?_
  refine lv_aload_n hx hb dJ4_toString_0e30d_4 rfl (lv_at hl 0 rfl) ?_
  refine kw_v (wr := []) (va_runI (As := [.ref h0]) (rest := [.ref w0]) ⟨hx, hb, hml, hown, hts⟩ (kJ0_init_81219W l D cI cB dO dT adK adV w0 h0 h1 cn bl bf _ _ hv) (cwI 1 hts gJ4_toString_0e30d_J0_init_81219 rfl rfl rfl (hts (.initialized RJ0) (by decide +kernel)) (hts (.methodLink RJ4 137 yJ0_init_81219) (by decide +kernel)) (hts (.instanceMethod yJ0_init_81219) (by decide +kernel)) rfl (by decide +kernel) ⟨Nat.le_of_ble_eq_true rfl, Nat.le_of_ble_eq_true rfl⟩) (kPreWJ (As := [.ref w0, .ref h0]) (hP.sub (ws' := [(w0, .inr (0, [.null, .int (0 : Int32), .int (0 : Int32), .int (0 : Int32)])), (h0, .inr (1, [.ref h1, .int (0 : Int32), .int (0 : Int32), .int cn])), (h1, .inl (cB, bl, .inl bf))]) [2, 0, 1] rfl) (hD.sub (ws' := [(w0, .inr (0, [.null, .int (0 : Int32), .int (0 : Int32), .int (0 : Int32)])), (h0, .inr (1, [.ref h1, .int (0 : Int32), .int (0 : Int32), .int cn])), (h1, .inl (cB, bl, .inl bf))]) [2, 0, 1] (by decide) rfl) hK hN hSt hS (va_free (wc := [(w0, .inr (0, [.null, .int (0 : Int32), .int (0 : Int32), .int (0 : Int32)])), (h0, .inr (1, [.ref h1, .int (0 : Int32), .int (0 : Int32), .int cn])), (h1, .inl (cB, bl, .inl bf))]) hD hS hA [2, 0, 1] rfl)) rfl rfl hl.1 rfl (lv_room (Nat.le_of_ble_eq_true rfl)) dJ4_toString_0e30d_5 ⟨Nat.le_of_ble_eq_true rfl, Nat.le_of_ble_eq_true rfl⟩) hP hD hS hA [2, 0, 1] [] rfl rfl (by decide) (by decide) (fun u H locs hv hP hD hS => ?_)
  obtain ⟨x5_uq1, x5_uv01, x5_ul1, x5_uf1, x5_uv21, x5_uv22, x5_uv23, x5_ul3, x5_uf3⟩ := u
  have hP : va_P D vwCl [(x5_uq1, .inl (cB, x5_ul1, .inl x5_uf1)), (h0, .inr (1, [.ref h1, .int x5_uv21, .int x5_uv22, .int x5_uv23])), (w0, .inr (0, [.ref x5_uq1, .int x5_uv01, .int (0 : Int32), .int (0 : Int32)])), (h1, .inl (cB, x5_ul3, .inl x5_uf3))] H := hP.sub [1, 2, 0, 3] rfl
  have hD : va_D A [(x5_uq1, .inl (cB, x5_ul1, .inl x5_uf1)), (h0, .inr (1, [.ref h1, .int x5_uv21, .int x5_uv22, .int x5_uv23])), (w0, .inr (0, [.ref x5_uq1, .int x5_uv01, .int (0 : Int32), .int (0 : Int32)])), (h1, .inl (cB, x5_ul3, .inl x5_uf3))] := hD.sub [1, 2, 0, 3] (by decide) rfl
  refine W.widen (k := 2) (n := 304) (Nat.le_of_ble_eq_true rfl) (Nat.le_of_ble_eq_true rfl) ?_
  refine W.widen (k := 2) (n := 304) (Nat.le_of_ble_eq_true rfl) (Nat.le_of_ble_eq_true rfl) ?_
  have hP : va_P D vwCl [(h0, .inr (1, [.ref h1, .int x5_uv21, .int x5_uv22, .int x5_uv23])), (h1, .inl (cB, x5_ul3, .inl x5_uf3)), (w0, .inr (0, [.ref x5_uq1, .int x5_uv01, .int (0 : Int32), .int (0 : Int32)])), (x5_uq1, .inl (cB, x5_ul1, .inl x5_uf1))] _ := hP.sub [1, 3, 2, 0] rfl
  have hD : va_D A [(h0, .inr (1, [.ref h1, .int x5_uv21, .int x5_uv22, .int x5_uv23])), (h1, .inl (cB, x5_ul3, .inl x5_uf3)), (w0, .inr (0, [.ref x5_uq1, .int x5_uv01, .int (0 : Int32), .int (0 : Int32)])), (x5_uq1, .inl (cB, x5_ul1, .inl x5_uf1))] := hD.sub [1, 3, 2, 0] (by decide) rfl
  exact W.aret (v := .ref w0) (rt := .object "java/lang/String") hx hb hr (Or.inl ⟨_, rfl⟩) (Or.inr ⟨_, rfl⟩) (kWr_ret (q := w0) (u := (x5_uq1, x5_uv21, x5_uv22, x5_uv23, x5_ul3, x5_uf3, x5_uv01, x5_ul1, x5_uf1)) (w1 := fun (u : Nat × Int32 × Int32 × Int32 × Nat × (Nat → Int32) × Int32 × Nat × (Nat → Int32)) (q : Nat) => [(h0, .inr (1, [.ref h1, .int (u.2.1), .int (u.2.2.1), .int (u.2.2.2.1)])), (h1, .inl (cB, (u.2.2.2.2.1), .inl (u.2.2.2.2.2.1))), (q, .inr (0, [.ref (u.1), .int (u.2.2.2.2.2.2.1), .int (0 : Int32), .int (0 : Int32)])), ((u.1), .inl (cB, (u.2.2.2.2.2.2.2.1), .inl (u.2.2.2.2.2.2.2.2)))]) (by exact hv) hP hD hS) hS.2.2 dJ4_toString_0e30d_8
