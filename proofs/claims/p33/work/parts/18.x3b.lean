/-! walks by program (wip/gen) -/
set_option maxHeartbeats 4000000 in
set_option maxRecDepth 100000 in
theorem kX3_isThrownW (l : Launch) (D : va_G) (cI cB : ClassId) (h0 : Nat) (h1 : Nat) (h2 : Nat) (on : Int32) (oo : Int32) (og : Int32) (orl : Nat) (ork : Nat → Int32) (owl : Nat) (oww : Nat → Int32) (ost : Int32) (ord : Int32) (oac : Int32) (ore : Int32) (okn : Int32) (oth : Int32) (a1 : Int32) (a2 : Int32) (sz : Nat) (post : Int32 → Int32 → Prop) (hv : qX3_isThrownW a1 a2 post) : Met l yX3_isThrown wsX3_isThrown ({ frames := 0, cells := 0, slots := 0, locals := 0 }) (va_Pc [.ref h0, .int a1, .int a2] (kBW D cI cB sz [(h0, .inr (5, [.int on, .int oo, .int og, .ref h1, .ref h2, .int ost, .int ord, .int oac, .int ore, .int okn, .int oth])), (h1, .inl (cI, orl, .inl ork)), (h2, .inl (cI, owl, .inl oww))])) (va_Qi (fun (r : Int32) (u : Int32) => post r u) (fun (u : Int32) (t : State) => kE D (va_A [(h0, .inr (5, [.int on, .int oo, .int og, .ref h1, .ref h2, .int ost, .int ord, .int oac, .int ore, .int okn, .int oth])), (h1, .inl (cI, orl, .inl ork)), (h2, .inl (cI, owl, .inl oww))] sz) [(h0, .inr (5, [.int on, .int oo, .int og, .ref h1, .ref h2, .int ost, .int ord, .int oac, .int ore, .int okn, .int u])), (h1, .inl (cI, orl, .inl ork)), (h2, .inl (cI, owl, .inl oww))] t) (va_A [(h0, .inr (5, [.int on, .int oo, .int og, .ref h1, .ref h2, .int ost, .int ord, .int oac, .int ore, .int okn, .int oth])), (h1, .inl (cI, orl, .inl ork)), (h2, .inl (cI, owl, .inl oww))] sz)) 0 0 (va_A [(h0, .inr (5, [.int on, .int oo, .int og, .ref h1, .ref h2, .int ost, .int ord, .int oac, .int ore, .int okn, .int oth])), (h1, .inl (cI, orl, .inl ork)), (h2, .inl (cI, owl, .inl oww))] sz) := by
  refine Met.ofW (cc := cX3_isThrown) (maxL := 3) (ret := (some .boolean)) (by decide) rfl ?_
  intro p e s m args below meth c s₁ B hml hv0
  obtain ⟨rfl, hsz, ⟨hP, hK, hN⟩, hD0⟩ := hv0
  have hx := B.exec
  have hb := B.bytes
  have hr := B.returns
  have hts := atoms_spec (ws := wsX3_isThrown) B.pre
  have hown : s.vm.findClass RX3 = some m.cls := findClass_of_methodNamed B.named
  have hlocks := B.notSynchronized
  have hi_X3 : ∀ w ∈ wsX30, w ∈ wsX3_isThrown := by decide +kernel
  have hF13 := hts (.fieldLink RX3 13 "RoadgameModel" "thrown" "I") (by decide +kernel)
  subst hsz
  have hD := hD0.self (sz := s.heap.size)
  generalize hAe : va_A [(h0, .inr (5, [.int on, .int oo, .int og, .ref h1, .ref h2, .int ost, .int ord, .int oac, .int ore, .int okn, .int oth])), (h1, .inl (cI, orl, .inl ork)), (h2, .inl (cI, owl, .inl oww))] s.heap.size = A at hD ⊢
  have hA : ∀ q : Nat, s.heap.size ≤ q → A q := fun q h => by rw [← hAe]; exact Or.inr h
  have hS : va_S A s.heap s.heap [] := va_S.rf
  have hl := lv_entry ([.ref h0, .int a1, .int a2]) (n := 3) (Nat.le_of_ble_eq_true rfl)
  rw [lg_entry_eq]
  generalize (lg_sl ([.ref h0, .int a1, .int a2]) ++ List.replicate (3 - (lg_sl ([.ref h0, .int a1, .int a2])).length) Slot.unset).toArray = ls at hl ⊢
  have hl : lv_has ls 3 [(0, .ref h0), (1, .int a1), (2, .int a2)] := hl
  refine lv_aload_n hx hb dX3_isThrown_0 rfl (lv_at hl 0 rfl) ?_
  refine lv_iload_n hx hb dX3_isThrown_1 rfl (lv_at hl 1 rfl) ?_
  refine lv_if_eq (tgt := 9) hx hb dX3_isThrown_2 (by decide) (fun hc => ?_) (fun hc => ?_)
  · have hv := hv.1 hc
    refine lv_iload_n hx hb dX3_isThrown_9 rfl (lv_at hl 2 rfl) ?_
    refine lv_if_eq (tgt := 17) hx hb dX3_isThrown_10 (by decide) (fun hc => ?_) (fun hc => ?_)
    · have hv := hv.1 hc
      refine lv_iconst (v := (0 : Int32)) hx hb dX3_isThrown_17 (by decide) ?_
      refine va_put (D := D) (ci := 5) (v := .int (0 : Int32)) (ty := .int) (C := RX3) (T := TX3) (N := 11) hx hb hts hi_X3 tyX3 tyX3_ok nmX3 hown hK hP hD hS 0 rfl rfl 10 (by decide) hF13 (fun _ h9 => h9) rfl (by decide +kernel) rfl rfl (Nat.le_of_ble_eq_true rfl) dX3_isThrown_18 (fun H locs hP hD hS => ?_)
      have hP : va_P D vwCl [(h0, .inr (5, [.int on, .int oo, .int og, .ref h1, .ref h2, .int ost, .int ord, .int oac, .int ore, .int okn, .int (0 : Int32)])), (h1, .inl (cI, orl, .inl ork)), (h2, .inl (cI, owl, .inl oww))] H := hP
      have hD : va_D A [(h0, .inr (5, [.int on, .int oo, .int og, .ref h1, .ref h2, .int ost, .int ord, .int oac, .int ore, .int okn, .int (0 : Int32)])), (h1, .inl (cI, orl, .inl ork)), (h2, .inl (cI, owl, .inl oww))] := hD
      refine lv_aload_n hx hb dX3_isThrown_21 rfl (lv_at hl 0 rfl) ?_
      refine va_get (D := D) (ci := 5) (v := .int (0 : Int32)) (C := RX3) (T := TX3) (N := 11) hx hb hts hi_X3 hown hK hP 0 rfl rfl 10 (by decide) hF13 (fun _ h9 => h9) rfl dX3_isThrown_22 ?_
      refine lv_if_le (tgt := 32) hx hb dX3_isThrown_25 (by decide) (fun hc => ?_) (fun hc => absurd hc (by decide))
      refine lv_iconst (v := (0 : Int32)) hx hb dX3_isThrown_32 (by decide) ?_
      refine W.widen (k := 0) (n := 0) (Nat.le_of_ble_eq_true rfl) (Nat.le_of_ble_eq_true rfl) ?_
      exact W.zret (v := (0 : Int32)) (ty := .boolean) hx hb hr rfl (kWi_ret (u := (0 : Int32)) hv hP hD hS) hS.2.2 dX3_isThrown_33
    · have hv := hv.2 hc
      refine lv_iconst (v := (2 : Int32)) hx hb dX3_isThrown_13 (by decide) ?_
      refine lv_goto (tgt := 18) hx hb dX3_isThrown_14 (by decide) ?_
      refine va_put (D := D) (ci := 5) (v := .int (2 : Int32)) (ty := .int) (C := RX3) (T := TX3) (N := 11) hx hb hts hi_X3 tyX3 tyX3_ok nmX3 hown hK hP hD hS 0 rfl rfl 10 (by decide) hF13 (fun _ h9 => h9) rfl (by decide +kernel) rfl rfl (Nat.le_of_ble_eq_true rfl) dX3_isThrown_18 (fun H locs hP hD hS => ?_)
      have hP : va_P D vwCl [(h0, .inr (5, [.int on, .int oo, .int og, .ref h1, .ref h2, .int ost, .int ord, .int oac, .int ore, .int okn, .int (2 : Int32)])), (h1, .inl (cI, orl, .inl ork)), (h2, .inl (cI, owl, .inl oww))] H := hP
      have hD : va_D A [(h0, .inr (5, [.int on, .int oo, .int og, .ref h1, .ref h2, .int ost, .int ord, .int oac, .int ore, .int okn, .int (2 : Int32)])), (h1, .inl (cI, orl, .inl ork)), (h2, .inl (cI, owl, .inl oww))] := hD
      refine lv_aload_n hx hb dX3_isThrown_21 rfl (lv_at hl 0 rfl) ?_
      refine va_get (D := D) (ci := 5) (v := .int (2 : Int32)) (C := RX3) (T := TX3) (N := 11) hx hb hts hi_X3 hown hK hP 0 rfl rfl 10 (by decide) hF13 (fun _ h9 => h9) rfl dX3_isThrown_22 ?_
      refine lv_if_le (tgt := 32) hx hb dX3_isThrown_25 (by decide) (fun hc => absurd hc (by decide)) (fun hc => ?_)
      refine lv_iconst (v := (1 : Int32)) hx hb dX3_isThrown_28 (by decide) ?_
      refine lv_goto (tgt := 33) hx hb dX3_isThrown_29 (by decide) ?_
      refine W.widen (k := 0) (n := 0) (Nat.le_of_ble_eq_true rfl) (Nat.le_of_ble_eq_true rfl) ?_
      exact W.zret (v := (1 : Int32)) (ty := .boolean) hx hb hr rfl (kWi_ret (u := (2 : Int32)) hv hP hD hS) hS.2.2 dX3_isThrown_33
  · have hv := hv.2 hc
    refine lv_iconst (v := (1 : Int32)) hx hb dX3_isThrown_5 (by decide) ?_
    refine lv_goto (tgt := 18) hx hb dX3_isThrown_6 (by decide) ?_
    refine va_put (D := D) (ci := 5) (v := .int (1 : Int32)) (ty := .int) (C := RX3) (T := TX3) (N := 11) hx hb hts hi_X3 tyX3 tyX3_ok nmX3 hown hK hP hD hS 0 rfl rfl 10 (by decide) hF13 (fun _ h9 => h9) rfl (by decide +kernel) rfl rfl (Nat.le_of_ble_eq_true rfl) dX3_isThrown_18 (fun H locs hP hD hS => ?_)
    have hP : va_P D vwCl [(h0, .inr (5, [.int on, .int oo, .int og, .ref h1, .ref h2, .int ost, .int ord, .int oac, .int ore, .int okn, .int (1 : Int32)])), (h1, .inl (cI, orl, .inl ork)), (h2, .inl (cI, owl, .inl oww))] H := hP
    have hD : va_D A [(h0, .inr (5, [.int on, .int oo, .int og, .ref h1, .ref h2, .int ost, .int ord, .int oac, .int ore, .int okn, .int (1 : Int32)])), (h1, .inl (cI, orl, .inl ork)), (h2, .inl (cI, owl, .inl oww))] := hD
    refine lv_aload_n hx hb dX3_isThrown_21 rfl (lv_at hl 0 rfl) ?_
    refine va_get (D := D) (ci := 5) (v := .int (1 : Int32)) (C := RX3) (T := TX3) (N := 11) hx hb hts hi_X3 hown hK hP 0 rfl rfl 10 (by decide) hF13 (fun _ h9 => h9) rfl dX3_isThrown_22 ?_
    refine lv_if_le (tgt := 32) hx hb dX3_isThrown_25 (by decide) (fun hc => absurd hc (by decide)) (fun hc => ?_)
    refine lv_iconst (v := (1 : Int32)) hx hb dX3_isThrown_28 (by decide) ?_
    refine lv_goto (tgt := 33) hx hb dX3_isThrown_29 (by decide) ?_
    refine W.widen (k := 0) (n := 0) (Nat.le_of_ble_eq_true rfl) (Nat.le_of_ble_eq_true rfl) ?_
    exact W.zret (v := (1 : Int32)) (ty := .boolean) hx hb hr rfl (kWi_ret (u := (1 : Int32)) hv hP hD hS) hS.2.2 dX3_isThrown_33
set_option maxHeartbeats 4000000 in
set_option maxRecDepth 100000 in
theorem kX3_isThrown_W (l : Launch) (D : va_G) (cI cB : ClassId) (h0 : Nat) (h1 : Nat) (h2 : Nat) (on : Int32) (oo : Int32) (og : Int32) (orl : Nat) (ork : Nat → Int32) (owl : Nat) (oww : Nat → Int32) (ost : Int32) (ord : Int32) (oac : Int32) (ore : Int32) (okn : Int32) (oth : Int32) (a1 : Int32) (sz : Nat) (post : Int32 → Int32 → Prop) (hv : qX3_isThrown_W a1 post) : Met l yX3_isThrown_ wsX3_isThrown_ ({ frames := 1, cells := 0, slots := 0, locals := 22 }) (va_Pc [.ref h0, .int a1] (kBW D cI cB sz [(h0, .inr (5, [.int on, .int oo, .int og, .ref h1, .ref h2, .int ost, .int ord, .int oac, .int ore, .int okn, .int oth])), (h1, .inl (cI, orl, .inl ork)), (h2, .inl (cI, owl, .inl oww))])) (va_Qi (fun (r : Int32) (u : Int32) => post r u) (fun (u : Int32) (t : State) => kE D (va_A [(h0, .inr (5, [.int on, .int oo, .int og, .ref h1, .ref h2, .int ost, .int ord, .int oac, .int ore, .int okn, .int oth])), (h1, .inl (cI, orl, .inl ork)), (h2, .inl (cI, owl, .inl oww))] sz) [(h0, .inr (5, [.int on, .int oo, .int og, .ref h1, .ref h2, .int ost, .int ord, .int oac, .int ore, .int okn, .int u])), (h1, .inl (cI, orl, .inl ork)), (h2, .inl (cI, owl, .inl oww))] t) (va_A [(h0, .inr (5, [.int on, .int oo, .int og, .ref h1, .ref h2, .int ost, .int ord, .int oac, .int ore, .int okn, .int oth])), (h1, .inl (cI, orl, .inl ork)), (h2, .inl (cI, owl, .inl oww))] sz)) 0 0 (va_A [(h0, .inr (5, [.int on, .int oo, .int og, .ref h1, .ref h2, .int ost, .int ord, .int oac, .int ore, .int okn, .int oth])), (h1, .inl (cI, orl, .inl ork)), (h2, .inl (cI, owl, .inl oww))] sz) := by
  refine Met.ofW (cc := cX3_isThrown_) (maxL := 2) (ret := (some .boolean)) (by decide) rfl ?_
  intro p e s m args below meth c s₁ B hml hv0
  obtain ⟨rfl, hsz, ⟨hP, hK, hN⟩, hD0⟩ := hv0
  have hx := B.exec
  have hb := B.bytes
  have hr := B.returns
  have hts := atoms_spec (ws := wsX3_isThrown_) B.pre
  have hown : s.vm.findClass RX3 = some m.cls := findClass_of_methodNamed B.named
  have hlocks := B.notSynchronized
  subst hsz
  have hD := hD0.self (sz := s.heap.size)
  generalize hAe : va_A [(h0, .inr (5, [.int on, .int oo, .int og, .ref h1, .ref h2, .int ost, .int ord, .int oac, .int ore, .int okn, .int oth])), (h1, .inl (cI, orl, .inl ork)), (h2, .inl (cI, owl, .inl oww))] s.heap.size = A at hD ⊢
  have hA : ∀ q : Nat, s.heap.size ≤ q → A q := fun q h => by rw [← hAe]; exact Or.inr h
  have hS : va_S A s.heap s.heap [] := va_S.rf
  have hl := lv_entry ([.ref h0, .int a1]) (n := 2) (Nat.le_of_ble_eq_true rfl)
  rw [lg_entry_eq]
  generalize (lg_sl ([.ref h0, .int a1]) ++ List.replicate (2 - (lg_sl ([.ref h0, .int a1])).length) Slot.unset).toArray = ls at hl ⊢
  have hl : lv_has ls 2 [(0, .ref h0), (1, .int a1)] := hl
  refine lv_aload_n hx hb dX3_isThrown__0 rfl (lv_at hl 0 rfl) ?_
  refine lv_iload_n hx hb dX3_isThrown__1 rfl (lv_at hl 1 rfl) ?_
  refine lv_iconst (v := (0 : Int32)) hx hb dX3_isThrown__2 (by decide) ?_
  refine kw_i (wr := []) (va_runV (As := [.int a1, .int (0 : Int32)]) (rest := []) ⟨hx, hb, hml, hown, hts⟩ (kX3_isThrownW l D cI cB h0 h1 h2 on oo og orl ork owl oww ost ord oac ore okn oth a1 (0 : Int32) _ _ hv) (cwV 2 hts gX3_isThrown__X3_isThrown rfl rfl rfl (by decide +kernel) ⟨Nat.le_of_ble_eq_true rfl, Nat.le_of_ble_eq_true rfl⟩) ⟨(kPreW (As := [.ref h0, .int a1, .int (0 : Int32)]) (hP.sub (ws' := [(h0, .inr (5, [.int on, .int oo, .int og, .ref h1, .ref h2, .int ost, .int ord, .int oac, .int ore, .int okn, .int oth])), (h1, .inl (cI, orl, .inl ork)), (h2, .inl (cI, owl, .inl oww))]) [0, 1, 2] rfl) (hD.sub (ws' := [(h0, .inr (5, [.int on, .int oo, .int og, .ref h1, .ref h2, .int ost, .int ord, .int oac, .int ore, .int okn, .int oth])), (h1, .inl (cI, orl, .inl ork)), (h2, .inl (cI, owl, .inl oww))]) [0, 1, 2] (by decide) rfl) hK hN).1, kRecv (hP.sub (ws' := [(h0, .inr (5, [.int on, .int oo, .int og, .ref h1, .ref h2, .int ost, .int ord, .int oac, .int ore, .int okn, .int oth])), (h1, .inl (cI, orl, .inl ork)), (h2, .inl (cI, owl, .inl oww))]) [0, 1, 2] rfl) hK 5 rfl rfl rfl, (kPreW (As := [.ref h0, .int a1, .int (0 : Int32)]) (hP.sub (ws' := [(h0, .inr (5, [.int on, .int oo, .int og, .ref h1, .ref h2, .int ost, .int ord, .int oac, .int ore, .int okn, .int oth])), (h1, .inl (cI, orl, .inl ork)), (h2, .inl (cI, owl, .inl oww))]) [0, 1, 2] rfl) (hD.sub (ws' := [(h0, .inr (5, [.int on, .int oo, .int og, .ref h1, .ref h2, .int ost, .int ord, .int oac, .int ore, .int okn, .int oth])), (h1, .inl (cI, orl, .inl ork)), (h2, .inl (cI, owl, .inl oww))]) [0, 1, 2] (by decide) rfl) hK hN).2⟩ rfl rfl hl.1 rfl (lv_room (Nat.le_of_ble_eq_true rfl)) dX3_isThrown__3 ⟨Nat.le_of_ble_eq_true rfl, Nat.le_of_ble_eq_true rfl⟩) hP hD hS hA [0, 1, 2] [] rfl rfl (by decide) (by decide) (fun r3 u H locs hv hP hD hS => ?_)
  obtain ⟨x3_0, rfl⟩ : ∃ z, z = u := ⟨_, rfl⟩
  have hP : va_P D vwCl [(h0, .inr (5, [.int on, .int oo, .int og, .ref h1, .ref h2, .int ost, .int ord, .int oac, .int ore, .int okn, .int x3_0])), (h1, .inl (cI, orl, .inl ork)), (h2, .inl (cI, owl, .inl oww))] H := hP.sub [0, 1, 2] rfl
  have hD : va_D A [(h0, .inr (5, [.int on, .int oo, .int og, .ref h1, .ref h2, .int ost, .int ord, .int oac, .int ore, .int okn, .int x3_0])), (h1, .inl (cI, orl, .inl ork)), (h2, .inl (cI, owl, .inl oww))] := hD.sub [0, 1, 2] (by decide) rfl
  refine W.widen (k := 0) (n := 0) (Nat.le_of_ble_eq_true rfl) (Nat.le_of_ble_eq_true rfl) ?_
  exact W.zret (v := r3) (ty := .boolean) hx hb hr hv.1 (kWi_ret (u := x3_0) hv.2 hP hD hS) hS.2.2 dX3_isThrown__6
set_option maxHeartbeats 4000000 in
set_option maxRecDepth 100000 in
theorem kX3_doneW (l : Launch) (D : va_G) (cI cB : ClassId) (h0 : Nat) (h1 : Nat) (h2 : Nat) (on : Int32) (oo : Int32) (og : Int32) (orl : Nat) (ork : Nat → Int32) (owl : Nat) (oww : Nat → Int32) (ost : Int32) (ord : Int32) (oac : Int32) (ore : Int32) (okn : Int32) (oth : Int32) (a1 : Int32) (sz : Nat) (post : Int32 → Int32 → Prop) (hv : qX3_doneW oac a1 post) : Met l yX3_done wsX3_done ({ frames := 0, cells := 0, slots := 0, locals := 0 }) (va_Pc [.ref h0, .int a1] (kBW D cI cB sz [(h0, .inr (5, [.int on, .int oo, .int og, .ref h1, .ref h2, .int ost, .int ord, .int oac, .int ore, .int okn, .int oth])), (h1, .inl (cI, orl, .inl ork)), (h2, .inl (cI, owl, .inl oww))])) (va_Qi (fun (r : Int32) (u : Int32) => post r u) (fun (u : Int32) (t : State) => kE D (va_A [(h0, .inr (5, [.int on, .int oo, .int og, .ref h1, .ref h2, .int ost, .int ord, .int oac, .int ore, .int okn, .int oth])), (h1, .inl (cI, orl, .inl ork)), (h2, .inl (cI, owl, .inl oww))] sz) [(h0, .inr (5, [.int on, .int oo, .int og, .ref h1, .ref h2, .int ost, .int ord, .int u, .int ore, .int okn, .int oth])), (h1, .inl (cI, orl, .inl ork)), (h2, .inl (cI, owl, .inl oww))] t) (va_A [(h0, .inr (5, [.int on, .int oo, .int og, .ref h1, .ref h2, .int ost, .int ord, .int oac, .int ore, .int okn, .int oth])), (h1, .inl (cI, orl, .inl ork)), (h2, .inl (cI, owl, .inl oww))] sz)) 0 0 (va_A [(h0, .inr (5, [.int on, .int oo, .int og, .ref h1, .ref h2, .int ost, .int ord, .int oac, .int ore, .int okn, .int oth])), (h1, .inl (cI, orl, .inl ork)), (h2, .inl (cI, owl, .inl oww))] sz) := by
  refine Met.ofW (cc := cX3_done) (maxL := 2) (ret := (some .int)) (by decide) rfl ?_
  intro p e s m args below meth c s₁ B hml hv0
  obtain ⟨rfl, hsz, ⟨hP, hK, hN⟩, hD0⟩ := hv0
  have hx := B.exec
  have hb := B.bytes
  have hr := B.returns
  have hts := atoms_spec (ws := wsX3_done) B.pre
  have hown : s.vm.findClass RX3 = some m.cls := findClass_of_methodNamed B.named
  have hlocks := B.notSynchronized
  have hi_X3 : ∀ w ∈ wsX30, w ∈ wsX3_done := by decide +kernel
  have hF92 := hts (.fieldLink RX3 92 "RoadgameModel" "acts" "I") (by decide +kernel)
  subst hsz
  have hD := hD0.self (sz := s.heap.size)
  generalize hAe : va_A [(h0, .inr (5, [.int on, .int oo, .int og, .ref h1, .ref h2, .int ost, .int ord, .int oac, .int ore, .int okn, .int oth])), (h1, .inl (cI, orl, .inl ork)), (h2, .inl (cI, owl, .inl oww))] s.heap.size = A at hD ⊢
  have hA : ∀ q : Nat, s.heap.size ≤ q → A q := fun q h => by rw [← hAe]; exact Or.inr h
  have hS : va_S A s.heap s.heap [] := va_S.rf
  have hl := lv_entry ([.ref h0, .int a1]) (n := 2) (Nat.le_of_ble_eq_true rfl)
  rw [lg_entry_eq]
  generalize (lg_sl ([.ref h0, .int a1]) ++ List.replicate (2 - (lg_sl ([.ref h0, .int a1])).length) Slot.unset).toArray = ls at hl ⊢
  have hl : lv_has ls 2 [(0, .ref h0), (1, .int a1)] := hl
  refine lv_aload_n hx hb dX3_done_0 rfl (lv_at hl 0 rfl) ?_
  refine lv_dup hx hb dX3_done_1 rfl ?_
  refine va_get (D := D) (ci := 5) (v := .int oac) (C := RX3) (T := TX3) (N := 11) hx hb hts hi_X3 hown hK hP 0 rfl rfl 7 (by decide) hF92 (fun _ h9 => h9) rfl dX3_done_2 ?_
  refine lv_iconst (v := (1 : Int32)) hx hb dX3_done_5 (by decide) ?_
  refine lv_iadd hx hb dX3_done_6 ?_
  refine va_put (D := D) (ci := 5) (v := .int (oac + (1 : Int32))) (ty := .int) (C := RX3) (T := TX3) (N := 11) hx hb hts hi_X3 tyX3 tyX3_ok nmX3 hown hK hP hD hS 0 rfl rfl 7 (by decide) hF92 (fun _ h9 => h9) rfl (by decide +kernel) rfl rfl (Nat.le_of_ble_eq_true rfl) dX3_done_7 (fun H locs hP hD hS => ?_)
  have hP : va_P D vwCl [(h0, .inr (5, [.int on, .int oo, .int og, .ref h1, .ref h2, .int ost, .int ord, .int (oac + (1 : Int32)), .int ore, .int okn, .int oth])), (h1, .inl (cI, orl, .inl ork)), (h2, .inl (cI, owl, .inl oww))] H := hP
  have hD : va_D A [(h0, .inr (5, [.int on, .int oo, .int og, .ref h1, .ref h2, .int ost, .int ord, .int (oac + (1 : Int32)), .int ore, .int okn, .int oth])), (h1, .inl (cI, orl, .inl ork)), (h2, .inl (cI, owl, .inl oww))] := hD
  refine lv_iload_n hx hb dX3_done_10 rfl (lv_at hl 1 rfl) ?_
  refine W.widen (k := 0) (n := 0) (Nat.le_of_ble_eq_true rfl) (Nat.le_of_ble_eq_true rfl) ?_
  exact W.iret (v := a1) hx hb hr (kWi_ret (u := (oac + (1 : Int32))) hv hP hD hS) hS.2.2 dX3_done_11
set_option maxHeartbeats 4000000 in
set_option maxRecDepth 100000 in
theorem kX3_noW (l : Launch) (D : va_G) (cI cB : ClassId) (h0 : Nat) (h1 : Nat) (h2 : Nat) (on : Int32) (oo : Int32) (og : Int32) (orl : Nat) (ork : Nat → Int32) (owl : Nat) (oww : Nat → Int32) (ost : Int32) (ord : Int32) (oac : Int32) (ore : Int32) (okn : Int32) (oth : Int32)  (sz : Nat) (post : Int32 → Int32 → Prop) (hv : qX3_noW ore post) : Met l yX3_no wsX3_no ({ frames := 0, cells := 0, slots := 0, locals := 0 }) (va_Pc [.ref h0] (kBW D cI cB sz [(h0, .inr (5, [.int on, .int oo, .int og, .ref h1, .ref h2, .int ost, .int ord, .int oac, .int ore, .int okn, .int oth])), (h1, .inl (cI, orl, .inl ork)), (h2, .inl (cI, owl, .inl oww))])) (va_Qi (fun (r : Int32) (u : Int32) => post r u) (fun (u : Int32) (t : State) => kE D (va_A [(h0, .inr (5, [.int on, .int oo, .int og, .ref h1, .ref h2, .int ost, .int ord, .int oac, .int ore, .int okn, .int oth])), (h1, .inl (cI, orl, .inl ork)), (h2, .inl (cI, owl, .inl oww))] sz) [(h0, .inr (5, [.int on, .int oo, .int og, .ref h1, .ref h2, .int ost, .int ord, .int oac, .int u, .int okn, .int oth])), (h1, .inl (cI, orl, .inl ork)), (h2, .inl (cI, owl, .inl oww))] t) (va_A [(h0, .inr (5, [.int on, .int oo, .int og, .ref h1, .ref h2, .int ost, .int ord, .int oac, .int ore, .int okn, .int oth])), (h1, .inl (cI, orl, .inl ork)), (h2, .inl (cI, owl, .inl oww))] sz)) 0 0 (va_A [(h0, .inr (5, [.int on, .int oo, .int og, .ref h1, .ref h2, .int ost, .int ord, .int oac, .int ore, .int okn, .int oth])), (h1, .inl (cI, orl, .inl ork)), (h2, .inl (cI, owl, .inl oww))] sz) := by
  refine Met.ofW (cc := cX3_no) (maxL := 1) (ret := (some .int)) (by decide) rfl ?_
  intro p e s m args below meth c s₁ B hml hv0
  obtain ⟨rfl, hsz, ⟨hP, hK, hN⟩, hD0⟩ := hv0
  have hx := B.exec
  have hb := B.bytes
  have hr := B.returns
  have hts := atoms_spec (ws := wsX3_no) B.pre
  have hown : s.vm.findClass RX3 = some m.cls := findClass_of_methodNamed B.named
  have hlocks := B.notSynchronized
  have hi_X3 : ∀ w ∈ wsX30, w ∈ wsX3_no := by decide +kernel
  have hF95 := hts (.fieldLink RX3 95 "RoadgameModel" "refused" "I") (by decide +kernel)
  subst hsz
  have hD := hD0.self (sz := s.heap.size)
  generalize hAe : va_A [(h0, .inr (5, [.int on, .int oo, .int og, .ref h1, .ref h2, .int ost, .int ord, .int oac, .int ore, .int okn, .int oth])), (h1, .inl (cI, orl, .inl ork)), (h2, .inl (cI, owl, .inl oww))] s.heap.size = A at hD ⊢
  have hA : ∀ q : Nat, s.heap.size ≤ q → A q := fun q h => by rw [← hAe]; exact Or.inr h
  have hS : va_S A s.heap s.heap [] := va_S.rf
  have hl := lv_entry ([.ref h0]) (n := 1) (Nat.le_of_ble_eq_true rfl)
  rw [lg_entry_eq]
  generalize (lg_sl ([.ref h0]) ++ List.replicate (1 - (lg_sl ([.ref h0])).length) Slot.unset).toArray = ls at hl ⊢
  have hl : lv_has ls 1 [(0, .ref h0)] := hl
  refine lv_aload_n hx hb dX3_no_0 rfl (lv_at hl 0 rfl) ?_
  refine lv_dup hx hb dX3_no_1 rfl ?_
  refine va_get (D := D) (ci := 5) (v := .int ore) (C := RX3) (T := TX3) (N := 11) hx hb hts hi_X3 hown hK hP 0 rfl rfl 8 (by decide) hF95 (fun _ h9 => h9) rfl dX3_no_2 ?_
  refine lv_iconst (v := (1 : Int32)) hx hb dX3_no_5 (by decide) ?_
  refine lv_iadd hx hb dX3_no_6 ?_
  refine va_put (D := D) (ci := 5) (v := .int (ore + (1 : Int32))) (ty := .int) (C := RX3) (T := TX3) (N := 11) hx hb hts hi_X3 tyX3 tyX3_ok nmX3 hown hK hP hD hS 0 rfl rfl 8 (by decide) hF95 (fun _ h9 => h9) rfl (by decide +kernel) rfl rfl (Nat.le_of_ble_eq_true rfl) dX3_no_7 (fun H locs hP hD hS => ?_)
  have hP : va_P D vwCl [(h0, .inr (5, [.int on, .int oo, .int og, .ref h1, .ref h2, .int ost, .int ord, .int oac, .int (ore + (1 : Int32)), .int okn, .int oth])), (h1, .inl (cI, orl, .inl ork)), (h2, .inl (cI, owl, .inl oww))] H := hP
  have hD : va_D A [(h0, .inr (5, [.int on, .int oo, .int og, .ref h1, .ref h2, .int ost, .int ord, .int oac, .int (ore + (1 : Int32)), .int okn, .int oth])), (h1, .inl (cI, orl, .inl ork)), (h2, .inl (cI, owl, .inl oww))] := hD
  refine lv_bipush (v := (-9 : Int32)) hx hb dX3_no_10 (by decide) ?_
  refine W.widen (k := 0) (n := 0) (Nat.le_of_ble_eq_true rfl) (Nat.le_of_ble_eq_true rfl) ?_
  exact W.iret (v := (-9 : Int32)) hx hb hr (kWi_ret (u := (ore + (1 : Int32))) hv hP hD hS) hS.2.2 dX3_no_12
set_option maxHeartbeats 4000000 in
set_option maxRecDepth 100000 in
theorem kX3_giveW (l : Launch) (D : va_G) (cI cB : ClassId) (h0 : Nat) (h1 : Nat) (h2 : Nat) (on : Int32) (oo : Int32) (og : Int32) (orl : Nat) (ork : Nat → Int32) (owl : Nat) (oww : Nat → Int32) (ost : Int32) (ord : Int32) (oac : Int32) (ore : Int32) (okn : Int32) (oth : Int32) (a1 : Int32) (a2 : Int32) (sz : Nat) (post : Int32 → Int32 → Int32 → Int32 → Prop) (hv : qX3_giveW on oo oac a1 a2 post) : Met l yX3_give wsX3_give ({ frames := 1, cells := 0, slots := 0, locals := 22 }) (va_Pc [.ref h0, .int a1, .int a2] (kBW D cI cB sz [(h0, .inr (5, [.int on, .int oo, .int og, .ref h1, .ref h2, .int ost, .int ord, .int oac, .int ore, .int okn, .int oth])), (h1, .inl (cI, orl, .inl ork)), (h2, .inl (cI, owl, .inl oww))])) (va_Qi (fun (r : Int32) (u : Int32 × Int32 × Int32) => post r u.1 u.2.1 u.2.2) (fun (u : Int32 × Int32 × Int32) (t : State) => kE D (va_A [(h0, .inr (5, [.int on, .int oo, .int og, .ref h1, .ref h2, .int ost, .int ord, .int oac, .int ore, .int okn, .int oth])), (h1, .inl (cI, orl, .inl ork)), (h2, .inl (cI, owl, .inl oww))] sz) [(h0, .inr (5, [.int on, .int (u.1), .int og, .ref h1, .ref h2, .int ost, .int ord, .int (u.2.1), .int ore, .int okn, .int (u.2.2)])), (h1, .inl (cI, orl, .inl ork)), (h2, .inl (cI, owl, .inl oww))] t) (va_A [(h0, .inr (5, [.int on, .int oo, .int og, .ref h1, .ref h2, .int ost, .int ord, .int oac, .int ore, .int okn, .int oth])), (h1, .inl (cI, orl, .inl ork)), (h2, .inl (cI, owl, .inl oww))] sz)) 0 0 (va_A [(h0, .inr (5, [.int on, .int oo, .int og, .ref h1, .ref h2, .int ost, .int ord, .int oac, .int ore, .int okn, .int oth])), (h1, .inl (cI, orl, .inl ork)), (h2, .inl (cI, owl, .inl oww))] sz) := by
  refine Met.ofW (cc := cX3_give) (maxL := 4) (ret := (some .int)) (by decide) rfl ?_
  intro p e s m args below meth c s₁ B hml hv0
  obtain ⟨rfl, hsz, ⟨hP, hK, hN⟩, hD0⟩ := hv0
  have hx := B.exec
  have hb := B.bytes
  have hr := B.returns
  have hts := atoms_spec (ws := wsX3_give) B.pre
  have hown : s.vm.findClass RX3 = some m.cls := findClass_of_methodNamed B.named
  have hlocks := B.notSynchronized
  have hi_X3 : ∀ w ∈ wsX30, w ∈ wsX3_give := by decide +kernel
  have hF20 := hts (.fieldLink RX3 20 "RoadgameModel" "ofOne" "I") (by decide +kernel)
  subst hsz
  have hD := hD0.self (sz := s.heap.size)
  generalize hAe : va_A [(h0, .inr (5, [.int on, .int oo, .int og, .ref h1, .ref h2, .int ost, .int ord, .int oac, .int ore, .int okn, .int oth])), (h1, .inl (cI, orl, .inl ork)), (h2, .inl (cI, owl, .inl oww))] s.heap.size = A at hD ⊢
  have hA : ∀ q : Nat, s.heap.size ≤ q → A q := fun q h => by rw [← hAe]; exact Or.inr h
  have hS : va_S A s.heap s.heap [] := va_S.rf
  have hl := lv_entry ([.ref h0, .int a1, .int a2]) (n := 4) (Nat.le_of_ble_eq_true rfl)
  rw [lg_entry_eq]
  generalize (lg_sl ([.ref h0, .int a1, .int a2]) ++ List.replicate (4 - (lg_sl ([.ref h0, .int a1, .int a2])).length) Slot.unset).toArray = ls at hl ⊢
  have hl : lv_has ls 4 [(0, .ref h0), (1, .int a1), (2, .int a2)] := hl
  refine lv_aload_n hx hb dX3_give_0 rfl (lv_at hl 0 rfl) ?_
  refine lv_aload_n hx hb dX3_give_1 rfl (lv_at hl 0 rfl) ?_
  refine lv_iload_n hx hb dX3_give_2 rfl (lv_at hl 1 rfl) ?_
  refine kc_V (As := [.int a1]) (rest := [.ref h0]) ⟨hx, hb, hml, hown, hts⟩ (kX3_isPlace l D cI cB h0 h1 h2 on oo og orl ork owl oww ost ord oac ore okn oth a1 _ hv) (cwV 1 hts gX3_give_X3_isPlace rfl rfl rfl (by decide +kernel) ⟨Nat.le_of_ble_eq_true rfl, Nat.le_of_ble_eq_true rfl⟩) hP hK hN 5 rfl rfl rfl rfl hl.1 rfl (Nat.le_of_ble_eq_true rfl) dX3_give_3 ⟨Nat.le_of_ble_eq_true rfl, Nat.le_of_ble_eq_true rfl⟩ (fun r3 hv => ?_)
  have J14 : ∀ (s0_j14 : Int32) (H : Heap) (locs : List Loc) (ls : Array Slot), va_P D vwCl [(h0, .inr (5, [.int on, .int oo, .int og, .ref h1, .ref h2, .int ost, .int ord, .int oac, .int ore, .int okn, .int oth])), (h1, .inl (cI, orl, .inl ork)), (h2, .inl (cI, owl, .inl oww))] H → va_D A [(h0, .inr (5, [.int on, .int oo, .int og, .ref h1, .ref h2, .int ost, .int ord, .int oac, .int ore, .int okn, .int oth])), (h1, .inl (cI, orl, .inl ork)), (h2, .inl (cI, owl, .inl oww))] → va_S A s.heap H locs → qX3_giveW_j14 oo oac a1 a2 s0_j14 post → lv_has ls 4 [(0, .ref h0), (1, .int a1), (2, .int a2)] → W p l e (headSpec wsX3_give ({ frames := 1, cells := 0, slots := 0, locals := 22 })).room s m ([.ref h0, .int a1, .int a2] : List Value).toArray below meth c H locs 0 0 (MQ below (va_Qi (fun (r : Int32) (u : Int32 × Int32 × Int32) => post r u.1 u.2.1 u.2.2) (fun (u : Int32 × Int32 × Int32) (t : State) => kE D A [(h0, .inr (5, [.int on, .int (u.1), .int og, .ref h1, .ref h2, .int ost, .int ord, .int (u.2.1), .int ore, .int okn, .int (u.2.2)])), (h1, .inl (cI, orl, .inl ork)), (h2, .inl (cI, owl, .inl oww))] t) A) ([.ref h0, .int a1, .int a2] : List Value).toArray s 0 0 A) (F0 m 14 ls [.int s0_j14, .ref h0]) := by
    intro s0_j14 H locs ls hP hD hS hv hl
    refine lv_iload_n hx hb dX3_give_14 rfl (lv_at hl 2 rfl) ?_
    refine kc_S (As := [.int a2]) (rest := [.int s0_j14, .ref h0]) ⟨hx, hb, hml, hown, hts⟩ (kX3_isSide l D cI cB a2 _ hv) (va_cwS 1 hts gX3_give_X3_isSide rfl rfl rfl (by decide +kernel) ⟨Nat.le_of_ble_eq_true rfl, Nat.le_of_ble_eq_true rfl⟩) (hP.sub (ws' := []) [] rfl) hK hN rfl hl.1 rfl (Nat.le_of_ble_eq_true rfl) dX3_give_15 ⟨Nat.le_of_ble_eq_true rfl, Nat.le_of_ble_eq_true rfl⟩ (fun r15 hv => ?_)
    have J26 : ∀ (s0_j26 : Int32) (s1_j26 : Int32) (H : Heap) (locs : List Loc) (ls : Array Slot), va_P D vwCl [(h0, .inr (5, [.int on, .int oo, .int og, .ref h1, .ref h2, .int ost, .int ord, .int oac, .int ore, .int okn, .int oth])), (h1, .inl (cI, orl, .inl ork)), (h2, .inl (cI, owl, .inl oww))] H → va_D A [(h0, .inr (5, [.int on, .int oo, .int og, .ref h1, .ref h2, .int ost, .int ord, .int oac, .int ore, .int okn, .int oth])), (h1, .inl (cI, orl, .inl ork)), (h2, .inl (cI, owl, .inl oww))] → va_S A s.heap H locs → qX3_giveW_j26 oo oac a1 a2 s0_j26 s1_j26 post → lv_has ls 4 [(0, .ref h0), (1, .int a1), (2, .int a2)] → W p l e (headSpec wsX3_give ({ frames := 1, cells := 0, slots := 0, locals := 22 })).room s m ([.ref h0, .int a1, .int a2] : List Value).toArray below meth c H locs 0 0 (MQ below (va_Qi (fun (r : Int32) (u : Int32 × Int32 × Int32) => post r u.1 u.2.1 u.2.2) (fun (u : Int32 × Int32 × Int32) (t : State) => kE D A [(h0, .inr (5, [.int on, .int (u.1), .int og, .ref h1, .ref h2, .int ost, .int ord, .int (u.2.1), .int ore, .int okn, .int (u.2.2)])), (h1, .inl (cI, orl, .inl ork)), (h2, .inl (cI, owl, .inl oww))] t) A) ([.ref h0, .int a1, .int a2] : List Value).toArray s 0 0 A) (F0 m 26 ls [.int s0_j26, .int s1_j26, .ref h0]) := by
      intro s0_j26 s1_j26 H locs ls hP hD hS hv hl
      refine kw_i (wr := []) (va_runV (As := [.int s1_j26, .int s0_j26]) (rest := []) ⟨hx, hb, hml, hown, hts⟩ (kX3_isThrownW l D cI cB h0 h1 h2 on oo og orl ork owl oww ost ord oac ore okn oth s1_j26 s0_j26 _ _ hv) (cwV 2 hts gX3_give_X3_isThrown rfl rfl rfl (by decide +kernel) ⟨Nat.le_of_ble_eq_true rfl, Nat.le_of_ble_eq_true rfl⟩) ⟨(kPreW (As := [.ref h0, .int s1_j26, .int s0_j26]) (hP.sub (ws' := [(h0, .inr (5, [.int on, .int oo, .int og, .ref h1, .ref h2, .int ost, .int ord, .int oac, .int ore, .int okn, .int oth])), (h1, .inl (cI, orl, .inl ork)), (h2, .inl (cI, owl, .inl oww))]) [0, 1, 2] rfl) (hD.sub (ws' := [(h0, .inr (5, [.int on, .int oo, .int og, .ref h1, .ref h2, .int ost, .int ord, .int oac, .int ore, .int okn, .int oth])), (h1, .inl (cI, orl, .inl ork)), (h2, .inl (cI, owl, .inl oww))]) [0, 1, 2] (by decide) rfl) hK hN).1, kRecv (hP.sub (ws' := [(h0, .inr (5, [.int on, .int oo, .int og, .ref h1, .ref h2, .int ost, .int ord, .int oac, .int ore, .int okn, .int oth])), (h1, .inl (cI, orl, .inl ork)), (h2, .inl (cI, owl, .inl oww))]) [0, 1, 2] rfl) hK 5 rfl rfl rfl, (kPreW (As := [.ref h0, .int s1_j26, .int s0_j26]) (hP.sub (ws' := [(h0, .inr (5, [.int on, .int oo, .int og, .ref h1, .ref h2, .int ost, .int ord, .int oac, .int ore, .int okn, .int oth])), (h1, .inl (cI, orl, .inl ork)), (h2, .inl (cI, owl, .inl oww))]) [0, 1, 2] rfl) (hD.sub (ws' := [(h0, .inr (5, [.int on, .int oo, .int og, .ref h1, .ref h2, .int ost, .int ord, .int oac, .int ore, .int okn, .int oth])), (h1, .inl (cI, orl, .inl ork)), (h2, .inl (cI, owl, .inl oww))]) [0, 1, 2] (by decide) rfl) hK hN).2⟩ rfl rfl hl.1 rfl (lv_room (Nat.le_of_ble_eq_true rfl)) dX3_give_26 ⟨Nat.le_of_ble_eq_true rfl, Nat.le_of_ble_eq_true rfl⟩) hP hD hS hA [0, 1, 2] [] rfl rfl (by decide) (by decide) (fun r26 u H locs hv hP hD hS => ?_)
      obtain ⟨x26_0, rfl⟩ : ∃ z, z = u := ⟨_, rfl⟩
      have hP : va_P D vwCl [(h0, .inr (5, [.int on, .int oo, .int og, .ref h1, .ref h2, .int ost, .int ord, .int oac, .int ore, .int okn, .int x26_0])), (h1, .inl (cI, orl, .inl ork)), (h2, .inl (cI, owl, .inl oww))] H := hP.sub [0, 1, 2] rfl
      have hD : va_D A [(h0, .inr (5, [.int on, .int oo, .int og, .ref h1, .ref h2, .int ost, .int ord, .int oac, .int ore, .int okn, .int x26_0])), (h1, .inl (cI, orl, .inl ork)), (h2, .inl (cI, owl, .inl oww))] := hD.sub [0, 1, 2] (by decide) rfl
      refine lv_if_eq (tgt := 34) hx hb dX3_give_29 (by decide) (fun hc => ?_) (fun hc => ?_)
      · have hv := hv.1 hc
        refine lv_aload_n hx hb dX3_give_34 rfl (lv_at hl 0 rfl) ?_
        refine lv_iload_n hx hb dX3_give_35 rfl (lv_at hl 1 rfl) ?_
        refine kc_V (As := [.int a1]) (rest := []) ⟨hx, hb, hml, hown, hts⟩ (kX3_sideOf l D cI cB h0 h1 h2 on oo og orl ork owl oww ost ord oac ore okn x26_0 a1 _ hv) (cwV 1 hts gX3_give_X3_sideOf rfl rfl rfl (by decide +kernel) ⟨Nat.le_of_ble_eq_true rfl, Nat.le_of_ble_eq_true rfl⟩) hP hK hN 5 rfl rfl rfl rfl hl.1 rfl (Nat.le_of_ble_eq_true rfl) dX3_give_36 ⟨Nat.le_of_ble_eq_true rfl, Nat.le_of_ble_eq_true rfl⟩ (fun r36 hv => ?_)
        refine lv_istore_n (lv' := [(3, .int r36), (0, .ref h0), (1, .int a1), (2, .int a2)]) hx hb dX3_give_39 rfl hl (by decide) rfl (fun ls hl => ?_)
        refine lv_aload_n hx hb dX3_give_40 rfl (lv_at hl 1 rfl) ?_
        refine lv_aload_n hx hb dX3_give_41 rfl (lv_at hl 1 rfl) ?_
        refine va_get (D := D) (ci := 5) (v := .int oo) (C := RX3) (T := TX3) (N := 11) hx hb hts hi_X3 hown hK hP 0 rfl rfl 1 (by decide) hF20 (fun _ h9 => h9) rfl dX3_give_42 ?_
        refine lv_iconst (v := (1 : Int32)) hx hb dX3_give_45 (by decide) ?_
        refine lv_iload_n hx hb dX3_give_46 rfl (lv_at hl 2 rfl) ?_
        refine lv_ishl hx hb dX3_give_47 ?_
        refine lv_iconst (v := (-1 : Int32)) hx hb dX3_give_48 (by decide) ?_
        refine lv_ixor hx hb dX3_give_49 ?_
        refine lv_iand hx hb dX3_give_50 ?_
        refine lv_iload_n hx hb dX3_give_51 rfl (lv_at hl 3 rfl) ?_
        refine lv_iload_n hx hb dX3_give_52 rfl (lv_at hl 2 rfl) ?_
        refine lv_ishl hx hb dX3_give_53 ?_
        refine lv_ior hx hb dX3_give_54 ?_
        refine va_put (D := D) (ci := 5) (v := .int ((oo &&& (((1 : Int32) <<< (a1 &&& (31 : Int32))) ^^^ (-1 : Int32))) ||| (a2 <<< (a1 &&& (31 : Int32))))) (ty := .int) (C := RX3) (T := TX3) (N := 11) hx hb hts hi_X3 tyX3 tyX3_ok nmX3 hown hK hP hD hS 0 rfl rfl 1 (by decide) hF20 (fun _ h9 => h9) rfl (by decide +kernel) rfl rfl (Nat.le_of_ble_eq_true rfl) dX3_give_55 (fun H locs hP hD hS => ?_)
        have hP : va_P D vwCl [(h0, .inr (5, [.int on, .int ((oo &&& (((1 : Int32) <<< (a1 &&& (31 : Int32))) ^^^ (-1 : Int32))) ||| (a2 <<< (a1 &&& (31 : Int32)))), .int og, .ref h1, .ref h2, .int ost, .int ord, .int oac, .int ore, .int okn, .int x26_0])), (h1, .inl (cI, orl, .inl ork)), (h2, .inl (cI, owl, .inl oww))] H := hP
        have hD : va_D A [(h0, .inr (5, [.int on, .int ((oo &&& (((1 : Int32) <<< (a1 &&& (31 : Int32))) ^^^ (-1 : Int32))) ||| (a2 <<< (a1 &&& (31 : Int32)))), .int og, .ref h1, .ref h2, .int ost, .int ord, .int oac, .int ore, .int okn, .int x26_0])), (h1, .inl (cI, orl, .inl ork)), (h2, .inl (cI, owl, .inl oww))] := hD
        refine lv_aload_n hx hb dX3_give_58 rfl (lv_at hl 1 rfl) ?_
        refine lv_iload_n hx hb dX3_give_59 rfl (lv_at hl 0 rfl) ?_
        refine kw_i (wr := []) (va_runV (As := [.int r36]) (rest := []) ⟨hx, hb, hml, hown, hts⟩ (kX3_doneW l D cI cB h0 h1 h2 on ((oo &&& (((1 : Int32) <<< (a1 &&& (31 : Int32))) ^^^ (-1 : Int32))) ||| (a2 <<< (a1 &&& (31 : Int32)))) og orl ork owl oww ost ord oac ore okn x26_0 r36 _ _ hv) (cwV 1 hts gX3_give_X3_done rfl rfl rfl (by decide +kernel) ⟨Nat.le_of_ble_eq_true rfl, Nat.le_of_ble_eq_true rfl⟩) ⟨(kPreW (As := [.ref h0, .int r36]) (hP.sub (ws' := [(h0, .inr (5, [.int on, .int ((oo &&& (((1 : Int32) <<< (a1 &&& (31 : Int32))) ^^^ (-1 : Int32))) ||| (a2 <<< (a1 &&& (31 : Int32)))), .int og, .ref h1, .ref h2, .int ost, .int ord, .int oac, .int ore, .int okn, .int x26_0])), (h1, .inl (cI, orl, .inl ork)), (h2, .inl (cI, owl, .inl oww))]) [0, 1, 2] rfl) (hD.sub (ws' := [(h0, .inr (5, [.int on, .int ((oo &&& (((1 : Int32) <<< (a1 &&& (31 : Int32))) ^^^ (-1 : Int32))) ||| (a2 <<< (a1 &&& (31 : Int32)))), .int og, .ref h1, .ref h2, .int ost, .int ord, .int oac, .int ore, .int okn, .int x26_0])), (h1, .inl (cI, orl, .inl ork)), (h2, .inl (cI, owl, .inl oww))]) [0, 1, 2] (by decide) rfl) hK hN).1, kRecv (hP.sub (ws' := [(h0, .inr (5, [.int on, .int ((oo &&& (((1 : Int32) <<< (a1 &&& (31 : Int32))) ^^^ (-1 : Int32))) ||| (a2 <<< (a1 &&& (31 : Int32)))), .int og, .ref h1, .ref h2, .int ost, .int ord, .int oac, .int ore, .int okn, .int x26_0])), (h1, .inl (cI, orl, .inl ork)), (h2, .inl (cI, owl, .inl oww))]) [0, 1, 2] rfl) hK 5 rfl rfl rfl, (kPreW (As := [.ref h0, .int r36]) (hP.sub (ws' := [(h0, .inr (5, [.int on, .int ((oo &&& (((1 : Int32) <<< (a1 &&& (31 : Int32))) ^^^ (-1 : Int32))) ||| (a2 <<< (a1 &&& (31 : Int32)))), .int og, .ref h1, .ref h2, .int ost, .int ord, .int oac, .int ore, .int okn, .int x26_0])), (h1, .inl (cI, orl, .inl ork)), (h2, .inl (cI, owl, .inl oww))]) [0, 1, 2] rfl) (hD.sub (ws' := [(h0, .inr (5, [.int on, .int ((oo &&& (((1 : Int32) <<< (a1 &&& (31 : Int32))) ^^^ (-1 : Int32))) ||| (a2 <<< (a1 &&& (31 : Int32)))), .int og, .ref h1, .ref h2, .int ost, .int ord, .int oac, .int ore, .int okn, .int x26_0])), (h1, .inl (cI, orl, .inl ork)), (h2, .inl (cI, owl, .inl oww))]) [0, 1, 2] (by decide) rfl) hK hN).2⟩ rfl rfl hl.1 rfl (lv_room (Nat.le_of_ble_eq_true rfl)) dX3_give_60 ⟨Nat.le_of_ble_eq_true rfl, Nat.le_of_ble_eq_true rfl⟩) hP hD hS hA [0, 1, 2] [] rfl rfl (by decide) (by decide) (fun r60 u H locs hv hP hD hS => ?_)
        obtain ⟨x60_0, rfl⟩ : ∃ z, z = u := ⟨_, rfl⟩
        have hP : va_P D vwCl [(h0, .inr (5, [.int on, .int ((oo &&& (((1 : Int32) <<< (a1 &&& (31 : Int32))) ^^^ (-1 : Int32))) ||| (a2 <<< (a1 &&& (31 : Int32)))), .int og, .ref h1, .ref h2, .int ost, .int ord, .int x60_0, .int ore, .int okn, .int x26_0])), (h1, .inl (cI, orl, .inl ork)), (h2, .inl (cI, owl, .inl oww))] H := hP.sub [0, 1, 2] rfl
        have hD : va_D A [(h0, .inr (5, [.int on, .int ((oo &&& (((1 : Int32) <<< (a1 &&& (31 : Int32))) ^^^ (-1 : Int32))) ||| (a2 <<< (a1 &&& (31 : Int32)))), .int og, .ref h1, .ref h2, .int ost, .int ord, .int x60_0, .int ore, .int okn, .int x26_0])), (h1, .inl (cI, orl, .inl ork)), (h2, .inl (cI, owl, .inl oww))] := hD.sub [0, 1, 2] (by decide) rfl
        refine W.widen (k := 0) (n := 0) (Nat.le_of_ble_eq_true rfl) (Nat.le_of_ble_eq_true rfl) ?_
        exact W.iret (v := r60) hx hb hr (kWi_ret (u := (((oo &&& (((1 : Int32) <<< (a1 &&& (31 : Int32))) ^^^ (-1 : Int32))) ||| (a2 <<< (a1 &&& (31 : Int32)))), x60_0, x26_0)) hv hP hD hS) hS.2.2 dX3_give_63
      · have hv := hv.2 hc
        refine lv_iconst (v := (0 : Int32)) hx hb dX3_give_32 (by decide) ?_
        refine W.widen (k := 0) (n := 0) (Nat.le_of_ble_eq_true rfl) (Nat.le_of_ble_eq_true rfl) ?_
        exact W.iret (v := (0 : Int32)) hx hb hr (kWi_ret (u := (oo, oac, x26_0)) hv hP hD hS) hS.2.2 dX3_give_33
    refine lv_if_ne (tgt := 25) hx hb dX3_give_18 (by decide) (fun hc => ?_) (fun hc => ?_)
    · have hv := hv.1 hc
      refine lv_iconst (v := (0 : Int32)) hx hb dX3_give_25 (by decide) ?_
      refine W.widen (k := 0) (n := 0) (Nat.le_of_ble_eq_true rfl) (Nat.le_of_ble_eq_true rfl) ?_
      exact J26 _ _ _ _ _ hP hD hS hv (lv_sub hl [0, 1, 2] rfl)
    · have hv := hv.2 hc
      refine lv_iconst (v := (1 : Int32)) hx hb dX3_give_21 (by decide) ?_
      refine lv_goto (tgt := 26) hx hb dX3_give_22 (by decide) ?_
      refine W.widen (k := 0) (n := 0) (Nat.le_of_ble_eq_true rfl) (Nat.le_of_ble_eq_true rfl) ?_
      exact J26 _ _ _ _ _ hP hD hS hv (lv_sub hl [0, 1, 2] rfl)
  refine lv_if_ne (tgt := 13) hx hb dX3_give_6 (by decide) (fun hc => ?_) (fun hc => ?_)
  · have hv := hv.1 hc
    refine lv_iconst (v := (0 : Int32)) hx hb dX3_give_13 (by decide) ?_
    refine W.widen (k := 0) (n := 0) (Nat.le_of_ble_eq_true rfl) (Nat.le_of_ble_eq_true rfl) ?_
    exact J14 _ _ _ _ hP hD hS hv (lv_sub hl [0, 1, 2] rfl)
  · have hv := hv.2 hc
    refine lv_iconst (v := (1 : Int32)) hx hb dX3_give_9 (by decide) ?_
    refine lv_goto (tgt := 14) hx hb dX3_give_10 (by decide) ?_
    refine W.widen (k := 0) (n := 0) (Nat.le_of_ble_eq_true rfl) (Nat.le_of_ble_eq_true rfl) ?_
    exact J14 _ _ _ _ hP hD hS hv (lv_sub hl [0, 1, 2] rfl)
set_option maxHeartbeats 4000000 in
set_option maxRecDepth 100000 in
theorem kX3_rankW (l : Launch) (D : va_G) (cI cB : ClassId) (h0 : Nat) (h1 : Nat) (h2 : Nat) (on : Int32) (oo : Int32) (og : Int32) (orl : Nat) (ork : Nat → Int32) (owl : Nat) (oww : Nat → Int32) (ost : Int32) (ord : Int32) (oac : Int32) (ore : Int32) (okn : Int32) (oth : Int32) (a1 : Int32) (a2 : Int32) (sz : Nat) (post : Int32 → Int32 → Int32 → (Nat → Int32) → Prop) (hv : qX3_rankW on orl ork oac a1 a2 post) : Met l yX3_rank wsX3_rank ({ frames := 1, cells := 0, slots := 0, locals := 22 }) (va_Pc [.ref h0, .int a1, .int a2] (kBW D cI cB sz [(h0, .inr (5, [.int on, .int oo, .int og, .ref h1, .ref h2, .int ost, .int ord, .int oac, .int ore, .int okn, .int oth])), (h1, .inl (cI, orl, .inl ork)), (h2, .inl (cI, owl, .inl oww))])) (va_Qi (fun (r : Int32) (u : Int32 × Int32 × (Nat → Int32)) => post r u.1 u.2.1 u.2.2) (fun (u : Int32 × Int32 × (Nat → Int32)) (t : State) => kE D (va_A [(h0, .inr (5, [.int on, .int oo, .int og, .ref h1, .ref h2, .int ost, .int ord, .int oac, .int ore, .int okn, .int oth])), (h1, .inl (cI, orl, .inl ork)), (h2, .inl (cI, owl, .inl oww))] sz) [(h0, .inr (5, [.int on, .int oo, .int og, .ref h1, .ref h2, .int ost, .int ord, .int (u.1), .int ore, .int okn, .int (u.2.1)])), (h1, .inl (cI, orl, .inl (u.2.2))), (h2, .inl (cI, owl, .inl oww))] t) (va_A [(h0, .inr (5, [.int on, .int oo, .int og, .ref h1, .ref h2, .int ost, .int ord, .int oac, .int ore, .int okn, .int oth])), (h1, .inl (cI, orl, .inl ork)), (h2, .inl (cI, owl, .inl oww))] sz)) 0 0 (va_A [(h0, .inr (5, [.int on, .int oo, .int og, .ref h1, .ref h2, .int ost, .int ord, .int oac, .int ore, .int okn, .int oth])), (h1, .inl (cI, orl, .inl ork)), (h2, .inl (cI, owl, .inl oww))] sz) := by
  refine Met.ofW (cc := cX3_rank) (maxL := 4) (ret := (some .int)) (by decide) rfl ?_
  intro p e s m args below meth c s₁ B hml hv0
  obtain ⟨rfl, hsz, ⟨hP, hK, hN⟩, hD0⟩ := hv0
  have hx := B.exec
  have hb := B.bytes
  have hr := B.returns
  have hts := atoms_spec (ws := wsX3_rank) B.pre
  have hown : s.vm.findClass RX3 = some m.cls := findClass_of_methodNamed B.named
  have hlocks := B.notSynchronized
  have hi_X3 : ∀ w ∈ wsX30, w ∈ wsX3_rank := by decide +kernel
  have hF26 := hts (.fieldLink RX3 26 "RoadgameModel" "ranks" "[I") (by decide +kernel)
  subst hsz
  have hD := hD0.self (sz := s.heap.size)
  generalize hAe : va_A [(h0, .inr (5, [.int on, .int oo, .int og, .ref h1, .ref h2, .int ost, .int ord, .int oac, .int ore, .int okn, .int oth])), (h1, .inl (cI, orl, .inl ork)), (h2, .inl (cI, owl, .inl oww))] s.heap.size = A at hD ⊢
  have hA : ∀ q : Nat, s.heap.size ≤ q → A q := fun q h => by rw [← hAe]; exact Or.inr h
  have hS : va_S A s.heap s.heap [] := va_S.rf
  have hl := lv_entry ([.ref h0, .int a1, .int a2]) (n := 4) (Nat.le_of_ble_eq_true rfl)
  rw [lg_entry_eq]
  generalize (lg_sl ([.ref h0, .int a1, .int a2]) ++ List.replicate (4 - (lg_sl ([.ref h0, .int a1, .int a2])).length) Slot.unset).toArray = ls at hl ⊢
  have hl : lv_has ls 4 [(0, .ref h0), (1, .int a1), (2, .int a2)] := hl
  refine lv_aload_n hx hb dX3_rank_0 rfl (lv_at hl 0 rfl) ?_
  refine lv_aload_n hx hb dX3_rank_1 rfl (lv_at hl 0 rfl) ?_
  refine lv_iload_n hx hb dX3_rank_2 rfl (lv_at hl 1 rfl) ?_
  refine kc_V (As := [.int a1]) (rest := [.ref h0]) ⟨hx, hb, hml, hown, hts⟩ (kX3_isPlace l D cI cB h0 h1 h2 on oo og orl ork owl oww ost ord oac ore okn oth a1 _ hv) (cwV 1 hts gX3_rank_X3_isPlace rfl rfl rfl (by decide +kernel) ⟨Nat.le_of_ble_eq_true rfl, Nat.le_of_ble_eq_true rfl⟩) hP hK hN 5 rfl rfl rfl rfl hl.1 rfl (Nat.le_of_ble_eq_true rfl) dX3_rank_3 ⟨Nat.le_of_ble_eq_true rfl, Nat.le_of_ble_eq_true rfl⟩ (fun r3 hv => ?_)
  have J14 : ∀ (s0_j14 : Int32) (H : Heap) (locs : List Loc) (ls : Array Slot), va_P D vwCl [(h0, .inr (5, [.int on, .int oo, .int og, .ref h1, .ref h2, .int ost, .int ord, .int oac, .int ore, .int okn, .int oth])), (h1, .inl (cI, orl, .inl ork)), (h2, .inl (cI, owl, .inl oww))] H → va_D A [(h0, .inr (5, [.int on, .int oo, .int og, .ref h1, .ref h2, .int ost, .int ord, .int oac, .int ore, .int okn, .int oth])), (h1, .inl (cI, orl, .inl ork)), (h2, .inl (cI, owl, .inl oww))] → va_S A s.heap H locs → qX3_rankW_j14 orl ork oac a1 a2 s0_j14 post → lv_has ls 4 [(0, .ref h0), (1, .int a1), (2, .int a2)] → W p l e (headSpec wsX3_rank ({ frames := 1, cells := 0, slots := 0, locals := 22 })).room s m ([.ref h0, .int a1, .int a2] : List Value).toArray below meth c H locs 0 0 (MQ below (va_Qi (fun (r : Int32) (u : Int32 × Int32 × (Nat → Int32)) => post r u.1 u.2.1 u.2.2) (fun (u : Int32 × Int32 × (Nat → Int32)) (t : State) => kE D A [(h0, .inr (5, [.int on, .int oo, .int og, .ref h1, .ref h2, .int ost, .int ord, .int (u.1), .int ore, .int okn, .int (u.2.1)])), (h1, .inl (cI, orl, .inl (u.2.2))), (h2, .inl (cI, owl, .inl oww))] t) A) ([.ref h0, .int a1, .int a2] : List Value).toArray s 0 0 A) (F0 m 14 ls [.int s0_j14, .ref h0]) := by
    intro s0_j14 H locs ls hP hD hS hv hl
    refine lv_iload_n hx hb dX3_rank_14 rfl (lv_at hl 2 rfl) ?_
    have J28 : ∀ (s0_j28 : Int32) (s1_j28 : Int32) (H : Heap) (locs : List Loc) (ls : Array Slot), va_P D vwCl [(h0, .inr (5, [.int on, .int oo, .int og, .ref h1, .ref h2, .int ost, .int ord, .int oac, .int ore, .int okn, .int oth])), (h1, .inl (cI, orl, .inl ork)), (h2, .inl (cI, owl, .inl oww))] H → va_D A [(h0, .inr (5, [.int on, .int oo, .int og, .ref h1, .ref h2, .int ost, .int ord, .int oac, .int ore, .int okn, .int oth])), (h1, .inl (cI, orl, .inl ork)), (h2, .inl (cI, owl, .inl oww))] → va_S A s.heap H locs → qX3_rankW_j28 orl ork oac a1 a2 s0_j28 s1_j28 post → lv_has ls 4 [(0, .ref h0), (1, .int a1), (2, .int a2)] → W p l e (headSpec wsX3_rank ({ frames := 1, cells := 0, slots := 0, locals := 22 })).room s m ([.ref h0, .int a1, .int a2] : List Value).toArray below meth c H locs 0 0 (MQ below (va_Qi (fun (r : Int32) (u : Int32 × Int32 × (Nat → Int32)) => post r u.1 u.2.1 u.2.2) (fun (u : Int32 × Int32 × (Nat → Int32)) (t : State) => kE D A [(h0, .inr (5, [.int on, .int oo, .int og, .ref h1, .ref h2, .int ost, .int ord, .int (u.1), .int ore, .int okn, .int (u.2.1)])), (h1, .inl (cI, orl, .inl (u.2.2))), (h2, .inl (cI, owl, .inl oww))] t) A) ([.ref h0, .int a1, .int a2] : List Value).toArray s 0 0 A) (F0 m 28 ls [.int s0_j28, .int s1_j28, .ref h0]) := by
      intro s0_j28 s1_j28 H locs ls hP hD hS hv hl
      refine kw_i (wr := []) (va_runV (As := [.int s1_j28, .int s0_j28]) (rest := []) ⟨hx, hb, hml, hown, hts⟩ (kX3_isThrownW l D cI cB h0 h1 h2 on oo og orl ork owl oww ost ord oac ore okn oth s1_j28 s0_j28 _ _ hv) (cwV 2 hts gX3_rank_X3_isThrown rfl rfl rfl (by decide +kernel) ⟨Nat.le_of_ble_eq_true rfl, Nat.le_of_ble_eq_true rfl⟩) ⟨(kPreW (As := [.ref h0, .int s1_j28, .int s0_j28]) (hP.sub (ws' := [(h0, .inr (5, [.int on, .int oo, .int og, .ref h1, .ref h2, .int ost, .int ord, .int oac, .int ore, .int okn, .int oth])), (h1, .inl (cI, orl, .inl ork)), (h2, .inl (cI, owl, .inl oww))]) [0, 1, 2] rfl) (hD.sub (ws' := [(h0, .inr (5, [.int on, .int oo, .int og, .ref h1, .ref h2, .int ost, .int ord, .int oac, .int ore, .int okn, .int oth])), (h1, .inl (cI, orl, .inl ork)), (h2, .inl (cI, owl, .inl oww))]) [0, 1, 2] (by decide) rfl) hK hN).1, kRecv (hP.sub (ws' := [(h0, .inr (5, [.int on, .int oo, .int og, .ref h1, .ref h2, .int ost, .int ord, .int oac, .int ore, .int okn, .int oth])), (h1, .inl (cI, orl, .inl ork)), (h2, .inl (cI, owl, .inl oww))]) [0, 1, 2] rfl) hK 5 rfl rfl rfl, (kPreW (As := [.ref h0, .int s1_j28, .int s0_j28]) (hP.sub (ws' := [(h0, .inr (5, [.int on, .int oo, .int og, .ref h1, .ref h2, .int ost, .int ord, .int oac, .int ore, .int okn, .int oth])), (h1, .inl (cI, orl, .inl ork)), (h2, .inl (cI, owl, .inl oww))]) [0, 1, 2] rfl) (hD.sub (ws' := [(h0, .inr (5, [.int on, .int oo, .int og, .ref h1, .ref h2, .int ost, .int ord, .int oac, .int ore, .int okn, .int oth])), (h1, .inl (cI, orl, .inl ork)), (h2, .inl (cI, owl, .inl oww))]) [0, 1, 2] (by decide) rfl) hK hN).2⟩ rfl rfl hl.1 rfl (lv_room (Nat.le_of_ble_eq_true rfl)) dX3_rank_28 ⟨Nat.le_of_ble_eq_true rfl, Nat.le_of_ble_eq_true rfl⟩) hP hD hS hA [0, 1, 2] [] rfl rfl (by decide) (by decide) (fun r28 u H locs hv hP hD hS => ?_)
      obtain ⟨x28_0, rfl⟩ : ∃ z, z = u := ⟨_, rfl⟩
      have hP : va_P D vwCl [(h0, .inr (5, [.int on, .int oo, .int og, .ref h1, .ref h2, .int ost, .int ord, .int oac, .int ore, .int okn, .int x28_0])), (h1, .inl (cI, orl, .inl ork)), (h2, .inl (cI, owl, .inl oww))] H := hP.sub [0, 1, 2] rfl
      have hD : va_D A [(h0, .inr (5, [.int on, .int oo, .int og, .ref h1, .ref h2, .int ost, .int ord, .int oac, .int ore, .int okn, .int x28_0])), (h1, .inl (cI, orl, .inl ork)), (h2, .inl (cI, owl, .inl oww))] := hD.sub [0, 1, 2] (by decide) rfl
      refine lv_if_eq (tgt := 36) hx hb dX3_rank_31 (by decide) (fun hc => ?_) (fun hc => ?_)
      · have hv := hv.1 hc
        refine lv_aload_n hx hb dX3_rank_36 rfl (lv_at hl 0 rfl) ?_
        refine va_get (D := D) (ci := 5) (v := .ref h1) (C := RX3) (T := TX3) (N := 11) hx hb hts hi_X3 hown hK hP 0 rfl rfl 3 (by decide) hF26 (fun _ h9 => h9) rfl dX3_rank_37 ?_
        refine lv_iload_n hx hb dX3_rank_40 rfl (lv_at hl 1 rfl) ?_
        obtain ⟨hq, hv⟩ := hv
        refine va_iald hx hb hK hP 1 0 rfl rfl hq dX3_rank_41 ?_
        refine lv_istore_n (lv' := [(3, .int (ork a1.toNatClampNeg)), (0, .ref h0), (1, .int a1), (2, .int a2)]) hx hb dX3_rank_42 rfl hl (by decide) rfl (fun ls hl => ?_)
        refine lv_aload_n hx hb dX3_rank_43 rfl (lv_at hl 1 rfl) ?_
        refine va_get (D := D) (ci := 5) (v := .ref h1) (C := RX3) (T := TX3) (N := 11) hx hb hts hi_X3 hown hK hP 0 rfl rfl 3 (by decide) hF26 (fun _ h9 => h9) rfl dX3_rank_44 ?_
        refine lv_iload_n hx hb dX3_rank_47 rfl (lv_at hl 2 rfl) ?_
        refine lv_iload_n hx hb dX3_rank_48 rfl (lv_at hl 3 rfl) ?_
        obtain ⟨hq, hv⟩ := hv
        refine va_iast hx hb hK hP hD hS 1 0 rfl rfl hq dX3_rank_49 (fun H locs hP hD hS => ?_)
        have hP : va_P D vwCl [(h0, .inr (5, [.int on, .int oo, .int og, .ref h1, .ref h2, .int ost, .int ord, .int oac, .int ore, .int okn, .int x28_0])), (h1, .inl (cI, orl, .inl (upd ork a1.toNatClampNeg a2))), (h2, .inl (cI, owl, .inl oww))] H := hP
        have hD : va_D A [(h0, .inr (5, [.int on, .int oo, .int og, .ref h1, .ref h2, .int ost, .int ord, .int oac, .int ore, .int okn, .int x28_0])), (h1, .inl (cI, orl, .inl (upd ork a1.toNatClampNeg a2))), (h2, .inl (cI, owl, .inl oww))] := hD
        refine lv_aload_n hx hb dX3_rank_50 rfl (lv_at hl 1 rfl) ?_
        refine lv_iload_n hx hb dX3_rank_51 rfl (lv_at hl 0 rfl) ?_
        refine kw_i (wr := []) (va_runV (As := [.int (ork a1.toNatClampNeg)]) (rest := []) ⟨hx, hb, hml, hown, hts⟩ (kX3_doneW l D cI cB h0 h1 h2 on oo og orl (upd ork a1.toNatClampNeg a2) owl oww ost ord oac ore okn x28_0 (ork a1.toNatClampNeg) _ _ hv) (cwV 1 hts gX3_rank_X3_done rfl rfl rfl (by decide +kernel) ⟨Nat.le_of_ble_eq_true rfl, Nat.le_of_ble_eq_true rfl⟩) ⟨(kPreW (As := [.ref h0, .int (ork a1.toNatClampNeg)]) (hP.sub (ws' := [(h0, .inr (5, [.int on, .int oo, .int og, .ref h1, .ref h2, .int ost, .int ord, .int oac, .int ore, .int okn, .int x28_0])), (h1, .inl (cI, orl, .inl (upd ork a1.toNatClampNeg a2))), (h2, .inl (cI, owl, .inl oww))]) [0, 1, 2] rfl) (hD.sub (ws' := [(h0, .inr (5, [.int on, .int oo, .int og, .ref h1, .ref h2, .int ost, .int ord, .int oac, .int ore, .int okn, .int x28_0])), (h1, .inl (cI, orl, .inl (upd ork a1.toNatClampNeg a2))), (h2, .inl (cI, owl, .inl oww))]) [0, 1, 2] (by decide) rfl) hK hN).1, kRecv (hP.sub (ws' := [(h0, .inr (5, [.int on, .int oo, .int og, .ref h1, .ref h2, .int ost, .int ord, .int oac, .int ore, .int okn, .int x28_0])), (h1, .inl (cI, orl, .inl (upd ork a1.toNatClampNeg a2))), (h2, .inl (cI, owl, .inl oww))]) [0, 1, 2] rfl) hK 5 rfl rfl rfl, (kPreW (As := [.ref h0, .int (ork a1.toNatClampNeg)]) (hP.sub (ws' := [(h0, .inr (5, [.int on, .int oo, .int og, .ref h1, .ref h2, .int ost, .int ord, .int oac, .int ore, .int okn, .int x28_0])), (h1, .inl (cI, orl, .inl (upd ork a1.toNatClampNeg a2))), (h2, .inl (cI, owl, .inl oww))]) [0, 1, 2] rfl) (hD.sub (ws' := [(h0, .inr (5, [.int on, .int oo, .int og, .ref h1, .ref h2, .int ost, .int ord, .int oac, .int ore, .int okn, .int x28_0])), (h1, .inl (cI, orl, .inl (upd ork a1.toNatClampNeg a2))), (h2, .inl (cI, owl, .inl oww))]) [0, 1, 2] (by decide) rfl) hK hN).2⟩ rfl rfl hl.1 rfl (lv_room (Nat.le_of_ble_eq_true rfl)) dX3_rank_52 ⟨Nat.le_of_ble_eq_true rfl, Nat.le_of_ble_eq_true rfl⟩) hP hD hS hA [0, 1, 2] [] rfl rfl (by decide) (by decide) (fun r52 u H locs hv hP hD hS => ?_)
        obtain ⟨x52_0, rfl⟩ : ∃ z, z = u := ⟨_, rfl⟩
        have hP : va_P D vwCl [(h0, .inr (5, [.int on, .int oo, .int og, .ref h1, .ref h2, .int ost, .int ord, .int x52_0, .int ore, .int okn, .int x28_0])), (h1, .inl (cI, orl, .inl (upd ork a1.toNatClampNeg a2))), (h2, .inl (cI, owl, .inl oww))] H := hP.sub [0, 1, 2] rfl
        have hD : va_D A [(h0, .inr (5, [.int on, .int oo, .int og, .ref h1, .ref h2, .int ost, .int ord, .int x52_0, .int ore, .int okn, .int x28_0])), (h1, .inl (cI, orl, .inl (upd ork a1.toNatClampNeg a2))), (h2, .inl (cI, owl, .inl oww))] := hD.sub [0, 1, 2] (by decide) rfl
        refine W.widen (k := 0) (n := 0) (Nat.le_of_ble_eq_true rfl) (Nat.le_of_ble_eq_true rfl) ?_
        exact W.iret (v := r52) hx hb hr (kWi_ret (u := (x52_0, x28_0, (upd ork a1.toNatClampNeg a2))) hv hP hD hS) hS.2.2 dX3_rank_55
      · have hv := hv.2 hc
        refine lv_iconst (v := (0 : Int32)) hx hb dX3_rank_34 (by decide) ?_
        refine W.widen (k := 0) (n := 0) (Nat.le_of_ble_eq_true rfl) (Nat.le_of_ble_eq_true rfl) ?_
        exact W.iret (v := (0 : Int32)) hx hb hr (kWi_ret (u := (oac, x28_0, ork)) hv hP hD hS) hS.2.2 dX3_rank_35
    have J23 : ∀ (s0_j23 : Int32) (H : Heap) (locs : List Loc) (ls : Array Slot), va_P D vwCl [(h0, .inr (5, [.int on, .int oo, .int og, .ref h1, .ref h2, .int ost, .int ord, .int oac, .int ore, .int okn, .int oth])), (h1, .inl (cI, orl, .inl ork)), (h2, .inl (cI, owl, .inl oww))] H → va_D A [(h0, .inr (5, [.int on, .int oo, .int og, .ref h1, .ref h2, .int ost, .int ord, .int oac, .int ore, .int okn, .int oth])), (h1, .inl (cI, orl, .inl ork)), (h2, .inl (cI, owl, .inl oww))] → va_S A s.heap H locs → qX3_rankW_j23 orl ork oac a1 a2 s0_j23 post → lv_has ls 4 [(0, .ref h0), (1, .int a1), (2, .int a2)] → W p l e (headSpec wsX3_rank ({ frames := 1, cells := 0, slots := 0, locals := 22 })).room s m ([.ref h0, .int a1, .int a2] : List Value).toArray below meth c H locs 0 0 (MQ below (va_Qi (fun (r : Int32) (u : Int32 × Int32 × (Nat → Int32)) => post r u.1 u.2.1 u.2.2) (fun (u : Int32 × Int32 × (Nat → Int32)) (t : State) => kE D A [(h0, .inr (5, [.int on, .int oo, .int og, .ref h1, .ref h2, .int ost, .int ord, .int (u.1), .int ore, .int okn, .int (u.2.1)])), (h1, .inl (cI, orl, .inl (u.2.2))), (h2, .inl (cI, owl, .inl oww))] t) A) ([.ref h0, .int a1, .int a2] : List Value).toArray s 0 0 A) (F0 m 23 ls [.int s0_j23, .ref h0]) := by
      intro s0_j23 H locs ls hP hD hS hv hl
      refine lv_iconst (v := (1 : Int32)) hx hb dX3_rank_23 (by decide) ?_
      refine lv_goto (tgt := 28) hx hb dX3_rank_24 (by decide) ?_
      refine W.widen (k := 0) (n := 0) (Nat.le_of_ble_eq_true rfl) (Nat.le_of_ble_eq_true rfl) ?_
      exact J28 _ _ _ _ _ hP hD hS hv (lv_sub hl [0, 1, 2] rfl)
    refine lv_if_lt (tgt := 23) hx hb dX3_rank_15 (by decide) (fun hc => ?_) (fun hc => ?_)
    · have hv := hv.1 hc
      refine W.widen (k := 0) (n := 0) (Nat.le_of_ble_eq_true rfl) (Nat.le_of_ble_eq_true rfl) ?_
      exact J23 _ _ _ _ hP hD hS hv (lv_sub hl [0, 1, 2] rfl)
    · have hv := hv.2 hc
      refine lv_iload_n hx hb dX3_rank_18 rfl (lv_at hl 2 rfl) ?_
      refine lv_iconst (v := (2 : Int32)) hx hb dX3_rank_19 (by decide) ?_
      refine lv_icmp_le (tgt := 27) hx hb dX3_rank_20 (by decide) (fun hc => ?_) (fun hc => ?_)
      · have hv := hv.1 hc
        refine lv_iconst (v := (0 : Int32)) hx hb dX3_rank_27 (by decide) ?_
        refine W.widen (k := 0) (n := 0) (Nat.le_of_ble_eq_true rfl) (Nat.le_of_ble_eq_true rfl) ?_
        exact J28 _ _ _ _ _ hP hD hS hv (lv_sub hl [0, 1, 2] rfl)
      · have hv := hv.2 hc
        refine W.widen (k := 0) (n := 0) (Nat.le_of_ble_eq_true rfl) (Nat.le_of_ble_eq_true rfl) ?_
        exact J23 _ _ _ _ hP hD hS hv (lv_sub hl [0, 1, 2] rfl)
  refine lv_if_ne (tgt := 13) hx hb dX3_rank_6 (by decide) (fun hc => ?_) (fun hc => ?_)
  · have hv := hv.1 hc
    refine lv_iconst (v := (0 : Int32)) hx hb dX3_rank_13 (by decide) ?_
    refine W.widen (k := 0) (n := 0) (Nat.le_of_ble_eq_true rfl) (Nat.le_of_ble_eq_true rfl) ?_
    exact J14 _ _ _ _ hP hD hS hv (lv_sub hl [0, 1, 2] rfl)
  · have hv := hv.2 hc
    refine lv_iconst (v := (1 : Int32)) hx hb dX3_rank_9 (by decide) ?_
    refine lv_goto (tgt := 14) hx hb dX3_rank_10 (by decide) ?_
    refine W.widen (k := 0) (n := 0) (Nat.le_of_ble_eq_true rfl) (Nat.le_of_ble_eq_true rfl) ?_
    exact J14 _ _ _ _ hP hD hS hv (lv_sub hl [0, 1, 2] rfl)
set_option maxHeartbeats 4000000 in
set_option maxRecDepth 100000 in
theorem kX3_goalW (l : Launch) (D : va_G) (cI cB : ClassId) (h0 : Nat) (h1 : Nat) (h2 : Nat) (on : Int32) (oo : Int32) (og : Int32) (orl : Nat) (ork : Nat → Int32) (owl : Nat) (oww : Nat → Int32) (ost : Int32) (ord : Int32) (oac : Int32) (ore : Int32) (okn : Int32) (oth : Int32) (a1 : Int32) (sz : Nat) (post : Int32 → Int32 → Int32 → Int32 → Prop) (hv : qX3_goalW on og oac a1 post) : Met l yX3_goal wsX3_goal ({ frames := 2, cells := 0, slots := 0, locals := 43 }) (va_Pc [.ref h0, .int a1] (kBW D cI cB sz [(h0, .inr (5, [.int on, .int oo, .int og, .ref h1, .ref h2, .int ost, .int ord, .int oac, .int ore, .int okn, .int oth])), (h1, .inl (cI, orl, .inl ork)), (h2, .inl (cI, owl, .inl oww))])) (va_Qi (fun (r : Int32) (u : Int32 × Int32 × Int32) => post r u.1 u.2.1 u.2.2) (fun (u : Int32 × Int32 × Int32) (t : State) => kE D (va_A [(h0, .inr (5, [.int on, .int oo, .int og, .ref h1, .ref h2, .int ost, .int ord, .int oac, .int ore, .int okn, .int oth])), (h1, .inl (cI, orl, .inl ork)), (h2, .inl (cI, owl, .inl oww))] sz) [(h0, .inr (5, [.int on, .int oo, .int (u.1), .ref h1, .ref h2, .int ost, .int ord, .int (u.2.1), .int ore, .int okn, .int (u.2.2)])), (h1, .inl (cI, orl, .inl ork)), (h2, .inl (cI, owl, .inl oww))] t) (va_A [(h0, .inr (5, [.int on, .int oo, .int og, .ref h1, .ref h2, .int ost, .int ord, .int oac, .int ore, .int okn, .int oth])), (h1, .inl (cI, orl, .inl ork)), (h2, .inl (cI, owl, .inl oww))] sz)) 0 0 (va_A [(h0, .inr (5, [.int on, .int oo, .int og, .ref h1, .ref h2, .int ost, .int ord, .int oac, .int ore, .int okn, .int oth])), (h1, .inl (cI, orl, .inl ork)), (h2, .inl (cI, owl, .inl oww))] sz) := by
  refine Met.ofW (cc := cX3_goal) (maxL := 3) (ret := (some .int)) (by decide) rfl ?_
  intro p e s m args below meth c s₁ B hml hv0
  obtain ⟨rfl, hsz, ⟨hP, hK, hN⟩, hD0⟩ := hv0
  have hx := B.exec
  have hb := B.bytes
  have hr := B.returns
  have hts := atoms_spec (ws := wsX3_goal) B.pre
  have hown : s.vm.findClass RX3 = some m.cls := findClass_of_methodNamed B.named
  have hlocks := B.notSynchronized
  have hi_X3 : ∀ w ∈ wsX30, w ∈ wsX3_goal := by decide +kernel
  have hF23 := hts (.fieldLink RX3 23 "RoadgameModel" "goal" "I") (by decide +kernel)
  subst hsz
  have hD := hD0.self (sz := s.heap.size)
  generalize hAe : va_A [(h0, .inr (5, [.int on, .int oo, .int og, .ref h1, .ref h2, .int ost, .int ord, .int oac, .int ore, .int okn, .int oth])), (h1, .inl (cI, orl, .inl ork)), (h2, .inl (cI, owl, .inl oww))] s.heap.size = A at hD ⊢
  have hA : ∀ q : Nat, s.heap.size ≤ q → A q := fun q h => by rw [← hAe]; exact Or.inr h
  have hS : va_S A s.heap s.heap [] := va_S.rf
  have hl := lv_entry ([.ref h0, .int a1]) (n := 3) (Nat.le_of_ble_eq_true rfl)
  rw [lg_entry_eq]
  generalize (lg_sl ([.ref h0, .int a1]) ++ List.replicate (3 - (lg_sl ([.ref h0, .int a1])).length) Slot.unset).toArray = ls at hl ⊢
  have hl : lv_has ls 3 [(0, .ref h0), (1, .int a1)] := hl
  refine lv_aload_n hx hb dX3_goal_0 rfl (lv_at hl 0 rfl) ?_
  refine lv_iload_n hx hb dX3_goal_1 rfl (lv_at hl 1 rfl) ?_
  have J18 : ∀ (s0_j18 : Int32) (H : Heap) (locs : List Loc) (ls : Array Slot), va_P D vwCl [(h0, .inr (5, [.int on, .int oo, .int og, .ref h1, .ref h2, .int ost, .int ord, .int oac, .int ore, .int okn, .int oth])), (h1, .inl (cI, orl, .inl ork)), (h2, .inl (cI, owl, .inl oww))] H → va_D A [(h0, .inr (5, [.int on, .int oo, .int og, .ref h1, .ref h2, .int ost, .int ord, .int oac, .int ore, .int okn, .int oth])), (h1, .inl (cI, orl, .inl ork)), (h2, .inl (cI, owl, .inl oww))] → va_S A s.heap H locs → qX3_goalW_j18 og oac a1 s0_j18 post → lv_has ls 3 [(0, .ref h0), (1, .int a1)] → W p l e (headSpec wsX3_goal ({ frames := 2, cells := 0, slots := 0, locals := 43 })).room s m ([.ref h0, .int a1] : List Value).toArray below meth c H locs 0 0 (MQ below (va_Qi (fun (r : Int32) (u : Int32 × Int32 × Int32) => post r u.1 u.2.1 u.2.2) (fun (u : Int32 × Int32 × Int32) (t : State) => kE D A [(h0, .inr (5, [.int on, .int oo, .int (u.1), .ref h1, .ref h2, .int ost, .int ord, .int (u.2.1), .int ore, .int okn, .int (u.2.2)])), (h1, .inl (cI, orl, .inl ork)), (h2, .inl (cI, owl, .inl oww))] t) A) ([.ref h0, .int a1] : List Value).toArray s 0 0 A) (F0 m 18 ls [.int s0_j18, .ref h0]) := by
    intro s0_j18 H locs ls hP hD hS hv hl
    refine kw_i (wr := []) (va_runV (As := [.int s0_j18]) (rest := []) ⟨hx, hb, hml, hown, hts⟩ (kX3_isThrown_W l D cI cB h0 h1 h2 on oo og orl ork owl oww ost ord oac ore okn oth s0_j18 _ _ hv) (cwV 1 hts gX3_goal_X3_isThrown_ rfl rfl rfl (by decide +kernel) ⟨Nat.le_of_ble_eq_true rfl, Nat.le_of_ble_eq_true rfl⟩) ⟨(kPreW (As := [.ref h0, .int s0_j18]) (hP.sub (ws' := [(h0, .inr (5, [.int on, .int oo, .int og, .ref h1, .ref h2, .int ost, .int ord, .int oac, .int ore, .int okn, .int oth])), (h1, .inl (cI, orl, .inl ork)), (h2, .inl (cI, owl, .inl oww))]) [0, 1, 2] rfl) (hD.sub (ws' := [(h0, .inr (5, [.int on, .int oo, .int og, .ref h1, .ref h2, .int ost, .int ord, .int oac, .int ore, .int okn, .int oth])), (h1, .inl (cI, orl, .inl ork)), (h2, .inl (cI, owl, .inl oww))]) [0, 1, 2] (by decide) rfl) hK hN).1, kRecv (hP.sub (ws' := [(h0, .inr (5, [.int on, .int oo, .int og, .ref h1, .ref h2, .int ost, .int ord, .int oac, .int ore, .int okn, .int oth])), (h1, .inl (cI, orl, .inl ork)), (h2, .inl (cI, owl, .inl oww))]) [0, 1, 2] rfl) hK 5 rfl rfl rfl, (kPreW (As := [.ref h0, .int s0_j18]) (hP.sub (ws' := [(h0, .inr (5, [.int on, .int oo, .int og, .ref h1, .ref h2, .int ost, .int ord, .int oac, .int ore, .int okn, .int oth])), (h1, .inl (cI, orl, .inl ork)), (h2, .inl (cI, owl, .inl oww))]) [0, 1, 2] rfl) (hD.sub (ws' := [(h0, .inr (5, [.int on, .int oo, .int og, .ref h1, .ref h2, .int ost, .int ord, .int oac, .int ore, .int okn, .int oth])), (h1, .inl (cI, orl, .inl ork)), (h2, .inl (cI, owl, .inl oww))]) [0, 1, 2] (by decide) rfl) hK hN).2⟩ rfl rfl hl.1 rfl (lv_room (Nat.le_of_ble_eq_true rfl)) dX3_goal_18 ⟨Nat.le_of_ble_eq_true rfl, Nat.le_of_ble_eq_true rfl⟩) hP hD hS hA [0, 1, 2] [] rfl rfl (by decide) (by decide) (fun r18 u H locs hv hP hD hS => ?_)
    obtain ⟨x18_0, rfl⟩ : ∃ z, z = u := ⟨_, rfl⟩
    have hP : va_P D vwCl [(h0, .inr (5, [.int on, .int oo, .int og, .ref h1, .ref h2, .int ost, .int ord, .int oac, .int ore, .int okn, .int x18_0])), (h1, .inl (cI, orl, .inl ork)), (h2, .inl (cI, owl, .inl oww))] H := hP.sub [0, 1, 2] rfl
    have hD : va_D A [(h0, .inr (5, [.int on, .int oo, .int og, .ref h1, .ref h2, .int ost, .int ord, .int oac, .int ore, .int okn, .int x18_0])), (h1, .inl (cI, orl, .inl ork)), (h2, .inl (cI, owl, .inl oww))] := hD.sub [0, 1, 2] (by decide) rfl
    refine lv_if_eq (tgt := 26) hx hb dX3_goal_21 (by decide) (fun hc => ?_) (fun hc => ?_)
    · have hv := hv.1 hc
      refine lv_aload_n hx hb dX3_goal_26 rfl (lv_at hl 0 rfl) ?_
      refine va_get (D := D) (ci := 5) (v := .int og) (C := RX3) (T := TX3) (N := 11) hx hb hts hi_X3 hown hK hP 0 rfl rfl 2 (by decide) hF23 (fun _ h9 => h9) rfl dX3_goal_27 ?_
      refine lv_istore_n (lv' := [(2, .int og), (0, .ref h0), (1, .int a1)]) hx hb dX3_goal_30 rfl hl (by decide) rfl (fun ls hl => ?_)
      refine lv_aload_n hx hb dX3_goal_31 rfl (lv_at hl 1 rfl) ?_
      refine lv_iload_n hx hb dX3_goal_32 rfl (lv_at hl 2 rfl) ?_
      refine va_put (D := D) (ci := 5) (v := .int a1) (ty := .int) (C := RX3) (T := TX3) (N := 11) hx hb hts hi_X3 tyX3 tyX3_ok nmX3 hown hK hP hD hS 0 rfl rfl 2 (by decide) hF23 (fun _ h9 => h9) rfl (by decide +kernel) rfl rfl (Nat.le_of_ble_eq_true rfl) dX3_goal_33 (fun H locs hP hD hS => ?_)
      have hP : va_P D vwCl [(h0, .inr (5, [.int on, .int oo, .int a1, .ref h1, .ref h2, .int ost, .int ord, .int oac, .int ore, .int okn, .int x18_0])), (h1, .inl (cI, orl, .inl ork)), (h2, .inl (cI, owl, .inl oww))] H := hP
      have hD : va_D A [(h0, .inr (5, [.int on, .int oo, .int a1, .ref h1, .ref h2, .int ost, .int ord, .int oac, .int ore, .int okn, .int x18_0])), (h1, .inl (cI, orl, .inl ork)), (h2, .inl (cI, owl, .inl oww))] := hD
      refine lv_aload_n hx hb dX3_goal_36 rfl (lv_at hl 1 rfl) ?_
      refine lv_iload_n hx hb dX3_goal_37 rfl (lv_at hl 0 rfl) ?_
      refine kw_i (wr := []) (va_runV (As := [.int og]) (rest := []) ⟨hx, hb, hml, hown, hts⟩ (kX3_doneW l D cI cB h0 h1 h2 on oo a1 orl ork owl oww ost ord oac ore okn x18_0 og _ _ hv) (cwV 1 hts gX3_goal_X3_done rfl rfl rfl (by decide +kernel) ⟨Nat.le_of_ble_eq_true rfl, Nat.le_of_ble_eq_true rfl⟩) ⟨(kPreW (As := [.ref h0, .int og]) (hP.sub (ws' := [(h0, .inr (5, [.int on, .int oo, .int a1, .ref h1, .ref h2, .int ost, .int ord, .int oac, .int ore, .int okn, .int x18_0])), (h1, .inl (cI, orl, .inl ork)), (h2, .inl (cI, owl, .inl oww))]) [0, 1, 2] rfl) (hD.sub (ws' := [(h0, .inr (5, [.int on, .int oo, .int a1, .ref h1, .ref h2, .int ost, .int ord, .int oac, .int ore, .int okn, .int x18_0])), (h1, .inl (cI, orl, .inl ork)), (h2, .inl (cI, owl, .inl oww))]) [0, 1, 2] (by decide) rfl) hK hN).1, kRecv (hP.sub (ws' := [(h0, .inr (5, [.int on, .int oo, .int a1, .ref h1, .ref h2, .int ost, .int ord, .int oac, .int ore, .int okn, .int x18_0])), (h1, .inl (cI, orl, .inl ork)), (h2, .inl (cI, owl, .inl oww))]) [0, 1, 2] rfl) hK 5 rfl rfl rfl, (kPreW (As := [.ref h0, .int og]) (hP.sub (ws' := [(h0, .inr (5, [.int on, .int oo, .int a1, .ref h1, .ref h2, .int ost, .int ord, .int oac, .int ore, .int okn, .int x18_0])), (h1, .inl (cI, orl, .inl ork)), (h2, .inl (cI, owl, .inl oww))]) [0, 1, 2] rfl) (hD.sub (ws' := [(h0, .inr (5, [.int on, .int oo, .int a1, .ref h1, .ref h2, .int ost, .int ord, .int oac, .int ore, .int okn, .int x18_0])), (h1, .inl (cI, orl, .inl ork)), (h2, .inl (cI, owl, .inl oww))]) [0, 1, 2] (by decide) rfl) hK hN).2⟩ rfl rfl hl.1 rfl (lv_room (Nat.le_of_ble_eq_true rfl)) dX3_goal_38 ⟨Nat.le_of_ble_eq_true rfl, Nat.le_of_ble_eq_true rfl⟩) hP hD hS hA [0, 1, 2] [] rfl rfl (by decide) (by decide) (fun r38 u H locs hv hP hD hS => ?_)
      obtain ⟨x38_0, rfl⟩ : ∃ z, z = u := ⟨_, rfl⟩
      have hP : va_P D vwCl [(h0, .inr (5, [.int on, .int oo, .int a1, .ref h1, .ref h2, .int ost, .int ord, .int x38_0, .int ore, .int okn, .int x18_0])), (h1, .inl (cI, orl, .inl ork)), (h2, .inl (cI, owl, .inl oww))] H := hP.sub [0, 1, 2] rfl
      have hD : va_D A [(h0, .inr (5, [.int on, .int oo, .int a1, .ref h1, .ref h2, .int ost, .int ord, .int x38_0, .int ore, .int okn, .int x18_0])), (h1, .inl (cI, orl, .inl ork)), (h2, .inl (cI, owl, .inl oww))] := hD.sub [0, 1, 2] (by decide) rfl
      refine W.widen (k := 0) (n := 0) (Nat.le_of_ble_eq_true rfl) (Nat.le_of_ble_eq_true rfl) ?_
      exact W.iret (v := r38) hx hb hr (kWi_ret (u := (a1, x38_0, x18_0)) hv hP hD hS) hS.2.2 dX3_goal_41
    · have hv := hv.2 hc
      refine lv_iconst (v := (0 : Int32)) hx hb dX3_goal_24 (by decide) ?_
      refine W.widen (k := 0) (n := 0) (Nat.le_of_ble_eq_true rfl) (Nat.le_of_ble_eq_true rfl) ?_
      exact W.iret (v := (0 : Int32)) hx hb hr (kWi_ret (u := (og, oac, x18_0)) hv hP hD hS) hS.2.2 dX3_goal_25
  have J13 : ∀  (H : Heap) (locs : List Loc) (ls : Array Slot), va_P D vwCl [(h0, .inr (5, [.int on, .int oo, .int og, .ref h1, .ref h2, .int ost, .int ord, .int oac, .int ore, .int okn, .int oth])), (h1, .inl (cI, orl, .inl ork)), (h2, .inl (cI, owl, .inl oww))] H → va_D A [(h0, .inr (5, [.int on, .int oo, .int og, .ref h1, .ref h2, .int ost, .int ord, .int oac, .int ore, .int okn, .int oth])), (h1, .inl (cI, orl, .inl ork)), (h2, .inl (cI, owl, .inl oww))] → va_S A s.heap H locs → qX3_goalW_j13 og oac a1 post → lv_has ls 3 [(0, .ref h0), (1, .int a1)] → W p l e (headSpec wsX3_goal ({ frames := 2, cells := 0, slots := 0, locals := 43 })).room s m ([.ref h0, .int a1] : List Value).toArray below meth c H locs 0 0 (MQ below (va_Qi (fun (r : Int32) (u : Int32 × Int32 × Int32) => post r u.1 u.2.1 u.2.2) (fun (u : Int32 × Int32 × Int32) (t : State) => kE D A [(h0, .inr (5, [.int on, .int oo, .int (u.1), .ref h1, .ref h2, .int ost, .int ord, .int (u.2.1), .int ore, .int okn, .int (u.2.2)])), (h1, .inl (cI, orl, .inl ork)), (h2, .inl (cI, owl, .inl oww))] t) A) ([.ref h0, .int a1] : List Value).toArray s 0 0 A) (F0 m 13 ls [.ref h0]) := by
    intro  H locs ls hP hD hS hv hl
    refine lv_iconst (v := (1 : Int32)) hx hb dX3_goal_13 (by decide) ?_
    refine lv_goto (tgt := 18) hx hb dX3_goal_14 (by decide) ?_
    refine W.widen (k := 0) (n := 0) (Nat.le_of_ble_eq_true rfl) (Nat.le_of_ble_eq_true rfl) ?_
    exact J18 _ _ _ _ hP hD hS hv (lv_sub hl [0, 1] rfl)
  refine lv_if_lt (tgt := 13) hx hb dX3_goal_2 (by decide) (fun hc => ?_) (fun hc => ?_)
  · have hv := hv.1 hc
    refine W.widen (k := 0) (n := 0) (Nat.le_of_ble_eq_true rfl) (Nat.le_of_ble_eq_true rfl) ?_
    exact J13  _ _ _ hP hD hS hv (lv_sub hl [0, 1] rfl)
  · have hv := hv.2 hc
    refine lv_iload_n hx hb dX3_goal_5 rfl (lv_at hl 1 rfl) ?_
    refine lv_aload_n hx hb dX3_goal_6 rfl (lv_at hl 0 rfl) ?_
    refine kc_V (As := []) (rest := [.int a1, .ref h0]) ⟨hx, hb, hml, hown, hts⟩ (kX3_all l D cI cB h0 h1 h2 on oo og orl ork owl oww ost ord oac ore okn oth _ hv) (cwV 0 hts gX3_goal_X3_all rfl rfl rfl (by decide +kernel) ⟨Nat.le_of_ble_eq_true rfl, Nat.le_of_ble_eq_true rfl⟩) hP hK hN 5 rfl rfl rfl rfl hl.1 rfl (Nat.le_of_ble_eq_true rfl) dX3_goal_7 ⟨Nat.le_of_ble_eq_true rfl, Nat.le_of_ble_eq_true rfl⟩ (fun r7 hv => ?_)
    refine lv_icmp_le (tgt := 17) hx hb dX3_goal_10 (by decide) (fun hc => ?_) (fun hc => ?_)
    · have hv := hv.1 hc
      refine lv_iconst (v := (0 : Int32)) hx hb dX3_goal_17 (by decide) ?_
      refine W.widen (k := 0) (n := 0) (Nat.le_of_ble_eq_true rfl) (Nat.le_of_ble_eq_true rfl) ?_
      exact J18 _ _ _ _ hP hD hS hv (lv_sub hl [0, 1] rfl)
    · have hv := hv.2 hc
      refine W.widen (k := 0) (n := 0) (Nat.le_of_ble_eq_true rfl) (Nat.le_of_ble_eq_true rfl) ?_
      exact J13  _ _ _ hP hD hS hv (lv_sub hl [0, 1] rfl)
set_option maxHeartbeats 4000000 in
set_option maxRecDepth 100000 in
theorem kX3_wayW (l : Launch) (D : va_G) (cI cB : ClassId) (h0 : Nat) (h1 : Nat) (h2 : Nat) (on : Int32) (oo : Int32) (og : Int32) (orl : Nat) (ork : Nat → Int32) (owl : Nat) (oww : Nat → Int32) (ost : Int32) (ord : Int32) (oac : Int32) (ore : Int32) (okn : Int32) (oth : Int32) (a1 : Int32) (a2 : Int32) (sz : Nat) (post : Int32 → Int32 → Int32 → Int32 → (Nat → Int32) → Prop) (hv : qX3_wayW on owl oww oac ore a1 a2 post) : Met l yX3_way wsX3_way ({ frames := 2, cells := 0, slots := 0, locals := 45 }) (va_Pc [.ref h0, .int a1, .int a2] (kBW D cI cB sz [(h0, .inr (5, [.int on, .int oo, .int og, .ref h1, .ref h2, .int ost, .int ord, .int oac, .int ore, .int okn, .int oth])), (h1, .inl (cI, orl, .inl ork)), (h2, .inl (cI, owl, .inl oww))])) (va_Qi (fun (r : Int32) (u : Int32 × Int32 × Int32 × (Nat → Int32)) => post r u.1 u.2.1 u.2.2.1 u.2.2.2) (fun (u : Int32 × Int32 × Int32 × (Nat → Int32)) (t : State) => kE D (va_A [(h0, .inr (5, [.int on, .int oo, .int og, .ref h1, .ref h2, .int ost, .int ord, .int oac, .int ore, .int okn, .int oth])), (h1, .inl (cI, orl, .inl ork)), (h2, .inl (cI, owl, .inl oww))] sz) [(h0, .inr (5, [.int on, .int oo, .int og, .ref h1, .ref h2, .int ost, .int ord, .int (u.1), .int (u.2.1), .int okn, .int (u.2.2.1)])), (h1, .inl (cI, orl, .inl ork)), (h2, .inl (cI, owl, .inl (u.2.2.2)))] t) (va_A [(h0, .inr (5, [.int on, .int oo, .int og, .ref h1, .ref h2, .int ost, .int ord, .int oac, .int ore, .int okn, .int oth])), (h1, .inl (cI, orl, .inl ork)), (h2, .inl (cI, owl, .inl oww))] sz)) 0 0 (va_A [(h0, .inr (5, [.int on, .int oo, .int og, .ref h1, .ref h2, .int ost, .int ord, .int oac, .int ore, .int okn, .int oth])), (h1, .inl (cI, orl, .inl ork)), (h2, .inl (cI, owl, .inl oww))] sz) := by
  refine Met.ofW (cc := cX3_way) (maxL := 3) (ret := (some .int)) (by decide) rfl ?_
  intro p e s m args below meth c s₁ B hml hv0
  obtain ⟨rfl, hsz, ⟨hP, hK, hN⟩, hD0⟩ := hv0
  have hx := B.exec
  have hb := B.bytes
  have hr := B.returns
  have hts := atoms_spec (ws := wsX3_way) B.pre
  have hown : s.vm.findClass RX3 = some m.cls := findClass_of_methodNamed B.named
  have hlocks := B.notSynchronized
  have hi_X3 : ∀ w ∈ wsX30, w ∈ wsX3_way := by decide +kernel
  have hF30 := hts (.fieldLink RX3 30 "RoadgameModel" "ways" "[I") (by decide +kernel)
  subst hsz
  have hD := hD0.self (sz := s.heap.size)
  generalize hAe : va_A [(h0, .inr (5, [.int on, .int oo, .int og, .ref h1, .ref h2, .int ost, .int ord, .int oac, .int ore, .int okn, .int oth])), (h1, .inl (cI, orl, .inl ork)), (h2, .inl (cI, owl, .inl oww))] s.heap.size = A at hD ⊢
  have hA : ∀ q : Nat, s.heap.size ≤ q → A q := fun q h => by rw [← hAe]; exact Or.inr h
  have hS : va_S A s.heap s.heap [] := va_S.rf
  have hl := lv_entry ([.ref h0, .int a1, .int a2]) (n := 3) (Nat.le_of_ble_eq_true rfl)
  rw [lg_entry_eq]
  generalize (lg_sl ([.ref h0, .int a1, .int a2]) ++ List.replicate (3 - (lg_sl ([.ref h0, .int a1, .int a2])).length) Slot.unset).toArray = ls at hl ⊢
  have hl : lv_has ls 3 [(0, .ref h0), (1, .int a1), (2, .int a2)] := hl
  refine lv_aload_n hx hb dX3_way_0 rfl (lv_at hl 0 rfl) ?_
  refine lv_aload_n hx hb dX3_way_1 rfl (lv_at hl 0 rfl) ?_
  refine lv_iload_n hx hb dX3_way_2 rfl (lv_at hl 1 rfl) ?_
  refine kc_V (As := [.int a1]) (rest := [.ref h0]) ⟨hx, hb, hml, hown, hts⟩ (kX3_isPlace l D cI cB h0 h1 h2 on oo og orl ork owl oww ost ord oac ore okn oth a1 _ hv) (cwV 1 hts gX3_way_X3_isPlace rfl rfl rfl (by decide +kernel) ⟨Nat.le_of_ble_eq_true rfl, Nat.le_of_ble_eq_true rfl⟩) hP hK hN 5 rfl rfl rfl rfl hl.1 rfl (Nat.le_of_ble_eq_true rfl) dX3_way_3 ⟨Nat.le_of_ble_eq_true rfl, Nat.le_of_ble_eq_true rfl⟩ (fun r3 hv => ?_)
  have J22 : ∀ (s0_j22 : Int32) (H : Heap) (locs : List Loc) (ls : Array Slot), va_P D vwCl [(h0, .inr (5, [.int on, .int oo, .int og, .ref h1, .ref h2, .int ost, .int ord, .int oac, .int ore, .int okn, .int oth])), (h1, .inl (cI, orl, .inl ork)), (h2, .inl (cI, owl, .inl oww))] H → va_D A [(h0, .inr (5, [.int on, .int oo, .int og, .ref h1, .ref h2, .int ost, .int ord, .int oac, .int ore, .int okn, .int oth])), (h1, .inl (cI, orl, .inl ork)), (h2, .inl (cI, owl, .inl oww))] → va_S A s.heap H locs → qX3_wayW_j22 owl oww oac ore a1 a2 s0_j22 post → lv_has ls 3 [(0, .ref h0), (1, .int a1), (2, .int a2)] → W p l e (headSpec wsX3_way ({ frames := 2, cells := 0, slots := 0, locals := 45 })).room s m ([.ref h0, .int a1, .int a2] : List Value).toArray below meth c H locs 0 0 (MQ below (va_Qi (fun (r : Int32) (u : Int32 × Int32 × Int32 × (Nat → Int32)) => post r u.1 u.2.1 u.2.2.1 u.2.2.2) (fun (u : Int32 × Int32 × Int32 × (Nat → Int32)) (t : State) => kE D A [(h0, .inr (5, [.int on, .int oo, .int og, .ref h1, .ref h2, .int ost, .int ord, .int (u.1), .int (u.2.1), .int okn, .int (u.2.2.1)])), (h1, .inl (cI, orl, .inl ork)), (h2, .inl (cI, owl, .inl (u.2.2.2)))] t) A) ([.ref h0, .int a1, .int a2] : List Value).toArray s 0 0 A) (F0 m 22 ls [.int s0_j22, .ref h0]) := by
    intro s0_j22 H locs ls hP hD hS hv hl
    refine kw_i (wr := []) (va_runV (As := [.int s0_j22]) (rest := []) ⟨hx, hb, hml, hown, hts⟩ (kX3_isThrown_W l D cI cB h0 h1 h2 on oo og orl ork owl oww ost ord oac ore okn oth s0_j22 _ _ hv) (cwV 1 hts gX3_way_X3_isThrown_ rfl rfl rfl (by decide +kernel) ⟨Nat.le_of_ble_eq_true rfl, Nat.le_of_ble_eq_true rfl⟩) ⟨(kPreW (As := [.ref h0, .int s0_j22]) (hP.sub (ws' := [(h0, .inr (5, [.int on, .int oo, .int og, .ref h1, .ref h2, .int ost, .int ord, .int oac, .int ore, .int okn, .int oth])), (h1, .inl (cI, orl, .inl ork)), (h2, .inl (cI, owl, .inl oww))]) [0, 1, 2] rfl) (hD.sub (ws' := [(h0, .inr (5, [.int on, .int oo, .int og, .ref h1, .ref h2, .int ost, .int ord, .int oac, .int ore, .int okn, .int oth])), (h1, .inl (cI, orl, .inl ork)), (h2, .inl (cI, owl, .inl oww))]) [0, 1, 2] (by decide) rfl) hK hN).1, kRecv (hP.sub (ws' := [(h0, .inr (5, [.int on, .int oo, .int og, .ref h1, .ref h2, .int ost, .int ord, .int oac, .int ore, .int okn, .int oth])), (h1, .inl (cI, orl, .inl ork)), (h2, .inl (cI, owl, .inl oww))]) [0, 1, 2] rfl) hK 5 rfl rfl rfl, (kPreW (As := [.ref h0, .int s0_j22]) (hP.sub (ws' := [(h0, .inr (5, [.int on, .int oo, .int og, .ref h1, .ref h2, .int ost, .int ord, .int oac, .int ore, .int okn, .int oth])), (h1, .inl (cI, orl, .inl ork)), (h2, .inl (cI, owl, .inl oww))]) [0, 1, 2] rfl) (hD.sub (ws' := [(h0, .inr (5, [.int on, .int oo, .int og, .ref h1, .ref h2, .int ost, .int ord, .int oac, .int ore, .int okn, .int oth])), (h1, .inl (cI, orl, .inl ork)), (h2, .inl (cI, owl, .inl oww))]) [0, 1, 2] (by decide) rfl) hK hN).2⟩ rfl rfl hl.1 rfl (lv_room (Nat.le_of_ble_eq_true rfl)) dX3_way_22 ⟨Nat.le_of_ble_eq_true rfl, Nat.le_of_ble_eq_true rfl⟩) hP hD hS hA [0, 1, 2] [] rfl rfl (by decide) (by decide) (fun r22 u H locs hv hP hD hS => ?_)
    obtain ⟨x22_0, rfl⟩ : ∃ z, z = u := ⟨_, rfl⟩
    have hP : va_P D vwCl [(h0, .inr (5, [.int on, .int oo, .int og, .ref h1, .ref h2, .int ost, .int ord, .int oac, .int ore, .int okn, .int x22_0])), (h1, .inl (cI, orl, .inl ork)), (h2, .inl (cI, owl, .inl oww))] H := hP.sub [0, 1, 2] rfl
    have hD : va_D A [(h0, .inr (5, [.int on, .int oo, .int og, .ref h1, .ref h2, .int ost, .int ord, .int oac, .int ore, .int okn, .int x22_0])), (h1, .inl (cI, orl, .inl ork)), (h2, .inl (cI, owl, .inl oww))] := hD.sub [0, 1, 2] (by decide) rfl
    refine lv_if_eq (tgt := 30) hx hb dX3_way_25 (by decide) (fun hc => ?_) (fun hc => ?_)
    · have hv := hv.1 hc
      refine lv_aload_n hx hb dX3_way_30 rfl (lv_at hl 0 rfl) ?_
      refine va_get (D := D) (ci := 5) (v := .ref h2) (C := RX3) (T := TX3) (N := 11) hx hb hts hi_X3 hown hK hP 0 rfl rfl 4 (by decide) hF30 (fun _ h9 => h9) rfl dX3_way_31 ?_
      refine lv_iload_n hx hb dX3_way_34 rfl (lv_at hl 1 rfl) ?_
      obtain ⟨hq, hv⟩ := hv
      refine va_iald hx hb hK hP 2 0 rfl rfl hq dX3_way_35 ?_
      refine lv_iload_n hx hb dX3_way_36 rfl (lv_at hl 2 rfl) ?_
      refine kc_S (As := [.int (oww a1.toNatClampNeg), .int a2]) (rest := []) ⟨hx, hb, hml, hown, hts⟩ (kX3_isIn l D cI cB (oww a1.toNatClampNeg) a2 _ hv) (va_cwS 2 hts gX3_way_X3_isIn rfl rfl rfl (by decide +kernel) ⟨Nat.le_of_ble_eq_true rfl, Nat.le_of_ble_eq_true rfl⟩) (hP.sub (ws' := []) [] rfl) hK hN rfl hl.1 rfl (Nat.le_of_ble_eq_true rfl) dX3_way_37 ⟨Nat.le_of_ble_eq_true rfl, Nat.le_of_ble_eq_true rfl⟩ (fun r37 hv => ?_)
      refine lv_if_eq (tgt := 49) hx hb dX3_way_40 (by decide) (fun hc => ?_) (fun hc => ?_)
      · have hv := hv.1 hc
        refine lv_aload_n hx hb dX3_way_49 rfl (lv_at hl 0 rfl) ?_
        refine kc_V (As := []) (rest := []) ⟨hx, hb, hml, hown, hts⟩ (kX3_waysNow l D cI cB h0 h1 h2 on oo og orl ork owl oww ost ord oac ore okn x22_0 _ hv) (cwV 0 hts gX3_way_X3_waysNow rfl rfl rfl (by decide +kernel) ⟨Nat.le_of_ble_eq_true rfl, Nat.le_of_ble_eq_true rfl⟩) hP hK hN 5 rfl rfl rfl rfl hl.1 rfl (Nat.le_of_ble_eq_true rfl) dX3_way_50 ⟨Nat.le_of_ble_eq_true rfl, Nat.le_of_ble_eq_true rfl⟩ (fun r50 hv => ?_)
        refine lv_bipush (v := (30 : Int32)) hx hb dX3_way_53 (by decide) ?_
        refine lv_icmp_ne (tgt := 63) hx hb dX3_way_55 (by decide) (fun hc => ?_) (fun hc => ?_)
        · have hv := hv.1 hc
          refine lv_aload_n hx hb dX3_way_63 rfl (lv_at hl 0 rfl) ?_
          refine va_get (D := D) (ci := 5) (v := .ref h2) (C := RX3) (T := TX3) (N := 11) hx hb hts hi_X3 hown hK hP 0 rfl rfl 4 (by decide) hF30 (fun _ h9 => h9) rfl dX3_way_64 ?_
          refine lv_iload_n hx hb dX3_way_67 rfl (lv_at hl 1 rfl) ?_
          refine lv_dup2_11 hx hb dX3_way_68 rfl rfl ?_
          obtain ⟨hq, hv⟩ := hv
          refine va_iald hx hb hK hP 2 0 rfl rfl hq dX3_way_69 ?_
          refine lv_iconst (v := (1 : Int32)) hx hb dX3_way_70 (by decide) ?_
          refine lv_iload_n hx hb dX3_way_71 rfl (lv_at hl 2 rfl) ?_
          refine lv_ishl hx hb dX3_way_72 ?_
          refine lv_ior hx hb dX3_way_73 ?_
          obtain ⟨hq, hv⟩ := hv
          refine va_iast hx hb hK hP hD hS 2 0 rfl rfl hq dX3_way_74 (fun H locs hP hD hS => ?_)
          have hP : va_P D vwCl [(h0, .inr (5, [.int on, .int oo, .int og, .ref h1, .ref h2, .int ost, .int ord, .int oac, .int ore, .int okn, .int x22_0])), (h1, .inl (cI, orl, .inl ork)), (h2, .inl (cI, owl, .inl (upd oww a1.toNatClampNeg ((oww a1.toNatClampNeg) ||| ((1 : Int32) <<< (a2 &&& (31 : Int32)))))))] H := hP
          have hD : va_D A [(h0, .inr (5, [.int on, .int oo, .int og, .ref h1, .ref h2, .int ost, .int ord, .int oac, .int ore, .int okn, .int x22_0])), (h1, .inl (cI, orl, .inl ork)), (h2, .inl (cI, owl, .inl (upd oww a1.toNatClampNeg ((oww a1.toNatClampNeg) ||| ((1 : Int32) <<< (a2 &&& (31 : Int32)))))))] := hD
          refine lv_aload_n hx hb dX3_way_75 rfl (lv_at hl 0 rfl) ?_
          refine lv_iconst (v := (1 : Int32)) hx hb dX3_way_76 (by decide) ?_
          refine kw_i (wr := []) (va_runV (As := [.int (1 : Int32)]) (rest := []) ⟨hx, hb, hml, hown, hts⟩ (kX3_doneW l D cI cB h0 h1 h2 on oo og orl ork owl (upd oww a1.toNatClampNeg ((oww a1.toNatClampNeg) ||| ((1 : Int32) <<< (a2 &&& (31 : Int32))))) ost ord oac ore okn x22_0 (1 : Int32) _ _ hv) (cwV 1 hts gX3_way_X3_done rfl rfl rfl (by decide +kernel) ⟨Nat.le_of_ble_eq_true rfl, Nat.le_of_ble_eq_true rfl⟩) ⟨(kPreW (As := [.ref h0, .int (1 : Int32)]) (hP.sub (ws' := [(h0, .inr (5, [.int on, .int oo, .int og, .ref h1, .ref h2, .int ost, .int ord, .int oac, .int ore, .int okn, .int x22_0])), (h1, .inl (cI, orl, .inl ork)), (h2, .inl (cI, owl, .inl (upd oww a1.toNatClampNeg ((oww a1.toNatClampNeg) ||| ((1 : Int32) <<< (a2 &&& (31 : Int32)))))))]) [0, 1, 2] rfl) (hD.sub (ws' := [(h0, .inr (5, [.int on, .int oo, .int og, .ref h1, .ref h2, .int ost, .int ord, .int oac, .int ore, .int okn, .int x22_0])), (h1, .inl (cI, orl, .inl ork)), (h2, .inl (cI, owl, .inl (upd oww a1.toNatClampNeg ((oww a1.toNatClampNeg) ||| ((1 : Int32) <<< (a2 &&& (31 : Int32)))))))]) [0, 1, 2] (by decide) rfl) hK hN).1, kRecv (hP.sub (ws' := [(h0, .inr (5, [.int on, .int oo, .int og, .ref h1, .ref h2, .int ost, .int ord, .int oac, .int ore, .int okn, .int x22_0])), (h1, .inl (cI, orl, .inl ork)), (h2, .inl (cI, owl, .inl (upd oww a1.toNatClampNeg ((oww a1.toNatClampNeg) ||| ((1 : Int32) <<< (a2 &&& (31 : Int32)))))))]) [0, 1, 2] rfl) hK 5 rfl rfl rfl, (kPreW (As := [.ref h0, .int (1 : Int32)]) (hP.sub (ws' := [(h0, .inr (5, [.int on, .int oo, .int og, .ref h1, .ref h2, .int ost, .int ord, .int oac, .int ore, .int okn, .int x22_0])), (h1, .inl (cI, orl, .inl ork)), (h2, .inl (cI, owl, .inl (upd oww a1.toNatClampNeg ((oww a1.toNatClampNeg) ||| ((1 : Int32) <<< (a2 &&& (31 : Int32)))))))]) [0, 1, 2] rfl) (hD.sub (ws' := [(h0, .inr (5, [.int on, .int oo, .int og, .ref h1, .ref h2, .int ost, .int ord, .int oac, .int ore, .int okn, .int x22_0])), (h1, .inl (cI, orl, .inl ork)), (h2, .inl (cI, owl, .inl (upd oww a1.toNatClampNeg ((oww a1.toNatClampNeg) ||| ((1 : Int32) <<< (a2 &&& (31 : Int32)))))))]) [0, 1, 2] (by decide) rfl) hK hN).2⟩ rfl rfl hl.1 rfl (lv_room (Nat.le_of_ble_eq_true rfl)) dX3_way_77 ⟨Nat.le_of_ble_eq_true rfl, Nat.le_of_ble_eq_true rfl⟩) hP hD hS hA [0, 1, 2] [] rfl rfl (by decide) (by decide) (fun r77 u H locs hv hP hD hS => ?_)
          obtain ⟨x77_0, rfl⟩ : ∃ z, z = u := ⟨_, rfl⟩
          have hP : va_P D vwCl [(h0, .inr (5, [.int on, .int oo, .int og, .ref h1, .ref h2, .int ost, .int ord, .int x77_0, .int ore, .int okn, .int x22_0])), (h1, .inl (cI, orl, .inl ork)), (h2, .inl (cI, owl, .inl (upd oww a1.toNatClampNeg ((oww a1.toNatClampNeg) ||| ((1 : Int32) <<< (a2 &&& (31 : Int32)))))))] H := hP.sub [0, 1, 2] rfl
          have hD : va_D A [(h0, .inr (5, [.int on, .int oo, .int og, .ref h1, .ref h2, .int ost, .int ord, .int x77_0, .int ore, .int okn, .int x22_0])), (h1, .inl (cI, orl, .inl ork)), (h2, .inl (cI, owl, .inl (upd oww a1.toNatClampNeg ((oww a1.toNatClampNeg) ||| ((1 : Int32) <<< (a2 &&& (31 : Int32)))))))] := hD.sub [0, 1, 2] (by decide) rfl
          refine W.widen (k := 0) (n := 0) (Nat.le_of_ble_eq_true rfl) (Nat.le_of_ble_eq_true rfl) ?_
          exact W.iret (v := r77) hx hb hr (kWi_ret (u := (x77_0, ore, x22_0, (upd oww a1.toNatClampNeg ((oww a1.toNatClampNeg) ||| ((1 : Int32) <<< (a2 &&& (31 : Int32))))))) hv hP hD hS) hS.2.2 dX3_way_80
        · have hv := hv.2 hc
          refine lv_aload_n hx hb dX3_way_58 rfl (lv_at hl 0 rfl) ?_
          refine kw_i (wr := []) (va_runV (As := []) (rest := []) ⟨hx, hb, hml, hown, hts⟩ (kX3_noW l D cI cB h0 h1 h2 on oo og orl ork owl oww ost ord oac ore okn x22_0 _ _ hv) (cwV 0 hts gX3_way_X3_no rfl rfl rfl (by decide +kernel) ⟨Nat.le_of_ble_eq_true rfl, Nat.le_of_ble_eq_true rfl⟩) ⟨(kPreW (As := [.ref h0]) (hP.sub (ws' := [(h0, .inr (5, [.int on, .int oo, .int og, .ref h1, .ref h2, .int ost, .int ord, .int oac, .int ore, .int okn, .int x22_0])), (h1, .inl (cI, orl, .inl ork)), (h2, .inl (cI, owl, .inl oww))]) [0, 1, 2] rfl) (hD.sub (ws' := [(h0, .inr (5, [.int on, .int oo, .int og, .ref h1, .ref h2, .int ost, .int ord, .int oac, .int ore, .int okn, .int x22_0])), (h1, .inl (cI, orl, .inl ork)), (h2, .inl (cI, owl, .inl oww))]) [0, 1, 2] (by decide) rfl) hK hN).1, kRecv (hP.sub (ws' := [(h0, .inr (5, [.int on, .int oo, .int og, .ref h1, .ref h2, .int ost, .int ord, .int oac, .int ore, .int okn, .int x22_0])), (h1, .inl (cI, orl, .inl ork)), (h2, .inl (cI, owl, .inl oww))]) [0, 1, 2] rfl) hK 5 rfl rfl rfl, (kPreW (As := [.ref h0]) (hP.sub (ws' := [(h0, .inr (5, [.int on, .int oo, .int og, .ref h1, .ref h2, .int ost, .int ord, .int oac, .int ore, .int okn, .int x22_0])), (h1, .inl (cI, orl, .inl ork)), (h2, .inl (cI, owl, .inl oww))]) [0, 1, 2] rfl) (hD.sub (ws' := [(h0, .inr (5, [.int on, .int oo, .int og, .ref h1, .ref h2, .int ost, .int ord, .int oac, .int ore, .int okn, .int x22_0])), (h1, .inl (cI, orl, .inl ork)), (h2, .inl (cI, owl, .inl oww))]) [0, 1, 2] (by decide) rfl) hK hN).2⟩ rfl rfl hl.1 rfl (lv_room (Nat.le_of_ble_eq_true rfl)) dX3_way_59 ⟨Nat.le_of_ble_eq_true rfl, Nat.le_of_ble_eq_true rfl⟩) hP hD hS hA [0, 1, 2] [] rfl rfl (by decide) (by decide) (fun r59 u H locs hv hP hD hS => ?_)
          obtain ⟨x59_0, rfl⟩ : ∃ z, z = u := ⟨_, rfl⟩
          have hP : va_P D vwCl [(h0, .inr (5, [.int on, .int oo, .int og, .ref h1, .ref h2, .int ost, .int ord, .int oac, .int x59_0, .int okn, .int x22_0])), (h1, .inl (cI, orl, .inl ork)), (h2, .inl (cI, owl, .inl oww))] H := hP.sub [0, 1, 2] rfl
          have hD : va_D A [(h0, .inr (5, [.int on, .int oo, .int og, .ref h1, .ref h2, .int ost, .int ord, .int oac, .int x59_0, .int okn, .int x22_0])), (h1, .inl (cI, orl, .inl ork)), (h2, .inl (cI, owl, .inl oww))] := hD.sub [0, 1, 2] (by decide) rfl
          refine W.widen (k := 0) (n := 0) (Nat.le_of_ble_eq_true rfl) (Nat.le_of_ble_eq_true rfl) ?_
          exact W.iret (v := r59) hx hb hr (kWi_ret (u := (oac, x59_0, x22_0, oww)) hv hP hD hS) hS.2.2 dX3_way_62
      · have hv := hv.2 hc
        refine lv_aload_n hx hb dX3_way_43 rfl (lv_at hl 0 rfl) ?_
        refine lv_iconst (v := (0 : Int32)) hx hb dX3_way_44 (by decide) ?_
        refine kw_i (wr := []) (va_runV (As := [.int (0 : Int32)]) (rest := []) ⟨hx, hb, hml, hown, hts⟩ (kX3_doneW l D cI cB h0 h1 h2 on oo og orl ork owl oww ost ord oac ore okn x22_0 (0 : Int32) _ _ hv) (cwV 1 hts gX3_way_X3_done rfl rfl rfl (by decide +kernel) ⟨Nat.le_of_ble_eq_true rfl, Nat.le_of_ble_eq_true rfl⟩) ⟨(kPreW (As := [.ref h0, .int (0 : Int32)]) (hP.sub (ws' := [(h0, .inr (5, [.int on, .int oo, .int og, .ref h1, .ref h2, .int ost, .int ord, .int oac, .int ore, .int okn, .int x22_0])), (h1, .inl (cI, orl, .inl ork)), (h2, .inl (cI, owl, .inl oww))]) [0, 1, 2] rfl) (hD.sub (ws' := [(h0, .inr (5, [.int on, .int oo, .int og, .ref h1, .ref h2, .int ost, .int ord, .int oac, .int ore, .int okn, .int x22_0])), (h1, .inl (cI, orl, .inl ork)), (h2, .inl (cI, owl, .inl oww))]) [0, 1, 2] (by decide) rfl) hK hN).1, kRecv (hP.sub (ws' := [(h0, .inr (5, [.int on, .int oo, .int og, .ref h1, .ref h2, .int ost, .int ord, .int oac, .int ore, .int okn, .int x22_0])), (h1, .inl (cI, orl, .inl ork)), (h2, .inl (cI, owl, .inl oww))]) [0, 1, 2] rfl) hK 5 rfl rfl rfl, (kPreW (As := [.ref h0, .int (0 : Int32)]) (hP.sub (ws' := [(h0, .inr (5, [.int on, .int oo, .int og, .ref h1, .ref h2, .int ost, .int ord, .int oac, .int ore, .int okn, .int x22_0])), (h1, .inl (cI, orl, .inl ork)), (h2, .inl (cI, owl, .inl oww))]) [0, 1, 2] rfl) (hD.sub (ws' := [(h0, .inr (5, [.int on, .int oo, .int og, .ref h1, .ref h2, .int ost, .int ord, .int oac, .int ore, .int okn, .int x22_0])), (h1, .inl (cI, orl, .inl ork)), (h2, .inl (cI, owl, .inl oww))]) [0, 1, 2] (by decide) rfl) hK hN).2⟩ rfl rfl hl.1 rfl (lv_room (Nat.le_of_ble_eq_true rfl)) dX3_way_45 ⟨Nat.le_of_ble_eq_true rfl, Nat.le_of_ble_eq_true rfl⟩) hP hD hS hA [0, 1, 2] [] rfl rfl (by decide) (by decide) (fun r45 u H locs hv hP hD hS => ?_)
        obtain ⟨x45_0, rfl⟩ : ∃ z, z = u := ⟨_, rfl⟩
        have hP : va_P D vwCl [(h0, .inr (5, [.int on, .int oo, .int og, .ref h1, .ref h2, .int ost, .int ord, .int x45_0, .int ore, .int okn, .int x22_0])), (h1, .inl (cI, orl, .inl ork)), (h2, .inl (cI, owl, .inl oww))] H := hP.sub [0, 1, 2] rfl
        have hD : va_D A [(h0, .inr (5, [.int on, .int oo, .int og, .ref h1, .ref h2, .int ost, .int ord, .int x45_0, .int ore, .int okn, .int x22_0])), (h1, .inl (cI, orl, .inl ork)), (h2, .inl (cI, owl, .inl oww))] := hD.sub [0, 1, 2] (by decide) rfl
        refine W.widen (k := 0) (n := 0) (Nat.le_of_ble_eq_true rfl) (Nat.le_of_ble_eq_true rfl) ?_
        exact W.iret (v := r45) hx hb hr (kWi_ret (u := (x45_0, ore, x22_0, oww)) hv hP hD hS) hS.2.2 dX3_way_48
    · have hv := hv.2 hc
      refine lv_iconst (v := (0 : Int32)) hx hb dX3_way_28 (by decide) ?_
      refine W.widen (k := 0) (n := 0) (Nat.le_of_ble_eq_true rfl) (Nat.le_of_ble_eq_true rfl) ?_
      exact W.iret (v := (0 : Int32)) hx hb hr (kWi_ret (u := (oac, ore, x22_0, oww)) hv hP hD hS) hS.2.2 dX3_way_29
  have J17 : ∀  (H : Heap) (locs : List Loc) (ls : Array Slot), va_P D vwCl [(h0, .inr (5, [.int on, .int oo, .int og, .ref h1, .ref h2, .int ost, .int ord, .int oac, .int ore, .int okn, .int oth])), (h1, .inl (cI, orl, .inl ork)), (h2, .inl (cI, owl, .inl oww))] H → va_D A [(h0, .inr (5, [.int on, .int oo, .int og, .ref h1, .ref h2, .int ost, .int ord, .int oac, .int ore, .int okn, .int oth])), (h1, .inl (cI, orl, .inl ork)), (h2, .inl (cI, owl, .inl oww))] → va_S A s.heap H locs → qX3_wayW_j17 owl oww oac ore a1 a2 post → lv_has ls 3 [(0, .ref h0), (1, .int a1), (2, .int a2)] → W p l e (headSpec wsX3_way ({ frames := 2, cells := 0, slots := 0, locals := 45 })).room s m ([.ref h0, .int a1, .int a2] : List Value).toArray below meth c H locs 0 0 (MQ below (va_Qi (fun (r : Int32) (u : Int32 × Int32 × Int32 × (Nat → Int32)) => post r u.1 u.2.1 u.2.2.1 u.2.2.2) (fun (u : Int32 × Int32 × Int32 × (Nat → Int32)) (t : State) => kE D A [(h0, .inr (5, [.int on, .int oo, .int og, .ref h1, .ref h2, .int ost, .int ord, .int (u.1), .int (u.2.1), .int okn, .int (u.2.2.1)])), (h1, .inl (cI, orl, .inl ork)), (h2, .inl (cI, owl, .inl (u.2.2.2)))] t) A) ([.ref h0, .int a1, .int a2] : List Value).toArray s 0 0 A) (F0 m 17 ls [.ref h0]) := by
    intro  H locs ls hP hD hS hv hl
    refine lv_iconst (v := (1 : Int32)) hx hb dX3_way_17 (by decide) ?_
    refine lv_goto (tgt := 22) hx hb dX3_way_18 (by decide) ?_
    refine W.widen (k := 0) (n := 0) (Nat.le_of_ble_eq_true rfl) (Nat.le_of_ble_eq_true rfl) ?_
    exact J22 _ _ _ _ hP hD hS hv (lv_sub hl [0, 1, 2] rfl)
  refine lv_if_eq (tgt := 17) hx hb dX3_way_6 (by decide) (fun hc => ?_) (fun hc => ?_)
  · have hv := hv.1 hc
    refine W.widen (k := 0) (n := 0) (Nat.le_of_ble_eq_true rfl) (Nat.le_of_ble_eq_true rfl) ?_
    exact J17  _ _ _ hP hD hS hv (lv_sub hl [0, 1, 2] rfl)
  · have hv := hv.2 hc
    refine lv_aload_n hx hb dX3_way_9 rfl (lv_at hl 0 rfl) ?_
    refine lv_iload_n hx hb dX3_way_10 rfl (lv_at hl 2 rfl) ?_
    refine kc_V (As := [.int a2]) (rest := [.ref h0]) ⟨hx, hb, hml, hown, hts⟩ (kX3_isPlace l D cI cB h0 h1 h2 on oo og orl ork owl oww ost ord oac ore okn oth a2 _ hv) (cwV 1 hts gX3_way_X3_isPlace rfl rfl rfl (by decide +kernel) ⟨Nat.le_of_ble_eq_true rfl, Nat.le_of_ble_eq_true rfl⟩) hP hK hN 5 rfl rfl rfl rfl hl.1 rfl (Nat.le_of_ble_eq_true rfl) dX3_way_11 ⟨Nat.le_of_ble_eq_true rfl, Nat.le_of_ble_eq_true rfl⟩ (fun r11 hv => ?_)
    refine lv_if_ne (tgt := 21) hx hb dX3_way_14 (by decide) (fun hc => ?_) (fun hc => ?_)
    · have hv := hv.1 hc
      refine lv_iconst (v := (0 : Int32)) hx hb dX3_way_21 (by decide) ?_
      refine W.widen (k := 0) (n := 0) (Nat.le_of_ble_eq_true rfl) (Nat.le_of_ble_eq_true rfl) ?_
      exact J22 _ _ _ _ hP hD hS hv (lv_sub hl [0, 1, 2] rfl)
    · have hv := hv.2 hc
      refine W.widen (k := 0) (n := 0) (Nat.le_of_ble_eq_true rfl) (Nat.le_of_ble_eq_true rfl) ?_
      exact J17  _ _ _ hP hD hS hv (lv_sub hl [0, 1, 2] rfl)
set_option maxHeartbeats 4000000 in
set_option maxRecDepth 100000 in
theorem kX3_loseW (l : Launch) (D : va_G) (cI cB : ClassId) (h0 : Nat) (h1 : Nat) (h2 : Nat) (on : Int32) (oo : Int32) (og : Int32) (orl : Nat) (ork : Nat → Int32) (owl : Nat) (oww : Nat → Int32) (ost : Int32) (ord : Int32) (oac : Int32) (ore : Int32) (okn : Int32) (oth : Int32) (a1 : Int32) (a2 : Int32) (sz : Nat) (post : Int32 → Int32 → Int32 → (Nat → Int32) → Prop) (hv : qX3_loseW on owl oww oac a1 a2 post) : Met l yX3_lose wsX3_lose ({ frames := 2, cells := 0, slots := 0, locals := 43 }) (va_Pc [.ref h0, .int a1, .int a2] (kBW D cI cB sz [(h0, .inr (5, [.int on, .int oo, .int og, .ref h1, .ref h2, .int ost, .int ord, .int oac, .int ore, .int okn, .int oth])), (h1, .inl (cI, orl, .inl ork)), (h2, .inl (cI, owl, .inl oww))])) (va_Qi (fun (r : Int32) (u : Int32 × Int32 × (Nat → Int32)) => post r u.1 u.2.1 u.2.2) (fun (u : Int32 × Int32 × (Nat → Int32)) (t : State) => kE D (va_A [(h0, .inr (5, [.int on, .int oo, .int og, .ref h1, .ref h2, .int ost, .int ord, .int oac, .int ore, .int okn, .int oth])), (h1, .inl (cI, orl, .inl ork)), (h2, .inl (cI, owl, .inl oww))] sz) [(h0, .inr (5, [.int on, .int oo, .int og, .ref h1, .ref h2, .int ost, .int ord, .int (u.1), .int ore, .int okn, .int (u.2.1)])), (h1, .inl (cI, orl, .inl ork)), (h2, .inl (cI, owl, .inl (u.2.2)))] t) (va_A [(h0, .inr (5, [.int on, .int oo, .int og, .ref h1, .ref h2, .int ost, .int ord, .int oac, .int ore, .int okn, .int oth])), (h1, .inl (cI, orl, .inl ork)), (h2, .inl (cI, owl, .inl oww))] sz)) 0 0 (va_A [(h0, .inr (5, [.int on, .int oo, .int og, .ref h1, .ref h2, .int ost, .int ord, .int oac, .int ore, .int okn, .int oth])), (h1, .inl (cI, orl, .inl ork)), (h2, .inl (cI, owl, .inl oww))] sz) := by
  refine Met.ofW (cc := cX3_lose) (maxL := 4) (ret := (some .int)) (by decide) rfl ?_
  intro p e s m args below meth c s₁ B hml hv0
  obtain ⟨rfl, hsz, ⟨hP, hK, hN⟩, hD0⟩ := hv0
  have hx := B.exec
  have hb := B.bytes
  have hr := B.returns
  have hts := atoms_spec (ws := wsX3_lose) B.pre
  have hown : s.vm.findClass RX3 = some m.cls := findClass_of_methodNamed B.named
  have hlocks := B.notSynchronized
  have hi_X3 : ∀ w ∈ wsX30, w ∈ wsX3_lose := by decide +kernel
  have hF30 := hts (.fieldLink RX3 30 "RoadgameModel" "ways" "[I") (by decide +kernel)
  subst hsz
  have hD := hD0.self (sz := s.heap.size)
  generalize hAe : va_A [(h0, .inr (5, [.int on, .int oo, .int og, .ref h1, .ref h2, .int ost, .int ord, .int oac, .int ore, .int okn, .int oth])), (h1, .inl (cI, orl, .inl ork)), (h2, .inl (cI, owl, .inl oww))] s.heap.size = A at hD ⊢
  have hA : ∀ q : Nat, s.heap.size ≤ q → A q := fun q h => by rw [← hAe]; exact Or.inr h
  have hS : va_S A s.heap s.heap [] := va_S.rf
  have hl := lv_entry ([.ref h0, .int a1, .int a2]) (n := 4) (Nat.le_of_ble_eq_true rfl)
  rw [lg_entry_eq]
  generalize (lg_sl ([.ref h0, .int a1, .int a2]) ++ List.replicate (4 - (lg_sl ([.ref h0, .int a1, .int a2])).length) Slot.unset).toArray = ls at hl ⊢
  have hl : lv_has ls 4 [(0, .ref h0), (1, .int a1), (2, .int a2)] := hl
  refine lv_aload_n hx hb dX3_lose_0 rfl (lv_at hl 0 rfl) ?_
  refine lv_aload_n hx hb dX3_lose_1 rfl (lv_at hl 0 rfl) ?_
  refine lv_iload_n hx hb dX3_lose_2 rfl (lv_at hl 1 rfl) ?_
  refine kc_V (As := [.int a1]) (rest := [.ref h0]) ⟨hx, hb, hml, hown, hts⟩ (kX3_isPlace l D cI cB h0 h1 h2 on oo og orl ork owl oww ost ord oac ore okn oth a1 _ hv) (cwV 1 hts gX3_lose_X3_isPlace rfl rfl rfl (by decide +kernel) ⟨Nat.le_of_ble_eq_true rfl, Nat.le_of_ble_eq_true rfl⟩) hP hK hN 5 rfl rfl rfl rfl hl.1 rfl (Nat.le_of_ble_eq_true rfl) dX3_lose_3 ⟨Nat.le_of_ble_eq_true rfl, Nat.le_of_ble_eq_true rfl⟩ (fun r3 hv => ?_)
  have J22 : ∀ (s0_j22 : Int32) (H : Heap) (locs : List Loc) (ls : Array Slot), va_P D vwCl [(h0, .inr (5, [.int on, .int oo, .int og, .ref h1, .ref h2, .int ost, .int ord, .int oac, .int ore, .int okn, .int oth])), (h1, .inl (cI, orl, .inl ork)), (h2, .inl (cI, owl, .inl oww))] H → va_D A [(h0, .inr (5, [.int on, .int oo, .int og, .ref h1, .ref h2, .int ost, .int ord, .int oac, .int ore, .int okn, .int oth])), (h1, .inl (cI, orl, .inl ork)), (h2, .inl (cI, owl, .inl oww))] → va_S A s.heap H locs → qX3_loseW_j22 owl oww oac a1 a2 s0_j22 post → lv_has ls 4 [(0, .ref h0), (1, .int a1), (2, .int a2)] → W p l e (headSpec wsX3_lose ({ frames := 2, cells := 0, slots := 0, locals := 43 })).room s m ([.ref h0, .int a1, .int a2] : List Value).toArray below meth c H locs 0 0 (MQ below (va_Qi (fun (r : Int32) (u : Int32 × Int32 × (Nat → Int32)) => post r u.1 u.2.1 u.2.2) (fun (u : Int32 × Int32 × (Nat → Int32)) (t : State) => kE D A [(h0, .inr (5, [.int on, .int oo, .int og, .ref h1, .ref h2, .int ost, .int ord, .int (u.1), .int ore, .int okn, .int (u.2.1)])), (h1, .inl (cI, orl, .inl ork)), (h2, .inl (cI, owl, .inl (u.2.2)))] t) A) ([.ref h0, .int a1, .int a2] : List Value).toArray s 0 0 A) (F0 m 22 ls [.int s0_j22, .ref h0]) := by
    intro s0_j22 H locs ls hP hD hS hv hl
    refine kw_i (wr := []) (va_runV (As := [.int s0_j22]) (rest := []) ⟨hx, hb, hml, hown, hts⟩ (kX3_isThrown_W l D cI cB h0 h1 h2 on oo og orl ork owl oww ost ord oac ore okn oth s0_j22 _ _ hv) (cwV 1 hts gX3_lose_X3_isThrown_ rfl rfl rfl (by decide +kernel) ⟨Nat.le_of_ble_eq_true rfl, Nat.le_of_ble_eq_true rfl⟩) ⟨(kPreW (As := [.ref h0, .int s0_j22]) (hP.sub (ws' := [(h0, .inr (5, [.int on, .int oo, .int og, .ref h1, .ref h2, .int ost, .int ord, .int oac, .int ore, .int okn, .int oth])), (h1, .inl (cI, orl, .inl ork)), (h2, .inl (cI, owl, .inl oww))]) [0, 1, 2] rfl) (hD.sub (ws' := [(h0, .inr (5, [.int on, .int oo, .int og, .ref h1, .ref h2, .int ost, .int ord, .int oac, .int ore, .int okn, .int oth])), (h1, .inl (cI, orl, .inl ork)), (h2, .inl (cI, owl, .inl oww))]) [0, 1, 2] (by decide) rfl) hK hN).1, kRecv (hP.sub (ws' := [(h0, .inr (5, [.int on, .int oo, .int og, .ref h1, .ref h2, .int ost, .int ord, .int oac, .int ore, .int okn, .int oth])), (h1, .inl (cI, orl, .inl ork)), (h2, .inl (cI, owl, .inl oww))]) [0, 1, 2] rfl) hK 5 rfl rfl rfl, (kPreW (As := [.ref h0, .int s0_j22]) (hP.sub (ws' := [(h0, .inr (5, [.int on, .int oo, .int og, .ref h1, .ref h2, .int ost, .int ord, .int oac, .int ore, .int okn, .int oth])), (h1, .inl (cI, orl, .inl ork)), (h2, .inl (cI, owl, .inl oww))]) [0, 1, 2] rfl) (hD.sub (ws' := [(h0, .inr (5, [.int on, .int oo, .int og, .ref h1, .ref h2, .int ost, .int ord, .int oac, .int ore, .int okn, .int oth])), (h1, .inl (cI, orl, .inl ork)), (h2, .inl (cI, owl, .inl oww))]) [0, 1, 2] (by decide) rfl) hK hN).2⟩ rfl rfl hl.1 rfl (lv_room (Nat.le_of_ble_eq_true rfl)) dX3_lose_22 ⟨Nat.le_of_ble_eq_true rfl, Nat.le_of_ble_eq_true rfl⟩) hP hD hS hA [0, 1, 2] [] rfl rfl (by decide) (by decide) (fun r22 u H locs hv hP hD hS => ?_)
    obtain ⟨x22_0, rfl⟩ : ∃ z, z = u := ⟨_, rfl⟩
    have hP : va_P D vwCl [(h0, .inr (5, [.int on, .int oo, .int og, .ref h1, .ref h2, .int ost, .int ord, .int oac, .int ore, .int okn, .int x22_0])), (h1, .inl (cI, orl, .inl ork)), (h2, .inl (cI, owl, .inl oww))] H := hP.sub [0, 1, 2] rfl
    have hD : va_D A [(h0, .inr (5, [.int on, .int oo, .int og, .ref h1, .ref h2, .int ost, .int ord, .int oac, .int ore, .int okn, .int x22_0])), (h1, .inl (cI, orl, .inl ork)), (h2, .inl (cI, owl, .inl oww))] := hD.sub [0, 1, 2] (by decide) rfl
    refine lv_if_eq (tgt := 30) hx hb dX3_lose_25 (by decide) (fun hc => ?_) (fun hc => ?_)
    · have hv := hv.1 hc
      refine lv_aload_n hx hb dX3_lose_30 rfl (lv_at hl 0 rfl) ?_
      refine va_get (D := D) (ci := 5) (v := .ref h2) (C := RX3) (T := TX3) (N := 11) hx hb hts hi_X3 hown hK hP 0 rfl rfl 4 (by decide) hF30 (fun _ h9 => h9) rfl dX3_lose_31 ?_
      refine lv_iload_n hx hb dX3_lose_34 rfl (lv_at hl 1 rfl) ?_
      obtain ⟨hq, hv⟩ := hv
      refine va_iald hx hb hK hP 2 0 rfl rfl hq dX3_lose_35 ?_
      refine lv_iload_n hx hb dX3_lose_36 rfl (lv_at hl 2 rfl) ?_
      refine kc_S (As := [.int (oww a1.toNatClampNeg), .int a2]) (rest := []) ⟨hx, hb, hml, hown, hts⟩ (kX3_isIn l D cI cB (oww a1.toNatClampNeg) a2 _ hv) (va_cwS 2 hts gX3_lose_X3_isIn rfl rfl rfl (by decide +kernel) ⟨Nat.le_of_ble_eq_true rfl, Nat.le_of_ble_eq_true rfl⟩) (hP.sub (ws' := []) [] rfl) hK hN rfl hl.1 rfl (Nat.le_of_ble_eq_true rfl) dX3_lose_37 ⟨Nat.le_of_ble_eq_true rfl, Nat.le_of_ble_eq_true rfl⟩ (fun r37 hv => ?_)
      refine lv_istore_n (lv' := [(3, .int r37), (0, .ref h0), (1, .int a1), (2, .int a2)]) hx hb dX3_lose_40 rfl hl (by decide) rfl (fun ls hl => ?_)
      refine lv_aload_n hx hb dX3_lose_41 rfl (lv_at hl 1 rfl) ?_
      refine va_get (D := D) (ci := 5) (v := .ref h2) (C := RX3) (T := TX3) (N := 11) hx hb hts hi_X3 hown hK hP 0 rfl rfl 4 (by decide) hF30 (fun _ h9 => h9) rfl dX3_lose_42 ?_
      refine lv_iload_n hx hb dX3_lose_45 rfl (lv_at hl 2 rfl) ?_
      refine lv_dup2_11 hx hb dX3_lose_46 rfl rfl ?_
      obtain ⟨hq, hv⟩ := hv
      refine va_iald hx hb hK hP 2 0 rfl rfl hq dX3_lose_47 ?_
      refine lv_iconst (v := (1 : Int32)) hx hb dX3_lose_48 (by decide) ?_
      refine lv_iload_n hx hb dX3_lose_49 rfl (lv_at hl 3 rfl) ?_
      refine lv_ishl hx hb dX3_lose_50 ?_
      refine lv_iconst (v := (-1 : Int32)) hx hb dX3_lose_51 (by decide) ?_
      refine lv_ixor hx hb dX3_lose_52 ?_
      refine lv_iand hx hb dX3_lose_53 ?_
      obtain ⟨hq, hv⟩ := hv
      refine va_iast hx hb hK hP hD hS 2 0 rfl rfl hq dX3_lose_54 (fun H locs hP hD hS => ?_)
      have hP : va_P D vwCl [(h0, .inr (5, [.int on, .int oo, .int og, .ref h1, .ref h2, .int ost, .int ord, .int oac, .int ore, .int okn, .int x22_0])), (h1, .inl (cI, orl, .inl ork)), (h2, .inl (cI, owl, .inl (upd oww a1.toNatClampNeg ((oww a1.toNatClampNeg) &&& (((1 : Int32) <<< (a2 &&& (31 : Int32))) ^^^ (-1 : Int32))))))] H := hP
      have hD : va_D A [(h0, .inr (5, [.int on, .int oo, .int og, .ref h1, .ref h2, .int ost, .int ord, .int oac, .int ore, .int okn, .int x22_0])), (h1, .inl (cI, orl, .inl ork)), (h2, .inl (cI, owl, .inl (upd oww a1.toNatClampNeg ((oww a1.toNatClampNeg) &&& (((1 : Int32) <<< (a2 &&& (31 : Int32))) ^^^ (-1 : Int32))))))] := hD
      refine lv_aload_n hx hb dX3_lose_55 rfl (lv_at hl 1 rfl) ?_
      refine lv_iload_n hx hb dX3_lose_56 rfl (lv_at hl 0 rfl) ?_
      refine lv_if_eq (tgt := 64) hx hb dX3_lose_57 (by decide) (fun hc => ?_) (fun hc => ?_)
      · have hv := hv.1 hc
        refine lv_iconst (v := (0 : Int32)) hx hb dX3_lose_64 (by decide) ?_
        refine kw_i (wr := []) (va_runV (As := [.int (0 : Int32)]) (rest := []) ⟨hx, hb, hml, hown, hts⟩ (kX3_doneW l D cI cB h0 h1 h2 on oo og orl ork owl (upd oww a1.toNatClampNeg ((oww a1.toNatClampNeg) &&& (((1 : Int32) <<< (a2 &&& (31 : Int32))) ^^^ (-1 : Int32)))) ost ord oac ore okn x22_0 (0 : Int32) _ _ hv) (cwV 1 hts gX3_lose_X3_done rfl rfl rfl (by decide +kernel) ⟨Nat.le_of_ble_eq_true rfl, Nat.le_of_ble_eq_true rfl⟩) ⟨(kPreW (As := [.ref h0, .int (0 : Int32)]) (hP.sub (ws' := [(h0, .inr (5, [.int on, .int oo, .int og, .ref h1, .ref h2, .int ost, .int ord, .int oac, .int ore, .int okn, .int x22_0])), (h1, .inl (cI, orl, .inl ork)), (h2, .inl (cI, owl, .inl (upd oww a1.toNatClampNeg ((oww a1.toNatClampNeg) &&& (((1 : Int32) <<< (a2 &&& (31 : Int32))) ^^^ (-1 : Int32))))))]) [0, 1, 2] rfl) (hD.sub (ws' := [(h0, .inr (5, [.int on, .int oo, .int og, .ref h1, .ref h2, .int ost, .int ord, .int oac, .int ore, .int okn, .int x22_0])), (h1, .inl (cI, orl, .inl ork)), (h2, .inl (cI, owl, .inl (upd oww a1.toNatClampNeg ((oww a1.toNatClampNeg) &&& (((1 : Int32) <<< (a2 &&& (31 : Int32))) ^^^ (-1 : Int32))))))]) [0, 1, 2] (by decide) rfl) hK hN).1, kRecv (hP.sub (ws' := [(h0, .inr (5, [.int on, .int oo, .int og, .ref h1, .ref h2, .int ost, .int ord, .int oac, .int ore, .int okn, .int x22_0])), (h1, .inl (cI, orl, .inl ork)), (h2, .inl (cI, owl, .inl (upd oww a1.toNatClampNeg ((oww a1.toNatClampNeg) &&& (((1 : Int32) <<< (a2 &&& (31 : Int32))) ^^^ (-1 : Int32))))))]) [0, 1, 2] rfl) hK 5 rfl rfl rfl, (kPreW (As := [.ref h0, .int (0 : Int32)]) (hP.sub (ws' := [(h0, .inr (5, [.int on, .int oo, .int og, .ref h1, .ref h2, .int ost, .int ord, .int oac, .int ore, .int okn, .int x22_0])), (h1, .inl (cI, orl, .inl ork)), (h2, .inl (cI, owl, .inl (upd oww a1.toNatClampNeg ((oww a1.toNatClampNeg) &&& (((1 : Int32) <<< (a2 &&& (31 : Int32))) ^^^ (-1 : Int32))))))]) [0, 1, 2] rfl) (hD.sub (ws' := [(h0, .inr (5, [.int on, .int oo, .int og, .ref h1, .ref h2, .int ost, .int ord, .int oac, .int ore, .int okn, .int x22_0])), (h1, .inl (cI, orl, .inl ork)), (h2, .inl (cI, owl, .inl (upd oww a1.toNatClampNeg ((oww a1.toNatClampNeg) &&& (((1 : Int32) <<< (a2 &&& (31 : Int32))) ^^^ (-1 : Int32))))))]) [0, 1, 2] (by decide) rfl) hK hN).2⟩ rfl rfl hl.1 rfl (lv_room (Nat.le_of_ble_eq_true rfl)) dX3_lose_65 ⟨Nat.le_of_ble_eq_true rfl, Nat.le_of_ble_eq_true rfl⟩) hP hD hS hA [0, 1, 2] [] rfl rfl (by decide) (by decide) (fun r65 u H locs hv hP hD hS => ?_)
        obtain ⟨x65_0, rfl⟩ : ∃ z, z = u := ⟨_, rfl⟩
        have hP : va_P D vwCl [(h0, .inr (5, [.int on, .int oo, .int og, .ref h1, .ref h2, .int ost, .int ord, .int x65_0, .int ore, .int okn, .int x22_0])), (h1, .inl (cI, orl, .inl ork)), (h2, .inl (cI, owl, .inl (upd oww a1.toNatClampNeg ((oww a1.toNatClampNeg) &&& (((1 : Int32) <<< (a2 &&& (31 : Int32))) ^^^ (-1 : Int32))))))] H := hP.sub [0, 1, 2] rfl
        have hD : va_D A [(h0, .inr (5, [.int on, .int oo, .int og, .ref h1, .ref h2, .int ost, .int ord, .int x65_0, .int ore, .int okn, .int x22_0])), (h1, .inl (cI, orl, .inl ork)), (h2, .inl (cI, owl, .inl (upd oww a1.toNatClampNeg ((oww a1.toNatClampNeg) &&& (((1 : Int32) <<< (a2 &&& (31 : Int32))) ^^^ (-1 : Int32))))))] := hD.sub [0, 1, 2] (by decide) rfl
        refine W.widen (k := 0) (n := 0) (Nat.le_of_ble_eq_true rfl) (Nat.le_of_ble_eq_true rfl) ?_
        exact W.iret (v := r65) hx hb hr (kWi_ret (u := (x65_0, x22_0, (upd oww a1.toNatClampNeg ((oww a1.toNatClampNeg) &&& (((1 : Int32) <<< (a2 &&& (31 : Int32))) ^^^ (-1 : Int32)))))) hv hP hD hS) hS.2.2 dX3_lose_68
      · have hv := hv.2 hc
        refine lv_iconst (v := (1 : Int32)) hx hb dX3_lose_60 (by decide) ?_
        refine lv_goto (tgt := 65) hx hb dX3_lose_61 (by decide) ?_
        refine kw_i (wr := []) (va_runV (As := [.int (1 : Int32)]) (rest := []) ⟨hx, hb, hml, hown, hts⟩ (kX3_doneW l D cI cB h0 h1 h2 on oo og orl ork owl (upd oww a1.toNatClampNeg ((oww a1.toNatClampNeg) &&& (((1 : Int32) <<< (a2 &&& (31 : Int32))) ^^^ (-1 : Int32)))) ost ord oac ore okn x22_0 (1 : Int32) _ _ hv) (cwV 1 hts gX3_lose_X3_done rfl rfl rfl (by decide +kernel) ⟨Nat.le_of_ble_eq_true rfl, Nat.le_of_ble_eq_true rfl⟩) ⟨(kPreW (As := [.ref h0, .int (1 : Int32)]) (hP.sub (ws' := [(h0, .inr (5, [.int on, .int oo, .int og, .ref h1, .ref h2, .int ost, .int ord, .int oac, .int ore, .int okn, .int x22_0])), (h1, .inl (cI, orl, .inl ork)), (h2, .inl (cI, owl, .inl (upd oww a1.toNatClampNeg ((oww a1.toNatClampNeg) &&& (((1 : Int32) <<< (a2 &&& (31 : Int32))) ^^^ (-1 : Int32))))))]) [0, 1, 2] rfl) (hD.sub (ws' := [(h0, .inr (5, [.int on, .int oo, .int og, .ref h1, .ref h2, .int ost, .int ord, .int oac, .int ore, .int okn, .int x22_0])), (h1, .inl (cI, orl, .inl ork)), (h2, .inl (cI, owl, .inl (upd oww a1.toNatClampNeg ((oww a1.toNatClampNeg) &&& (((1 : Int32) <<< (a2 &&& (31 : Int32))) ^^^ (-1 : Int32))))))]) [0, 1, 2] (by decide) rfl) hK hN).1, kRecv (hP.sub (ws' := [(h0, .inr (5, [.int on, .int oo, .int og, .ref h1, .ref h2, .int ost, .int ord, .int oac, .int ore, .int okn, .int x22_0])), (h1, .inl (cI, orl, .inl ork)), (h2, .inl (cI, owl, .inl (upd oww a1.toNatClampNeg ((oww a1.toNatClampNeg) &&& (((1 : Int32) <<< (a2 &&& (31 : Int32))) ^^^ (-1 : Int32))))))]) [0, 1, 2] rfl) hK 5 rfl rfl rfl, (kPreW (As := [.ref h0, .int (1 : Int32)]) (hP.sub (ws' := [(h0, .inr (5, [.int on, .int oo, .int og, .ref h1, .ref h2, .int ost, .int ord, .int oac, .int ore, .int okn, .int x22_0])), (h1, .inl (cI, orl, .inl ork)), (h2, .inl (cI, owl, .inl (upd oww a1.toNatClampNeg ((oww a1.toNatClampNeg) &&& (((1 : Int32) <<< (a2 &&& (31 : Int32))) ^^^ (-1 : Int32))))))]) [0, 1, 2] rfl) (hD.sub (ws' := [(h0, .inr (5, [.int on, .int oo, .int og, .ref h1, .ref h2, .int ost, .int ord, .int oac, .int ore, .int okn, .int x22_0])), (h1, .inl (cI, orl, .inl ork)), (h2, .inl (cI, owl, .inl (upd oww a1.toNatClampNeg ((oww a1.toNatClampNeg) &&& (((1 : Int32) <<< (a2 &&& (31 : Int32))) ^^^ (-1 : Int32))))))]) [0, 1, 2] (by decide) rfl) hK hN).2⟩ rfl rfl hl.1 rfl (lv_room (Nat.le_of_ble_eq_true rfl)) dX3_lose_65 ⟨Nat.le_of_ble_eq_true rfl, Nat.le_of_ble_eq_true rfl⟩) hP hD hS hA [0, 1, 2] [] rfl rfl (by decide) (by decide) (fun r65 u H locs hv hP hD hS => ?_)
        obtain ⟨x65_0, rfl⟩ : ∃ z, z = u := ⟨_, rfl⟩
        have hP : va_P D vwCl [(h0, .inr (5, [.int on, .int oo, .int og, .ref h1, .ref h2, .int ost, .int ord, .int x65_0, .int ore, .int okn, .int x22_0])), (h1, .inl (cI, orl, .inl ork)), (h2, .inl (cI, owl, .inl (upd oww a1.toNatClampNeg ((oww a1.toNatClampNeg) &&& (((1 : Int32) <<< (a2 &&& (31 : Int32))) ^^^ (-1 : Int32))))))] H := hP.sub [0, 1, 2] rfl
        have hD : va_D A [(h0, .inr (5, [.int on, .int oo, .int og, .ref h1, .ref h2, .int ost, .int ord, .int x65_0, .int ore, .int okn, .int x22_0])), (h1, .inl (cI, orl, .inl ork)), (h2, .inl (cI, owl, .inl (upd oww a1.toNatClampNeg ((oww a1.toNatClampNeg) &&& (((1 : Int32) <<< (a2 &&& (31 : Int32))) ^^^ (-1 : Int32))))))] := hD.sub [0, 1, 2] (by decide) rfl
        refine W.widen (k := 0) (n := 0) (Nat.le_of_ble_eq_true rfl) (Nat.le_of_ble_eq_true rfl) ?_
        exact W.iret (v := r65) hx hb hr (kWi_ret (u := (x65_0, x22_0, (upd oww a1.toNatClampNeg ((oww a1.toNatClampNeg) &&& (((1 : Int32) <<< (a2 &&& (31 : Int32))) ^^^ (-1 : Int32)))))) hv hP hD hS) hS.2.2 dX3_lose_68
    · have hv := hv.2 hc
      refine lv_iconst (v := (0 : Int32)) hx hb dX3_lose_28 (by decide) ?_
      refine W.widen (k := 0) (n := 0) (Nat.le_of_ble_eq_true rfl) (Nat.le_of_ble_eq_true rfl) ?_
      exact W.iret (v := (0 : Int32)) hx hb hr (kWi_ret (u := (oac, x22_0, oww)) hv hP hD hS) hS.2.2 dX3_lose_29
  have J17 : ∀  (H : Heap) (locs : List Loc) (ls : Array Slot), va_P D vwCl [(h0, .inr (5, [.int on, .int oo, .int og, .ref h1, .ref h2, .int ost, .int ord, .int oac, .int ore, .int okn, .int oth])), (h1, .inl (cI, orl, .inl ork)), (h2, .inl (cI, owl, .inl oww))] H → va_D A [(h0, .inr (5, [.int on, .int oo, .int og, .ref h1, .ref h2, .int ost, .int ord, .int oac, .int ore, .int okn, .int oth])), (h1, .inl (cI, orl, .inl ork)), (h2, .inl (cI, owl, .inl oww))] → va_S A s.heap H locs → qX3_loseW_j17 owl oww oac a1 a2 post → lv_has ls 4 [(0, .ref h0), (1, .int a1), (2, .int a2)] → W p l e (headSpec wsX3_lose ({ frames := 2, cells := 0, slots := 0, locals := 43 })).room s m ([.ref h0, .int a1, .int a2] : List Value).toArray below meth c H locs 0 0 (MQ below (va_Qi (fun (r : Int32) (u : Int32 × Int32 × (Nat → Int32)) => post r u.1 u.2.1 u.2.2) (fun (u : Int32 × Int32 × (Nat → Int32)) (t : State) => kE D A [(h0, .inr (5, [.int on, .int oo, .int og, .ref h1, .ref h2, .int ost, .int ord, .int (u.1), .int ore, .int okn, .int (u.2.1)])), (h1, .inl (cI, orl, .inl ork)), (h2, .inl (cI, owl, .inl (u.2.2)))] t) A) ([.ref h0, .int a1, .int a2] : List Value).toArray s 0 0 A) (F0 m 17 ls [.ref h0]) := by
    intro  H locs ls hP hD hS hv hl
    refine lv_iconst (v := (1 : Int32)) hx hb dX3_lose_17 (by decide) ?_
    refine lv_goto (tgt := 22) hx hb dX3_lose_18 (by decide) ?_
    refine W.widen (k := 0) (n := 0) (Nat.le_of_ble_eq_true rfl) (Nat.le_of_ble_eq_true rfl) ?_
    exact J22 _ _ _ _ hP hD hS hv (lv_sub hl [0, 1, 2] rfl)
  refine lv_if_eq (tgt := 17) hx hb dX3_lose_6 (by decide) (fun hc => ?_) (fun hc => ?_)
  · have hv := hv.1 hc
    refine W.widen (k := 0) (n := 0) (Nat.le_of_ble_eq_true rfl) (Nat.le_of_ble_eq_true rfl) ?_
    exact J17  _ _ _ hP hD hS hv (lv_sub hl [0, 1, 2] rfl)
  · have hv := hv.2 hc
    refine lv_aload_n hx hb dX3_lose_9 rfl (lv_at hl 0 rfl) ?_
    refine lv_iload_n hx hb dX3_lose_10 rfl (lv_at hl 2 rfl) ?_
    refine kc_V (As := [.int a2]) (rest := [.ref h0]) ⟨hx, hb, hml, hown, hts⟩ (kX3_isPlace l D cI cB h0 h1 h2 on oo og orl ork owl oww ost ord oac ore okn oth a2 _ hv) (cwV 1 hts gX3_lose_X3_isPlace rfl rfl rfl (by decide +kernel) ⟨Nat.le_of_ble_eq_true rfl, Nat.le_of_ble_eq_true rfl⟩) hP hK hN 5 rfl rfl rfl rfl hl.1 rfl (Nat.le_of_ble_eq_true rfl) dX3_lose_11 ⟨Nat.le_of_ble_eq_true rfl, Nat.le_of_ble_eq_true rfl⟩ (fun r11 hv => ?_)
    refine lv_if_ne (tgt := 21) hx hb dX3_lose_14 (by decide) (fun hc => ?_) (fun hc => ?_)
    · have hv := hv.1 hc
      refine lv_iconst (v := (0 : Int32)) hx hb dX3_lose_21 (by decide) ?_
      refine W.widen (k := 0) (n := 0) (Nat.le_of_ble_eq_true rfl) (Nat.le_of_ble_eq_true rfl) ?_
      exact J22 _ _ _ _ hP hD hS hv (lv_sub hl [0, 1, 2] rfl)
    · have hv := hv.2 hc
      refine W.widen (k := 0) (n := 0) (Nat.le_of_ble_eq_true rfl) (Nat.le_of_ble_eq_true rfl) ?_
      exact J17  _ _ _ hP hD hS hv (lv_sub hl [0, 1, 2] rfl)
set_option maxHeartbeats 4000000 in
set_option maxRecDepth 100000 in
theorem kX3_add (l : Launch) (D : va_G) (cI cB : ClassId)   (a0 : Int64) (a2 : Int64) (post : Int64 → Prop) (hv : qX3_add a0 a2 post) : Met l yX3_add wsX3_add ({ frames := 0, cells := 0, slots := 0, locals := 0 }) (va_Pc [.long a0, .long a2] (kB D cI cB [])) (vp_Sl post) 0 0 (fun _ => False) := by
  refine Met.ofW (cc := cX3_add) (maxL := 4) (ret := (some .long)) (by decide) rfl ?_
  intro p e s m args below meth c s₁ B hml hv0
  obtain ⟨rfl, hP, hK, hN⟩ := hv0
  have hx := B.exec
  have hb := B.bytes
  have hr := B.returns
  have hts := atoms_spec (ws := wsX3_add) B.pre
  have hown : s.vm.findClass RX3 = some m.cls := findClass_of_methodNamed B.named
  have hlocks := B.notSynchronized
  have hC164 := hts (.constantLong RX3 164 (31 : Int64)) (by decide +kernel)
  have hl := lv_entry ([.long a0, .long a2]) (n := 4) (Nat.le_of_ble_eq_true rfl)
  rw [lg_entry_eq]
  generalize (lg_sl ([.long a0, .long a2]) ++ List.replicate (4 - (lg_sl ([.long a0, .long a2])).length) Slot.unset).toArray = ls at hl ⊢
  have hl : lv_has ls 4 [(0, .long a0), (2, .long a2)] := hl
  refine lv_lload_n hx hb dX3_add_0 rfl (lv_at hl 0 rfl) ?_
  refine lv_ldc2 (v := (31 : Int64)) hx hb hown hC164 dX3_add_1 ?_
  refine lv_lmul hx hb dX3_add_4 ?_
  refine lv_lload_n hx hb dX3_add_5 rfl (lv_at hl 1 rfl) ?_
  refine lv_ladd hx hb dX3_add_6 ?_
  exact W.lret (v := ((a0 * (31 : Int64)) + a2)) hx hb hr (kSl_ret rfl hv) (fun _ h => by cases h) dX3_add_7
set_option maxHeartbeats 4000000 in
set_option maxRecDepth 100000 in
theorem kX3_clearW (l : Launch) (D : va_G) (cI cB : ClassId) (h0 : Nat) (b3 : Option Nat) (b4 : Option Nat) (on : Int32) (oo : Int32) (og : Int32) (ost : Int32) (ord : Int32) (oac : Int32) (ore : Int32) (okn : Int32) (oth : Int32) (a1 : Int32) (sz : Nat) (post : Int32 → Int32 → Int32 → Int32 → Int32 → Int32 → Int32 → Int32 → Int32 → Nat → (Nat → Int32) → Nat → (Nat → Int32) → Prop) (hv : qX3_clearW oac ore okn oth a1 post) : Met l yX3_clear wsX3_clear ({ frames := 0, cells := 2, slots := 24, locals := 0 }) (va_Pc [.ref h0, .int a1] (kBW D cI cB sz [(h0, .inr (5, [.int on, .int oo, .int og, va_rf b3, va_rf b4, .int ost, .int ord, .int oac, .int ore, .int okn, .int oth]))])) (va_Qv (fun (u : Nat × Nat × Int32 × Int32 × Int32 × Int32 × Int32 × Int32 × Int32 × Int32 × Int32 × Nat × (Nat → Int32) × Nat × (Nat → Int32)) => post u.2.2.1 u.2.2.2.1 u.2.2.2.2.1 u.2.2.2.2.2.1 u.2.2.2.2.2.2.1 u.2.2.2.2.2.2.2.1 u.2.2.2.2.2.2.2.2.1 u.2.2.2.2.2.2.2.2.2.1 u.2.2.2.2.2.2.2.2.2.2.1 u.2.2.2.2.2.2.2.2.2.2.2.1 u.2.2.2.2.2.2.2.2.2.2.2.2.1 u.2.2.2.2.2.2.2.2.2.2.2.2.2.1 u.2.2.2.2.2.2.2.2.2.2.2.2.2.2) (fun (u : Nat × Nat × Int32 × Int32 × Int32 × Int32 × Int32 × Int32 × Int32 × Int32 × Int32 × Nat × (Nat → Int32) × Nat × (Nat → Int32)) (t : State) => kE D (va_A [(h0, .inr (5, [.int on, .int oo, .int og, va_rf b3, va_rf b4, .int ost, .int ord, .int oac, .int ore, .int okn, .int oth]))] sz) [(h0, .inr (5, [.int (u.2.2.1), .int (u.2.2.2.1), .int (u.2.2.2.2.1), .ref (u.1), .ref (u.2.1), .int (u.2.2.2.2.2.1), .int (u.2.2.2.2.2.2.1), .int (u.2.2.2.2.2.2.2.1), .int (u.2.2.2.2.2.2.2.2.1), .int (u.2.2.2.2.2.2.2.2.2.1), .int (u.2.2.2.2.2.2.2.2.2.2.1)])), ((u.1), .inl (cI, (u.2.2.2.2.2.2.2.2.2.2.2.1), .inl (u.2.2.2.2.2.2.2.2.2.2.2.2.1))), ((u.2.1), .inl (cI, (u.2.2.2.2.2.2.2.2.2.2.2.2.2.1), .inl (u.2.2.2.2.2.2.2.2.2.2.2.2.2.2)))] t) (va_A [(h0, .inr (5, [.int on, .int oo, .int og, va_rf b3, va_rf b4, .int ost, .int ord, .int oac, .int ore, .int okn, .int oth]))] sz)) 2 24 (va_A [(h0, .inr (5, [.int on, .int oo, .int og, va_rf b3, va_rf b4, .int ost, .int ord, .int oac, .int ore, .int okn, .int oth]))] sz) := by
  refine Met.ofW (cc := cX3_clear) (maxL := 3) (ret := none) (by decide) rfl ?_
  intro p e s m args below meth c s₁ B hml hv0
  obtain ⟨rfl, hsz, ⟨hP, hK, hN⟩, hD0⟩ := hv0
  have hx := B.exec
  have hb := B.bytes
  have hr := B.returns
  have hts := atoms_spec (ws := wsX3_clear) B.pre
  have hown : s.vm.findClass RX3 = some m.cls := findClass_of_methodNamed B.named
  have hlocks := B.notSynchronized
  have hi_X3 : ∀ w ∈ wsX30, w ∈ wsX3_clear := by decide +kernel
  have hF17 := hts (.fieldLink RX3 17 "RoadgameModel" "n" "I") (by decide +kernel)
  have hF20 := hts (.fieldLink RX3 20 "RoadgameModel" "ofOne" "I") (by decide +kernel)
  have hF23 := hts (.fieldLink RX3 23 "RoadgameModel" "goal" "I") (by decide +kernel)
  have hF26 := hts (.fieldLink RX3 26 "RoadgameModel" "ranks" "[I") (by decide +kernel)
  have hF30 := hts (.fieldLink RX3 30 "RoadgameModel" "ways" "[I") (by decide +kernel)
  have hF33 := hts (.fieldLink RX3 33 "RoadgameModel" "stone" "I") (by decide +kernel)
  have hF36 := hts (.fieldLink RX3 36 "RoadgameModel" "rounds" "I") (by decide +kernel)
  subst hsz
  have hD := hD0.self (sz := s.heap.size)
  generalize hAe : va_A [(h0, .inr (5, [.int on, .int oo, .int og, va_rf b3, va_rf b4, .int ost, .int ord, .int oac, .int ore, .int okn, .int oth]))] s.heap.size = A at hD ⊢
  have hA : ∀ q : Nat, s.heap.size ≤ q → A q := fun q h => by rw [← hAe]; exact Or.inr h
  have hS : va_S A s.heap s.heap [] := va_S.rf
  have hl := lv_entry ([.ref h0, .int a1]) (n := 3) (Nat.le_of_ble_eq_true rfl)
  rw [lg_entry_eq]
  generalize (lg_sl ([.ref h0, .int a1]) ++ List.replicate (3 - (lg_sl ([.ref h0, .int a1])).length) Slot.unset).toArray = ls at hl ⊢
  have hl : lv_has ls 3 [(0, .ref h0), (1, .int a1)] := hl
  refine lv_aload_n hx hb dX3_clear_0 rfl (lv_at hl 0 rfl) ?_
  refine lv_iload_n hx hb dX3_clear_1 rfl (lv_at hl 1 rfl) ?_
  refine va_put (D := D) (ci := 5) (v := .int a1) (ty := .int) (C := RX3) (T := TX3) (N := 11) hx hb hts hi_X3 tyX3 tyX3_ok nmX3 hown hK hP hD hS 0 rfl rfl 0 (by decide) hF17 (fun _ h9 => h9) rfl (by decide +kernel) rfl rfl (Nat.le_of_ble_eq_true rfl) dX3_clear_2 (fun H locs hP hD hS => ?_)
  have hP : va_P D vwCl [(h0, .inr (5, [.int a1, .int oo, .int og, va_rf b3, va_rf b4, .int ost, .int ord, .int oac, .int ore, .int okn, .int oth]))] H := hP
  have hD : va_D A [(h0, .inr (5, [.int a1, .int oo, .int og, va_rf b3, va_rf b4, .int ost, .int ord, .int oac, .int ore, .int okn, .int oth]))] := hD
  refine lv_aload_n hx hb dX3_clear_5 rfl (lv_at hl 0 rfl) ?_
  refine lv_iconst (v := (0 : Int32)) hx hb dX3_clear_6 (by decide) ?_
  refine va_put (D := D) (ci := 5) (v := .int (0 : Int32)) (ty := .int) (C := RX3) (T := TX3) (N := 11) hx hb hts hi_X3 tyX3 tyX3_ok nmX3 hown hK hP hD hS 0 rfl rfl 1 (by decide) hF20 (fun _ h9 => h9) rfl (by decide +kernel) rfl rfl (Nat.le_of_ble_eq_true rfl) dX3_clear_7 (fun H locs hP hD hS => ?_)
  have hP : va_P D vwCl [(h0, .inr (5, [.int a1, .int (0 : Int32), .int og, va_rf b3, va_rf b4, .int ost, .int ord, .int oac, .int ore, .int okn, .int oth]))] H := hP
  have hD : va_D A [(h0, .inr (5, [.int a1, .int (0 : Int32), .int og, va_rf b3, va_rf b4, .int ost, .int ord, .int oac, .int ore, .int okn, .int oth]))] := hD
  refine lv_aload_n hx hb dX3_clear_10 rfl (lv_at hl 0 rfl) ?_
  refine lv_iconst (v := (0 : Int32)) hx hb dX3_clear_11 (by decide) ?_
  refine va_put (D := D) (ci := 5) (v := .int (0 : Int32)) (ty := .int) (C := RX3) (T := TX3) (N := 11) hx hb hts hi_X3 tyX3 tyX3_ok nmX3 hown hK hP hD hS 0 rfl rfl 2 (by decide) hF23 (fun _ h9 => h9) rfl (by decide +kernel) rfl rfl (Nat.le_of_ble_eq_true rfl) dX3_clear_12 (fun H locs hP hD hS => ?_)
  have hP : va_P D vwCl [(h0, .inr (5, [.int a1, .int (0 : Int32), .int (0 : Int32), va_rf b3, va_rf b4, .int ost, .int ord, .int oac, .int ore, .int okn, .int oth]))] H := hP
  have hD : va_D A [(h0, .inr (5, [.int a1, .int (0 : Int32), .int (0 : Int32), va_rf b3, va_rf b4, .int ost, .int ord, .int oac, .int ore, .int okn, .int oth]))] := hD
  refine lv_aload_n hx hb dX3_clear_15 rfl (lv_at hl 0 rfl) ?_
  refine lv_aload_n hx hb dX3_clear_16 rfl (lv_at hl 0 rfl) ?_
  refine va_get (D := D) (ci := 5) (v := .int a1) (C := RX3) (T := TX3) (N := 11) hx hb hts hi_X3 hown hK hP 0 rfl rfl 0 (by decide) hF17 (fun _ h9 => h9) rfl dX3_clear_17 ?_
  obtain ⟨hq0, hq1, hv⟩ := hv
  refine va_newa (atype := .int) (ty := .int) (N' := a1.toNatClampNeg) (a0 := (a1.toNatClampNeg, .inl (fun _ => (0 : Int32)))) hx hb (hts (.arrayClass .int) (by decide +kernel)) rfl hK hP hD hS hA (fun _ => rfl) hq0 rfl (by show _ * 4 ≤ _; omega) (Nat.le_of_ble_eq_true rfl) (by show _ ≤ _; exact Nat.le_trans (Nat.add_le_add_left hq1 _) (Nat.le_of_ble_eq_true rfl)) dX3_clear_20 (fun w20 cA H hK2 hP hD hS => ?_)
  have hcA := kSameI hK hK2
  subst hcA
  have hP : va_P D vwCl [(h0, .inr (5, [.int a1, .int (0 : Int32), .int (0 : Int32), va_rf b3, va_rf b4, .int ost, .int ord, .int oac, .int ore, .int okn, .int oth])), (w20, .inl (cI, (a1.toNatClampNeg), .inl (fun _ => (0 : Int32))))] H := hP
  have hD : va_D A [(h0, .inr (5, [.int a1, .int (0 : Int32), .int (0 : Int32), va_rf b3, va_rf b4, .int ost, .int ord, .int oac, .int ore, .int okn, .int oth])), (w20, .inl (cI, (a1.toNatClampNeg), .inl (fun _ => (0 : Int32))))] := hD
  refine W.widen (k := 1) (n := 12) (Nat.le_of_ble_eq_true rfl) (by omega) ?_
  refine va_put (D := D) (ci := 5) (v := .ref w20) (ty := .array .int) (C := RX3) (T := TX3) (N := 11) hx hb hts hi_X3 tyX3 tyX3_ok nmX3 hown hK hP hD hS 0 rfl rfl 3 (by decide) hF26 (fun _ h9 => h9) rfl (by decide +kernel) rfl rfl (Nat.le_of_ble_eq_true rfl) dX3_clear_22 (fun H locs hP hD hS => ?_)
  have hP : va_P D vwCl [(h0, .inr (5, [.int a1, .int (0 : Int32), .int (0 : Int32), .ref w20, va_rf b4, .int ost, .int ord, .int oac, .int ore, .int okn, .int oth])), (w20, .inl (cI, (a1.toNatClampNeg), .inl (fun _ => (0 : Int32))))] H := hP
  have hD : va_D A [(h0, .inr (5, [.int a1, .int (0 : Int32), .int (0 : Int32), .ref w20, va_rf b4, .int ost, .int ord, .int oac, .int ore, .int okn, .int oth])), (w20, .inl (cI, (a1.toNatClampNeg), .inl (fun _ => (0 : Int32))))] := hD
  refine lv_aload_n hx hb dX3_clear_25 rfl (lv_at hl 0 rfl) ?_
  refine lv_aload_n hx hb dX3_clear_26 rfl (lv_at hl 0 rfl) ?_
  refine va_get (D := D) (ci := 5) (v := .int a1) (C := RX3) (T := TX3) (N := 11) hx hb hts hi_X3 hown hK hP 0 rfl rfl 0 (by decide) hF17 (fun _ h9 => h9) rfl dX3_clear_27 ?_
  obtain ⟨hq0, hq1, hv⟩ := hv
  refine va_newa (atype := .int) (ty := .int) (N' := a1.toNatClampNeg) (a0 := (a1.toNatClampNeg, .inl (fun _ => (0 : Int32)))) hx hb (hts (.arrayClass .int) (by decide +kernel)) rfl hK hP hD hS hA (fun _ => rfl) hq0 rfl (by show _ * 4 ≤ _; omega) (Nat.le_of_ble_eq_true rfl) (by show _ ≤ _; exact Nat.le_trans (Nat.add_le_add_left hq1 _) (Nat.le_of_ble_eq_true rfl)) dX3_clear_30 (fun w30 cA H hK2 hP hD hS => ?_)
  have hcA := kSameI hK hK2
  subst hcA
  have hP : va_P D vwCl [(h0, .inr (5, [.int a1, .int (0 : Int32), .int (0 : Int32), .ref w20, va_rf b4, .int ost, .int ord, .int oac, .int ore, .int okn, .int oth])), (w20, .inl (cI, (a1.toNatClampNeg), .inl (fun _ => (0 : Int32)))), (w30, .inl (cI, (a1.toNatClampNeg), .inl (fun _ => (0 : Int32))))] H := hP
  have hD : va_D A [(h0, .inr (5, [.int a1, .int (0 : Int32), .int (0 : Int32), .ref w20, va_rf b4, .int ost, .int ord, .int oac, .int ore, .int okn, .int oth])), (w20, .inl (cI, (a1.toNatClampNeg), .inl (fun _ => (0 : Int32)))), (w30, .inl (cI, (a1.toNatClampNeg), .inl (fun _ => (0 : Int32))))] := hD
  refine W.widen (k := 2) (n := 24) (Nat.le_of_ble_eq_true rfl) (by omega) ?_
  refine va_put (D := D) (ci := 5) (v := .ref w30) (ty := .array .int) (C := RX3) (T := TX3) (N := 11) hx hb hts hi_X3 tyX3 tyX3_ok nmX3 hown hK hP hD hS 0 rfl rfl 4 (by decide) hF30 (fun _ h9 => h9) rfl (by decide +kernel) rfl rfl (Nat.le_of_ble_eq_true rfl) dX3_clear_32 (fun H locs hP hD hS => ?_)
  have hP : va_P D vwCl [(h0, .inr (5, [.int a1, .int (0 : Int32), .int (0 : Int32), .ref w20, .ref w30, .int ost, .int ord, .int oac, .int ore, .int okn, .int oth])), (w20, .inl (cI, (a1.toNatClampNeg), .inl (fun _ => (0 : Int32)))), (w30, .inl (cI, (a1.toNatClampNeg), .inl (fun _ => (0 : Int32))))] H := hP
  have hD : va_D A [(h0, .inr (5, [.int a1, .int (0 : Int32), .int (0 : Int32), .ref w20, .ref w30, .int ost, .int ord, .int oac, .int ore, .int okn, .int oth])), (w20, .inl (cI, (a1.toNatClampNeg), .inl (fun _ => (0 : Int32)))), (w30, .inl (cI, (a1.toNatClampNeg), .inl (fun _ => (0 : Int32))))] := hD
  refine lv_iconst (v := (0 : Int32)) hx hb dX3_clear_35 (by decide) ?_
  refine lv_istore_n (lv' := [(2, .int (0 : Int32)), (0, .ref h0), (1, .int a1)]) hx hb dX3_clear_36 rfl hl (by decide) rfl (fun ls hl => ?_)
  have L37 : ∀ (K37_58 : Int32 → (Nat → Int32) → Prop), (∀ (v2_37 : Int32) (z1_0_37 : Nat → Int32) (H : Heap) (locs : List Loc) (ls : Array Slot), va_P D vwCl [(h0, .inr (5, [.int a1, .int (0 : Int32), .int (0 : Int32), .ref w20, .ref w30, .int ost, .int ord, .int oac, .int ore, .int okn, .int oth])), (w20, .inl (cI, (a1.toNatClampNeg), .inl z1_0_37)), (w30, .inl (cI, (a1.toNatClampNeg), .inl (fun _ => (0 : Int32))))] H → va_D A [(h0, .inr (5, [.int a1, .int (0 : Int32), .int (0 : Int32), .ref w20, .ref w30, .int ost, .int ord, .int oac, .int ore, .int okn, .int oth])), (w20, .inl (cI, (a1.toNatClampNeg), .inl z1_0_37)), (w30, .inl (cI, (a1.toNatClampNeg), .inl (fun _ => (0 : Int32))))] → va_S A s.heap H locs → K37_58 v2_37 z1_0_37 → lv_has ls 3 [(0, .ref h0), (1, .int a1), (2, .int v2_37)] → W p l e (headSpec wsX3_clear ({ frames := 0, cells := 2, slots := 24, locals := 0 })).room s m ([.ref h0, .int a1] : List Value).toArray below meth c H locs 2 24 (MQ below (va_Qv (fun (u : Nat × Nat × Int32 × Int32 × Int32 × Int32 × Int32 × Int32 × Int32 × Int32 × Int32 × Nat × (Nat → Int32) × Nat × (Nat → Int32)) => post u.2.2.1 u.2.2.2.1 u.2.2.2.2.1 u.2.2.2.2.2.1 u.2.2.2.2.2.2.1 u.2.2.2.2.2.2.2.1 u.2.2.2.2.2.2.2.2.1 u.2.2.2.2.2.2.2.2.2.1 u.2.2.2.2.2.2.2.2.2.2.1 u.2.2.2.2.2.2.2.2.2.2.2.1 u.2.2.2.2.2.2.2.2.2.2.2.2.1 u.2.2.2.2.2.2.2.2.2.2.2.2.2.1 u.2.2.2.2.2.2.2.2.2.2.2.2.2.2) (fun (u : Nat × Nat × Int32 × Int32 × Int32 × Int32 × Int32 × Int32 × Int32 × Int32 × Int32 × Nat × (Nat → Int32) × Nat × (Nat → Int32)) (t : State) => kE D A [(h0, .inr (5, [.int (u.2.2.1), .int (u.2.2.2.1), .int (u.2.2.2.2.1), .ref (u.1), .ref (u.2.1), .int (u.2.2.2.2.2.1), .int (u.2.2.2.2.2.2.1), .int (u.2.2.2.2.2.2.2.1), .int (u.2.2.2.2.2.2.2.2.1), .int (u.2.2.2.2.2.2.2.2.2.1), .int (u.2.2.2.2.2.2.2.2.2.2.1)])), ((u.1), .inl (cI, (u.2.2.2.2.2.2.2.2.2.2.2.1), .inl (u.2.2.2.2.2.2.2.2.2.2.2.2.1))), ((u.2.1), .inl (cI, (u.2.2.2.2.2.2.2.2.2.2.2.2.2.1), .inl (u.2.2.2.2.2.2.2.2.2.2.2.2.2.2)))] t) A) ([.ref h0, .int a1] : List Value).toArray s 2 24 A) (F0 m 58 ls [])) → ∀ (n37 : Nat) (v2_37 : Int32) (z1_0_37 : Nat → Int32) (H : Heap) (locs : List Loc) (ls : Array Slot), va_P D vwCl [(h0, .inr (5, [.int a1, .int (0 : Int32), .int (0 : Int32), .ref w20, .ref w30, .int ost, .int ord, .int oac, .int ore, .int okn, .int oth])), (w20, .inl (cI, (a1.toNatClampNeg), .inl z1_0_37)), (w30, .inl (cI, (a1.toNatClampNeg), .inl (fun _ => (0 : Int32))))] H → va_D A [(h0, .inr (5, [.int a1, .int (0 : Int32), .int (0 : Int32), .ref w20, .ref w30, .int ost, .int ord, .int oac, .int ore, .int okn, .int oth])), (w20, .inl (cI, (a1.toNatClampNeg), .inl z1_0_37)), (w30, .inl (cI, (a1.toNatClampNeg), .inl (fun _ => (0 : Int32))))] → va_S A s.heap H locs → qX3_clear_W37 a1 K37_58 n37 v2_37 z1_0_37 → lv_has ls 3 [(0, .ref h0), (1, .int a1), (2, .int v2_37)] → W p l e (headSpec wsX3_clear ({ frames := 0, cells := 2, slots := 24, locals := 0 })).room s m ([.ref h0, .int a1] : List Value).toArray below meth c H locs 2 24 (MQ below (va_Qv (fun (u : Nat × Nat × Int32 × Int32 × Int32 × Int32 × Int32 × Int32 × Int32 × Int32 × Int32 × Nat × (Nat → Int32) × Nat × (Nat → Int32)) => post u.2.2.1 u.2.2.2.1 u.2.2.2.2.1 u.2.2.2.2.2.1 u.2.2.2.2.2.2.1 u.2.2.2.2.2.2.2.1 u.2.2.2.2.2.2.2.2.1 u.2.2.2.2.2.2.2.2.2.1 u.2.2.2.2.2.2.2.2.2.2.1 u.2.2.2.2.2.2.2.2.2.2.2.1 u.2.2.2.2.2.2.2.2.2.2.2.2.1 u.2.2.2.2.2.2.2.2.2.2.2.2.2.1 u.2.2.2.2.2.2.2.2.2.2.2.2.2.2) (fun (u : Nat × Nat × Int32 × Int32 × Int32 × Int32 × Int32 × Int32 × Int32 × Int32 × Int32 × Nat × (Nat → Int32) × Nat × (Nat → Int32)) (t : State) => kE D A [(h0, .inr (5, [.int (u.2.2.1), .int (u.2.2.2.1), .int (u.2.2.2.2.1), .ref (u.1), .ref (u.2.1), .int (u.2.2.2.2.2.1), .int (u.2.2.2.2.2.2.1), .int (u.2.2.2.2.2.2.2.1), .int (u.2.2.2.2.2.2.2.2.1), .int (u.2.2.2.2.2.2.2.2.2.1), .int (u.2.2.2.2.2.2.2.2.2.2.1)])), ((u.1), .inl (cI, (u.2.2.2.2.2.2.2.2.2.2.2.1), .inl (u.2.2.2.2.2.2.2.2.2.2.2.2.1))), ((u.2.1), .inl (cI, (u.2.2.2.2.2.2.2.2.2.2.2.2.2.1), .inl (u.2.2.2.2.2.2.2.2.2.2.2.2.2.2)))] t) A) ([.ref h0, .int a1] : List Value).toArray s 2 24 A) (F0 m 37 ls []) := by
    intro K37_58 hk37_58
    intro n37
    induction n37 with
    | zero => intro v2_37 z1_0_37 H locs ls hP hD hS hv hl; exact hv.elim
    | succ n37 ih37 =>
      intro v2_37 z1_0_37 H locs ls hP hD hS hv hl
      refine lv_iload_n hx hb dX3_clear_37 rfl (lv_at hl 2 rfl) ?_
      refine lv_aload_n hx hb dX3_clear_38 rfl (lv_at hl 0 rfl) ?_
      refine va_get (D := D) (ci := 5) (v := .int a1) (C := RX3) (T := TX3) (N := 11) hx hb hts hi_X3 hown hK hP 0 rfl rfl 0 (by decide) hF17 (fun _ h9 => h9) rfl dX3_clear_39 ?_
      refine lv_icmp_ge (tgt := 58) hx hb dX3_clear_42 (by decide) (fun hc => ?_) (fun hc => ?_)
      · have hv := hv.1 hc
        exact hk37_58 _ _ _ _ _ hP hD hS hv (lv_sub hl [0, 1, 2] rfl)
      · have hv := hv.2 hc
        refine lv_aload_n hx hb dX3_clear_45 rfl (lv_at hl 0 rfl) ?_
        refine va_get (D := D) (ci := 5) (v := .ref w20) (C := RX3) (T := TX3) (N := 11) hx hb hts hi_X3 hown hK hP 0 rfl rfl 3 (by decide) hF26 (fun _ h9 => h9) rfl dX3_clear_46 ?_
        refine lv_iload_n hx hb dX3_clear_49 rfl (lv_at hl 2 rfl) ?_
        refine lv_iconst (v := (2 : Int32)) hx hb dX3_clear_50 (by decide) ?_
        obtain ⟨hq, hv⟩ := hv
        refine va_iast hx hb hK hP hD hS 1 0 rfl rfl hq dX3_clear_51 (fun H locs hP hD hS => ?_)
        have hP : va_P D vwCl [(h0, .inr (5, [.int a1, .int (0 : Int32), .int (0 : Int32), .ref w20, .ref w30, .int ost, .int ord, .int oac, .int ore, .int okn, .int oth])), (w20, .inl (cI, (a1.toNatClampNeg), .inl (upd z1_0_37 v2_37.toNatClampNeg (2 : Int32)))), (w30, .inl (cI, (a1.toNatClampNeg), .inl (fun _ => (0 : Int32))))] H := hP
        have hD : va_D A [(h0, .inr (5, [.int a1, .int (0 : Int32), .int (0 : Int32), .ref w20, .ref w30, .int ost, .int ord, .int oac, .int ore, .int okn, .int oth])), (w20, .inl (cI, (a1.toNatClampNeg), .inl (upd z1_0_37 v2_37.toNatClampNeg (2 : Int32)))), (w30, .inl (cI, (a1.toNatClampNeg), .inl (fun _ => (0 : Int32))))] := hD
        refine lv_iinc (v := (v2_37 + (1 : Int32))) (lv' := [(2, .int (v2_37 + (1 : Int32))), (0, .ref h0), (1, .int a1)]) hx hb dX3_clear_52 hl (k := 2) rfl rfl (by decide) rfl (fun ls hl => ?_)
        refine lv_goto (tgt := 37) hx hb dX3_clear_55 (by decide) ?_
        exact ih37 _ _ _ _ _ hP hD hS hv (lv_sub hl [1, 2, 0] rfl)
  obtain ⟨n37, hv⟩ := hv
  refine L37 _ (fun v2_37x z1_0_37x H locs ls hP hD hS hv hl => ?_) n37 _ _ _ _ _ hP hD hS hv (lv_sub hl [1, 2, 0] rfl)
  refine lv_aload_n hx hb dX3_clear_58 rfl (lv_at hl 0 rfl) ?_
  refine lv_iconst (v := (0 : Int32)) hx hb dX3_clear_59 (by decide) ?_
  refine va_put (D := D) (ci := 5) (v := .int (0 : Int32)) (ty := .int) (C := RX3) (T := TX3) (N := 11) hx hb hts hi_X3 tyX3 tyX3_ok nmX3 hown hK hP hD hS 0 rfl rfl 5 (by decide) hF33 (fun _ h9 => h9) rfl (by decide +kernel) rfl rfl (Nat.le_of_ble_eq_true rfl) dX3_clear_60 (fun H locs hP hD hS => ?_)
  have hP : va_P D vwCl [(h0, .inr (5, [.int a1, .int (0 : Int32), .int (0 : Int32), .ref w20, .ref w30, .int (0 : Int32), .int ord, .int oac, .int ore, .int okn, .int oth])), (w20, .inl (cI, (a1.toNatClampNeg), .inl z1_0_37x)), (w30, .inl (cI, (a1.toNatClampNeg), .inl (fun _ => (0 : Int32))))] H := hP
  have hD : va_D A [(h0, .inr (5, [.int a1, .int (0 : Int32), .int (0 : Int32), .ref w20, .ref w30, .int (0 : Int32), .int ord, .int oac, .int ore, .int okn, .int oth])), (w20, .inl (cI, (a1.toNatClampNeg), .inl z1_0_37x)), (w30, .inl (cI, (a1.toNatClampNeg), .inl (fun _ => (0 : Int32))))] := hD
  refine lv_aload_n hx hb dX3_clear_63 rfl (lv_at hl 0 rfl) ?_
  refine lv_iconst (v := (0 : Int32)) hx hb dX3_clear_64 (by decide) ?_
  refine va_put (D := D) (ci := 5) (v := .int (0 : Int32)) (ty := .int) (C := RX3) (T := TX3) (N := 11) hx hb hts hi_X3 tyX3 tyX3_ok nmX3 hown hK hP hD hS 0 rfl rfl 6 (by decide) hF36 (fun _ h9 => h9) rfl (by decide +kernel) rfl rfl (Nat.le_of_ble_eq_true rfl) dX3_clear_65 (fun H locs hP hD hS => ?_)
  have hP : va_P D vwCl [(h0, .inr (5, [.int a1, .int (0 : Int32), .int (0 : Int32), .ref w20, .ref w30, .int (0 : Int32), .int (0 : Int32), .int oac, .int ore, .int okn, .int oth])), (w20, .inl (cI, (a1.toNatClampNeg), .inl z1_0_37x)), (w30, .inl (cI, (a1.toNatClampNeg), .inl (fun _ => (0 : Int32))))] H := hP
  have hD : va_D A [(h0, .inr (5, [.int a1, .int (0 : Int32), .int (0 : Int32), .ref w20, .ref w30, .int (0 : Int32), .int (0 : Int32), .int oac, .int ore, .int okn, .int oth])), (w20, .inl (cI, (a1.toNatClampNeg), .inl z1_0_37x)), (w30, .inl (cI, (a1.toNatClampNeg), .inl (fun _ => (0 : Int32))))] := hD
  refine W.widen (k := 2) (n := 24) (Nat.le_of_ble_eq_true rfl) (Nat.le_of_ble_eq_true rfl) ?_
  have hP : va_P D vwCl [(h0, .inr (5, [.int a1, .int (0 : Int32), .int (0 : Int32), .ref w20, .ref w30, .int (0 : Int32), .int (0 : Int32), .int oac, .int ore, .int okn, .int oth])), (w20, .inl (cI, (a1.toNatClampNeg), .inl z1_0_37x)), (w30, .inl (cI, (a1.toNatClampNeg), .inl (fun _ => (0 : Int32))))] _ := hP.sub [0, 1, 2] rfl
  have hD : va_D A [(h0, .inr (5, [.int a1, .int (0 : Int32), .int (0 : Int32), .ref w20, .ref w30, .int (0 : Int32), .int (0 : Int32), .int oac, .int ore, .int okn, .int oth])), (w20, .inl (cI, (a1.toNatClampNeg), .inl z1_0_37x)), (w30, .inl (cI, (a1.toNatClampNeg), .inl (fun _ => (0 : Int32))))] := hD.sub [0, 1, 2] (by decide) rfl
  exact W.vret hx hb hr (kWv_ret (u := (w20, w30, a1, (0 : Int32), (0 : Int32), (0 : Int32), (0 : Int32), oac, ore, okn, oth, (a1.toNatClampNeg), z1_0_37x, (a1.toNatClampNeg), (fun _ => (0 : Int32)))) (w1 := fun (u : Nat × Nat × Int32 × Int32 × Int32 × Int32 × Int32 × Int32 × Int32 × Int32 × Int32 × Nat × (Nat → Int32) × Nat × (Nat → Int32)) => [(h0, .inr (5, [.int (u.2.2.1), .int (u.2.2.2.1), .int (u.2.2.2.2.1), .ref (u.1), .ref (u.2.1), .int (u.2.2.2.2.2.1), .int (u.2.2.2.2.2.2.1), .int (u.2.2.2.2.2.2.2.1), .int (u.2.2.2.2.2.2.2.2.1), .int (u.2.2.2.2.2.2.2.2.2.1), .int (u.2.2.2.2.2.2.2.2.2.2.1)])), ((u.1), .inl (cI, (u.2.2.2.2.2.2.2.2.2.2.2.1), .inl (u.2.2.2.2.2.2.2.2.2.2.2.2.1))), ((u.2.1), .inl (cI, (u.2.2.2.2.2.2.2.2.2.2.2.2.2.1), .inl (u.2.2.2.2.2.2.2.2.2.2.2.2.2.2)))]) (by exact hv) hP hD hS) hS.2.2 dX3_clear_68
set_option maxHeartbeats 4000000 in
set_option maxRecDepth 100000 in
theorem kX3_initW (l : Launch) (D : va_G) (cI cB : ClassId) (h0 : Nat) (on : Int32) (oo : Int32) (og : Int32) (ost : Int32) (ord : Int32) (oac : Int32) (ore : Int32) (okn : Int32) (oth : Int32)  (sz : Nat) (post : Int32 → Int32 → Int32 → Int32 → Int32 → Int32 → Int32 → Int32 → Int32 → Nat → (Nat → Int32) → Nat → (Nat → Int32) → Prop) (hv : qX3_initW oac ore okn oth post) : Met l yX3_init wsX3_init ({ frames := 1, cells := 2, slots := 24, locals := 22 }) (va_Pc [.ref h0] (kBW D cI cB sz [(h0, .inr (5, [.int on, .int oo, .int og, .null, .null, .int ost, .int ord, .int oac, .int ore, .int okn, .int oth]))])) (va_Qv (fun (u : Nat × Nat × Int32 × Int32 × Int32 × Int32 × Int32 × Int32 × Int32 × Int32 × Int32 × Nat × (Nat → Int32) × Nat × (Nat → Int32)) => post u.2.2.1 u.2.2.2.1 u.2.2.2.2.1 u.2.2.2.2.2.1 u.2.2.2.2.2.2.1 u.2.2.2.2.2.2.2.1 u.2.2.2.2.2.2.2.2.1 u.2.2.2.2.2.2.2.2.2.1 u.2.2.2.2.2.2.2.2.2.2.1 u.2.2.2.2.2.2.2.2.2.2.2.1 u.2.2.2.2.2.2.2.2.2.2.2.2.1 u.2.2.2.2.2.2.2.2.2.2.2.2.2.1 u.2.2.2.2.2.2.2.2.2.2.2.2.2.2) (fun (u : Nat × Nat × Int32 × Int32 × Int32 × Int32 × Int32 × Int32 × Int32 × Int32 × Int32 × Nat × (Nat → Int32) × Nat × (Nat → Int32)) (t : State) => kE D (va_A [(h0, .inr (5, [.int on, .int oo, .int og, .null, .null, .int ost, .int ord, .int oac, .int ore, .int okn, .int oth]))] sz) [(h0, .inr (5, [.int (u.2.2.1), .int (u.2.2.2.1), .int (u.2.2.2.2.1), .ref (u.1), .ref (u.2.1), .int (u.2.2.2.2.2.1), .int (u.2.2.2.2.2.2.1), .int (u.2.2.2.2.2.2.2.1), .int (u.2.2.2.2.2.2.2.2.1), .int (u.2.2.2.2.2.2.2.2.2.1), .int (u.2.2.2.2.2.2.2.2.2.2.1)])), ((u.1), .inl (cI, (u.2.2.2.2.2.2.2.2.2.2.2.1), .inl (u.2.2.2.2.2.2.2.2.2.2.2.2.1))), ((u.2.1), .inl (cI, (u.2.2.2.2.2.2.2.2.2.2.2.2.2.1), .inl (u.2.2.2.2.2.2.2.2.2.2.2.2.2.2)))] t) (va_A [(h0, .inr (5, [.int on, .int oo, .int og, .null, .null, .int ost, .int ord, .int oac, .int ore, .int okn, .int oth]))] sz)) 2 24 (va_A [(h0, .inr (5, [.int on, .int oo, .int og, .null, .null, .int ost, .int ord, .int oac, .int ore, .int okn, .int oth]))] sz) := by
  refine Met.ofW (cc := cX3_init) (maxL := 1) (ret := none) (by decide) rfl ?_
  intro p e s m args below meth c s₁ B hml hv0
  obtain ⟨rfl, hsz, ⟨hP, hK, hN⟩, hD0⟩ := hv0
  have hx := B.exec
  have hb := B.bytes
  have hr := B.returns
  have hts := atoms_spec (ws := wsX3_init) B.pre
  have hown : s.vm.findClass RX3 = some m.cls := findClass_of_methodNamed B.named
  have hlocks := B.notSynchronized
  have hin : meth.name = "<init>" := (name_of_methodNamed B.named B.method).1
  subst hsz
  have hD := hD0.self (sz := s.heap.size)
  generalize hAe : va_A [(h0, .inr (5, [.int on, .int oo, .int og, .null, .null, .int ost, .int ord, .int oac, .int ore, .int okn, .int oth]))] s.heap.size = A at hD ⊢
  have hA : ∀ q : Nat, s.heap.size ≤ q → A q := fun q h => by rw [← hAe]; exact Or.inr h
  have hS : va_S A s.heap s.heap [] := va_S.rf
  have hl := lv_entry ([.ref h0]) (n := 1) (Nat.le_of_ble_eq_true rfl)
  rw [lg_entry_eq]
  generalize (lg_sl ([.ref h0]) ++ List.replicate (1 - (lg_sl ([.ref h0])).length) Slot.unset).toArray = ls at hl ⊢
  have hl : lv_has ls 1 [(0, .ref h0)] := hl
  refine lv_aload_n hx hb dX3_init_0 rfl (lv_at hl 0 rfl) ?_
  refine W.objInit hx hb hown (hts (.methodLink RX3 1 objectInit) (by decide +kernel)) (hts (.instanceMethod objectInit) (by decide +kernel)) (hts (.code objectInit ⟨#[0xb1]⟩ 1 none) (by decide +kernel)) rfl (by rw [hml]; exact hl.1) rfl dX3_init_1 (Nat.le_of_ble_eq_true rfl) (Nat.le_of_ble_eq_true rfl) ?_
  refine W.eq (g2 := F0 m 4 ls _) rfl ?_
  refine lv_aload_n hx hb dX3_init_4 rfl (lv_at hl 0 rfl) ?_
  refine lv_bipush (v := (6 : Int32)) hx hb dX3_init_5 (by decide) ?_
  refine kw_v (wr := []) (va_runV (As := [.int (6 : Int32)]) (rest := []) ⟨hx, hb, hml, hown, hts⟩ (kX3_clearW l D cI cB h0 none none on oo og ost ord oac ore okn oth (6 : Int32) _ _ hv) (cwV 1 hts gX3_init_X3_clear rfl rfl rfl (by decide +kernel) ⟨Nat.le_of_ble_eq_true rfl, Nat.le_of_ble_eq_true rfl⟩) ⟨(kPreW (As := [.ref h0, .int (6 : Int32)]) (hP.sub (ws' := [(h0, .inr (5, [.int on, .int oo, .int og, va_rf none, va_rf none, .int ost, .int ord, .int oac, .int ore, .int okn, .int oth]))]) [0] rfl) (hD.sub (ws' := [(h0, .inr (5, [.int on, .int oo, .int og, va_rf none, va_rf none, .int ost, .int ord, .int oac, .int ore, .int okn, .int oth]))]) [0] (by decide) rfl) hK hN).1, kRecv (hP.sub (ws' := [(h0, .inr (5, [.int on, .int oo, .int og, va_rf none, va_rf none, .int ost, .int ord, .int oac, .int ore, .int okn, .int oth]))]) [0] rfl) hK 5 rfl rfl rfl, (kPreW (As := [.ref h0, .int (6 : Int32)]) (hP.sub (ws' := [(h0, .inr (5, [.int on, .int oo, .int og, va_rf none, va_rf none, .int ost, .int ord, .int oac, .int ore, .int okn, .int oth]))]) [0] rfl) (hD.sub (ws' := [(h0, .inr (5, [.int on, .int oo, .int og, va_rf none, va_rf none, .int ost, .int ord, .int oac, .int ore, .int okn, .int oth]))]) [0] (by decide) rfl) hK hN).2⟩ rfl rfl hl.1 rfl (lv_room (Nat.le_of_ble_eq_true rfl)) dX3_init_7 ⟨Nat.le_of_ble_eq_true rfl, Nat.le_of_ble_eq_true rfl⟩) hP hD hS hA [0] [] rfl rfl (by decide) (by decide) (fun u H locs hv hP hD hS => ?_)
  obtain ⟨x7_uq1, x7_uq2, x7_uv00, x7_uv01, x7_uv02, x7_uv05, x7_uv06, x7_uv07, x7_uv08, x7_uv09, x7_uv010, x7_ul1, x7_uf1, x7_ul2, x7_uf2⟩ := u
  have hP : va_P D vwCl [(h0, .inr (5, [.int x7_uv00, .int x7_uv01, .int x7_uv02, .ref x7_uq1, .ref x7_uq2, .int x7_uv05, .int x7_uv06, .int x7_uv07, .int x7_uv08, .int x7_uv09, .int x7_uv010])), (x7_uq1, .inl (cI, x7_ul1, .inl x7_uf1)), (x7_uq2, .inl (cI, x7_ul2, .inl x7_uf2))] H := hP.sub [0, 1, 2] rfl
  have hD : va_D A [(h0, .inr (5, [.int x7_uv00, .int x7_uv01, .int x7_uv02, .ref x7_uq1, .ref x7_uq2, .int x7_uv05, .int x7_uv06, .int x7_uv07, .int x7_uv08, .int x7_uv09, .int x7_uv010])), (x7_uq1, .inl (cI, x7_ul1, .inl x7_uf1)), (x7_uq2, .inl (cI, x7_ul2, .inl x7_uf2))] := hD.sub [0, 1, 2] (by decide) rfl
  refine W.widen (k := 2) (n := 24) (Nat.le_of_ble_eq_true rfl) (Nat.le_of_ble_eq_true rfl) ?_
  refine W.widen (k := 2) (n := 24) (Nat.le_of_ble_eq_true rfl) (Nat.le_of_ble_eq_true rfl) ?_
  have hP : va_P D vwCl [(h0, .inr (5, [.int x7_uv00, .int x7_uv01, .int x7_uv02, .ref x7_uq1, .ref x7_uq2, .int x7_uv05, .int x7_uv06, .int x7_uv07, .int x7_uv08, .int x7_uv09, .int x7_uv010])), (x7_uq1, .inl (cI, x7_ul1, .inl x7_uf1)), (x7_uq2, .inl (cI, x7_ul2, .inl x7_uf2))] _ := hP.sub [0, 1, 2] rfl
  have hD : va_D A [(h0, .inr (5, [.int x7_uv00, .int x7_uv01, .int x7_uv02, .ref x7_uq1, .ref x7_uq2, .int x7_uv05, .int x7_uv06, .int x7_uv07, .int x7_uv08, .int x7_uv09, .int x7_uv010])), (x7_uq1, .inl (cI, x7_ul1, .inl x7_uf1)), (x7_uq2, .inl (cI, x7_ul2, .inl x7_uf2))] := hD.sub [0, 1, 2] (by decide) rfl
  exact W.vret hx hb hr (kWv_ret (u := (x7_uq1, x7_uq2, x7_uv00, x7_uv01, x7_uv02, x7_uv05, x7_uv06, x7_uv07, x7_uv08, x7_uv09, x7_uv010, x7_ul1, x7_uf1, x7_ul2, x7_uf2)) (w1 := fun (u : Nat × Nat × Int32 × Int32 × Int32 × Int32 × Int32 × Int32 × Int32 × Int32 × Int32 × Nat × (Nat → Int32) × Nat × (Nat → Int32)) => [(h0, .inr (5, [.int (u.2.2.1), .int (u.2.2.2.1), .int (u.2.2.2.2.1), .ref (u.1), .ref (u.2.1), .int (u.2.2.2.2.2.1), .int (u.2.2.2.2.2.2.1), .int (u.2.2.2.2.2.2.2.1), .int (u.2.2.2.2.2.2.2.2.1), .int (u.2.2.2.2.2.2.2.2.2.1), .int (u.2.2.2.2.2.2.2.2.2.2.1)])), ((u.1), .inl (cI, (u.2.2.2.2.2.2.2.2.2.2.2.1), .inl (u.2.2.2.2.2.2.2.2.2.2.2.2.1))), ((u.2.1), .inl (cI, (u.2.2.2.2.2.2.2.2.2.2.2.2.2.1), .inl (u.2.2.2.2.2.2.2.2.2.2.2.2.2.2)))]) (by exact hv) hP hD hS) hS.2.2 dX3_init_10
set_option maxHeartbeats 4000000 in
set_option maxRecDepth 100000 in
theorem kX3_placesW (l : Launch) (D : va_G) (cI cB : ClassId) (h0 : Nat) (h1 : Nat) (h2 : Nat) (on : Int32) (oo : Int32) (og : Int32) (orl : Nat) (ork : Nat → Int32) (owl : Nat) (oww : Nat → Int32) (ost : Int32) (ord : Int32) (oac : Int32) (ore : Int32) (okn : Int32) (oth : Int32) (a1 : Int32) (sz : Nat) (post : Int32 → Int32 → Int32 → Int32 → Int32 → Int32 → Int32 → Int32 → Int32 → Int32 → Nat → (Nat → Int32) → Nat → (Nat → Int32) → Prop) (hv : qX3_placesW on oo og orl ork owl oww ost ord oac ore okn a1 post) : Met l yX3_places wsX3_places ({ frames := 2, cells := 2, slots := 24, locals := 43 }) (va_Pc [.ref h0, .int a1] (kBW D cI cB sz [(h0, .inr (5, [.int on, .int oo, .int og, .ref h1, .ref h2, .int ost, .int ord, .int oac, .int ore, .int okn, .int oth])), (h1, .inl (cI, orl, .inl ork)), (h2, .inl (cI, owl, .inl oww))])) (va_Qi (fun (r : Int32) (u : Nat × Nat × Int32 × Int32 × Int32 × Int32 × Int32 × Int32 × Int32 × Int32 × Int32 × Nat × (Nat → Int32) × Nat × (Nat → Int32)) => post r u.2.2.1 u.2.2.2.1 u.2.2.2.2.1 u.2.2.2.2.2.1 u.2.2.2.2.2.2.1 u.2.2.2.2.2.2.2.1 u.2.2.2.2.2.2.2.2.1 u.2.2.2.2.2.2.2.2.2.1 u.2.2.2.2.2.2.2.2.2.2.1 u.2.2.2.2.2.2.2.2.2.2.2.1 u.2.2.2.2.2.2.2.2.2.2.2.2.1 u.2.2.2.2.2.2.2.2.2.2.2.2.2.1 u.2.2.2.2.2.2.2.2.2.2.2.2.2.2) (fun (u : Nat × Nat × Int32 × Int32 × Int32 × Int32 × Int32 × Int32 × Int32 × Int32 × Int32 × Nat × (Nat → Int32) × Nat × (Nat → Int32)) (t : State) => kE D (va_A [(h0, .inr (5, [.int on, .int oo, .int og, .ref h1, .ref h2, .int ost, .int ord, .int oac, .int ore, .int okn, .int oth])), (h1, .inl (cI, orl, .inl ork)), (h2, .inl (cI, owl, .inl oww))] sz) [(h0, .inr (5, [.int (u.2.2.1), .int (u.2.2.2.1), .int (u.2.2.2.2.1), .ref (u.1), .ref (u.2.1), .int (u.2.2.2.2.2.1), .int (u.2.2.2.2.2.2.1), .int (u.2.2.2.2.2.2.2.1), .int (u.2.2.2.2.2.2.2.2.1), .int (u.2.2.2.2.2.2.2.2.2.1), .int (u.2.2.2.2.2.2.2.2.2.2.1)])), ((u.1), .inl (cI, (u.2.2.2.2.2.2.2.2.2.2.2.1), .inl (u.2.2.2.2.2.2.2.2.2.2.2.2.1))), ((u.2.1), .inl (cI, (u.2.2.2.2.2.2.2.2.2.2.2.2.2.1), .inl (u.2.2.2.2.2.2.2.2.2.2.2.2.2.2)))] t) (va_A [(h0, .inr (5, [.int on, .int oo, .int og, .ref h1, .ref h2, .int ost, .int ord, .int oac, .int ore, .int okn, .int oth])), (h1, .inl (cI, orl, .inl ork)), (h2, .inl (cI, owl, .inl oww))] sz)) 2 24 (va_A [(h0, .inr (5, [.int on, .int oo, .int og, .ref h1, .ref h2, .int ost, .int ord, .int oac, .int ore, .int okn, .int oth])), (h1, .inl (cI, orl, .inl ork)), (h2, .inl (cI, owl, .inl oww))] sz) := by
  refine Met.ofW (cc := cX3_places) (maxL := 3) (ret := (some .int)) (by decide) rfl ?_
  intro p e s m args below meth c s₁ B hml hv0
  obtain ⟨rfl, hsz, ⟨hP, hK, hN⟩, hD0⟩ := hv0
  have hx := B.exec
  have hb := B.bytes
  have hr := B.returns
  have hts := atoms_spec (ws := wsX3_places) B.pre
  have hown : s.vm.findClass RX3 = some m.cls := findClass_of_methodNamed B.named
  have hlocks := B.notSynchronized
  have hi_X3 : ∀ w ∈ wsX30, w ∈ wsX3_places := by decide +kernel
  have hF17 := hts (.fieldLink RX3 17 "RoadgameModel" "n" "I") (by decide +kernel)
  subst hsz
  have hD := hD0.self (sz := s.heap.size)
  generalize hAe : va_A [(h0, .inr (5, [.int on, .int oo, .int og, .ref h1, .ref h2, .int ost, .int ord, .int oac, .int ore, .int okn, .int oth])), (h1, .inl (cI, orl, .inl ork)), (h2, .inl (cI, owl, .inl oww))] s.heap.size = A at hD ⊢
  have hA : ∀ q : Nat, s.heap.size ≤ q → A q := fun q h => by rw [← hAe]; exact Or.inr h
  have hS : va_S A s.heap s.heap [] := va_S.rf
  have hl := lv_entry ([.ref h0, .int a1]) (n := 3) (Nat.le_of_ble_eq_true rfl)
  rw [lg_entry_eq]
  generalize (lg_sl ([.ref h0, .int a1]) ++ List.replicate (3 - (lg_sl ([.ref h0, .int a1])).length) Slot.unset).toArray = ls at hl ⊢
  have hl : lv_has ls 3 [(0, .ref h0), (1, .int a1)] := hl
  refine lv_aload_n hx hb dX3_places_0 rfl (lv_at hl 0 rfl) ?_
  refine lv_iload_n hx hb dX3_places_1 rfl (lv_at hl 1 rfl) ?_
  refine lv_iconst (v := (2 : Int32)) hx hb dX3_places_2 (by decide) ?_
  have J17 : ∀ (s0_j17 : Int32) (H : Heap) (locs : List Loc) (ls : Array Slot), va_P D vwCl [(h0, .inr (5, [.int on, .int oo, .int og, .ref h1, .ref h2, .int ost, .int ord, .int oac, .int ore, .int okn, .int oth])), (h1, .inl (cI, orl, .inl ork)), (h2, .inl (cI, owl, .inl oww))] H → va_D A [(h0, .inr (5, [.int on, .int oo, .int og, .ref h1, .ref h2, .int ost, .int ord, .int oac, .int ore, .int okn, .int oth])), (h1, .inl (cI, orl, .inl ork)), (h2, .inl (cI, owl, .inl oww))] → va_S A s.heap H locs → qX3_placesW_j17 on oo og orl ork owl oww ost ord oac ore okn a1 s0_j17 post → lv_has ls 3 [(0, .ref h0), (1, .int a1)] → W p l e (headSpec wsX3_places ({ frames := 2, cells := 2, slots := 24, locals := 43 })).room s m ([.ref h0, .int a1] : List Value).toArray below meth c H locs 0 0 (MQ below (va_Qi (fun (r : Int32) (u : Nat × Nat × Int32 × Int32 × Int32 × Int32 × Int32 × Int32 × Int32 × Int32 × Int32 × Nat × (Nat → Int32) × Nat × (Nat → Int32)) => post r u.2.2.1 u.2.2.2.1 u.2.2.2.2.1 u.2.2.2.2.2.1 u.2.2.2.2.2.2.1 u.2.2.2.2.2.2.2.1 u.2.2.2.2.2.2.2.2.1 u.2.2.2.2.2.2.2.2.2.1 u.2.2.2.2.2.2.2.2.2.2.1 u.2.2.2.2.2.2.2.2.2.2.2.1 u.2.2.2.2.2.2.2.2.2.2.2.2.1 u.2.2.2.2.2.2.2.2.2.2.2.2.2.1 u.2.2.2.2.2.2.2.2.2.2.2.2.2.2) (fun (u : Nat × Nat × Int32 × Int32 × Int32 × Int32 × Int32 × Int32 × Int32 × Int32 × Int32 × Nat × (Nat → Int32) × Nat × (Nat → Int32)) (t : State) => kE D A [(h0, .inr (5, [.int (u.2.2.1), .int (u.2.2.2.1), .int (u.2.2.2.2.1), .ref (u.1), .ref (u.2.1), .int (u.2.2.2.2.2.1), .int (u.2.2.2.2.2.2.1), .int (u.2.2.2.2.2.2.2.1), .int (u.2.2.2.2.2.2.2.2.1), .int (u.2.2.2.2.2.2.2.2.2.1), .int (u.2.2.2.2.2.2.2.2.2.2.1)])), ((u.1), .inl (cI, (u.2.2.2.2.2.2.2.2.2.2.2.1), .inl (u.2.2.2.2.2.2.2.2.2.2.2.2.1))), ((u.2.1), .inl (cI, (u.2.2.2.2.2.2.2.2.2.2.2.2.2.1), .inl (u.2.2.2.2.2.2.2.2.2.2.2.2.2.2)))] t) A) ([.ref h0, .int a1] : List Value).toArray s 2 24 A) (F0 m 17 ls [.int s0_j17, .ref h0]) := by
    intro s0_j17 H locs ls hP hD hS hv hl
    refine kw_i (wr := []) (va_runV (As := [.int s0_j17]) (rest := []) ⟨hx, hb, hml, hown, hts⟩ (kX3_isThrown_W l D cI cB h0 h1 h2 on oo og orl ork owl oww ost ord oac ore okn oth s0_j17 _ _ hv) (cwV 1 hts gX3_places_X3_isThrown_ rfl rfl rfl (by decide +kernel) ⟨Nat.le_of_ble_eq_true rfl, Nat.le_of_ble_eq_true rfl⟩) ⟨(kPreW (As := [.ref h0, .int s0_j17]) (hP.sub (ws' := [(h0, .inr (5, [.int on, .int oo, .int og, .ref h1, .ref h2, .int ost, .int ord, .int oac, .int ore, .int okn, .int oth])), (h1, .inl (cI, orl, .inl ork)), (h2, .inl (cI, owl, .inl oww))]) [0, 1, 2] rfl) (hD.sub (ws' := [(h0, .inr (5, [.int on, .int oo, .int og, .ref h1, .ref h2, .int ost, .int ord, .int oac, .int ore, .int okn, .int oth])), (h1, .inl (cI, orl, .inl ork)), (h2, .inl (cI, owl, .inl oww))]) [0, 1, 2] (by decide) rfl) hK hN).1, kRecv (hP.sub (ws' := [(h0, .inr (5, [.int on, .int oo, .int og, .ref h1, .ref h2, .int ost, .int ord, .int oac, .int ore, .int okn, .int oth])), (h1, .inl (cI, orl, .inl ork)), (h2, .inl (cI, owl, .inl oww))]) [0, 1, 2] rfl) hK 5 rfl rfl rfl, (kPreW (As := [.ref h0, .int s0_j17]) (hP.sub (ws' := [(h0, .inr (5, [.int on, .int oo, .int og, .ref h1, .ref h2, .int ost, .int ord, .int oac, .int ore, .int okn, .int oth])), (h1, .inl (cI, orl, .inl ork)), (h2, .inl (cI, owl, .inl oww))]) [0, 1, 2] rfl) (hD.sub (ws' := [(h0, .inr (5, [.int on, .int oo, .int og, .ref h1, .ref h2, .int ost, .int ord, .int oac, .int ore, .int okn, .int oth])), (h1, .inl (cI, orl, .inl ork)), (h2, .inl (cI, owl, .inl oww))]) [0, 1, 2] (by decide) rfl) hK hN).2⟩ rfl rfl hl.1 rfl (lv_room (Nat.le_of_ble_eq_true rfl)) dX3_places_17 ⟨Nat.le_of_ble_eq_true rfl, Nat.le_of_ble_eq_true rfl⟩) hP hD hS hA [0, 1, 2] [] rfl rfl (by decide) (by decide) (fun r17 u H locs hv hP hD hS => ?_)
    obtain ⟨x17_0, rfl⟩ : ∃ z, z = u := ⟨_, rfl⟩
    have hP : va_P D vwCl [(h0, .inr (5, [.int on, .int oo, .int og, .ref h1, .ref h2, .int ost, .int ord, .int oac, .int ore, .int okn, .int x17_0])), (h1, .inl (cI, orl, .inl ork)), (h2, .inl (cI, owl, .inl oww))] H := hP.sub [0, 1, 2] rfl
    have hD : va_D A [(h0, .inr (5, [.int on, .int oo, .int og, .ref h1, .ref h2, .int ost, .int ord, .int oac, .int ore, .int okn, .int x17_0])), (h1, .inl (cI, orl, .inl ork)), (h2, .inl (cI, owl, .inl oww))] := hD.sub [0, 1, 2] (by decide) rfl
    refine lv_if_eq (tgt := 25) hx hb dX3_places_20 (by decide) (fun hc => ?_) (fun hc => ?_)
    · have hv := hv.1 hc
      refine lv_aload_n hx hb dX3_places_25 rfl (lv_at hl 0 rfl) ?_
      refine va_get (D := D) (ci := 5) (v := .int on) (C := RX3) (T := TX3) (N := 11) hx hb hts hi_X3 hown hK hP 0 rfl rfl 0 (by decide) hF17 (fun _ h9 => h9) rfl dX3_places_26 ?_
      refine lv_istore_n (lv' := [(2, .int on), (0, .ref h0), (1, .int a1)]) hx hb dX3_places_29 rfl hl (by decide) rfl (fun ls hl => ?_)
      refine lv_aload_n hx hb dX3_places_30 rfl (lv_at hl 1 rfl) ?_
      refine lv_iload_n hx hb dX3_places_31 rfl (lv_at hl 2 rfl) ?_
      refine kw_v (wr := [(h1, .inl (cI, orl, .inl ork)), (h2, .inl (cI, owl, .inl oww))]) (va_runV (As := [.int a1]) (rest := []) ⟨hx, hb, hml, hown, hts⟩ (kX3_clearW l D cI cB h0 (some h1) (some h2) on oo og ost ord oac ore okn x17_0 a1 _ _ hv) (cwV 1 hts gX3_places_X3_clear rfl rfl rfl (by decide +kernel) ⟨Nat.le_of_ble_eq_true rfl, Nat.le_of_ble_eq_true rfl⟩) ⟨(kPreW (As := [.ref h0, .int a1]) (hP.sub (ws' := [(h0, .inr (5, [.int on, .int oo, .int og, va_rf (some h1), va_rf (some h2), .int ost, .int ord, .int oac, .int ore, .int okn, .int x17_0]))]) [0] rfl) (hD.sub (ws' := [(h0, .inr (5, [.int on, .int oo, .int og, va_rf (some h1), va_rf (some h2), .int ost, .int ord, .int oac, .int ore, .int okn, .int x17_0]))]) [0] (by decide) rfl) hK hN).1, kRecv (hP.sub (ws' := [(h0, .inr (5, [.int on, .int oo, .int og, va_rf (some h1), va_rf (some h2), .int ost, .int ord, .int oac, .int ore, .int okn, .int x17_0]))]) [0] rfl) hK 5 rfl rfl rfl, (kPreW (As := [.ref h0, .int a1]) (hP.sub (ws' := [(h0, .inr (5, [.int on, .int oo, .int og, va_rf (some h1), va_rf (some h2), .int ost, .int ord, .int oac, .int ore, .int okn, .int x17_0]))]) [0] rfl) (hD.sub (ws' := [(h0, .inr (5, [.int on, .int oo, .int og, va_rf (some h1), va_rf (some h2), .int ost, .int ord, .int oac, .int ore, .int okn, .int x17_0]))]) [0] (by decide) rfl) hK hN).2⟩ rfl rfl hl.1 rfl (lv_room (Nat.le_of_ble_eq_true rfl)) dX3_places_32 ⟨Nat.le_of_ble_eq_true rfl, Nat.le_of_ble_eq_true rfl⟩) hP hD hS hA [0] [1, 2] rfl rfl (by decide) (by decide) (fun u H locs hv hP hD hS => ?_)
      obtain ⟨x32_uq1, x32_uq2, x32_uv00, x32_uv01, x32_uv02, x32_uv05, x32_uv06, x32_uv07, x32_uv08, x32_uv09, x32_uv010, x32_ul1, x32_uf1, x32_ul2, x32_uf2⟩ := u
      have hP : va_P D vwCl [(h0, .inr (5, [.int x32_uv00, .int x32_uv01, .int x32_uv02, .ref x32_uq1, .ref x32_uq2, .int x32_uv05, .int x32_uv06, .int x32_uv07, .int x32_uv08, .int x32_uv09, .int x32_uv010])), (h1, .inl (cI, orl, .inl ork)), (h2, .inl (cI, owl, .inl oww)), (x32_uq1, .inl (cI, x32_ul1, .inl x32_uf1)), (x32_uq2, .inl (cI, x32_ul2, .inl x32_uf2))] H := hP.sub [2, 0, 1, 3, 4] rfl
      have hD : va_D A [(h0, .inr (5, [.int x32_uv00, .int x32_uv01, .int x32_uv02, .ref x32_uq1, .ref x32_uq2, .int x32_uv05, .int x32_uv06, .int x32_uv07, .int x32_uv08, .int x32_uv09, .int x32_uv010])), (h1, .inl (cI, orl, .inl ork)), (h2, .inl (cI, owl, .inl oww)), (x32_uq1, .inl (cI, x32_ul1, .inl x32_uf1)), (x32_uq2, .inl (cI, x32_ul2, .inl x32_uf2))] := hD.sub [2, 0, 1, 3, 4] (by decide) rfl
      refine W.widen (k := 2) (n := 24) (Nat.le_of_ble_eq_true rfl) (Nat.le_of_ble_eq_true rfl) ?_
      refine lv_aload_n hx hb dX3_places_35 rfl (lv_at hl 1 rfl) ?_
      refine lv_iload_n hx hb dX3_places_36 rfl (lv_at hl 0 rfl) ?_
      refine kw_i (wr := [(h1, .inl (cI, orl, .inl ork)), (h2, .inl (cI, owl, .inl oww))]) (va_runV (As := [.int on]) (rest := []) ⟨hx, hb, hml, hown, hts⟩ (kX3_doneW l D cI cB h0 x32_uq1 x32_uq2 x32_uv00 x32_uv01 x32_uv02 x32_ul1 x32_uf1 x32_ul2 x32_uf2 x32_uv05 x32_uv06 x32_uv07 x32_uv08 x32_uv09 x32_uv010 on _ _ hv) (cwV 1 hts gX3_places_X3_done rfl rfl rfl (by decide +kernel) ⟨Nat.le_of_ble_eq_true rfl, Nat.le_of_ble_eq_true rfl⟩) ⟨(kPreW (As := [.ref h0, .int on]) (hP.sub (ws' := [(h0, .inr (5, [.int x32_uv00, .int x32_uv01, .int x32_uv02, .ref x32_uq1, .ref x32_uq2, .int x32_uv05, .int x32_uv06, .int x32_uv07, .int x32_uv08, .int x32_uv09, .int x32_uv010])), (x32_uq1, .inl (cI, x32_ul1, .inl x32_uf1)), (x32_uq2, .inl (cI, x32_ul2, .inl x32_uf2))]) [0, 3, 4] rfl) (hD.sub (ws' := [(h0, .inr (5, [.int x32_uv00, .int x32_uv01, .int x32_uv02, .ref x32_uq1, .ref x32_uq2, .int x32_uv05, .int x32_uv06, .int x32_uv07, .int x32_uv08, .int x32_uv09, .int x32_uv010])), (x32_uq1, .inl (cI, x32_ul1, .inl x32_uf1)), (x32_uq2, .inl (cI, x32_ul2, .inl x32_uf2))]) [0, 3, 4] (by decide) rfl) hK hN).1, kRecv (hP.sub (ws' := [(h0, .inr (5, [.int x32_uv00, .int x32_uv01, .int x32_uv02, .ref x32_uq1, .ref x32_uq2, .int x32_uv05, .int x32_uv06, .int x32_uv07, .int x32_uv08, .int x32_uv09, .int x32_uv010])), (x32_uq1, .inl (cI, x32_ul1, .inl x32_uf1)), (x32_uq2, .inl (cI, x32_ul2, .inl x32_uf2))]) [0, 3, 4] rfl) hK 5 rfl rfl rfl, (kPreW (As := [.ref h0, .int on]) (hP.sub (ws' := [(h0, .inr (5, [.int x32_uv00, .int x32_uv01, .int x32_uv02, .ref x32_uq1, .ref x32_uq2, .int x32_uv05, .int x32_uv06, .int x32_uv07, .int x32_uv08, .int x32_uv09, .int x32_uv010])), (x32_uq1, .inl (cI, x32_ul1, .inl x32_uf1)), (x32_uq2, .inl (cI, x32_ul2, .inl x32_uf2))]) [0, 3, 4] rfl) (hD.sub (ws' := [(h0, .inr (5, [.int x32_uv00, .int x32_uv01, .int x32_uv02, .ref x32_uq1, .ref x32_uq2, .int x32_uv05, .int x32_uv06, .int x32_uv07, .int x32_uv08, .int x32_uv09, .int x32_uv010])), (x32_uq1, .inl (cI, x32_ul1, .inl x32_uf1)), (x32_uq2, .inl (cI, x32_ul2, .inl x32_uf2))]) [0, 3, 4] (by decide) rfl) hK hN).2⟩ rfl rfl hl.1 rfl (lv_room (Nat.le_of_ble_eq_true rfl)) dX3_places_37 ⟨Nat.le_of_ble_eq_true rfl, Nat.le_of_ble_eq_true rfl⟩) hP hD hS hA [0, 3, 4] [1, 2] rfl rfl (by decide) (by decide) (fun r37 u H locs hv hP hD hS => ?_)
      obtain ⟨x37_0, rfl⟩ : ∃ z, z = u := ⟨_, rfl⟩
      have hP : va_P D vwCl [(h0, .inr (5, [.int x32_uv00, .int x32_uv01, .int x32_uv02, .ref x32_uq1, .ref x32_uq2, .int x32_uv05, .int x32_uv06, .int x37_0, .int x32_uv08, .int x32_uv09, .int x32_uv010])), (h1, .inl (cI, orl, .inl ork)), (h2, .inl (cI, owl, .inl oww)), (x32_uq1, .inl (cI, x32_ul1, .inl x32_uf1)), (x32_uq2, .inl (cI, x32_ul2, .inl x32_uf2))] H := hP.sub [2, 0, 1, 3, 4] rfl
      have hD : va_D A [(h0, .inr (5, [.int x32_uv00, .int x32_uv01, .int x32_uv02, .ref x32_uq1, .ref x32_uq2, .int x32_uv05, .int x32_uv06, .int x37_0, .int x32_uv08, .int x32_uv09, .int x32_uv010])), (h1, .inl (cI, orl, .inl ork)), (h2, .inl (cI, owl, .inl oww)), (x32_uq1, .inl (cI, x32_ul1, .inl x32_uf1)), (x32_uq2, .inl (cI, x32_ul2, .inl x32_uf2))] := hD.sub [2, 0, 1, 3, 4] (by decide) rfl
      refine W.widen (k := 2) (n := 24) (Nat.le_of_ble_eq_true rfl) (Nat.le_of_ble_eq_true rfl) ?_
      have hP : va_P D vwCl [(h0, .inr (5, [.int x32_uv00, .int x32_uv01, .int x32_uv02, .ref x32_uq1, .ref x32_uq2, .int x32_uv05, .int x32_uv06, .int x37_0, .int x32_uv08, .int x32_uv09, .int x32_uv010])), (x32_uq1, .inl (cI, x32_ul1, .inl x32_uf1)), (x32_uq2, .inl (cI, x32_ul2, .inl x32_uf2))] _ := hP.sub [0, 3, 4] rfl
      have hD : va_D A [(h0, .inr (5, [.int x32_uv00, .int x32_uv01, .int x32_uv02, .ref x32_uq1, .ref x32_uq2, .int x32_uv05, .int x32_uv06, .int x37_0, .int x32_uv08, .int x32_uv09, .int x32_uv010])), (x32_uq1, .inl (cI, x32_ul1, .inl x32_uf1)), (x32_uq2, .inl (cI, x32_ul2, .inl x32_uf2))] := hD.sub [0, 3, 4] (by decide) rfl
      exact W.iret (v := r37) hx hb hr (kWi_ret (u := (x32_uq1, x32_uq2, x32_uv00, x32_uv01, x32_uv02, x32_uv05, x32_uv06, x37_0, x32_uv08, x32_uv09, x32_uv010, x32_ul1, x32_uf1, x32_ul2, x32_uf2)) (w1 := fun (u : Nat × Nat × Int32 × Int32 × Int32 × Int32 × Int32 × Int32 × Int32 × Int32 × Int32 × Nat × (Nat → Int32) × Nat × (Nat → Int32)) => [(h0, .inr (5, [.int (u.2.2.1), .int (u.2.2.2.1), .int (u.2.2.2.2.1), .ref (u.1), .ref (u.2.1), .int (u.2.2.2.2.2.1), .int (u.2.2.2.2.2.2.1), .int (u.2.2.2.2.2.2.2.1), .int (u.2.2.2.2.2.2.2.2.1), .int (u.2.2.2.2.2.2.2.2.2.1), .int (u.2.2.2.2.2.2.2.2.2.2.1)])), ((u.1), .inl (cI, (u.2.2.2.2.2.2.2.2.2.2.2.1), .inl (u.2.2.2.2.2.2.2.2.2.2.2.2.1))), ((u.2.1), .inl (cI, (u.2.2.2.2.2.2.2.2.2.2.2.2.2.1), .inl (u.2.2.2.2.2.2.2.2.2.2.2.2.2.2)))]) (by exact hv) hP hD hS) hS.2.2 dX3_places_40
    · have hv := hv.2 hc
      refine lv_iconst (v := (0 : Int32)) hx hb dX3_places_23 (by decide) ?_
      refine W.widen (k := 2) (n := 24) (Nat.le_of_ble_eq_true rfl) (Nat.le_of_ble_eq_true rfl) ?_
      have hP : va_P D vwCl [(h0, .inr (5, [.int on, .int oo, .int og, .ref h1, .ref h2, .int ost, .int ord, .int oac, .int ore, .int okn, .int x17_0])), (h1, .inl (cI, orl, .inl ork)), (h2, .inl (cI, owl, .inl oww))] _ := hP.sub [0, 1, 2] rfl
      have hD : va_D A [(h0, .inr (5, [.int on, .int oo, .int og, .ref h1, .ref h2, .int ost, .int ord, .int oac, .int ore, .int okn, .int x17_0])), (h1, .inl (cI, orl, .inl ork)), (h2, .inl (cI, owl, .inl oww))] := hD.sub [0, 1, 2] (by decide) rfl
      exact W.iret (v := (0 : Int32)) hx hb hr (kWi_ret (u := (h1, h2, on, oo, og, ost, ord, oac, ore, okn, x17_0, orl, ork, owl, oww)) (w1 := fun (u : Nat × Nat × Int32 × Int32 × Int32 × Int32 × Int32 × Int32 × Int32 × Int32 × Int32 × Nat × (Nat → Int32) × Nat × (Nat → Int32)) => [(h0, .inr (5, [.int (u.2.2.1), .int (u.2.2.2.1), .int (u.2.2.2.2.1), .ref (u.1), .ref (u.2.1), .int (u.2.2.2.2.2.1), .int (u.2.2.2.2.2.2.1), .int (u.2.2.2.2.2.2.2.1), .int (u.2.2.2.2.2.2.2.2.1), .int (u.2.2.2.2.2.2.2.2.2.1), .int (u.2.2.2.2.2.2.2.2.2.2.1)])), ((u.1), .inl (cI, (u.2.2.2.2.2.2.2.2.2.2.2.1), .inl (u.2.2.2.2.2.2.2.2.2.2.2.2.1))), ((u.2.1), .inl (cI, (u.2.2.2.2.2.2.2.2.2.2.2.2.2.1), .inl (u.2.2.2.2.2.2.2.2.2.2.2.2.2.2)))]) (by exact hv) hP hD hS) hS.2.2 dX3_places_24
  have J12 : ∀  (H : Heap) (locs : List Loc) (ls : Array Slot), va_P D vwCl [(h0, .inr (5, [.int on, .int oo, .int og, .ref h1, .ref h2, .int ost, .int ord, .int oac, .int ore, .int okn, .int oth])), (h1, .inl (cI, orl, .inl ork)), (h2, .inl (cI, owl, .inl oww))] H → va_D A [(h0, .inr (5, [.int on, .int oo, .int og, .ref h1, .ref h2, .int ost, .int ord, .int oac, .int ore, .int okn, .int oth])), (h1, .inl (cI, orl, .inl ork)), (h2, .inl (cI, owl, .inl oww))] → va_S A s.heap H locs → qX3_placesW_j12 on oo og orl ork owl oww ost ord oac ore okn a1 post → lv_has ls 3 [(0, .ref h0), (1, .int a1)] → W p l e (headSpec wsX3_places ({ frames := 2, cells := 2, slots := 24, locals := 43 })).room s m ([.ref h0, .int a1] : List Value).toArray below meth c H locs 0 0 (MQ below (va_Qi (fun (r : Int32) (u : Nat × Nat × Int32 × Int32 × Int32 × Int32 × Int32 × Int32 × Int32 × Int32 × Int32 × Nat × (Nat → Int32) × Nat × (Nat → Int32)) => post r u.2.2.1 u.2.2.2.1 u.2.2.2.2.1 u.2.2.2.2.2.1 u.2.2.2.2.2.2.1 u.2.2.2.2.2.2.2.1 u.2.2.2.2.2.2.2.2.1 u.2.2.2.2.2.2.2.2.2.1 u.2.2.2.2.2.2.2.2.2.2.1 u.2.2.2.2.2.2.2.2.2.2.2.1 u.2.2.2.2.2.2.2.2.2.2.2.2.1 u.2.2.2.2.2.2.2.2.2.2.2.2.2.1 u.2.2.2.2.2.2.2.2.2.2.2.2.2.2) (fun (u : Nat × Nat × Int32 × Int32 × Int32 × Int32 × Int32 × Int32 × Int32 × Int32 × Int32 × Nat × (Nat → Int32) × Nat × (Nat → Int32)) (t : State) => kE D A [(h0, .inr (5, [.int (u.2.2.1), .int (u.2.2.2.1), .int (u.2.2.2.2.1), .ref (u.1), .ref (u.2.1), .int (u.2.2.2.2.2.1), .int (u.2.2.2.2.2.2.1), .int (u.2.2.2.2.2.2.2.1), .int (u.2.2.2.2.2.2.2.2.1), .int (u.2.2.2.2.2.2.2.2.2.1), .int (u.2.2.2.2.2.2.2.2.2.2.1)])), ((u.1), .inl (cI, (u.2.2.2.2.2.2.2.2.2.2.2.1), .inl (u.2.2.2.2.2.2.2.2.2.2.2.2.1))), ((u.2.1), .inl (cI, (u.2.2.2.2.2.2.2.2.2.2.2.2.2.1), .inl (u.2.2.2.2.2.2.2.2.2.2.2.2.2.2)))] t) A) ([.ref h0, .int a1] : List Value).toArray s 2 24 A) (F0 m 12 ls [.ref h0]) := by
    intro  H locs ls hP hD hS hv hl
    refine lv_iconst (v := (1 : Int32)) hx hb dX3_places_12 (by decide) ?_
    refine lv_goto (tgt := 17) hx hb dX3_places_13 (by decide) ?_
    refine W.widen (k := 0) (n := 0) (Nat.le_of_ble_eq_true rfl) (Nat.le_of_ble_eq_true rfl) ?_
    exact J17 _ _ _ _ hP hD hS hv (lv_sub hl [0, 1] rfl)
  refine lv_icmp_lt (tgt := 12) hx hb dX3_places_3 (by decide) (fun hc => ?_) (fun hc => ?_)
  · have hv := hv.1 hc
    refine W.widen (k := 0) (n := 0) (Nat.le_of_ble_eq_true rfl) (Nat.le_of_ble_eq_true rfl) ?_
    exact J12  _ _ _ hP hD hS hv (lv_sub hl [0, 1] rfl)
  · have hv := hv.2 hc
    refine lv_iload_n hx hb dX3_places_6 rfl (lv_at hl 1 rfl) ?_
    refine lv_bipush (v := (12 : Int32)) hx hb dX3_places_7 (by decide) ?_
    refine lv_icmp_le (tgt := 16) hx hb dX3_places_9 (by decide) (fun hc => ?_) (fun hc => ?_)
    · have hv := hv.1 hc
      refine lv_iconst (v := (0 : Int32)) hx hb dX3_places_16 (by decide) ?_
      refine W.widen (k := 0) (n := 0) (Nat.le_of_ble_eq_true rfl) (Nat.le_of_ble_eq_true rfl) ?_
      exact J17 _ _ _ _ hP hD hS hv (lv_sub hl [0, 1] rfl)
    · have hv := hv.2 hc
      refine W.widen (k := 0) (n := 0) (Nat.le_of_ble_eq_true rfl) (Nat.le_of_ble_eq_true rfl) ?_
      exact J12  _ _ _ hP hD hS hv (lv_sub hl [0, 1] rfl)
