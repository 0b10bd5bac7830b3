/-! walks by program (wip/gen) -/
set_option maxHeartbeats 4000000 in
set_option maxRecDepth 100000 in
theorem kX0_setSideW (l : Launch) (D : va_G) (cI cB : ClassId) (h0 : Nat) (h1 : Nat) (kf : Nat → Int32) (kz : Int32) (ks : Int32) (kg : Int32) (k0 : Int32) (k1 : Int32) (a1 : Int32) (a2 : Int32) (sz : Nat) (post : Int32 → Prop) (hv : qX0_setSideW ks a1 a2 post) : Met l yX0_setSide wsX0_setSide ({ frames := 0, cells := 0, slots := 0, locals := 0 }) (va_Pc [.ref h0, .int a1, .int a2] (kBW D cI cB sz [(h0, .inr (2, [.ref h1, .int kz, .int ks, .int kg, .int k0, .int k1])), (h1, .inl (cI, 12, .inl kf))])) (va_Qv (fun (u : Int32) => post u) (fun (u : Int32) (t : State) => kE D (va_A [(h0, .inr (2, [.ref h1, .int kz, .int ks, .int kg, .int k0, .int k1])), (h1, .inl (cI, 12, .inl kf))] sz) [(h0, .inr (2, [.ref h1, .int kz, .int u, .int kg, .int k0, .int k1])), (h1, .inl (cI, 12, .inl kf))] t) (va_A [(h0, .inr (2, [.ref h1, .int kz, .int ks, .int kg, .int k0, .int k1])), (h1, .inl (cI, 12, .inl kf))] sz)) 0 0 (va_A [(h0, .inr (2, [.ref h1, .int kz, .int ks, .int kg, .int k0, .int k1])), (h1, .inl (cI, 12, .inl kf))] sz) := by
  refine Met.ofW (cc := cX0_setSide) (maxL := 3) (ret := none) (by decide) rfl ?_
  intro p e s m args below meth c s₁ B hml hv0
  obtain ⟨rfl, hsz, ⟨hP, hK, hN⟩, hD0⟩ := hv0
  have hx := B.exec
  have hb := B.bytes
  have hr := B.returns
  have hts := atoms_spec (ws := wsX0_setSide) B.pre
  have hown : s.vm.findClass RX0 = some m.cls := findClass_of_methodNamed B.named
  have hlocks := B.notSynchronized
  have hi_X0 : ∀ w ∈ wsX00, w ∈ wsX0_setSide := by decide +kernel
  have hF19 := hts (.fieldLink RX0 19 "Roadgame$Chart" "second" "I") (by decide +kernel)
  subst hsz
  have hD := hD0.self (sz := s.heap.size)
  generalize hAe : va_A [(h0, .inr (2, [.ref h1, .int kz, .int ks, .int kg, .int k0, .int k1])), (h1, .inl (cI, 12, .inl kf))] s.heap.size = A at hD ⊢
  have hA : ∀ q : Nat, s.heap.size ≤ q → A q := fun q h => by rw [← hAe]; exact Or.inr h
  have hS : va_S A s.heap s.heap [] := va_S.rf
  have hl := lv_entry ([.ref h0, .int a1, .int a2]) (n := 3) (Nat.le_of_ble_eq_true rfl)
  rw [lg_entry_eq]
  generalize (lg_sl ([.ref h0, .int a1, .int a2]) ++ List.replicate (3 - (lg_sl ([.ref h0, .int a1, .int a2])).length) Slot.unset).toArray = ls at hl ⊢
  have hl : lv_has ls 3 [(0, .ref h0), (1, .int a1), (2, .int a2)] := hl
  refine lv_aload_n hx hb dX0_setSide_0 rfl (lv_at hl 0 rfl) ?_
  refine lv_aload_n hx hb dX0_setSide_1 rfl (lv_at hl 0 rfl) ?_
  refine va_get (D := D) (ci := 2) (v := .int ks) (C := RX0) (T := TX0) (N := 6) hx hb hts hi_X0 hown hK hP 0 rfl rfl 2 (by decide) hF19 (fun _ h9 => h9) rfl dX0_setSide_2 ?_
  refine lv_iconst (v := (1 : Int32)) hx hb dX0_setSide_5 (by decide) ?_
  refine lv_iload_n hx hb dX0_setSide_6 rfl (lv_at hl 1 rfl) ?_
  refine lv_ishl hx hb dX0_setSide_7 ?_
  refine lv_iconst (v := (-1 : Int32)) hx hb dX0_setSide_8 (by decide) ?_
  refine lv_ixor hx hb dX0_setSide_9 ?_
  refine lv_iand hx hb dX0_setSide_10 ?_
  refine lv_iload_n hx hb dX0_setSide_11 rfl (lv_at hl 2 rfl) ?_
  refine lv_iload_n hx hb dX0_setSide_12 rfl (lv_at hl 1 rfl) ?_
  refine lv_ishl hx hb dX0_setSide_13 ?_
  refine lv_ior hx hb dX0_setSide_14 ?_
  refine va_put (D := D) (ci := 2) (v := .int ((ks &&& (((1 : Int32) <<< (a1 &&& (31 : Int32))) ^^^ (-1 : Int32))) ||| (a2 <<< (a1 &&& (31 : Int32))))) (ty := .int) (C := RX0) (T := TX0) (N := 6) hx hb hts hi_X0 tyX0 tyX0_ok nmX0 hown hK hP hD hS 0 rfl rfl 2 (by decide) hF19 (fun _ h9 => h9) rfl (by decide +kernel) rfl rfl (Nat.le_of_ble_eq_true rfl) dX0_setSide_15 (fun H locs hP hD hS => ?_)
  have hP : va_P D vwCl [(h0, .inr (2, [.ref h1, .int kz, .int ((ks &&& (((1 : Int32) <<< (a1 &&& (31 : Int32))) ^^^ (-1 : Int32))) ||| (a2 <<< (a1 &&& (31 : Int32)))), .int kg, .int k0, .int k1])), (h1, .inl (cI, 12, .inl kf))] H := hP
  have hD : va_D A [(h0, .inr (2, [.ref h1, .int kz, .int ((ks &&& (((1 : Int32) <<< (a1 &&& (31 : Int32))) ^^^ (-1 : Int32))) ||| (a2 <<< (a1 &&& (31 : Int32)))), .int kg, .int k0, .int k1])), (h1, .inl (cI, 12, .inl kf))] := hD
  refine W.widen (k := 0) (n := 0) (Nat.le_of_ble_eq_true rfl) (Nat.le_of_ble_eq_true rfl) ?_
  exact W.vret hx hb hr (kWv_ret (u := ((ks &&& (((1 : Int32) <<< (a1 &&& (31 : Int32))) ^^^ (-1 : Int32))) ||| (a2 <<< (a1 &&& (31 : Int32))))) hv hP hD hS) hS.2.2 dX0_setSide_18
set_option maxHeartbeats 4000000 in
set_option maxRecDepth 100000 in
theorem kX0_setRankW (l : Launch) (D : va_G) (cI cB : ClassId) (h0 : Nat) (h1 : Nat) (kf : Nat → Int32) (kz : Int32) (ks : Int32) (kg : Int32) (k0 : Int32) (k1 : Int32) (a1 : Int32) (a2 : Int32) (sz : Nat) (post : Int32 → Int32 → Prop) (hv : qX0_setRankW k0 k1 a1 a2 post) : Met l yX0_setRank wsX0_setRank ({ frames := 0, cells := 0, slots := 0, locals := 0 }) (va_Pc [.ref h0, .int a1, .int a2] (kBW D cI cB sz [(h0, .inr (2, [.ref h1, .int kz, .int ks, .int kg, .int k0, .int k1])), (h1, .inl (cI, 12, .inl kf))])) (va_Qv (fun (u : Int32 × Int32) => post u.1 u.2) (fun (u : Int32 × Int32) (t : State) => kE D (va_A [(h0, .inr (2, [.ref h1, .int kz, .int ks, .int kg, .int k0, .int k1])), (h1, .inl (cI, 12, .inl kf))] sz) [(h0, .inr (2, [.ref h1, .int kz, .int ks, .int kg, .int (u.1), .int (u.2)])), (h1, .inl (cI, 12, .inl kf))] t) (va_A [(h0, .inr (2, [.ref h1, .int kz, .int ks, .int kg, .int k0, .int k1])), (h1, .inl (cI, 12, .inl kf))] sz)) 0 0 (va_A [(h0, .inr (2, [.ref h1, .int kz, .int ks, .int kg, .int k0, .int k1])), (h1, .inl (cI, 12, .inl kf))] sz) := by
  refine Met.ofW (cc := cX0_setRank) (maxL := 4) (ret := none) (by decide) rfl ?_
  intro p e s m args below meth c s₁ B hml hv0
  obtain ⟨rfl, hsz, ⟨hP, hK, hN⟩, hD0⟩ := hv0
  have hx := B.exec
  have hb := B.bytes
  have hr := B.returns
  have hts := atoms_spec (ws := wsX0_setRank) B.pre
  have hown : s.vm.findClass RX0 = some m.cls := findClass_of_methodNamed B.named
  have hlocks := B.notSynchronized
  have hi_X0 : ∀ w ∈ wsX00, w ∈ wsX0_setRank := by decide +kernel
  have hF25 := hts (.fieldLink RX0 25 "Roadgame$Chart" "rankZero" "I") (by decide +kernel)
  have hF28 := hts (.fieldLink RX0 28 "Roadgame$Chart" "rankOne" "I") (by decide +kernel)
  subst hsz
  have hD := hD0.self (sz := s.heap.size)
  generalize hAe : va_A [(h0, .inr (2, [.ref h1, .int kz, .int ks, .int kg, .int k0, .int k1])), (h1, .inl (cI, 12, .inl kf))] s.heap.size = A at hD ⊢
  have hA : ∀ q : Nat, s.heap.size ≤ q → A q := fun q h => by rw [← hAe]; exact Or.inr h
  have hS : va_S A s.heap s.heap [] := va_S.rf
  have hl := lv_entry ([.ref h0, .int a1, .int a2]) (n := 4) (Nat.le_of_ble_eq_true rfl)
  rw [lg_entry_eq]
  generalize (lg_sl ([.ref h0, .int a1, .int a2]) ++ List.replicate (4 - (lg_sl ([.ref h0, .int a1, .int a2])).length) Slot.unset).toArray = ls at hl ⊢
  have hl : lv_has ls 4 [(0, .ref h0), (1, .int a1), (2, .int a2)] := hl
  refine lv_iconst (v := (1 : Int32)) hx hb dX0_setRank_0 (by decide) ?_
  refine lv_iload_n hx hb dX0_setRank_1 rfl (lv_at hl 1 rfl) ?_
  refine lv_ishl hx hb dX0_setRank_2 ?_
  refine lv_istore_n (lv' := [(3, .int ((1 : Int32) <<< (a1 &&& (31 : Int32)))), (0, .ref h0), (1, .int a1), (2, .int a2)]) hx hb dX0_setRank_3 rfl hl (by decide) rfl (fun ls hl => ?_)
  refine lv_aload_n hx hb dX0_setRank_4 rfl (lv_at hl 1 rfl) ?_
  refine lv_iload_n hx hb dX0_setRank_5 rfl (lv_at hl 3 rfl) ?_
  have J26 : ∀ (s0_j26 : Int32) (H : Heap) (locs : List Loc) (ls : Array Slot), va_P D vwCl [(h0, .inr (2, [.ref h1, .int kz, .int ks, .int kg, .int k0, .int k1])), (h1, .inl (cI, 12, .inl kf))] H → va_D A [(h0, .inr (2, [.ref h1, .int kz, .int ks, .int kg, .int k0, .int k1])), (h1, .inl (cI, 12, .inl kf))] → va_S A s.heap H locs → qX0_setRankW_j26 k1 a1 a2 s0_j26 post → lv_has ls 4 [(0, .ref h0), (1, .int a1), (2, .int a2), (3, .int ((1 : Int32) <<< (a1 &&& (31 : Int32))))] → W p l e (headSpec wsX0_setRank ({ frames := 0, cells := 0, slots := 0, locals := 0 })).room s m ([.ref h0, .int a1, .int a2] : List Value).toArray below meth c H locs 0 0 (MQ below (va_Qv (fun (u : Int32 × Int32) => post u.1 u.2) (fun (u : Int32 × Int32) (t : State) => kE D A [(h0, .inr (2, [.ref h1, .int kz, .int ks, .int kg, .int (u.1), .int (u.2)])), (h1, .inl (cI, 12, .inl kf))] t) A) ([.ref h0, .int a1, .int a2] : List Value).toArray s 0 0 A) (F0 m 26 ls [.int s0_j26, .ref h0]) := by
    intro s0_j26 H locs ls hP hD hS hv hl
    refine va_put (D := D) (ci := 2) (v := .int s0_j26) (ty := .int) (C := RX0) (T := TX0) (N := 6) hx hb hts hi_X0 tyX0 tyX0_ok nmX0 hown hK hP hD hS 0 rfl rfl 4 (by decide) hF25 (fun _ h9 => h9) rfl (by decide +kernel) rfl rfl (Nat.le_of_ble_eq_true rfl) dX0_setRank_26 (fun H locs hP hD hS => ?_)
    have hP : va_P D vwCl [(h0, .inr (2, [.ref h1, .int kz, .int ks, .int kg, .int s0_j26, .int k1])), (h1, .inl (cI, 12, .inl kf))] H := hP
    have hD : va_D A [(h0, .inr (2, [.ref h1, .int kz, .int ks, .int kg, .int s0_j26, .int k1])), (h1, .inl (cI, 12, .inl kf))] := hD
    refine lv_aload_n hx hb dX0_setRank_29 rfl (lv_at hl 0 rfl) ?_
    refine lv_iload_n hx hb dX0_setRank_30 rfl (lv_at hl 2 rfl) ?_
    refine lv_iconst (v := (1 : Int32)) hx hb dX0_setRank_31 (by decide) ?_
    refine lv_icmp_ne (tgt := 44) hx hb dX0_setRank_32 (by decide) (fun hc => ?_) (fun hc => ?_)
    · have hv := hv.1 hc
      refine lv_aload_n hx hb dX0_setRank_44 rfl (lv_at hl 0 rfl) ?_
      refine va_get (D := D) (ci := 2) (v := .int k1) (C := RX0) (T := TX0) (N := 6) hx hb hts hi_X0 hown hK hP 0 rfl rfl 5 (by decide) hF28 (fun _ h9 => h9) rfl dX0_setRank_45 ?_
      refine lv_iload_n hx hb dX0_setRank_48 rfl (lv_at hl 3 rfl) ?_
      refine lv_iconst (v := (-1 : Int32)) hx hb dX0_setRank_49 (by decide) ?_
      refine lv_ixor hx hb dX0_setRank_50 ?_
      refine lv_iand hx hb dX0_setRank_51 ?_
      refine va_put (D := D) (ci := 2) (v := .int (k1 &&& (((1 : Int32) <<< (a1 &&& (31 : Int32))) ^^^ (-1 : Int32)))) (ty := .int) (C := RX0) (T := TX0) (N := 6) hx hb hts hi_X0 tyX0 tyX0_ok nmX0 hown hK hP hD hS 0 rfl rfl 5 (by decide) hF28 (fun _ h9 => h9) rfl (by decide +kernel) rfl rfl (Nat.le_of_ble_eq_true rfl) dX0_setRank_52 (fun H locs hP hD hS => ?_)
      have hP : va_P D vwCl [(h0, .inr (2, [.ref h1, .int kz, .int ks, .int kg, .int s0_j26, .int (k1 &&& (((1 : Int32) <<< (a1 &&& (31 : Int32))) ^^^ (-1 : Int32)))])), (h1, .inl (cI, 12, .inl kf))] H := hP
      have hD : va_D A [(h0, .inr (2, [.ref h1, .int kz, .int ks, .int kg, .int s0_j26, .int (k1 &&& (((1 : Int32) <<< (a1 &&& (31 : Int32))) ^^^ (-1 : Int32)))])), (h1, .inl (cI, 12, .inl kf))] := hD
      refine W.widen (k := 0) (n := 0) (Nat.le_of_ble_eq_true rfl) (Nat.le_of_ble_eq_true rfl) ?_
      exact W.vret hx hb hr (kWv_ret (u := (s0_j26, (k1 &&& (((1 : Int32) <<< (a1 &&& (31 : Int32))) ^^^ (-1 : Int32))))) hv hP hD hS) hS.2.2 dX0_setRank_55
    · have hv := hv.2 hc
      refine lv_aload_n hx hb dX0_setRank_35 rfl (lv_at hl 0 rfl) ?_
      refine va_get (D := D) (ci := 2) (v := .int k1) (C := RX0) (T := TX0) (N := 6) hx hb hts hi_X0 hown hK hP 0 rfl rfl 5 (by decide) hF28 (fun _ h9 => h9) rfl dX0_setRank_36 ?_
      refine lv_iload_n hx hb dX0_setRank_39 rfl (lv_at hl 3 rfl) ?_
      refine lv_ior hx hb dX0_setRank_40 ?_
      refine lv_goto (tgt := 52) hx hb dX0_setRank_41 (by decide) ?_
      refine va_put (D := D) (ci := 2) (v := .int (k1 ||| ((1 : Int32) <<< (a1 &&& (31 : Int32))))) (ty := .int) (C := RX0) (T := TX0) (N := 6) hx hb hts hi_X0 tyX0 tyX0_ok nmX0 hown hK hP hD hS 0 rfl rfl 5 (by decide) hF28 (fun _ h9 => h9) rfl (by decide +kernel) rfl rfl (Nat.le_of_ble_eq_true rfl) dX0_setRank_52 (fun H locs hP hD hS => ?_)
      have hP : va_P D vwCl [(h0, .inr (2, [.ref h1, .int kz, .int ks, .int kg, .int s0_j26, .int (k1 ||| ((1 : Int32) <<< (a1 &&& (31 : Int32))))])), (h1, .inl (cI, 12, .inl kf))] H := hP
      have hD : va_D A [(h0, .inr (2, [.ref h1, .int kz, .int ks, .int kg, .int s0_j26, .int (k1 ||| ((1 : Int32) <<< (a1 &&& (31 : Int32))))])), (h1, .inl (cI, 12, .inl kf))] := hD
      refine W.widen (k := 0) (n := 0) (Nat.le_of_ble_eq_true rfl) (Nat.le_of_ble_eq_true rfl) ?_
      exact W.vret hx hb hr (kWv_ret (u := (s0_j26, (k1 ||| ((1 : Int32) <<< (a1 &&& (31 : Int32)))))) hv hP hD hS) hS.2.2 dX0_setRank_55
  refine lv_if_ne (tgt := 18) hx hb dX0_setRank_6 (by decide) (fun hc => ?_) (fun hc => ?_)
  · have hv := hv.1 hc
    refine lv_aload_n hx hb dX0_setRank_18 rfl (lv_at hl 1 rfl) ?_
    refine va_get (D := D) (ci := 2) (v := .int k0) (C := RX0) (T := TX0) (N := 6) hx hb hts hi_X0 hown hK hP 0 rfl rfl 4 (by decide) hF25 (fun _ h9 => h9) rfl dX0_setRank_19 ?_
    refine lv_iload_n hx hb dX0_setRank_22 rfl (lv_at hl 0 rfl) ?_
    refine lv_iconst (v := (-1 : Int32)) hx hb dX0_setRank_23 (by decide) ?_
    refine lv_ixor hx hb dX0_setRank_24 ?_
    refine lv_iand hx hb dX0_setRank_25 ?_
    refine W.widen (k := 0) (n := 0) (Nat.le_of_ble_eq_true rfl) (Nat.le_of_ble_eq_true rfl) ?_
    exact J26 _ _ _ _ hP hD hS hv (lv_sub hl [1, 2, 3, 0] rfl)
  · have hv := hv.2 hc
    refine lv_aload_n hx hb dX0_setRank_9 rfl (lv_at hl 1 rfl) ?_
    refine va_get (D := D) (ci := 2) (v := .int k0) (C := RX0) (T := TX0) (N := 6) hx hb hts hi_X0 hown hK hP 0 rfl rfl 4 (by decide) hF25 (fun _ h9 => h9) rfl dX0_setRank_10 ?_
    refine lv_iload_n hx hb dX0_setRank_13 rfl (lv_at hl 0 rfl) ?_
    refine lv_ior hx hb dX0_setRank_14 ?_
    refine lv_goto (tgt := 26) hx hb dX0_setRank_15 (by decide) ?_
    refine W.widen (k := 0) (n := 0) (Nat.le_of_ble_eq_true rfl) (Nat.le_of_ble_eq_true rfl) ?_
    exact J26 _ _ _ _ hP hD hS hv (lv_sub hl [1, 2, 3, 0] rfl)
set_option maxHeartbeats 4000000 in
set_option maxRecDepth 100000 in
theorem kX0_setWaysW (l : Launch) (D : va_G) (cI cB : ClassId) (h0 : Nat) (h1 : Nat) (kf : Nat → Int32) (kz : Int32) (ks : Int32) (kg : Int32) (k0 : Int32) (k1 : Int32) (a1 : Int32) (a2 : Int32) (sz : Nat) (post : (Nat → Int32) → Prop) (hv : qX0_setWaysW kf a1 a2 post) : Met l yX0_setWays wsX0_setWays ({ frames := 0, cells := 0, slots := 0, locals := 0 }) (va_Pc [.ref h0, .int a1, .int a2] (kBW D cI cB sz [(h0, .inr (2, [.ref h1, .int kz, .int ks, .int kg, .int k0, .int k1])), (h1, .inl (cI, 12, .inl kf))])) (va_Qv (fun (u : (Nat → Int32)) => post u) (fun (u : (Nat → Int32)) (t : State) => kE D (va_A [(h0, .inr (2, [.ref h1, .int kz, .int ks, .int kg, .int k0, .int k1])), (h1, .inl (cI, 12, .inl kf))] sz) [(h0, .inr (2, [.ref h1, .int kz, .int ks, .int kg, .int k0, .int k1])), (h1, .inl (cI, 12, .inl u))] t) (va_A [(h0, .inr (2, [.ref h1, .int kz, .int ks, .int kg, .int k0, .int k1])), (h1, .inl (cI, 12, .inl kf))] sz)) 0 0 (va_A [(h0, .inr (2, [.ref h1, .int kz, .int ks, .int kg, .int k0, .int k1])), (h1, .inl (cI, 12, .inl kf))] sz) := by
  refine Met.ofW (cc := cX0_setWays) (maxL := 3) (ret := none) (by decide) rfl ?_
  intro p e s m args below meth c s₁ B hml hv0
  obtain ⟨rfl, hsz, ⟨hP, hK, hN⟩, hD0⟩ := hv0
  have hx := B.exec
  have hb := B.bytes
  have hr := B.returns
  have hts := atoms_spec (ws := wsX0_setWays) B.pre
  have hown : s.vm.findClass RX0 = some m.cls := findClass_of_methodNamed B.named
  have hlocks := B.notSynchronized
  have hi_X0 : ∀ w ∈ wsX00, w ∈ wsX0_setWays := by decide +kernel
  have hF9 := hts (.fieldLink RX0 9 "Roadgame$Chart" "next" "[I") (by decide +kernel)
  subst hsz
  have hD := hD0.self (sz := s.heap.size)
  generalize hAe : va_A [(h0, .inr (2, [.ref h1, .int kz, .int ks, .int kg, .int k0, .int k1])), (h1, .inl (cI, 12, .inl kf))] s.heap.size = A at hD ⊢
  have hA : ∀ q : Nat, s.heap.size ≤ q → A q := fun q h => by rw [← hAe]; exact Or.inr h
  have hS : va_S A s.heap s.heap [] := va_S.rf
  have hl := lv_entry ([.ref h0, .int a1, .int a2]) (n := 3) (Nat.le_of_ble_eq_true rfl)
  rw [lg_entry_eq]
  generalize (lg_sl ([.ref h0, .int a1, .int a2]) ++ List.replicate (3 - (lg_sl ([.ref h0, .int a1, .int a2])).length) Slot.unset).toArray = ls at hl ⊢
  have hl : lv_has ls 3 [(0, .ref h0), (1, .int a1), (2, .int a2)] := hl
  refine lv_iload_n hx hb dX0_setWays_0 rfl (lv_at hl 1 rfl) ?_
  refine lv_if_lt (tgt := 20) hx hb dX0_setWays_1 (by decide) (fun hc => ?_) (fun hc => ?_)
  · have hv := hv.1 hc
    refine W.widen (k := 0) (n := 0) (Nat.le_of_ble_eq_true rfl) (Nat.le_of_ble_eq_true rfl) ?_
    exact W.vret hx hb hr (kWv_ret (u := kf) hv hP hD hS) hS.2.2 dX0_setWays_20
  · have hv := hv.2 hc
    refine lv_iload_n hx hb dX0_setWays_4 rfl (lv_at hl 1 rfl) ?_
    refine lv_aload_n hx hb dX0_setWays_5 rfl (lv_at hl 0 rfl) ?_
    refine va_get (D := D) (ci := 2) (v := .ref h1) (C := RX0) (T := TX0) (N := 6) hx hb hts hi_X0 hown hK hP 0 rfl rfl 0 (by decide) hF9 (fun _ h9 => h9) rfl dX0_setWays_6 ?_
    refine va_alen (v := (12 : Int32)) hx hb hK hP 1 0 rfl rfl (by first | rfl | decide) dX0_setWays_9 ?_
    refine lv_icmp_ge (tgt := 20) hx hb dX0_setWays_10 (by decide) (fun hc => ?_) (fun hc => ?_)
    · have hv := hv.1 hc
      refine W.widen (k := 0) (n := 0) (Nat.le_of_ble_eq_true rfl) (Nat.le_of_ble_eq_true rfl) ?_
      exact W.vret hx hb hr (kWv_ret (u := kf) hv hP hD hS) hS.2.2 dX0_setWays_20
    · have hv := hv.2 hc
      refine lv_aload_n hx hb dX0_setWays_13 rfl (lv_at hl 0 rfl) ?_
      refine va_get (D := D) (ci := 2) (v := .ref h1) (C := RX0) (T := TX0) (N := 6) hx hb hts hi_X0 hown hK hP 0 rfl rfl 0 (by decide) hF9 (fun _ h9 => h9) rfl dX0_setWays_14 ?_
      refine lv_iload_n hx hb dX0_setWays_17 rfl (lv_at hl 1 rfl) ?_
      refine lv_iload_n hx hb dX0_setWays_18 rfl (lv_at hl 2 rfl) ?_
      obtain ⟨hq, hv⟩ := hv
      refine va_iast hx hb hK hP hD hS 1 0 rfl rfl hq dX0_setWays_19 (fun H locs hP hD hS => ?_)
      have hP : va_P D vwCl [(h0, .inr (2, [.ref h1, .int kz, .int ks, .int kg, .int k0, .int k1])), (h1, .inl (cI, 12, .inl (upd kf a1.toNatClampNeg a2)))] H := hP
      have hD : va_D A [(h0, .inr (2, [.ref h1, .int kz, .int ks, .int kg, .int k0, .int k1])), (h1, .inl (cI, 12, .inl (upd kf a1.toNatClampNeg a2)))] := hD
      refine W.widen (k := 0) (n := 0) (Nat.le_of_ble_eq_true rfl) (Nat.le_of_ble_eq_true rfl) ?_
      exact W.vret hx hb hr (kWv_ret (u := (upd kf a1.toNatClampNeg a2)) hv hP hD hS) hS.2.2 dX0_setWays_20
set_option maxHeartbeats 4000000 in
set_option maxRecDepth 100000 in
theorem kX0_putWayW (l : Launch) (D : va_G) (cI cB : ClassId) (h0 : Nat) (h1 : Nat) (kf : Nat → Int32) (kz : Int32) (ks : Int32) (kg : Int32) (k0 : Int32) (k1 : Int32) (a1 : Int32) (a2 : Int32) (sz : Nat) (post : (Nat → Int32) → Prop) (hv : qX0_putWayW kf a1 a2 post) : Met l yX0_putWay wsX0_putWay ({ frames := 1, cells := 0, slots := 0, locals := 22 }) (va_Pc [.ref h0, .int a1, .int a2] (kBW D cI cB sz [(h0, .inr (2, [.ref h1, .int kz, .int ks, .int kg, .int k0, .int k1])), (h1, .inl (cI, 12, .inl kf))])) (va_Qv (fun (u : (Nat → Int32)) => post u) (fun (u : (Nat → Int32)) (t : State) => kE D (va_A [(h0, .inr (2, [.ref h1, .int kz, .int ks, .int kg, .int k0, .int k1])), (h1, .inl (cI, 12, .inl kf))] sz) [(h0, .inr (2, [.ref h1, .int kz, .int ks, .int kg, .int k0, .int k1])), (h1, .inl (cI, 12, .inl u))] t) (va_A [(h0, .inr (2, [.ref h1, .int kz, .int ks, .int kg, .int k0, .int k1])), (h1, .inl (cI, 12, .inl kf))] sz)) 0 0 (va_A [(h0, .inr (2, [.ref h1, .int kz, .int ks, .int kg, .int k0, .int k1])), (h1, .inl (cI, 12, .inl kf))] sz) := by
  refine Met.ofW (cc := cX0_putWay) (maxL := 3) (ret := none) (by decide) rfl ?_
  intro p e s m args below meth c s₁ B hml hv0
  obtain ⟨rfl, hsz, ⟨hP, hK, hN⟩, hD0⟩ := hv0
  have hx := B.exec
  have hb := B.bytes
  have hr := B.returns
  have hts := atoms_spec (ws := wsX0_putWay) B.pre
  have hown : s.vm.findClass RX0 = some m.cls := findClass_of_methodNamed B.named
  have hlocks := B.notSynchronized
  subst hsz
  have hD := hD0.self (sz := s.heap.size)
  generalize hAe : va_A [(h0, .inr (2, [.ref h1, .int kz, .int ks, .int kg, .int k0, .int k1])), (h1, .inl (cI, 12, .inl kf))] s.heap.size = A at hD ⊢
  have hA : ∀ q : Nat, s.heap.size ≤ q → A q := fun q h => by rw [← hAe]; exact Or.inr h
  have hS : va_S A s.heap s.heap [] := va_S.rf
  have hl := lv_entry ([.ref h0, .int a1, .int a2]) (n := 3) (Nat.le_of_ble_eq_true rfl)
  rw [lg_entry_eq]
  generalize (lg_sl ([.ref h0, .int a1, .int a2]) ++ List.replicate (3 - (lg_sl ([.ref h0, .int a1, .int a2])).length) Slot.unset).toArray = ls at hl ⊢
  have hl : lv_has ls 3 [(0, .ref h0), (1, .int a1), (2, .int a2)] := hl
  refine lv_aload_n hx hb dX0_putWay_0 rfl (lv_at hl 0 rfl) ?_
  refine lv_iload_n hx hb dX0_putWay_1 rfl (lv_at hl 1 rfl) ?_
  refine lv_aload_n hx hb dX0_putWay_2 rfl (lv_at hl 0 rfl) ?_
  refine lv_iload_n hx hb dX0_putWay_3 rfl (lv_at hl 1 rfl) ?_
  refine kc_V (As := [.int a1]) (rest := [.int a1, .ref h0]) ⟨hx, hb, hml, hown, hts⟩ (kX0_waysFrom l D cI cB h0 h1 kf kz ks kg k0 k1 a1 _ hv) (cwV 1 hts gX0_putWay_X0_waysFrom rfl rfl rfl (by decide +kernel) ⟨Nat.le_of_ble_eq_true rfl, Nat.le_of_ble_eq_true rfl⟩) hP hK hN 2 rfl rfl rfl rfl hl.1 rfl (Nat.le_of_ble_eq_true rfl) dX0_putWay_4 ⟨Nat.le_of_ble_eq_true rfl, Nat.le_of_ble_eq_true rfl⟩ (fun r4 hv => ?_)
  refine lv_iconst (v := (1 : Int32)) hx hb dX0_putWay_7 (by decide) ?_
  refine lv_iload_n hx hb dX0_putWay_8 rfl (lv_at hl 2 rfl) ?_
  refine lv_ishl hx hb dX0_putWay_9 ?_
  refine lv_ior hx hb dX0_putWay_10 ?_
  refine kw_v (wr := []) (va_runV (As := [.int a1, .int (r4 ||| ((1 : Int32) <<< (a2 &&& (31 : Int32))))]) (rest := []) ⟨hx, hb, hml, hown, hts⟩ (kX0_setWaysW l D cI cB h0 h1 kf kz ks kg k0 k1 a1 (r4 ||| ((1 : Int32) <<< (a2 &&& (31 : Int32)))) _ _ hv) (cwV 2 hts gX0_putWay_X0_setWays rfl rfl rfl (by decide +kernel) ⟨Nat.le_of_ble_eq_true rfl, Nat.le_of_ble_eq_true rfl⟩) ⟨(kPreW (As := [.ref h0, .int a1, .int (r4 ||| ((1 : Int32) <<< (a2 &&& (31 : Int32))))]) (hP.sub (ws' := [(h0, .inr (2, [.ref h1, .int kz, .int ks, .int kg, .int k0, .int k1])), (h1, .inl (cI, 12, .inl kf))]) [0, 1] rfl) (hD.sub (ws' := [(h0, .inr (2, [.ref h1, .int kz, .int ks, .int kg, .int k0, .int k1])), (h1, .inl (cI, 12, .inl kf))]) [0, 1] (by decide) rfl) hK hN).1, kRecv (hP.sub (ws' := [(h0, .inr (2, [.ref h1, .int kz, .int ks, .int kg, .int k0, .int k1])), (h1, .inl (cI, 12, .inl kf))]) [0, 1] rfl) hK 2 rfl rfl rfl, (kPreW (As := [.ref h0, .int a1, .int (r4 ||| ((1 : Int32) <<< (a2 &&& (31 : Int32))))]) (hP.sub (ws' := [(h0, .inr (2, [.ref h1, .int kz, .int ks, .int kg, .int k0, .int k1])), (h1, .inl (cI, 12, .inl kf))]) [0, 1] rfl) (hD.sub (ws' := [(h0, .inr (2, [.ref h1, .int kz, .int ks, .int kg, .int k0, .int k1])), (h1, .inl (cI, 12, .inl kf))]) [0, 1] (by decide) rfl) hK hN).2⟩ rfl rfl hl.1 rfl (lv_room (Nat.le_of_ble_eq_true rfl)) dX0_putWay_11 ⟨Nat.le_of_ble_eq_true rfl, Nat.le_of_ble_eq_true rfl⟩) hP hD hS hA [0, 1] [] rfl rfl (by decide) (by decide) (fun u H locs hv hP hD hS => ?_)
  obtain ⟨x11_0, rfl⟩ : ∃ z, z = u := ⟨_, rfl⟩
  have hP : va_P D vwCl [(h0, .inr (2, [.ref h1, .int kz, .int ks, .int kg, .int k0, .int k1])), (h1, .inl (cI, 12, .inl x11_0))] H := hP.sub [0, 1] rfl
  have hD : va_D A [(h0, .inr (2, [.ref h1, .int kz, .int ks, .int kg, .int k0, .int k1])), (h1, .inl (cI, 12, .inl x11_0))] := hD.sub [0, 1] (by decide) rfl
  refine W.widen (k := 0) (n := 0) (Nat.le_of_ble_eq_true rfl) (Nat.le_of_ble_eq_true rfl) ?_
  exact W.vret hx hb hr (kWv_ret (u := x11_0) hv hP hD hS) hS.2.2 dX0_putWay_14
set_option maxHeartbeats 4000000 in
set_option maxRecDepth 100000 in
theorem kX0_takeWayW (l : Launch) (D : va_G) (cI cB : ClassId) (h0 : Nat) (h1 : Nat) (kf : Nat → Int32) (kz : Int32) (ks : Int32) (kg : Int32) (k0 : Int32) (k1 : Int32) (a1 : Int32) (a2 : Int32) (sz : Nat) (post : (Nat → Int32) → Prop) (hv : qX0_takeWayW kf a1 a2 post) : Met l yX0_takeWay wsX0_takeWay ({ frames := 1, cells := 0, slots := 0, locals := 22 }) (va_Pc [.ref h0, .int a1, .int a2] (kBW D cI cB sz [(h0, .inr (2, [.ref h1, .int kz, .int ks, .int kg, .int k0, .int k1])), (h1, .inl (cI, 12, .inl kf))])) (va_Qv (fun (u : (Nat → Int32)) => post u) (fun (u : (Nat → Int32)) (t : State) => kE D (va_A [(h0, .inr (2, [.ref h1, .int kz, .int ks, .int kg, .int k0, .int k1])), (h1, .inl (cI, 12, .inl kf))] sz) [(h0, .inr (2, [.ref h1, .int kz, .int ks, .int kg, .int k0, .int k1])), (h1, .inl (cI, 12, .inl u))] t) (va_A [(h0, .inr (2, [.ref h1, .int kz, .int ks, .int kg, .int k0, .int k1])), (h1, .inl (cI, 12, .inl kf))] sz)) 0 0 (va_A [(h0, .inr (2, [.ref h1, .int kz, .int ks, .int kg, .int k0, .int k1])), (h1, .inl (cI, 12, .inl kf))] sz) := by
  refine Met.ofW (cc := cX0_takeWay) (maxL := 3) (ret := none) (by decide) rfl ?_
  intro p e s m args below meth c s₁ B hml hv0
  obtain ⟨rfl, hsz, ⟨hP, hK, hN⟩, hD0⟩ := hv0
  have hx := B.exec
  have hb := B.bytes
  have hr := B.returns
  have hts := atoms_spec (ws := wsX0_takeWay) B.pre
  have hown : s.vm.findClass RX0 = some m.cls := findClass_of_methodNamed B.named
  have hlocks := B.notSynchronized
  subst hsz
  have hD := hD0.self (sz := s.heap.size)
  generalize hAe : va_A [(h0, .inr (2, [.ref h1, .int kz, .int ks, .int kg, .int k0, .int k1])), (h1, .inl (cI, 12, .inl kf))] s.heap.size = A at hD ⊢
  have hA : ∀ q : Nat, s.heap.size ≤ q → A q := fun q h => by rw [← hAe]; exact Or.inr h
  have hS : va_S A s.heap s.heap [] := va_S.rf
  have hl := lv_entry ([.ref h0, .int a1, .int a2]) (n := 3) (Nat.le_of_ble_eq_true rfl)
  rw [lg_entry_eq]
  generalize (lg_sl ([.ref h0, .int a1, .int a2]) ++ List.replicate (3 - (lg_sl ([.ref h0, .int a1, .int a2])).length) Slot.unset).toArray = ls at hl ⊢
  have hl : lv_has ls 3 [(0, .ref h0), (1, .int a1), (2, .int a2)] := hl
  refine lv_aload_n hx hb dX0_takeWay_0 rfl (lv_at hl 0 rfl) ?_
  refine lv_iload_n hx hb dX0_takeWay_1 rfl (lv_at hl 1 rfl) ?_
  refine lv_aload_n hx hb dX0_takeWay_2 rfl (lv_at hl 0 rfl) ?_
  refine lv_iload_n hx hb dX0_takeWay_3 rfl (lv_at hl 1 rfl) ?_
  refine kc_V (As := [.int a1]) (rest := [.int a1, .ref h0]) ⟨hx, hb, hml, hown, hts⟩ (kX0_waysFrom l D cI cB h0 h1 kf kz ks kg k0 k1 a1 _ hv) (cwV 1 hts gX0_takeWay_X0_waysFrom rfl rfl rfl (by decide +kernel) ⟨Nat.le_of_ble_eq_true rfl, Nat.le_of_ble_eq_true rfl⟩) hP hK hN 2 rfl rfl rfl rfl hl.1 rfl (Nat.le_of_ble_eq_true rfl) dX0_takeWay_4 ⟨Nat.le_of_ble_eq_true rfl, Nat.le_of_ble_eq_true rfl⟩ (fun r4 hv => ?_)
  refine lv_iconst (v := (1 : Int32)) hx hb dX0_takeWay_7 (by decide) ?_
  refine lv_iload_n hx hb dX0_takeWay_8 rfl (lv_at hl 2 rfl) ?_
  refine lv_ishl hx hb dX0_takeWay_9 ?_
  refine lv_iconst (v := (-1 : Int32)) hx hb dX0_takeWay_10 (by decide) ?_
  refine lv_ixor hx hb dX0_takeWay_11 ?_
  refine lv_iand hx hb dX0_takeWay_12 ?_
  refine kw_v (wr := []) (va_runV (As := [.int a1, .int (r4 &&& (((1 : Int32) <<< (a2 &&& (31 : Int32))) ^^^ (-1 : Int32)))]) (rest := []) ⟨hx, hb, hml, hown, hts⟩ (kX0_setWaysW l D cI cB h0 h1 kf kz ks kg k0 k1 a1 (r4 &&& (((1 : Int32) <<< (a2 &&& (31 : Int32))) ^^^ (-1 : Int32))) _ _ hv) (cwV 2 hts gX0_takeWay_X0_setWays rfl rfl rfl (by decide +kernel) ⟨Nat.le_of_ble_eq_true rfl, Nat.le_of_ble_eq_true rfl⟩) ⟨(kPreW (As := [.ref h0, .int a1, .int (r4 &&& (((1 : Int32) <<< (a2 &&& (31 : Int32))) ^^^ (-1 : Int32)))]) (hP.sub (ws' := [(h0, .inr (2, [.ref h1, .int kz, .int ks, .int kg, .int k0, .int k1])), (h1, .inl (cI, 12, .inl kf))]) [0, 1] rfl) (hD.sub (ws' := [(h0, .inr (2, [.ref h1, .int kz, .int ks, .int kg, .int k0, .int k1])), (h1, .inl (cI, 12, .inl kf))]) [0, 1] (by decide) rfl) hK hN).1, kRecv (hP.sub (ws' := [(h0, .inr (2, [.ref h1, .int kz, .int ks, .int kg, .int k0, .int k1])), (h1, .inl (cI, 12, .inl kf))]) [0, 1] rfl) hK 2 rfl rfl rfl, (kPreW (As := [.ref h0, .int a1, .int (r4 &&& (((1 : Int32) <<< (a2 &&& (31 : Int32))) ^^^ (-1 : Int32)))]) (hP.sub (ws' := [(h0, .inr (2, [.ref h1, .int kz, .int ks, .int kg, .int k0, .int k1])), (h1, .inl (cI, 12, .inl kf))]) [0, 1] rfl) (hD.sub (ws' := [(h0, .inr (2, [.ref h1, .int kz, .int ks, .int kg, .int k0, .int k1])), (h1, .inl (cI, 12, .inl kf))]) [0, 1] (by decide) rfl) hK hN).2⟩ rfl rfl hl.1 rfl (lv_room (Nat.le_of_ble_eq_true rfl)) dX0_takeWay_13 ⟨Nat.le_of_ble_eq_true rfl, Nat.le_of_ble_eq_true rfl⟩) hP hD hS hA [0, 1] [] rfl rfl (by decide) (by decide) (fun u H locs hv hP hD hS => ?_)
  obtain ⟨x13_0, rfl⟩ : ∃ z, z = u := ⟨_, rfl⟩
  have hP : va_P D vwCl [(h0, .inr (2, [.ref h1, .int kz, .int ks, .int kg, .int k0, .int k1])), (h1, .inl (cI, 12, .inl x13_0))] H := hP.sub [0, 1] rfl
  have hD : va_D A [(h0, .inr (2, [.ref h1, .int kz, .int ks, .int kg, .int k0, .int k1])), (h1, .inl (cI, 12, .inl x13_0))] := hD.sub [0, 1] (by decide) rfl
  refine W.widen (k := 0) (n := 0) (Nat.le_of_ble_eq_true rfl) (Nat.le_of_ble_eq_true rfl) ?_
  exact W.vret hx hb hr (kWv_ret (u := x13_0) hv hP hD hS) hS.2.2 dX0_takeWay_16
set_option maxHeartbeats 4000000 in
set_option maxRecDepth 100000 in
theorem kX0_clearW (l : Launch) (D : va_G) (cI cB : ClassId) (h0 : Nat) (h1 : Nat) (kf : Nat → Int32) (kz : Int32) (ks : Int32) (kg : Int32) (k0 : Int32) (k1 : Int32) (a1 : Int32) (sz : Nat) (post : Int32 → Int32 → Int32 → Int32 → Int32 → (Nat → Int32) → Prop) (hv : qX0_clearW kf a1 post) : Met l yX0_clear wsX0_clear ({ frames := 0, cells := 0, slots := 0, locals := 0 }) (va_Pc [.ref h0, .int a1] (kBW D cI cB sz [(h0, .inr (2, [.ref h1, .int kz, .int ks, .int kg, .int k0, .int k1])), (h1, .inl (cI, 12, .inl kf))])) (va_Qv (fun (u : Int32 × Int32 × Int32 × Int32 × Int32 × (Nat → Int32)) => post u.1 u.2.1 u.2.2.1 u.2.2.2.1 u.2.2.2.2.1 u.2.2.2.2.2) (fun (u : Int32 × Int32 × Int32 × Int32 × Int32 × (Nat → Int32)) (t : State) => kE D (va_A [(h0, .inr (2, [.ref h1, .int kz, .int ks, .int kg, .int k0, .int k1])), (h1, .inl (cI, 12, .inl kf))] sz) [(h0, .inr (2, [.ref h1, .int (u.1), .int (u.2.1), .int (u.2.2.1), .int (u.2.2.2.1), .int (u.2.2.2.2.1)])), (h1, .inl (cI, 12, .inl (u.2.2.2.2.2)))] t) (va_A [(h0, .inr (2, [.ref h1, .int kz, .int ks, .int kg, .int k0, .int k1])), (h1, .inl (cI, 12, .inl kf))] sz)) 0 0 (va_A [(h0, .inr (2, [.ref h1, .int kz, .int ks, .int kg, .int k0, .int k1])), (h1, .inl (cI, 12, .inl kf))] sz) := by
  refine Met.ofW (cc := cX0_clear) (maxL := 3) (ret := none) (by decide) rfl ?_
  intro p e s m args below meth c s₁ B hml hv0
  obtain ⟨rfl, hsz, ⟨hP, hK, hN⟩, hD0⟩ := hv0
  have hx := B.exec
  have hb := B.bytes
  have hr := B.returns
  have hts := atoms_spec (ws := wsX0_clear) B.pre
  have hown : s.vm.findClass RX0 = some m.cls := findClass_of_methodNamed B.named
  have hlocks := B.notSynchronized
  have hi_X0 : ∀ w ∈ wsX00, w ∈ wsX0_clear := by decide +kernel
  have hF9 := hts (.fieldLink RX0 9 "Roadgame$Chart" "next" "[I") (by decide +kernel)
  have hF15 := hts (.fieldLink RX0 15 "Roadgame$Chart" "size" "I") (by decide +kernel)
  have hF19 := hts (.fieldLink RX0 19 "Roadgame$Chart" "second" "I") (by decide +kernel)
  have hF22 := hts (.fieldLink RX0 22 "Roadgame$Chart" "goal" "I") (by decide +kernel)
  have hF25 := hts (.fieldLink RX0 25 "Roadgame$Chart" "rankZero" "I") (by decide +kernel)
  have hF28 := hts (.fieldLink RX0 28 "Roadgame$Chart" "rankOne" "I") (by decide +kernel)
  subst hsz
  have hD := hD0.self (sz := s.heap.size)
  generalize hAe : va_A [(h0, .inr (2, [.ref h1, .int kz, .int ks, .int kg, .int k0, .int k1])), (h1, .inl (cI, 12, .inl kf))] s.heap.size = A at hD ⊢
  have hA : ∀ q : Nat, s.heap.size ≤ q → A q := fun q h => by rw [← hAe]; exact Or.inr h
  have hS : va_S A s.heap s.heap [] := va_S.rf
  have hl := lv_entry ([.ref h0, .int a1]) (n := 3) (Nat.le_of_ble_eq_true rfl)
  rw [lg_entry_eq]
  generalize (lg_sl ([.ref h0, .int a1]) ++ List.replicate (3 - (lg_sl ([.ref h0, .int a1])).length) Slot.unset).toArray = ls at hl ⊢
  have hl : lv_has ls 3 [(0, .ref h0), (1, .int a1)] := hl
  refine lv_aload_n hx hb dX0_clear_0 rfl (lv_at hl 0 rfl) ?_
  refine lv_iload_n hx hb dX0_clear_1 rfl (lv_at hl 1 rfl) ?_
  refine va_put (D := D) (ci := 2) (v := .int a1) (ty := .int) (C := RX0) (T := TX0) (N := 6) hx hb hts hi_X0 tyX0 tyX0_ok nmX0 hown hK hP hD hS 0 rfl rfl 1 (by decide) hF15 (fun _ h9 => h9) rfl (by decide +kernel) rfl rfl (Nat.le_of_ble_eq_true rfl) dX0_clear_2 (fun H locs hP hD hS => ?_)
  have hP : va_P D vwCl [(h0, .inr (2, [.ref h1, .int a1, .int ks, .int kg, .int k0, .int k1])), (h1, .inl (cI, 12, .inl kf))] H := hP
  have hD : va_D A [(h0, .inr (2, [.ref h1, .int a1, .int ks, .int kg, .int k0, .int k1])), (h1, .inl (cI, 12, .inl kf))] := hD
  refine lv_aload_n hx hb dX0_clear_5 rfl (lv_at hl 0 rfl) ?_
  refine lv_iconst (v := (0 : Int32)) hx hb dX0_clear_6 (by decide) ?_
  refine va_put (D := D) (ci := 2) (v := .int (0 : Int32)) (ty := .int) (C := RX0) (T := TX0) (N := 6) hx hb hts hi_X0 tyX0 tyX0_ok nmX0 hown hK hP hD hS 0 rfl rfl 2 (by decide) hF19 (fun _ h9 => h9) rfl (by decide +kernel) rfl rfl (Nat.le_of_ble_eq_true rfl) dX0_clear_7 (fun H locs hP hD hS => ?_)
  have hP : va_P D vwCl [(h0, .inr (2, [.ref h1, .int a1, .int (0 : Int32), .int kg, .int k0, .int k1])), (h1, .inl (cI, 12, .inl kf))] H := hP
  have hD : va_D A [(h0, .inr (2, [.ref h1, .int a1, .int (0 : Int32), .int kg, .int k0, .int k1])), (h1, .inl (cI, 12, .inl kf))] := hD
  refine lv_aload_n hx hb dX0_clear_10 rfl (lv_at hl 0 rfl) ?_
  refine lv_iconst (v := (0 : Int32)) hx hb dX0_clear_11 (by decide) ?_
  refine va_put (D := D) (ci := 2) (v := .int (0 : Int32)) (ty := .int) (C := RX0) (T := TX0) (N := 6) hx hb hts hi_X0 tyX0 tyX0_ok nmX0 hown hK hP hD hS 0 rfl rfl 3 (by decide) hF22 (fun _ h9 => h9) rfl (by decide +kernel) rfl rfl (Nat.le_of_ble_eq_true rfl) dX0_clear_12 (fun H locs hP hD hS => ?_)
  have hP : va_P D vwCl [(h0, .inr (2, [.ref h1, .int a1, .int (0 : Int32), .int (0 : Int32), .int k0, .int k1])), (h1, .inl (cI, 12, .inl kf))] H := hP
  have hD : va_D A [(h0, .inr (2, [.ref h1, .int a1, .int (0 : Int32), .int (0 : Int32), .int k0, .int k1])), (h1, .inl (cI, 12, .inl kf))] := hD
  refine lv_aload_n hx hb dX0_clear_15 rfl (lv_at hl 0 rfl) ?_
  refine lv_iconst (v := (0 : Int32)) hx hb dX0_clear_16 (by decide) ?_
  refine va_put (D := D) (ci := 2) (v := .int (0 : Int32)) (ty := .int) (C := RX0) (T := TX0) (N := 6) hx hb hts hi_X0 tyX0 tyX0_ok nmX0 hown hK hP hD hS 0 rfl rfl 4 (by decide) hF25 (fun _ h9 => h9) rfl (by decide +kernel) rfl rfl (Nat.le_of_ble_eq_true rfl) dX0_clear_17 (fun H locs hP hD hS => ?_)
  have hP : va_P D vwCl [(h0, .inr (2, [.ref h1, .int a1, .int (0 : Int32), .int (0 : Int32), .int (0 : Int32), .int k1])), (h1, .inl (cI, 12, .inl kf))] H := hP
  have hD : va_D A [(h0, .inr (2, [.ref h1, .int a1, .int (0 : Int32), .int (0 : Int32), .int (0 : Int32), .int k1])), (h1, .inl (cI, 12, .inl kf))] := hD
  refine lv_aload_n hx hb dX0_clear_20 rfl (lv_at hl 0 rfl) ?_
  refine lv_iconst (v := (0 : Int32)) hx hb dX0_clear_21 (by decide) ?_
  refine va_put (D := D) (ci := 2) (v := .int (0 : Int32)) (ty := .int) (C := RX0) (T := TX0) (N := 6) hx hb hts hi_X0 tyX0 tyX0_ok nmX0 hown hK hP hD hS 0 rfl rfl 5 (by decide) hF28 (fun _ h9 => h9) rfl (by decide +kernel) rfl rfl (Nat.le_of_ble_eq_true rfl) dX0_clear_22 (fun H locs hP hD hS => ?_)
  have hP : va_P D vwCl [(h0, .inr (2, [.ref h1, .int a1, .int (0 : Int32), .int (0 : Int32), .int (0 : Int32), .int (0 : Int32)])), (h1, .inl (cI, 12, .inl kf))] H := hP
  have hD : va_D A [(h0, .inr (2, [.ref h1, .int a1, .int (0 : Int32), .int (0 : Int32), .int (0 : Int32), .int (0 : Int32)])), (h1, .inl (cI, 12, .inl kf))] := hD
  refine lv_iconst (v := (0 : Int32)) hx hb dX0_clear_25 (by decide) ?_
  refine lv_istore_n (lv' := [(2, .int (0 : Int32)), (0, .ref h0), (1, .int a1)]) hx hb dX0_clear_26 rfl hl (by decide) rfl (fun ls hl => ?_)
  have L27 : ∀ (K27_49 : Int32 → (Nat → Int32) → Prop), (∀ (v2_27 : Int32) (z1_0_27 : Nat → Int32) (H : Heap) (locs : List Loc) (ls : Array Slot), va_P D vwCl [(h0, .inr (2, [.ref h1, .int a1, .int (0 : Int32), .int (0 : Int32), .int (0 : Int32), .int (0 : Int32)])), (h1, .inl (cI, 12, .inl z1_0_27))] H → va_D A [(h0, .inr (2, [.ref h1, .int a1, .int (0 : Int32), .int (0 : Int32), .int (0 : Int32), .int (0 : Int32)])), (h1, .inl (cI, 12, .inl z1_0_27))] → va_S A s.heap H locs → K27_49 v2_27 z1_0_27 → lv_has ls 3 [(0, .ref h0), (1, .int a1), (2, .int v2_27)] → W p l e (headSpec wsX0_clear ({ frames := 0, cells := 0, slots := 0, locals := 0 })).room s m ([.ref h0, .int a1] : List Value).toArray below meth c H locs 0 0 (MQ below (va_Qv (fun (u : Int32 × Int32 × Int32 × Int32 × Int32 × (Nat → Int32)) => post u.1 u.2.1 u.2.2.1 u.2.2.2.1 u.2.2.2.2.1 u.2.2.2.2.2) (fun (u : Int32 × Int32 × Int32 × Int32 × Int32 × (Nat → Int32)) (t : State) => kE D A [(h0, .inr (2, [.ref h1, .int (u.1), .int (u.2.1), .int (u.2.2.1), .int (u.2.2.2.1), .int (u.2.2.2.2.1)])), (h1, .inl (cI, 12, .inl (u.2.2.2.2.2)))] t) A) ([.ref h0, .int a1] : List Value).toArray s 0 0 A) (F0 m 49 ls [])) → ∀ (n27 : Nat) (v2_27 : Int32) (z1_0_27 : Nat → Int32) (H : Heap) (locs : List Loc) (ls : Array Slot), va_P D vwCl [(h0, .inr (2, [.ref h1, .int a1, .int (0 : Int32), .int (0 : Int32), .int (0 : Int32), .int (0 : Int32)])), (h1, .inl (cI, 12, .inl z1_0_27))] H → va_D A [(h0, .inr (2, [.ref h1, .int a1, .int (0 : Int32), .int (0 : Int32), .int (0 : Int32), .int (0 : Int32)])), (h1, .inl (cI, 12, .inl z1_0_27))] → va_S A s.heap H locs → qX0_clear_W27 K27_49 n27 v2_27 z1_0_27 → lv_has ls 3 [(0, .ref h0), (1, .int a1), (2, .int v2_27)] → W p l e (headSpec wsX0_clear ({ frames := 0, cells := 0, slots := 0, locals := 0 })).room s m ([.ref h0, .int a1] : List Value).toArray below meth c H locs 0 0 (MQ below (va_Qv (fun (u : Int32 × Int32 × Int32 × Int32 × Int32 × (Nat → Int32)) => post u.1 u.2.1 u.2.2.1 u.2.2.2.1 u.2.2.2.2.1 u.2.2.2.2.2) (fun (u : Int32 × Int32 × Int32 × Int32 × Int32 × (Nat → Int32)) (t : State) => kE D A [(h0, .inr (2, [.ref h1, .int (u.1), .int (u.2.1), .int (u.2.2.1), .int (u.2.2.2.1), .int (u.2.2.2.2.1)])), (h1, .inl (cI, 12, .inl (u.2.2.2.2.2)))] t) A) ([.ref h0, .int a1] : List Value).toArray s 0 0 A) (F0 m 27 ls []) := by
    intro K27_49 hk27_49
    intro n27
    induction n27 with
    | zero => intro v2_27 z1_0_27 H locs ls hP hD hS hv hl; exact hv.elim
    | succ n27 ih27 =>
      intro v2_27 z1_0_27 H locs ls hP hD hS hv hl
      refine lv_iload_n hx hb dX0_clear_27 rfl (lv_at hl 2 rfl) ?_
      refine lv_aload_n hx hb dX0_clear_28 rfl (lv_at hl 0 rfl) ?_
      refine va_get (D := D) (ci := 2) (v := .ref h1) (C := RX0) (T := TX0) (N := 6) hx hb hts hi_X0 hown hK hP 0 rfl rfl 0 (by decide) hF9 (fun _ h9 => h9) rfl dX0_clear_29 ?_
      refine va_alen (v := (12 : Int32)) hx hb hK hP 1 0 rfl rfl (by first | rfl | decide) dX0_clear_32 ?_
      refine lv_icmp_ge (tgt := 49) hx hb dX0_clear_33 (by decide) (fun hc => ?_) (fun hc => ?_)
      · have hv := hv.1 hc
        exact hk27_49 _ _ _ _ _ hP hD hS hv (lv_sub hl [0, 1, 2] rfl)
      · have hv := hv.2 hc
        refine lv_aload_n hx hb dX0_clear_36 rfl (lv_at hl 0 rfl) ?_
        refine va_get (D := D) (ci := 2) (v := .ref h1) (C := RX0) (T := TX0) (N := 6) hx hb hts hi_X0 hown hK hP 0 rfl rfl 0 (by decide) hF9 (fun _ h9 => h9) rfl dX0_clear_37 ?_
        refine lv_iload_n hx hb dX0_clear_40 rfl (lv_at hl 2 rfl) ?_
        refine lv_iconst (v := (0 : Int32)) hx hb dX0_clear_41 (by decide) ?_
        obtain ⟨hq, hv⟩ := hv
        refine va_iast hx hb hK hP hD hS 1 0 rfl rfl hq dX0_clear_42 (fun H locs hP hD hS => ?_)
        have hP : va_P D vwCl [(h0, .inr (2, [.ref h1, .int a1, .int (0 : Int32), .int (0 : Int32), .int (0 : Int32), .int (0 : Int32)])), (h1, .inl (cI, 12, .inl (upd z1_0_27 v2_27.toNatClampNeg (0 : Int32))))] H := hP
        have hD : va_D A [(h0, .inr (2, [.ref h1, .int a1, .int (0 : Int32), .int (0 : Int32), .int (0 : Int32), .int (0 : Int32)])), (h1, .inl (cI, 12, .inl (upd z1_0_27 v2_27.toNatClampNeg (0 : Int32))))] := hD
        refine lv_iinc (v := (v2_27 + (1 : Int32))) (lv' := [(2, .int (v2_27 + (1 : Int32))), (0, .ref h0), (1, .int a1)]) hx hb dX0_clear_43 hl (k := 2) rfl rfl (by decide) rfl (fun ls hl => ?_)
        refine lv_goto (tgt := 27) hx hb dX0_clear_46 (by decide) ?_
        exact ih27 _ _ _ _ _ hP hD hS hv (lv_sub hl [1, 2, 0] rfl)
  obtain ⟨n27, hv⟩ := hv
  refine L27 _ (fun v2_27x z1_0_27x H locs ls hP hD hS hv hl => ?_) n27 _ _ _ _ _ hP hD hS hv (lv_sub hl [1, 2, 0] rfl)
  refine W.widen (k := 0) (n := 0) (Nat.le_of_ble_eq_true rfl) (Nat.le_of_ble_eq_true rfl) ?_
  exact W.vret hx hb hr (kWv_ret (u := (a1, (0 : Int32), (0 : Int32), (0 : Int32), (0 : Int32), z1_0_27x)) hv hP hD hS) hS.2.2 dX0_clear_49
set_option maxHeartbeats 4000000 in
set_option maxRecDepth 100000 in
theorem kX0_copyFromW (l : Launch) (D : va_G) (cI cB : ClassId) (h0 : Nat) (h1 : Nat) (h2 : Nat) (h3 : Nat) (kf : Nat → Int32) (kz : Int32) (ks : Int32) (kg : Int32) (k0 : Int32) (k1 : Int32) (jf : Nat → Int32) (jz : Int32) (js : Int32) (jg : Int32) (j0 : Int32) (j1 : Int32)  (sz : Nat) (post : Int32 → Int32 → Int32 → Int32 → Int32 → (Nat → Int32) → Prop) (hv : qX0_copyFromW kf jf jz js jg j0 j1 post) : Met l yX0_copyFrom wsX0_copyFrom ({ frames := 1, cells := 0, slots := 0, locals := 21 }) (va_Pc [.ref h0, .ref h2] (kBW D cI cB sz [(h0, .inr (2, [.ref h1, .int kz, .int ks, .int kg, .int k0, .int k1])), (h1, .inl (cI, 12, .inl kf)), (h2, .inr (2, [.ref h3, .int jz, .int js, .int jg, .int j0, .int j1])), (h3, .inl (cI, 12, .inl jf))])) (va_Qv (fun (u : Int32 × Int32 × Int32 × Int32 × Int32 × (Nat → Int32)) => post u.1 u.2.1 u.2.2.1 u.2.2.2.1 u.2.2.2.2.1 u.2.2.2.2.2) (fun (u : Int32 × Int32 × Int32 × Int32 × Int32 × (Nat → Int32)) (t : State) => kE D (va_A [(h0, .inr (2, [.ref h1, .int kz, .int ks, .int kg, .int k0, .int k1])), (h1, .inl (cI, 12, .inl kf)), (h2, .inr (2, [.ref h3, .int jz, .int js, .int jg, .int j0, .int j1])), (h3, .inl (cI, 12, .inl jf))] sz) [(h0, .inr (2, [.ref h1, .int (u.1), .int (u.2.1), .int (u.2.2.1), .int (u.2.2.2.1), .int (u.2.2.2.2.1)])), (h1, .inl (cI, 12, .inl (u.2.2.2.2.2))), (h2, .inr (2, [.ref h3, .int jz, .int js, .int jg, .int j0, .int j1])), (h3, .inl (cI, 12, .inl jf))] t) (va_A [(h0, .inr (2, [.ref h1, .int kz, .int ks, .int kg, .int k0, .int k1])), (h1, .inl (cI, 12, .inl kf)), (h2, .inr (2, [.ref h3, .int jz, .int js, .int jg, .int j0, .int j1])), (h3, .inl (cI, 12, .inl jf))] sz)) 0 0 (va_A [(h0, .inr (2, [.ref h1, .int kz, .int ks, .int kg, .int k0, .int k1])), (h1, .inl (cI, 12, .inl kf)), (h2, .inr (2, [.ref h3, .int jz, .int js, .int jg, .int j0, .int j1])), (h3, .inl (cI, 12, .inl jf))] sz) := by
  refine Met.ofW (cc := cX0_copyFrom) (maxL := 3) (ret := none) (by decide) rfl ?_
  intro p e s m args below meth c s₁ B hml hv0
  obtain ⟨rfl, hsz, ⟨hP, hK, hN⟩, hD0⟩ := hv0
  have hx := B.exec
  have hb := B.bytes
  have hr := B.returns
  have hts := atoms_spec (ws := wsX0_copyFrom) B.pre
  have hown : s.vm.findClass RX0 = some m.cls := findClass_of_methodNamed B.named
  have hlocks := B.notSynchronized
  have hi_X0 : ∀ w ∈ wsX00, w ∈ wsX0_copyFrom := by decide +kernel
  have hF9 := hts (.fieldLink RX0 9 "Roadgame$Chart" "next" "[I") (by decide +kernel)
  have hF15 := hts (.fieldLink RX0 15 "Roadgame$Chart" "size" "I") (by decide +kernel)
  have hF19 := hts (.fieldLink RX0 19 "Roadgame$Chart" "second" "I") (by decide +kernel)
  have hF22 := hts (.fieldLink RX0 22 "Roadgame$Chart" "goal" "I") (by decide +kernel)
  have hF25 := hts (.fieldLink RX0 25 "Roadgame$Chart" "rankZero" "I") (by decide +kernel)
  have hF28 := hts (.fieldLink RX0 28 "Roadgame$Chart" "rankOne" "I") (by decide +kernel)
  subst hsz
  have hD := hD0.self (sz := s.heap.size)
  generalize hAe : va_A [(h0, .inr (2, [.ref h1, .int kz, .int ks, .int kg, .int k0, .int k1])), (h1, .inl (cI, 12, .inl kf)), (h2, .inr (2, [.ref h3, .int jz, .int js, .int jg, .int j0, .int j1])), (h3, .inl (cI, 12, .inl jf))] s.heap.size = A at hD ⊢
  have hA : ∀ q : Nat, s.heap.size ≤ q → A q := fun q h => by rw [← hAe]; exact Or.inr h
  have hS : va_S A s.heap s.heap [] := va_S.rf
  have hl := lv_entry ([.ref h0, .ref h2]) (n := 3) (Nat.le_of_ble_eq_true rfl)
  rw [lg_entry_eq]
  generalize (lg_sl ([.ref h0, .ref h2]) ++ List.replicate (3 - (lg_sl ([.ref h0, .ref h2])).length) Slot.unset).toArray = ls at hl ⊢
  have hl : lv_has ls 3 [(0, .ref h0), (1, .ref h2)] := hl
  refine lv_aload_n hx hb dX0_copyFrom_0 rfl (lv_at hl 1 rfl) ?_
  refine lv_ifnonnull (tgt := 5) hx hb dX0_copyFrom_1 (by decide) ?_
  refine lv_aload_n hx hb dX0_copyFrom_5 rfl (lv_at hl 0 rfl) ?_
  refine lv_aload_n hx hb dX0_copyFrom_6 rfl (lv_at hl 1 rfl) ?_
  refine va_get (D := D) (ci := 2) (v := .int jz) (C := RX0) (T := TX0) (N := 6) hx hb hts hi_X0 hown hK hP 2 rfl rfl 1 (by decide) hF15 (fun _ h9 => h9) rfl dX0_copyFrom_7 ?_
  refine va_put (D := D) (ci := 2) (v := .int jz) (ty := .int) (C := RX0) (T := TX0) (N := 6) hx hb hts hi_X0 tyX0 tyX0_ok nmX0 hown hK hP hD hS 0 rfl rfl 1 (by decide) hF15 (fun _ h9 => h9) rfl (by decide +kernel) rfl rfl (Nat.le_of_ble_eq_true rfl) dX0_copyFrom_10 (fun H locs hP hD hS => ?_)
  have hP : va_P D vwCl [(h0, .inr (2, [.ref h1, .int jz, .int ks, .int kg, .int k0, .int k1])), (h1, .inl (cI, 12, .inl kf)), (h2, .inr (2, [.ref h3, .int jz, .int js, .int jg, .int j0, .int j1])), (h3, .inl (cI, 12, .inl jf))] H := hP
  have hD : va_D A [(h0, .inr (2, [.ref h1, .int jz, .int ks, .int kg, .int k0, .int k1])), (h1, .inl (cI, 12, .inl kf)), (h2, .inr (2, [.ref h3, .int jz, .int js, .int jg, .int j0, .int j1])), (h3, .inl (cI, 12, .inl jf))] := hD
  refine lv_aload_n hx hb dX0_copyFrom_13 rfl (lv_at hl 0 rfl) ?_
  refine lv_aload_n hx hb dX0_copyFrom_14 rfl (lv_at hl 1 rfl) ?_
  refine va_get (D := D) (ci := 2) (v := .int js) (C := RX0) (T := TX0) (N := 6) hx hb hts hi_X0 hown hK hP 2 rfl rfl 2 (by decide) hF19 (fun _ h9 => h9) rfl dX0_copyFrom_15 ?_
  refine va_put (D := D) (ci := 2) (v := .int js) (ty := .int) (C := RX0) (T := TX0) (N := 6) hx hb hts hi_X0 tyX0 tyX0_ok nmX0 hown hK hP hD hS 0 rfl rfl 2 (by decide) hF19 (fun _ h9 => h9) rfl (by decide +kernel) rfl rfl (Nat.le_of_ble_eq_true rfl) dX0_copyFrom_18 (fun H locs hP hD hS => ?_)
  have hP : va_P D vwCl [(h0, .inr (2, [.ref h1, .int jz, .int js, .int kg, .int k0, .int k1])), (h1, .inl (cI, 12, .inl kf)), (h2, .inr (2, [.ref h3, .int jz, .int js, .int jg, .int j0, .int j1])), (h3, .inl (cI, 12, .inl jf))] H := hP
  have hD : va_D A [(h0, .inr (2, [.ref h1, .int jz, .int js, .int kg, .int k0, .int k1])), (h1, .inl (cI, 12, .inl kf)), (h2, .inr (2, [.ref h3, .int jz, .int js, .int jg, .int j0, .int j1])), (h3, .inl (cI, 12, .inl jf))] := hD
  refine lv_aload_n hx hb dX0_copyFrom_21 rfl (lv_at hl 0 rfl) ?_
  refine lv_aload_n hx hb dX0_copyFrom_22 rfl (lv_at hl 1 rfl) ?_
  refine va_get (D := D) (ci := 2) (v := .int jg) (C := RX0) (T := TX0) (N := 6) hx hb hts hi_X0 hown hK hP 2 rfl rfl 3 (by decide) hF22 (fun _ h9 => h9) rfl dX0_copyFrom_23 ?_
  refine va_put (D := D) (ci := 2) (v := .int jg) (ty := .int) (C := RX0) (T := TX0) (N := 6) hx hb hts hi_X0 tyX0 tyX0_ok nmX0 hown hK hP hD hS 0 rfl rfl 3 (by decide) hF22 (fun _ h9 => h9) rfl (by decide +kernel) rfl rfl (Nat.le_of_ble_eq_true rfl) dX0_copyFrom_26 (fun H locs hP hD hS => ?_)
  have hP : va_P D vwCl [(h0, .inr (2, [.ref h1, .int jz, .int js, .int jg, .int k0, .int k1])), (h1, .inl (cI, 12, .inl kf)), (h2, .inr (2, [.ref h3, .int jz, .int js, .int jg, .int j0, .int j1])), (h3, .inl (cI, 12, .inl jf))] H := hP
  have hD : va_D A [(h0, .inr (2, [.ref h1, .int jz, .int js, .int jg, .int k0, .int k1])), (h1, .inl (cI, 12, .inl kf)), (h2, .inr (2, [.ref h3, .int jz, .int js, .int jg, .int j0, .int j1])), (h3, .inl (cI, 12, .inl jf))] := hD
  refine lv_aload_n hx hb dX0_copyFrom_29 rfl (lv_at hl 0 rfl) ?_
  refine lv_aload_n hx hb dX0_copyFrom_30 rfl (lv_at hl 1 rfl) ?_
  refine va_get (D := D) (ci := 2) (v := .int j0) (C := RX0) (T := TX0) (N := 6) hx hb hts hi_X0 hown hK hP 2 rfl rfl 4 (by decide) hF25 (fun _ h9 => h9) rfl dX0_copyFrom_31 ?_
  refine va_put (D := D) (ci := 2) (v := .int j0) (ty := .int) (C := RX0) (T := TX0) (N := 6) hx hb hts hi_X0 tyX0 tyX0_ok nmX0 hown hK hP hD hS 0 rfl rfl 4 (by decide) hF25 (fun _ h9 => h9) rfl (by decide +kernel) rfl rfl (Nat.le_of_ble_eq_true rfl) dX0_copyFrom_34 (fun H locs hP hD hS => ?_)
  have hP : va_P D vwCl [(h0, .inr (2, [.ref h1, .int jz, .int js, .int jg, .int j0, .int k1])), (h1, .inl (cI, 12, .inl kf)), (h2, .inr (2, [.ref h3, .int jz, .int js, .int jg, .int j0, .int j1])), (h3, .inl (cI, 12, .inl jf))] H := hP
  have hD : va_D A [(h0, .inr (2, [.ref h1, .int jz, .int js, .int jg, .int j0, .int k1])), (h1, .inl (cI, 12, .inl kf)), (h2, .inr (2, [.ref h3, .int jz, .int js, .int jg, .int j0, .int j1])), (h3, .inl (cI, 12, .inl jf))] := hD
  refine lv_aload_n hx hb dX0_copyFrom_37 rfl (lv_at hl 0 rfl) ?_
  refine lv_aload_n hx hb dX0_copyFrom_38 rfl (lv_at hl 1 rfl) ?_
  refine va_get (D := D) (ci := 2) (v := .int j1) (C := RX0) (T := TX0) (N := 6) hx hb hts hi_X0 hown hK hP 2 rfl rfl 5 (by decide) hF28 (fun _ h9 => h9) rfl dX0_copyFrom_39 ?_
  refine va_put (D := D) (ci := 2) (v := .int j1) (ty := .int) (C := RX0) (T := TX0) (N := 6) hx hb hts hi_X0 tyX0 tyX0_ok nmX0 hown hK hP hD hS 0 rfl rfl 5 (by decide) hF28 (fun _ h9 => h9) rfl (by decide +kernel) rfl rfl (Nat.le_of_ble_eq_true rfl) dX0_copyFrom_42 (fun H locs hP hD hS => ?_)
  have hP : va_P D vwCl [(h0, .inr (2, [.ref h1, .int jz, .int js, .int jg, .int j0, .int j1])), (h1, .inl (cI, 12, .inl kf)), (h2, .inr (2, [.ref h3, .int jz, .int js, .int jg, .int j0, .int j1])), (h3, .inl (cI, 12, .inl jf))] H := hP
  have hD : va_D A [(h0, .inr (2, [.ref h1, .int jz, .int js, .int jg, .int j0, .int j1])), (h1, .inl (cI, 12, .inl kf)), (h2, .inr (2, [.ref h3, .int jz, .int js, .int jg, .int j0, .int j1])), (h3, .inl (cI, 12, .inl jf))] := hD
  refine lv_iconst (v := (0 : Int32)) hx hb dX0_copyFrom_45 (by decide) ?_
  refine lv_istore_n (lv' := [(2, .int (0 : Int32)), (0, .ref h0), (1, .ref h2)]) hx hb dX0_copyFrom_46 rfl hl (by decide) rfl (fun ls hl => ?_)
  have L47 : ∀ (K47_73 : Int32 → (Nat → Int32) → Prop), (∀ (v2_47 : Int32) (z1_0_47 : Nat → Int32) (H : Heap) (locs : List Loc) (ls : Array Slot), va_P D vwCl [(h0, .inr (2, [.ref h1, .int jz, .int js, .int jg, .int j0, .int j1])), (h1, .inl (cI, 12, .inl z1_0_47)), (h2, .inr (2, [.ref h3, .int jz, .int js, .int jg, .int j0, .int j1])), (h3, .inl (cI, 12, .inl jf))] H → va_D A [(h0, .inr (2, [.ref h1, .int jz, .int js, .int jg, .int j0, .int j1])), (h1, .inl (cI, 12, .inl z1_0_47)), (h2, .inr (2, [.ref h3, .int jz, .int js, .int jg, .int j0, .int j1])), (h3, .inl (cI, 12, .inl jf))] → va_S A s.heap H locs → K47_73 v2_47 z1_0_47 → lv_has ls 3 [(0, .ref h0), (1, .ref h2), (2, .int v2_47)] → W p l e (headSpec wsX0_copyFrom ({ frames := 1, cells := 0, slots := 0, locals := 21 })).room s m ([.ref h0, .ref h2] : List Value).toArray below meth c H locs 0 0 (MQ below (va_Qv (fun (u : Int32 × Int32 × Int32 × Int32 × Int32 × (Nat → Int32)) => post u.1 u.2.1 u.2.2.1 u.2.2.2.1 u.2.2.2.2.1 u.2.2.2.2.2) (fun (u : Int32 × Int32 × Int32 × Int32 × Int32 × (Nat → Int32)) (t : State) => kE D A [(h0, .inr (2, [.ref h1, .int (u.1), .int (u.2.1), .int (u.2.2.1), .int (u.2.2.2.1), .int (u.2.2.2.2.1)])), (h1, .inl (cI, 12, .inl (u.2.2.2.2.2))), (h2, .inr (2, [.ref h3, .int jz, .int js, .int jg, .int j0, .int j1])), (h3, .inl (cI, 12, .inl jf))] t) A) ([.ref h0, .ref h2] : List Value).toArray s 0 0 A) (F0 m 73 ls [])) → ∀ (n47 : Nat) (v2_47 : Int32) (z1_0_47 : Nat → Int32) (H : Heap) (locs : List Loc) (ls : Array Slot), va_P D vwCl [(h0, .inr (2, [.ref h1, .int jz, .int js, .int jg, .int j0, .int j1])), (h1, .inl (cI, 12, .inl z1_0_47)), (h2, .inr (2, [.ref h3, .int jz, .int js, .int jg, .int j0, .int j1])), (h3, .inl (cI, 12, .inl jf))] H → va_D A [(h0, .inr (2, [.ref h1, .int jz, .int js, .int jg, .int j0, .int j1])), (h1, .inl (cI, 12, .inl z1_0_47)), (h2, .inr (2, [.ref h3, .int jz, .int js, .int jg, .int j0, .int j1])), (h3, .inl (cI, 12, .inl jf))] → va_S A s.heap H locs → qX0_copyFrom_W47 jf K47_73 n47 v2_47 z1_0_47 → lv_has ls 3 [(0, .ref h0), (1, .ref h2), (2, .int v2_47)] → W p l e (headSpec wsX0_copyFrom ({ frames := 1, cells := 0, slots := 0, locals := 21 })).room s m ([.ref h0, .ref h2] : List Value).toArray below meth c H locs 0 0 (MQ below (va_Qv (fun (u : Int32 × Int32 × Int32 × Int32 × Int32 × (Nat → Int32)) => post u.1 u.2.1 u.2.2.1 u.2.2.2.1 u.2.2.2.2.1 u.2.2.2.2.2) (fun (u : Int32 × Int32 × Int32 × Int32 × Int32 × (Nat → Int32)) (t : State) => kE D A [(h0, .inr (2, [.ref h1, .int (u.1), .int (u.2.1), .int (u.2.2.1), .int (u.2.2.2.1), .int (u.2.2.2.2.1)])), (h1, .inl (cI, 12, .inl (u.2.2.2.2.2))), (h2, .inr (2, [.ref h3, .int jz, .int js, .int jg, .int j0, .int j1])), (h3, .inl (cI, 12, .inl jf))] t) A) ([.ref h0, .ref h2] : List Value).toArray s 0 0 A) (F0 m 47 ls []) := by
    intro K47_73 hk47_73
    intro n47
    induction n47 with
    | zero => intro v2_47 z1_0_47 H locs ls hP hD hS hv hl; exact hv.elim
    | succ n47 ih47 =>
      intro v2_47 z1_0_47 H locs ls hP hD hS hv hl
      refine lv_iload_n hx hb dX0_copyFrom_47 rfl (lv_at hl 2 rfl) ?_
      refine lv_aload_n hx hb dX0_copyFrom_48 rfl (lv_at hl 0 rfl) ?_
      refine va_get (D := D) (ci := 2) (v := .ref h1) (C := RX0) (T := TX0) (N := 6) hx hb hts hi_X0 hown hK hP 0 rfl rfl 0 (by decide) hF9 (fun _ h9 => h9) rfl dX0_copyFrom_49 ?_
      refine va_alen (v := (12 : Int32)) hx hb hK hP 1 0 rfl rfl (by first | rfl | decide) dX0_copyFrom_52 ?_
      refine lv_icmp_ge (tgt := 73) hx hb dX0_copyFrom_53 (by decide) (fun hc => ?_) (fun hc => ?_)
      · have hv := hv.1 hc
        exact hk47_73 _ _ _ _ _ hP hD hS hv (lv_sub hl [0, 1, 2] rfl)
      · have hv := hv.2 hc
        refine lv_aload_n hx hb dX0_copyFrom_56 rfl (lv_at hl 0 rfl) ?_
        refine va_get (D := D) (ci := 2) (v := .ref h1) (C := RX0) (T := TX0) (N := 6) hx hb hts hi_X0 hown hK hP 0 rfl rfl 0 (by decide) hF9 (fun _ h9 => h9) rfl dX0_copyFrom_57 ?_
        refine lv_iload_n hx hb dX0_copyFrom_60 rfl (lv_at hl 2 rfl) ?_
        refine lv_aload_n hx hb dX0_copyFrom_61 rfl (lv_at hl 1 rfl) ?_
        refine lv_iload_n hx hb dX0_copyFrom_62 rfl (lv_at hl 2 rfl) ?_
        refine kc_V (As := [.int v2_47]) (rest := [.int v2_47, .ref h1]) ⟨hx, hb, hml, hown, hts⟩ (kX0_waysFrom l D cI cB h2 h3 jf jz js jg j0 j1 v2_47 _ hv) (cwV 1 hts gX0_copyFrom_X0_waysFrom rfl rfl rfl (by decide +kernel) ⟨Nat.le_of_ble_eq_true rfl, Nat.le_of_ble_eq_true rfl⟩) (hP.sub (ws' := [(h2, .inr (2, [.ref h3, .int jz, .int js, .int jg, .int j0, .int j1])), (h3, .inl (cI, 12, .inl jf))]) [2, 3] rfl) hK hN 2 rfl rfl rfl rfl hl.1 rfl (Nat.le_of_ble_eq_true rfl) dX0_copyFrom_63 ⟨Nat.le_of_ble_eq_true rfl, Nat.le_of_ble_eq_true rfl⟩ (fun r63 hv => ?_)
        obtain ⟨hq, hv⟩ := hv
        refine va_iast hx hb hK hP hD hS 1 0 rfl rfl hq dX0_copyFrom_66 (fun H locs hP hD hS => ?_)
        have hP : va_P D vwCl [(h0, .inr (2, [.ref h1, .int jz, .int js, .int jg, .int j0, .int j1])), (h1, .inl (cI, 12, .inl (upd z1_0_47 v2_47.toNatClampNeg r63))), (h2, .inr (2, [.ref h3, .int jz, .int js, .int jg, .int j0, .int j1])), (h3, .inl (cI, 12, .inl jf))] H := hP
        have hD : va_D A [(h0, .inr (2, [.ref h1, .int jz, .int js, .int jg, .int j0, .int j1])), (h1, .inl (cI, 12, .inl (upd z1_0_47 v2_47.toNatClampNeg r63))), (h2, .inr (2, [.ref h3, .int jz, .int js, .int jg, .int j0, .int j1])), (h3, .inl (cI, 12, .inl jf))] := hD
        refine lv_iinc (v := (v2_47 + (1 : Int32))) (lv' := [(2, .int (v2_47 + (1 : Int32))), (0, .ref h0), (1, .ref h2)]) hx hb dX0_copyFrom_67 hl (k := 2) rfl rfl (by decide) rfl (fun ls hl => ?_)
        refine lv_goto (tgt := 47) hx hb dX0_copyFrom_70 (by decide) ?_
        exact ih47 _ _ _ _ _ hP hD hS hv (lv_sub hl [1, 2, 0] rfl)
  obtain ⟨n47, hv⟩ := hv
  refine L47 _ (fun v2_47x z1_0_47x H locs ls hP hD hS hv hl => ?_) n47 _ _ _ _ _ hP hD hS hv (lv_sub hl [1, 2, 0] rfl)
  refine W.widen (k := 0) (n := 0) (Nat.le_of_ble_eq_true rfl) (Nat.le_of_ble_eq_true rfl) ?_
  exact W.vret hx hb hr (kWv_ret (u := (jz, js, jg, j0, j1, z1_0_47x)) hv hP hD hS) hS.2.2 dX0_copyFrom_73
set_option maxHeartbeats 4000000 in
set_option maxRecDepth 100000 in
theorem kX0_initW (l : Launch) (D : va_G) (cI cB : ClassId) (h0 : Nat) (kz : Int32) (ks : Int32) (kg : Int32) (k0 : Int32) (k1 : Int32)  (sz : Nat) (post : Int32 → Int32 → Int32 → Int32 → Int32 → (Nat → Int32) → Prop) (hv : qX0_initW ks kg k0 k1 post) : Met l yX0_init wsX0_init ({ frames := 1, cells := 1, slots := 12, locals := 12 }) (va_Pc [.ref h0] (kBW D cI cB sz [(h0, .inr (2, [.null, .int kz, .int ks, .int kg, .int k0, .int k1]))])) (va_Qv (fun (u : Nat × Int32 × Int32 × Int32 × Int32 × Int32 × (Nat → Int32)) => post u.2.1 u.2.2.1 u.2.2.2.1 u.2.2.2.2.1 u.2.2.2.2.2.1 u.2.2.2.2.2.2) (fun (u : Nat × Int32 × Int32 × Int32 × Int32 × Int32 × (Nat → Int32)) (t : State) => kE D (va_A [(h0, .inr (2, [.null, .int kz, .int ks, .int kg, .int k0, .int k1]))] sz) [(h0, .inr (2, [.ref (u.1), .int (u.2.1), .int (u.2.2.1), .int (u.2.2.2.1), .int (u.2.2.2.2.1), .int (u.2.2.2.2.2.1)])), ((u.1), .inl (cI, 12, .inl (u.2.2.2.2.2.2)))] t) (va_A [(h0, .inr (2, [.null, .int kz, .int ks, .int kg, .int k0, .int k1]))] sz)) 1 12 (va_A [(h0, .inr (2, [.null, .int kz, .int ks, .int kg, .int k0, .int k1]))] sz) := by
  refine Met.ofW (cc := cX0_init) (maxL := 1) (ret := none) (by decide) rfl ?_
  intro p e s m args below meth c s₁ B hml hv0
  obtain ⟨rfl, hsz, ⟨hP, hK, hN⟩, hD0⟩ := hv0
  have hx := B.exec
  have hb := B.bytes
  have hr := B.returns
  have hts := atoms_spec (ws := wsX0_init) B.pre
  have hown : s.vm.findClass RX0 = some m.cls := findClass_of_methodNamed B.named
  have hlocks := B.notSynchronized
  have hin : meth.name = "<init>" := (name_of_methodNamed B.named B.method).1
  have hi_X0 : ∀ w ∈ wsX00, w ∈ wsX0_init := by decide +kernel
  have hF9 := hts (.fieldLink RX0 9 "Roadgame$Chart" "next" "[I") (by decide +kernel)
  have hF15 := hts (.fieldLink RX0 15 "Roadgame$Chart" "size" "I") (by decide +kernel)
  subst hsz
  have hD := hD0.self (sz := s.heap.size)
  generalize hAe : va_A [(h0, .inr (2, [.null, .int kz, .int ks, .int kg, .int k0, .int k1]))] s.heap.size = A at hD ⊢
  have hA : ∀ q : Nat, s.heap.size ≤ q → A q := fun q h => by rw [← hAe]; exact Or.inr h
  have hS : va_S A s.heap s.heap [] := va_S.rf
  have hl := lv_entry ([.ref h0]) (n := 1) (Nat.le_of_ble_eq_true rfl)
  rw [lg_entry_eq]
  generalize (lg_sl ([.ref h0]) ++ List.replicate (1 - (lg_sl ([.ref h0])).length) Slot.unset).toArray = ls at hl ⊢
  have hl : lv_has ls 1 [(0, .ref h0)] := hl
  refine lv_aload_n hx hb dX0_init_0 rfl (lv_at hl 0 rfl) ?_
  refine W.objInit hx hb hown (hts (.methodLink RX0 3 objectInit) (by decide +kernel)) (hts (.instanceMethod objectInit) (by decide +kernel)) (hts (.code objectInit ⟨#[0xb1]⟩ 1 none) (by decide +kernel)) rfl (by rw [hml]; exact hl.1) rfl dX0_init_1 (Nat.le_of_ble_eq_true rfl) (Nat.le_of_ble_eq_true rfl) ?_
  refine W.eq (g2 := F0 m 4 ls _) rfl ?_
  refine lv_aload_n hx hb dX0_init_4 rfl (lv_at hl 0 rfl) ?_
  refine lv_bipush (v := (12 : Int32)) hx hb dX0_init_5 (by decide) ?_
  refine va_newa (atype := .int) (ty := .int) (N' := 12) (a0 := (12, .inl (fun _ => (0 : Int32)))) hx hb (hts (.arrayClass .int) (by decide +kernel)) rfl hK hP hD hS hA (fun _ => rfl) (by decide) (by decide) (Nat.le_of_ble_eq_true rfl) (Nat.le_of_ble_eq_true rfl) (Nat.le_of_ble_eq_true rfl) dX0_init_7 (fun w7 cA H hK2 hP hD hS => ?_)
  have hcA := kSameI hK hK2
  subst hcA
  have hP : va_P D vwCl [(h0, .inr (2, [.null, .int kz, .int ks, .int kg, .int k0, .int k1])), (w7, .inl (cI, 12, .inl (fun _ => (0 : Int32))))] H := hP
  have hD : va_D A [(h0, .inr (2, [.null, .int kz, .int ks, .int kg, .int k0, .int k1])), (w7, .inl (cI, 12, .inl (fun _ => (0 : Int32))))] := hD
  refine W.widen (k := 1) (n := 12) (Nat.le_of_ble_eq_true rfl) (Nat.le_of_ble_eq_true rfl) ?_
  refine va_putF (D := D) (ci := 2) (v := .ref w7) (ty := .array .int) (C := RX0) (T := TX0) (N := 6) hx hb hts hi_X0 tyX0 tyX0_ok nmX0 hown hK hP hD hS 0 rfl rfl 0 (by decide) hF9 (fun _ h9 => h9) rfl hin rfl (by decide +kernel) rfl rfl (Nat.le_of_ble_eq_true rfl) dX0_init_9 (fun H locs hP hD hS => ?_)
  have hP : va_P D vwCl [(h0, .inr (2, [.ref w7, .int kz, .int ks, .int kg, .int k0, .int k1])), (w7, .inl (cI, 12, .inl (fun _ => (0 : Int32))))] H := hP
  have hD : va_D A [(h0, .inr (2, [.ref w7, .int kz, .int ks, .int kg, .int k0, .int k1])), (w7, .inl (cI, 12, .inl (fun _ => (0 : Int32))))] := hD
  refine lv_aload_n hx hb dX0_init_12 rfl (lv_at hl 0 rfl) ?_
  refine lv_bipush (v := (6 : Int32)) hx hb dX0_init_13 (by decide) ?_
  refine va_put (D := D) (ci := 2) (v := .int (6 : Int32)) (ty := .int) (C := RX0) (T := TX0) (N := 6) hx hb hts hi_X0 tyX0 tyX0_ok nmX0 hown hK hP hD hS 0 rfl rfl 1 (by decide) hF15 (fun _ h9 => h9) rfl (by decide +kernel) rfl rfl (Nat.le_of_ble_eq_true rfl) dX0_init_15 (fun H locs hP hD hS => ?_)
  have hP : va_P D vwCl [(h0, .inr (2, [.ref w7, .int (6 : Int32), .int ks, .int kg, .int k0, .int k1])), (w7, .inl (cI, 12, .inl (fun _ => (0 : Int32))))] H := hP
  have hD : va_D A [(h0, .inr (2, [.ref w7, .int (6 : Int32), .int ks, .int kg, .int k0, .int k1])), (w7, .inl (cI, 12, .inl (fun _ => (0 : Int32))))] := hD
  refine W.widen (k := 1) (n := 12) (Nat.le_of_ble_eq_true rfl) (Nat.le_of_ble_eq_true rfl) ?_
  have hP : va_P D vwCl [(h0, .inr (2, [.ref w7, .int (6 : Int32), .int ks, .int kg, .int k0, .int k1])), (w7, .inl (cI, 12, .inl (fun _ => (0 : Int32))))] _ := hP.sub [0, 1] rfl
  have hD : va_D A [(h0, .inr (2, [.ref w7, .int (6 : Int32), .int ks, .int kg, .int k0, .int k1])), (w7, .inl (cI, 12, .inl (fun _ => (0 : Int32))))] := hD.sub [0, 1] (by decide) rfl
  exact W.vret hx hb hr (kWv_ret (u := (w7, (6 : Int32), ks, kg, k0, k1, (fun _ => (0 : Int32)))) (w1 := fun (u : Nat × Int32 × Int32 × Int32 × Int32 × Int32 × (Nat → Int32)) => [(h0, .inr (2, [.ref (u.1), .int (u.2.1), .int (u.2.2.1), .int (u.2.2.2.1), .int (u.2.2.2.2.1), .int (u.2.2.2.2.2.1)])), ((u.1), .inl (cI, 12, .inl (u.2.2.2.2.2.2)))]) (by exact hv) hP hD hS) hS.2.2 dX0_init_18
