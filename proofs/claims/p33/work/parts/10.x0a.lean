/-! walks by program (wip/gen): X1_has, X1_member, X1_least, J6_bitCount_0f7a4, X0_all, X0_wrapped, X0_sideOf, X0_placesOf, X0_rankOf, X0_waysFrom, X0_waysInto, X0_countWays, X0_countWithoutWays, X0_countChoices, X0_seenBefore -/
set_option maxHeartbeats 4000000 in
set_option maxRecDepth 100000 in
theorem kX1_has (l : Launch) (D : va_G) (cI cB : ClassId)   (a0 : Int32) (a1 : Int32) (post : Int32 → Prop) (hv : qX1_has a0 a1 post) : Met l yX1_has wsX1_has ({ frames := 0, cells := 0, slots := 0, locals := 0 }) (va_Pc [.int a0, .int a1] (kB D cI cB [])) (vp_Si post) 0 0 (fun _ => False) := by
  refine Met.ofW (cc := cX1_has) (maxL := 2) (ret := (some .boolean)) (by decide) rfl ?_
  intro p e s m args below meth c s₁ B hml hv0
  obtain ⟨rfl, hP, hK, hN⟩ := hv0
  have hx := B.exec
  have hb := B.bytes
  have hr := B.returns
  have hts := atoms_spec (ws := wsX1_has) B.pre
  have hown : s.vm.findClass RX1 = some m.cls := findClass_of_methodNamed B.named
  have hlocks := B.notSynchronized
  have hl := lv_entry ([.int a0, .int a1]) (n := 2) (Nat.le_of_ble_eq_true rfl)
  rw [lg_entry_eq]
  generalize (lg_sl ([.int a0, .int a1]) ++ List.replicate (2 - (lg_sl ([.int a0, .int a1])).length) Slot.unset).toArray = ls at hl ⊢
  have hl : lv_has ls 2 [(0, .int a0), (1, .int a1)] := hl
  refine lv_iload_n hx hb dX1_has_0 rfl (lv_at hl 0 rfl) ?_
  refine lv_iload_n hx hb dX1_has_1 rfl (lv_at hl 1 rfl) ?_
  refine lv_ishr hx hb dX1_has_2 ?_
  refine lv_iconst (v := (1 : Int32)) hx hb dX1_has_3 (by decide) ?_
  refine lv_iand hx hb dX1_has_4 ?_
  refine lv_if_eq (tgt := 12) hx hb dX1_has_5 (by decide) (fun hc => ?_) (fun hc => ?_)
  · have hv := hv.1 hc
    refine lv_iconst (v := (0 : Int32)) hx hb dX1_has_12 (by decide) ?_
    exact W.zret (v := (0 : Int32)) (ty := .boolean) hx hb hr rfl (kSi_ret rfl hv) (fun _ h => by cases h) dX1_has_13
  · have hv := hv.2 hc
    refine lv_iconst (v := (1 : Int32)) hx hb dX1_has_8 (by decide) ?_
    refine lv_goto (tgt := 13) hx hb dX1_has_9 (by decide) ?_
    exact W.zret (v := (1 : Int32)) (ty := .boolean) hx hb hr rfl (kSi_ret rfl hv) (fun _ h => by cases h) dX1_has_13
set_option maxHeartbeats 4000000 in
set_option maxRecDepth 100000 in
theorem kX1_member (l : Launch) (D : va_G) (cI cB : ClassId)   (a0 : Int32) (a1 : Int32) (post : Int32 → Prop) (hv : qX1_member a0 a1 post) : Met l yX1_member wsX1_member ({ frames := 1, cells := 0, slots := 0, locals := 21 }) (va_Pc [.int a0, .int a1] (kB D cI cB [])) (vp_Si post) 0 0 (fun _ => False) := by
  refine Met.ofW (cc := cX1_member) (maxL := 4) (ret := (some .int)) (by decide) rfl ?_
  intro p e s m args below meth c s₁ B hml hv0
  obtain ⟨rfl, hP, hK, hN⟩ := hv0
  have hx := B.exec
  have hb := B.bytes
  have hr := B.returns
  have hts := atoms_spec (ws := wsX1_member) B.pre
  have hown : s.vm.findClass RX1 = some m.cls := findClass_of_methodNamed B.named
  have hlocks := B.notSynchronized
  have hl := lv_entry ([.int a0, .int a1]) (n := 4) (Nat.le_of_ble_eq_true rfl)
  rw [lg_entry_eq]
  generalize (lg_sl ([.int a0, .int a1]) ++ List.replicate (4 - (lg_sl ([.int a0, .int a1])).length) Slot.unset).toArray = ls at hl ⊢
  have hl : lv_has ls 4 [(0, .int a0), (1, .int a1)] := hl
  refine lv_iload_n hx hb dX1_member_0 rfl (lv_at hl 1 rfl) ?_
  refine lv_istore_n (lv' := [(2, .int a1), (0, .int a0), (1, .int a1)]) hx hb dX1_member_1 rfl hl (by decide) rfl (fun ls hl => ?_)
  refine lv_iconst (v := (0 : Int32)) hx hb dX1_member_2 (by decide) ?_
  refine lv_istore_n (lv' := [(3, .int (0 : Int32)), (2, .int a1), (0, .int a0), (1, .int a1)]) hx hb dX1_member_3 rfl hl (by decide) rfl (fun ls hl => ?_)
  have L4 : ∀ (K4_33 : Int32 → Int32 → Prop), (∀ (v2_4 : Int32) (v3_4 : Int32) (ls : Array Slot), K4_33 v2_4 v3_4 → lv_has ls 4 [(0, .int a0), (1, .int a1), (2, .int v2_4), (3, .int v3_4)] → W p l e (headSpec wsX1_member ({ frames := 1, cells := 0, slots := 0, locals := 21 })).room s m ([.int a0, .int a1] : List Value).toArray below meth c s.heap [] 0 0 (MQ below (vp_Si post) ([.int a0, .int a1] : List Value).toArray s 0 0 (fun _ => False)) (F0 m 33 ls [])) → ∀ (n4 : Nat) (v2_4 : Int32) (v3_4 : Int32) (ls : Array Slot), qX1_member_4 a0 K4_33 post n4 v2_4 v3_4 → lv_has ls 4 [(0, .int a0), (1, .int a1), (2, .int v2_4), (3, .int v3_4)] → W p l e (headSpec wsX1_member ({ frames := 1, cells := 0, slots := 0, locals := 21 })).room s m ([.int a0, .int a1] : List Value).toArray below meth c s.heap [] 0 0 (MQ below (vp_Si post) ([.int a0, .int a1] : List Value).toArray s 0 0 (fun _ => False)) (F0 m 4 ls []) := by
    intro K4_33 hk4_33
    intro n4
    induction n4 with
    | zero => intro v2_4 v3_4 ls hv hl; exact hv.elim
    | succ n4 ih4 =>
      intro v2_4 v3_4 ls hv hl
      refine lv_iload_n hx hb dX1_member_4 rfl (lv_at hl 3 rfl) ?_
      refine lv_bipush (v := (12 : Int32)) hx hb dX1_member_5 (by decide) ?_
      refine lv_icmp_ge (tgt := 33) hx hb dX1_member_7 (by decide) (fun hc => ?_) (fun hc => ?_)
      · have hv := hv.1 hc
        exact hk4_33 _ _ ls hv (lv_sub hl [0, 1, 2, 3] rfl)
      · have hv := hv.2 hc
        refine lv_iload_n hx hb dX1_member_10 rfl (lv_at hl 0 rfl) ?_
        refine lv_iload_n hx hb dX1_member_11 rfl (lv_at hl 3 rfl) ?_
        refine kc_S (As := [.int a0, .int v3_4]) (rest := []) ⟨hx, hb, hml, hown, hts⟩ (kX1_has l D cI cB a0 v3_4 _ hv) (va_cwS 2 hts gX1_member_X1_has rfl rfl rfl (by decide +kernel) ⟨Nat.le_of_ble_eq_true rfl, Nat.le_of_ble_eq_true rfl⟩) hP hK hN rfl hl.1 rfl (Nat.le_of_ble_eq_true rfl) dX1_member_12 ⟨Nat.zero_le _, Nat.zero_le _⟩ (fun r12 hv => ?_)
        refine lv_if_eq (tgt := 27) hx hb dX1_member_15 (by decide) (fun hc => ?_) (fun hc => ?_)
        · have hv := hv.1 hc
          refine lv_iinc (v := (v3_4 + (1 : Int32))) (lv' := [(3, .int (v3_4 + (1 : Int32))), (0, .int a0), (1, .int a1), (2, .int v2_4)]) hx hb dX1_member_27 hl (k := 3) rfl rfl (by decide) rfl (fun ls hl => ?_)
          refine lv_goto (tgt := 4) hx hb dX1_member_30 (by decide) ?_
          exact ih4 _ _ ls hv (lv_sub hl [1, 2, 3, 0] rfl)
        · have hv := hv.2 hc
          refine lv_iload_n hx hb dX1_member_18 rfl (lv_at hl 2 rfl) ?_
          refine lv_if_ne (tgt := 24) hx hb dX1_member_19 (by decide) (fun hc => ?_) (fun hc => ?_)
          · have hv := hv.1 hc
            refine lv_iinc (v := (v2_4 + (-1 : Int32))) (lv' := [(2, .int (v2_4 + (-1 : Int32))), (0, .int a0), (1, .int a1), (3, .int v3_4)]) hx hb dX1_member_24 hl (k := 2) rfl rfl (by decide) rfl (fun ls hl => ?_)
            refine lv_iinc (v := (v3_4 + (1 : Int32))) (lv' := [(3, .int (v3_4 + (1 : Int32))), (2, .int (v2_4 + (-1 : Int32))), (0, .int a0), (1, .int a1)]) hx hb dX1_member_27 hl (k := 3) rfl rfl (by decide) rfl (fun ls hl => ?_)
            refine lv_goto (tgt := 4) hx hb dX1_member_30 (by decide) ?_
            exact ih4 _ _ ls hv (lv_sub hl [2, 3, 1, 0] rfl)
          · have hv := hv.2 hc
            refine lv_iload_n hx hb dX1_member_22 rfl (lv_at hl 3 rfl) ?_
            exact W.iret (v := v3_4) hx hb hr (kSi_ret rfl hv) (fun _ h => by cases h) dX1_member_23
  obtain ⟨n4, hv⟩ := hv
  refine L4 _ (fun v2_4x v3_4x ls hv hl => ?_) n4 _ _ _ hv (lv_sub hl [2, 3, 1, 0] rfl)
  refine lv_iconst (v := (-1 : Int32)) hx hb dX1_member_33 (by decide) ?_
  exact W.iret (v := (-1 : Int32)) hx hb hr (kSi_ret rfl hv) (fun _ h => by cases h) dX1_member_34
set_option maxHeartbeats 4000000 in
set_option maxRecDepth 100000 in
theorem kX1_least (l : Launch) (D : va_G) (cI cB : ClassId)   (a0 : Int32) (post : Int32 → Prop) (hv : qX1_least a0 post) : Met l yX1_least wsX1_least ({ frames := 2, cells := 0, slots := 0, locals := 44 }) (va_Pc [.int a0] (kB D cI cB [])) (vp_Si post) 0 0 (fun _ => False) := by
  refine Met.ofW (cc := cX1_least) (maxL := 1) (ret := (some .int)) (by decide) rfl ?_
  intro p e s m args below meth c s₁ B hml hv0
  obtain ⟨rfl, hP, hK, hN⟩ := hv0
  have hx := B.exec
  have hb := B.bytes
  have hr := B.returns
  have hts := atoms_spec (ws := wsX1_least) B.pre
  have hown : s.vm.findClass RX1 = some m.cls := findClass_of_methodNamed B.named
  have hlocks := B.notSynchronized
  have hl := lv_entry ([.int a0]) (n := 1) (Nat.le_of_ble_eq_true rfl)
  rw [lg_entry_eq]
  generalize (lg_sl ([.int a0]) ++ List.replicate (1 - (lg_sl ([.int a0])).length) Slot.unset).toArray = ls at hl ⊢
  have hl : lv_has ls 1 [(0, .int a0)] := hl
  refine lv_iload_n hx hb dX1_least_0 rfl (lv_at hl 0 rfl) ?_
  refine lv_iconst (v := (0 : Int32)) hx hb dX1_least_1 (by decide) ?_
  refine kc_S (As := [.int a0, .int (0 : Int32)]) (rest := []) ⟨hx, hb, hml, hown, hts⟩ (kX1_member l D cI cB a0 (0 : Int32) _ hv) (va_cwS 2 hts gX1_least_X1_member rfl rfl rfl (by decide +kernel) ⟨Nat.le_of_ble_eq_true rfl, Nat.le_of_ble_eq_true rfl⟩) hP hK hN rfl hl.1 rfl (Nat.le_of_ble_eq_true rfl) dX1_least_2 ⟨Nat.zero_le _, Nat.zero_le _⟩ (fun r2 hv => ?_)
  exact W.iret (v := r2) hx hb hr (kSi_ret rfl hv) (fun _ h => by cases h) dX1_least_5
set_option maxHeartbeats 4000000 in
set_option maxRecDepth 100000 in
theorem kJ6_bitCount_0f7a4 (l : Launch) (D : va_G) (cI cB : ClassId)   (a0 : Int32) (post : Int32 → Prop) (hv : qJ6_bitCount_0f7a4 a0 post) : Met l yJ6_bitCount_0f7a4 wsJ6_bitCount_0f7a4 ({ frames := 0, cells := 0, slots := 0, locals := 0 }) (va_Pc [.int a0] (kB D cI cB [])) (vp_Si post) 0 0 (fun _ => False) := by
  refine Met.ofW (cc := cJ6_bitCount_0f7a4) (maxL := 1) (ret := (some .int)) (by decide) rfl ?_
  intro p e s m args below meth c s₁ B hml hv0
  obtain ⟨rfl, hP, hK, hN⟩ := hv0
  have hx := B.exec
  have hb := B.bytes
  have hr := B.returns
  have hts := atoms_spec (ws := wsJ6_bitCount_0f7a4) B.pre
  have hown : s.vm.findClass RJ6 = some m.cls := findClass_of_methodNamed B.named
  have hlocks := B.notSynchronized
  have hC265 := hts (.constant RJ6 265 (1431655765 : Int32)) (by decide +kernel)
  have hC266 := hts (.constant RJ6 266 (858993459 : Int32)) (by decide +kernel)
  have hC267 := hts (.constant RJ6 267 (252645135 : Int32)) (by decide +kernel)
  have hl := lv_entry ([.int a0]) (n := 1) (Nat.le_of_ble_eq_true rfl)
  rw [lg_entry_eq]
  generalize (lg_sl ([.int a0]) ++ List.replicate (1 - (lg_sl ([.int a0])).length) Slot.unset).toArray = ls at hl ⊢
  have hl : lv_has ls 1 [(0, .int a0)] := hl
  refine lv_iload_n hx hb dJ6_bitCount_0f7a4_0 rfl (lv_at hl 0 rfl) ?_
  refine lv_iload_n hx hb dJ6_bitCount_0f7a4_1 rfl (lv_at hl 0 rfl) ?_
  refine lv_iconst (v := (1 : Int32)) hx hb dJ6_bitCount_0f7a4_2 (by decide) ?_
  refine lv_iushr hx hb dJ6_bitCount_0f7a4_3 rfl ?_
  refine lv_ldcw (v := (1431655765 : Int32)) hx hb hown hC265 dJ6_bitCount_0f7a4_4 ?_
  refine lv_iand hx hb dJ6_bitCount_0f7a4_7 ?_
  refine lv_isub hx hb dJ6_bitCount_0f7a4_8 ?_
  refine lv_istore_n (lv' := [(0, .int (a0 - ((a0.toUInt32 >>> ((1 : Int32).toUInt32 &&& Int32.toUInt32 31)).toInt32 &&& (1431655765 : Int32))))]) hx hb dJ6_bitCount_0f7a4_9 rfl hl (by decide) rfl (fun ls hl => ?_)
  refine lv_iload_n hx hb dJ6_bitCount_0f7a4_10 rfl (lv_at hl 0 rfl) ?_
  refine lv_ldcw (v := (858993459 : Int32)) hx hb hown hC266 dJ6_bitCount_0f7a4_11 ?_
  refine lv_iand hx hb dJ6_bitCount_0f7a4_14 ?_
  refine lv_iload_n hx hb dJ6_bitCount_0f7a4_15 rfl (lv_at hl 0 rfl) ?_
  refine lv_iconst (v := (2 : Int32)) hx hb dJ6_bitCount_0f7a4_16 (by decide) ?_
  refine lv_iushr hx hb dJ6_bitCount_0f7a4_17 rfl ?_
  refine lv_ldcw (v := (858993459 : Int32)) hx hb hown hC266 dJ6_bitCount_0f7a4_18 ?_
  refine lv_iand hx hb dJ6_bitCount_0f7a4_21 ?_
  refine lv_iadd hx hb dJ6_bitCount_0f7a4_22 ?_
  refine lv_istore_n (lv' := [(0, .int (((a0 - ((a0.toUInt32 >>> ((1 : Int32).toUInt32 &&& Int32.toUInt32 31)).toInt32 &&& (1431655765 : Int32))) &&& (858993459 : Int32)) + (((a0 - ((a0.toUInt32 >>> ((1 : Int32).toUInt32 &&& Int32.toUInt32 31)).toInt32 &&& (1431655765 : Int32))).toUInt32 >>> ((2 : Int32).toUInt32 &&& Int32.toUInt32 31)).toInt32 &&& (858993459 : Int32))))]) hx hb dJ6_bitCount_0f7a4_23 rfl hl (by decide) rfl (fun ls hl => ?_)
  refine lv_iload_n hx hb dJ6_bitCount_0f7a4_24 rfl (lv_at hl 0 rfl) ?_
  refine lv_iload_n hx hb dJ6_bitCount_0f7a4_25 rfl (lv_at hl 0 rfl) ?_
  refine lv_iconst (v := (4 : Int32)) hx hb dJ6_bitCount_0f7a4_26 (by decide) ?_
  refine lv_iushr hx hb dJ6_bitCount_0f7a4_27 rfl ?_
  refine lv_iadd hx hb dJ6_bitCount_0f7a4_28 ?_
  refine lv_ldcw (v := (252645135 : Int32)) hx hb hown hC267 dJ6_bitCount_0f7a4_29 ?_
  refine lv_iand hx hb dJ6_bitCount_0f7a4_32 ?_
  refine lv_istore_n (lv' := [(0, .int (((((a0 - ((a0.toUInt32 >>> ((1 : Int32).toUInt32 &&& Int32.toUInt32 31)).toInt32 &&& (1431655765 : Int32))) &&& (858993459 : Int32)) + (((a0 - ((a0.toUInt32 >>> ((1 : Int32).toUInt32 &&& Int32.toUInt32 31)).toInt32 &&& (1431655765 : Int32))).toUInt32 >>> ((2 : Int32).toUInt32 &&& Int32.toUInt32 31)).toInt32 &&& (858993459 : Int32))) + ((((a0 - ((a0.toUInt32 >>> ((1 : Int32).toUInt32 &&& Int32.toUInt32 31)).toInt32 &&& (1431655765 : Int32))) &&& (858993459 : Int32)) + (((a0 - ((a0.toUInt32 >>> ((1 : Int32).toUInt32 &&& Int32.toUInt32 31)).toInt32 &&& (1431655765 : Int32))).toUInt32 >>> ((2 : Int32).toUInt32 &&& Int32.toUInt32 31)).toInt32 &&& (858993459 : Int32))).toUInt32 >>> ((4 : Int32).toUInt32 &&& Int32.toUInt32 31)).toInt32) &&& (252645135 : Int32)))]) hx hb dJ6_bitCount_0f7a4_33 rfl hl (by decide) rfl (fun ls hl => ?_)
  refine lv_iload_n hx hb dJ6_bitCount_0f7a4_34 rfl (lv_at hl 0 rfl) ?_
  refine lv_iload_n hx hb dJ6_bitCount_0f7a4_35 rfl (lv_at hl 0 rfl) ?_
  refine lv_bipush (v := (8 : Int32)) hx hb dJ6_bitCount_0f7a4_36 (by decide) ?_
  refine lv_iushr hx hb dJ6_bitCount_0f7a4_38 rfl ?_
  refine lv_iadd hx hb dJ6_bitCount_0f7a4_39 ?_
  refine lv_istore_n (lv' := [(0, .int ((((((a0 - ((a0.toUInt32 >>> ((1 : Int32).toUInt32 &&& Int32.toUInt32 31)).toInt32 &&& (1431655765 : Int32))) &&& (858993459 : Int32)) + (((a0 - ((a0.toUInt32 >>> ((1 : Int32).toUInt32 &&& Int32.toUInt32 31)).toInt32 &&& (1431655765 : Int32))).toUInt32 >>> ((2 : Int32).toUInt32 &&& Int32.toUInt32 31)).toInt32 &&& (858993459 : Int32))) + ((((a0 - ((a0.toUInt32 >>> ((1 : Int32).toUInt32 &&& Int32.toUInt32 31)).toInt32 &&& (1431655765 : Int32))) &&& (858993459 : Int32)) + (((a0 - ((a0.toUInt32 >>> ((1 : Int32).toUInt32 &&& Int32.toUInt32 31)).toInt32 &&& (1431655765 : Int32))).toUInt32 >>> ((2 : Int32).toUInt32 &&& Int32.toUInt32 31)).toInt32 &&& (858993459 : Int32))).toUInt32 >>> ((4 : Int32).toUInt32 &&& Int32.toUInt32 31)).toInt32) &&& (252645135 : Int32)) + ((((((a0 - ((a0.toUInt32 >>> ((1 : Int32).toUInt32 &&& Int32.toUInt32 31)).toInt32 &&& (1431655765 : Int32))) &&& (858993459 : Int32)) + (((a0 - ((a0.toUInt32 >>> ((1 : Int32).toUInt32 &&& Int32.toUInt32 31)).toInt32 &&& (1431655765 : Int32))).toUInt32 >>> ((2 : Int32).toUInt32 &&& Int32.toUInt32 31)).toInt32 &&& (858993459 : Int32))) + ((((a0 - ((a0.toUInt32 >>> ((1 : Int32).toUInt32 &&& Int32.toUInt32 31)).toInt32 &&& (1431655765 : Int32))) &&& (858993459 : Int32)) + (((a0 - ((a0.toUInt32 >>> ((1 : Int32).toUInt32 &&& Int32.toUInt32 31)).toInt32 &&& (1431655765 : Int32))).toUInt32 >>> ((2 : Int32).toUInt32 &&& Int32.toUInt32 31)).toInt32 &&& (858993459 : Int32))).toUInt32 >>> ((4 : Int32).toUInt32 &&& Int32.toUInt32 31)).toInt32) &&& (252645135 : Int32)).toUInt32 >>> ((8 : Int32).toUInt32 &&& Int32.toUInt32 31)).toInt32))]) hx hb dJ6_bitCount_0f7a4_40 rfl hl (by decide) rfl (fun ls hl => ?_)
  refine lv_iload_n hx hb dJ6_bitCount_0f7a4_41 rfl (lv_at hl 0 rfl) ?_
  refine lv_iload_n hx hb dJ6_bitCount_0f7a4_42 rfl (lv_at hl 0 rfl) ?_
  refine lv_bipush (v := (16 : Int32)) hx hb dJ6_bitCount_0f7a4_43 (by decide) ?_
  refine lv_iushr hx hb dJ6_bitCount_0f7a4_45 rfl ?_
  refine lv_iadd hx hb dJ6_bitCount_0f7a4_46 ?_
  refine lv_istore_n (lv' := [(0, .int (((((((a0 - ((a0.toUInt32 >>> ((1 : Int32).toUInt32 &&& Int32.toUInt32 31)).toInt32 &&& (1431655765 : Int32))) &&& (858993459 : Int32)) + (((a0 - ((a0.toUInt32 >>> ((1 : Int32).toUInt32 &&& Int32.toUInt32 31)).toInt32 &&& (1431655765 : Int32))).toUInt32 >>> ((2 : Int32).toUInt32 &&& Int32.toUInt32 31)).toInt32 &&& (858993459 : Int32))) + ((((a0 - ((a0.toUInt32 >>> ((1 : Int32).toUInt32 &&& Int32.toUInt32 31)).toInt32 &&& (1431655765 : Int32))) &&& (858993459 : Int32)) + (((a0 - ((a0.toUInt32 >>> ((1 : Int32).toUInt32 &&& Int32.toUInt32 31)).toInt32 &&& (1431655765 : Int32))).toUInt32 >>> ((2 : Int32).toUInt32 &&& Int32.toUInt32 31)).toInt32 &&& (858993459 : Int32))).toUInt32 >>> ((4 : Int32).toUInt32 &&& Int32.toUInt32 31)).toInt32) &&& (252645135 : Int32)) + ((((((a0 - ((a0.toUInt32 >>> ((1 : Int32).toUInt32 &&& Int32.toUInt32 31)).toInt32 &&& (1431655765 : Int32))) &&& (858993459 : Int32)) + (((a0 - ((a0.toUInt32 >>> ((1 : Int32).toUInt32 &&& Int32.toUInt32 31)).toInt32 &&& (1431655765 : Int32))).toUInt32 >>> ((2 : Int32).toUInt32 &&& Int32.toUInt32 31)).toInt32 &&& (858993459 : Int32))) + ((((a0 - ((a0.toUInt32 >>> ((1 : Int32).toUInt32 &&& Int32.toUInt32 31)).toInt32 &&& (1431655765 : Int32))) &&& (858993459 : Int32)) + (((a0 - ((a0.toUInt32 >>> ((1 : Int32).toUInt32 &&& Int32.toUInt32 31)).toInt32 &&& (1431655765 : Int32))).toUInt32 >>> ((2 : Int32).toUInt32 &&& Int32.toUInt32 31)).toInt32 &&& (858993459 : Int32))).toUInt32 >>> ((4 : Int32).toUInt32 &&& Int32.toUInt32 31)).toInt32) &&& (252645135 : Int32)).toUInt32 >>> ((8 : Int32).toUInt32 &&& Int32.toUInt32 31)).toInt32) + (((((((a0 - ((a0.toUInt32 >>> ((1 : Int32).toUInt32 &&& Int32.toUInt32 31)).toInt32 &&& (1431655765 : Int32))) &&& (858993459 : Int32)) + (((a0 - ((a0.toUInt32 >>> ((1 : Int32).toUInt32 &&& Int32.toUInt32 31)).toInt32 &&& (1431655765 : Int32))).toUInt32 >>> ((2 : Int32).toUInt32 &&& Int32.toUInt32 31)).toInt32 &&& (858993459 : Int32))) + ((((a0 - ((a0.toUInt32 >>> ((1 : Int32).toUInt32 &&& Int32.toUInt32 31)).toInt32 &&& (1431655765 : Int32))) &&& (858993459 : Int32)) + (((a0 - ((a0.toUInt32 >>> ((1 : Int32).toUInt32 &&& Int32.toUInt32 31)).toInt32 &&& (1431655765 : Int32))).toUInt32 >>> ((2 : Int32).toUInt32 &&& Int32.toUInt32 31)).toInt32 &&& (858993459 : Int32))).toUInt32 >>> ((4 : Int32).toUInt32 &&& Int32.toUInt32 31)).toInt32) &&& (252645135 : Int32)) + ((((((a0 - ((a0.toUInt32 >>> ((1 : Int32).toUInt32 &&& Int32.toUInt32 31)).toInt32 &&& (1431655765 : Int32))) &&& (858993459 : Int32)) + (((a0 - ((a0.toUInt32 >>> ((1 : Int32).toUInt32 &&& Int32.toUInt32 31)).toInt32 &&& (1431655765 : Int32))).toUInt32 >>> ((2 : Int32).toUInt32 &&& Int32.toUInt32 31)).toInt32 &&& (858993459 : Int32))) + ((((a0 - ((a0.toUInt32 >>> ((1 : Int32).toUInt32 &&& Int32.toUInt32 31)).toInt32 &&& (1431655765 : Int32))) &&& (858993459 : Int32)) + (((a0 - ((a0.toUInt32 >>> ((1 : Int32).toUInt32 &&& Int32.toUInt32 31)).toInt32 &&& (1431655765 : Int32))).toUInt32 >>> ((2 : Int32).toUInt32 &&& Int32.toUInt32 31)).toInt32 &&& (858993459 : Int32))).toUInt32 >>> ((4 : Int32).toUInt32 &&& Int32.toUInt32 31)).toInt32) &&& (252645135 : Int32)).toUInt32 >>> ((8 : Int32).toUInt32 &&& Int32.toUInt32 31)).toInt32).toUInt32 >>> ((16 : Int32).toUInt32 &&& Int32.toUInt32 31)).toInt32))]) hx hb dJ6_bitCount_0f7a4_47 rfl hl (by decide) rfl (fun ls hl => ?_)
  refine lv_iload_n hx hb dJ6_bitCount_0f7a4_48 rfl (lv_at hl 0 rfl) ?_
  refine lv_bipush (v := (63 : Int32)) hx hb dJ6_bitCount_0f7a4_49 (by decide) ?_
  refine lv_iand hx hb dJ6_bitCount_0f7a4_51 ?_
  exact W.iret (v := ((((((((a0 - ((a0.toUInt32 >>> ((1 : Int32).toUInt32 &&& Int32.toUInt32 31)).toInt32 &&& (1431655765 : Int32))) &&& (858993459 : Int32)) + (((a0 - ((a0.toUInt32 >>> ((1 : Int32).toUInt32 &&& Int32.toUInt32 31)).toInt32 &&& (1431655765 : Int32))).toUInt32 >>> ((2 : Int32).toUInt32 &&& Int32.toUInt32 31)).toInt32 &&& (858993459 : Int32))) + ((((a0 - ((a0.toUInt32 >>> ((1 : Int32).toUInt32 &&& Int32.toUInt32 31)).toInt32 &&& (1431655765 : Int32))) &&& (858993459 : Int32)) + (((a0 - ((a0.toUInt32 >>> ((1 : Int32).toUInt32 &&& Int32.toUInt32 31)).toInt32 &&& (1431655765 : Int32))).toUInt32 >>> ((2 : Int32).toUInt32 &&& Int32.toUInt32 31)).toInt32 &&& (858993459 : Int32))).toUInt32 >>> ((4 : Int32).toUInt32 &&& Int32.toUInt32 31)).toInt32) &&& (252645135 : Int32)) + ((((((a0 - ((a0.toUInt32 >>> ((1 : Int32).toUInt32 &&& Int32.toUInt32 31)).toInt32 &&& (1431655765 : Int32))) &&& (858993459 : Int32)) + (((a0 - ((a0.toUInt32 >>> ((1 : Int32).toUInt32 &&& Int32.toUInt32 31)).toInt32 &&& (1431655765 : Int32))).toUInt32 >>> ((2 : Int32).toUInt32 &&& Int32.toUInt32 31)).toInt32 &&& (858993459 : Int32))) + ((((a0 - ((a0.toUInt32 >>> ((1 : Int32).toUInt32 &&& Int32.toUInt32 31)).toInt32 &&& (1431655765 : Int32))) &&& (858993459 : Int32)) + (((a0 - ((a0.toUInt32 >>> ((1 : Int32).toUInt32 &&& Int32.toUInt32 31)).toInt32 &&& (1431655765 : Int32))).toUInt32 >>> ((2 : Int32).toUInt32 &&& Int32.toUInt32 31)).toInt32 &&& (858993459 : Int32))).toUInt32 >>> ((4 : Int32).toUInt32 &&& Int32.toUInt32 31)).toInt32) &&& (252645135 : Int32)).toUInt32 >>> ((8 : Int32).toUInt32 &&& Int32.toUInt32 31)).toInt32) + (((((((a0 - ((a0.toUInt32 >>> ((1 : Int32).toUInt32 &&& Int32.toUInt32 31)).toInt32 &&& (1431655765 : Int32))) &&& (858993459 : Int32)) + (((a0 - ((a0.toUInt32 >>> ((1 : Int32).toUInt32 &&& Int32.toUInt32 31)).toInt32 &&& (1431655765 : Int32))).toUInt32 >>> ((2 : Int32).toUInt32 &&& Int32.toUInt32 31)).toInt32 &&& (858993459 : Int32))) + ((((a0 - ((a0.toUInt32 >>> ((1 : Int32).toUInt32 &&& Int32.toUInt32 31)).toInt32 &&& (1431655765 : Int32))) &&& (858993459 : Int32)) + (((a0 - ((a0.toUInt32 >>> ((1 : Int32).toUInt32 &&& Int32.toUInt32 31)).toInt32 &&& (1431655765 : Int32))).toUInt32 >>> ((2 : Int32).toUInt32 &&& Int32.toUInt32 31)).toInt32 &&& (858993459 : Int32))).toUInt32 >>> ((4 : Int32).toUInt32 &&& Int32.toUInt32 31)).toInt32) &&& (252645135 : Int32)) + ((((((a0 - ((a0.toUInt32 >>> ((1 : Int32).toUInt32 &&& Int32.toUInt32 31)).toInt32 &&& (1431655765 : Int32))) &&& (858993459 : Int32)) + (((a0 - ((a0.toUInt32 >>> ((1 : Int32).toUInt32 &&& Int32.toUInt32 31)).toInt32 &&& (1431655765 : Int32))).toUInt32 >>> ((2 : Int32).toUInt32 &&& Int32.toUInt32 31)).toInt32 &&& (858993459 : Int32))) + ((((a0 - ((a0.toUInt32 >>> ((1 : Int32).toUInt32 &&& Int32.toUInt32 31)).toInt32 &&& (1431655765 : Int32))) &&& (858993459 : Int32)) + (((a0 - ((a0.toUInt32 >>> ((1 : Int32).toUInt32 &&& Int32.toUInt32 31)).toInt32 &&& (1431655765 : Int32))).toUInt32 >>> ((2 : Int32).toUInt32 &&& Int32.toUInt32 31)).toInt32 &&& (858993459 : Int32))).toUInt32 >>> ((4 : Int32).toUInt32 &&& Int32.toUInt32 31)).toInt32) &&& (252645135 : Int32)).toUInt32 >>> ((8 : Int32).toUInt32 &&& Int32.toUInt32 31)).toInt32).toUInt32 >>> ((16 : Int32).toUInt32 &&& Int32.toUInt32 31)).toInt32) &&& (63 : Int32))) hx hb hr (kSi_ret rfl hv) (fun _ h => by cases h) dJ6_bitCount_0f7a4_52
set_option maxHeartbeats 4000000 in
set_option maxRecDepth 100000 in
theorem kX0_all (l : Launch) (D : va_G) (cI cB : ClassId) (h0 : Nat) (h1 : Nat) (kf : Nat → Int32) (kz : Int32) (ks : Int32) (kg : Int32) (k0 : Int32) (k1 : Int32)  (post : Int32 → Prop) (hv : qX0_all kz post) : Met l yX0_all wsX0_all ({ frames := 0, cells := 0, slots := 0, locals := 0 }) (va_Pc [.ref h0] (kB D cI cB [(h0, .inr (2, [.ref h1, .int kz, .int ks, .int kg, .int k0, .int k1])), (h1, .inl (cI, 12, .inl kf))])) (vp_Si post) 0 0 (fun _ => False) := by
  refine Met.ofW (cc := cX0_all) (maxL := 1) (ret := (some .int)) (by decide) rfl ?_
  intro p e s m args below meth c s₁ B hml hv0
  obtain ⟨rfl, hP, hK, hN⟩ := hv0
  have hx := B.exec
  have hb := B.bytes
  have hr := B.returns
  have hts := atoms_spec (ws := wsX0_all) B.pre
  have hown : s.vm.findClass RX0 = some m.cls := findClass_of_methodNamed B.named
  have hlocks := B.notSynchronized
  have hi_X0 : ∀ w ∈ wsX00, w ∈ wsX0_all := by decide +kernel
  have hF15 := hts (.fieldLink RX0 15 "Roadgame$Chart" "size" "I") (by decide +kernel)
  have hl := lv_entry ([.ref h0]) (n := 1) (Nat.le_of_ble_eq_true rfl)
  rw [lg_entry_eq]
  generalize (lg_sl ([.ref h0]) ++ List.replicate (1 - (lg_sl ([.ref h0])).length) Slot.unset).toArray = ls at hl ⊢
  have hl : lv_has ls 1 [(0, .ref h0)] := hl
  refine lv_iconst (v := (1 : Int32)) hx hb dX0_all_0 (by decide) ?_
  refine lv_aload_n hx hb dX0_all_1 rfl (lv_at hl 0 rfl) ?_
  refine va_get (D := D) (ci := 2) (v := .int kz) (C := RX0) (T := TX0) (N := 6) hx hb hts hi_X0 hown hK hP 0 rfl rfl 1 (by decide) hF15 (fun _ h9 => h9) rfl dX0_all_2 ?_
  refine lv_ishl hx hb dX0_all_5 ?_
  refine lv_iconst (v := (1 : Int32)) hx hb dX0_all_6 (by decide) ?_
  refine lv_isub hx hb dX0_all_7 ?_
  exact W.iret (v := (((1 : Int32) <<< (kz &&& (31 : Int32))) - (1 : Int32))) hx hb hr (kSi_ret rfl hv) (fun _ h => by cases h) dX0_all_8
set_option maxHeartbeats 4000000 in
set_option maxRecDepth 100000 in
theorem kX0_wrapped (l : Launch) (D : va_G) (cI cB : ClassId) (h0 : Nat) (h1 : Nat) (kf : Nat → Int32) (kz : Int32) (ks : Int32) (kg : Int32) (k0 : Int32) (k1 : Int32) (a1 : Int32) (post : Int32 → Prop) (hv : qX0_wrapped kz a1 post) : Met l yX0_wrapped wsX0_wrapped ({ frames := 0, cells := 0, slots := 0, locals := 0 }) (va_Pc [.ref h0, .int a1] (kB D cI cB [(h0, .inr (2, [.ref h1, .int kz, .int ks, .int kg, .int k0, .int k1])), (h1, .inl (cI, 12, .inl kf))])) (vp_Si post) 0 0 (fun _ => False) := by
  refine Met.ofW (cc := cX0_wrapped) (maxL := 2) (ret := (some .int)) (by decide) rfl ?_
  intro p e s m args below meth c s₁ B hml hv0
  obtain ⟨rfl, hP, hK, hN⟩ := hv0
  have hx := B.exec
  have hb := B.bytes
  have hr := B.returns
  have hts := atoms_spec (ws := wsX0_wrapped) B.pre
  have hown : s.vm.findClass RX0 = some m.cls := findClass_of_methodNamed B.named
  have hlocks := B.notSynchronized
  have hi_X0 : ∀ w ∈ wsX00, w ∈ wsX0_wrapped := by decide +kernel
  have hF15 := hts (.fieldLink RX0 15 "Roadgame$Chart" "size" "I") (by decide +kernel)
  have hl := lv_entry ([.ref h0, .int a1]) (n := 2) (Nat.le_of_ble_eq_true rfl)
  rw [lg_entry_eq]
  generalize (lg_sl ([.ref h0, .int a1]) ++ List.replicate (2 - (lg_sl ([.ref h0, .int a1])).length) Slot.unset).toArray = ls at hl ⊢
  have hl : lv_has ls 2 [(0, .ref h0), (1, .int a1)] := hl
  refine lv_aload_n hx hb dX0_wrapped_0 rfl (lv_at hl 0 rfl) ?_
  refine va_get (D := D) (ci := 2) (v := .int kz) (C := RX0) (T := TX0) (N := 6) hx hb hts hi_X0 hown hK hP 0 rfl rfl 1 (by decide) hF15 (fun _ h9 => h9) rfl dX0_wrapped_1 ?_
  refine lv_if_le (tgt := 16) hx hb dX0_wrapped_4 (by decide) (fun hc => ?_) (fun hc => ?_)
  · have hv := hv.1 hc
    refine lv_iconst (v := (0 : Int32)) hx hb dX0_wrapped_16 (by decide) ?_
    exact W.iret (v := (0 : Int32)) hx hb hr (kSi_ret rfl hv) (fun _ h => by cases h) dX0_wrapped_17
  · have hv := hv.2 hc
    refine lv_iload_n hx hb dX0_wrapped_7 rfl (lv_at hl 1 rfl) ?_
    refine lv_aload_n hx hb dX0_wrapped_8 rfl (lv_at hl 0 rfl) ?_
    refine va_get (D := D) (ci := 2) (v := .int kz) (C := RX0) (T := TX0) (N := 6) hx hb hts hi_X0 hown hK hP 0 rfl rfl 1 (by decide) hF15 (fun _ h9 => h9) rfl dX0_wrapped_9 ?_
    obtain ⟨hq, hv⟩ := hv
    refine lv_irem hx hb dX0_wrapped_12 hq ?_
    refine lv_goto (tgt := 17) hx hb dX0_wrapped_13 (by decide) ?_
    exact W.iret (v := (a1 - a1 / kz * kz)) hx hb hr (kSi_ret rfl hv) (fun _ h => by cases h) dX0_wrapped_17
set_option maxHeartbeats 4000000 in
set_option maxRecDepth 100000 in
theorem kX0_sideOf (l : Launch) (D : va_G) (cI cB : ClassId) (h0 : Nat) (h1 : Nat) (kf : Nat → Int32) (kz : Int32) (ks : Int32) (kg : Int32) (k0 : Int32) (k1 : Int32) (a1 : Int32) (post : Int32 → Prop) (hv : qX0_sideOf ks a1 post) : Met l yX0_sideOf wsX0_sideOf ({ frames := 0, cells := 0, slots := 0, locals := 0 }) (va_Pc [.ref h0, .int a1] (kB D cI cB [(h0, .inr (2, [.ref h1, .int kz, .int ks, .int kg, .int k0, .int k1])), (h1, .inl (cI, 12, .inl kf))])) (vp_Si post) 0 0 (fun _ => False) := by
  refine Met.ofW (cc := cX0_sideOf) (maxL := 2) (ret := (some .int)) (by decide) rfl ?_
  intro p e s m args below meth c s₁ B hml hv0
  obtain ⟨rfl, hP, hK, hN⟩ := hv0
  have hx := B.exec
  have hb := B.bytes
  have hr := B.returns
  have hts := atoms_spec (ws := wsX0_sideOf) B.pre
  have hown : s.vm.findClass RX0 = some m.cls := findClass_of_methodNamed B.named
  have hlocks := B.notSynchronized
  have hi_X0 : ∀ w ∈ wsX00, w ∈ wsX0_sideOf := by decide +kernel
  have hF19 := hts (.fieldLink RX0 19 "Roadgame$Chart" "second" "I") (by decide +kernel)
  have hl := lv_entry ([.ref h0, .int a1]) (n := 2) (Nat.le_of_ble_eq_true rfl)
  rw [lg_entry_eq]
  generalize (lg_sl ([.ref h0, .int a1]) ++ List.replicate (2 - (lg_sl ([.ref h0, .int a1])).length) Slot.unset).toArray = ls at hl ⊢
  have hl : lv_has ls 2 [(0, .ref h0), (1, .int a1)] := hl
  refine lv_aload_n hx hb dX0_sideOf_0 rfl (lv_at hl 0 rfl) ?_
  refine va_get (D := D) (ci := 2) (v := .int ks) (C := RX0) (T := TX0) (N := 6) hx hb hts hi_X0 hown hK hP 0 rfl rfl 2 (by decide) hF19 (fun _ h9 => h9) rfl dX0_sideOf_1 ?_
  refine lv_iload_n hx hb dX0_sideOf_4 rfl (lv_at hl 1 rfl) ?_
  refine lv_ishr hx hb dX0_sideOf_5 ?_
  refine lv_iconst (v := (1 : Int32)) hx hb dX0_sideOf_6 (by decide) ?_
  refine lv_iand hx hb dX0_sideOf_7 ?_
  exact W.iret (v := ((ks >>> (a1 &&& (31 : Int32))) &&& (1 : Int32))) hx hb hr (kSi_ret rfl hv) (fun _ h => by cases h) dX0_sideOf_8
set_option maxHeartbeats 4000000 in
set_option maxRecDepth 100000 in
theorem kX0_placesOf (l : Launch) (D : va_G) (cI cB : ClassId) (h0 : Nat) (h1 : Nat) (kf : Nat → Int32) (kz : Int32) (ks : Int32) (kg : Int32) (k0 : Int32) (k1 : Int32) (a1 : Int32) (post : Int32 → Prop) (hv : qX0_placesOf kz ks a1 post) : Met l yX0_placesOf wsX0_placesOf ({ frames := 1, cells := 0, slots := 0, locals := 20 }) (va_Pc [.ref h0, .int a1] (kB D cI cB [(h0, .inr (2, [.ref h1, .int kz, .int ks, .int kg, .int k0, .int k1])), (h1, .inl (cI, 12, .inl kf))])) (vp_Si post) 0 0 (fun _ => False) := by
  refine Met.ofW (cc := cX0_placesOf) (maxL := 2) (ret := (some .int)) (by decide) rfl ?_
  intro p e s m args below meth c s₁ B hml hv0
  obtain ⟨rfl, hP, hK, hN⟩ := hv0
  have hx := B.exec
  have hb := B.bytes
  have hr := B.returns
  have hts := atoms_spec (ws := wsX0_placesOf) B.pre
  have hown : s.vm.findClass RX0 = some m.cls := findClass_of_methodNamed B.named
  have hlocks := B.notSynchronized
  have hi_X0 : ∀ w ∈ wsX00, w ∈ wsX0_placesOf := by decide +kernel
  have hF19 := hts (.fieldLink RX0 19 "Roadgame$Chart" "second" "I") (by decide +kernel)
  have hl := lv_entry ([.ref h0, .int a1]) (n := 2) (Nat.le_of_ble_eq_true rfl)
  rw [lg_entry_eq]
  generalize (lg_sl ([.ref h0, .int a1]) ++ List.replicate (2 - (lg_sl ([.ref h0, .int a1])).length) Slot.unset).toArray = ls at hl ⊢
  have hl : lv_has ls 2 [(0, .ref h0), (1, .int a1)] := hl
  refine lv_iload_n hx hb dX0_placesOf_0 rfl (lv_at hl 1 rfl) ?_
  refine lv_iconst (v := (1 : Int32)) hx hb dX0_placesOf_1 (by decide) ?_
  refine lv_icmp_ne (tgt := 12) hx hb dX0_placesOf_2 (by decide) (fun hc => ?_) (fun hc => ?_)
  · have hv := hv.1 hc
    refine lv_aload_n hx hb dX0_placesOf_12 rfl (lv_at hl 0 rfl) ?_
    refine kc_V (As := []) (rest := []) ⟨hx, hb, hml, hown, hts⟩ (kX0_all l D cI cB h0 h1 kf kz ks kg k0 k1 _ hv) (cwV 0 hts gX0_placesOf_X0_all rfl rfl rfl (by decide +kernel) ⟨Nat.le_of_ble_eq_true rfl, Nat.le_of_ble_eq_true rfl⟩) hP hK hN 2 rfl rfl rfl rfl hl.1 rfl (Nat.le_of_ble_eq_true rfl) dX0_placesOf_13 ⟨Nat.zero_le _, Nat.zero_le _⟩ (fun r13 hv => ?_)
    refine lv_aload_n hx hb dX0_placesOf_16 rfl (lv_at hl 0 rfl) ?_
    refine va_get (D := D) (ci := 2) (v := .int ks) (C := RX0) (T := TX0) (N := 6) hx hb hts hi_X0 hown hK hP 0 rfl rfl 2 (by decide) hF19 (fun _ h9 => h9) rfl dX0_placesOf_17 ?_
    refine lv_iconst (v := (-1 : Int32)) hx hb dX0_placesOf_20 (by decide) ?_
    refine lv_ixor hx hb dX0_placesOf_21 ?_
    refine lv_iand hx hb dX0_placesOf_22 ?_
    exact W.iret (v := (r13 &&& (ks ^^^ (-1 : Int32)))) hx hb hr (kSi_ret rfl hv) (fun _ h => by cases h) dX0_placesOf_23
  · have hv := hv.2 hc
    refine lv_aload_n hx hb dX0_placesOf_5 rfl (lv_at hl 0 rfl) ?_
    refine va_get (D := D) (ci := 2) (v := .int ks) (C := RX0) (T := TX0) (N := 6) hx hb hts hi_X0 hown hK hP 0 rfl rfl 2 (by decide) hF19 (fun _ h9 => h9) rfl dX0_placesOf_6 ?_
    refine lv_goto (tgt := 23) hx hb dX0_placesOf_9 (by decide) ?_
    exact W.iret (v := ks) hx hb hr (kSi_ret rfl hv) (fun _ h => by cases h) dX0_placesOf_23
set_option maxHeartbeats 4000000 in
set_option maxRecDepth 100000 in
theorem kX0_rankOf (l : Launch) (D : va_G) (cI cB : ClassId) (h0 : Nat) (h1 : Nat) (kf : Nat → Int32) (kz : Int32) (ks : Int32) (kg : Int32) (k0 : Int32) (k1 : Int32) (a1 : Int32) (post : Int32 → Prop) (hv : qX0_rankOf k0 k1 a1 post) : Met l yX0_rankOf wsX0_rankOf ({ frames := 1, cells := 0, slots := 0, locals := 21 }) (va_Pc [.ref h0, .int a1] (kB D cI cB [(h0, .inr (2, [.ref h1, .int kz, .int ks, .int kg, .int k0, .int k1])), (h1, .inl (cI, 12, .inl kf))])) (vp_Si post) 0 0 (fun _ => False) := by
  refine Met.ofW (cc := cX0_rankOf) (maxL := 2) (ret := (some .int)) (by decide) rfl ?_
  intro p e s m args below meth c s₁ B hml hv0
  obtain ⟨rfl, hP, hK, hN⟩ := hv0
  have hx := B.exec
  have hb := B.bytes
  have hr := B.returns
  have hts := atoms_spec (ws := wsX0_rankOf) B.pre
  have hown : s.vm.findClass RX0 = some m.cls := findClass_of_methodNamed B.named
  have hlocks := B.notSynchronized
  have hi_X0 : ∀ w ∈ wsX00, w ∈ wsX0_rankOf := by decide +kernel
  have hF25 := hts (.fieldLink RX0 25 "Roadgame$Chart" "rankZero" "I") (by decide +kernel)
  have hF28 := hts (.fieldLink RX0 28 "Roadgame$Chart" "rankOne" "I") (by decide +kernel)
  have hl := lv_entry ([.ref h0, .int a1]) (n := 2) (Nat.le_of_ble_eq_true rfl)
  rw [lg_entry_eq]
  generalize (lg_sl ([.ref h0, .int a1]) ++ List.replicate (2 - (lg_sl ([.ref h0, .int a1])).length) Slot.unset).toArray = ls at hl ⊢
  have hl : lv_has ls 2 [(0, .ref h0), (1, .int a1)] := hl
  refine lv_aload_n hx hb dX0_rankOf_0 rfl (lv_at hl 0 rfl) ?_
  refine va_get (D := D) (ci := 2) (v := .int k0) (C := RX0) (T := TX0) (N := 6) hx hb hts hi_X0 hown hK hP 0 rfl rfl 4 (by decide) hF25 (fun _ h9 => h9) rfl dX0_rankOf_1 ?_
  refine lv_iload_n hx hb dX0_rankOf_4 rfl (lv_at hl 1 rfl) ?_
  refine kc_SN (As := [.int k0, .int a1]) (rest := []) ⟨hx, hb, hml, hown, hts⟩ (kX1_has l D cI cB k0 a1 _ hv) ⟨va_cnB (host := "Roadgame") 2 hts gX0_rankOf_X1_has_n39 rfl rfl rfl hN.2.2.2.1 (hts (.initialized RX1) (by decide +kernel)) (by decide +kernel) ⟨Nat.le_of_ble_eq_true rfl, Nat.le_of_ble_eq_true rfl⟩, hts (.static yX1_has) (by decide +kernel), trivial⟩ (hP.sub (ws' := []) [] rfl) hK hN rfl hl.1 rfl (Nat.le_of_ble_eq_true rfl) dX0_rankOf_5 ⟨Nat.zero_le _, Nat.zero_le _⟩ (fun r5 hv => ?_)
  refine lv_if_eq (tgt := 13) hx hb dX0_rankOf_8 (by decide) (fun hc => ?_) (fun hc => ?_)
  · have hv := hv.1 hc
    refine lv_aload_n hx hb dX0_rankOf_13 rfl (lv_at hl 0 rfl) ?_
    refine va_get (D := D) (ci := 2) (v := .int k1) (C := RX0) (T := TX0) (N := 6) hx hb hts hi_X0 hown hK hP 0 rfl rfl 5 (by decide) hF28 (fun _ h9 => h9) rfl dX0_rankOf_14 ?_
    refine lv_iload_n hx hb dX0_rankOf_17 rfl (lv_at hl 1 rfl) ?_
    refine kc_SN (As := [.int k1, .int a1]) (rest := []) ⟨hx, hb, hml, hown, hts⟩ (kX1_has l D cI cB k1 a1 _ hv) ⟨va_cnB (host := "Roadgame") 2 hts gX0_rankOf_X1_has_n39 rfl rfl rfl hN.2.2.2.1 (hts (.initialized RX1) (by decide +kernel)) (by decide +kernel) ⟨Nat.le_of_ble_eq_true rfl, Nat.le_of_ble_eq_true rfl⟩, hts (.static yX1_has) (by decide +kernel), trivial⟩ (hP.sub (ws' := []) [] rfl) hK hN rfl hl.1 rfl (Nat.le_of_ble_eq_true rfl) dX0_rankOf_18 ⟨Nat.zero_le _, Nat.zero_le _⟩ (fun r18 hv => ?_)
    refine lv_if_eq (tgt := 28) hx hb dX0_rankOf_21 (by decide) (fun hc => ?_) (fun hc => ?_)
    · have hv := hv.1 hc
      refine lv_iconst (v := (2 : Int32)) hx hb dX0_rankOf_28 (by decide) ?_
      exact W.iret (v := (2 : Int32)) hx hb hr (kSi_ret rfl hv) (fun _ h => by cases h) dX0_rankOf_29
    · have hv := hv.2 hc
      refine lv_iconst (v := (1 : Int32)) hx hb dX0_rankOf_24 (by decide) ?_
      refine lv_goto (tgt := 29) hx hb dX0_rankOf_25 (by decide) ?_
      exact W.iret (v := (1 : Int32)) hx hb hr (kSi_ret rfl hv) (fun _ h => by cases h) dX0_rankOf_29
  · have hv := hv.2 hc
    refine lv_iconst (v := (0 : Int32)) hx hb dX0_rankOf_11 (by decide) ?_
    exact W.iret (v := (0 : Int32)) hx hb hr (kSi_ret rfl hv) (fun _ h => by cases h) dX0_rankOf_12
set_option maxHeartbeats 4000000 in
set_option maxRecDepth 100000 in
theorem kX0_waysFrom (l : Launch) (D : va_G) (cI cB : ClassId) (h0 : Nat) (h1 : Nat) (kf : Nat → Int32) (kz : Int32) (ks : Int32) (kg : Int32) (k0 : Int32) (k1 : Int32) (a1 : Int32) (post : Int32 → Prop) (hv : qX0_waysFrom kf a1 post) : Met l yX0_waysFrom wsX0_waysFrom ({ frames := 0, cells := 0, slots := 0, locals := 0 }) (va_Pc [.ref h0, .int a1] (kB D cI cB [(h0, .inr (2, [.ref h1, .int kz, .int ks, .int kg, .int k0, .int k1])), (h1, .inl (cI, 12, .inl kf))])) (vp_Si post) 0 0 (fun _ => False) := by
  refine Met.ofW (cc := cX0_waysFrom) (maxL := 2) (ret := (some .int)) (by decide) rfl ?_
  intro p e s m args below meth c s₁ B hml hv0
  obtain ⟨rfl, hP, hK, hN⟩ := hv0
  have hx := B.exec
  have hb := B.bytes
  have hr := B.returns
  have hts := atoms_spec (ws := wsX0_waysFrom) B.pre
  have hown : s.vm.findClass RX0 = some m.cls := findClass_of_methodNamed B.named
  have hlocks := B.notSynchronized
  have hi_X0 : ∀ w ∈ wsX00, w ∈ wsX0_waysFrom := by decide +kernel
  have hF9 := hts (.fieldLink RX0 9 "Roadgame$Chart" "next" "[I") (by decide +kernel)
  have hl := lv_entry ([.ref h0, .int a1]) (n := 2) (Nat.le_of_ble_eq_true rfl)
  rw [lg_entry_eq]
  generalize (lg_sl ([.ref h0, .int a1]) ++ List.replicate (2 - (lg_sl ([.ref h0, .int a1])).length) Slot.unset).toArray = ls at hl ⊢
  have hl : lv_has ls 2 [(0, .ref h0), (1, .int a1)] := hl
  refine lv_iload_n hx hb dX0_waysFrom_0 rfl (lv_at hl 1 rfl) ?_
  refine lv_if_lt (tgt := 22) hx hb dX0_waysFrom_1 (by decide) (fun hc => ?_) (fun hc => ?_)
  · have hv := hv.1 hc
    refine lv_iconst (v := (0 : Int32)) hx hb dX0_waysFrom_22 (by decide) ?_
    exact W.iret (v := (0 : Int32)) hx hb hr (kSi_ret rfl hv) (fun _ h => by cases h) dX0_waysFrom_23
  · have hv := hv.2 hc
    refine lv_iload_n hx hb dX0_waysFrom_4 rfl (lv_at hl 1 rfl) ?_
    refine lv_aload_n hx hb dX0_waysFrom_5 rfl (lv_at hl 0 rfl) ?_
    refine va_get (D := D) (ci := 2) (v := .ref h1) (C := RX0) (T := TX0) (N := 6) hx hb hts hi_X0 hown hK hP 0 rfl rfl 0 (by decide) hF9 (fun _ h9 => h9) rfl dX0_waysFrom_6 ?_
    refine va_alen (v := (12 : Int32)) hx hb hK hP 1 0 rfl rfl (by first | rfl | decide) dX0_waysFrom_9 ?_
    refine lv_icmp_ge (tgt := 22) hx hb dX0_waysFrom_10 (by decide) (fun hc => ?_) (fun hc => ?_)
    · have hv := hv.1 hc
      refine lv_iconst (v := (0 : Int32)) hx hb dX0_waysFrom_22 (by decide) ?_
      exact W.iret (v := (0 : Int32)) hx hb hr (kSi_ret rfl hv) (fun _ h => by cases h) dX0_waysFrom_23
    · have hv := hv.2 hc
      refine lv_aload_n hx hb dX0_waysFrom_13 rfl (lv_at hl 0 rfl) ?_
      refine va_get (D := D) (ci := 2) (v := .ref h1) (C := RX0) (T := TX0) (N := 6) hx hb hts hi_X0 hown hK hP 0 rfl rfl 0 (by decide) hF9 (fun _ h9 => h9) rfl dX0_waysFrom_14 ?_
      refine lv_iload_n hx hb dX0_waysFrom_17 rfl (lv_at hl 1 rfl) ?_
      obtain ⟨hq, hv⟩ := hv
      refine va_iald hx hb hK hP 1 0 rfl rfl hq dX0_waysFrom_18 ?_
      refine lv_goto (tgt := 23) hx hb dX0_waysFrom_19 (by decide) ?_
      exact W.iret (v := (kf a1.toNatClampNeg)) hx hb hr (kSi_ret rfl hv) (fun _ h => by cases h) dX0_waysFrom_23
set_option maxHeartbeats 4000000 in
set_option maxRecDepth 100000 in
theorem kX0_waysInto (l : Launch) (D : va_G) (cI cB : ClassId) (h0 : Nat) (h1 : Nat) (kf : Nat → Int32) (kz : Int32) (ks : Int32) (kg : Int32) (k0 : Int32) (k1 : Int32) (a1 : Int32) (post : Int32 → Prop) (hv : qX0_waysInto kf kz a1 post) : Met l yX0_waysInto wsX0_waysInto ({ frames := 1, cells := 0, slots := 0, locals := 21 }) (va_Pc [.ref h0, .int a1] (kB D cI cB [(h0, .inr (2, [.ref h1, .int kz, .int ks, .int kg, .int k0, .int k1])), (h1, .inl (cI, 12, .inl kf))])) (vp_Si post) 0 0 (fun _ => False) := by
  refine Met.ofW (cc := cX0_waysInto) (maxL := 4) (ret := (some .int)) (by decide) rfl ?_
  intro p e s m args below meth c s₁ B hml hv0
  obtain ⟨rfl, hP, hK, hN⟩ := hv0
  have hx := B.exec
  have hb := B.bytes
  have hr := B.returns
  have hts := atoms_spec (ws := wsX0_waysInto) B.pre
  have hown : s.vm.findClass RX0 = some m.cls := findClass_of_methodNamed B.named
  have hlocks := B.notSynchronized
  have hi_X0 : ∀ w ∈ wsX00, w ∈ wsX0_waysInto := by decide +kernel
  have hF15 := hts (.fieldLink RX0 15 "Roadgame$Chart" "size" "I") (by decide +kernel)
  have hl := lv_entry ([.ref h0, .int a1]) (n := 4) (Nat.le_of_ble_eq_true rfl)
  rw [lg_entry_eq]
  generalize (lg_sl ([.ref h0, .int a1]) ++ List.replicate (4 - (lg_sl ([.ref h0, .int a1])).length) Slot.unset).toArray = ls at hl ⊢
  have hl : lv_has ls 4 [(0, .ref h0), (1, .int a1)] := hl
  refine lv_iconst (v := (0 : Int32)) hx hb dX0_waysInto_0 (by decide) ?_
  refine lv_istore_n (lv' := [(2, .int (0 : Int32)), (0, .ref h0), (1, .int a1)]) hx hb dX0_waysInto_1 rfl hl (by decide) rfl (fun ls hl => ?_)
  refine lv_iconst (v := (0 : Int32)) hx hb dX0_waysInto_2 (by decide) ?_
  refine lv_istore_n (lv' := [(3, .int (0 : Int32)), (2, .int (0 : Int32)), (0, .ref h0), (1, .int a1)]) hx hb dX0_waysInto_3 rfl hl (by decide) rfl (fun ls hl => ?_)
  have L4 : ∀ (K4_36 : Int32 → Int32 → Prop), (∀ (v2_4 : Int32) (v3_4 : Int32) (ls : Array Slot), K4_36 v2_4 v3_4 → lv_has ls 4 [(0, .ref h0), (1, .int a1), (2, .int v2_4), (3, .int v3_4)] → W p l e (headSpec wsX0_waysInto ({ frames := 1, cells := 0, slots := 0, locals := 21 })).room s m ([.ref h0, .int a1] : List Value).toArray below meth c s.heap [] 0 0 (MQ below (vp_Si post) ([.ref h0, .int a1] : List Value).toArray s 0 0 (fun _ => False)) (F0 m 36 ls [])) → ∀ (n4 : Nat) (v2_4 : Int32) (v3_4 : Int32) (ls : Array Slot), qX0_waysInto_4 kf kz a1 K4_36 n4 v2_4 v3_4 → lv_has ls 4 [(0, .ref h0), (1, .int a1), (2, .int v2_4), (3, .int v3_4)] → W p l e (headSpec wsX0_waysInto ({ frames := 1, cells := 0, slots := 0, locals := 21 })).room s m ([.ref h0, .int a1] : List Value).toArray below meth c s.heap [] 0 0 (MQ below (vp_Si post) ([.ref h0, .int a1] : List Value).toArray s 0 0 (fun _ => False)) (F0 m 4 ls []) := by
    intro K4_36 hk4_36
    intro n4
    induction n4 with
    | zero => intro v2_4 v3_4 ls hv hl; exact hv.elim
    | succ n4 ih4 =>
      intro v2_4 v3_4 ls hv hl
      refine lv_iload_n hx hb dX0_waysInto_4 rfl (lv_at hl 3 rfl) ?_
      refine lv_aload_n hx hb dX0_waysInto_5 rfl (lv_at hl 0 rfl) ?_
      refine va_get (D := D) (ci := 2) (v := .int kz) (C := RX0) (T := TX0) (N := 6) hx hb hts hi_X0 hown hK hP 0 rfl rfl 1 (by decide) hF15 (fun _ h9 => h9) rfl dX0_waysInto_6 ?_
      refine lv_icmp_ge (tgt := 36) hx hb dX0_waysInto_9 (by decide) (fun hc => ?_) (fun hc => ?_)
      · have hv := hv.1 hc
        exact hk4_36 _ _ ls hv (lv_sub hl [0, 1, 2, 3] rfl)
      · have hv := hv.2 hc
        refine lv_aload_n hx hb dX0_waysInto_12 rfl (lv_at hl 0 rfl) ?_
        refine lv_iload_n hx hb dX0_waysInto_13 rfl (lv_at hl 3 rfl) ?_
        refine kc_V (As := [.int v3_4]) (rest := []) ⟨hx, hb, hml, hown, hts⟩ (kX0_waysFrom l D cI cB h0 h1 kf kz ks kg k0 k1 v3_4 _ hv) (cwV 1 hts gX0_waysInto_X0_waysFrom rfl rfl rfl (by decide +kernel) ⟨Nat.le_of_ble_eq_true rfl, Nat.le_of_ble_eq_true rfl⟩) hP hK hN 2 rfl rfl rfl rfl hl.1 rfl (Nat.le_of_ble_eq_true rfl) dX0_waysInto_14 ⟨Nat.zero_le _, Nat.zero_le _⟩ (fun r14 hv => ?_)
        refine lv_iload_n hx hb dX0_waysInto_17 rfl (lv_at hl 1 rfl) ?_
        refine kc_SN (As := [.int r14, .int a1]) (rest := []) ⟨hx, hb, hml, hown, hts⟩ (kX1_has l D cI cB r14 a1 _ hv) ⟨va_cnB (host := "Roadgame") 2 hts gX0_waysInto_X1_has_n39 rfl rfl rfl hN.2.2.2.1 (hts (.initialized RX1) (by decide +kernel)) (by decide +kernel) ⟨Nat.le_of_ble_eq_true rfl, Nat.le_of_ble_eq_true rfl⟩, hts (.static yX1_has) (by decide +kernel), trivial⟩ (hP.sub (ws' := []) [] rfl) hK hN rfl hl.1 rfl (Nat.le_of_ble_eq_true rfl) dX0_waysInto_18 ⟨Nat.zero_le _, Nat.zero_le _⟩ (fun r18 hv => ?_)
        refine lv_if_eq (tgt := 30) hx hb dX0_waysInto_21 (by decide) (fun hc => ?_) (fun hc => ?_)
        · have hv := hv.1 hc
          refine lv_iinc (v := (v3_4 + (1 : Int32))) (lv' := [(3, .int (v3_4 + (1 : Int32))), (0, .ref h0), (1, .int a1), (2, .int v2_4)]) hx hb dX0_waysInto_30 hl (k := 3) rfl rfl (by decide) rfl (fun ls hl => ?_)
          refine lv_goto (tgt := 4) hx hb dX0_waysInto_33 (by decide) ?_
          exact ih4 _ _ ls hv (lv_sub hl [1, 2, 3, 0] rfl)
        · have hv := hv.2 hc
          refine lv_iload_n hx hb dX0_waysInto_24 rfl (lv_at hl 2 rfl) ?_
          refine lv_iconst (v := (1 : Int32)) hx hb dX0_waysInto_25 (by decide) ?_
          refine lv_iload_n hx hb dX0_waysInto_26 rfl (lv_at hl 3 rfl) ?_
          refine lv_ishl hx hb dX0_waysInto_27 ?_
          refine lv_ior hx hb dX0_waysInto_28 ?_
          refine lv_istore_n (lv' := [(2, .int (v2_4 ||| ((1 : Int32) <<< (v3_4 &&& (31 : Int32))))), (0, .ref h0), (1, .int a1), (3, .int v3_4)]) hx hb dX0_waysInto_29 rfl hl (by decide) rfl (fun ls hl => ?_)
          refine lv_iinc (v := (v3_4 + (1 : Int32))) (lv' := [(3, .int (v3_4 + (1 : Int32))), (2, .int (v2_4 ||| ((1 : Int32) <<< (v3_4 &&& (31 : Int32))))), (0, .ref h0), (1, .int a1)]) hx hb dX0_waysInto_30 hl (k := 3) rfl rfl (by decide) rfl (fun ls hl => ?_)
          refine lv_goto (tgt := 4) hx hb dX0_waysInto_33 (by decide) ?_
          exact ih4 _ _ ls hv (lv_sub hl [2, 3, 1, 0] rfl)
  obtain ⟨n4, hv⟩ := hv
  refine L4 _ (fun v2_4x v3_4x ls hv hl => ?_) n4 _ _ _ hv (lv_sub hl [2, 3, 1, 0] rfl)
  refine lv_iload_n hx hb dX0_waysInto_36 rfl (lv_at hl 2 rfl) ?_
  exact W.iret (v := v2_4x) hx hb hr (kSi_ret rfl hv) (fun _ h => by cases h) dX0_waysInto_37
set_option maxHeartbeats 4000000 in
set_option maxRecDepth 100000 in
theorem kX0_countWays (l : Launch) (D : va_G) (cI cB : ClassId) (h0 : Nat) (h1 : Nat) (kf : Nat → Int32) (kz : Int32) (ks : Int32) (kg : Int32) (k0 : Int32) (k1 : Int32)  (post : Int32 → Prop) (hv : qX0_countWays kf kz post) : Met l yX0_countWays wsX0_countWays ({ frames := 1, cells := 0, slots := 0, locals := 21 }) (va_Pc [.ref h0] (kB D cI cB [(h0, .inr (2, [.ref h1, .int kz, .int ks, .int kg, .int k0, .int k1])), (h1, .inl (cI, 12, .inl kf))])) (vp_Si post) 0 0 (fun _ => False) := by
  refine Met.ofW (cc := cX0_countWays) (maxL := 3) (ret := (some .int)) (by decide) rfl ?_
  intro p e s m args below meth c s₁ B hml hv0
  obtain ⟨rfl, hP, hK, hN⟩ := hv0
  have hx := B.exec
  have hb := B.bytes
  have hr := B.returns
  have hts := atoms_spec (ws := wsX0_countWays) B.pre
  have hown : s.vm.findClass RX0 = some m.cls := findClass_of_methodNamed B.named
  have hlocks := B.notSynchronized
  have hi_X0 : ∀ w ∈ wsX00, w ∈ wsX0_countWays := by decide +kernel
  have hF15 := hts (.fieldLink RX0 15 "Roadgame$Chart" "size" "I") (by decide +kernel)
  have hl := lv_entry ([.ref h0]) (n := 3) (Nat.le_of_ble_eq_true rfl)
  rw [lg_entry_eq]
  generalize (lg_sl ([.ref h0]) ++ List.replicate (3 - (lg_sl ([.ref h0])).length) Slot.unset).toArray = ls at hl ⊢
  have hl : lv_has ls 3 [(0, .ref h0)] := hl
  refine lv_iconst (v := (0 : Int32)) hx hb dX0_countWays_0 (by decide) ?_
  refine lv_istore_n (lv' := [(1, .int (0 : Int32)), (0, .ref h0)]) hx hb dX0_countWays_1 rfl hl (by decide) rfl (fun ls hl => ?_)
  refine lv_iconst (v := (0 : Int32)) hx hb dX0_countWays_2 (by decide) ?_
  refine lv_istore_n (lv' := [(2, .int (0 : Int32)), (1, .int (0 : Int32)), (0, .ref h0)]) hx hb dX0_countWays_3 rfl hl (by decide) rfl (fun ls hl => ?_)
  have L4 : ∀ (K4_29 : Int32 → Int32 → Prop), (∀ (v1_4 : Int32) (v2_4 : Int32) (ls : Array Slot), K4_29 v1_4 v2_4 → lv_has ls 3 [(0, .ref h0), (1, .int v1_4), (2, .int v2_4)] → W p l e (headSpec wsX0_countWays ({ frames := 1, cells := 0, slots := 0, locals := 21 })).room s m ([.ref h0] : List Value).toArray below meth c s.heap [] 0 0 (MQ below (vp_Si post) ([.ref h0] : List Value).toArray s 0 0 (fun _ => False)) (F0 m 29 ls [])) → ∀ (n4 : Nat) (v1_4 : Int32) (v2_4 : Int32) (ls : Array Slot), qX0_countWays_4 kf kz K4_29 n4 v1_4 v2_4 → lv_has ls 3 [(0, .ref h0), (1, .int v1_4), (2, .int v2_4)] → W p l e (headSpec wsX0_countWays ({ frames := 1, cells := 0, slots := 0, locals := 21 })).room s m ([.ref h0] : List Value).toArray below meth c s.heap [] 0 0 (MQ below (vp_Si post) ([.ref h0] : List Value).toArray s 0 0 (fun _ => False)) (F0 m 4 ls []) := by
    intro K4_29 hk4_29
    intro n4
    induction n4 with
    | zero => intro v1_4 v2_4 ls hv hl; exact hv.elim
    | succ n4 ih4 =>
      intro v1_4 v2_4 ls hv hl
      refine lv_iload_n hx hb dX0_countWays_4 rfl (lv_at hl 2 rfl) ?_
      refine lv_aload_n hx hb dX0_countWays_5 rfl (lv_at hl 0 rfl) ?_
      refine va_get (D := D) (ci := 2) (v := .int kz) (C := RX0) (T := TX0) (N := 6) hx hb hts hi_X0 hown hK hP 0 rfl rfl 1 (by decide) hF15 (fun _ h9 => h9) rfl dX0_countWays_6 ?_
      refine lv_icmp_ge (tgt := 29) hx hb dX0_countWays_9 (by decide) (fun hc => ?_) (fun hc => ?_)
      · have hv := hv.1 hc
        exact hk4_29 _ _ ls hv (lv_sub hl [0, 1, 2] rfl)
      · have hv := hv.2 hc
        refine lv_iload_n hx hb dX0_countWays_12 rfl (lv_at hl 1 rfl) ?_
        refine lv_aload_n hx hb dX0_countWays_13 rfl (lv_at hl 0 rfl) ?_
        refine lv_iload_n hx hb dX0_countWays_14 rfl (lv_at hl 2 rfl) ?_
        refine kc_V (As := [.int v2_4]) (rest := [.int v1_4]) ⟨hx, hb, hml, hown, hts⟩ (kX0_waysFrom l D cI cB h0 h1 kf kz ks kg k0 k1 v2_4 _ hv) (cwV 1 hts gX0_countWays_X0_waysFrom rfl rfl rfl (by decide +kernel) ⟨Nat.le_of_ble_eq_true rfl, Nat.le_of_ble_eq_true rfl⟩) hP hK hN 2 rfl rfl rfl rfl hl.1 rfl (Nat.le_of_ble_eq_true rfl) dX0_countWays_15 ⟨Nat.zero_le _, Nat.zero_le _⟩ (fun r15 hv => ?_)
        refine kc_S (As := [.int r15]) (rest := [.int v1_4]) ⟨hx, hb, hml, hown, hts⟩ (kJ6_bitCount_0f7a4 l D cI cB r15 _ hv) (va_cwS 1 hts gX0_countWays_J6_bitCount_0f7a4 rfl rfl rfl (by decide +kernel) ⟨Nat.le_of_ble_eq_true rfl, Nat.le_of_ble_eq_true rfl⟩) (hP.sub (ws' := []) [] rfl) hK hN rfl hl.1 rfl (Nat.le_of_ble_eq_true rfl) dX0_countWays_18 ⟨Nat.zero_le _, Nat.zero_le _⟩ (fun r18 hv => ?_)
        refine lv_iadd hx hb dX0_countWays_21 ?_
        refine lv_istore_n (lv' := [(1, .int (v1_4 + r18)), (0, .ref h0), (2, .int v2_4)]) hx hb dX0_countWays_22 rfl hl (by decide) rfl (fun ls hl => ?_)
        refine lv_iinc (v := (v2_4 + (1 : Int32))) (lv' := [(2, .int (v2_4 + (1 : Int32))), (1, .int (v1_4 + r18)), (0, .ref h0)]) hx hb dX0_countWays_23 hl (k := 2) rfl rfl (by decide) rfl (fun ls hl => ?_)
        refine lv_goto (tgt := 4) hx hb dX0_countWays_26 (by decide) ?_
        exact ih4 _ _ ls hv (lv_sub hl [2, 1, 0] rfl)
  obtain ⟨n4, hv⟩ := hv
  refine L4 _ (fun v1_4x v2_4x ls hv hl => ?_) n4 _ _ _ hv (lv_sub hl [2, 1, 0] rfl)
  refine lv_iload_n hx hb dX0_countWays_29 rfl (lv_at hl 1 rfl) ?_
  exact W.iret (v := v1_4x) hx hb hr (kSi_ret rfl hv) (fun _ h => by cases h) dX0_countWays_30
set_option maxHeartbeats 4000000 in
set_option maxRecDepth 100000 in
theorem kX0_countWithoutWays (l : Launch) (D : va_G) (cI cB : ClassId) (h0 : Nat) (h1 : Nat) (kf : Nat → Int32) (kz : Int32) (ks : Int32) (kg : Int32) (k0 : Int32) (k1 : Int32)  (post : Int32 → Prop) (hv : qX0_countWithoutWays kf kz post) : Met l yX0_countWithoutWays wsX0_countWithoutWays ({ frames := 1, cells := 0, slots := 0, locals := 21 }) (va_Pc [.ref h0] (kB D cI cB [(h0, .inr (2, [.ref h1, .int kz, .int ks, .int kg, .int k0, .int k1])), (h1, .inl (cI, 12, .inl kf))])) (vp_Si post) 0 0 (fun _ => False) := by
  refine Met.ofW (cc := cX0_countWithoutWays) (maxL := 3) (ret := (some .int)) (by decide) rfl ?_
  intro p e s m args below meth c s₁ B hml hv0
  obtain ⟨rfl, hP, hK, hN⟩ := hv0
  have hx := B.exec
  have hb := B.bytes
  have hr := B.returns
  have hts := atoms_spec (ws := wsX0_countWithoutWays) B.pre
  have hown : s.vm.findClass RX0 = some m.cls := findClass_of_methodNamed B.named
  have hlocks := B.notSynchronized
  have hi_X0 : ∀ w ∈ wsX00, w ∈ wsX0_countWithoutWays := by decide +kernel
  have hF15 := hts (.fieldLink RX0 15 "Roadgame$Chart" "size" "I") (by decide +kernel)
  have hl := lv_entry ([.ref h0]) (n := 3) (Nat.le_of_ble_eq_true rfl)
  rw [lg_entry_eq]
  generalize (lg_sl ([.ref h0]) ++ List.replicate (3 - (lg_sl ([.ref h0])).length) Slot.unset).toArray = ls at hl ⊢
  have hl : lv_has ls 3 [(0, .ref h0)] := hl
  refine lv_iconst (v := (0 : Int32)) hx hb dX0_countWithoutWays_0 (by decide) ?_
  refine lv_istore_n (lv' := [(1, .int (0 : Int32)), (0, .ref h0)]) hx hb dX0_countWithoutWays_1 rfl hl (by decide) rfl (fun ls hl => ?_)
  refine lv_iconst (v := (0 : Int32)) hx hb dX0_countWithoutWays_2 (by decide) ?_
  refine lv_istore_n (lv' := [(2, .int (0 : Int32)), (1, .int (0 : Int32)), (0, .ref h0)]) hx hb dX0_countWithoutWays_3 rfl hl (by decide) rfl (fun ls hl => ?_)
  have L4 : ∀ (K4_29 : Int32 → Int32 → Prop), (∀ (v1_4 : Int32) (v2_4 : Int32) (ls : Array Slot), K4_29 v1_4 v2_4 → lv_has ls 3 [(0, .ref h0), (1, .int v1_4), (2, .int v2_4)] → W p l e (headSpec wsX0_countWithoutWays ({ frames := 1, cells := 0, slots := 0, locals := 21 })).room s m ([.ref h0] : List Value).toArray below meth c s.heap [] 0 0 (MQ below (vp_Si post) ([.ref h0] : List Value).toArray s 0 0 (fun _ => False)) (F0 m 29 ls [])) → ∀ (n4 : Nat) (v1_4 : Int32) (v2_4 : Int32) (ls : Array Slot), qX0_countWithoutWays_4 kf kz K4_29 n4 v1_4 v2_4 → lv_has ls 3 [(0, .ref h0), (1, .int v1_4), (2, .int v2_4)] → W p l e (headSpec wsX0_countWithoutWays ({ frames := 1, cells := 0, slots := 0, locals := 21 })).room s m ([.ref h0] : List Value).toArray below meth c s.heap [] 0 0 (MQ below (vp_Si post) ([.ref h0] : List Value).toArray s 0 0 (fun _ => False)) (F0 m 4 ls []) := by
    intro K4_29 hk4_29
    intro n4
    induction n4 with
    | zero => intro v1_4 v2_4 ls hv hl; exact hv.elim
    | succ n4 ih4 =>
      intro v1_4 v2_4 ls hv hl
      refine lv_iload_n hx hb dX0_countWithoutWays_4 rfl (lv_at hl 2 rfl) ?_
      refine lv_aload_n hx hb dX0_countWithoutWays_5 rfl (lv_at hl 0 rfl) ?_
      refine va_get (D := D) (ci := 2) (v := .int kz) (C := RX0) (T := TX0) (N := 6) hx hb hts hi_X0 hown hK hP 0 rfl rfl 1 (by decide) hF15 (fun _ h9 => h9) rfl dX0_countWithoutWays_6 ?_
      refine lv_icmp_ge (tgt := 29) hx hb dX0_countWithoutWays_9 (by decide) (fun hc => ?_) (fun hc => ?_)
      · have hv := hv.1 hc
        exact hk4_29 _ _ ls hv (lv_sub hl [0, 1, 2] rfl)
      · have hv := hv.2 hc
        refine lv_aload_n hx hb dX0_countWithoutWays_12 rfl (lv_at hl 0 rfl) ?_
        refine lv_iload_n hx hb dX0_countWithoutWays_13 rfl (lv_at hl 2 rfl) ?_
        refine kc_V (As := [.int v2_4]) (rest := []) ⟨hx, hb, hml, hown, hts⟩ (kX0_waysFrom l D cI cB h0 h1 kf kz ks kg k0 k1 v2_4 _ hv) (cwV 1 hts gX0_countWithoutWays_X0_waysFrom rfl rfl rfl (by decide +kernel) ⟨Nat.le_of_ble_eq_true rfl, Nat.le_of_ble_eq_true rfl⟩) hP hK hN 2 rfl rfl rfl rfl hl.1 rfl (Nat.le_of_ble_eq_true rfl) dX0_countWithoutWays_14 ⟨Nat.zero_le _, Nat.zero_le _⟩ (fun r14 hv => ?_)
        refine lv_if_ne (tgt := 23) hx hb dX0_countWithoutWays_17 (by decide) (fun hc => ?_) (fun hc => ?_)
        · have hv := hv.1 hc
          refine lv_iinc (v := (v2_4 + (1 : Int32))) (lv' := [(2, .int (v2_4 + (1 : Int32))), (0, .ref h0), (1, .int v1_4)]) hx hb dX0_countWithoutWays_23 hl (k := 2) rfl rfl (by decide) rfl (fun ls hl => ?_)
          refine lv_goto (tgt := 4) hx hb dX0_countWithoutWays_26 (by decide) ?_
          exact ih4 _ _ ls hv (lv_sub hl [1, 2, 0] rfl)
        · have hv := hv.2 hc
          refine lv_iinc (v := (v1_4 + (1 : Int32))) (lv' := [(1, .int (v1_4 + (1 : Int32))), (0, .ref h0), (2, .int v2_4)]) hx hb dX0_countWithoutWays_20 hl (k := 1) rfl rfl (by decide) rfl (fun ls hl => ?_)
          refine lv_iinc (v := (v2_4 + (1 : Int32))) (lv' := [(2, .int (v2_4 + (1 : Int32))), (1, .int (v1_4 + (1 : Int32))), (0, .ref h0)]) hx hb dX0_countWithoutWays_23 hl (k := 2) rfl rfl (by decide) rfl (fun ls hl => ?_)
          refine lv_goto (tgt := 4) hx hb dX0_countWithoutWays_26 (by decide) ?_
          exact ih4 _ _ ls hv (lv_sub hl [2, 1, 0] rfl)
  obtain ⟨n4, hv⟩ := hv
  refine L4 _ (fun v1_4x v2_4x ls hv hl => ?_) n4 _ _ _ hv (lv_sub hl [2, 1, 0] rfl)
  refine lv_iload_n hx hb dX0_countWithoutWays_29 rfl (lv_at hl 1 rfl) ?_
  exact W.iret (v := v1_4x) hx hb hr (kSi_ret rfl hv) (fun _ h => by cases h) dX0_countWithoutWays_30
set_option maxHeartbeats 4000000 in
set_option maxRecDepth 100000 in
theorem kX0_countChoices (l : Launch) (D : va_G) (cI cB : ClassId) (h0 : Nat) (h1 : Nat) (kf : Nat → Int32) (kz : Int32) (ks : Int32) (kg : Int32) (k0 : Int32) (k1 : Int32) (a1 : Int32) (post : Int32 → Prop) (hv : qX0_countChoices kf kz ks a1 post) : Met l yX0_countChoices wsX0_countChoices ({ frames := 1, cells := 0, slots := 0, locals := 21 }) (va_Pc [.ref h0, .int a1] (kB D cI cB [(h0, .inr (2, [.ref h1, .int kz, .int ks, .int kg, .int k0, .int k1])), (h1, .inl (cI, 12, .inl kf))])) (vp_Si post) 0 0 (fun _ => False) := by
  refine Met.ofW (cc := cX0_countChoices) (maxL := 5) (ret := (some .int)) (by decide) rfl ?_
  intro p e s m args below meth c s₁ B hml hv0
  obtain ⟨rfl, hP, hK, hN⟩ := hv0
  have hx := B.exec
  have hb := B.bytes
  have hr := B.returns
  have hts := atoms_spec (ws := wsX0_countChoices) B.pre
  have hown : s.vm.findClass RX0 = some m.cls := findClass_of_methodNamed B.named
  have hlocks := B.notSynchronized
  have hi_X0 : ∀ w ∈ wsX00, w ∈ wsX0_countChoices := by decide +kernel
  have hF15 := hts (.fieldLink RX0 15 "Roadgame$Chart" "size" "I") (by decide +kernel)
  have hl := lv_entry ([.ref h0, .int a1]) (n := 5) (Nat.le_of_ble_eq_true rfl)
  rw [lg_entry_eq]
  generalize (lg_sl ([.ref h0, .int a1]) ++ List.replicate (5 - (lg_sl ([.ref h0, .int a1])).length) Slot.unset).toArray = ls at hl ⊢
  have hl : lv_has ls 5 [(0, .ref h0), (1, .int a1)] := hl
  refine lv_iconst (v := (1 : Int32)) hx hb dX0_countChoices_0 (by decide) ?_
  refine lv_istore_n (lv' := [(2, .int (1 : Int32)), (0, .ref h0), (1, .int a1)]) hx hb dX0_countChoices_1 rfl hl (by decide) rfl (fun ls hl => ?_)
  refine lv_iconst (v := (0 : Int32)) hx hb dX0_countChoices_2 (by decide) ?_
  refine lv_istore_n (lv' := [(3, .int (0 : Int32)), (2, .int (1 : Int32)), (0, .ref h0), (1, .int a1)]) hx hb dX0_countChoices_3 rfl hl (by decide) rfl (fun ls hl => ?_)
  have L4 : ∀ (K4_47 : Int32 → Int32 → Prop), (∀ (v2_4 : Int32) (v3_4 : Int32) (ls : Array Slot), K4_47 v2_4 v3_4 → lv_has ls 5 [(0, .ref h0), (1, .int a1), (2, .int v2_4), (3, .int v3_4)] → W p l e (headSpec wsX0_countChoices ({ frames := 1, cells := 0, slots := 0, locals := 21 })).room s m ([.ref h0, .int a1] : List Value).toArray below meth c s.heap [] 0 0 (MQ below (vp_Si post) ([.ref h0, .int a1] : List Value).toArray s 0 0 (fun _ => False)) (F0 m 47 ls [])) → ∀ (n4 : Nat) (v2_4 : Int32) (v3_4 : Int32) (ls : Array Slot), qX0_countChoices_4 kf kz ks a1 K4_47 n4 v2_4 v3_4 → lv_has ls 5 [(0, .ref h0), (1, .int a1), (2, .int v2_4), (3, .int v3_4)] → W p l e (headSpec wsX0_countChoices ({ frames := 1, cells := 0, slots := 0, locals := 21 })).room s m ([.ref h0, .int a1] : List Value).toArray below meth c s.heap [] 0 0 (MQ below (vp_Si post) ([.ref h0, .int a1] : List Value).toArray s 0 0 (fun _ => False)) (F0 m 4 ls []) := by
    intro K4_47 hk4_47
    intro n4
    induction n4 with
    | zero => intro v2_4 v3_4 ls hv hl; exact hv.elim
    | succ n4 ih4 =>
      intro v2_4 v3_4 ls hv hl
      refine lv_iload_n hx hb dX0_countChoices_4 rfl (lv_at hl 3 rfl) ?_
      refine lv_aload_n hx hb dX0_countChoices_5 rfl (lv_at hl 0 rfl) ?_
      refine va_get (D := D) (ci := 2) (v := .int kz) (C := RX0) (T := TX0) (N := 6) hx hb hts hi_X0 hown hK hP 0 rfl rfl 1 (by decide) hF15 (fun _ h9 => h9) rfl dX0_countChoices_6 ?_
      refine lv_icmp_ge (tgt := 47) hx hb dX0_countChoices_9 (by decide) (fun hc => ?_) (fun hc => ?_)
      · have hv := hv.1 hc
        exact hk4_47 _ _ ls hv (lv_sub hl [0, 1, 2, 3] rfl)
      · have hv := hv.2 hc
        refine lv_aload_n hx hb dX0_countChoices_12 rfl (lv_at hl 0 rfl) ?_
        refine lv_iload_n hx hb dX0_countChoices_13 rfl (lv_at hl 3 rfl) ?_
        refine kc_V (As := [.int v3_4]) (rest := []) ⟨hx, hb, hml, hown, hts⟩ (kX0_waysFrom l D cI cB h0 h1 kf kz ks kg k0 k1 v3_4 _ hv) (cwV 1 hts gX0_countChoices_X0_waysFrom rfl rfl rfl (by decide +kernel) ⟨Nat.le_of_ble_eq_true rfl, Nat.le_of_ble_eq_true rfl⟩) hP hK hN 2 rfl rfl rfl rfl hl.1 rfl (Nat.le_of_ble_eq_true rfl) dX0_countChoices_14 ⟨Nat.zero_le _, Nat.zero_le _⟩ (fun r14 hv => ?_)
        refine kc_S (As := [.int r14]) (rest := []) ⟨hx, hb, hml, hown, hts⟩ (kJ6_bitCount_0f7a4 l D cI cB r14 _ hv) (va_cwS 1 hts gX0_countChoices_J6_bitCount_0f7a4 rfl rfl rfl (by decide +kernel) ⟨Nat.le_of_ble_eq_true rfl, Nat.le_of_ble_eq_true rfl⟩) (hP.sub (ws' := []) [] rfl) hK hN rfl hl.1 rfl (Nat.le_of_ble_eq_true rfl) dX0_countChoices_17 ⟨Nat.zero_le _, Nat.zero_le _⟩ (fun r17 hv => ?_)
        refine lv_istore (lv' := [(4, .int r17), (0, .ref h0), (1, .int a1), (2, .int v2_4), (3, .int v3_4)]) hx hb dX0_countChoices_20 hl (by decide) rfl (fun ls hl => ?_)
        refine lv_iload hx hb dX0_countChoices_22 (lv_at hl 0 rfl) ?_
        refine lv_if_le (tgt := 41) hx hb dX0_countChoices_24 (by decide) (fun hc => ?_) (fun hc => ?_)
        · have hv := hv.1 hc
          refine lv_iinc (v := (v3_4 + (1 : Int32))) (lv' := [(3, .int (v3_4 + (1 : Int32))), (4, .int r17), (0, .ref h0), (1, .int a1), (2, .int v2_4)]) hx hb dX0_countChoices_41 hl (k := 4) rfl rfl (by decide) rfl (fun ls hl => ?_)
          refine lv_goto (tgt := 4) hx hb dX0_countChoices_44 (by decide) ?_
          exact ih4 _ _ ls hv (lv_sub hl [2, 3, 4, 0] rfl)
        · have hv := hv.2 hc
          refine lv_aload_n hx hb dX0_countChoices_27 rfl (lv_at hl 1 rfl) ?_
          refine lv_iload_n hx hb dX0_countChoices_28 rfl (lv_at hl 4 rfl) ?_
          refine kc_V (As := [.int v3_4]) (rest := []) ⟨hx, hb, hml, hown, hts⟩ (kX0_sideOf l D cI cB h0 h1 kf kz ks kg k0 k1 v3_4 _ hv) (cwV 1 hts gX0_countChoices_X0_sideOf rfl rfl rfl (by decide +kernel) ⟨Nat.le_of_ble_eq_true rfl, Nat.le_of_ble_eq_true rfl⟩) hP hK hN 2 rfl rfl rfl rfl hl.1 rfl (Nat.le_of_ble_eq_true rfl) dX0_countChoices_29 ⟨Nat.zero_le _, Nat.zero_le _⟩ (fun r29 hv => ?_)
          refine lv_iload_n hx hb dX0_countChoices_32 rfl (lv_at hl 2 rfl) ?_
          refine lv_icmp_ne (tgt := 41) hx hb dX0_countChoices_33 (by decide) (fun hc => ?_) (fun hc => ?_)
          · have hv := hv.1 hc
            refine lv_iinc (v := (v3_4 + (1 : Int32))) (lv' := [(3, .int (v3_4 + (1 : Int32))), (4, .int r17), (0, .ref h0), (1, .int a1), (2, .int v2_4)]) hx hb dX0_countChoices_41 hl (k := 4) rfl rfl (by decide) rfl (fun ls hl => ?_)
            refine lv_goto (tgt := 4) hx hb dX0_countChoices_44 (by decide) ?_
            exact ih4 _ _ ls hv (lv_sub hl [2, 3, 4, 0] rfl)
          · have hv := hv.2 hc
            refine lv_iload_n hx hb dX0_countChoices_36 rfl (lv_at hl 3 rfl) ?_
            refine lv_iload hx hb dX0_countChoices_37 (lv_at hl 0 rfl) ?_
            refine lv_imul hx hb dX0_countChoices_39 ?_
            refine lv_istore_n (lv' := [(2, .int (v2_4 * r17)), (4, .int r17), (0, .ref h0), (1, .int a1), (3, .int v3_4)]) hx hb dX0_countChoices_40 rfl hl (by decide) rfl (fun ls hl => ?_)
            refine lv_iinc (v := (v3_4 + (1 : Int32))) (lv' := [(3, .int (v3_4 + (1 : Int32))), (2, .int (v2_4 * r17)), (4, .int r17), (0, .ref h0), (1, .int a1)]) hx hb dX0_countChoices_41 hl (k := 4) rfl rfl (by decide) rfl (fun ls hl => ?_)
            refine lv_goto (tgt := 4) hx hb dX0_countChoices_44 (by decide) ?_
            exact ih4 _ _ ls hv (lv_sub hl [3, 4, 1, 0] rfl)
  obtain ⟨n4, hv⟩ := hv
  refine L4 _ (fun v2_4x v3_4x ls hv hl => ?_) n4 _ _ _ hv (lv_sub hl [2, 3, 1, 0] rfl)
  refine lv_iload_n hx hb dX0_countChoices_47 rfl (lv_at hl 2 rfl) ?_
  exact W.iret (v := v2_4x) hx hb hr (kSi_ret rfl hv) (fun _ h => by cases h) dX0_countChoices_48
set_option maxHeartbeats 4000000 in
set_option maxRecDepth 100000 in
theorem kX0_seenBefore (l : Launch) (D : va_G) (cI cB : ClassId) (h0 : Nat) (h1 : Nat) (kf : Nat → Int32) (kz : Int32) (ks : Int32) (kg : Int32) (k0 : Int32) (k1 : Int32) (a1 : Int32) (a2 : Int32) (post : Int32 → Prop) (hv : qX0_seenBefore kf kz ks a1 a2 post) : Met l yX0_seenBefore wsX0_seenBefore ({ frames := 0, cells := 0, slots := 0, locals := 0 }) (va_Pc [.ref h0, .int a1, .int a2] (kB D cI cB [(h0, .inr (2, [.ref h1, .int kz, .int ks, .int kg, .int k0, .int k1])), (h1, .inl (cI, 12, .inl kf))])) (vp_Si post) 0 0 (fun _ => False) := by
  refine Met.ofW (cc := cX0_seenBefore) (maxL := 7) (ret := (some .int)) (by decide) rfl ?_
  intro p e s m args below meth c s₁ B hml hv0
  obtain ⟨rfl, hP, hK, hN⟩ := hv0
  have hx := B.exec
  have hb := B.bytes
  have hr := B.returns
  have hts := atoms_spec (ws := wsX0_seenBefore) B.pre
  have hown : s.vm.findClass RX0 = some m.cls := findClass_of_methodNamed B.named
  have hlocks := B.notSynchronized
  have hi_X0 : ∀ w ∈ wsX00, w ∈ wsX0_seenBefore := by decide +kernel
  have hF9 := hts (.fieldLink RX0 9 "Roadgame$Chart" "next" "[I") (by decide +kernel)
  have hF15 := hts (.fieldLink RX0 15 "Roadgame$Chart" "size" "I") (by decide +kernel)
  have hF19 := hts (.fieldLink RX0 19 "Roadgame$Chart" "second" "I") (by decide +kernel)
  have hl := lv_entry ([.ref h0, .int a1, .int a2]) (n := 7) (Nat.le_of_ble_eq_true rfl)
  rw [lg_entry_eq]
  generalize (lg_sl ([.ref h0, .int a1, .int a2]) ++ List.replicate (7 - (lg_sl ([.ref h0, .int a1, .int a2])).length) Slot.unset).toArray = ls at hl ⊢
  have hl : lv_has ls 7 [(0, .ref h0), (1, .int a1), (2, .int a2)] := hl
  refine lv_iconst (v := (0 : Int32)) hx hb dX0_seenBefore_0 (by decide) ?_
  refine lv_istore_n (lv' := [(3, .int (0 : Int32)), (0, .ref h0), (1, .int a1), (2, .int a2)]) hx hb dX0_seenBefore_1 rfl hl (by decide) rfl (fun ls hl => ?_)
  refine lv_iconst (v := (0 : Int32)) hx hb dX0_seenBefore_2 (by decide) ?_
  refine lv_istore (lv' := [(4, .int (0 : Int32)), (3, .int (0 : Int32)), (0, .ref h0), (1, .int a1), (2, .int a2)]) hx hb dX0_seenBefore_3 hl (by decide) rfl (fun ls hl => ?_)
  have L5 : ∀ (K5_108 : Int32 → Int32 → Prop), (∀ (v3_5 : Int32) (v4_5 : Int32) (ls : Array Slot), K5_108 v3_5 v4_5 → lv_has ls 7 [(0, .ref h0), (1, .int a1), (2, .int a2), (3, .int v3_5), (4, .int v4_5)] → W p l e (headSpec wsX0_seenBefore ({ frames := 0, cells := 0, slots := 0, locals := 0 })).room s m ([.ref h0, .int a1, .int a2] : List Value).toArray below meth c s.heap [] 0 0 (MQ below (vp_Si post) ([.ref h0, .int a1, .int a2] : List Value).toArray s 0 0 (fun _ => False)) (F0 m 108 ls [])) → ∀ (n5 : Nat) (v3_5 : Int32) (v4_5 : Int32) (ls : Array Slot), qX0_seenBefore_5 kf kz ks a1 a2 K5_108 n5 v3_5 v4_5 → lv_has ls 7 [(0, .ref h0), (1, .int a1), (2, .int a2), (3, .int v3_5), (4, .int v4_5)] → W p l e (headSpec wsX0_seenBefore ({ frames := 0, cells := 0, slots := 0, locals := 0 })).room s m ([.ref h0, .int a1, .int a2] : List Value).toArray below meth c s.heap [] 0 0 (MQ below (vp_Si post) ([.ref h0, .int a1, .int a2] : List Value).toArray s 0 0 (fun _ => False)) (F0 m 5 ls []) := by
    intro K5_108 hk5_108
    intro n5
    induction n5 with
    | zero => intro v3_5 v4_5 ls hv hl; exact hv.elim
    | succ n5 ih5 =>
      intro v3_5 v4_5 ls hv hl
      refine lv_iload hx hb dX0_seenBefore_5 (lv_at hl 4 rfl) ?_
      refine lv_aload_n hx hb dX0_seenBefore_7 rfl (lv_at hl 0 rfl) ?_
      refine va_get (D := D) (ci := 2) (v := .int kz) (C := RX0) (T := TX0) (N := 6) hx hb hts hi_X0 hown hK hP 0 rfl rfl 1 (by decide) hF15 (fun _ h9 => h9) rfl dX0_seenBefore_8 ?_
      refine lv_icmp_ge (tgt := 108) hx hb dX0_seenBefore_11 (by decide) (fun hc => ?_) (fun hc => ?_)
      · have hv := hv.1 hc
        exact hk5_108 _ _ ls hv (lv_sub hl [0, 1, 2, 3, 4] rfl)
      · have hv := hv.2 hc
        refine lv_iload hx hb dX0_seenBefore_14 (lv_at hl 4 rfl) ?_
        refine lv_aload_n hx hb dX0_seenBefore_16 rfl (lv_at hl 0 rfl) ?_
        refine va_get (D := D) (ci := 2) (v := .ref h1) (C := RX0) (T := TX0) (N := 6) hx hb hts hi_X0 hown hK hP 0 rfl rfl 0 (by decide) hF9 (fun _ h9 => h9) rfl dX0_seenBefore_17 ?_
        refine va_alen (v := (12 : Int32)) hx hb hK hP 1 0 rfl rfl (by first | rfl | decide) dX0_seenBefore_20 ?_
        refine lv_icmp_ge (tgt := 108) hx hb dX0_seenBefore_21 (by decide) (fun hc => ?_) (fun hc => ?_)
        · have hv := hv.1 hc
          exact hk5_108 _ _ ls hv (lv_sub hl [0, 1, 2, 3, 4] rfl)
        · have hv := hv.2 hc
          refine lv_aload_n hx hb dX0_seenBefore_24 rfl (lv_at hl 0 rfl) ?_
          refine va_get (D := D) (ci := 2) (v := .int ks) (C := RX0) (T := TX0) (N := 6) hx hb hts hi_X0 hown hK hP 0 rfl rfl 2 (by decide) hF19 (fun _ h9 => h9) rfl dX0_seenBefore_25 ?_
          refine lv_iload hx hb dX0_seenBefore_28 (lv_at hl 4 rfl) ?_
          refine lv_ishr hx hb dX0_seenBefore_30 ?_
          refine lv_iconst (v := (1 : Int32)) hx hb dX0_seenBefore_31 (by decide) ?_
          refine lv_iand hx hb dX0_seenBefore_32 ?_
          refine lv_iload_n hx hb dX0_seenBefore_33 rfl (lv_at hl 2 rfl) ?_
          refine lv_icmp_ne (tgt := 41) hx hb dX0_seenBefore_34 (by decide) (fun hc => ?_) (fun hc => ?_)
          · have hv := hv.1 hc
            refine lv_iconst (v := (0 : Int32)) hx hb dX0_seenBefore_41 (by decide) ?_
            refine lv_istore (lv' := [(5, .int (0 : Int32)), (0, .ref h0), (1, .int a1), (2, .int a2), (3, .int v3_5), (4, .int v4_5)]) hx hb dX0_seenBefore_42 hl (by decide) rfl (fun ls hl => ?_)
            refine lv_iload hx hb dX0_seenBefore_44 (lv_at hl 0 rfl) ?_
            refine lv_if_eq (tgt := 69) hx hb dX0_seenBefore_46 (by decide) (fun hc => ?_) (fun hc => absurd hc (by decide))
            refine lv_aload_n hx hb dX0_seenBefore_69 rfl (lv_at hl 1 rfl) ?_
            refine va_get (D := D) (ci := 2) (v := .ref h1) (C := RX0) (T := TX0) (N := 6) hx hb hts hi_X0 hown hK hP 0 rfl rfl 0 (by decide) hF9 (fun _ h9 => h9) rfl dX0_seenBefore_70 ?_
            refine lv_iload hx hb dX0_seenBefore_73 (lv_at hl 5 rfl) ?_
            obtain ⟨hq, hv⟩ := hv
            refine va_iald hx hb hK hP 1 0 rfl rfl hq dX0_seenBefore_75 ?_
            refine lv_iload_n hx hb dX0_seenBefore_76 rfl (lv_at hl 2 rfl) ?_
            refine lv_iconst (v := (-1 : Int32)) hx hb dX0_seenBefore_77 (by decide) ?_
            refine lv_ixor hx hb dX0_seenBefore_78 ?_
            refine lv_iand hx hb dX0_seenBefore_79 ?_
            refine lv_if_ne (tgt := 87) hx hb dX0_seenBefore_80 (by decide) (fun hc => ?_) (fun hc => ?_)
            · have hv := hv.1 hc
              refine lv_iconst (v := (0 : Int32)) hx hb dX0_seenBefore_87 (by decide) ?_
              refine lv_istore (lv' := [(6, .int (0 : Int32)), (5, .int (0 : Int32)), (0, .ref h0), (1, .int a1), (2, .int a2), (3, .int v3_5), (4, .int v4_5)]) hx hb dX0_seenBefore_88 hl (by decide) rfl (fun ls hl => ?_)
              refine lv_iload hx hb dX0_seenBefore_90 (lv_at hl 0 rfl) ?_
              refine lv_if_eq (tgt := 102) hx hb dX0_seenBefore_92 (by decide) (fun hc => ?_) (fun hc => absurd hc (by decide))
              refine lv_iinc (v := (v4_5 + (1 : Int32))) (lv' := [(4, .int (v4_5 + (1 : Int32))), (6, .int (0 : Int32)), (5, .int (0 : Int32)), (0, .ref h0), (1, .int a1), (2, .int a2), (3, .int v3_5)]) hx hb dX0_seenBefore_102 hl (k := 6) rfl rfl (by decide) rfl (fun ls hl => ?_)
              refine lv_goto (tgt := 5) hx hb dX0_seenBefore_105 (by decide) ?_
              exact ih5 _ _ ls hv (lv_sub hl [3, 4, 5, 6, 0] rfl)
            · have hv := hv.2 hc
              refine lv_iconst (v := (1 : Int32)) hx hb dX0_seenBefore_83 (by decide) ?_
              refine lv_goto (tgt := 88) hx hb dX0_seenBefore_84 (by decide) ?_
              refine lv_istore (lv' := [(6, .int (1 : Int32)), (5, .int (0 : Int32)), (0, .ref h0), (1, .int a1), (2, .int a2), (3, .int v3_5), (4, .int v4_5)]) hx hb dX0_seenBefore_88 hl (by decide) rfl (fun ls hl => ?_)
              refine lv_iload hx hb dX0_seenBefore_90 (lv_at hl 0 rfl) ?_
              refine lv_if_eq (tgt := 102) hx hb dX0_seenBefore_92 (by decide) (fun hc => absurd hc (by decide)) (fun hc => ?_)
              refine lv_iload_n hx hb dX0_seenBefore_95 rfl (lv_at hl 5 rfl) ?_
              refine lv_iconst (v := (1 : Int32)) hx hb dX0_seenBefore_96 (by decide) ?_
              refine lv_iload hx hb dX0_seenBefore_97 (lv_at hl 6 rfl) ?_
              refine lv_ishl hx hb dX0_seenBefore_99 ?_
              refine lv_ior hx hb dX0_seenBefore_100 ?_
              refine lv_istore_n (lv' := [(3, .int (v3_5 ||| ((1 : Int32) <<< (v4_5 &&& (31 : Int32))))), (6, .int (1 : Int32)), (5, .int (0 : Int32)), (0, .ref h0), (1, .int a1), (2, .int a2), (4, .int v4_5)]) hx hb dX0_seenBefore_101 rfl hl (by decide) rfl (fun ls hl => ?_)
              refine lv_iinc (v := (v4_5 + (1 : Int32))) (lv' := [(4, .int (v4_5 + (1 : Int32))), (3, .int (v3_5 ||| ((1 : Int32) <<< (v4_5 &&& (31 : Int32))))), (6, .int (1 : Int32)), (5, .int (0 : Int32)), (0, .ref h0), (1, .int a1), (2, .int a2)]) hx hb dX0_seenBefore_102 hl (k := 6) rfl rfl (by decide) rfl (fun ls hl => ?_)
              refine lv_goto (tgt := 5) hx hb dX0_seenBefore_105 (by decide) ?_
              exact ih5 _ _ ls hv (lv_sub hl [4, 5, 6, 1, 0] rfl)
          · have hv := hv.2 hc
            refine lv_iconst (v := (1 : Int32)) hx hb dX0_seenBefore_37 (by decide) ?_
            refine lv_goto (tgt := 42) hx hb dX0_seenBefore_38 (by decide) ?_
            refine lv_istore (lv' := [(5, .int (1 : Int32)), (0, .ref h0), (1, .int a1), (2, .int a2), (3, .int v3_5), (4, .int v4_5)]) hx hb dX0_seenBefore_42 hl (by decide) rfl (fun ls hl => ?_)
            refine lv_iload hx hb dX0_seenBefore_44 (lv_at hl 0 rfl) ?_
            refine lv_if_eq (tgt := 69) hx hb dX0_seenBefore_46 (by decide) (fun hc => absurd hc (by decide)) (fun hc => ?_)
            refine lv_aload_n hx hb dX0_seenBefore_49 rfl (lv_at hl 1 rfl) ?_
            refine va_get (D := D) (ci := 2) (v := .ref h1) (C := RX0) (T := TX0) (N := 6) hx hb hts hi_X0 hown hK hP 0 rfl rfl 0 (by decide) hF9 (fun _ h9 => h9) rfl dX0_seenBefore_50 ?_
            refine lv_iload hx hb dX0_seenBefore_53 (lv_at hl 5 rfl) ?_
            obtain ⟨hq, hv⟩ := hv
            refine va_iald hx hb hK hP 1 0 rfl rfl hq dX0_seenBefore_55 ?_
            refine lv_iload_n hx hb dX0_seenBefore_56 rfl (lv_at hl 2 rfl) ?_
            refine lv_iand hx hb dX0_seenBefore_57 ?_
            refine lv_if_eq (tgt := 65) hx hb dX0_seenBefore_58 (by decide) (fun hc => ?_) (fun hc => ?_)
            · have hv := hv.1 hc
              refine lv_iconst (v := (0 : Int32)) hx hb dX0_seenBefore_65 (by decide) ?_
              refine lv_goto (tgt := 88) hx hb dX0_seenBefore_66 (by decide) ?_
              refine lv_istore (lv' := [(6, .int (0 : Int32)), (5, .int (1 : Int32)), (0, .ref h0), (1, .int a1), (2, .int a2), (3, .int v3_5), (4, .int v4_5)]) hx hb dX0_seenBefore_88 hl (by decide) rfl (fun ls hl => ?_)
              refine lv_iload hx hb dX0_seenBefore_90 (lv_at hl 0 rfl) ?_
              refine lv_if_eq (tgt := 102) hx hb dX0_seenBefore_92 (by decide) (fun hc => ?_) (fun hc => absurd hc (by decide))
              refine lv_iinc (v := (v4_5 + (1 : Int32))) (lv' := [(4, .int (v4_5 + (1 : Int32))), (6, .int (0 : Int32)), (5, .int (1 : Int32)), (0, .ref h0), (1, .int a1), (2, .int a2), (3, .int v3_5)]) hx hb dX0_seenBefore_102 hl (k := 6) rfl rfl (by decide) rfl (fun ls hl => ?_)
              refine lv_goto (tgt := 5) hx hb dX0_seenBefore_105 (by decide) ?_
              exact ih5 _ _ ls hv (lv_sub hl [3, 4, 5, 6, 0] rfl)
            · have hv := hv.2 hc
              refine lv_iconst (v := (1 : Int32)) hx hb dX0_seenBefore_61 (by decide) ?_
              refine lv_goto (tgt := 88) hx hb dX0_seenBefore_62 (by decide) ?_
              refine lv_istore (lv' := [(6, .int (1 : Int32)), (5, .int (1 : Int32)), (0, .ref h0), (1, .int a1), (2, .int a2), (3, .int v3_5), (4, .int v4_5)]) hx hb dX0_seenBefore_88 hl (by decide) rfl (fun ls hl => ?_)
              refine lv_iload hx hb dX0_seenBefore_90 (lv_at hl 0 rfl) ?_
              refine lv_if_eq (tgt := 102) hx hb dX0_seenBefore_92 (by decide) (fun hc => absurd hc (by decide)) (fun hc => ?_)
              refine lv_iload_n hx hb dX0_seenBefore_95 rfl (lv_at hl 5 rfl) ?_
              refine lv_iconst (v := (1 : Int32)) hx hb dX0_seenBefore_96 (by decide) ?_
              refine lv_iload hx hb dX0_seenBefore_97 (lv_at hl 6 rfl) ?_
              refine lv_ishl hx hb dX0_seenBefore_99 ?_
              refine lv_ior hx hb dX0_seenBefore_100 ?_
              refine lv_istore_n (lv' := [(3, .int (v3_5 ||| ((1 : Int32) <<< (v4_5 &&& (31 : Int32))))), (6, .int (1 : Int32)), (5, .int (1 : Int32)), (0, .ref h0), (1, .int a1), (2, .int a2), (4, .int v4_5)]) hx hb dX0_seenBefore_101 rfl hl (by decide) rfl (fun ls hl => ?_)
              refine lv_iinc (v := (v4_5 + (1 : Int32))) (lv' := [(4, .int (v4_5 + (1 : Int32))), (3, .int (v3_5 ||| ((1 : Int32) <<< (v4_5 &&& (31 : Int32))))), (6, .int (1 : Int32)), (5, .int (1 : Int32)), (0, .ref h0), (1, .int a1), (2, .int a2)]) hx hb dX0_seenBefore_102 hl (k := 6) rfl rfl (by decide) rfl (fun ls hl => ?_)
              refine lv_goto (tgt := 5) hx hb dX0_seenBefore_105 (by decide) ?_
              exact ih5 _ _ ls hv (lv_sub hl [4, 5, 6, 1, 0] rfl)
  obtain ⟨n5, hv⟩ := hv
  refine L5 _ (fun v3_5x v4_5x ls hv hl => ?_) n5 _ _ _ hv (lv_sub hl [2, 3, 4, 1, 0] rfl)
  refine lv_iload_n hx hb dX0_seenBefore_108 rfl (lv_at hl 3 rfl) ?_
  exact W.iret (v := v3_5x) hx hb hr (kSi_ret rfl hv) (fun _ h => by cases h) dX0_seenBefore_109
