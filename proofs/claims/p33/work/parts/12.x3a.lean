/-! walks by program (wip/gen): J6_numberOfTrailingZeros_0f7a4, X3_all, X3_sideOf, X3_isIn, X3_waysNow, X3_aheadOf, X3_toward, X3_comingOf, X3_keepingOf, X3_fallen, X3_againOf, X3_fallsOf, X3_withRank, X3_rankedOf, X3_wonIn, X3_roundsTo, X3_choiceOf, X3_choicesOf, X3_isPlace, X3_isSide, X3_stuck, X3_toldNow, X3_ofPlaceNow -/
set_option maxHeartbeats 4000000 in
set_option maxRecDepth 100000 in
theorem kJ6_numberOfTrailingZeros_0f7a4 (l : Launch) (D : va_G) (cI cB : ClassId)   (a0 : Int32) (post : Int32 → Prop) (hv : qJ6_numberOfTrailingZeros_0f7a4 a0 post) : Met l yJ6_numberOfTrailingZeros_0f7a4 wsJ6_numberOfTrailingZeros_0f7a4 ({ frames := 0, cells := 0, slots := 0, locals := 0 }) (va_Pc [.int a0] (kB D cI cB [])) (vp_Si post) 0 0 (fun _ => False) := by
  refine Met.ofW (cc := cJ6_numberOfTrailingZeros_0f7a4) (maxL := 2) (ret := (some .int)) (by decide) rfl ?_
  intro p e s m args below meth c s₁ B hml hv0
  obtain ⟨rfl, hP, hK, hN⟩ := hv0
  have hx := B.exec
  have hb := B.bytes
  have hr := B.returns
  have hts := atoms_spec (ws := wsJ6_numberOfTrailingZeros_0f7a4) B.pre
  have hown : s.vm.findClass RJ6 = some m.cls := findClass_of_methodNamed B.named
  have hlocks := B.notSynchronized
  have hC264 := hts (.constant RJ6 264 (65536 : Int32)) (by decide +kernel)
  have hl := lv_entry ([.int a0]) (n := 2) (Nat.le_of_ble_eq_true rfl)
  rw [lg_entry_eq]
  generalize (lg_sl ([.int a0]) ++ List.replicate (2 - (lg_sl ([.int a0])).length) Slot.unset).toArray = ls at hl ⊢
  have hl : lv_has ls 2 [(0, .int a0)] := hl
  refine lv_iload_n hx hb dJ6_numberOfTrailingZeros_0f7a4_0 rfl (lv_at hl 0 rfl) ?_
  refine lv_iconst (v := (-1 : Int32)) hx hb dJ6_numberOfTrailingZeros_0f7a4_1 (by decide) ?_
  refine lv_ixor hx hb dJ6_numberOfTrailingZeros_0f7a4_2 ?_
  refine lv_iload_n hx hb dJ6_numberOfTrailingZeros_0f7a4_3 rfl (lv_at hl 0 rfl) ?_
  refine lv_iconst (v := (1 : Int32)) hx hb dJ6_numberOfTrailingZeros_0f7a4_4 (by decide) ?_
  refine lv_isub hx hb dJ6_numberOfTrailingZeros_0f7a4_5 ?_
  refine lv_iand hx hb dJ6_numberOfTrailingZeros_0f7a4_6 ?_
  refine lv_istore_n (lv' := [(0, .int ((a0 ^^^ (-1 : Int32)) &&& (a0 - (1 : Int32))))]) hx hb dJ6_numberOfTrailingZeros_0f7a4_7 rfl hl (by decide) rfl (fun ls hl => ?_)
  refine lv_iload_n hx hb dJ6_numberOfTrailingZeros_0f7a4_8 rfl (lv_at hl 0 rfl) ?_
  refine lv_if_gt (tgt := 17) hx hb dJ6_numberOfTrailingZeros_0f7a4_9 (by decide) (fun hc => ?_) (fun hc => ?_)
  · have hv := hv.1 hc
    refine lv_iconst (v := (1 : Int32)) hx hb dJ6_numberOfTrailingZeros_0f7a4_17 (by decide) ?_
    refine lv_istore_n (lv' := [(1, .int (1 : Int32)), (0, .int ((a0 ^^^ (-1 : Int32)) &&& (a0 - (1 : Int32))))]) hx hb dJ6_numberOfTrailingZeros_0f7a4_18 rfl hl (by decide) rfl (fun ls hl => ?_)
    refine lv_iload_n hx hb dJ6_numberOfTrailingZeros_0f7a4_19 rfl (lv_at hl 1 rfl) ?_
    refine lv_ldcw (v := (65536 : Int32)) hx hb hown hC264 dJ6_numberOfTrailingZeros_0f7a4_20 ?_
    have J34 : ∀ (v0_j34 : Int32) (v1_j34 : Int32) (ls : Array Slot), qJ6_numberOfTrailingZeros_0f7a4_j34 v0_j34 v1_j34 post → lv_has ls 2 [(0, .int v0_j34), (1, .int v1_j34)] → W p l e (headSpec wsJ6_numberOfTrailingZeros_0f7a4 ({ frames := 0, cells := 0, slots := 0, locals := 0 })).room s m ([.int a0] : List Value).toArray below meth c s.heap [] 0 0 (MQ below (vp_Si post) ([.int a0] : List Value).toArray s 0 0 (fun _ => False)) (F0 m 34 ls []) := by
      intro v0_j34 v1_j34 ls hv hl
      refine lv_iload_n hx hb dJ6_numberOfTrailingZeros_0f7a4_34 rfl (lv_at hl 0 rfl) ?_
      refine lv_sipush (v := (256 : Int32)) hx hb dJ6_numberOfTrailingZeros_0f7a4_35 (by decide) ?_
      have J49 : ∀ (v0_j49 : Int32) (v1_j49 : Int32) (ls : Array Slot), qJ6_numberOfTrailingZeros_0f7a4_j49 v0_j49 v1_j49 post → lv_has ls 2 [(0, .int v0_j49), (1, .int v1_j49)] → W p l e (headSpec wsJ6_numberOfTrailingZeros_0f7a4 ({ frames := 0, cells := 0, slots := 0, locals := 0 })).room s m ([.int a0] : List Value).toArray below meth c s.heap [] 0 0 (MQ below (vp_Si post) ([.int a0] : List Value).toArray s 0 0 (fun _ => False)) (F0 m 49 ls []) := by
        intro v0_j49 v1_j49 ls hv hl
        refine lv_iload_n hx hb dJ6_numberOfTrailingZeros_0f7a4_49 rfl (lv_at hl 0 rfl) ?_
        refine lv_bipush (v := (16 : Int32)) hx hb dJ6_numberOfTrailingZeros_0f7a4_50 (by decide) ?_
        have J62 : ∀ (v0_j62 : Int32) (v1_j62 : Int32) (ls : Array Slot), qJ6_numberOfTrailingZeros_0f7a4_j62 v0_j62 v1_j62 post → lv_has ls 2 [(0, .int v0_j62), (1, .int v1_j62)] → W p l e (headSpec wsJ6_numberOfTrailingZeros_0f7a4 ({ frames := 0, cells := 0, slots := 0, locals := 0 })).room s m ([.int a0] : List Value).toArray below meth c s.heap [] 0 0 (MQ below (vp_Si post) ([.int a0] : List Value).toArray s 0 0 (fun _ => False)) (F0 m 62 ls []) := by
          intro v0_j62 v1_j62 ls hv hl
          refine lv_iload_n hx hb dJ6_numberOfTrailingZeros_0f7a4_62 rfl (lv_at hl 0 rfl) ?_
          refine lv_iconst (v := (4 : Int32)) hx hb dJ6_numberOfTrailingZeros_0f7a4_63 (by decide) ?_
          refine lv_icmp_le (tgt := 74) hx hb dJ6_numberOfTrailingZeros_0f7a4_64 (by decide) (fun hc => ?_) (fun hc => ?_)
          · have hv := hv.1 hc
            refine lv_iload_n hx hb dJ6_numberOfTrailingZeros_0f7a4_74 rfl (lv_at hl 1 rfl) ?_
            refine lv_iload_n hx hb dJ6_numberOfTrailingZeros_0f7a4_75 rfl (lv_at hl 0 rfl) ?_
            refine lv_iconst (v := (1 : Int32)) hx hb dJ6_numberOfTrailingZeros_0f7a4_76 (by decide) ?_
            refine lv_iushr hx hb dJ6_numberOfTrailingZeros_0f7a4_77 rfl ?_
            refine lv_iadd hx hb dJ6_numberOfTrailingZeros_0f7a4_78 ?_
            exact W.iret (v := (v1_j62 + (v0_j62.toUInt32 >>> ((1 : Int32).toUInt32 &&& Int32.toUInt32 31)).toInt32)) hx hb hr (kSi_ret rfl hv) (fun _ h => by cases h) dJ6_numberOfTrailingZeros_0f7a4_79
          · have hv := hv.2 hc
            refine lv_iinc (v := (v1_j62 + (2 : Int32))) (lv' := [(1, .int (v1_j62 + (2 : Int32))), (0, .int v0_j62)]) hx hb dJ6_numberOfTrailingZeros_0f7a4_67 hl (k := 1) rfl rfl (by decide) rfl (fun ls hl => ?_)
            refine lv_iload_n hx hb dJ6_numberOfTrailingZeros_0f7a4_70 rfl (lv_at hl 1 rfl) ?_
            refine lv_iconst (v := (2 : Int32)) hx hb dJ6_numberOfTrailingZeros_0f7a4_71 (by decide) ?_
            refine lv_iushr hx hb dJ6_numberOfTrailingZeros_0f7a4_72 rfl ?_
            refine lv_istore_n (lv' := [(0, .int (v0_j62.toUInt32 >>> ((2 : Int32).toUInt32 &&& Int32.toUInt32 31)).toInt32), (1, .int (v1_j62 + (2 : Int32)))]) hx hb dJ6_numberOfTrailingZeros_0f7a4_73 rfl hl (by decide) rfl (fun ls hl => ?_)
            refine lv_iload_n hx hb dJ6_numberOfTrailingZeros_0f7a4_74 rfl (lv_at hl 1 rfl) ?_
            refine lv_iload_n hx hb dJ6_numberOfTrailingZeros_0f7a4_75 rfl (lv_at hl 0 rfl) ?_
            refine lv_iconst (v := (1 : Int32)) hx hb dJ6_numberOfTrailingZeros_0f7a4_76 (by decide) ?_
            refine lv_iushr hx hb dJ6_numberOfTrailingZeros_0f7a4_77 rfl ?_
            refine lv_iadd hx hb dJ6_numberOfTrailingZeros_0f7a4_78 ?_
            exact W.iret (v := ((v1_j62 + (2 : Int32)) + ((v0_j62.toUInt32 >>> ((2 : Int32).toUInt32 &&& Int32.toUInt32 31)).toInt32.toUInt32 >>> ((1 : Int32).toUInt32 &&& Int32.toUInt32 31)).toInt32)) hx hb hr (kSi_ret rfl hv) (fun _ h => by cases h) dJ6_numberOfTrailingZeros_0f7a4_79
        refine lv_icmp_le (tgt := 62) hx hb dJ6_numberOfTrailingZeros_0f7a4_52 (by decide) (fun hc => ?_) (fun hc => ?_)
        · have hv := hv.1 hc
          exact J62 _ _ _ hv (lv_sub hl [0, 1] rfl)
        · have hv := hv.2 hc
          refine lv_iinc (v := (v1_j49 + (4 : Int32))) (lv' := [(1, .int (v1_j49 + (4 : Int32))), (0, .int v0_j49)]) hx hb dJ6_numberOfTrailingZeros_0f7a4_55 hl (k := 1) rfl rfl (by decide) rfl (fun ls hl => ?_)
          refine lv_iload_n hx hb dJ6_numberOfTrailingZeros_0f7a4_58 rfl (lv_at hl 1 rfl) ?_
          refine lv_iconst (v := (4 : Int32)) hx hb dJ6_numberOfTrailingZeros_0f7a4_59 (by decide) ?_
          refine lv_iushr hx hb dJ6_numberOfTrailingZeros_0f7a4_60 rfl ?_
          refine lv_istore_n (lv' := [(0, .int (v0_j49.toUInt32 >>> ((4 : Int32).toUInt32 &&& Int32.toUInt32 31)).toInt32), (1, .int (v1_j49 + (4 : Int32)))]) hx hb dJ6_numberOfTrailingZeros_0f7a4_61 rfl hl (by decide) rfl (fun ls hl => ?_)
          exact J62 _ _ _ hv (lv_sub hl [0, 1] rfl)
      refine lv_icmp_le (tgt := 49) hx hb dJ6_numberOfTrailingZeros_0f7a4_38 (by decide) (fun hc => ?_) (fun hc => ?_)
      · have hv := hv.1 hc
        exact J49 _ _ _ hv (lv_sub hl [0, 1] rfl)
      · have hv := hv.2 hc
        refine lv_iinc (v := (v1_j34 + (8 : Int32))) (lv' := [(1, .int (v1_j34 + (8 : Int32))), (0, .int v0_j34)]) hx hb dJ6_numberOfTrailingZeros_0f7a4_41 hl (k := 1) rfl rfl (by decide) rfl (fun ls hl => ?_)
        refine lv_iload_n hx hb dJ6_numberOfTrailingZeros_0f7a4_44 rfl (lv_at hl 1 rfl) ?_
        refine lv_bipush (v := (8 : Int32)) hx hb dJ6_numberOfTrailingZeros_0f7a4_45 (by decide) ?_
        refine lv_iushr hx hb dJ6_numberOfTrailingZeros_0f7a4_47 rfl ?_
        refine lv_istore_n (lv' := [(0, .int (v0_j34.toUInt32 >>> ((8 : Int32).toUInt32 &&& Int32.toUInt32 31)).toInt32), (1, .int (v1_j34 + (8 : Int32)))]) hx hb dJ6_numberOfTrailingZeros_0f7a4_48 rfl hl (by decide) rfl (fun ls hl => ?_)
        exact J49 _ _ _ hv (lv_sub hl [0, 1] rfl)
    refine lv_icmp_le (tgt := 34) hx hb dJ6_numberOfTrailingZeros_0f7a4_23 (by decide) (fun hc => ?_) (fun hc => ?_)
    · have hv := hv.1 hc
      exact J34 _ _ _ hv (lv_sub hl [1, 0] rfl)
    · have hv := hv.2 hc
      refine lv_iinc (v := ((1 : Int32) + (16 : Int32))) (lv' := [(1, .int ((1 : Int32) + (16 : Int32))), (0, .int ((a0 ^^^ (-1 : Int32)) &&& (a0 - (1 : Int32))))]) hx hb dJ6_numberOfTrailingZeros_0f7a4_26 hl (k := 0) rfl rfl (by decide) rfl (fun ls hl => ?_)
      refine lv_iload_n hx hb dJ6_numberOfTrailingZeros_0f7a4_29 rfl (lv_at hl 1 rfl) ?_
      refine lv_bipush (v := (16 : Int32)) hx hb dJ6_numberOfTrailingZeros_0f7a4_30 (by decide) ?_
      refine lv_iushr hx hb dJ6_numberOfTrailingZeros_0f7a4_32 rfl ?_
      refine lv_istore_n (lv' := [(0, .int (((a0 ^^^ (-1 : Int32)) &&& (a0 - (1 : Int32))).toUInt32 >>> ((16 : Int32).toUInt32 &&& Int32.toUInt32 31)).toInt32), (1, .int ((1 : Int32) + (16 : Int32)))]) hx hb dJ6_numberOfTrailingZeros_0f7a4_33 rfl hl (by decide) rfl (fun ls hl => ?_)
      exact J34 _ _ _ hv (lv_sub hl [0, 1] rfl)
  · have hv := hv.2 hc
    refine lv_iload_n hx hb dJ6_numberOfTrailingZeros_0f7a4_12 rfl (lv_at hl 0 rfl) ?_
    refine lv_bipush (v := (32 : Int32)) hx hb dJ6_numberOfTrailingZeros_0f7a4_13 (by decide) ?_
    refine lv_iand hx hb dJ6_numberOfTrailingZeros_0f7a4_15 ?_
    exact W.iret (v := (((a0 ^^^ (-1 : Int32)) &&& (a0 - (1 : Int32))) &&& (32 : Int32))) hx hb hr (kSi_ret rfl hv) (fun _ h => by cases h) dJ6_numberOfTrailingZeros_0f7a4_16
set_option maxHeartbeats 4000000 in
set_option maxRecDepth 100000 in
theorem kX3_all (l : Launch) (D : va_G) (cI cB : ClassId) (h0 : Nat) (h1 : Nat) (h2 : Nat) (on : Int32) (oo : Int32) (og : Int32) (orl : Nat) (ork : Nat → Int32) (owl : Nat) (oww : Nat → Int32) (ost : Int32) (ord : Int32) (oac : Int32) (ore : Int32) (okn : Int32) (oth : Int32)  (post : Int32 → Prop) (hv : qX3_all on post) : Met l yX3_all wsX3_all ({ frames := 0, cells := 0, slots := 0, locals := 0 }) (va_Pc [.ref h0] (kB D cI cB [(h0, .inr (5, [.int on, .int oo, .int og, .ref h1, .ref h2, .int ost, .int ord, .int oac, .int ore, .int okn, .int oth])), (h1, .inl (cI, orl, .inl ork)), (h2, .inl (cI, owl, .inl oww))])) (vp_Si post) 0 0 (fun _ => False) := by
  refine Met.ofW (cc := cX3_all) (maxL := 1) (ret := (some .int)) (by decide) rfl ?_
  intro p e s m args below meth c s₁ B hml hv0
  obtain ⟨rfl, hP, hK, hN⟩ := hv0
  have hx := B.exec
  have hb := B.bytes
  have hr := B.returns
  have hts := atoms_spec (ws := wsX3_all) B.pre
  have hown : s.vm.findClass RX3 = some m.cls := findClass_of_methodNamed B.named
  have hlocks := B.notSynchronized
  have hi_X3 : ∀ w ∈ wsX30, w ∈ wsX3_all := by decide +kernel
  have hF17 := hts (.fieldLink RX3 17 "RoadgameModel" "n" "I") (by decide +kernel)
  have hl := lv_entry ([.ref h0]) (n := 1) (Nat.le_of_ble_eq_true rfl)
  rw [lg_entry_eq]
  generalize (lg_sl ([.ref h0]) ++ List.replicate (1 - (lg_sl ([.ref h0])).length) Slot.unset).toArray = ls at hl ⊢
  have hl : lv_has ls 1 [(0, .ref h0)] := hl
  refine lv_iconst (v := (1 : Int32)) hx hb dX3_all_0 (by decide) ?_
  refine lv_aload_n hx hb dX3_all_1 rfl (lv_at hl 0 rfl) ?_
  refine va_get (D := D) (ci := 5) (v := .int on) (C := RX3) (T := TX3) (N := 11) hx hb hts hi_X3 hown hK hP 0 rfl rfl 0 (by decide) hF17 (fun _ h9 => h9) rfl dX3_all_2 ?_
  refine lv_ishl hx hb dX3_all_5 ?_
  refine lv_iconst (v := (1 : Int32)) hx hb dX3_all_6 (by decide) ?_
  refine lv_isub hx hb dX3_all_7 ?_
  exact W.iret (v := (((1 : Int32) <<< (on &&& (31 : Int32))) - (1 : Int32))) hx hb hr (kSi_ret rfl hv) (fun _ h => by cases h) dX3_all_8
set_option maxHeartbeats 4000000 in
set_option maxRecDepth 100000 in
theorem kX3_sideOf (l : Launch) (D : va_G) (cI cB : ClassId) (h0 : Nat) (h1 : Nat) (h2 : Nat) (on : Int32) (oo : Int32) (og : Int32) (orl : Nat) (ork : Nat → Int32) (owl : Nat) (oww : Nat → Int32) (ost : Int32) (ord : Int32) (oac : Int32) (ore : Int32) (okn : Int32) (oth : Int32) (a1 : Int32) (post : Int32 → Prop) (hv : qX3_sideOf oo a1 post) : Met l yX3_sideOf wsX3_sideOf ({ frames := 0, cells := 0, slots := 0, locals := 0 }) (va_Pc [.ref h0, .int a1] (kB D cI cB [(h0, .inr (5, [.int on, .int oo, .int og, .ref h1, .ref h2, .int ost, .int ord, .int oac, .int ore, .int okn, .int oth])), (h1, .inl (cI, orl, .inl ork)), (h2, .inl (cI, owl, .inl oww))])) (vp_Si post) 0 0 (fun _ => False) := by
  refine Met.ofW (cc := cX3_sideOf) (maxL := 2) (ret := (some .int)) (by decide) rfl ?_
  intro p e s m args below meth c s₁ B hml hv0
  obtain ⟨rfl, hP, hK, hN⟩ := hv0
  have hx := B.exec
  have hb := B.bytes
  have hr := B.returns
  have hts := atoms_spec (ws := wsX3_sideOf) B.pre
  have hown : s.vm.findClass RX3 = some m.cls := findClass_of_methodNamed B.named
  have hlocks := B.notSynchronized
  have hi_X3 : ∀ w ∈ wsX30, w ∈ wsX3_sideOf := by decide +kernel
  have hF20 := hts (.fieldLink RX3 20 "RoadgameModel" "ofOne" "I") (by decide +kernel)
  have hl := lv_entry ([.ref h0, .int a1]) (n := 2) (Nat.le_of_ble_eq_true rfl)
  rw [lg_entry_eq]
  generalize (lg_sl ([.ref h0, .int a1]) ++ List.replicate (2 - (lg_sl ([.ref h0, .int a1])).length) Slot.unset).toArray = ls at hl ⊢
  have hl : lv_has ls 2 [(0, .ref h0), (1, .int a1)] := hl
  refine lv_aload_n hx hb dX3_sideOf_0 rfl (lv_at hl 0 rfl) ?_
  refine va_get (D := D) (ci := 5) (v := .int oo) (C := RX3) (T := TX3) (N := 11) hx hb hts hi_X3 hown hK hP 0 rfl rfl 1 (by decide) hF20 (fun _ h9 => h9) rfl dX3_sideOf_1 ?_
  refine lv_iload_n hx hb dX3_sideOf_4 rfl (lv_at hl 1 rfl) ?_
  refine lv_ishr hx hb dX3_sideOf_5 ?_
  refine lv_iconst (v := (1 : Int32)) hx hb dX3_sideOf_6 (by decide) ?_
  refine lv_iand hx hb dX3_sideOf_7 ?_
  exact W.iret (v := ((oo >>> (a1 &&& (31 : Int32))) &&& (1 : Int32))) hx hb hr (kSi_ret rfl hv) (fun _ h => by cases h) dX3_sideOf_8
set_option maxHeartbeats 4000000 in
set_option maxRecDepth 100000 in
theorem kX3_isIn (l : Launch) (D : va_G) (cI cB : ClassId)   (a0 : Int32) (a1 : Int32) (post : Int32 → Prop) (hv : qX3_isIn a0 a1 post) : Met l yX3_isIn wsX3_isIn ({ frames := 0, cells := 0, slots := 0, locals := 0 }) (va_Pc [.int a0, .int a1] (kB D cI cB [])) (vp_Si post) 0 0 (fun _ => False) := by
  refine Met.ofW (cc := cX3_isIn) (maxL := 2) (ret := (some .boolean)) (by decide) rfl ?_
  intro p e s m args below meth c s₁ B hml hv0
  obtain ⟨rfl, hP, hK, hN⟩ := hv0
  have hx := B.exec
  have hb := B.bytes
  have hr := B.returns
  have hts := atoms_spec (ws := wsX3_isIn) B.pre
  have hown : s.vm.findClass RX3 = some m.cls := findClass_of_methodNamed B.named
  have hlocks := B.notSynchronized
  have hl := lv_entry ([.int a0, .int a1]) (n := 2) (Nat.le_of_ble_eq_true rfl)
  rw [lg_entry_eq]
  generalize (lg_sl ([.int a0, .int a1]) ++ List.replicate (2 - (lg_sl ([.int a0, .int a1])).length) Slot.unset).toArray = ls at hl ⊢
  have hl : lv_has ls 2 [(0, .int a0), (1, .int a1)] := hl
  refine lv_iload_n hx hb dX3_isIn_0 rfl (lv_at hl 0 rfl) ?_
  refine lv_iload_n hx hb dX3_isIn_1 rfl (lv_at hl 1 rfl) ?_
  refine lv_ishr hx hb dX3_isIn_2 ?_
  refine lv_iconst (v := (1 : Int32)) hx hb dX3_isIn_3 (by decide) ?_
  refine lv_iand hx hb dX3_isIn_4 ?_
  refine lv_iconst (v := (1 : Int32)) hx hb dX3_isIn_5 (by decide) ?_
  refine lv_icmp_ne (tgt := 13) hx hb dX3_isIn_6 (by decide) (fun hc => ?_) (fun hc => ?_)
  · have hv := hv.1 hc
    refine lv_iconst (v := (0 : Int32)) hx hb dX3_isIn_13 (by decide) ?_
    exact W.zret (v := (0 : Int32)) (ty := .boolean) hx hb hr rfl (kSi_ret rfl hv) (fun _ h => by cases h) dX3_isIn_14
  · have hv := hv.2 hc
    refine lv_iconst (v := (1 : Int32)) hx hb dX3_isIn_9 (by decide) ?_
    refine lv_goto (tgt := 14) hx hb dX3_isIn_10 (by decide) ?_
    exact W.zret (v := (1 : Int32)) (ty := .boolean) hx hb hr rfl (kSi_ret rfl hv) (fun _ h => by cases h) dX3_isIn_14
set_option maxHeartbeats 4000000 in
set_option maxRecDepth 100000 in
theorem kX3_waysNow (l : Launch) (D : va_G) (cI cB : ClassId) (h0 : Nat) (h1 : Nat) (h2 : Nat) (on : Int32) (oo : Int32) (og : Int32) (orl : Nat) (ork : Nat → Int32) (owl : Nat) (oww : Nat → Int32) (ost : Int32) (ord : Int32) (oac : Int32) (ore : Int32) (okn : Int32) (oth : Int32)  (post : Int32 → Prop) (hv : qX3_waysNow owl oww post) : Met l yX3_waysNow wsX3_waysNow ({ frames := 1, cells := 0, slots := 0, locals := 20 }) (va_Pc [.ref h0] (kB D cI cB [(h0, .inr (5, [.int on, .int oo, .int og, .ref h1, .ref h2, .int ost, .int ord, .int oac, .int ore, .int okn, .int oth])), (h1, .inl (cI, orl, .inl ork)), (h2, .inl (cI, owl, .inl oww))])) (vp_Si post) 0 0 (fun _ => False) := by
  refine Met.ofW (cc := cX3_waysNow) (maxL := 6) (ret := (some .int)) (by decide) rfl ?_
  intro p e s m args below meth c s₁ B hml hv0
  obtain ⟨rfl, hP, hK, hN⟩ := hv0
  have hx := B.exec
  have hb := B.bytes
  have hr := B.returns
  have hts := atoms_spec (ws := wsX3_waysNow) B.pre
  have hown : s.vm.findClass RX3 = some m.cls := findClass_of_methodNamed B.named
  have hlocks := B.notSynchronized
  have hi_X3 : ∀ w ∈ wsX30, w ∈ wsX3_waysNow := by decide +kernel
  have hF30 := hts (.fieldLink RX3 30 "RoadgameModel" "ways" "[I") (by decide +kernel)
  have hl := lv_entry ([.ref h0]) (n := 6) (Nat.le_of_ble_eq_true rfl)
  rw [lg_entry_eq]
  generalize (lg_sl ([.ref h0]) ++ List.replicate (6 - (lg_sl ([.ref h0])).length) Slot.unset).toArray = ls at hl ⊢
  have hl : lv_has ls 6 [(0, .ref h0)] := hl
  refine lv_iconst (v := (0 : Int32)) hx hb dX3_waysNow_0 (by decide) ?_
  refine lv_istore_n (lv' := [(1, .int (0 : Int32)), (0, .ref h0)]) hx hb dX3_waysNow_1 rfl hl (by decide) rfl (fun ls hl => ?_)
  refine lv_aload_n hx hb dX3_waysNow_2 rfl (lv_at hl 1 rfl) ?_
  refine va_get (D := D) (ci := 5) (v := .ref h2) (C := RX3) (T := TX3) (N := 11) hx hb hts hi_X3 hown hK hP 0 rfl rfl 4 (by decide) hF30 (fun _ h9 => h9) rfl dX3_waysNow_3 ?_
  refine lv_astore_n (lv' := [(2, .ref h2), (1, .int (0 : Int32)), (0, .ref h0)]) hx hb dX3_waysNow_6 rfl hl (by decide) rfl (fun ls hl => ?_)
  refine lv_aload_n hx hb dX3_waysNow_7 rfl (lv_at hl 0 rfl) ?_
  refine va_alen (v := (Int32.ofNat owl)) hx hb hK hP 2 0 rfl rfl (by first | rfl | decide) dX3_waysNow_8 ?_
  refine lv_istore_n (lv' := [(3, .int (Int32.ofNat owl)), (2, .ref h2), (1, .int (0 : Int32)), (0, .ref h0)]) hx hb dX3_waysNow_9 rfl hl (by decide) rfl (fun ls hl => ?_)
  refine lv_iconst (v := (0 : Int32)) hx hb dX3_waysNow_10 (by decide) ?_
  refine lv_istore (lv' := [(4, .int (0 : Int32)), (3, .int (Int32.ofNat owl)), (2, .ref h2), (1, .int (0 : Int32)), (0, .ref h0)]) hx hb dX3_waysNow_11 hl (by decide) rfl (fun ls hl => ?_)
  have L13 : ∀ (K13_39 : Int32 → Int32 → Int32 → Prop), (∀ (v1_13 : Int32) (v3_13 : Int32) (v4_13 : Int32) (ls : Array Slot), K13_39 v1_13 v3_13 v4_13 → lv_has ls 6 [(0, .ref h0), (1, .int v1_13), (2, .ref h2), (3, .int v3_13), (4, .int v4_13)] → W p l e (headSpec wsX3_waysNow ({ frames := 1, cells := 0, slots := 0, locals := 20 })).room s m ([.ref h0] : List Value).toArray below meth c s.heap [] 0 0 (MQ below (vp_Si post) ([.ref h0] : List Value).toArray s 0 0 (fun _ => False)) (F0 m 39 ls [])) → ∀ (n13 : Nat) (v1_13 : Int32) (v3_13 : Int32) (v4_13 : Int32) (ls : Array Slot), qX3_waysNow_13 owl oww K13_39 n13 v1_13 v3_13 v4_13 → lv_has ls 6 [(0, .ref h0), (1, .int v1_13), (2, .ref h2), (3, .int v3_13), (4, .int v4_13)] → W p l e (headSpec wsX3_waysNow ({ frames := 1, cells := 0, slots := 0, locals := 20 })).room s m ([.ref h0] : List Value).toArray below meth c s.heap [] 0 0 (MQ below (vp_Si post) ([.ref h0] : List Value).toArray s 0 0 (fun _ => False)) (F0 m 13 ls []) := by
    intro K13_39 hk13_39
    intro n13
    induction n13 with
    | zero => intro v1_13 v3_13 v4_13 ls hv hl; exact hv.elim
    | succ n13 ih13 =>
      intro v1_13 v3_13 v4_13 ls hv hl
      refine lv_iload hx hb dX3_waysNow_13 (lv_at hl 4 rfl) ?_
      refine lv_iload_n hx hb dX3_waysNow_15 rfl (lv_at hl 3 rfl) ?_
      refine lv_icmp_ge (tgt := 39) hx hb dX3_waysNow_16 (by decide) (fun hc => ?_) (fun hc => ?_)
      · have hv := hv.1 hc
        exact hk13_39 _ _ _ ls hv (lv_sub hl [0, 1, 2, 3, 4] rfl)
      · have hv := hv.2 hc
        refine lv_aload_n hx hb dX3_waysNow_19 rfl (lv_at hl 2 rfl) ?_
        refine lv_iload hx hb dX3_waysNow_20 (lv_at hl 4 rfl) ?_
        obtain ⟨hq, hv⟩ := hv
        refine va_iald hx hb hK hP 2 0 rfl rfl hq dX3_waysNow_22 ?_
        refine lv_istore (lv' := [(5, .int (oww v4_13.toNatClampNeg)), (0, .ref h0), (1, .int v1_13), (2, .ref h2), (3, .int v3_13), (4, .int v4_13)]) hx hb dX3_waysNow_23 hl (by decide) rfl (fun ls hl => ?_)
        refine lv_iload_n hx hb dX3_waysNow_25 rfl (lv_at hl 2 rfl) ?_
        refine lv_iload hx hb dX3_waysNow_26 (lv_at hl 0 rfl) ?_
        refine kc_S (As := [.int (oww v4_13.toNatClampNeg)]) (rest := [.int v1_13]) ⟨hx, hb, hml, hown, hts⟩ (kJ6_bitCount_0f7a4 l D cI cB (oww v4_13.toNatClampNeg) _ hv) (va_cwS 1 hts gX3_waysNow_J6_bitCount_0f7a4 rfl rfl rfl (by decide +kernel) ⟨Nat.le_of_ble_eq_true rfl, Nat.le_of_ble_eq_true rfl⟩) (hP.sub (ws' := []) [] rfl) hK hN rfl hl.1 rfl (Nat.le_of_ble_eq_true rfl) dX3_waysNow_28 ⟨Nat.zero_le _, Nat.zero_le _⟩ (fun r28 hv => ?_)
        refine lv_iadd hx hb dX3_waysNow_31 ?_
        refine lv_istore_n (lv' := [(1, .int (v1_13 + r28)), (5, .int (oww v4_13.toNatClampNeg)), (0, .ref h0), (2, .ref h2), (3, .int v3_13), (4, .int v4_13)]) hx hb dX3_waysNow_32 rfl hl (by decide) rfl (fun ls hl => ?_)
        refine lv_iinc (v := (v4_13 + (1 : Int32))) (lv' := [(4, .int (v4_13 + (1 : Int32))), (1, .int (v1_13 + r28)), (5, .int (oww v4_13.toNatClampNeg)), (0, .ref h0), (2, .ref h2), (3, .int v3_13)]) hx hb dX3_waysNow_33 hl (k := 5) rfl rfl (by decide) rfl (fun ls hl => ?_)
        refine lv_goto (tgt := 13) hx hb dX3_waysNow_36 (by decide) ?_
        exact ih13 _ _ _ ls hv (lv_sub hl [3, 1, 4, 5, 0] rfl)
  obtain ⟨n13, hv⟩ := hv
  refine L13 _ (fun v1_13x v3_13x v4_13x ls hv hl => ?_) n13 _ _ _ _ hv (lv_sub hl [4, 3, 2, 1, 0] rfl)
  refine lv_iload_n hx hb dX3_waysNow_39 rfl (lv_at hl 1 rfl) ?_
  exact W.iret (v := v1_13x) hx hb hr (kSi_ret rfl hv) (fun _ h => by cases h) dX3_waysNow_40
set_option maxHeartbeats 4000000 in
set_option maxRecDepth 100000 in
theorem kX3_aheadOf (l : Launch) (D : va_G) (cI cB : ClassId) (h0 : Nat) (h1 : Nat) (h2 : Nat) (on : Int32) (oo : Int32) (og : Int32) (orl : Nat) (ork : Nat → Int32) (owl : Nat) (oww : Nat → Int32) (ost : Int32) (ord : Int32) (oac : Int32) (ore : Int32) (okn : Int32) (oth : Int32) (a1 : Int32) (a2 : Int32) (post : Int32 → Prop) (hv : qX3_aheadOf on oo owl oww a1 a2 post) : Met l yX3_aheadOf wsX3_aheadOf ({ frames := 1, cells := 0, slots := 0, locals := 21 }) (va_Pc [.ref h0, .int a1, .int a2] (kB D cI cB [(h0, .inr (5, [.int on, .int oo, .int og, .ref h1, .ref h2, .int ost, .int ord, .int oac, .int ore, .int okn, .int oth])), (h1, .inl (cI, orl, .inl ork)), (h2, .inl (cI, owl, .inl oww))])) (vp_Si post) 0 0 (fun _ => False) := by
  refine Met.ofW (cc := cX3_aheadOf) (maxL := 5) (ret := (some .int)) (by decide) rfl ?_
  intro p e s m args below meth c s₁ B hml hv0
  obtain ⟨rfl, hP, hK, hN⟩ := hv0
  have hx := B.exec
  have hb := B.bytes
  have hr := B.returns
  have hts := atoms_spec (ws := wsX3_aheadOf) B.pre
  have hown : s.vm.findClass RX3 = some m.cls := findClass_of_methodNamed B.named
  have hlocks := B.notSynchronized
  have hi_X3 : ∀ w ∈ wsX30, w ∈ wsX3_aheadOf := by decide +kernel
  have hF17 := hts (.fieldLink RX3 17 "RoadgameModel" "n" "I") (by decide +kernel)
  have hF30 := hts (.fieldLink RX3 30 "RoadgameModel" "ways" "[I") (by decide +kernel)
  have hl := lv_entry ([.ref h0, .int a1, .int a2]) (n := 5) (Nat.le_of_ble_eq_true rfl)
  rw [lg_entry_eq]
  generalize (lg_sl ([.ref h0, .int a1, .int a2]) ++ List.replicate (5 - (lg_sl ([.ref h0, .int a1, .int a2])).length) Slot.unset).toArray = ls at hl ⊢
  have hl : lv_has ls 5 [(0, .ref h0), (1, .int a1), (2, .int a2)] := hl
  refine lv_iconst (v := (0 : Int32)) hx hb dX3_aheadOf_0 (by decide) ?_
  refine lv_istore_n (lv' := [(3, .int (0 : Int32)), (0, .ref h0), (1, .int a1), (2, .int a2)]) hx hb dX3_aheadOf_1 rfl hl (by decide) rfl (fun ls hl => ?_)
  refine lv_iconst (v := (0 : Int32)) hx hb dX3_aheadOf_2 (by decide) ?_
  refine lv_istore (lv' := [(4, .int (0 : Int32)), (3, .int (0 : Int32)), (0, .ref h0), (1, .int a1), (2, .int a2)]) hx hb dX3_aheadOf_3 hl (by decide) rfl (fun ls hl => ?_)
  have L5 : ∀ (K5_66 : Int32 → Int32 → Prop), (∀ (v3_5 : Int32) (v4_5 : Int32) (ls : Array Slot), K5_66 v3_5 v4_5 → lv_has ls 5 [(0, .ref h0), (1, .int a1), (2, .int a2), (3, .int v3_5), (4, .int v4_5)] → W p l e (headSpec wsX3_aheadOf ({ frames := 1, cells := 0, slots := 0, locals := 21 })).room s m ([.ref h0, .int a1, .int a2] : List Value).toArray below meth c s.heap [] 0 0 (MQ below (vp_Si post) ([.ref h0, .int a1, .int a2] : List Value).toArray s 0 0 (fun _ => False)) (F0 m 66 ls [])) → ∀ (n5 : Nat) (v3_5 : Int32) (v4_5 : Int32) (ls : Array Slot), qX3_aheadOf_5 on oo owl oww a1 a2 K5_66 n5 v3_5 v4_5 → lv_has ls 5 [(0, .ref h0), (1, .int a1), (2, .int a2), (3, .int v3_5), (4, .int v4_5)] → W p l e (headSpec wsX3_aheadOf ({ frames := 1, cells := 0, slots := 0, locals := 21 })).room s m ([.ref h0, .int a1, .int a2] : List Value).toArray below meth c s.heap [] 0 0 (MQ below (vp_Si post) ([.ref h0, .int a1, .int a2] : List Value).toArray s 0 0 (fun _ => False)) (F0 m 5 ls []) := by
    intro K5_66 hk5_66
    intro n5
    induction n5 with
    | zero => intro v3_5 v4_5 ls hv hl; exact hv.elim
    | succ n5 ih5 =>
      intro v3_5 v4_5 ls hv hl
      refine lv_iload hx hb dX3_aheadOf_5 (lv_at hl 4 rfl) ?_
      refine lv_aload_n hx hb dX3_aheadOf_7 rfl (lv_at hl 0 rfl) ?_
      refine va_get (D := D) (ci := 5) (v := .int on) (C := RX3) (T := TX3) (N := 11) hx hb hts hi_X3 hown hK hP 0 rfl rfl 0 (by decide) hF17 (fun _ h9 => h9) rfl dX3_aheadOf_8 ?_
      refine lv_icmp_ge (tgt := 66) hx hb dX3_aheadOf_11 (by decide) (fun hc => ?_) (fun hc => ?_)
      · have hv := hv.1 hc
        exact hk5_66 _ _ ls hv (lv_sub hl [0, 1, 2, 3, 4] rfl)
      · have hv := hv.2 hc
        refine lv_aload_n hx hb dX3_aheadOf_14 rfl (lv_at hl 0 rfl) ?_
        refine lv_iload hx hb dX3_aheadOf_15 (lv_at hl 4 rfl) ?_
        refine kc_V (As := [.int v4_5]) (rest := []) ⟨hx, hb, hml, hown, hts⟩ (kX3_sideOf l D cI cB h0 h1 h2 on oo og orl ork owl oww ost ord oac ore okn oth v4_5 _ hv) (cwV 1 hts gX3_aheadOf_X3_sideOf rfl rfl rfl (by decide +kernel) ⟨Nat.le_of_ble_eq_true rfl, Nat.le_of_ble_eq_true rfl⟩) hP hK hN 5 rfl rfl rfl rfl hl.1 rfl (Nat.le_of_ble_eq_true rfl) dX3_aheadOf_17 ⟨Nat.zero_le _, Nat.zero_le _⟩ (fun r17 hv => ?_)
        refine lv_iload_n hx hb dX3_aheadOf_20 rfl (lv_at hl 2 rfl) ?_
        refine lv_icmp_ne (tgt := 39) hx hb dX3_aheadOf_21 (by decide) (fun hc => ?_) (fun hc => ?_)
        · have hv := hv.1 hc
          refine lv_aload_n hx hb dX3_aheadOf_39 rfl (lv_at hl 0 rfl) ?_
          refine va_get (D := D) (ci := 5) (v := .ref h2) (C := RX3) (T := TX3) (N := 11) hx hb hts hi_X3 hown hK hP 0 rfl rfl 4 (by decide) hF30 (fun _ h9 => h9) rfl dX3_aheadOf_40 ?_
          refine lv_iload hx hb dX3_aheadOf_43 (lv_at hl 4 rfl) ?_
          obtain ⟨hq, hv⟩ := hv
          refine va_iald hx hb hK hP 2 0 rfl rfl hq dX3_aheadOf_45 ?_
          refine lv_iload_n hx hb dX3_aheadOf_46 rfl (lv_at hl 1 rfl) ?_
          refine lv_iconst (v := (-1 : Int32)) hx hb dX3_aheadOf_47 (by decide) ?_
          refine lv_ixor hx hb dX3_aheadOf_48 ?_
          refine lv_iand hx hb dX3_aheadOf_49 ?_
          refine lv_if_ne (tgt := 60) hx hb dX3_aheadOf_50 (by decide) (fun hc => ?_) (fun hc => ?_)
          · have hv := hv.1 hc
            refine lv_iinc (v := (v4_5 + (1 : Int32))) (lv' := [(4, .int (v4_5 + (1 : Int32))), (0, .ref h0), (1, .int a1), (2, .int a2), (3, .int v3_5)]) hx hb dX3_aheadOf_60 hl (k := 4) rfl rfl (by decide) rfl (fun ls hl => ?_)
            refine lv_goto (tgt := 5) hx hb dX3_aheadOf_63 (by decide) ?_
            exact ih5 _ _ ls hv (lv_sub hl [1, 2, 3, 4, 0] rfl)
          · have hv := hv.2 hc
            refine lv_iload_n hx hb dX3_aheadOf_53 rfl (lv_at hl 3 rfl) ?_
            refine lv_iconst (v := (1 : Int32)) hx hb dX3_aheadOf_54 (by decide) ?_
            refine lv_iload hx hb dX3_aheadOf_55 (lv_at hl 4 rfl) ?_
            refine lv_ishl hx hb dX3_aheadOf_57 ?_
            refine lv_ior hx hb dX3_aheadOf_58 ?_
            refine lv_istore_n (lv' := [(3, .int (v3_5 ||| ((1 : Int32) <<< (v4_5 &&& (31 : Int32))))), (0, .ref h0), (1, .int a1), (2, .int a2), (4, .int v4_5)]) hx hb dX3_aheadOf_59 rfl hl (by decide) rfl (fun ls hl => ?_)
            refine lv_iinc (v := (v4_5 + (1 : Int32))) (lv' := [(4, .int (v4_5 + (1 : Int32))), (3, .int (v3_5 ||| ((1 : Int32) <<< (v4_5 &&& (31 : Int32))))), (0, .ref h0), (1, .int a1), (2, .int a2)]) hx hb dX3_aheadOf_60 hl (k := 4) rfl rfl (by decide) rfl (fun ls hl => ?_)
            refine lv_goto (tgt := 5) hx hb dX3_aheadOf_63 (by decide) ?_
            exact ih5 _ _ ls hv (lv_sub hl [2, 3, 4, 1, 0] rfl)
        · have hv := hv.2 hc
          refine lv_aload_n hx hb dX3_aheadOf_24 rfl (lv_at hl 0 rfl) ?_
          refine va_get (D := D) (ci := 5) (v := .ref h2) (C := RX3) (T := TX3) (N := 11) hx hb hts hi_X3 hown hK hP 0 rfl rfl 4 (by decide) hF30 (fun _ h9 => h9) rfl dX3_aheadOf_25 ?_
          refine lv_iload hx hb dX3_aheadOf_28 (lv_at hl 4 rfl) ?_
          obtain ⟨hq, hv⟩ := hv
          refine va_iald hx hb hK hP 2 0 rfl rfl hq dX3_aheadOf_30 ?_
          refine lv_iload_n hx hb dX3_aheadOf_31 rfl (lv_at hl 1 rfl) ?_
          refine lv_iand hx hb dX3_aheadOf_32 ?_
          refine lv_if_eq (tgt := 60) hx hb dX3_aheadOf_33 (by decide) (fun hc => ?_) (fun hc => ?_)
          · have hv := hv.1 hc
            refine lv_iinc (v := (v4_5 + (1 : Int32))) (lv' := [(4, .int (v4_5 + (1 : Int32))), (0, .ref h0), (1, .int a1), (2, .int a2), (3, .int v3_5)]) hx hb dX3_aheadOf_60 hl (k := 4) rfl rfl (by decide) rfl (fun ls hl => ?_)
            refine lv_goto (tgt := 5) hx hb dX3_aheadOf_63 (by decide) ?_
            exact ih5 _ _ ls hv (lv_sub hl [1, 2, 3, 4, 0] rfl)
          · have hv := hv.2 hc
            refine lv_goto (tgt := 53) hx hb dX3_aheadOf_36 (by decide) ?_
            refine lv_iload_n hx hb dX3_aheadOf_53 rfl (lv_at hl 3 rfl) ?_
            refine lv_iconst (v := (1 : Int32)) hx hb dX3_aheadOf_54 (by decide) ?_
            refine lv_iload hx hb dX3_aheadOf_55 (lv_at hl 4 rfl) ?_
            refine lv_ishl hx hb dX3_aheadOf_57 ?_
            refine lv_ior hx hb dX3_aheadOf_58 ?_
            refine lv_istore_n (lv' := [(3, .int (v3_5 ||| ((1 : Int32) <<< (v4_5 &&& (31 : Int32))))), (0, .ref h0), (1, .int a1), (2, .int a2), (4, .int v4_5)]) hx hb dX3_aheadOf_59 rfl hl (by decide) rfl (fun ls hl => ?_)
            refine lv_iinc (v := (v4_5 + (1 : Int32))) (lv' := [(4, .int (v4_5 + (1 : Int32))), (3, .int (v3_5 ||| ((1 : Int32) <<< (v4_5 &&& (31 : Int32))))), (0, .ref h0), (1, .int a1), (2, .int a2)]) hx hb dX3_aheadOf_60 hl (k := 4) rfl rfl (by decide) rfl (fun ls hl => ?_)
            refine lv_goto (tgt := 5) hx hb dX3_aheadOf_63 (by decide) ?_
            exact ih5 _ _ ls hv (lv_sub hl [2, 3, 4, 1, 0] rfl)
  obtain ⟨n5, hv⟩ := hv
  refine L5 _ (fun v3_5x v4_5x ls hv hl => ?_) n5 _ _ _ hv (lv_sub hl [2, 3, 4, 1, 0] rfl)
  refine lv_iload_n hx hb dX3_aheadOf_66 rfl (lv_at hl 3 rfl) ?_
  exact W.iret (v := v3_5x) hx hb hr (kSi_ret rfl hv) (fun _ h => by cases h) dX3_aheadOf_67
set_option maxHeartbeats 4000000 in
set_option maxRecDepth 100000 in
theorem kX3_toward (l : Launch) (D : va_G) (cI cB : ClassId) (h0 : Nat) (h1 : Nat) (h2 : Nat) (on : Int32) (oo : Int32) (og : Int32) (orl : Nat) (ork : Nat → Int32) (owl : Nat) (oww : Nat → Int32) (ost : Int32) (ord : Int32) (oac : Int32) (ore : Int32) (okn : Int32) (oth : Int32) (a1 : Int32) (a2 : Int32) (post : Int32 → Prop) (hv : qX3_toward on oo owl oww a1 a2 post) : Met l yX3_toward wsX3_toward ({ frames := 2, cells := 0, slots := 0, locals := 45 }) (va_Pc [.ref h0, .int a1, .int a2] (kB D cI cB [(h0, .inr (5, [.int on, .int oo, .int og, .ref h1, .ref h2, .int ost, .int ord, .int oac, .int ore, .int okn, .int oth])), (h1, .inl (cI, orl, .inl ork)), (h2, .inl (cI, owl, .inl oww))])) (vp_Si post) 0 0 (fun _ => False) := by
  refine Met.ofW (cc := cX3_toward) (maxL := 4) (ret := (some .int)) (by decide) rfl ?_
  intro p e s m args below meth c s₁ B hml hv0
  obtain ⟨rfl, hP, hK, hN⟩ := hv0
  have hx := B.exec
  have hb := B.bytes
  have hr := B.returns
  have hts := atoms_spec (ws := wsX3_toward) B.pre
  have hown : s.vm.findClass RX3 = some m.cls := findClass_of_methodNamed B.named
  have hlocks := B.notSynchronized
  have hl := lv_entry ([.ref h0, .int a1, .int a2]) (n := 4) (Nat.le_of_ble_eq_true rfl)
  rw [lg_entry_eq]
  generalize (lg_sl ([.ref h0, .int a1, .int a2]) ++ List.replicate (4 - (lg_sl ([.ref h0, .int a1, .int a2])).length) Slot.unset).toArray = ls at hl ⊢
  have hl : lv_has ls 4 [(0, .ref h0), (1, .int a1), (2, .int a2)] := hl
  refine lv_iload_n hx hb dX3_toward_0 rfl (lv_at hl 1 rfl) ?_
  refine lv_istore_n (lv' := [(3, .int a1), (0, .ref h0), (1, .int a1), (2, .int a2)]) hx hb dX3_toward_1 rfl hl (by decide) rfl (fun ls hl => ?_)
  have L2 : ∀ (K2_26 : Int32 → Prop), (∀ (v3_2 : Int32) (ls : Array Slot), K2_26 v3_2 → lv_has ls 4 [(0, .ref h0), (1, .int a1), (2, .int a2), (3, .int v3_2)] → W p l e (headSpec wsX3_toward ({ frames := 2, cells := 0, slots := 0, locals := 45 })).room s m ([.ref h0, .int a1, .int a2] : List Value).toArray below meth c s.heap [] 0 0 (MQ below (vp_Si post) ([.ref h0, .int a1, .int a2] : List Value).toArray s 0 0 (fun _ => False)) (F0 m 26 ls [])) → ∀ (n2 : Nat) (v3_2 : Int32) (ls : Array Slot), qX3_toward_2 on oo owl oww a2 K2_26 n2 v3_2 → lv_has ls 4 [(0, .ref h0), (1, .int a1), (2, .int a2), (3, .int v3_2)] → W p l e (headSpec wsX3_toward ({ frames := 2, cells := 0, slots := 0, locals := 45 })).room s m ([.ref h0, .int a1, .int a2] : List Value).toArray below meth c s.heap [] 0 0 (MQ below (vp_Si post) ([.ref h0, .int a1, .int a2] : List Value).toArray s 0 0 (fun _ => False)) (F0 m 2 ls []) := by
    intro K2_26 hk2_26
    intro n2
    induction n2 with
    | zero => intro v3_2 ls hv hl; exact hv.elim
    | succ n2 ih2 =>
      intro v3_2 ls hv hl
      refine lv_iload_n hx hb dX3_toward_2 rfl (lv_at hl 3 rfl) ?_
      refine lv_aload_n hx hb dX3_toward_3 rfl (lv_at hl 0 rfl) ?_
      refine lv_iload_n hx hb dX3_toward_4 rfl (lv_at hl 3 rfl) ?_
      refine lv_iload_n hx hb dX3_toward_5 rfl (lv_at hl 2 rfl) ?_
      refine kc_V (As := [.int v3_2, .int a2]) (rest := [.int v3_2]) ⟨hx, hb, hml, hown, hts⟩ (kX3_aheadOf l D cI cB h0 h1 h2 on oo og orl ork owl oww ost ord oac ore okn oth v3_2 a2 _ hv) (cwV 2 hts gX3_toward_X3_aheadOf rfl rfl rfl (by decide +kernel) ⟨Nat.le_of_ble_eq_true rfl, Nat.le_of_ble_eq_true rfl⟩) hP hK hN 5 rfl rfl rfl rfl hl.1 rfl (Nat.le_of_ble_eq_true rfl) dX3_toward_6 ⟨Nat.zero_le _, Nat.zero_le _⟩ (fun r6 hv => ?_)
      refine lv_ior hx hb dX3_toward_9 ?_
      refine lv_iload_n hx hb dX3_toward_10 rfl (lv_at hl 3 rfl) ?_
      refine lv_icmp_eq (tgt := 26) hx hb dX3_toward_11 (by decide) (fun hc => ?_) (fun hc => ?_)
      · have hv := hv.1 hc
        exact hk2_26 _ ls hv (lv_sub hl [0, 1, 2, 3] rfl)
      · have hv := hv.2 hc
        refine lv_iload_n hx hb dX3_toward_14 rfl (lv_at hl 3 rfl) ?_
        refine lv_aload_n hx hb dX3_toward_15 rfl (lv_at hl 0 rfl) ?_
        refine lv_iload_n hx hb dX3_toward_16 rfl (lv_at hl 3 rfl) ?_
        refine lv_iload_n hx hb dX3_toward_17 rfl (lv_at hl 2 rfl) ?_
        refine kc_V (As := [.int v3_2, .int a2]) (rest := [.int v3_2]) ⟨hx, hb, hml, hown, hts⟩ (kX3_aheadOf l D cI cB h0 h1 h2 on oo og orl ork owl oww ost ord oac ore okn oth v3_2 a2 _ hv) (cwV 2 hts gX3_toward_X3_aheadOf rfl rfl rfl (by decide +kernel) ⟨Nat.le_of_ble_eq_true rfl, Nat.le_of_ble_eq_true rfl⟩) hP hK hN 5 rfl rfl rfl rfl hl.1 rfl (Nat.le_of_ble_eq_true rfl) dX3_toward_18 ⟨Nat.zero_le _, Nat.zero_le _⟩ (fun r18 hv => ?_)
        refine lv_ior hx hb dX3_toward_21 ?_
        refine lv_istore_n (lv' := [(3, .int (v3_2 ||| r18)), (0, .ref h0), (1, .int a1), (2, .int a2)]) hx hb dX3_toward_22 rfl hl (by decide) rfl (fun ls hl => ?_)
        refine lv_goto (tgt := 2) hx hb dX3_toward_23 (by decide) ?_
        exact ih2 _ ls hv (lv_sub hl [1, 2, 3, 0] rfl)
  obtain ⟨n2, hv⟩ := hv
  refine L2 _ (fun v3_2x ls hv hl => ?_) n2 _ _ hv (lv_sub hl [1, 2, 3, 0] rfl)
  refine lv_iload_n hx hb dX3_toward_26 rfl (lv_at hl 3 rfl) ?_
  exact W.iret (v := v3_2x) hx hb hr (kSi_ret rfl hv) (fun _ h => by cases h) dX3_toward_27
set_option maxHeartbeats 4000000 in
set_option maxRecDepth 100000 in
theorem kX3_comingOf (l : Launch) (D : va_G) (cI cB : ClassId) (h0 : Nat) (h1 : Nat) (h2 : Nat) (on : Int32) (oo : Int32) (og : Int32) (orl : Nat) (ork : Nat → Int32) (owl : Nat) (oww : Nat → Int32) (ost : Int32) (ord : Int32) (oac : Int32) (ore : Int32) (okn : Int32) (oth : Int32) (a1 : Int32) (post : Int32 → Prop) (hv : qX3_comingOf on oo og owl oww a1 post) : Met l yX3_comingOf wsX3_comingOf ({ frames := 3, cells := 0, slots := 0, locals := 68 }) (va_Pc [.ref h0, .int a1] (kB D cI cB [(h0, .inr (5, [.int on, .int oo, .int og, .ref h1, .ref h2, .int ost, .int ord, .int oac, .int ore, .int okn, .int oth])), (h1, .inl (cI, orl, .inl ork)), (h2, .inl (cI, owl, .inl oww))])) (vp_Si post) 0 0 (fun _ => False) := by
  refine Met.ofW (cc := cX3_comingOf) (maxL := 2) (ret := (some .int)) (by decide) rfl ?_
  intro p e s m args below meth c s₁ B hml hv0
  obtain ⟨rfl, hP, hK, hN⟩ := hv0
  have hx := B.exec
  have hb := B.bytes
  have hr := B.returns
  have hts := atoms_spec (ws := wsX3_comingOf) B.pre
  have hown : s.vm.findClass RX3 = some m.cls := findClass_of_methodNamed B.named
  have hlocks := B.notSynchronized
  have hi_X3 : ∀ w ∈ wsX30, w ∈ wsX3_comingOf := by decide +kernel
  have hF23 := hts (.fieldLink RX3 23 "RoadgameModel" "goal" "I") (by decide +kernel)
  have hl := lv_entry ([.ref h0, .int a1]) (n := 2) (Nat.le_of_ble_eq_true rfl)
  rw [lg_entry_eq]
  generalize (lg_sl ([.ref h0, .int a1]) ++ List.replicate (2 - (lg_sl ([.ref h0, .int a1])).length) Slot.unset).toArray = ls at hl ⊢
  have hl : lv_has ls 2 [(0, .ref h0), (1, .int a1)] := hl
  refine lv_aload_n hx hb dX3_comingOf_0 rfl (lv_at hl 0 rfl) ?_
  refine lv_aload_n hx hb dX3_comingOf_1 rfl (lv_at hl 0 rfl) ?_
  refine va_get (D := D) (ci := 5) (v := .int og) (C := RX3) (T := TX3) (N := 11) hx hb hts hi_X3 hown hK hP 0 rfl rfl 2 (by decide) hF23 (fun _ h9 => h9) rfl dX3_comingOf_2 ?_
  refine lv_iload_n hx hb dX3_comingOf_5 rfl (lv_at hl 1 rfl) ?_
  refine kc_V (As := [.int og, .int a1]) (rest := []) ⟨hx, hb, hml, hown, hts⟩ (kX3_toward l D cI cB h0 h1 h2 on oo og orl ork owl oww ost ord oac ore okn oth og a1 _ hv) (cwV 2 hts gX3_comingOf_X3_toward rfl rfl rfl (by decide +kernel) ⟨Nat.le_of_ble_eq_true rfl, Nat.le_of_ble_eq_true rfl⟩) hP hK hN 5 rfl rfl rfl rfl hl.1 rfl (Nat.le_of_ble_eq_true rfl) dX3_comingOf_6 ⟨Nat.zero_le _, Nat.zero_le _⟩ (fun r6 hv => ?_)
  exact W.iret (v := r6) hx hb hr (kSi_ret rfl hv) (fun _ h => by cases h) dX3_comingOf_9
set_option maxHeartbeats 4000000 in
set_option maxRecDepth 100000 in
theorem kX3_keepingOf (l : Launch) (D : va_G) (cI cB : ClassId) (h0 : Nat) (h1 : Nat) (h2 : Nat) (on : Int32) (oo : Int32) (og : Int32) (orl : Nat) (ork : Nat → Int32) (owl : Nat) (oww : Nat → Int32) (ost : Int32) (ord : Int32) (oac : Int32) (ore : Int32) (okn : Int32) (oth : Int32) (a1 : Int32) (post : Int32 → Prop) (hv : qX3_keepingOf on oo og owl oww a1 post) : Met l yX3_keepingOf wsX3_keepingOf ({ frames := 4, cells := 0, slots := 0, locals := 89 }) (va_Pc [.ref h0, .int a1] (kB D cI cB [(h0, .inr (5, [.int on, .int oo, .int og, .ref h1, .ref h2, .int ost, .int ord, .int oac, .int ore, .int okn, .int oth])), (h1, .inl (cI, orl, .inl ork)), (h2, .inl (cI, owl, .inl oww))])) (vp_Si post) 0 0 (fun _ => False) := by
  refine Met.ofW (cc := cX3_keepingOf) (maxL := 2) (ret := (some .int)) (by decide) rfl ?_
  intro p e s m args below meth c s₁ B hml hv0
  obtain ⟨rfl, hP, hK, hN⟩ := hv0
  have hx := B.exec
  have hb := B.bytes
  have hr := B.returns
  have hts := atoms_spec (ws := wsX3_keepingOf) B.pre
  have hown : s.vm.findClass RX3 = some m.cls := findClass_of_methodNamed B.named
  have hlocks := B.notSynchronized
  have hl := lv_entry ([.ref h0, .int a1]) (n := 2) (Nat.le_of_ble_eq_true rfl)
  rw [lg_entry_eq]
  generalize (lg_sl ([.ref h0, .int a1]) ++ List.replicate (2 - (lg_sl ([.ref h0, .int a1])).length) Slot.unset).toArray = ls at hl ⊢
  have hl : lv_has ls 2 [(0, .ref h0), (1, .int a1)] := hl
  refine lv_aload_n hx hb dX3_keepingOf_0 rfl (lv_at hl 0 rfl) ?_
  refine kc_V (As := []) (rest := []) ⟨hx, hb, hml, hown, hts⟩ (kX3_all l D cI cB h0 h1 h2 on oo og orl ork owl oww ost ord oac ore okn oth _ hv) (cwV 0 hts gX3_keepingOf_X3_all rfl rfl rfl (by decide +kernel) ⟨Nat.le_of_ble_eq_true rfl, Nat.le_of_ble_eq_true rfl⟩) hP hK hN 5 rfl rfl rfl rfl hl.1 rfl (Nat.le_of_ble_eq_true rfl) dX3_keepingOf_1 ⟨Nat.zero_le _, Nat.zero_le _⟩ (fun r1 hv => ?_)
  refine lv_aload_n hx hb dX3_keepingOf_4 rfl (lv_at hl 0 rfl) ?_
  refine lv_iconst (v := (1 : Int32)) hx hb dX3_keepingOf_5 (by decide) ?_
  refine lv_iload_n hx hb dX3_keepingOf_6 rfl (lv_at hl 1 rfl) ?_
  refine lv_isub hx hb dX3_keepingOf_7 ?_
  refine kc_V (As := [.int ((1 : Int32) - a1)]) (rest := [.int r1]) ⟨hx, hb, hml, hown, hts⟩ (kX3_comingOf l D cI cB h0 h1 h2 on oo og orl ork owl oww ost ord oac ore okn oth ((1 : Int32) - a1) _ hv) (cwV 1 hts gX3_keepingOf_X3_comingOf rfl rfl rfl (by decide +kernel) ⟨Nat.le_of_ble_eq_true rfl, Nat.le_of_ble_eq_true rfl⟩) hP hK hN 5 rfl rfl rfl rfl hl.1 rfl (Nat.le_of_ble_eq_true rfl) dX3_keepingOf_8 ⟨Nat.zero_le _, Nat.zero_le _⟩ (fun r8 hv => ?_)
  refine lv_iconst (v := (-1 : Int32)) hx hb dX3_keepingOf_11 (by decide) ?_
  refine lv_ixor hx hb dX3_keepingOf_12 ?_
  refine lv_iand hx hb dX3_keepingOf_13 ?_
  exact W.iret (v := (r1 &&& (r8 ^^^ (-1 : Int32)))) hx hb hr (kSi_ret rfl hv) (fun _ h => by cases h) dX3_keepingOf_14
set_option maxHeartbeats 4000000 in
set_option maxRecDepth 100000 in
theorem kX3_fallen (l : Launch) (D : va_G) (cI cB : ClassId) (h0 : Nat) (h1 : Nat) (h2 : Nat) (on : Int32) (oo : Int32) (og : Int32) (orl : Nat) (ork : Nat → Int32) (owl : Nat) (oww : Nat → Int32) (ost : Int32) (ord : Int32) (oac : Int32) (ore : Int32) (okn : Int32) (oth : Int32) (a1 : Int32) (a2 : Int32) (post : Int32 → Prop) (hv : qX3_fallen on oo og owl oww a1 a2 post) : Met l yX3_fallen wsX3_fallen ({ frames := 3, cells := 0, slots := 0, locals := 68 }) (va_Pc [.ref h0, .int a1, .int a2] (kB D cI cB [(h0, .inr (5, [.int on, .int oo, .int og, .ref h1, .ref h2, .int ost, .int ord, .int oac, .int ore, .int okn, .int oth])), (h1, .inl (cI, orl, .inl ork)), (h2, .inl (cI, owl, .inl oww))])) (vp_Si post) 0 0 (fun _ => False) := by
  refine Met.ofW (cc := cX3_fallen) (maxL := 3) (ret := (some .int)) (by decide) rfl ?_
  intro p e s m args below meth c s₁ B hml hv0
  obtain ⟨rfl, hP, hK, hN⟩ := hv0
  have hx := B.exec
  have hb := B.bytes
  have hr := B.returns
  have hts := atoms_spec (ws := wsX3_fallen) B.pre
  have hown : s.vm.findClass RX3 = some m.cls := findClass_of_methodNamed B.named
  have hlocks := B.notSynchronized
  have hi_X3 : ∀ w ∈ wsX30, w ∈ wsX3_fallen := by decide +kernel
  have hF23 := hts (.fieldLink RX3 23 "RoadgameModel" "goal" "I") (by decide +kernel)
  have hl := lv_entry ([.ref h0, .int a1, .int a2]) (n := 3) (Nat.le_of_ble_eq_true rfl)
  rw [lg_entry_eq]
  generalize (lg_sl ([.ref h0, .int a1, .int a2]) ++ List.replicate (3 - (lg_sl ([.ref h0, .int a1, .int a2])).length) Slot.unset).toArray = ls at hl ⊢
  have hl : lv_has ls 3 [(0, .ref h0), (1, .int a1), (2, .int a2)] := hl
  refine lv_iload_n hx hb dX3_fallen_0 rfl (lv_at hl 1 rfl) ?_
  refine lv_aload_n hx hb dX3_fallen_1 rfl (lv_at hl 0 rfl) ?_
  refine lv_aload_n hx hb dX3_fallen_2 rfl (lv_at hl 0 rfl) ?_
  refine va_get (D := D) (ci := 5) (v := .int og) (C := RX3) (T := TX3) (N := 11) hx hb hts hi_X3 hown hK hP 0 rfl rfl 2 (by decide) hF23 (fun _ h9 => h9) rfl dX3_fallen_3 ?_
  refine lv_aload_n hx hb dX3_fallen_6 rfl (lv_at hl 0 rfl) ?_
  refine lv_iload_n hx hb dX3_fallen_7 rfl (lv_at hl 1 rfl) ?_
  refine lv_iload_n hx hb dX3_fallen_8 rfl (lv_at hl 2 rfl) ?_
  refine kc_V (As := [.int a1, .int a2]) (rest := [.int og, .ref h0, .int a1]) ⟨hx, hb, hml, hown, hts⟩ (kX3_aheadOf l D cI cB h0 h1 h2 on oo og orl ork owl oww ost ord oac ore okn oth a1 a2 _ hv) (cwV 2 hts gX3_fallen_X3_aheadOf rfl rfl rfl (by decide +kernel) ⟨Nat.le_of_ble_eq_true rfl, Nat.le_of_ble_eq_true rfl⟩) hP hK hN 5 rfl rfl rfl rfl hl.1 rfl (Nat.le_of_ble_eq_true rfl) dX3_fallen_9 ⟨Nat.zero_le _, Nat.zero_le _⟩ (fun r9 hv => ?_)
  refine lv_iand hx hb dX3_fallen_12 ?_
  refine lv_iload_n hx hb dX3_fallen_13 rfl (lv_at hl 2 rfl) ?_
  refine kc_V (As := [.int (og &&& r9), .int a2]) (rest := [.int a1]) ⟨hx, hb, hml, hown, hts⟩ (kX3_toward l D cI cB h0 h1 h2 on oo og orl ork owl oww ost ord oac ore okn oth (og &&& r9) a2 _ hv) (cwV 2 hts gX3_fallen_X3_toward rfl rfl rfl (by decide +kernel) ⟨Nat.le_of_ble_eq_true rfl, Nat.le_of_ble_eq_true rfl⟩) hP hK hN 5 rfl rfl rfl rfl hl.1 rfl (Nat.le_of_ble_eq_true rfl) dX3_fallen_14 ⟨Nat.zero_le _, Nat.zero_le _⟩ (fun r14 hv => ?_)
  refine lv_iand hx hb dX3_fallen_17 ?_
  exact W.iret (v := (a1 &&& r14)) hx hb hr (kSi_ret rfl hv) (fun _ h => by cases h) dX3_fallen_18
set_option maxHeartbeats 4000000 in
set_option maxRecDepth 100000 in
theorem kX3_againOf (l : Launch) (D : va_G) (cI cB : ClassId) (h0 : Nat) (h1 : Nat) (h2 : Nat) (on : Int32) (oo : Int32) (og : Int32) (orl : Nat) (ork : Nat → Int32) (owl : Nat) (oww : Nat → Int32) (ost : Int32) (ord : Int32) (oac : Int32) (ore : Int32) (okn : Int32) (oth : Int32) (a1 : Int32) (post : Int32 → Prop) (hv : qX3_againOf on oo og owl oww a1 post) : Met l yX3_againOf wsX3_againOf ({ frames := 4, cells := 0, slots := 0, locals := 90 }) (va_Pc [.ref h0, .int a1] (kB D cI cB [(h0, .inr (5, [.int on, .int oo, .int og, .ref h1, .ref h2, .int ost, .int ord, .int oac, .int ore, .int okn, .int oth])), (h1, .inl (cI, orl, .inl ork)), (h2, .inl (cI, owl, .inl oww))])) (vp_Si post) 0 0 (fun _ => False) := by
  refine Met.ofW (cc := cX3_againOf) (maxL := 3) (ret := (some .int)) (by decide) rfl ?_
  intro p e s m args below meth c s₁ B hml hv0
  obtain ⟨rfl, hP, hK, hN⟩ := hv0
  have hx := B.exec
  have hb := B.bytes
  have hr := B.returns
  have hts := atoms_spec (ws := wsX3_againOf) B.pre
  have hown : s.vm.findClass RX3 = some m.cls := findClass_of_methodNamed B.named
  have hlocks := B.notSynchronized
  have hl := lv_entry ([.ref h0, .int a1]) (n := 3) (Nat.le_of_ble_eq_true rfl)
  rw [lg_entry_eq]
  generalize (lg_sl ([.ref h0, .int a1]) ++ List.replicate (3 - (lg_sl ([.ref h0, .int a1])).length) Slot.unset).toArray = ls at hl ⊢
  have hl : lv_has ls 3 [(0, .ref h0), (1, .int a1)] := hl
  refine lv_aload_n hx hb dX3_againOf_0 rfl (lv_at hl 0 rfl) ?_
  refine kc_V (As := []) (rest := []) ⟨hx, hb, hml, hown, hts⟩ (kX3_all l D cI cB h0 h1 h2 on oo og orl ork owl oww ost ord oac ore okn oth _ hv) (cwV 0 hts gX3_againOf_X3_all rfl rfl rfl (by decide +kernel) ⟨Nat.le_of_ble_eq_true rfl, Nat.le_of_ble_eq_true rfl⟩) hP hK hN 5 rfl rfl rfl rfl hl.1 rfl (Nat.le_of_ble_eq_true rfl) dX3_againOf_1 ⟨Nat.zero_le _, Nat.zero_le _⟩ (fun r1 hv => ?_)
  refine lv_istore_n (lv' := [(2, .int r1), (0, .ref h0), (1, .int a1)]) hx hb dX3_againOf_4 rfl hl (by decide) rfl (fun ls hl => ?_)
  have L5 : ∀ (K5_25 : Int32 → Prop), (∀ (v2_5 : Int32) (ls : Array Slot), K5_25 v2_5 → lv_has ls 3 [(0, .ref h0), (1, .int a1), (2, .int v2_5)] → W p l e (headSpec wsX3_againOf ({ frames := 4, cells := 0, slots := 0, locals := 90 })).room s m ([.ref h0, .int a1] : List Value).toArray below meth c s.heap [] 0 0 (MQ below (vp_Si post) ([.ref h0, .int a1] : List Value).toArray s 0 0 (fun _ => False)) (F0 m 25 ls [])) → ∀ (n5 : Nat) (v2_5 : Int32) (ls : Array Slot), qX3_againOf_5 on oo og owl oww a1 K5_25 n5 v2_5 → lv_has ls 3 [(0, .ref h0), (1, .int a1), (2, .int v2_5)] → W p l e (headSpec wsX3_againOf ({ frames := 4, cells := 0, slots := 0, locals := 90 })).room s m ([.ref h0, .int a1] : List Value).toArray below meth c s.heap [] 0 0 (MQ below (vp_Si post) ([.ref h0, .int a1] : List Value).toArray s 0 0 (fun _ => False)) (F0 m 5 ls []) := by
    intro K5_25 hk5_25
    intro n5
    induction n5 with
    | zero => intro v2_5 ls hv hl; exact hv.elim
    | succ n5 ih5 =>
      intro v2_5 ls hv hl
      refine lv_aload_n hx hb dX3_againOf_5 rfl (lv_at hl 0 rfl) ?_
      refine lv_iload_n hx hb dX3_againOf_6 rfl (lv_at hl 2 rfl) ?_
      refine lv_iload_n hx hb dX3_againOf_7 rfl (lv_at hl 1 rfl) ?_
      refine kc_V (As := [.int v2_5, .int a1]) (rest := []) ⟨hx, hb, hml, hown, hts⟩ (kX3_fallen l D cI cB h0 h1 h2 on oo og orl ork owl oww ost ord oac ore okn oth v2_5 a1 _ hv) (cwV 2 hts gX3_againOf_X3_fallen rfl rfl rfl (by decide +kernel) ⟨Nat.le_of_ble_eq_true rfl, Nat.le_of_ble_eq_true rfl⟩) hP hK hN 5 rfl rfl rfl rfl hl.1 rfl (Nat.le_of_ble_eq_true rfl) dX3_againOf_8 ⟨Nat.zero_le _, Nat.zero_le _⟩ (fun r8 hv => ?_)
      refine lv_iload_n hx hb dX3_againOf_11 rfl (lv_at hl 2 rfl) ?_
      refine lv_icmp_eq (tgt := 25) hx hb dX3_againOf_12 (by decide) (fun hc => ?_) (fun hc => ?_)
      · have hv := hv.1 hc
        exact hk5_25 _ ls hv (lv_sub hl [0, 1, 2] rfl)
      · have hv := hv.2 hc
        refine lv_aload_n hx hb dX3_againOf_15 rfl (lv_at hl 0 rfl) ?_
        refine lv_iload_n hx hb dX3_againOf_16 rfl (lv_at hl 2 rfl) ?_
        refine lv_iload_n hx hb dX3_againOf_17 rfl (lv_at hl 1 rfl) ?_
        refine kc_V (As := [.int v2_5, .int a1]) (rest := []) ⟨hx, hb, hml, hown, hts⟩ (kX3_fallen l D cI cB h0 h1 h2 on oo og orl ork owl oww ost ord oac ore okn oth v2_5 a1 _ hv) (cwV 2 hts gX3_againOf_X3_fallen rfl rfl rfl (by decide +kernel) ⟨Nat.le_of_ble_eq_true rfl, Nat.le_of_ble_eq_true rfl⟩) hP hK hN 5 rfl rfl rfl rfl hl.1 rfl (Nat.le_of_ble_eq_true rfl) dX3_againOf_18 ⟨Nat.zero_le _, Nat.zero_le _⟩ (fun r18 hv => ?_)
        refine lv_istore_n (lv' := [(2, .int r18), (0, .ref h0), (1, .int a1)]) hx hb dX3_againOf_21 rfl hl (by decide) rfl (fun ls hl => ?_)
        refine lv_goto (tgt := 5) hx hb dX3_againOf_22 (by decide) ?_
        exact ih5 _ ls hv (lv_sub hl [1, 2, 0] rfl)
  obtain ⟨n5, hv⟩ := hv
  refine L5 _ (fun v2_5x ls hv hl => ?_) n5 _ _ hv (lv_sub hl [1, 2, 0] rfl)
  refine lv_iload_n hx hb dX3_againOf_25 rfl (lv_at hl 2 rfl) ?_
  exact W.iret (v := v2_5x) hx hb hr (kSi_ret rfl hv) (fun _ h => by cases h) dX3_againOf_26
set_option maxHeartbeats 4000000 in
set_option maxRecDepth 100000 in
theorem kX3_fallsOf (l : Launch) (D : va_G) (cI cB : ClassId) (h0 : Nat) (h1 : Nat) (h2 : Nat) (on : Int32) (oo : Int32) (og : Int32) (orl : Nat) (ork : Nat → Int32) (owl : Nat) (oww : Nat → Int32) (ost : Int32) (ord : Int32) (oac : Int32) (ore : Int32) (okn : Int32) (oth : Int32) (a1 : Int32) (post : Int32 → Prop) (hv : qX3_fallsOf on oo og owl oww a1 post) : Met l yX3_fallsOf wsX3_fallsOf ({ frames := 4, cells := 0, slots := 0, locals := 90 }) (va_Pc [.ref h0, .int a1] (kB D cI cB [(h0, .inr (5, [.int on, .int oo, .int og, .ref h1, .ref h2, .int ost, .int ord, .int oac, .int ore, .int okn, .int oth])), (h1, .inl (cI, orl, .inl ork)), (h2, .inl (cI, owl, .inl oww))])) (vp_Si post) 0 0 (fun _ => False) := by
  refine Met.ofW (cc := cX3_fallsOf) (maxL := 4) (ret := (some .int)) (by decide) rfl ?_
  intro p e s m args below meth c s₁ B hml hv0
  obtain ⟨rfl, hP, hK, hN⟩ := hv0
  have hx := B.exec
  have hb := B.bytes
  have hr := B.returns
  have hts := atoms_spec (ws := wsX3_fallsOf) B.pre
  have hown : s.vm.findClass RX3 = some m.cls := findClass_of_methodNamed B.named
  have hlocks := B.notSynchronized
  have hl := lv_entry ([.ref h0, .int a1]) (n := 4) (Nat.le_of_ble_eq_true rfl)
  rw [lg_entry_eq]
  generalize (lg_sl ([.ref h0, .int a1]) ++ List.replicate (4 - (lg_sl ([.ref h0, .int a1])).length) Slot.unset).toArray = ls at hl ⊢
  have hl : lv_has ls 4 [(0, .ref h0), (1, .int a1)] := hl
  refine lv_iconst (v := (0 : Int32)) hx hb dX3_fallsOf_0 (by decide) ?_
  refine lv_istore_n (lv' := [(2, .int (0 : Int32)), (0, .ref h0), (1, .int a1)]) hx hb dX3_fallsOf_1 rfl hl (by decide) rfl (fun ls hl => ?_)
  refine lv_aload_n hx hb dX3_fallsOf_2 rfl (lv_at hl 1 rfl) ?_
  refine kc_V (As := []) (rest := []) ⟨hx, hb, hml, hown, hts⟩ (kX3_all l D cI cB h0 h1 h2 on oo og orl ork owl oww ost ord oac ore okn oth _ hv) (cwV 0 hts gX3_fallsOf_X3_all rfl rfl rfl (by decide +kernel) ⟨Nat.le_of_ble_eq_true rfl, Nat.le_of_ble_eq_true rfl⟩) hP hK hN 5 rfl rfl rfl rfl hl.1 rfl (Nat.le_of_ble_eq_true rfl) dX3_fallsOf_3 ⟨Nat.zero_le _, Nat.zero_le _⟩ (fun r3 hv => ?_)
  refine lv_istore_n (lv' := [(3, .int r3), (2, .int (0 : Int32)), (0, .ref h0), (1, .int a1)]) hx hb dX3_fallsOf_6 rfl hl (by decide) rfl (fun ls hl => ?_)
  have L7 : ∀ (K7_30 : Int32 → Int32 → Prop), (∀ (v2_7 : Int32) (v3_7 : Int32) (ls : Array Slot), K7_30 v2_7 v3_7 → lv_has ls 4 [(0, .ref h0), (1, .int a1), (2, .int v2_7), (3, .int v3_7)] → W p l e (headSpec wsX3_fallsOf ({ frames := 4, cells := 0, slots := 0, locals := 90 })).room s m ([.ref h0, .int a1] : List Value).toArray below meth c s.heap [] 0 0 (MQ below (vp_Si post) ([.ref h0, .int a1] : List Value).toArray s 0 0 (fun _ => False)) (F0 m 30 ls [])) → ∀ (n7 : Nat) (v2_7 : Int32) (v3_7 : Int32) (ls : Array Slot), qX3_fallsOf_7 on oo og owl oww a1 K7_30 n7 v2_7 v3_7 → lv_has ls 4 [(0, .ref h0), (1, .int a1), (2, .int v2_7), (3, .int v3_7)] → W p l e (headSpec wsX3_fallsOf ({ frames := 4, cells := 0, slots := 0, locals := 90 })).room s m ([.ref h0, .int a1] : List Value).toArray below meth c s.heap [] 0 0 (MQ below (vp_Si post) ([.ref h0, .int a1] : List Value).toArray s 0 0 (fun _ => False)) (F0 m 7 ls []) := by
    intro K7_30 hk7_30
    intro n7
    induction n7 with
    | zero => intro v2_7 v3_7 ls hv hl; exact hv.elim
    | succ n7 ih7 =>
      intro v2_7 v3_7 ls hv hl
      refine lv_aload_n hx hb dX3_fallsOf_7 rfl (lv_at hl 0 rfl) ?_
      refine lv_iload_n hx hb dX3_fallsOf_8 rfl (lv_at hl 3 rfl) ?_
      refine lv_iload_n hx hb dX3_fallsOf_9 rfl (lv_at hl 1 rfl) ?_
      refine kc_V (As := [.int v3_7, .int a1]) (rest := []) ⟨hx, hb, hml, hown, hts⟩ (kX3_fallen l D cI cB h0 h1 h2 on oo og orl ork owl oww ost ord oac ore okn oth v3_7 a1 _ hv) (cwV 2 hts gX3_fallsOf_X3_fallen rfl rfl rfl (by decide +kernel) ⟨Nat.le_of_ble_eq_true rfl, Nat.le_of_ble_eq_true rfl⟩) hP hK hN 5 rfl rfl rfl rfl hl.1 rfl (Nat.le_of_ble_eq_true rfl) dX3_fallsOf_10 ⟨Nat.zero_le _, Nat.zero_le _⟩ (fun r10 hv => ?_)
      refine lv_iload_n hx hb dX3_fallsOf_13 rfl (lv_at hl 3 rfl) ?_
      refine lv_icmp_eq (tgt := 30) hx hb dX3_fallsOf_14 (by decide) (fun hc => ?_) (fun hc => ?_)
      · have hv := hv.1 hc
        exact hk7_30 _ _ ls hv (lv_sub hl [0, 1, 2, 3] rfl)
      · have hv := hv.2 hc
        refine lv_iinc (v := (v2_7 + (1 : Int32))) (lv' := [(2, .int (v2_7 + (1 : Int32))), (0, .ref h0), (1, .int a1), (3, .int v3_7)]) hx hb dX3_fallsOf_17 hl (k := 2) rfl rfl (by decide) rfl (fun ls hl => ?_)
        refine lv_aload_n hx hb dX3_fallsOf_20 rfl (lv_at hl 1 rfl) ?_
        refine lv_iload_n hx hb dX3_fallsOf_21 rfl (lv_at hl 3 rfl) ?_
        refine lv_iload_n hx hb dX3_fallsOf_22 rfl (lv_at hl 2 rfl) ?_
        refine kc_V (As := [.int v3_7, .int a1]) (rest := []) ⟨hx, hb, hml, hown, hts⟩ (kX3_fallen l D cI cB h0 h1 h2 on oo og orl ork owl oww ost ord oac ore okn oth v3_7 a1 _ hv) (cwV 2 hts gX3_fallsOf_X3_fallen rfl rfl rfl (by decide +kernel) ⟨Nat.le_of_ble_eq_true rfl, Nat.le_of_ble_eq_true rfl⟩) hP hK hN 5 rfl rfl rfl rfl hl.1 rfl (Nat.le_of_ble_eq_true rfl) dX3_fallsOf_23 ⟨Nat.zero_le _, Nat.zero_le _⟩ (fun r23 hv => ?_)
        refine lv_istore_n (lv' := [(3, .int r23), (2, .int (v2_7 + (1 : Int32))), (0, .ref h0), (1, .int a1)]) hx hb dX3_fallsOf_26 rfl hl (by decide) rfl (fun ls hl => ?_)
        refine lv_goto (tgt := 7) hx hb dX3_fallsOf_27 (by decide) ?_
        exact ih7 _ _ ls hv (lv_sub hl [2, 3, 1, 0] rfl)
  obtain ⟨n7, hv⟩ := hv
  refine L7 _ (fun v2_7x v3_7x ls hv hl => ?_) n7 _ _ _ hv (lv_sub hl [2, 3, 1, 0] rfl)
  refine lv_iload_n hx hb dX3_fallsOf_30 rfl (lv_at hl 2 rfl) ?_
  exact W.iret (v := v2_7x) hx hb hr (kSi_ret rfl hv) (fun _ h => by cases h) dX3_fallsOf_31
set_option maxHeartbeats 4000000 in
set_option maxRecDepth 100000 in
theorem kX3_withRank (l : Launch) (D : va_G) (cI cB : ClassId) (h0 : Nat) (h1 : Nat) (h2 : Nat) (on : Int32) (oo : Int32) (og : Int32) (orl : Nat) (ork : Nat → Int32) (owl : Nat) (oww : Nat → Int32) (ost : Int32) (ord : Int32) (oac : Int32) (ore : Int32) (okn : Int32) (oth : Int32) (a1 : Int32) (post : Int32 → Prop) (hv : qX3_withRank on orl ork a1 post) : Met l yX3_withRank wsX3_withRank ({ frames := 0, cells := 0, slots := 0, locals := 0 }) (va_Pc [.ref h0, .int a1] (kB D cI cB [(h0, .inr (5, [.int on, .int oo, .int og, .ref h1, .ref h2, .int ost, .int ord, .int oac, .int ore, .int okn, .int oth])), (h1, .inl (cI, orl, .inl ork)), (h2, .inl (cI, owl, .inl oww))])) (vp_Si post) 0 0 (fun _ => False) := by
  refine Met.ofW (cc := cX3_withRank) (maxL := 4) (ret := (some .int)) (by decide) rfl ?_
  intro p e s m args below meth c s₁ B hml hv0
  obtain ⟨rfl, hP, hK, hN⟩ := hv0
  have hx := B.exec
  have hb := B.bytes
  have hr := B.returns
  have hts := atoms_spec (ws := wsX3_withRank) B.pre
  have hown : s.vm.findClass RX3 = some m.cls := findClass_of_methodNamed B.named
  have hlocks := B.notSynchronized
  have hi_X3 : ∀ w ∈ wsX30, w ∈ wsX3_withRank := by decide +kernel
  have hF17 := hts (.fieldLink RX3 17 "RoadgameModel" "n" "I") (by decide +kernel)
  have hF26 := hts (.fieldLink RX3 26 "RoadgameModel" "ranks" "[I") (by decide +kernel)
  have hl := lv_entry ([.ref h0, .int a1]) (n := 4) (Nat.le_of_ble_eq_true rfl)
  rw [lg_entry_eq]
  generalize (lg_sl ([.ref h0, .int a1]) ++ List.replicate (4 - (lg_sl ([.ref h0, .int a1])).length) Slot.unset).toArray = ls at hl ⊢
  have hl : lv_has ls 4 [(0, .ref h0), (1, .int a1)] := hl
  refine lv_iconst (v := (0 : Int32)) hx hb dX3_withRank_0 (by decide) ?_
  refine lv_istore_n (lv' := [(2, .int (0 : Int32)), (0, .ref h0), (1, .int a1)]) hx hb dX3_withRank_1 rfl hl (by decide) rfl (fun ls hl => ?_)
  refine lv_iconst (v := (0 : Int32)) hx hb dX3_withRank_2 (by decide) ?_
  refine lv_istore_n (lv' := [(3, .int (0 : Int32)), (2, .int (0 : Int32)), (0, .ref h0), (1, .int a1)]) hx hb dX3_withRank_3 rfl hl (by decide) rfl (fun ls hl => ?_)
  have L4 : ∀ (K4_38 : Int32 → Int32 → Prop), (∀ (v2_4 : Int32) (v3_4 : Int32) (ls : Array Slot), K4_38 v2_4 v3_4 → lv_has ls 4 [(0, .ref h0), (1, .int a1), (2, .int v2_4), (3, .int v3_4)] → W p l e (headSpec wsX3_withRank ({ frames := 0, cells := 0, slots := 0, locals := 0 })).room s m ([.ref h0, .int a1] : List Value).toArray below meth c s.heap [] 0 0 (MQ below (vp_Si post) ([.ref h0, .int a1] : List Value).toArray s 0 0 (fun _ => False)) (F0 m 38 ls [])) → ∀ (n4 : Nat) (v2_4 : Int32) (v3_4 : Int32) (ls : Array Slot), qX3_withRank_4 on orl ork a1 K4_38 n4 v2_4 v3_4 → lv_has ls 4 [(0, .ref h0), (1, .int a1), (2, .int v2_4), (3, .int v3_4)] → W p l e (headSpec wsX3_withRank ({ frames := 0, cells := 0, slots := 0, locals := 0 })).room s m ([.ref h0, .int a1] : List Value).toArray below meth c s.heap [] 0 0 (MQ below (vp_Si post) ([.ref h0, .int a1] : List Value).toArray s 0 0 (fun _ => False)) (F0 m 4 ls []) := by
    intro K4_38 hk4_38
    intro n4
    induction n4 with
    | zero => intro v2_4 v3_4 ls hv hl; exact hv.elim
    | succ n4 ih4 =>
      intro v2_4 v3_4 ls hv hl
      refine lv_iload_n hx hb dX3_withRank_4 rfl (lv_at hl 3 rfl) ?_
      refine lv_aload_n hx hb dX3_withRank_5 rfl (lv_at hl 0 rfl) ?_
      refine va_get (D := D) (ci := 5) (v := .int on) (C := RX3) (T := TX3) (N := 11) hx hb hts hi_X3 hown hK hP 0 rfl rfl 0 (by decide) hF17 (fun _ h9 => h9) rfl dX3_withRank_6 ?_
      refine lv_icmp_ge (tgt := 38) hx hb dX3_withRank_9 (by decide) (fun hc => ?_) (fun hc => ?_)
      · have hv := hv.1 hc
        exact hk4_38 _ _ ls hv (lv_sub hl [0, 1, 2, 3] rfl)
      · have hv := hv.2 hc
        refine lv_iload_n hx hb dX3_withRank_12 rfl (lv_at hl 2 rfl) ?_
        refine lv_aload_n hx hb dX3_withRank_13 rfl (lv_at hl 0 rfl) ?_
        refine va_get (D := D) (ci := 5) (v := .ref h1) (C := RX3) (T := TX3) (N := 11) hx hb hts hi_X3 hown hK hP 0 rfl rfl 3 (by decide) hF26 (fun _ h9 => h9) rfl dX3_withRank_14 ?_
        refine lv_iload_n hx hb dX3_withRank_17 rfl (lv_at hl 3 rfl) ?_
        obtain ⟨hq, hv⟩ := hv
        refine va_iald hx hb hK hP 1 0 rfl rfl hq dX3_withRank_18 ?_
        refine lv_iload_n hx hb dX3_withRank_19 rfl (lv_at hl 1 rfl) ?_
        refine lv_icmp_ne (tgt := 29) hx hb dX3_withRank_20 (by decide) (fun hc => ?_) (fun hc => ?_)
        · have hv := hv.1 hc
          refine lv_iconst (v := (0 : Int32)) hx hb dX3_withRank_29 (by decide) ?_
          refine lv_ior hx hb dX3_withRank_30 ?_
          refine lv_istore_n (lv' := [(2, .int (v2_4 ||| (0 : Int32))), (0, .ref h0), (1, .int a1), (3, .int v3_4)]) hx hb dX3_withRank_31 rfl hl (by decide) rfl (fun ls hl => ?_)
          refine lv_iinc (v := (v3_4 + (1 : Int32))) (lv' := [(3, .int (v3_4 + (1 : Int32))), (2, .int (v2_4 ||| (0 : Int32))), (0, .ref h0), (1, .int a1)]) hx hb dX3_withRank_32 hl (k := 3) rfl rfl (by decide) rfl (fun ls hl => ?_)
          refine lv_goto (tgt := 4) hx hb dX3_withRank_35 (by decide) ?_
          exact ih4 _ _ ls hv (lv_sub hl [2, 3, 1, 0] rfl)
        · have hv := hv.2 hc
          refine lv_iconst (v := (1 : Int32)) hx hb dX3_withRank_23 (by decide) ?_
          refine lv_iload_n hx hb dX3_withRank_24 rfl (lv_at hl 3 rfl) ?_
          refine lv_ishl hx hb dX3_withRank_25 ?_
          refine lv_goto (tgt := 30) hx hb dX3_withRank_26 (by decide) ?_
          refine lv_ior hx hb dX3_withRank_30 ?_
          refine lv_istore_n (lv' := [(2, .int (v2_4 ||| ((1 : Int32) <<< (v3_4 &&& (31 : Int32))))), (0, .ref h0), (1, .int a1), (3, .int v3_4)]) hx hb dX3_withRank_31 rfl hl (by decide) rfl (fun ls hl => ?_)
          refine lv_iinc (v := (v3_4 + (1 : Int32))) (lv' := [(3, .int (v3_4 + (1 : Int32))), (2, .int (v2_4 ||| ((1 : Int32) <<< (v3_4 &&& (31 : Int32))))), (0, .ref h0), (1, .int a1)]) hx hb dX3_withRank_32 hl (k := 3) rfl rfl (by decide) rfl (fun ls hl => ?_)
          refine lv_goto (tgt := 4) hx hb dX3_withRank_35 (by decide) ?_
          exact ih4 _ _ ls hv (lv_sub hl [2, 3, 1, 0] rfl)
  obtain ⟨n4, hv⟩ := hv
  refine L4 _ (fun v2_4x v3_4x ls hv hl => ?_) n4 _ _ _ hv (lv_sub hl [2, 3, 1, 0] rfl)
  refine lv_iload_n hx hb dX3_withRank_38 rfl (lv_at hl 2 rfl) ?_
  exact W.iret (v := v2_4x) hx hb hr (kSi_ret rfl hv) (fun _ h => by cases h) dX3_withRank_39
set_option maxHeartbeats 4000000 in
set_option maxRecDepth 100000 in
theorem kX3_rankedOf (l : Launch) (D : va_G) (cI cB : ClassId) (h0 : Nat) (h1 : Nat) (h2 : Nat) (on : Int32) (oo : Int32) (og : Int32) (orl : Nat) (ork : Nat → Int32) (owl : Nat) (oww : Nat → Int32) (ost : Int32) (ord : Int32) (oac : Int32) (ore : Int32) (okn : Int32) (oth : Int32)  (post : Int32 → Prop) (hv : qX3_rankedOf on oo orl ork owl oww post) : Met l yX3_rankedOf wsX3_rankedOf ({ frames := 2, cells := 0, slots := 0, locals := 45 }) (va_Pc [.ref h0] (kB D cI cB [(h0, .inr (5, [.int on, .int oo, .int og, .ref h1, .ref h2, .int ost, .int ord, .int oac, .int ore, .int okn, .int oth])), (h1, .inl (cI, orl, .inl ork)), (h2, .inl (cI, owl, .inl oww))])) (vp_Si post) 0 0 (fun _ => False) := by
  refine Met.ofW (cc := cX3_rankedOf) (maxL := 5) (ret := (some .int)) (by decide) rfl ?_
  intro p e s m args below meth c s₁ B hml hv0
  obtain ⟨rfl, hP, hK, hN⟩ := hv0
  have hx := B.exec
  have hb := B.bytes
  have hr := B.returns
  have hts := atoms_spec (ws := wsX3_rankedOf) B.pre
  have hown : s.vm.findClass RX3 = some m.cls := findClass_of_methodNamed B.named
  have hlocks := B.notSynchronized
  have hl := lv_entry ([.ref h0]) (n := 5) (Nat.le_of_ble_eq_true rfl)
  rw [lg_entry_eq]
  generalize (lg_sl ([.ref h0]) ++ List.replicate (5 - (lg_sl ([.ref h0])).length) Slot.unset).toArray = ls at hl ⊢
  have hl : lv_has ls 5 [(0, .ref h0)] := hl
  refine lv_aload_n hx hb dX3_rankedOf_0 rfl (lv_at hl 0 rfl) ?_
  refine kc_V (As := []) (rest := []) ⟨hx, hb, hml, hown, hts⟩ (kX3_all l D cI cB h0 h1 h2 on oo og orl ork owl oww ost ord oac ore okn oth _ hv) (cwV 0 hts gX3_rankedOf_X3_all rfl rfl rfl (by decide +kernel) ⟨Nat.le_of_ble_eq_true rfl, Nat.le_of_ble_eq_true rfl⟩) hP hK hN 5 rfl rfl rfl rfl hl.1 rfl (Nat.le_of_ble_eq_true rfl) dX3_rankedOf_1 ⟨Nat.zero_le _, Nat.zero_le _⟩ (fun r1 hv => ?_)
  refine lv_istore_n (lv' := [(1, .int r1), (0, .ref h0)]) hx hb dX3_rankedOf_4 rfl hl (by decide) rfl (fun ls hl => ?_)
  have L5 : ∀ (n5 : Nat) (v1_5 : Int32) (ls : Array Slot), qX3_rankedOf_5 on oo orl ork owl oww post n5 v1_5 → lv_has ls 5 [(0, .ref h0), (1, .int v1_5)] → W p l e (headSpec wsX3_rankedOf ({ frames := 2, cells := 0, slots := 0, locals := 45 })).room s m ([.ref h0] : List Value).toArray below meth c s.heap [] 0 0 (MQ below (vp_Si post) ([.ref h0] : List Value).toArray s 0 0 (fun _ => False)) (F0 m 5 ls []) := by
    intro n5
    induction n5 with
    | zero => intro v1_5 ls hv hl; exact hv.elim
    | succ n5 ih5 =>
      intro v1_5 ls hv hl
      refine lv_iconst (v := (0 : Int32)) hx hb dX3_rankedOf_5 (by decide) ?_
      refine lv_istore_n (lv' := [(2, .int (0 : Int32)), (0, .ref h0), (1, .int v1_5)]) hx hb dX3_rankedOf_6 rfl hl (by decide) rfl (fun ls hl => ?_)
      have L7 : ∀ (K7_80 : Int32 → Prop), (∀ (v2_7 : Int32) (ls : Array Slot), K7_80 v2_7 → lv_has ls 5 [(0, .ref h0), (1, .int v1_5), (2, .int v2_7)] → W p l e (headSpec wsX3_rankedOf ({ frames := 2, cells := 0, slots := 0, locals := 45 })).room s m ([.ref h0] : List Value).toArray below meth c s.heap [] 0 0 (MQ below (vp_Si post) ([.ref h0] : List Value).toArray s 0 0 (fun _ => False)) (F0 m 80 ls [])) → ∀ (n7 : Nat) (v2_7 : Int32) (ls : Array Slot), qX3_rankedOf_7 on oo orl ork owl oww v1_5 K7_80 n7 v2_7 → lv_has ls 5 [(0, .ref h0), (1, .int v1_5), (2, .int v2_7)] → W p l e (headSpec wsX3_rankedOf ({ frames := 2, cells := 0, slots := 0, locals := 45 })).room s m ([.ref h0] : List Value).toArray below meth c s.heap [] 0 0 (MQ below (vp_Si post) ([.ref h0] : List Value).toArray s 0 0 (fun _ => False)) (F0 m 7 ls []) := by
        intro K7_80 hk7_80
        intro n7
        induction n7 with
        | zero => intro v2_7 ls hv hl; exact hv.elim
        | succ n7 ih7 =>
          intro v2_7 ls hv hl
          refine lv_aload_n hx hb dX3_rankedOf_7 rfl (lv_at hl 0 rfl) ?_
          refine kc_V (As := []) (rest := []) ⟨hx, hb, hml, hown, hts⟩ (kX3_all l D cI cB h0 h1 h2 on oo og orl ork owl oww ost ord oac ore okn oth _ hv) (cwV 0 hts gX3_rankedOf_X3_all rfl rfl rfl (by decide +kernel) ⟨Nat.le_of_ble_eq_true rfl, Nat.le_of_ble_eq_true rfl⟩) hP hK hN 5 rfl rfl rfl rfl hl.1 rfl (Nat.le_of_ble_eq_true rfl) dX3_rankedOf_8 ⟨Nat.zero_le _, Nat.zero_le _⟩ (fun r8 hv => ?_)
          refine lv_istore_n (lv' := [(3, .int r8), (0, .ref h0), (1, .int v1_5), (2, .int v2_7)]) hx hb dX3_rankedOf_11 rfl hl (by decide) rfl (fun ls hl => ?_)
          have L12 : ∀ (K12_67 : Int32 → Prop), (∀ (v3_12 : Int32) (ls : Array Slot), K12_67 v3_12 → lv_has ls 5 [(0, .ref h0), (1, .int v1_5), (2, .int v2_7), (3, .int v3_12)] → W p l e (headSpec wsX3_rankedOf ({ frames := 2, cells := 0, slots := 0, locals := 45 })).room s m ([.ref h0] : List Value).toArray below meth c s.heap [] 0 0 (MQ below (vp_Si post) ([.ref h0] : List Value).toArray s 0 0 (fun _ => False)) (F0 m 67 ls [])) → ∀ (n12 : Nat) (v3_12 : Int32) (ls : Array Slot), qX3_rankedOf_12 on oo orl ork owl oww v1_5 v2_7 K12_67 n12 v3_12 → lv_has ls 5 [(0, .ref h0), (1, .int v1_5), (2, .int v2_7), (3, .int v3_12)] → W p l e (headSpec wsX3_rankedOf ({ frames := 2, cells := 0, slots := 0, locals := 45 })).room s m ([.ref h0] : List Value).toArray below meth c s.heap [] 0 0 (MQ below (vp_Si post) ([.ref h0] : List Value).toArray s 0 0 (fun _ => False)) (F0 m 12 ls []) := by
            intro K12_67 hk12_67
            intro n12
            induction n12 with
            | zero => intro v3_12 ls hv hl; exact hv.elim
            | succ n12 ih12 =>
              intro v3_12 ls hv hl
              refine lv_aload_n hx hb dX3_rankedOf_12 rfl (lv_at hl 0 rfl) ?_
              refine lv_iconst (v := (0 : Int32)) hx hb dX3_rankedOf_13 (by decide) ?_
              refine kc_V (As := [.int (0 : Int32)]) (rest := []) ⟨hx, hb, hml, hown, hts⟩ (kX3_withRank l D cI cB h0 h1 h2 on oo og orl ork owl oww ost ord oac ore okn oth (0 : Int32) _ hv) (cwV 1 hts gX3_rankedOf_X3_withRank rfl rfl rfl (by decide +kernel) ⟨Nat.le_of_ble_eq_true rfl, Nat.le_of_ble_eq_true rfl⟩) hP hK hN 5 rfl rfl rfl rfl hl.1 rfl (Nat.le_of_ble_eq_true rfl) dX3_rankedOf_14 ⟨Nat.zero_le _, Nat.zero_le _⟩ (fun r14 hv => ?_)
              refine lv_aload_n hx hb dX3_rankedOf_17 rfl (lv_at hl 0 rfl) ?_
              refine lv_iload_n hx hb dX3_rankedOf_18 rfl (lv_at hl 1 rfl) ?_
              refine lv_iconst (v := (0 : Int32)) hx hb dX3_rankedOf_19 (by decide) ?_
              refine kc_V (As := [.int v1_5, .int (0 : Int32)]) (rest := [.int r14]) ⟨hx, hb, hml, hown, hts⟩ (kX3_aheadOf l D cI cB h0 h1 h2 on oo og orl ork owl oww ost ord oac ore okn oth v1_5 (0 : Int32) _ hv) (cwV 2 hts gX3_rankedOf_X3_aheadOf rfl rfl rfl (by decide +kernel) ⟨Nat.le_of_ble_eq_true rfl, Nat.le_of_ble_eq_true rfl⟩) hP hK hN 5 rfl rfl rfl rfl hl.1 rfl (Nat.le_of_ble_eq_true rfl) dX3_rankedOf_20 ⟨Nat.zero_le _, Nat.zero_le _⟩ (fun r20 hv => ?_)
              refine lv_iand hx hb dX3_rankedOf_23 ?_
              refine lv_aload_n hx hb dX3_rankedOf_24 rfl (lv_at hl 0 rfl) ?_
              refine lv_iconst (v := (1 : Int32)) hx hb dX3_rankedOf_25 (by decide) ?_
              refine kc_V (As := [.int (1 : Int32)]) (rest := [.int (r14 &&& r20)]) ⟨hx, hb, hml, hown, hts⟩ (kX3_withRank l D cI cB h0 h1 h2 on oo og orl ork owl oww ost ord oac ore okn oth (1 : Int32) _ hv) (cwV 1 hts gX3_rankedOf_X3_withRank rfl rfl rfl (by decide +kernel) ⟨Nat.le_of_ble_eq_true rfl, Nat.le_of_ble_eq_true rfl⟩) hP hK hN 5 rfl rfl rfl rfl hl.1 rfl (Nat.le_of_ble_eq_true rfl) dX3_rankedOf_26 ⟨Nat.zero_le _, Nat.zero_le _⟩ (fun r26 hv => ?_)
              refine lv_aload_n hx hb dX3_rankedOf_29 rfl (lv_at hl 0 rfl) ?_
              refine lv_iload_n hx hb dX3_rankedOf_30 rfl (lv_at hl 2 rfl) ?_
              refine lv_iconst (v := (0 : Int32)) hx hb dX3_rankedOf_31 (by decide) ?_
              refine kc_V (As := [.int v2_7, .int (0 : Int32)]) (rest := [.int r26, .int (r14 &&& r20)]) ⟨hx, hb, hml, hown, hts⟩ (kX3_aheadOf l D cI cB h0 h1 h2 on oo og orl ork owl oww ost ord oac ore okn oth v2_7 (0 : Int32) _ hv) (cwV 2 hts gX3_rankedOf_X3_aheadOf rfl rfl rfl (by decide +kernel) ⟨Nat.le_of_ble_eq_true rfl, Nat.le_of_ble_eq_true rfl⟩) hP hK hN 5 rfl rfl rfl rfl hl.1 rfl (Nat.le_of_ble_eq_true rfl) dX3_rankedOf_32 ⟨Nat.zero_le _, Nat.zero_le _⟩ (fun r32 hv => ?_)
              refine lv_iand hx hb dX3_rankedOf_35 ?_
              refine lv_ior hx hb dX3_rankedOf_36 ?_
              refine lv_aload_n hx hb dX3_rankedOf_37 rfl (lv_at hl 0 rfl) ?_
              refine lv_iconst (v := (2 : Int32)) hx hb dX3_rankedOf_38 (by decide) ?_
              refine kc_V (As := [.int (2 : Int32)]) (rest := [.int ((r14 &&& r20) ||| (r26 &&& r32))]) ⟨hx, hb, hml, hown, hts⟩ (kX3_withRank l D cI cB h0 h1 h2 on oo og orl ork owl oww ost ord oac ore okn oth (2 : Int32) _ hv) (cwV 1 hts gX3_rankedOf_X3_withRank rfl rfl rfl (by decide +kernel) ⟨Nat.le_of_ble_eq_true rfl, Nat.le_of_ble_eq_true rfl⟩) hP hK hN 5 rfl rfl rfl rfl hl.1 rfl (Nat.le_of_ble_eq_true rfl) dX3_rankedOf_39 ⟨Nat.zero_le _, Nat.zero_le _⟩ (fun r39 hv => ?_)
              refine lv_aload_n hx hb dX3_rankedOf_42 rfl (lv_at hl 0 rfl) ?_
              refine lv_iload_n hx hb dX3_rankedOf_43 rfl (lv_at hl 3 rfl) ?_
              refine lv_iconst (v := (0 : Int32)) hx hb dX3_rankedOf_44 (by decide) ?_
              refine kc_V (As := [.int v3_12, .int (0 : Int32)]) (rest := [.int r39, .int ((r14 &&& r20) ||| (r26 &&& r32))]) ⟨hx, hb, hml, hown, hts⟩ (kX3_aheadOf l D cI cB h0 h1 h2 on oo og orl ork owl oww ost ord oac ore okn oth v3_12 (0 : Int32) _ hv) (cwV 2 hts gX3_rankedOf_X3_aheadOf rfl rfl rfl (by decide +kernel) ⟨Nat.le_of_ble_eq_true rfl, Nat.le_of_ble_eq_true rfl⟩) hP hK hN 5 rfl rfl rfl rfl hl.1 rfl (Nat.le_of_ble_eq_true rfl) dX3_rankedOf_45 ⟨Nat.zero_le _, Nat.zero_le _⟩ (fun r45 hv => ?_)
              refine lv_iand hx hb dX3_rankedOf_48 ?_
              refine lv_ior hx hb dX3_rankedOf_49 ?_
              refine lv_istore (lv' := [(4, .int (((r14 &&& r20) ||| (r26 &&& r32)) ||| (r39 &&& r45))), (0, .ref h0), (1, .int v1_5), (2, .int v2_7), (3, .int v3_12)]) hx hb dX3_rankedOf_50 hl (by decide) rfl (fun ls hl => ?_)
              refine lv_iload hx hb dX3_rankedOf_52 (lv_at hl 0 rfl) ?_
              refine lv_iload_n hx hb dX3_rankedOf_54 rfl (lv_at hl 4 rfl) ?_
              refine lv_icmp_ne (tgt := 61) hx hb dX3_rankedOf_55 (by decide) (fun hc => ?_) (fun hc => ?_)
              · have hv := hv.1 hc
                refine lv_iload hx hb dX3_rankedOf_61 (lv_at hl 0 rfl) ?_
                refine lv_istore_n (lv' := [(3, .int (((r14 &&& r20) ||| (r26 &&& r32)) ||| (r39 &&& r45))), (4, .int (((r14 &&& r20) ||| (r26 &&& r32)) ||| (r39 &&& r45))), (0, .ref h0), (1, .int v1_5), (2, .int v2_7)]) hx hb dX3_rankedOf_63 rfl hl (by decide) rfl (fun ls hl => ?_)
                refine lv_goto (tgt := 12) hx hb dX3_rankedOf_64 (by decide) ?_
                exact ih12 _ ls hv (lv_sub hl [2, 3, 4, 0] rfl)
              · have hv := hv.2 hc
                refine lv_goto (tgt := 67) hx hb dX3_rankedOf_58 (by decide) ?_
                exact hk12_67 _ ls hv (lv_sub hl [1, 2, 3, 4] rfl)
          obtain ⟨n12, hv⟩ := hv
          refine L12 _ (fun v3_12x ls hv hl => ?_) n12 _ _ hv (lv_sub hl [1, 2, 3, 0] rfl)
          refine lv_iload_n hx hb dX3_rankedOf_67 rfl (lv_at hl 3 rfl) ?_
          refine lv_iload_n hx hb dX3_rankedOf_68 rfl (lv_at hl 2 rfl) ?_
          refine lv_icmp_ne (tgt := 75) hx hb dX3_rankedOf_69 (by decide) (fun hc => ?_) (fun hc => ?_)
          · have hv := hv.1 hc
            refine lv_iload_n hx hb dX3_rankedOf_75 rfl (lv_at hl 3 rfl) ?_
            refine lv_istore_n (lv' := [(2, .int v3_12x), (0, .ref h0), (1, .int v1_5), (3, .int v3_12x)]) hx hb dX3_rankedOf_76 rfl hl (by decide) rfl (fun ls hl => ?_)
            refine lv_goto (tgt := 7) hx hb dX3_rankedOf_77 (by decide) ?_
            exact ih7 _ ls hv (lv_sub hl [1, 2, 0] rfl)
          · have hv := hv.2 hc
            refine lv_goto (tgt := 80) hx hb dX3_rankedOf_72 (by decide) ?_
            exact hk7_80 _ ls hv (lv_sub hl [0, 1, 2] rfl)
      obtain ⟨n7, hv⟩ := hv
      refine L7 _ (fun v2_7x ls hv hl => ?_) n7 _ _ hv (lv_sub hl [1, 2, 0] rfl)
      refine lv_iload_n hx hb dX3_rankedOf_80 rfl (lv_at hl 2 rfl) ?_
      refine lv_iload_n hx hb dX3_rankedOf_81 rfl (lv_at hl 1 rfl) ?_
      refine lv_icmp_ne (tgt := 87) hx hb dX3_rankedOf_82 (by decide) (fun hc => ?_) (fun hc => ?_)
      · have hv := hv.1 hc
        refine lv_iload_n hx hb dX3_rankedOf_87 rfl (lv_at hl 2 rfl) ?_
        refine lv_istore_n (lv' := [(1, .int v2_7x), (0, .ref h0), (2, .int v2_7x)]) hx hb dX3_rankedOf_88 rfl hl (by decide) rfl (fun ls hl => ?_)
        refine lv_goto (tgt := 5) hx hb dX3_rankedOf_89 (by decide) ?_
        exact ih5 _ ls hv (lv_sub hl [1, 0] rfl)
      · have hv := hv.2 hc
        refine lv_iload_n hx hb dX3_rankedOf_85 rfl (lv_at hl 1 rfl) ?_
        exact W.iret (v := v1_5) hx hb hr (kSi_ret rfl hv) (fun _ h => by cases h) dX3_rankedOf_86
  obtain ⟨n5, hv⟩ := hv
  refine L5  n5 _ _ hv (lv_sub hl [1, 0] rfl)
set_option maxHeartbeats 4000000 in
set_option maxRecDepth 100000 in
theorem kX3_wonIn (l : Launch) (D : va_G) (cI cB : ClassId) (h0 : Nat) (h1 : Nat) (h2 : Nat) (on : Int32) (oo : Int32) (og : Int32) (orl : Nat) (ork : Nat → Int32) (owl : Nat) (oww : Nat → Int32) (ost : Int32) (ord : Int32) (oac : Int32) (ore : Int32) (okn : Int32) (oth : Int32) (a1 : Int32) (a2 : Int32) (post : Int32 → Prop) (hv : qX3_wonIn on oo og orl ork owl oww a1 a2 post) : Met l yX3_wonIn wsX3_wonIn ({ frames := 5, cells := 0, slots := 0, locals := 112 }) (va_Pc [.ref h0, .int a1, .int a2] (kB D cI cB [(h0, .inr (5, [.int on, .int oo, .int og, .ref h1, .ref h2, .int ost, .int ord, .int oac, .int ore, .int okn, .int oth])), (h1, .inl (cI, orl, .inl ork)), (h2, .inl (cI, owl, .inl oww))])) (vp_Si post) 0 0 (fun _ => False) := by
  refine Met.ofW (cc := cX3_wonIn) (maxL := 3) (ret := (some .int)) (by decide) rfl ?_
  intro p e s m args below meth c s₁ B hml hv0
  obtain ⟨rfl, hP, hK, hN⟩ := hv0
  have hx := B.exec
  have hb := B.bytes
  have hr := B.returns
  have hts := atoms_spec (ws := wsX3_wonIn) B.pre
  have hown : s.vm.findClass RX3 = some m.cls := findClass_of_methodNamed B.named
  have hlocks := B.notSynchronized
  have hl := lv_entry ([.ref h0, .int a1, .int a2]) (n := 3) (Nat.le_of_ble_eq_true rfl)
  rw [lg_entry_eq]
  generalize (lg_sl ([.ref h0, .int a1, .int a2]) ++ List.replicate (3 - (lg_sl ([.ref h0, .int a1, .int a2])).length) Slot.unset).toArray = ls at hl ⊢
  have hl : lv_has ls 3 [(0, .ref h0), (1, .int a1), (2, .int a2)] := hl
  refine lv_iload_n hx hb dX3_wonIn_0 rfl (lv_at hl 1 rfl) ?_
  by_cases hc0 : a1 = (0 : Int32)
  · have hv := hv.1 hc0
    refine lv_tableIn (off := 27) (tgt := 28) hx hb dX3_wonIn_1 (by rw [hc0]; decide) (by rw [hc0]; decide) (by rw [hc0]; decide) (by decide) ?_
    refine lv_aload_n hx hb dX3_wonIn_28 rfl (lv_at hl 0 rfl) ?_
    refine lv_iload_n hx hb dX3_wonIn_29 rfl (lv_at hl 2 rfl) ?_
    refine kc_V (As := [.int a2]) (rest := []) ⟨hx, hb, hml, hown, hts⟩ (kX3_comingOf l D cI cB h0 h1 h2 on oo og orl ork owl oww ost ord oac ore okn oth a2 _ hv) (cwV 1 hts gX3_wonIn_X3_comingOf rfl rfl rfl (by decide +kernel) ⟨Nat.le_of_ble_eq_true rfl, Nat.le_of_ble_eq_true rfl⟩) hP hK hN 5 rfl rfl rfl rfl hl.1 rfl (Nat.le_of_ble_eq_true rfl) dX3_wonIn_30 ⟨Nat.zero_le _, Nat.zero_le _⟩ (fun r30 hv => ?_)
    exact W.iret (v := r30) hx hb hr (kSi_ret rfl hv) (fun _ h => by cases h) dX3_wonIn_33
  · have hv := hv.2 hc0
    by_cases hc1 : a1 = (1 : Int32)
    · have hv := hv.1 hc1
      refine lv_tableIn (off := 33) (tgt := 34) hx hb dX3_wonIn_1 (by rw [hc1]; decide) (by rw [hc1]; decide) (by rw [hc1]; decide) (by decide) ?_
      refine lv_aload_n hx hb dX3_wonIn_34 rfl (lv_at hl 0 rfl) ?_
      refine lv_iload_n hx hb dX3_wonIn_35 rfl (lv_at hl 2 rfl) ?_
      refine kc_V (As := [.int a2]) (rest := []) ⟨hx, hb, hml, hown, hts⟩ (kX3_keepingOf l D cI cB h0 h1 h2 on oo og orl ork owl oww ost ord oac ore okn oth a2 _ hv) (cwV 1 hts gX3_wonIn_X3_keepingOf rfl rfl rfl (by decide +kernel) ⟨Nat.le_of_ble_eq_true rfl, Nat.le_of_ble_eq_true rfl⟩) hP hK hN 5 rfl rfl rfl rfl hl.1 rfl (Nat.le_of_ble_eq_true rfl) dX3_wonIn_36 ⟨Nat.zero_le _, Nat.zero_le _⟩ (fun r36 hv => ?_)
      exact W.iret (v := r36) hx hb hr (kSi_ret rfl hv) (fun _ h => by cases h) dX3_wonIn_39
    · have hv := hv.2 hc1
      by_cases hc2 : a1 = (2 : Int32)
      · have hv := hv.1 hc2
        refine lv_tableIn (off := 39) (tgt := 40) hx hb dX3_wonIn_1 (by rw [hc2]; decide) (by rw [hc2]; decide) (by rw [hc2]; decide) (by decide) ?_
        refine lv_aload_n hx hb dX3_wonIn_40 rfl (lv_at hl 0 rfl) ?_
        refine lv_iload_n hx hb dX3_wonIn_41 rfl (lv_at hl 2 rfl) ?_
        refine kc_V (As := [.int a2]) (rest := []) ⟨hx, hb, hml, hown, hts⟩ (kX3_againOf l D cI cB h0 h1 h2 on oo og orl ork owl oww ost ord oac ore okn oth a2 _ hv) (cwV 1 hts gX3_wonIn_X3_againOf rfl rfl rfl (by decide +kernel) ⟨Nat.le_of_ble_eq_true rfl, Nat.le_of_ble_eq_true rfl⟩) hP hK hN 5 rfl rfl rfl rfl hl.1 rfl (Nat.le_of_ble_eq_true rfl) dX3_wonIn_42 ⟨Nat.zero_le _, Nat.zero_le _⟩ (fun r42 hv => ?_)
        exact W.iret (v := r42) hx hb hr (kSi_ret rfl hv) (fun _ h => by cases h) dX3_wonIn_45
      · have hv := hv.2 hc2
        refine lv_tableOut (tgt := 46) hx hb dX3_wonIn_1 (by have g0 := lv_neT hc0 (a := 0) (by decide); have g1 := lv_neT hc1 (a := 1) (by decide); have g2 := lv_neT hc2 (a := 2) (by decide); omega) (by decide) ?_
        refine lv_iload_n hx hb dX3_wonIn_46 rfl (lv_at hl 2 rfl) ?_
        refine lv_if_ne (tgt := 57) hx hb dX3_wonIn_47 (by decide) (fun hc => ?_) (fun hc => ?_)
        · have hv := hv.1 hc
          refine lv_aload_n hx hb dX3_wonIn_57 rfl (lv_at hl 0 rfl) ?_
          refine kc_V (As := []) (rest := []) ⟨hx, hb, hml, hown, hts⟩ (kX3_all l D cI cB h0 h1 h2 on oo og orl ork owl oww ost ord oac ore okn oth _ hv) (cwV 0 hts gX3_wonIn_X3_all rfl rfl rfl (by decide +kernel) ⟨Nat.le_of_ble_eq_true rfl, Nat.le_of_ble_eq_true rfl⟩) hP hK hN 5 rfl rfl rfl rfl hl.1 rfl (Nat.le_of_ble_eq_true rfl) dX3_wonIn_58 ⟨Nat.zero_le _, Nat.zero_le _⟩ (fun r58 hv => ?_)
          refine lv_aload_n hx hb dX3_wonIn_61 rfl (lv_at hl 0 rfl) ?_
          refine kc_V (As := []) (rest := [.int r58]) ⟨hx, hb, hml, hown, hts⟩ (kX3_rankedOf l D cI cB h0 h1 h2 on oo og orl ork owl oww ost ord oac ore okn oth _ hv) (cwV 0 hts gX3_wonIn_X3_rankedOf rfl rfl rfl (by decide +kernel) ⟨Nat.le_of_ble_eq_true rfl, Nat.le_of_ble_eq_true rfl⟩) hP hK hN 5 rfl rfl rfl rfl hl.1 rfl (Nat.le_of_ble_eq_true rfl) dX3_wonIn_62 ⟨Nat.zero_le _, Nat.zero_le _⟩ (fun r62 hv => ?_)
          refine lv_iconst (v := (-1 : Int32)) hx hb dX3_wonIn_65 (by decide) ?_
          refine lv_ixor hx hb dX3_wonIn_66 ?_
          refine lv_iand hx hb dX3_wonIn_67 ?_
          exact W.iret (v := (r58 &&& (r62 ^^^ (-1 : Int32)))) hx hb hr (kSi_ret rfl hv) (fun _ h => by cases h) dX3_wonIn_68
        · have hv := hv.2 hc
          refine lv_aload_n hx hb dX3_wonIn_50 rfl (lv_at hl 0 rfl) ?_
          refine kc_V (As := []) (rest := []) ⟨hx, hb, hml, hown, hts⟩ (kX3_rankedOf l D cI cB h0 h1 h2 on oo og orl ork owl oww ost ord oac ore okn oth _ hv) (cwV 0 hts gX3_wonIn_X3_rankedOf rfl rfl rfl (by decide +kernel) ⟨Nat.le_of_ble_eq_true rfl, Nat.le_of_ble_eq_true rfl⟩) hP hK hN 5 rfl rfl rfl rfl hl.1 rfl (Nat.le_of_ble_eq_true rfl) dX3_wonIn_51 ⟨Nat.zero_le _, Nat.zero_le _⟩ (fun r51 hv => ?_)
          refine lv_goto (tgt := 68) hx hb dX3_wonIn_54 (by decide) ?_
          exact W.iret (v := r51) hx hb hr (kSi_ret rfl hv) (fun _ h => by cases h) dX3_wonIn_68
set_option maxHeartbeats 4000000 in
set_option maxRecDepth 100000 in
theorem kX3_roundsTo (l : Launch) (D : va_G) (cI cB : ClassId) (h0 : Nat) (h1 : Nat) (h2 : Nat) (on : Int32) (oo : Int32) (og : Int32) (orl : Nat) (ork : Nat → Int32) (owl : Nat) (oww : Nat → Int32) (ost : Int32) (ord : Int32) (oac : Int32) (ore : Int32) (okn : Int32) (oth : Int32) (a1 : Int32) (a2 : Int32) (a3 : Int32) (post : Int32 → Prop) (hv : qX3_roundsTo on oo og owl oww a1 a2 a3 post) : Met l yX3_roundsTo wsX3_roundsTo ({ frames := 2, cells := 0, slots := 0, locals := 45 }) (va_Pc [.ref h0, .int a1, .int a2, .int a3] (kB D cI cB [(h0, .inr (5, [.int on, .int oo, .int og, .ref h1, .ref h2, .int ost, .int ord, .int oac, .int ore, .int okn, .int oth])), (h1, .inl (cI, orl, .inl ork)), (h2, .inl (cI, owl, .inl oww))])) (vp_Si post) 0 0 (fun _ => False) := by
  refine Met.ofW (cc := cX3_roundsTo) (maxL := 6) (ret := (some .int)) (by decide) rfl ?_
  intro p e s m args below meth c s₁ B hml hv0
  obtain ⟨rfl, hP, hK, hN⟩ := hv0
  have hx := B.exec
  have hb := B.bytes
  have hr := B.returns
  have hts := atoms_spec (ws := wsX3_roundsTo) B.pre
  have hown : s.vm.findClass RX3 = some m.cls := findClass_of_methodNamed B.named
  have hlocks := B.notSynchronized
  have hi_X3 : ∀ w ∈ wsX30, w ∈ wsX3_roundsTo := by decide +kernel
  have hF17 := hts (.fieldLink RX3 17 "RoadgameModel" "n" "I") (by decide +kernel)
  have hF23 := hts (.fieldLink RX3 23 "RoadgameModel" "goal" "I") (by decide +kernel)
  have hF30 := hts (.fieldLink RX3 30 "RoadgameModel" "ways" "[I") (by decide +kernel)
  have hl := lv_entry ([.ref h0, .int a1, .int a2, .int a3]) (n := 6) (Nat.le_of_ble_eq_true rfl)
  rw [lg_entry_eq]
  generalize (lg_sl ([.ref h0, .int a1, .int a2, .int a3]) ++ List.replicate (6 - (lg_sl ([.ref h0, .int a1, .int a2, .int a3])).length) Slot.unset).toArray = ls at hl ⊢
  have hl : lv_has ls 6 [(0, .ref h0), (1, .int a1), (2, .int a2), (3, .int a3)] := hl
  refine lv_iload_n hx hb dX3_roundsTo_0 rfl (lv_at hl 1 rfl) ?_
  refine lv_iload_n hx hb dX3_roundsTo_1 rfl (lv_at hl 3 rfl) ?_
  refine kc_S (As := [.int a1, .int a3]) (rest := []) ⟨hx, hb, hml, hown, hts⟩ (kX3_isIn l D cI cB a1 a3 _ hv) (va_cwS 2 hts gX3_roundsTo_X3_isIn rfl rfl rfl (by decide +kernel) ⟨Nat.le_of_ble_eq_true rfl, Nat.le_of_ble_eq_true rfl⟩) (hP.sub (ws' := []) [] rfl) hK hN rfl hl.1 rfl (Nat.le_of_ble_eq_true rfl) dX3_roundsTo_2 ⟨Nat.zero_le _, Nat.zero_le _⟩ (fun r2 hv => ?_)
  refine lv_if_ne (tgt := 10) hx hb dX3_roundsTo_5 (by decide) (fun hc => ?_) (fun hc => ?_)
  · have hv := hv.1 hc
    refine lv_aload_n hx hb dX3_roundsTo_10 rfl (lv_at hl 0 rfl) ?_
    refine va_get (D := D) (ci := 5) (v := .int og) (C := RX3) (T := TX3) (N := 11) hx hb hts hi_X3 hown hK hP 0 rfl rfl 2 (by decide) hF23 (fun _ h9 => h9) rfl dX3_roundsTo_11 ?_
    refine lv_iload_n hx hb dX3_roundsTo_14 rfl (lv_at hl 1 rfl) ?_
    refine lv_iand hx hb dX3_roundsTo_15 ?_
    refine lv_istore (lv' := [(4, .int (og &&& a1)), (0, .ref h0), (1, .int a1), (2, .int a2), (3, .int a3)]) hx hb dX3_roundsTo_16 hl (by decide) rfl (fun ls hl => ?_)
    refine lv_iconst (v := (0 : Int32)) hx hb dX3_roundsTo_18 (by decide) ?_
    refine lv_istore (lv' := [(5, .int (0 : Int32)), (4, .int (og &&& a1)), (0, .ref h0), (1, .int a1), (2, .int a2), (3, .int a3)]) hx hb dX3_roundsTo_19 hl (by decide) rfl (fun ls hl => ?_)
    have L21 : ∀ (K21_65 : Int32 → Int32 → Prop), (∀ (v4_21 : Int32) (v5_21 : Int32) (ls : Array Slot), K21_65 v4_21 v5_21 → lv_has ls 6 [(0, .ref h0), (1, .int a1), (2, .int a2), (3, .int a3), (4, .int v4_21), (5, .int v5_21)] → W p l e (headSpec wsX3_roundsTo ({ frames := 2, cells := 0, slots := 0, locals := 45 })).room s m ([.ref h0, .int a1, .int a2, .int a3] : List Value).toArray below meth c s.heap [] 0 0 (MQ below (vp_Si post) ([.ref h0, .int a1, .int a2, .int a3] : List Value).toArray s 0 0 (fun _ => False)) (F0 m 65 ls [])) → ∀ (n21 : Nat) (v4_21 : Int32) (v5_21 : Int32) (ls : Array Slot), qX3_roundsTo_21 on oo owl oww a2 K21_65 n21 v4_21 v5_21 → lv_has ls 6 [(0, .ref h0), (1, .int a1), (2, .int a2), (3, .int a3), (4, .int v4_21), (5, .int v5_21)] → W p l e (headSpec wsX3_roundsTo ({ frames := 2, cells := 0, slots := 0, locals := 45 })).room s m ([.ref h0, .int a1, .int a2, .int a3] : List Value).toArray below meth c s.heap [] 0 0 (MQ below (vp_Si post) ([.ref h0, .int a1, .int a2, .int a3] : List Value).toArray s 0 0 (fun _ => False)) (F0 m 21 ls []) := by
      intro K21_65 hk21_65
      intro n21
      induction n21 with
      | zero => intro v4_21 v5_21 ls hv hl; exact hv.elim
      | succ n21 ih21 =>
        intro v4_21 v5_21 ls hv hl
        refine lv_iload hx hb dX3_roundsTo_21 (lv_at hl 5 rfl) ?_
        refine lv_aload_n hx hb dX3_roundsTo_23 rfl (lv_at hl 0 rfl) ?_
        refine va_get (D := D) (ci := 5) (v := .int on) (C := RX3) (T := TX3) (N := 11) hx hb hts hi_X3 hown hK hP 0 rfl rfl 0 (by decide) hF17 (fun _ h9 => h9) rfl dX3_roundsTo_24 ?_
        refine lv_icmp_ge (tgt := 65) hx hb dX3_roundsTo_27 (by decide) (fun hc => ?_) (fun hc => ?_)
        · have hv := hv.1 hc
          exact hk21_65 _ _ ls hv (lv_sub hl [0, 1, 2, 3, 4, 5] rfl)
        · have hv := hv.2 hc
          refine lv_aload_n hx hb dX3_roundsTo_30 rfl (lv_at hl 0 rfl) ?_
          refine lv_iload hx hb dX3_roundsTo_31 (lv_at hl 5 rfl) ?_
          refine kc_V (As := [.int v5_21]) (rest := []) ⟨hx, hb, hml, hown, hts⟩ (kX3_sideOf l D cI cB h0 h1 h2 on oo og orl ork owl oww ost ord oac ore okn oth v5_21 _ hv) (cwV 1 hts gX3_roundsTo_X3_sideOf rfl rfl rfl (by decide +kernel) ⟨Nat.le_of_ble_eq_true rfl, Nat.le_of_ble_eq_true rfl⟩) hP hK hN 5 rfl rfl rfl rfl hl.1 rfl (Nat.le_of_ble_eq_true rfl) dX3_roundsTo_33 ⟨Nat.zero_le _, Nat.zero_le _⟩ (fun r33 hv => ?_)
          refine lv_iload_n hx hb dX3_roundsTo_36 rfl (lv_at hl 2 rfl) ?_
          refine lv_icmp_eq (tgt := 59) hx hb dX3_roundsTo_37 (by decide) (fun hc => ?_) (fun hc => ?_)
          · have hv := hv.1 hc
            refine lv_iinc (v := (v5_21 + (1 : Int32))) (lv' := [(5, .int (v5_21 + (1 : Int32))), (0, .ref h0), (1, .int a1), (2, .int a2), (3, .int a3), (4, .int v4_21)]) hx hb dX3_roundsTo_59 hl (k := 5) rfl rfl (by decide) rfl (fun ls hl => ?_)
            refine lv_goto (tgt := 21) hx hb dX3_roundsTo_62 (by decide) ?_
            exact ih21 _ _ ls hv (lv_sub hl [1, 2, 3, 4, 5, 0] rfl)
          · have hv := hv.2 hc
            refine lv_aload_n hx hb dX3_roundsTo_40 rfl (lv_at hl 0 rfl) ?_
            refine va_get (D := D) (ci := 5) (v := .ref h2) (C := RX3) (T := TX3) (N := 11) hx hb hts hi_X3 hown hK hP 0 rfl rfl 4 (by decide) hF30 (fun _ h9 => h9) rfl dX3_roundsTo_41 ?_
            refine lv_iload hx hb dX3_roundsTo_44 (lv_at hl 5 rfl) ?_
            obtain ⟨hq, hv⟩ := hv
            refine va_iald hx hb hK hP 2 0 rfl rfl hq dX3_roundsTo_46 ?_
            refine lv_if_ne (tgt := 59) hx hb dX3_roundsTo_47 (by decide) (fun hc => ?_) (fun hc => ?_)
            · have hv := hv.1 hc
              refine lv_iinc (v := (v5_21 + (1 : Int32))) (lv' := [(5, .int (v5_21 + (1 : Int32))), (0, .ref h0), (1, .int a1), (2, .int a2), (3, .int a3), (4, .int v4_21)]) hx hb dX3_roundsTo_59 hl (k := 5) rfl rfl (by decide) rfl (fun ls hl => ?_)
              refine lv_goto (tgt := 21) hx hb dX3_roundsTo_62 (by decide) ?_
              exact ih21 _ _ ls hv (lv_sub hl [1, 2, 3, 4, 5, 0] rfl)
            · have hv := hv.2 hc
              refine lv_iload hx hb dX3_roundsTo_50 (lv_at hl 4 rfl) ?_
              refine lv_iconst (v := (1 : Int32)) hx hb dX3_roundsTo_52 (by decide) ?_
              refine lv_iload hx hb dX3_roundsTo_53 (lv_at hl 5 rfl) ?_
              refine lv_ishl hx hb dX3_roundsTo_55 ?_
              refine lv_ior hx hb dX3_roundsTo_56 ?_
              refine lv_istore (lv' := [(4, .int (v4_21 ||| ((1 : Int32) <<< (v5_21 &&& (31 : Int32))))), (0, .ref h0), (1, .int a1), (2, .int a2), (3, .int a3), (5, .int v5_21)]) hx hb dX3_roundsTo_57 hl (by decide) rfl (fun ls hl => ?_)
              refine lv_iinc (v := (v5_21 + (1 : Int32))) (lv' := [(5, .int (v5_21 + (1 : Int32))), (4, .int (v4_21 ||| ((1 : Int32) <<< (v5_21 &&& (31 : Int32))))), (0, .ref h0), (1, .int a1), (2, .int a2), (3, .int a3)]) hx hb dX3_roundsTo_59 hl (k := 5) rfl rfl (by decide) rfl (fun ls hl => ?_)
              refine lv_goto (tgt := 21) hx hb dX3_roundsTo_62 (by decide) ?_
              exact ih21 _ _ ls hv (lv_sub hl [2, 3, 4, 5, 1, 0] rfl)
    obtain ⟨n21, hv⟩ := hv
    refine L21 _ (fun v4_21x v5_21x ls hv hl => ?_) n21 _ _ _ hv (lv_sub hl [2, 3, 4, 5, 1, 0] rfl)
    refine lv_iconst (v := (0 : Int32)) hx hb dX3_roundsTo_65 (by decide) ?_
    refine lv_istore (lv' := [(5, .int (0 : Int32)), (0, .ref h0), (1, .int a1), (2, .int a2), (3, .int a3), (4, .int v4_21x)]) hx hb dX3_roundsTo_66 hl (by decide) rfl (fun ls hl => ?_)
    have L68 : ∀ (K68_97 : Int32 → Int32 → Prop), (∀ (v4_68 : Int32) (v5_68 : Int32) (ls : Array Slot), K68_97 v4_68 v5_68 → lv_has ls 6 [(0, .ref h0), (1, .int a1), (2, .int a2), (3, .int a3), (4, .int v4_68), (5, .int v5_68)] → W p l e (headSpec wsX3_roundsTo ({ frames := 2, cells := 0, slots := 0, locals := 45 })).room s m ([.ref h0, .int a1, .int a2, .int a3] : List Value).toArray below meth c s.heap [] 0 0 (MQ below (vp_Si post) ([.ref h0, .int a1, .int a2, .int a3] : List Value).toArray s 0 0 (fun _ => False)) (F0 m 97 ls [])) → ∀ (n68 : Nat) (v4_68 : Int32) (v5_68 : Int32) (ls : Array Slot), qX3_roundsTo_68 on oo owl oww a1 a2 a3 K68_97 n68 v4_68 v5_68 → lv_has ls 6 [(0, .ref h0), (1, .int a1), (2, .int a2), (3, .int a3), (4, .int v4_68), (5, .int v5_68)] → W p l e (headSpec wsX3_roundsTo ({ frames := 2, cells := 0, slots := 0, locals := 45 })).room s m ([.ref h0, .int a1, .int a2, .int a3] : List Value).toArray below meth c s.heap [] 0 0 (MQ below (vp_Si post) ([.ref h0, .int a1, .int a2, .int a3] : List Value).toArray s 0 0 (fun _ => False)) (F0 m 68 ls []) := by
      intro K68_97 hk68_97
      intro n68
      induction n68 with
      | zero => intro v4_68 v5_68 ls hv hl; exact hv.elim
      | succ n68 ih68 =>
        intro v4_68 v5_68 ls hv hl
        refine lv_iload hx hb dX3_roundsTo_68 (lv_at hl 4 rfl) ?_
        refine lv_iload_n hx hb dX3_roundsTo_70 rfl (lv_at hl 3 rfl) ?_
        refine kc_S (As := [.int v4_68, .int a3]) (rest := []) ⟨hx, hb, hml, hown, hts⟩ (kX3_isIn l D cI cB v4_68 a3 _ hv) (va_cwS 2 hts gX3_roundsTo_X3_isIn rfl rfl rfl (by decide +kernel) ⟨Nat.le_of_ble_eq_true rfl, Nat.le_of_ble_eq_true rfl⟩) (hP.sub (ws' := []) [] rfl) hK hN rfl hl.1 rfl (Nat.le_of_ble_eq_true rfl) dX3_roundsTo_71 ⟨Nat.zero_le _, Nat.zero_le _⟩ (fun r71 hv => ?_)
        refine lv_if_ne (tgt := 97) hx hb dX3_roundsTo_74 (by decide) (fun hc => ?_) (fun hc => ?_)
        · have hv := hv.1 hc
          exact hk68_97 _ _ ls hv (lv_sub hl [0, 1, 2, 3, 4, 5] rfl)
        · have hv := hv.2 hc
          refine lv_iload hx hb dX3_roundsTo_77 (lv_at hl 4 rfl) ?_
          refine lv_aload_n hx hb dX3_roundsTo_79 rfl (lv_at hl 0 rfl) ?_
          refine lv_iload hx hb dX3_roundsTo_80 (lv_at hl 4 rfl) ?_
          refine lv_iload_n hx hb dX3_roundsTo_82 rfl (lv_at hl 2 rfl) ?_
          refine kc_V (As := [.int v4_68, .int a2]) (rest := [.int v4_68]) ⟨hx, hb, hml, hown, hts⟩ (kX3_aheadOf l D cI cB h0 h1 h2 on oo og orl ork owl oww ost ord oac ore okn oth v4_68 a2 _ hv) (cwV 2 hts gX3_roundsTo_X3_aheadOf rfl rfl rfl (by decide +kernel) ⟨Nat.le_of_ble_eq_true rfl, Nat.le_of_ble_eq_true rfl⟩) hP hK hN 5 rfl rfl rfl rfl hl.1 rfl (Nat.le_of_ble_eq_true rfl) dX3_roundsTo_83 ⟨Nat.zero_le _, Nat.zero_le _⟩ (fun r83 hv => ?_)
          refine lv_iload_n hx hb dX3_roundsTo_86 rfl (lv_at hl 1 rfl) ?_
          refine lv_iand hx hb dX3_roundsTo_87 ?_
          refine lv_ior hx hb dX3_roundsTo_88 ?_
          refine lv_istore (lv' := [(4, .int (v4_68 ||| (r83 &&& a1))), (0, .ref h0), (1, .int a1), (2, .int a2), (3, .int a3), (5, .int v5_68)]) hx hb dX3_roundsTo_89 hl (by decide) rfl (fun ls hl => ?_)
          refine lv_iinc (v := (v5_68 + (1 : Int32))) (lv' := [(5, .int (v5_68 + (1 : Int32))), (4, .int (v4_68 ||| (r83 &&& a1))), (0, .ref h0), (1, .int a1), (2, .int a2), (3, .int a3)]) hx hb dX3_roundsTo_91 hl (k := 5) rfl rfl (by decide) rfl (fun ls hl => ?_)
          refine lv_goto (tgt := 68) hx hb dX3_roundsTo_94 (by decide) ?_
          exact ih68 _ _ ls hv (lv_sub hl [2, 3, 4, 5, 1, 0] rfl)
    obtain ⟨n68, hv⟩ := hv
    refine L68 _ (fun v4_68x v5_68x ls hv hl => ?_) n68 _ _ _ hv (lv_sub hl [1, 2, 3, 4, 5, 0] rfl)
    refine lv_iload hx hb dX3_roundsTo_97 (lv_at hl 5 rfl) ?_
    exact W.iret (v := v5_68x) hx hb hr (kSi_ret rfl hv) (fun _ h => by cases h) dX3_roundsTo_99
  · have hv := hv.2 hc
    refine lv_iconst (v := (-1 : Int32)) hx hb dX3_roundsTo_8 (by decide) ?_
    exact W.iret (v := (-1 : Int32)) hx hb hr (kSi_ret rfl hv) (fun _ h => by cases h) dX3_roundsTo_9
set_option maxHeartbeats 4000000 in
set_option maxRecDepth 100000 in
theorem kX3_choiceOf (l : Launch) (D : va_G) (cI cB : ClassId) (h0 : Nat) (h1 : Nat) (h2 : Nat) (on : Int32) (oo : Int32) (og : Int32) (orl : Nat) (ork : Nat → Int32) (owl : Nat) (oww : Nat → Int32) (ost : Int32) (ord : Int32) (oac : Int32) (ore : Int32) (okn : Int32) (oth : Int32) (a1 : Int32) (a2 : Int32) (a3 : Int32) (post : Int32 → Prop) (hv : qX3_choiceOf on oo og orl ork owl oww a1 a2 a3 post) : Met l yX3_choiceOf wsX3_choiceOf ({ frames := 6, cells := 0, slots := 0, locals := 134 }) (va_Pc [.ref h0, .int a1, .int a2, .int a3] (kB D cI cB [(h0, .inr (5, [.int on, .int oo, .int og, .ref h1, .ref h2, .int ost, .int ord, .int oac, .int ore, .int okn, .int oth])), (h1, .inl (cI, orl, .inl ork)), (h2, .inl (cI, owl, .inl oww))])) (vp_Si post) 0 0 (fun _ => False) := by
  refine Met.ofW (cc := cX3_choiceOf) (maxL := 7) (ret := (some .int)) (by decide) rfl ?_
  intro p e s m args below meth c s₁ B hml hv0
  obtain ⟨rfl, hP, hK, hN⟩ := hv0
  have hx := B.exec
  have hb := B.bytes
  have hr := B.returns
  have hts := atoms_spec (ws := wsX3_choiceOf) B.pre
  have hown : s.vm.findClass RX3 = some m.cls := findClass_of_methodNamed B.named
  have hlocks := B.notSynchronized
  have hi_X3 : ∀ w ∈ wsX30, w ∈ wsX3_choiceOf := by decide +kernel
  have hF17 := hts (.fieldLink RX3 17 "RoadgameModel" "n" "I") (by decide +kernel)
  have hF23 := hts (.fieldLink RX3 23 "RoadgameModel" "goal" "I") (by decide +kernel)
  have hF30 := hts (.fieldLink RX3 30 "RoadgameModel" "ways" "[I") (by decide +kernel)
  have hl := lv_entry ([.ref h0, .int a1, .int a2, .int a3]) (n := 7) (Nat.le_of_ble_eq_true rfl)
  rw [lg_entry_eq]
  generalize (lg_sl ([.ref h0, .int a1, .int a2, .int a3]) ++ List.replicate (7 - (lg_sl ([.ref h0, .int a1, .int a2, .int a3])).length) Slot.unset).toArray = ls at hl ⊢
  have hl : lv_has ls 7 [(0, .ref h0), (1, .int a1), (2, .int a2), (3, .int a3)] := hl
  refine lv_aload_n hx hb dX3_choiceOf_0 rfl (lv_at hl 0 rfl) ?_
  refine lv_iload_n hx hb dX3_choiceOf_1 rfl (lv_at hl 1 rfl) ?_
  refine lv_iload_n hx hb dX3_choiceOf_2 rfl (lv_at hl 2 rfl) ?_
  refine kc_V (As := [.int a1, .int a2]) (rest := []) ⟨hx, hb, hml, hown, hts⟩ (kX3_wonIn l D cI cB h0 h1 h2 on oo og orl ork owl oww ost ord oac ore okn oth a1 a2 _ hv) (cwV 2 hts gX3_choiceOf_X3_wonIn rfl rfl rfl (by decide +kernel) ⟨Nat.le_of_ble_eq_true rfl, Nat.le_of_ble_eq_true rfl⟩) hP hK hN 5 rfl rfl rfl rfl hl.1 rfl (Nat.le_of_ble_eq_true rfl) dX3_choiceOf_3 ⟨Nat.zero_le _, Nat.zero_le _⟩ (fun r3 hv => ?_)
  refine lv_istore (lv' := [(4, .int r3), (0, .ref h0), (1, .int a1), (2, .int a2), (3, .int a3)]) hx hb dX3_choiceOf_6 hl (by decide) rfl (fun ls hl => ?_)
  refine lv_aload_n hx hb dX3_choiceOf_8 rfl (lv_at hl 1 rfl) ?_
  refine lv_iload_n hx hb dX3_choiceOf_9 rfl (lv_at hl 4 rfl) ?_
  refine kc_V (As := [.int a3]) (rest := []) ⟨hx, hb, hml, hown, hts⟩ (kX3_sideOf l D cI cB h0 h1 h2 on oo og orl ork owl oww ost ord oac ore okn oth a3 _ hv) (cwV 1 hts gX3_choiceOf_X3_sideOf rfl rfl rfl (by decide +kernel) ⟨Nat.le_of_ble_eq_true rfl, Nat.le_of_ble_eq_true rfl⟩) hP hK hN 5 rfl rfl rfl rfl hl.1 rfl (Nat.le_of_ble_eq_true rfl) dX3_choiceOf_10 ⟨Nat.zero_le _, Nat.zero_le _⟩ (fun r10 hv => ?_)
  refine lv_iload_n hx hb dX3_choiceOf_13 rfl (lv_at hl 3 rfl) ?_
  refine lv_icmp_ne (tgt := 26) hx hb dX3_choiceOf_14 (by decide) (fun hc => ?_) (fun hc => ?_)
  · have hv := hv.1 hc
    refine lv_iconst (v := (-1 : Int32)) hx hb dX3_choiceOf_26 (by decide) ?_
    exact W.iret (v := (-1 : Int32)) hx hb hr (kSi_ret rfl hv) (fun _ h => by cases h) dX3_choiceOf_27
  · have hv := hv.2 hc
    refine lv_iload hx hb dX3_choiceOf_17 (lv_at hl 0 rfl) ?_
    refine lv_iload_n hx hb dX3_choiceOf_19 rfl (lv_at hl 4 rfl) ?_
    refine kc_S (As := [.int r3, .int a3]) (rest := []) ⟨hx, hb, hml, hown, hts⟩ (kX3_isIn l D cI cB r3 a3 _ hv) (va_cwS 2 hts gX3_choiceOf_X3_isIn rfl rfl rfl (by decide +kernel) ⟨Nat.le_of_ble_eq_true rfl, Nat.le_of_ble_eq_true rfl⟩) (hP.sub (ws' := []) [] rfl) hK hN rfl hl.1 rfl (Nat.le_of_ble_eq_true rfl) dX3_choiceOf_20 ⟨Nat.zero_le _, Nat.zero_le _⟩ (fun r20 hv => ?_)
    refine lv_if_ne (tgt := 28) hx hb dX3_choiceOf_23 (by decide) (fun hc => ?_) (fun hc => ?_)
    · have hv := hv.1 hc
      refine lv_iload_n hx hb dX3_choiceOf_28 rfl (lv_at hl 2 rfl) ?_
      have J45 : ∀  (ls : Array Slot), qX3_choiceOf_j45 on oo og owl oww a1 a2 a3 r3 post → lv_has ls 7 [(0, .ref h0), (1, .int a1), (2, .int a2), (3, .int a3), (4, .int r3)] → W p l e (headSpec wsX3_choiceOf ({ frames := 6, cells := 0, slots := 0, locals := 134 })).room s m ([.ref h0, .int a1, .int a2, .int a3] : List Value).toArray below meth c s.heap [] 0 0 (MQ below (vp_Si post) ([.ref h0, .int a1, .int a2, .int a3] : List Value).toArray s 0 0 (fun _ => False)) (F0 m 45 ls []) := by
        intro  ls hv hl
        refine lv_iload_n hx hb dX3_choiceOf_45 rfl (lv_at hl 1 rfl) ?_
        refine lv_iconst (v := (1 : Int32)) hx hb dX3_choiceOf_46 (by decide) ?_
        have J71 : ∀ (s0_j71 : Int32) (ls : Array Slot), qX3_choiceOf_j71 on oo og owl oww a2 a3 r3 s0_j71 post → lv_has ls 7 [(0, .ref h0), (1, .int a1), (2, .int a2), (3, .int a3), (4, .int r3)] → W p l e (headSpec wsX3_choiceOf ({ frames := 6, cells := 0, slots := 0, locals := 134 })).room s m ([.ref h0, .int a1, .int a2, .int a3] : List Value).toArray below meth c s.heap [] 0 0 (MQ below (vp_Si post) ([.ref h0, .int a1, .int a2, .int a3] : List Value).toArray s 0 0 (fun _ => False)) (F0 m 71 ls [.int s0_j71]) := by
          intro s0_j71 ls hv hl
          refine lv_istore (lv' := [(5, .int s0_j71), (0, .ref h0), (1, .int a1), (2, .int a2), (3, .int a3), (4, .int r3)]) hx hb dX3_choiceOf_71 hl (by decide) rfl (fun ls hl => ?_)
          refine lv_iconst (v := (0 : Int32)) hx hb dX3_choiceOf_73 (by decide) ?_
          refine lv_istore (lv' := [(6, .int (0 : Int32)), (5, .int s0_j71), (0, .ref h0), (1, .int a1), (2, .int a2), (3, .int a3), (4, .int r3)]) hx hb dX3_choiceOf_74 hl (by decide) rfl (fun ls hl => ?_)
          have L76 : ∀ (K76_148 : Int32 → Prop), (∀ (v6_76 : Int32) (ls : Array Slot), K76_148 v6_76 → lv_has ls 7 [(0, .ref h0), (1, .int a1), (2, .int a2), (3, .int a3), (4, .int r3), (5, .int s0_j71), (6, .int v6_76)] → W p l e (headSpec wsX3_choiceOf ({ frames := 6, cells := 0, slots := 0, locals := 134 })).room s m ([.ref h0, .int a1, .int a2, .int a3] : List Value).toArray below meth c s.heap [] 0 0 (MQ below (vp_Si post) ([.ref h0, .int a1, .int a2, .int a3] : List Value).toArray s 0 0 (fun _ => False)) (F0 m 148 ls [])) → ∀ (n76 : Nat) (v6_76 : Int32) (ls : Array Slot), qX3_choiceOf_76 on oo og owl oww a2 a3 r3 s0_j71 K76_148 post n76 v6_76 → lv_has ls 7 [(0, .ref h0), (1, .int a1), (2, .int a2), (3, .int a3), (4, .int r3), (5, .int s0_j71), (6, .int v6_76)] → W p l e (headSpec wsX3_choiceOf ({ frames := 6, cells := 0, slots := 0, locals := 134 })).room s m ([.ref h0, .int a1, .int a2, .int a3] : List Value).toArray below meth c s.heap [] 0 0 (MQ below (vp_Si post) ([.ref h0, .int a1, .int a2, .int a3] : List Value).toArray s 0 0 (fun _ => False)) (F0 m 76 ls []) := by
            intro K76_148 hk76_148
            intro n76
            induction n76 with
            | zero => intro v6_76 ls hv hl; exact hv.elim
            | succ n76 ih76 =>
              intro v6_76 ls hv hl
              refine lv_iload hx hb dX3_choiceOf_76 (lv_at hl 6 rfl) ?_
              refine lv_aload_n hx hb dX3_choiceOf_78 rfl (lv_at hl 0 rfl) ?_
              refine va_get (D := D) (ci := 5) (v := .int on) (C := RX3) (T := TX3) (N := 11) hx hb hts hi_X3 hown hK hP 0 rfl rfl 0 (by decide) hF17 (fun _ h9 => h9) rfl dX3_choiceOf_79 ?_
              refine lv_icmp_ge (tgt := 148) hx hb dX3_choiceOf_82 (by decide) (fun hc => ?_) (fun hc => ?_)
              · have hv := hv.1 hc
                exact hk76_148 _ ls hv (lv_sub hl [0, 1, 2, 3, 4, 5, 6] rfl)
              · have hv := hv.2 hc
                refine lv_aload_n hx hb dX3_choiceOf_85 rfl (lv_at hl 0 rfl) ?_
                refine va_get (D := D) (ci := 5) (v := .ref h2) (C := RX3) (T := TX3) (N := 11) hx hb hts hi_X3 hown hK hP 0 rfl rfl 4 (by decide) hF30 (fun _ h9 => h9) rfl dX3_choiceOf_86 ?_
                refine lv_iload_n hx hb dX3_choiceOf_89 rfl (lv_at hl 3 rfl) ?_
                obtain ⟨hq, hv⟩ := hv
                refine va_iald hx hb hK hP 2 0 rfl rfl hq dX3_choiceOf_90 ?_
                refine lv_iload hx hb dX3_choiceOf_91 (lv_at hl 6 rfl) ?_
                refine kc_S (As := [.int (oww a3.toNatClampNeg), .int v6_76]) (rest := []) ⟨hx, hb, hml, hown, hts⟩ (kX3_isIn l D cI cB (oww a3.toNatClampNeg) v6_76 _ hv) (va_cwS 2 hts gX3_choiceOf_X3_isIn rfl rfl rfl (by decide +kernel) ⟨Nat.le_of_ble_eq_true rfl, Nat.le_of_ble_eq_true rfl⟩) (hP.sub (ws' := []) [] rfl) hK hN rfl hl.1 rfl (Nat.le_of_ble_eq_true rfl) dX3_choiceOf_93 ⟨Nat.zero_le _, Nat.zero_le _⟩ (fun r93 hv => ?_)
                refine lv_if_eq (tgt := 142) hx hb dX3_choiceOf_96 (by decide) (fun hc => ?_) (fun hc => ?_)
                · have hv := hv.1 hc
                  refine lv_iinc (v := (v6_76 + (1 : Int32))) (lv' := [(6, .int (v6_76 + (1 : Int32))), (0, .ref h0), (1, .int a1), (2, .int a2), (3, .int a3), (4, .int r3), (5, .int s0_j71)]) hx hb dX3_choiceOf_142 hl (k := 6) rfl rfl (by decide) rfl (fun ls hl => ?_)
                  refine lv_goto (tgt := 76) hx hb dX3_choiceOf_145 (by decide) ?_
                  exact ih76 _ ls hv (lv_sub hl [1, 2, 3, 4, 5, 6, 0] rfl)
                · have hv := hv.2 hc
                  refine lv_iload hx hb dX3_choiceOf_99 (lv_at hl 4 rfl) ?_
                  refine lv_iload hx hb dX3_choiceOf_101 (lv_at hl 6 rfl) ?_
                  refine kc_S (As := [.int r3, .int v6_76]) (rest := []) ⟨hx, hb, hml, hown, hts⟩ (kX3_isIn l D cI cB r3 v6_76 _ hv) (va_cwS 2 hts gX3_choiceOf_X3_isIn rfl rfl rfl (by decide +kernel) ⟨Nat.le_of_ble_eq_true rfl, Nat.le_of_ble_eq_true rfl⟩) (hP.sub (ws' := []) [] rfl) hK hN rfl hl.1 rfl (Nat.le_of_ble_eq_true rfl) dX3_choiceOf_103 ⟨Nat.zero_le _, Nat.zero_le _⟩ (fun r103 hv => ?_)
                  refine lv_if_ne (tgt := 112) hx hb dX3_choiceOf_106 (by decide) (fun hc => ?_) (fun hc => ?_)
                  · have hv := hv.1 hc
                    refine lv_iload hx hb dX3_choiceOf_112 (lv_at hl 5 rfl) ?_
                    refine lv_if_ne (tgt := 139) hx hb dX3_choiceOf_114 (by decide) (fun hc => ?_) (fun hc => ?_)
                    · have hv := hv.1 hc
                      refine lv_iload hx hb dX3_choiceOf_139 (lv_at hl 6 rfl) ?_
                      exact W.iret (v := v6_76) hx hb hr (kSi_ret rfl hv) (fun _ h => by cases h) dX3_choiceOf_141
                    · have hv := hv.2 hc
                      refine lv_aload_n hx hb dX3_choiceOf_117 rfl (lv_at hl 0 rfl) ?_
                      refine lv_iload hx hb dX3_choiceOf_118 (lv_at hl 4 rfl) ?_
                      refine lv_iload_n hx hb dX3_choiceOf_120 rfl (lv_at hl 2 rfl) ?_
                      refine lv_iload hx hb dX3_choiceOf_121 (lv_at hl 6 rfl) ?_
                      refine kc_V (As := [.int r3, .int a2, .int v6_76]) (rest := []) ⟨hx, hb, hml, hown, hts⟩ (kX3_roundsTo l D cI cB h0 h1 h2 on oo og orl ork owl oww ost ord oac ore okn oth r3 a2 v6_76 _ hv) (cwV 3 hts gX3_choiceOf_X3_roundsTo rfl rfl rfl (by decide +kernel) ⟨Nat.le_of_ble_eq_true rfl, Nat.le_of_ble_eq_true rfl⟩) hP hK hN 5 rfl rfl rfl rfl hl.1 rfl (Nat.le_of_ble_eq_true rfl) dX3_choiceOf_123 ⟨Nat.zero_le _, Nat.zero_le _⟩ (fun r123 hv => ?_)
                      refine lv_aload_n hx hb dX3_choiceOf_126 rfl (lv_at hl 0 rfl) ?_
                      refine lv_iload hx hb dX3_choiceOf_127 (lv_at hl 4 rfl) ?_
                      refine lv_iload_n hx hb dX3_choiceOf_129 rfl (lv_at hl 2 rfl) ?_
                      refine lv_iload_n hx hb dX3_choiceOf_130 rfl (lv_at hl 3 rfl) ?_
                      refine kc_V (As := [.int r3, .int a2, .int a3]) (rest := [.int r123]) ⟨hx, hb, hml, hown, hts⟩ (kX3_roundsTo l D cI cB h0 h1 h2 on oo og orl ork owl oww ost ord oac ore okn oth r3 a2 a3 _ hv) (cwV 3 hts gX3_choiceOf_X3_roundsTo rfl rfl rfl (by decide +kernel) ⟨Nat.le_of_ble_eq_true rfl, Nat.le_of_ble_eq_true rfl⟩) hP hK hN 5 rfl rfl rfl rfl hl.1 rfl (Nat.le_of_ble_eq_true rfl) dX3_choiceOf_131 ⟨Nat.zero_le _, Nat.zero_le _⟩ (fun r131 hv => ?_)
                      refine lv_iconst (v := (1 : Int32)) hx hb dX3_choiceOf_134 (by decide) ?_
                      refine lv_isub hx hb dX3_choiceOf_135 ?_
                      refine lv_icmp_ne (tgt := 142) hx hb dX3_choiceOf_136 (by decide) (fun hc => ?_) (fun hc => ?_)
                      · have hv := hv.1 hc
                        refine lv_iinc (v := (v6_76 + (1 : Int32))) (lv' := [(6, .int (v6_76 + (1 : Int32))), (0, .ref h0), (1, .int a1), (2, .int a2), (3, .int a3), (4, .int r3), (5, .int s0_j71)]) hx hb dX3_choiceOf_142 hl (k := 6) rfl rfl (by decide) rfl (fun ls hl => ?_)
                        refine lv_goto (tgt := 76) hx hb dX3_choiceOf_145 (by decide) ?_
                        exact ih76 _ ls hv (lv_sub hl [1, 2, 3, 4, 5, 6, 0] rfl)
                      · have hv := hv.2 hc
                        refine lv_iload hx hb dX3_choiceOf_139 (lv_at hl 6 rfl) ?_
                        exact W.iret (v := v6_76) hx hb hr (kSi_ret rfl hv) (fun _ h => by cases h) dX3_choiceOf_141
                  · have hv := hv.2 hc
                    refine lv_goto (tgt := 142) hx hb dX3_choiceOf_109 (by decide) ?_
                    refine lv_iinc (v := (v6_76 + (1 : Int32))) (lv' := [(6, .int (v6_76 + (1 : Int32))), (0, .ref h0), (1, .int a1), (2, .int a2), (3, .int a3), (4, .int r3), (5, .int s0_j71)]) hx hb dX3_choiceOf_142 hl (k := 6) rfl rfl (by decide) rfl (fun ls hl => ?_)
                    refine lv_goto (tgt := 76) hx hb dX3_choiceOf_145 (by decide) ?_
                    exact ih76 _ ls hv (lv_sub hl [1, 2, 3, 4, 5, 6, 0] rfl)
          obtain ⟨n76, hv⟩ := hv
          refine L76 _ (fun v6_76x ls hv hl => ?_) n76 _ _ hv (lv_sub hl [2, 3, 4, 5, 6, 1, 0] rfl)
          refine lv_iconst (v := (-1 : Int32)) hx hb dX3_choiceOf_148 (by decide) ?_
          exact W.iret (v := (-1 : Int32)) hx hb hr (kSi_ret rfl hv) (fun _ h => by cases h) dX3_choiceOf_149
        have J66 : ∀  (ls : Array Slot), qX3_choiceOf_j66 on oo og owl oww a2 a3 r3 post → lv_has ls 7 [(0, .ref h0), (1, .int a1), (2, .int a2), (3, .int a3), (4, .int r3)] → W p l e (headSpec wsX3_choiceOf ({ frames := 6, cells := 0, slots := 0, locals := 134 })).room s m ([.ref h0, .int a1, .int a2, .int a3] : List Value).toArray below meth c s.heap [] 0 0 (MQ below (vp_Si post) ([.ref h0, .int a1, .int a2, .int a3] : List Value).toArray s 0 0 (fun _ => False)) (F0 m 66 ls []) := by
          intro  ls hv hl
          refine lv_iconst (v := (1 : Int32)) hx hb dX3_choiceOf_66 (by decide) ?_
          refine lv_goto (tgt := 71) hx hb dX3_choiceOf_67 (by decide) ?_
          exact J71 _ _ hv (lv_sub hl [0, 1, 2, 3, 4] rfl)
        refine lv_icmp_eq (tgt := 66) hx hb dX3_choiceOf_47 (by decide) (fun hc => ?_) (fun hc => ?_)
        · have hv := hv.1 hc
          exact J66  _ hv (lv_sub hl [0, 1, 2, 3, 4] rfl)
        · have hv := hv.2 hc
          refine lv_iload_n hx hb dX3_choiceOf_50 rfl (lv_at hl 1 rfl) ?_
          refine lv_iconst (v := (2 : Int32)) hx hb dX3_choiceOf_51 (by decide) ?_
          have J70 : ∀  (ls : Array Slot), qX3_choiceOf_j70 on oo og owl oww a2 a3 r3 post → lv_has ls 7 [(0, .ref h0), (1, .int a1), (2, .int a2), (3, .int a3), (4, .int r3)] → W p l e (headSpec wsX3_choiceOf ({ frames := 6, cells := 0, slots := 0, locals := 134 })).room s m ([.ref h0, .int a1, .int a2, .int a3] : List Value).toArray below meth c s.heap [] 0 0 (MQ below (vp_Si post) ([.ref h0, .int a1, .int a2, .int a3] : List Value).toArray s 0 0 (fun _ => False)) (F0 m 70 ls []) := by
            intro  ls hv hl
            refine lv_iconst (v := (0 : Int32)) hx hb dX3_choiceOf_70 (by decide) ?_
            exact J71 _ _ hv (lv_sub hl [0, 1, 2, 3, 4] rfl)
          refine lv_icmp_ne (tgt := 70) hx hb dX3_choiceOf_52 (by decide) (fun hc => ?_) (fun hc => ?_)
          · have hv := hv.1 hc
            exact J70  _ hv (lv_sub hl [0, 1, 2, 3, 4] rfl)
          · have hv := hv.2 hc
            refine lv_aload_n hx hb dX3_choiceOf_55 rfl (lv_at hl 0 rfl) ?_
            refine va_get (D := D) (ci := 5) (v := .int og) (C := RX3) (T := TX3) (N := 11) hx hb hts hi_X3 hown hK hP 0 rfl rfl 2 (by decide) hF23 (fun _ h9 => h9) rfl dX3_choiceOf_56 ?_
            refine lv_iload_n hx hb dX3_choiceOf_59 rfl (lv_at hl 3 rfl) ?_
            refine kc_S (As := [.int og, .int a3]) (rest := []) ⟨hx, hb, hml, hown, hts⟩ (kX3_isIn l D cI cB og a3 _ hv) (va_cwS 2 hts gX3_choiceOf_X3_isIn rfl rfl rfl (by decide +kernel) ⟨Nat.le_of_ble_eq_true rfl, Nat.le_of_ble_eq_true rfl⟩) (hP.sub (ws' := []) [] rfl) hK hN rfl hl.1 rfl (Nat.le_of_ble_eq_true rfl) dX3_choiceOf_60 ⟨Nat.zero_le _, Nat.zero_le _⟩ (fun r60 hv => ?_)
            refine lv_if_eq (tgt := 70) hx hb dX3_choiceOf_63 (by decide) (fun hc => ?_) (fun hc => ?_)
            · have hv := hv.1 hc
              exact J70  _ hv (lv_sub hl [0, 1, 2, 3, 4] rfl)
            · have hv := hv.2 hc
              exact J66  _ hv (lv_sub hl [0, 1, 2, 3, 4] rfl)
      refine lv_if_ne (tgt := 45) hx hb dX3_choiceOf_29 (by decide) (fun hc => ?_) (fun hc => ?_)
      · have hv := hv.1 hc
        exact J45  _ hv (lv_sub hl [1, 2, 3, 4, 0] rfl)
      · have hv := hv.2 hc
        refine lv_aload_n hx hb dX3_choiceOf_32 rfl (lv_at hl 1 rfl) ?_
        refine va_get (D := D) (ci := 5) (v := .int og) (C := RX3) (T := TX3) (N := 11) hx hb hts hi_X3 hown hK hP 0 rfl rfl 2 (by decide) hF23 (fun _ h9 => h9) rfl dX3_choiceOf_33 ?_
        refine lv_iload_n hx hb dX3_choiceOf_36 rfl (lv_at hl 4 rfl) ?_
        refine kc_S (As := [.int og, .int a3]) (rest := []) ⟨hx, hb, hml, hown, hts⟩ (kX3_isIn l D cI cB og a3 _ hv) (va_cwS 2 hts gX3_choiceOf_X3_isIn rfl rfl rfl (by decide +kernel) ⟨Nat.le_of_ble_eq_true rfl, Nat.le_of_ble_eq_true rfl⟩) (hP.sub (ws' := []) [] rfl) hK hN rfl hl.1 rfl (Nat.le_of_ble_eq_true rfl) dX3_choiceOf_37 ⟨Nat.zero_le _, Nat.zero_le _⟩ (fun r37 hv => ?_)
        refine lv_if_eq (tgt := 45) hx hb dX3_choiceOf_40 (by decide) (fun hc => ?_) (fun hc => ?_)
        · have hv := hv.1 hc
          exact J45  _ hv (lv_sub hl [1, 2, 3, 4, 0] rfl)
        · have hv := hv.2 hc
          refine lv_iconst (v := (-1 : Int32)) hx hb dX3_choiceOf_43 (by decide) ?_
          exact W.iret (v := (-1 : Int32)) hx hb hr (kSi_ret rfl hv) (fun _ h => by cases h) dX3_choiceOf_44
    · have hv := hv.2 hc
      refine lv_iconst (v := (-1 : Int32)) hx hb dX3_choiceOf_26 (by decide) ?_
      exact W.iret (v := (-1 : Int32)) hx hb hr (kSi_ret rfl hv) (fun _ h => by cases h) dX3_choiceOf_27
set_option maxHeartbeats 4000000 in
set_option maxRecDepth 100000 in
theorem kX3_choicesOf (l : Launch) (D : va_G) (cI cB : ClassId) (h0 : Nat) (h1 : Nat) (h2 : Nat) (on : Int32) (oo : Int32) (og : Int32) (orl : Nat) (ork : Nat → Int32) (owl : Nat) (oww : Nat → Int32) (ost : Int32) (ord : Int32) (oac : Int32) (ore : Int32) (okn : Int32) (oth : Int32) (a1 : Int32) (post : Int32 → Prop) (hv : qX3_choicesOf on oo owl oww a1 post) : Met l yX3_choicesOf wsX3_choicesOf ({ frames := 1, cells := 0, slots := 0, locals := 21 }) (va_Pc [.ref h0, .int a1] (kB D cI cB [(h0, .inr (5, [.int on, .int oo, .int og, .ref h1, .ref h2, .int ost, .int ord, .int oac, .int ore, .int okn, .int oth])), (h1, .inl (cI, orl, .inl ork)), (h2, .inl (cI, owl, .inl oww))])) (vp_Si post) 0 0 (fun _ => False) := by
  refine Met.ofW (cc := cX3_choicesOf) (maxL := 4) (ret := (some .int)) (by decide) rfl ?_
  intro p e s m args below meth c s₁ B hml hv0
  obtain ⟨rfl, hP, hK, hN⟩ := hv0
  have hx := B.exec
  have hb := B.bytes
  have hr := B.returns
  have hts := atoms_spec (ws := wsX3_choicesOf) B.pre
  have hown : s.vm.findClass RX3 = some m.cls := findClass_of_methodNamed B.named
  have hlocks := B.notSynchronized
  have hi_X3 : ∀ w ∈ wsX30, w ∈ wsX3_choicesOf := by decide +kernel
  have hF17 := hts (.fieldLink RX3 17 "RoadgameModel" "n" "I") (by decide +kernel)
  have hF30 := hts (.fieldLink RX3 30 "RoadgameModel" "ways" "[I") (by decide +kernel)
  have hl := lv_entry ([.ref h0, .int a1]) (n := 4) (Nat.le_of_ble_eq_true rfl)
  rw [lg_entry_eq]
  generalize (lg_sl ([.ref h0, .int a1]) ++ List.replicate (4 - (lg_sl ([.ref h0, .int a1])).length) Slot.unset).toArray = ls at hl ⊢
  have hl : lv_has ls 4 [(0, .ref h0), (1, .int a1)] := hl
  refine lv_iconst (v := (1 : Int32)) hx hb dX3_choicesOf_0 (by decide) ?_
  refine lv_istore_n (lv' := [(2, .int (1 : Int32)), (0, .ref h0), (1, .int a1)]) hx hb dX3_choicesOf_1 rfl hl (by decide) rfl (fun ls hl => ?_)
  refine lv_iconst (v := (0 : Int32)) hx hb dX3_choicesOf_2 (by decide) ?_
  refine lv_istore_n (lv' := [(3, .int (0 : Int32)), (2, .int (1 : Int32)), (0, .ref h0), (1, .int a1)]) hx hb dX3_choicesOf_3 rfl hl (by decide) rfl (fun ls hl => ?_)
  have L4 : ∀ (K4_48 : Int32 → Int32 → Prop), (∀ (v2_4 : Int32) (v3_4 : Int32) (ls : Array Slot), K4_48 v2_4 v3_4 → lv_has ls 4 [(0, .ref h0), (1, .int a1), (2, .int v2_4), (3, .int v3_4)] → W p l e (headSpec wsX3_choicesOf ({ frames := 1, cells := 0, slots := 0, locals := 21 })).room s m ([.ref h0, .int a1] : List Value).toArray below meth c s.heap [] 0 0 (MQ below (vp_Si post) ([.ref h0, .int a1] : List Value).toArray s 0 0 (fun _ => False)) (F0 m 48 ls [])) → ∀ (n4 : Nat) (v2_4 : Int32) (v3_4 : Int32) (ls : Array Slot), qX3_choicesOf_4 on oo owl oww a1 K4_48 n4 v2_4 v3_4 → lv_has ls 4 [(0, .ref h0), (1, .int a1), (2, .int v2_4), (3, .int v3_4)] → W p l e (headSpec wsX3_choicesOf ({ frames := 1, cells := 0, slots := 0, locals := 21 })).room s m ([.ref h0, .int a1] : List Value).toArray below meth c s.heap [] 0 0 (MQ below (vp_Si post) ([.ref h0, .int a1] : List Value).toArray s 0 0 (fun _ => False)) (F0 m 4 ls []) := by
    intro K4_48 hk4_48
    intro n4
    induction n4 with
    | zero => intro v2_4 v3_4 ls hv hl; exact hv.elim
    | succ n4 ih4 =>
      intro v2_4 v3_4 ls hv hl
      refine lv_iload_n hx hb dX3_choicesOf_4 rfl (lv_at hl 3 rfl) ?_
      refine lv_aload_n hx hb dX3_choicesOf_5 rfl (lv_at hl 0 rfl) ?_
      refine va_get (D := D) (ci := 5) (v := .int on) (C := RX3) (T := TX3) (N := 11) hx hb hts hi_X3 hown hK hP 0 rfl rfl 0 (by decide) hF17 (fun _ h9 => h9) rfl dX3_choicesOf_6 ?_
      refine lv_icmp_ge (tgt := 48) hx hb dX3_choicesOf_9 (by decide) (fun hc => ?_) (fun hc => ?_)
      · have hv := hv.1 hc
        exact hk4_48 _ _ ls hv (lv_sub hl [0, 1, 2, 3] rfl)
      · have hv := hv.2 hc
        refine lv_aload_n hx hb dX3_choicesOf_12 rfl (lv_at hl 0 rfl) ?_
        refine lv_iload_n hx hb dX3_choicesOf_13 rfl (lv_at hl 3 rfl) ?_
        refine kc_V (As := [.int v3_4]) (rest := []) ⟨hx, hb, hml, hown, hts⟩ (kX3_sideOf l D cI cB h0 h1 h2 on oo og orl ork owl oww ost ord oac ore okn oth v3_4 _ hv) (cwV 1 hts gX3_choicesOf_X3_sideOf rfl rfl rfl (by decide +kernel) ⟨Nat.le_of_ble_eq_true rfl, Nat.le_of_ble_eq_true rfl⟩) hP hK hN 5 rfl rfl rfl rfl hl.1 rfl (Nat.le_of_ble_eq_true rfl) dX3_choicesOf_14 ⟨Nat.zero_le _, Nat.zero_le _⟩ (fun r14 hv => ?_)
        refine lv_iload_n hx hb dX3_choicesOf_17 rfl (lv_at hl 1 rfl) ?_
        refine lv_icmp_ne (tgt := 42) hx hb dX3_choicesOf_18 (by decide) (fun hc => ?_) (fun hc => ?_)
        · have hv := hv.1 hc
          refine lv_iinc (v := (v3_4 + (1 : Int32))) (lv' := [(3, .int (v3_4 + (1 : Int32))), (0, .ref h0), (1, .int a1), (2, .int v2_4)]) hx hb dX3_choicesOf_42 hl (k := 3) rfl rfl (by decide) rfl (fun ls hl => ?_)
          refine lv_goto (tgt := 4) hx hb dX3_choicesOf_45 (by decide) ?_
          exact ih4 _ _ ls hv (lv_sub hl [1, 2, 3, 0] rfl)
        · have hv := hv.2 hc
          refine lv_aload_n hx hb dX3_choicesOf_21 rfl (lv_at hl 0 rfl) ?_
          refine va_get (D := D) (ci := 5) (v := .ref h2) (C := RX3) (T := TX3) (N := 11) hx hb hts hi_X3 hown hK hP 0 rfl rfl 4 (by decide) hF30 (fun _ h9 => h9) rfl dX3_choicesOf_22 ?_
          refine lv_iload_n hx hb dX3_choicesOf_25 rfl (lv_at hl 3 rfl) ?_
          obtain ⟨hq, hv⟩ := hv
          refine va_iald hx hb hK hP 2 0 rfl rfl hq dX3_choicesOf_26 ?_
          refine lv_if_eq (tgt := 42) hx hb dX3_choicesOf_27 (by decide) (fun hc => ?_) (fun hc => ?_)
          · have hv := hv.1 hc
            refine lv_iinc (v := (v3_4 + (1 : Int32))) (lv' := [(3, .int (v3_4 + (1 : Int32))), (0, .ref h0), (1, .int a1), (2, .int v2_4)]) hx hb dX3_choicesOf_42 hl (k := 3) rfl rfl (by decide) rfl (fun ls hl => ?_)
            refine lv_goto (tgt := 4) hx hb dX3_choicesOf_45 (by decide) ?_
            exact ih4 _ _ ls hv (lv_sub hl [1, 2, 3, 0] rfl)
          · have hv := hv.2 hc
            refine lv_iload_n hx hb dX3_choicesOf_30 rfl (lv_at hl 2 rfl) ?_
            refine lv_aload_n hx hb dX3_choicesOf_31 rfl (lv_at hl 0 rfl) ?_
            refine va_get (D := D) (ci := 5) (v := .ref h2) (C := RX3) (T := TX3) (N := 11) hx hb hts hi_X3 hown hK hP 0 rfl rfl 4 (by decide) hF30 (fun _ h9 => h9) rfl dX3_choicesOf_32 ?_
            refine lv_iload_n hx hb dX3_choicesOf_35 rfl (lv_at hl 3 rfl) ?_
            obtain ⟨hq, hv⟩ := hv
            refine va_iald hx hb hK hP 2 0 rfl rfl hq dX3_choicesOf_36 ?_
            refine kc_S (As := [.int (oww v3_4.toNatClampNeg)]) (rest := [.int v2_4]) ⟨hx, hb, hml, hown, hts⟩ (kJ6_bitCount_0f7a4 l D cI cB (oww v3_4.toNatClampNeg) _ hv) (va_cwS 1 hts gX3_choicesOf_J6_bitCount_0f7a4 rfl rfl rfl (by decide +kernel) ⟨Nat.le_of_ble_eq_true rfl, Nat.le_of_ble_eq_true rfl⟩) (hP.sub (ws' := []) [] rfl) hK hN rfl hl.1 rfl (Nat.le_of_ble_eq_true rfl) dX3_choicesOf_37 ⟨Nat.zero_le _, Nat.zero_le _⟩ (fun r37 hv => ?_)
            refine lv_imul hx hb dX3_choicesOf_40 ?_
            refine lv_istore_n (lv' := [(2, .int (v2_4 * r37)), (0, .ref h0), (1, .int a1), (3, .int v3_4)]) hx hb dX3_choicesOf_41 rfl hl (by decide) rfl (fun ls hl => ?_)
            refine lv_iinc (v := (v3_4 + (1 : Int32))) (lv' := [(3, .int (v3_4 + (1 : Int32))), (2, .int (v2_4 * r37)), (0, .ref h0), (1, .int a1)]) hx hb dX3_choicesOf_42 hl (k := 3) rfl rfl (by decide) rfl (fun ls hl => ?_)
            refine lv_goto (tgt := 4) hx hb dX3_choicesOf_45 (by decide) ?_
            exact ih4 _ _ ls hv (lv_sub hl [2, 3, 1, 0] rfl)
  obtain ⟨n4, hv⟩ := hv
  refine L4 _ (fun v2_4x v3_4x ls hv hl => ?_) n4 _ _ _ hv (lv_sub hl [2, 3, 1, 0] rfl)
  refine lv_iload_n hx hb dX3_choicesOf_48 rfl (lv_at hl 2 rfl) ?_
  exact W.iret (v := v2_4x) hx hb hr (kSi_ret rfl hv) (fun _ h => by cases h) dX3_choicesOf_49
set_option maxHeartbeats 4000000 in
set_option maxRecDepth 100000 in
theorem kX3_isPlace (l : Launch) (D : va_G) (cI cB : ClassId) (h0 : Nat) (h1 : Nat) (h2 : Nat) (on : Int32) (oo : Int32) (og : Int32) (orl : Nat) (ork : Nat → Int32) (owl : Nat) (oww : Nat → Int32) (ost : Int32) (ord : Int32) (oac : Int32) (ore : Int32) (okn : Int32) (oth : Int32) (a1 : Int32) (post : Int32 → Prop) (hv : qX3_isPlace on a1 post) : Met l yX3_isPlace wsX3_isPlace ({ frames := 0, cells := 0, slots := 0, locals := 0 }) (va_Pc [.ref h0, .int a1] (kB D cI cB [(h0, .inr (5, [.int on, .int oo, .int og, .ref h1, .ref h2, .int ost, .int ord, .int oac, .int ore, .int okn, .int oth])), (h1, .inl (cI, orl, .inl ork)), (h2, .inl (cI, owl, .inl oww))])) (vp_Si post) 0 0 (fun _ => False) := by
  refine Met.ofW (cc := cX3_isPlace) (maxL := 2) (ret := (some .boolean)) (by decide) rfl ?_
  intro p e s m args below meth c s₁ B hml hv0
  obtain ⟨rfl, hP, hK, hN⟩ := hv0
  have hx := B.exec
  have hb := B.bytes
  have hr := B.returns
  have hts := atoms_spec (ws := wsX3_isPlace) B.pre
  have hown : s.vm.findClass RX3 = some m.cls := findClass_of_methodNamed B.named
  have hlocks := B.notSynchronized
  have hi_X3 : ∀ w ∈ wsX30, w ∈ wsX3_isPlace := by decide +kernel
  have hF17 := hts (.fieldLink RX3 17 "RoadgameModel" "n" "I") (by decide +kernel)
  have hl := lv_entry ([.ref h0, .int a1]) (n := 2) (Nat.le_of_ble_eq_true rfl)
  rw [lg_entry_eq]
  generalize (lg_sl ([.ref h0, .int a1]) ++ List.replicate (2 - (lg_sl ([.ref h0, .int a1])).length) Slot.unset).toArray = ls at hl ⊢
  have hl : lv_has ls 2 [(0, .ref h0), (1, .int a1)] := hl
  refine lv_iload_n hx hb dX3_isPlace_0 rfl (lv_at hl 1 rfl) ?_
  refine lv_if_lt (tgt := 16) hx hb dX3_isPlace_1 (by decide) (fun hc => ?_) (fun hc => ?_)
  · have hv := hv.1 hc
    refine lv_iconst (v := (0 : Int32)) hx hb dX3_isPlace_16 (by decide) ?_
    exact W.zret (v := (0 : Int32)) (ty := .boolean) hx hb hr rfl (kSi_ret rfl hv) (fun _ h => by cases h) dX3_isPlace_17
  · have hv := hv.2 hc
    refine lv_iload_n hx hb dX3_isPlace_4 rfl (lv_at hl 1 rfl) ?_
    refine lv_aload_n hx hb dX3_isPlace_5 rfl (lv_at hl 0 rfl) ?_
    refine va_get (D := D) (ci := 5) (v := .int on) (C := RX3) (T := TX3) (N := 11) hx hb hts hi_X3 hown hK hP 0 rfl rfl 0 (by decide) hF17 (fun _ h9 => h9) rfl dX3_isPlace_6 ?_
    refine lv_icmp_ge (tgt := 16) hx hb dX3_isPlace_9 (by decide) (fun hc => ?_) (fun hc => ?_)
    · have hv := hv.1 hc
      refine lv_iconst (v := (0 : Int32)) hx hb dX3_isPlace_16 (by decide) ?_
      exact W.zret (v := (0 : Int32)) (ty := .boolean) hx hb hr rfl (kSi_ret rfl hv) (fun _ h => by cases h) dX3_isPlace_17
    · have hv := hv.2 hc
      refine lv_iconst (v := (1 : Int32)) hx hb dX3_isPlace_12 (by decide) ?_
      refine lv_goto (tgt := 17) hx hb dX3_isPlace_13 (by decide) ?_
      exact W.zret (v := (1 : Int32)) (ty := .boolean) hx hb hr rfl (kSi_ret rfl hv) (fun _ h => by cases h) dX3_isPlace_17
set_option maxHeartbeats 4000000 in
set_option maxRecDepth 100000 in
theorem kX3_isSide (l : Launch) (D : va_G) (cI cB : ClassId)   (a0 : Int32) (post : Int32 → Prop) (hv : qX3_isSide a0 post) : Met l yX3_isSide wsX3_isSide ({ frames := 0, cells := 0, slots := 0, locals := 0 }) (va_Pc [.int a0] (kB D cI cB [])) (vp_Si post) 0 0 (fun _ => False) := by
  refine Met.ofW (cc := cX3_isSide) (maxL := 1) (ret := (some .boolean)) (by decide) rfl ?_
  intro p e s m args below meth c s₁ B hml hv0
  obtain ⟨rfl, hP, hK, hN⟩ := hv0
  have hx := B.exec
  have hb := B.bytes
  have hr := B.returns
  have hts := atoms_spec (ws := wsX3_isSide) B.pre
  have hown : s.vm.findClass RX3 = some m.cls := findClass_of_methodNamed B.named
  have hlocks := B.notSynchronized
  have hl := lv_entry ([.int a0]) (n := 1) (Nat.le_of_ble_eq_true rfl)
  rw [lg_entry_eq]
  generalize (lg_sl ([.int a0]) ++ List.replicate (1 - (lg_sl ([.int a0])).length) Slot.unset).toArray = ls at hl ⊢
  have hl : lv_has ls 1 [(0, .int a0)] := hl
  refine lv_iload_n hx hb dX3_isSide_0 rfl (lv_at hl 0 rfl) ?_
  refine lv_if_eq (tgt := 9) hx hb dX3_isSide_1 (by decide) (fun hc => ?_) (fun hc => ?_)
  · have hv := hv.1 hc
    refine lv_iconst (v := (1 : Int32)) hx hb dX3_isSide_9 (by decide) ?_
    refine lv_goto (tgt := 14) hx hb dX3_isSide_10 (by decide) ?_
    exact W.zret (v := (1 : Int32)) (ty := .boolean) hx hb hr rfl (kSi_ret rfl hv) (fun _ h => by cases h) dX3_isSide_14
  · have hv := hv.2 hc
    refine lv_iload_n hx hb dX3_isSide_4 rfl (lv_at hl 0 rfl) ?_
    refine lv_iconst (v := (1 : Int32)) hx hb dX3_isSide_5 (by decide) ?_
    refine lv_icmp_ne (tgt := 13) hx hb dX3_isSide_6 (by decide) (fun hc => ?_) (fun hc => ?_)
    · have hv := hv.1 hc
      refine lv_iconst (v := (0 : Int32)) hx hb dX3_isSide_13 (by decide) ?_
      exact W.zret (v := (0 : Int32)) (ty := .boolean) hx hb hr rfl (kSi_ret rfl hv) (fun _ h => by cases h) dX3_isSide_14
    · have hv := hv.2 hc
      refine lv_iconst (v := (1 : Int32)) hx hb dX3_isSide_9 (by decide) ?_
      refine lv_goto (tgt := 14) hx hb dX3_isSide_10 (by decide) ?_
      exact W.zret (v := (1 : Int32)) (ty := .boolean) hx hb hr rfl (kSi_ret rfl hv) (fun _ h => by cases h) dX3_isSide_14
set_option maxHeartbeats 4000000 in
set_option maxRecDepth 100000 in
theorem kX3_stuck (l : Launch) (D : va_G) (cI cB : ClassId) (h0 : Nat) (h1 : Nat) (h2 : Nat) (on : Int32) (oo : Int32) (og : Int32) (orl : Nat) (ork : Nat → Int32) (owl : Nat) (oww : Nat → Int32) (ost : Int32) (ord : Int32) (oac : Int32) (ore : Int32) (okn : Int32) (oth : Int32)  (post : Int32 → Prop) (hv : qX3_stuck owl oww post) : Met l yX3_stuck wsX3_stuck ({ frames := 0, cells := 0, slots := 0, locals := 0 }) (va_Pc [.ref h0] (kB D cI cB [(h0, .inr (5, [.int on, .int oo, .int og, .ref h1, .ref h2, .int ost, .int ord, .int oac, .int ore, .int okn, .int oth])), (h1, .inl (cI, orl, .inl ork)), (h2, .inl (cI, owl, .inl oww))])) (vp_Si post) 0 0 (fun _ => False) := by
  refine Met.ofW (cc := cX3_stuck) (maxL := 6) (ret := (some .int)) (by decide) rfl ?_
  intro p e s m args below meth c s₁ B hml hv0
  obtain ⟨rfl, hP, hK, hN⟩ := hv0
  have hx := B.exec
  have hb := B.bytes
  have hr := B.returns
  have hts := atoms_spec (ws := wsX3_stuck) B.pre
  have hown : s.vm.findClass RX3 = some m.cls := findClass_of_methodNamed B.named
  have hlocks := B.notSynchronized
  have hi_X3 : ∀ w ∈ wsX30, w ∈ wsX3_stuck := by decide +kernel
  have hF30 := hts (.fieldLink RX3 30 "RoadgameModel" "ways" "[I") (by decide +kernel)
  have hl := lv_entry ([.ref h0]) (n := 6) (Nat.le_of_ble_eq_true rfl)
  rw [lg_entry_eq]
  generalize (lg_sl ([.ref h0]) ++ List.replicate (6 - (lg_sl ([.ref h0])).length) Slot.unset).toArray = ls at hl ⊢
  have hl : lv_has ls 6 [(0, .ref h0)] := hl
  refine lv_iconst (v := (0 : Int32)) hx hb dX3_stuck_0 (by decide) ?_
  refine lv_istore_n (lv' := [(1, .int (0 : Int32)), (0, .ref h0)]) hx hb dX3_stuck_1 rfl hl (by decide) rfl (fun ls hl => ?_)
  refine lv_aload_n hx hb dX3_stuck_2 rfl (lv_at hl 1 rfl) ?_
  refine va_get (D := D) (ci := 5) (v := .ref h2) (C := RX3) (T := TX3) (N := 11) hx hb hts hi_X3 hown hK hP 0 rfl rfl 4 (by decide) hF30 (fun _ h9 => h9) rfl dX3_stuck_3 ?_
  refine lv_astore_n (lv' := [(2, .ref h2), (1, .int (0 : Int32)), (0, .ref h0)]) hx hb dX3_stuck_6 rfl hl (by decide) rfl (fun ls hl => ?_)
  refine lv_aload_n hx hb dX3_stuck_7 rfl (lv_at hl 0 rfl) ?_
  refine va_alen (v := (Int32.ofNat owl)) hx hb hK hP 2 0 rfl rfl (by first | rfl | decide) dX3_stuck_8 ?_
  refine lv_istore_n (lv' := [(3, .int (Int32.ofNat owl)), (2, .ref h2), (1, .int (0 : Int32)), (0, .ref h0)]) hx hb dX3_stuck_9 rfl hl (by decide) rfl (fun ls hl => ?_)
  refine lv_iconst (v := (0 : Int32)) hx hb dX3_stuck_10 (by decide) ?_
  refine lv_istore (lv' := [(4, .int (0 : Int32)), (3, .int (Int32.ofNat owl)), (2, .ref h2), (1, .int (0 : Int32)), (0, .ref h0)]) hx hb dX3_stuck_11 hl (by decide) rfl (fun ls hl => ?_)
  have L13 : ∀ (K13_44 : Int32 → Int32 → Int32 → Prop), (∀ (v1_13 : Int32) (v3_13 : Int32) (v4_13 : Int32) (ls : Array Slot), K13_44 v1_13 v3_13 v4_13 → lv_has ls 6 [(0, .ref h0), (1, .int v1_13), (2, .ref h2), (3, .int v3_13), (4, .int v4_13)] → W p l e (headSpec wsX3_stuck ({ frames := 0, cells := 0, slots := 0, locals := 0 })).room s m ([.ref h0] : List Value).toArray below meth c s.heap [] 0 0 (MQ below (vp_Si post) ([.ref h0] : List Value).toArray s 0 0 (fun _ => False)) (F0 m 44 ls [])) → ∀ (n13 : Nat) (v1_13 : Int32) (v3_13 : Int32) (v4_13 : Int32) (ls : Array Slot), qX3_stuck_13 owl oww K13_44 n13 v1_13 v3_13 v4_13 → lv_has ls 6 [(0, .ref h0), (1, .int v1_13), (2, .ref h2), (3, .int v3_13), (4, .int v4_13)] → W p l e (headSpec wsX3_stuck ({ frames := 0, cells := 0, slots := 0, locals := 0 })).room s m ([.ref h0] : List Value).toArray below meth c s.heap [] 0 0 (MQ below (vp_Si post) ([.ref h0] : List Value).toArray s 0 0 (fun _ => False)) (F0 m 13 ls []) := by
    intro K13_44 hk13_44
    intro n13
    induction n13 with
    | zero => intro v1_13 v3_13 v4_13 ls hv hl; exact hv.elim
    | succ n13 ih13 =>
      intro v1_13 v3_13 v4_13 ls hv hl
      refine lv_iload hx hb dX3_stuck_13 (lv_at hl 4 rfl) ?_
      refine lv_iload_n hx hb dX3_stuck_15 rfl (lv_at hl 3 rfl) ?_
      refine lv_icmp_ge (tgt := 44) hx hb dX3_stuck_16 (by decide) (fun hc => ?_) (fun hc => ?_)
      · have hv := hv.1 hc
        exact hk13_44 _ _ _ ls hv (lv_sub hl [0, 1, 2, 3, 4] rfl)
      · have hv := hv.2 hc
        refine lv_aload_n hx hb dX3_stuck_19 rfl (lv_at hl 2 rfl) ?_
        refine lv_iload hx hb dX3_stuck_20 (lv_at hl 4 rfl) ?_
        obtain ⟨hq, hv⟩ := hv
        refine va_iald hx hb hK hP 2 0 rfl rfl hq dX3_stuck_22 ?_
        refine lv_istore (lv' := [(5, .int (oww v4_13.toNatClampNeg)), (0, .ref h0), (1, .int v1_13), (2, .ref h2), (3, .int v3_13), (4, .int v4_13)]) hx hb dX3_stuck_23 hl (by decide) rfl (fun ls hl => ?_)
        refine lv_iload_n hx hb dX3_stuck_25 rfl (lv_at hl 2 rfl) ?_
        refine lv_iload hx hb dX3_stuck_26 (lv_at hl 0 rfl) ?_
        refine lv_if_ne (tgt := 35) hx hb dX3_stuck_28 (by decide) (fun hc => ?_) (fun hc => ?_)
        · have hv := hv.1 hc
          refine lv_iconst (v := (0 : Int32)) hx hb dX3_stuck_35 (by decide) ?_
          refine lv_iadd hx hb dX3_stuck_36 ?_
          refine lv_istore_n (lv' := [(1, .int (v1_13 + (0 : Int32))), (5, .int (oww v4_13.toNatClampNeg)), (0, .ref h0), (2, .ref h2), (3, .int v3_13), (4, .int v4_13)]) hx hb dX3_stuck_37 rfl hl (by decide) rfl (fun ls hl => ?_)
          refine lv_iinc (v := (v4_13 + (1 : Int32))) (lv' := [(4, .int (v4_13 + (1 : Int32))), (1, .int (v1_13 + (0 : Int32))), (5, .int (oww v4_13.toNatClampNeg)), (0, .ref h0), (2, .ref h2), (3, .int v3_13)]) hx hb dX3_stuck_38 hl (k := 5) rfl rfl (by decide) rfl (fun ls hl => ?_)
          refine lv_goto (tgt := 13) hx hb dX3_stuck_41 (by decide) ?_
          exact ih13 _ _ _ ls hv (lv_sub hl [3, 1, 4, 5, 0] rfl)
        · have hv := hv.2 hc
          refine lv_iconst (v := (1 : Int32)) hx hb dX3_stuck_31 (by decide) ?_
          refine lv_goto (tgt := 36) hx hb dX3_stuck_32 (by decide) ?_
          refine lv_iadd hx hb dX3_stuck_36 ?_
          refine lv_istore_n (lv' := [(1, .int (v1_13 + (1 : Int32))), (5, .int (oww v4_13.toNatClampNeg)), (0, .ref h0), (2, .ref h2), (3, .int v3_13), (4, .int v4_13)]) hx hb dX3_stuck_37 rfl hl (by decide) rfl (fun ls hl => ?_)
          refine lv_iinc (v := (v4_13 + (1 : Int32))) (lv' := [(4, .int (v4_13 + (1 : Int32))), (1, .int (v1_13 + (1 : Int32))), (5, .int (oww v4_13.toNatClampNeg)), (0, .ref h0), (2, .ref h2), (3, .int v3_13)]) hx hb dX3_stuck_38 hl (k := 5) rfl rfl (by decide) rfl (fun ls hl => ?_)
          refine lv_goto (tgt := 13) hx hb dX3_stuck_41 (by decide) ?_
          exact ih13 _ _ _ ls hv (lv_sub hl [3, 1, 4, 5, 0] rfl)
  obtain ⟨n13, hv⟩ := hv
  refine L13 _ (fun v1_13x v3_13x v4_13x ls hv hl => ?_) n13 _ _ _ _ hv (lv_sub hl [4, 3, 2, 1, 0] rfl)
  refine lv_iload_n hx hb dX3_stuck_44 rfl (lv_at hl 1 rfl) ?_
  exact W.iret (v := v1_13x) hx hb hr (kSi_ret rfl hv) (fun _ h => by cases h) dX3_stuck_45
set_option maxHeartbeats 4000000 in
set_option maxRecDepth 100000 in
theorem kX3_toldNow (l : Launch) (D : va_G) (cI cB : ClassId) (h0 : Nat) (h1 : Nat) (h2 : Nat) (on : Int32) (oo : Int32) (og : Int32) (orl : Nat) (ork : Nat → Int32) (owl : Nat) (oww : Nat → Int32) (ost : Int32) (ord : Int32) (oac : Int32) (ore : Int32) (okn : Int32) (oth : Int32) (a1 : Int32) (post : Int32 → Prop) (hv : qX3_toldNow on oo og owl oww ost ord a1 post) : Met l yX3_toldNow wsX3_toldNow ({ frames := 2, cells := 0, slots := 0, locals := 45 }) (va_Pc [.ref h0, .int a1] (kB D cI cB [(h0, .inr (5, [.int on, .int oo, .int og, .ref h1, .ref h2, .int ost, .int ord, .int oac, .int ore, .int okn, .int oth])), (h1, .inl (cI, orl, .inl ork)), (h2, .inl (cI, owl, .inl oww))])) (vp_Si post) 0 0 (fun _ => False) := by
  refine Met.ofW (cc := cX3_toldNow) (maxL := 2) (ret := (some .int)) (by decide) rfl ?_
  intro p e s m args below meth c s₁ B hml hv0
  obtain ⟨rfl, hP, hK, hN⟩ := hv0
  have hx := B.exec
  have hb := B.bytes
  have hr := B.returns
  have hts := atoms_spec (ws := wsX3_toldNow) B.pre
  have hown : s.vm.findClass RX3 = some m.cls := findClass_of_methodNamed B.named
  have hlocks := B.notSynchronized
  have hi_X3 : ∀ w ∈ wsX30, w ∈ wsX3_toldNow := by decide +kernel
  have hF17 := hts (.fieldLink RX3 17 "RoadgameModel" "n" "I") (by decide +kernel)
  have hF20 := hts (.fieldLink RX3 20 "RoadgameModel" "ofOne" "I") (by decide +kernel)
  have hF23 := hts (.fieldLink RX3 23 "RoadgameModel" "goal" "I") (by decide +kernel)
  have hF33 := hts (.fieldLink RX3 33 "RoadgameModel" "stone" "I") (by decide +kernel)
  have hF36 := hts (.fieldLink RX3 36 "RoadgameModel" "rounds" "I") (by decide +kernel)
  have hl := lv_entry ([.ref h0, .int a1]) (n := 2) (Nat.le_of_ble_eq_true rfl)
  rw [lg_entry_eq]
  generalize (lg_sl ([.ref h0, .int a1]) ++ List.replicate (2 - (lg_sl ([.ref h0, .int a1])).length) Slot.unset).toArray = ls at hl ⊢
  have hl : lv_has ls 2 [(0, .ref h0), (1, .int a1)] := hl
  refine lv_iload_n hx hb dX3_toldNow_0 rfl (lv_at hl 1 rfl) ?_
  by_cases hc0 : a1 = (0 : Int32)
  · have hv := hv.1 hc0
    refine lv_tableIn (off := 39) (tgt := 40) hx hb dX3_toldNow_1 (by rw [hc0]; decide) (by rw [hc0]; decide) (by rw [hc0]; decide) (by decide) ?_
    refine lv_aload_n hx hb dX3_toldNow_40 rfl (lv_at hl 0 rfl) ?_
    refine va_get (D := D) (ci := 5) (v := .int on) (C := RX3) (T := TX3) (N := 11) hx hb hts hi_X3 hown hK hP 0 rfl rfl 0 (by decide) hF17 (fun _ h9 => h9) rfl dX3_toldNow_41 ?_
    exact W.iret (v := on) hx hb hr (kSi_ret rfl hv) (fun _ h => by cases h) dX3_toldNow_44
  · have hv := hv.2 hc0
    by_cases hc1 : a1 = (1 : Int32)
    · have hv := hv.1 hc1
      refine lv_tableIn (off := 44) (tgt := 45) hx hb dX3_toldNow_1 (by rw [hc1]; decide) (by rw [hc1]; decide) (by rw [hc1]; decide) (by decide) ?_
      refine lv_aload_n hx hb dX3_toldNow_45 rfl (lv_at hl 0 rfl) ?_
      refine kc_V (As := []) (rest := []) ⟨hx, hb, hml, hown, hts⟩ (kX3_waysNow l D cI cB h0 h1 h2 on oo og orl ork owl oww ost ord oac ore okn oth _ hv) (cwV 0 hts gX3_toldNow_X3_waysNow rfl rfl rfl (by decide +kernel) ⟨Nat.le_of_ble_eq_true rfl, Nat.le_of_ble_eq_true rfl⟩) hP hK hN 5 rfl rfl rfl rfl hl.1 rfl (Nat.le_of_ble_eq_true rfl) dX3_toldNow_46 ⟨Nat.zero_le _, Nat.zero_le _⟩ (fun r46 hv => ?_)
      exact W.iret (v := r46) hx hb hr (kSi_ret rfl hv) (fun _ h => by cases h) dX3_toldNow_49
    · have hv := hv.2 hc1
      by_cases hc2 : a1 = (2 : Int32)
      · have hv := hv.1 hc2
        refine lv_tableIn (off := 49) (tgt := 50) hx hb dX3_toldNow_1 (by rw [hc2]; decide) (by rw [hc2]; decide) (by rw [hc2]; decide) (by decide) ?_
        refine lv_aload_n hx hb dX3_toldNow_50 rfl (lv_at hl 0 rfl) ?_
        refine va_get (D := D) (ci := 5) (v := .int og) (C := RX3) (T := TX3) (N := 11) hx hb hts hi_X3 hown hK hP 0 rfl rfl 2 (by decide) hF23 (fun _ h9 => h9) rfl dX3_toldNow_51 ?_
        exact W.iret (v := og) hx hb hr (kSi_ret rfl hv) (fun _ h => by cases h) dX3_toldNow_54
      · have hv := hv.2 hc2
        by_cases hc3 : a1 = (3 : Int32)
        · have hv := hv.1 hc3
          refine lv_tableIn (off := 54) (tgt := 55) hx hb dX3_toldNow_1 (by rw [hc3]; decide) (by rw [hc3]; decide) (by rw [hc3]; decide) (by decide) ?_
          refine lv_aload_n hx hb dX3_toldNow_55 rfl (lv_at hl 0 rfl) ?_
          refine va_get (D := D) (ci := 5) (v := .int oo) (C := RX3) (T := TX3) (N := 11) hx hb hts hi_X3 hown hK hP 0 rfl rfl 1 (by decide) hF20 (fun _ h9 => h9) rfl dX3_toldNow_56 ?_
          exact W.iret (v := oo) hx hb hr (kSi_ret rfl hv) (fun _ h => by cases h) dX3_toldNow_59
        · have hv := hv.2 hc3
          by_cases hc4 : a1 = (4 : Int32)
          · have hv := hv.1 hc4
            refine lv_tableIn (off := 59) (tgt := 60) hx hb dX3_toldNow_1 (by rw [hc4]; decide) (by rw [hc4]; decide) (by rw [hc4]; decide) (by decide) ?_
            refine lv_aload_n hx hb dX3_toldNow_60 rfl (lv_at hl 0 rfl) ?_
            refine va_get (D := D) (ci := 5) (v := .int ost) (C := RX3) (T := TX3) (N := 11) hx hb hts hi_X3 hown hK hP 0 rfl rfl 5 (by decide) hF33 (fun _ h9 => h9) rfl dX3_toldNow_61 ?_
            exact W.iret (v := ost) hx hb hr (kSi_ret rfl hv) (fun _ h => by cases h) dX3_toldNow_64
          · have hv := hv.2 hc4
            by_cases hc5 : a1 = (5 : Int32)
            · have hv := hv.1 hc5
              refine lv_tableIn (off := 64) (tgt := 65) hx hb dX3_toldNow_1 (by rw [hc5]; decide) (by rw [hc5]; decide) (by rw [hc5]; decide) (by decide) ?_
              refine lv_aload_n hx hb dX3_toldNow_65 rfl (lv_at hl 0 rfl) ?_
              refine va_get (D := D) (ci := 5) (v := .int ord) (C := RX3) (T := TX3) (N := 11) hx hb hts hi_X3 hown hK hP 0 rfl rfl 6 (by decide) hF36 (fun _ h9 => h9) rfl dX3_toldNow_66 ?_
              exact W.iret (v := ord) hx hb hr (kSi_ret rfl hv) (fun _ h => by cases h) dX3_toldNow_69
            · have hv := hv.2 hc5
              refine lv_tableOut (tgt := 70) hx hb dX3_toldNow_1 (by have g0 := lv_neT hc0 (a := 0) (by decide); have g1 := lv_neT hc1 (a := 1) (by decide); have g2 := lv_neT hc2 (a := 2) (by decide); have g3 := lv_neT hc3 (a := 3) (by decide); have g4 := lv_neT hc4 (a := 4) (by decide); have g5 := lv_neT hc5 (a := 5) (by decide); omega) (by decide) ?_
              refine lv_aload_n hx hb dX3_toldNow_70 rfl (lv_at hl 0 rfl) ?_
              refine kc_V (As := []) (rest := []) ⟨hx, hb, hml, hown, hts⟩ (kX3_stuck l D cI cB h0 h1 h2 on oo og orl ork owl oww ost ord oac ore okn oth _ hv) (cwV 0 hts gX3_toldNow_X3_stuck rfl rfl rfl (by decide +kernel) ⟨Nat.le_of_ble_eq_true rfl, Nat.le_of_ble_eq_true rfl⟩) hP hK hN 5 rfl rfl rfl rfl hl.1 rfl (Nat.le_of_ble_eq_true rfl) dX3_toldNow_71 ⟨Nat.zero_le _, Nat.zero_le _⟩ (fun r71 hv => ?_)
              exact W.iret (v := r71) hx hb hr (kSi_ret rfl hv) (fun _ h => by cases h) dX3_toldNow_74
set_option maxHeartbeats 4000000 in
set_option maxRecDepth 100000 in
theorem kX3_ofPlaceNow (l : Launch) (D : va_G) (cI cB : ClassId) (h0 : Nat) (h1 : Nat) (h2 : Nat) (on : Int32) (oo : Int32) (og : Int32) (orl : Nat) (ork : Nat → Int32) (owl : Nat) (oww : Nat → Int32) (ost : Int32) (ord : Int32) (oac : Int32) (ore : Int32) (okn : Int32) (oth : Int32) (a1 : Int32) (a2 : Int32) (post : Int32 → Prop) (hv : qX3_ofPlaceNow on oo og orl ork owl oww a1 a2 post) : Met l yX3_ofPlaceNow wsX3_ofPlaceNow ({ frames := 1, cells := 0, slots := 0, locals := 21 }) (va_Pc [.ref h0, .int a1, .int a2] (kB D cI cB [(h0, .inr (5, [.int on, .int oo, .int og, .ref h1, .ref h2, .int ost, .int ord, .int oac, .int ore, .int okn, .int oth])), (h1, .inl (cI, orl, .inl ork)), (h2, .inl (cI, owl, .inl oww))])) (vp_Si post) 0 0 (fun _ => False) := by
  refine Met.ofW (cc := cX3_ofPlaceNow) (maxL := 5) (ret := (some .int)) (by decide) rfl ?_
  intro p e s m args below meth c s₁ B hml hv0
  obtain ⟨rfl, hP, hK, hN⟩ := hv0
  have hx := B.exec
  have hb := B.bytes
  have hr := B.returns
  have hts := atoms_spec (ws := wsX3_ofPlaceNow) B.pre
  have hown : s.vm.findClass RX3 = some m.cls := findClass_of_methodNamed B.named
  have hlocks := B.notSynchronized
  have hi_X3 : ∀ w ∈ wsX30, w ∈ wsX3_ofPlaceNow := by decide +kernel
  have hF17 := hts (.fieldLink RX3 17 "RoadgameModel" "n" "I") (by decide +kernel)
  have hF23 := hts (.fieldLink RX3 23 "RoadgameModel" "goal" "I") (by decide +kernel)
  have hF26 := hts (.fieldLink RX3 26 "RoadgameModel" "ranks" "[I") (by decide +kernel)
  have hF30 := hts (.fieldLink RX3 30 "RoadgameModel" "ways" "[I") (by decide +kernel)
  have hl := lv_entry ([.ref h0, .int a1, .int a2]) (n := 5) (Nat.le_of_ble_eq_true rfl)
  rw [lg_entry_eq]
  generalize (lg_sl ([.ref h0, .int a1, .int a2]) ++ List.replicate (5 - (lg_sl ([.ref h0, .int a1, .int a2])).length) Slot.unset).toArray = ls at hl ⊢
  have hl : lv_has ls 5 [(0, .ref h0), (1, .int a1), (2, .int a2)] := hl
  refine lv_iload_n hx hb dX3_ofPlaceNow_0 rfl (lv_at hl 2 rfl) ?_
  by_cases hc0 : a2 = (0 : Int32)
  · have hv := hv.1 hc0
    refine lv_tableIn (off := 31) (tgt := 32) hx hb dX3_ofPlaceNow_1 (by rw [hc0]; decide) (by rw [hc0]; decide) (by rw [hc0]; decide) (by decide) ?_
    refine lv_aload_n hx hb dX3_ofPlaceNow_32 rfl (lv_at hl 0 rfl) ?_
    refine lv_iload_n hx hb dX3_ofPlaceNow_33 rfl (lv_at hl 1 rfl) ?_
    refine kc_V (As := [.int a1]) (rest := []) ⟨hx, hb, hml, hown, hts⟩ (kX3_sideOf l D cI cB h0 h1 h2 on oo og orl ork owl oww ost ord oac ore okn oth a1 _ hv) (cwV 1 hts gX3_ofPlaceNow_X3_sideOf rfl rfl rfl (by decide +kernel) ⟨Nat.le_of_ble_eq_true rfl, Nat.le_of_ble_eq_true rfl⟩) hP hK hN 5 rfl rfl rfl rfl hl.1 rfl (Nat.le_of_ble_eq_true rfl) dX3_ofPlaceNow_34 ⟨Nat.zero_le _, Nat.zero_le _⟩ (fun r34 hv => ?_)
    exact W.iret (v := r34) hx hb hr (kSi_ret rfl hv) (fun _ h => by cases h) dX3_ofPlaceNow_37
  · have hv := hv.2 hc0
    by_cases hc1 : a2 = (1 : Int32)
    · have hv := hv.1 hc1
      refine lv_tableIn (off := 37) (tgt := 38) hx hb dX3_ofPlaceNow_1 (by rw [hc1]; decide) (by rw [hc1]; decide) (by rw [hc1]; decide) (by decide) ?_
      refine lv_aload_n hx hb dX3_ofPlaceNow_38 rfl (lv_at hl 0 rfl) ?_
      refine va_get (D := D) (ci := 5) (v := .ref h1) (C := RX3) (T := TX3) (N := 11) hx hb hts hi_X3 hown hK hP 0 rfl rfl 3 (by decide) hF26 (fun _ h9 => h9) rfl dX3_ofPlaceNow_39 ?_
      refine lv_iload_n hx hb dX3_ofPlaceNow_42 rfl (lv_at hl 1 rfl) ?_
      obtain ⟨hq, hv⟩ := hv
      refine va_iald hx hb hK hP 1 0 rfl rfl hq dX3_ofPlaceNow_43 ?_
      exact W.iret (v := (ork a1.toNatClampNeg)) hx hb hr (kSi_ret rfl hv) (fun _ h => by cases h) dX3_ofPlaceNow_44
    · have hv := hv.2 hc1
      by_cases hc2 : a2 = (2 : Int32)
      · have hv := hv.1 hc2
        refine lv_tableIn (off := 44) (tgt := 45) hx hb dX3_ofPlaceNow_1 (by rw [hc2]; decide) (by rw [hc2]; decide) (by rw [hc2]; decide) (by decide) ?_
        refine lv_aload_n hx hb dX3_ofPlaceNow_45 rfl (lv_at hl 0 rfl) ?_
        refine va_get (D := D) (ci := 5) (v := .int og) (C := RX3) (T := TX3) (N := 11) hx hb hts hi_X3 hown hK hP 0 rfl rfl 2 (by decide) hF23 (fun _ h9 => h9) rfl dX3_ofPlaceNow_46 ?_
        refine lv_iload_n hx hb dX3_ofPlaceNow_49 rfl (lv_at hl 1 rfl) ?_
        refine lv_ishr hx hb dX3_ofPlaceNow_50 ?_
        refine lv_iconst (v := (1 : Int32)) hx hb dX3_ofPlaceNow_51 (by decide) ?_
        refine lv_iand hx hb dX3_ofPlaceNow_52 ?_
        exact W.iret (v := ((og >>> (a1 &&& (31 : Int32))) &&& (1 : Int32))) hx hb hr (kSi_ret rfl hv) (fun _ h => by cases h) dX3_ofPlaceNow_53
      · have hv := hv.2 hc2
        by_cases hc3 : a2 = (3 : Int32)
        · have hv := hv.1 hc3
          refine lv_tableIn (off := 53) (tgt := 54) hx hb dX3_ofPlaceNow_1 (by rw [hc3]; decide) (by rw [hc3]; decide) (by rw [hc3]; decide) (by decide) ?_
          refine lv_aload_n hx hb dX3_ofPlaceNow_54 rfl (lv_at hl 0 rfl) ?_
          refine va_get (D := D) (ci := 5) (v := .ref h2) (C := RX3) (T := TX3) (N := 11) hx hb hts hi_X3 hown hK hP 0 rfl rfl 4 (by decide) hF30 (fun _ h9 => h9) rfl dX3_ofPlaceNow_55 ?_
          refine lv_iload_n hx hb dX3_ofPlaceNow_58 rfl (lv_at hl 1 rfl) ?_
          obtain ⟨hq, hv⟩ := hv
          refine va_iald hx hb hK hP 2 0 rfl rfl hq dX3_ofPlaceNow_59 ?_
          exact W.iret (v := (oww a1.toNatClampNeg)) hx hb hr (kSi_ret rfl hv) (fun _ h => by cases h) dX3_ofPlaceNow_60
        · have hv := hv.2 hc3
          refine lv_tableOut (tgt := 61) hx hb dX3_ofPlaceNow_1 (by have g0 := lv_neT hc0 (a := 0) (by decide); have g1 := lv_neT hc1 (a := 1) (by decide); have g2 := lv_neT hc2 (a := 2) (by decide); have g3 := lv_neT hc3 (a := 3) (by decide); omega) (by decide) ?_
          refine lv_iconst (v := (0 : Int32)) hx hb dX3_ofPlaceNow_61 (by decide) ?_
          refine lv_istore_n (lv' := [(3, .int (0 : Int32)), (0, .ref h0), (1, .int a1), (2, .int a2)]) hx hb dX3_ofPlaceNow_62 rfl hl (by decide) rfl (fun ls hl => ?_)
          refine lv_iconst (v := (0 : Int32)) hx hb dX3_ofPlaceNow_63 (by decide) ?_
          refine lv_istore (lv' := [(4, .int (0 : Int32)), (3, .int (0 : Int32)), (0, .ref h0), (1, .int a1), (2, .int a2)]) hx hb dX3_ofPlaceNow_64 hl (by decide) rfl (fun ls hl => ?_)
          have L66 : ∀ (K66_106 : Int32 → Int32 → Prop), (∀ (v3_66 : Int32) (v4_66 : Int32) (ls : Array Slot), K66_106 v3_66 v4_66 → lv_has ls 5 [(0, .ref h0), (1, .int a1), (2, .int a2), (3, .int v3_66), (4, .int v4_66)] → W p l e (headSpec wsX3_ofPlaceNow ({ frames := 1, cells := 0, slots := 0, locals := 21 })).room s m ([.ref h0, .int a1, .int a2] : List Value).toArray below meth c s.heap [] 0 0 (MQ below (vp_Si post) ([.ref h0, .int a1, .int a2] : List Value).toArray s 0 0 (fun _ => False)) (F0 m 106 ls [])) → ∀ (n66 : Nat) (v3_66 : Int32) (v4_66 : Int32) (ls : Array Slot), qX3_ofPlaceNow_66 on owl oww a1 K66_106 n66 v3_66 v4_66 → lv_has ls 5 [(0, .ref h0), (1, .int a1), (2, .int a2), (3, .int v3_66), (4, .int v4_66)] → W p l e (headSpec wsX3_ofPlaceNow ({ frames := 1, cells := 0, slots := 0, locals := 21 })).room s m ([.ref h0, .int a1, .int a2] : List Value).toArray below meth c s.heap [] 0 0 (MQ below (vp_Si post) ([.ref h0, .int a1, .int a2] : List Value).toArray s 0 0 (fun _ => False)) (F0 m 66 ls []) := by
            intro K66_106 hk66_106
            intro n66
            induction n66 with
            | zero => intro v3_66 v4_66 ls hv hl; exact hv.elim
            | succ n66 ih66 =>
              intro v3_66 v4_66 ls hv hl
              refine lv_iload hx hb dX3_ofPlaceNow_66 (lv_at hl 4 rfl) ?_
              refine lv_aload_n hx hb dX3_ofPlaceNow_68 rfl (lv_at hl 0 rfl) ?_
              refine va_get (D := D) (ci := 5) (v := .int on) (C := RX3) (T := TX3) (N := 11) hx hb hts hi_X3 hown hK hP 0 rfl rfl 0 (by decide) hF17 (fun _ h9 => h9) rfl dX3_ofPlaceNow_69 ?_
              refine lv_icmp_ge (tgt := 106) hx hb dX3_ofPlaceNow_72 (by decide) (fun hc => ?_) (fun hc => ?_)
              · have hv := hv.1 hc
                exact hk66_106 _ _ ls hv (lv_sub hl [0, 1, 2, 3, 4] rfl)
              · have hv := hv.2 hc
                refine lv_iload_n hx hb dX3_ofPlaceNow_75 rfl (lv_at hl 3 rfl) ?_
                refine lv_aload_n hx hb dX3_ofPlaceNow_76 rfl (lv_at hl 0 rfl) ?_
                refine va_get (D := D) (ci := 5) (v := .ref h2) (C := RX3) (T := TX3) (N := 11) hx hb hts hi_X3 hown hK hP 0 rfl rfl 4 (by decide) hF30 (fun _ h9 => h9) rfl dX3_ofPlaceNow_77 ?_
                refine lv_iload hx hb dX3_ofPlaceNow_80 (lv_at hl 4 rfl) ?_
                obtain ⟨hq, hv⟩ := hv
                refine va_iald hx hb hK hP 2 0 rfl rfl hq dX3_ofPlaceNow_82 ?_
                refine lv_iload_n hx hb dX3_ofPlaceNow_83 rfl (lv_at hl 1 rfl) ?_
                refine kc_S (As := [.int (oww v4_66.toNatClampNeg), .int a1]) (rest := [.int v3_66]) ⟨hx, hb, hml, hown, hts⟩ (kX3_isIn l D cI cB (oww v4_66.toNatClampNeg) a1 _ hv) (va_cwS 2 hts gX3_ofPlaceNow_X3_isIn rfl rfl rfl (by decide +kernel) ⟨Nat.le_of_ble_eq_true rfl, Nat.le_of_ble_eq_true rfl⟩) (hP.sub (ws' := []) [] rfl) hK hN rfl hl.1 rfl (Nat.le_of_ble_eq_true rfl) dX3_ofPlaceNow_84 ⟨Nat.zero_le _, Nat.zero_le _⟩ (fun r84 hv => ?_)
                refine lv_if_eq (tgt := 97) hx hb dX3_ofPlaceNow_87 (by decide) (fun hc => ?_) (fun hc => ?_)
                · have hv := hv.1 hc
                  refine lv_iconst (v := (0 : Int32)) hx hb dX3_ofPlaceNow_97 (by decide) ?_
                  refine lv_ior hx hb dX3_ofPlaceNow_98 ?_
                  refine lv_istore_n (lv' := [(3, .int (v3_66 ||| (0 : Int32))), (0, .ref h0), (1, .int a1), (2, .int a2), (4, .int v4_66)]) hx hb dX3_ofPlaceNow_99 rfl hl (by decide) rfl (fun ls hl => ?_)
                  refine lv_iinc (v := (v4_66 + (1 : Int32))) (lv' := [(4, .int (v4_66 + (1 : Int32))), (3, .int (v3_66 ||| (0 : Int32))), (0, .ref h0), (1, .int a1), (2, .int a2)]) hx hb dX3_ofPlaceNow_100 hl (k := 4) rfl rfl (by decide) rfl (fun ls hl => ?_)
                  refine lv_goto (tgt := 66) hx hb dX3_ofPlaceNow_103 (by decide) ?_
                  exact ih66 _ _ ls hv (lv_sub hl [2, 3, 4, 1, 0] rfl)
                · have hv := hv.2 hc
                  refine lv_iconst (v := (1 : Int32)) hx hb dX3_ofPlaceNow_90 (by decide) ?_
                  refine lv_iload hx hb dX3_ofPlaceNow_91 (lv_at hl 4 rfl) ?_
                  refine lv_ishl hx hb dX3_ofPlaceNow_93 ?_
                  refine lv_goto (tgt := 98) hx hb dX3_ofPlaceNow_94 (by decide) ?_
                  refine lv_ior hx hb dX3_ofPlaceNow_98 ?_
                  refine lv_istore_n (lv' := [(3, .int (v3_66 ||| ((1 : Int32) <<< (v4_66 &&& (31 : Int32))))), (0, .ref h0), (1, .int a1), (2, .int a2), (4, .int v4_66)]) hx hb dX3_ofPlaceNow_99 rfl hl (by decide) rfl (fun ls hl => ?_)
                  refine lv_iinc (v := (v4_66 + (1 : Int32))) (lv' := [(4, .int (v4_66 + (1 : Int32))), (3, .int (v3_66 ||| ((1 : Int32) <<< (v4_66 &&& (31 : Int32))))), (0, .ref h0), (1, .int a1), (2, .int a2)]) hx hb dX3_ofPlaceNow_100 hl (k := 4) rfl rfl (by decide) rfl (fun ls hl => ?_)
                  refine lv_goto (tgt := 66) hx hb dX3_ofPlaceNow_103 (by decide) ?_
                  exact ih66 _ _ ls hv (lv_sub hl [2, 3, 4, 1, 0] rfl)
          obtain ⟨n66, hv⟩ := hv
          refine L66 _ (fun v3_66x v4_66x ls hv hl => ?_) n66 _ _ _ hv (lv_sub hl [2, 3, 4, 1, 0] rfl)
          refine lv_iload_n hx hb dX3_ofPlaceNow_106 rfl (lv_at hl 3 rfl) ?_
          exact W.iret (v := v3_66x) hx hb hr (kSi_ret rfl hv) (fun _ h => by cases h) dX3_ofPlaceNow_107
