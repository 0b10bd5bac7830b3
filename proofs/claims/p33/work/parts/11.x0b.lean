/-! walks by program (wip/gen): X0_reaching, X0_roundsTo, X0_nearer, X0_wonAgain, X0_holdingRankTwo, X0_wonRankedByZero, X0_won, X0_pickWithin, X0_pick -/
set_option maxHeartbeats 4000000 in
set_option maxRecDepth 100000 in
theorem kX0_reaching (l : Launch) (D : va_G) (cI cB : ClassId) (h0 : Nat) (h1 : Nat) (kf : Nat → Int32) (kz : Int32) (ks : Int32) (kg : Int32) (k0 : Int32) (k1 : Int32) (a1 : Int32) (a2 : Int32) (post : Int32 → Prop) (hv : qX0_reaching kf kz ks a1 a2 post) : Met l yX0_reaching wsX0_reaching ({ frames := 1, cells := 0, slots := 0, locals := 26 }) (va_Pc [.ref h0, .int a1, .int a2] (kB D cI cB [(h0, .inr (2, [.ref h1, .int kz, .int ks, .int kg, .int k0, .int k1])), (h1, .inl (cI, 12, .inl kf))])) (vp_Si post) 0 0 (fun _ => False) := by
  refine Met.ofW (cc := cX0_reaching) (maxL := 6) (ret := (some .int)) (by decide) rfl ?_
  intro p e s m args below meth c s₁ B hml hv0
  obtain ⟨rfl, hP, hK, hN⟩ := hv0
  have hx := B.exec
  have hb := B.bytes
  have hr := B.returns
  have hts := atoms_spec (ws := wsX0_reaching) B.pre
  have hown : s.vm.findClass RX0 = some m.cls := findClass_of_methodNamed B.named
  have hlocks := B.notSynchronized
  have hl := lv_entry ([.ref h0, .int a1, .int a2]) (n := 6) (Nat.le_of_ble_eq_true rfl)
  rw [lg_entry_eq]
  generalize (lg_sl ([.ref h0, .int a1, .int a2]) ++ List.replicate (6 - (lg_sl ([.ref h0, .int a1, .int a2])).length) Slot.unset).toArray = ls at hl ⊢
  have hl : lv_has ls 6 [(0, .ref h0), (1, .int a1), (2, .int a2)] := hl
  refine lv_iload_n hx hb dX0_reaching_0 rfl (lv_at hl 1 rfl) ?_
  refine lv_aload_n hx hb dX0_reaching_1 rfl (lv_at hl 0 rfl) ?_
  refine lv_iconst (v := (0 : Int32)) hx hb dX0_reaching_2 (by decide) ?_
  refine lv_iload_n hx hb dX0_reaching_3 rfl (lv_at hl 2 rfl) ?_
  refine kc_V (As := [.int (0 : Int32), .int a2]) (rest := [.int a1]) ⟨hx, hb, hml, hown, hts⟩ (kX0_seenBefore l D cI cB h0 h1 kf kz ks kg k0 k1 (0 : Int32) a2 _ hv) (cwV 2 hts gX0_reaching_X0_seenBefore rfl rfl rfl (by decide +kernel) ⟨Nat.le_of_ble_eq_true rfl, Nat.le_of_ble_eq_true rfl⟩) hP hK hN 2 rfl rfl rfl rfl hl.1 rfl (Nat.le_of_ble_eq_true rfl) dX0_reaching_4 ⟨Nat.zero_le _, Nat.zero_le _⟩ (fun r4 hv => ?_)
  refine lv_ior hx hb dX0_reaching_7 ?_
  refine lv_istore_n (lv' := [(3, .int (a1 ||| r4)), (0, .ref h0), (1, .int a1), (2, .int a2)]) hx hb dX0_reaching_8 rfl hl (by decide) rfl (fun ls hl => ?_)
  refine lv_iconst (v := (0 : Int32)) hx hb dX0_reaching_9 (by decide) ?_
  refine lv_istore (lv' := [(4, .int (0 : Int32)), (3, .int (a1 ||| r4)), (0, .ref h0), (1, .int a1), (2, .int a2)]) hx hb dX0_reaching_10 hl (by decide) rfl (fun ls hl => ?_)
  have L12 : ∀ (K12_47 : Int32 → Int32 → Prop), (∀ (v3_12 : Int32) (v4_12 : Int32) (ls : Array Slot), K12_47 v3_12 v4_12 → lv_has ls 6 [(0, .ref h0), (1, .int a1), (2, .int a2), (3, .int v3_12), (4, .int v4_12)] → W p l e (headSpec wsX0_reaching ({ frames := 1, cells := 0, slots := 0, locals := 26 })).room s m ([.ref h0, .int a1, .int a2] : List Value).toArray below meth c s.heap [] 0 0 (MQ below (vp_Si post) ([.ref h0, .int a1, .int a2] : List Value).toArray s 0 0 (fun _ => False)) (F0 m 47 ls [])) → ∀ (n12 : Nat) (v3_12 : Int32) (v4_12 : Int32) (ls : Array Slot), qX0_reaching_12 kf kz ks a2 K12_47 n12 v3_12 v4_12 → lv_has ls 6 [(0, .ref h0), (1, .int a1), (2, .int a2), (3, .int v3_12), (4, .int v4_12)] → W p l e (headSpec wsX0_reaching ({ frames := 1, cells := 0, slots := 0, locals := 26 })).room s m ([.ref h0, .int a1, .int a2] : List Value).toArray below meth c s.heap [] 0 0 (MQ below (vp_Si post) ([.ref h0, .int a1, .int a2] : List Value).toArray s 0 0 (fun _ => False)) (F0 m 12 ls []) := by
    intro K12_47 hk12_47
    intro n12
    induction n12 with
    | zero => intro v3_12 v4_12 ls hv hl; exact hv.elim
    | succ n12 ih12 =>
      intro v3_12 v4_12 ls hv hl
      refine lv_iload hx hb dX0_reaching_12 (lv_at hl 4 rfl) ?_
      refine lv_bipush (v := (12 : Int32)) hx hb dX0_reaching_14 (by decide) ?_
      refine lv_icmp_ge (tgt := 47) hx hb dX0_reaching_16 (by decide) (fun hc => ?_) (fun hc => ?_)
      · have hv := hv.1 hc
        exact hk12_47 _ _ ls hv (lv_sub hl [0, 1, 2, 3, 4] rfl)
      · have hv := hv.2 hc
        refine lv_iload_n hx hb dX0_reaching_19 rfl (lv_at hl 3 rfl) ?_
        refine lv_aload_n hx hb dX0_reaching_20 rfl (lv_at hl 0 rfl) ?_
        refine lv_iload_n hx hb dX0_reaching_21 rfl (lv_at hl 3 rfl) ?_
        refine lv_iload_n hx hb dX0_reaching_22 rfl (lv_at hl 2 rfl) ?_
        refine kc_V (As := [.int v3_12, .int a2]) (rest := [.int v3_12]) ⟨hx, hb, hml, hown, hts⟩ (kX0_seenBefore l D cI cB h0 h1 kf kz ks kg k0 k1 v3_12 a2 _ hv) (cwV 2 hts gX0_reaching_X0_seenBefore rfl rfl rfl (by decide +kernel) ⟨Nat.le_of_ble_eq_true rfl, Nat.le_of_ble_eq_true rfl⟩) hP hK hN 2 rfl rfl rfl rfl hl.1 rfl (Nat.le_of_ble_eq_true rfl) dX0_reaching_23 ⟨Nat.zero_le _, Nat.zero_le _⟩ (fun r23 hv => ?_)
        refine lv_ior hx hb dX0_reaching_26 ?_
        refine lv_istore (lv' := [(5, .int (v3_12 ||| r23)), (0, .ref h0), (1, .int a1), (2, .int a2), (3, .int v3_12), (4, .int v4_12)]) hx hb dX0_reaching_27 hl (by decide) rfl (fun ls hl => ?_)
        refine lv_iload hx hb dX0_reaching_29 (lv_at hl 0 rfl) ?_
        refine lv_iload_n hx hb dX0_reaching_31 rfl (lv_at hl 4 rfl) ?_
        refine lv_icmp_ne (tgt := 38) hx hb dX0_reaching_32 (by decide) (fun hc => ?_) (fun hc => ?_)
        · have hv := hv.1 hc
          refine lv_iload hx hb dX0_reaching_38 (lv_at hl 0 rfl) ?_
          refine lv_istore_n (lv' := [(3, .int (v3_12 ||| r23)), (5, .int (v3_12 ||| r23)), (0, .ref h0), (1, .int a1), (2, .int a2), (4, .int v4_12)]) hx hb dX0_reaching_40 rfl hl (by decide) rfl (fun ls hl => ?_)
          refine lv_iinc (v := (v4_12 + (1 : Int32))) (lv' := [(4, .int (v4_12 + (1 : Int32))), (3, .int (v3_12 ||| r23)), (5, .int (v3_12 ||| r23)), (0, .ref h0), (1, .int a1), (2, .int a2)]) hx hb dX0_reaching_41 hl (k := 5) rfl rfl (by decide) rfl (fun ls hl => ?_)
          refine lv_goto (tgt := 12) hx hb dX0_reaching_44 (by decide) ?_
          exact ih12 _ _ ls hv (lv_sub hl [3, 4, 5, 1, 0] rfl)
        · have hv := hv.2 hc
          refine lv_goto (tgt := 47) hx hb dX0_reaching_35 (by decide) ?_
          exact hk12_47 _ _ ls hv (lv_sub hl [1, 2, 3, 4, 5] rfl)
  obtain ⟨n12, hv⟩ := hv
  refine L12 _ (fun v3_12x v4_12x ls hv hl => ?_) n12 _ _ _ hv (lv_sub hl [2, 3, 4, 1, 0] rfl)
  refine lv_iload_n hx hb dX0_reaching_47 rfl (lv_at hl 3 rfl) ?_
  exact W.iret (v := v3_12x) hx hb hr (kSi_ret rfl hv) (fun _ h => by cases h) dX0_reaching_48
set_option maxHeartbeats 4000000 in
set_option maxRecDepth 100000 in
theorem kX0_roundsTo (l : Launch) (D : va_G) (cI cB : ClassId) (h0 : Nat) (h1 : Nat) (kf : Nat → Int32) (kz : Int32) (ks : Int32) (kg : Int32) (k0 : Int32) (k1 : Int32) (a1 : Int32) (a2 : Int32) (a3 : Int32) (post : Int32 → Prop) (hv : qX0_roundsTo kf kz ks a1 a2 a3 post) : Met l yX0_roundsTo wsX0_roundsTo ({ frames := 1, cells := 0, slots := 0, locals := 26 }) (va_Pc [.ref h0, .int a1, .int a2, .int a3] (kB D cI cB [(h0, .inr (2, [.ref h1, .int kz, .int ks, .int kg, .int k0, .int k1])), (h1, .inl (cI, 12, .inl kf))])) (vp_Si post) 0 0 (fun _ => False) := by
  refine Met.ofW (cc := cX0_roundsTo) (maxL := 6) (ret := (some .int)) (by decide) rfl ?_
  intro p e s m args below meth c s₁ B hml hv0
  obtain ⟨rfl, hP, hK, hN⟩ := hv0
  have hx := B.exec
  have hb := B.bytes
  have hr := B.returns
  have hts := atoms_spec (ws := wsX0_roundsTo) B.pre
  have hown : s.vm.findClass RX0 = some m.cls := findClass_of_methodNamed B.named
  have hlocks := B.notSynchronized
  have hl := lv_entry ([.ref h0, .int a1, .int a2, .int a3]) (n := 6) (Nat.le_of_ble_eq_true rfl)
  rw [lg_entry_eq]
  generalize (lg_sl ([.ref h0, .int a1, .int a2, .int a3]) ++ List.replicate (6 - (lg_sl ([.ref h0, .int a1, .int a2, .int a3])).length) Slot.unset).toArray = ls at hl ⊢
  have hl : lv_has ls 6 [(0, .ref h0), (1, .int a1), (2, .int a2), (3, .int a3)] := hl
  refine lv_iload_n hx hb dX0_roundsTo_0 rfl (lv_at hl 1 rfl) ?_
  refine lv_aload_n hx hb dX0_roundsTo_1 rfl (lv_at hl 0 rfl) ?_
  refine lv_iconst (v := (0 : Int32)) hx hb dX0_roundsTo_2 (by decide) ?_
  refine lv_iload_n hx hb dX0_roundsTo_3 rfl (lv_at hl 2 rfl) ?_
  refine kc_V (As := [.int (0 : Int32), .int a2]) (rest := [.int a1]) ⟨hx, hb, hml, hown, hts⟩ (kX0_seenBefore l D cI cB h0 h1 kf kz ks kg k0 k1 (0 : Int32) a2 _ hv) (cwV 2 hts gX0_roundsTo_X0_seenBefore rfl rfl rfl (by decide +kernel) ⟨Nat.le_of_ble_eq_true rfl, Nat.le_of_ble_eq_true rfl⟩) hP hK hN 2 rfl rfl rfl rfl hl.1 rfl (Nat.le_of_ble_eq_true rfl) dX0_roundsTo_4 ⟨Nat.zero_le _, Nat.zero_le _⟩ (fun r4 hv => ?_)
  refine lv_ior hx hb dX0_roundsTo_7 ?_
  refine lv_istore (lv' := [(4, .int (a1 ||| r4)), (0, .ref h0), (1, .int a1), (2, .int a2), (3, .int a3)]) hx hb dX0_roundsTo_8 hl (by decide) rfl (fun ls hl => ?_)
  refine lv_iconst (v := (0 : Int32)) hx hb dX0_roundsTo_10 (by decide) ?_
  refine lv_istore (lv' := [(5, .int (0 : Int32)), (4, .int (a1 ||| r4)), (0, .ref h0), (1, .int a1), (2, .int a2), (3, .int a3)]) hx hb dX0_roundsTo_11 hl (by decide) rfl (fun ls hl => ?_)
  have L13 : ∀ (K13_50 : Int32 → Int32 → Prop), (∀ (v4_13 : Int32) (v5_13 : Int32) (ls : Array Slot), K13_50 v4_13 v5_13 → lv_has ls 6 [(0, .ref h0), (1, .int a1), (2, .int a2), (3, .int a3), (4, .int v4_13), (5, .int v5_13)] → W p l e (headSpec wsX0_roundsTo ({ frames := 1, cells := 0, slots := 0, locals := 26 })).room s m ([.ref h0, .int a1, .int a2, .int a3] : List Value).toArray below meth c s.heap [] 0 0 (MQ below (vp_Si post) ([.ref h0, .int a1, .int a2, .int a3] : List Value).toArray s 0 0 (fun _ => False)) (F0 m 50 ls [])) → ∀ (n13 : Nat) (v4_13 : Int32) (v5_13 : Int32) (ls : Array Slot), qX0_roundsTo_13 kf kz ks a2 a3 K13_50 post n13 v4_13 v5_13 → lv_has ls 6 [(0, .ref h0), (1, .int a1), (2, .int a2), (3, .int a3), (4, .int v4_13), (5, .int v5_13)] → W p l e (headSpec wsX0_roundsTo ({ frames := 1, cells := 0, slots := 0, locals := 26 })).room s m ([.ref h0, .int a1, .int a2, .int a3] : List Value).toArray below meth c s.heap [] 0 0 (MQ below (vp_Si post) ([.ref h0, .int a1, .int a2, .int a3] : List Value).toArray s 0 0 (fun _ => False)) (F0 m 13 ls []) := by
    intro K13_50 hk13_50
    intro n13
    induction n13 with
    | zero => intro v4_13 v5_13 ls hv hl; exact hv.elim
    | succ n13 ih13 =>
      intro v4_13 v5_13 ls hv hl
      refine lv_iload hx hb dX0_roundsTo_13 (lv_at hl 5 rfl) ?_
      refine lv_bipush (v := (12 : Int32)) hx hb dX0_roundsTo_15 (by decide) ?_
      refine lv_icmp_ge (tgt := 50) hx hb dX0_roundsTo_17 (by decide) (fun hc => ?_) (fun hc => ?_)
      · have hv := hv.1 hc
        exact hk13_50 _ _ ls hv (lv_sub hl [0, 1, 2, 3, 4, 5] rfl)
      · have hv := hv.2 hc
        refine lv_iload hx hb dX0_roundsTo_20 (lv_at hl 4 rfl) ?_
        refine lv_iload_n hx hb dX0_roundsTo_22 rfl (lv_at hl 3 rfl) ?_
        refine kc_SN (As := [.int v4_13, .int a3]) (rest := []) ⟨hx, hb, hml, hown, hts⟩ (kX1_has l D cI cB v4_13 a3 _ hv) ⟨va_cnB (host := "Roadgame") 2 hts gX0_roundsTo_X1_has_n39 rfl rfl rfl hN.2.2.2.1 (hts (.initialized RX1) (by decide +kernel)) (by decide +kernel) ⟨Nat.le_of_ble_eq_true rfl, Nat.le_of_ble_eq_true rfl⟩, hts (.static yX1_has) (by decide +kernel), trivial⟩ (hP.sub (ws' := []) [] rfl) hK hN rfl hl.1 rfl (Nat.le_of_ble_eq_true rfl) dX0_roundsTo_23 ⟨Nat.zero_le _, Nat.zero_le _⟩ (fun r23 hv => ?_)
        refine lv_if_eq (tgt := 32) hx hb dX0_roundsTo_26 (by decide) (fun hc => ?_) (fun hc => ?_)
        · have hv := hv.1 hc
          refine lv_iload hx hb dX0_roundsTo_32 (lv_at hl 4 rfl) ?_
          refine lv_aload_n hx hb dX0_roundsTo_34 rfl (lv_at hl 0 rfl) ?_
          refine lv_iload hx hb dX0_roundsTo_35 (lv_at hl 4 rfl) ?_
          refine lv_iload_n hx hb dX0_roundsTo_37 rfl (lv_at hl 2 rfl) ?_
          refine kc_V (As := [.int v4_13, .int a2]) (rest := [.int v4_13]) ⟨hx, hb, hml, hown, hts⟩ (kX0_seenBefore l D cI cB h0 h1 kf kz ks kg k0 k1 v4_13 a2 _ hv) (cwV 2 hts gX0_roundsTo_X0_seenBefore rfl rfl rfl (by decide +kernel) ⟨Nat.le_of_ble_eq_true rfl, Nat.le_of_ble_eq_true rfl⟩) hP hK hN 2 rfl rfl rfl rfl hl.1 rfl (Nat.le_of_ble_eq_true rfl) dX0_roundsTo_38 ⟨Nat.zero_le _, Nat.zero_le _⟩ (fun r38 hv => ?_)
          refine lv_ior hx hb dX0_roundsTo_41 ?_
          refine lv_istore (lv' := [(4, .int (v4_13 ||| r38)), (0, .ref h0), (1, .int a1), (2, .int a2), (3, .int a3), (5, .int v5_13)]) hx hb dX0_roundsTo_42 hl (by decide) rfl (fun ls hl => ?_)
          refine lv_iinc (v := (v5_13 + (1 : Int32))) (lv' := [(5, .int (v5_13 + (1 : Int32))), (4, .int (v4_13 ||| r38)), (0, .ref h0), (1, .int a1), (2, .int a2), (3, .int a3)]) hx hb dX0_roundsTo_44 hl (k := 5) rfl rfl (by decide) rfl (fun ls hl => ?_)
          refine lv_goto (tgt := 13) hx hb dX0_roundsTo_47 (by decide) ?_
          exact ih13 _ _ ls hv (lv_sub hl [2, 3, 4, 5, 1, 0] rfl)
        · have hv := hv.2 hc
          refine lv_iload hx hb dX0_roundsTo_29 (lv_at hl 5 rfl) ?_
          exact W.iret (v := v5_13) hx hb hr (kSi_ret rfl hv) (fun _ h => by cases h) dX0_roundsTo_31
  obtain ⟨n13, hv⟩ := hv
  refine L13 _ (fun v4_13x v5_13x ls hv hl => ?_) n13 _ _ _ hv (lv_sub hl [2, 3, 4, 5, 1, 0] rfl)
  refine lv_iconst (v := (-1 : Int32)) hx hb dX0_roundsTo_50 (by decide) ?_
  exact W.iret (v := (-1 : Int32)) hx hb hr (kSi_ret rfl hv) (fun _ h => by cases h) dX0_roundsTo_51
set_option maxHeartbeats 4000000 in
set_option maxRecDepth 100000 in
theorem kX0_nearer (l : Launch) (D : va_G) (cI cB : ClassId) (h0 : Nat) (h1 : Nat) (kf : Nat → Int32) (kz : Int32) (ks : Int32) (kg : Int32) (k0 : Int32) (k1 : Int32) (a1 : Int32) (a2 : Int32) (a3 : Int32) (post : Int32 → Prop) (hv : qX0_nearer kf kz ks a1 a2 a3 post) : Met l yX0_nearer wsX0_nearer ({ frames := 1, cells := 0, slots := 0, locals := 26 }) (va_Pc [.ref h0, .int a1, .int a2, .int a3] (kB D cI cB [(h0, .inr (2, [.ref h1, .int kz, .int ks, .int kg, .int k0, .int k1])), (h1, .inl (cI, 12, .inl kf))])) (vp_Si post) 0 0 (fun _ => False) := by
  refine Met.ofW (cc := cX0_nearer) (maxL := 7) (ret := (some .int)) (by decide) rfl ?_
  intro p e s m args below meth c s₁ B hml hv0
  obtain ⟨rfl, hP, hK, hN⟩ := hv0
  have hx := B.exec
  have hb := B.bytes
  have hr := B.returns
  have hts := atoms_spec (ws := wsX0_nearer) B.pre
  have hown : s.vm.findClass RX0 = some m.cls := findClass_of_methodNamed B.named
  have hlocks := B.notSynchronized
  have hl := lv_entry ([.ref h0, .int a1, .int a2, .int a3]) (n := 7) (Nat.le_of_ble_eq_true rfl)
  rw [lg_entry_eq]
  generalize (lg_sl ([.ref h0, .int a1, .int a2, .int a3]) ++ List.replicate (7 - (lg_sl ([.ref h0, .int a1, .int a2, .int a3])).length) Slot.unset).toArray = ls at hl ⊢
  have hl : lv_has ls 7 [(0, .ref h0), (1, .int a1), (2, .int a2), (3, .int a3)] := hl
  refine lv_iload_n hx hb dX0_nearer_0 rfl (lv_at hl 1 rfl) ?_
  refine lv_aload_n hx hb dX0_nearer_1 rfl (lv_at hl 0 rfl) ?_
  refine lv_iconst (v := (0 : Int32)) hx hb dX0_nearer_2 (by decide) ?_
  refine lv_iload_n hx hb dX0_nearer_3 rfl (lv_at hl 2 rfl) ?_
  refine kc_V (As := [.int (0 : Int32), .int a2]) (rest := [.int a1]) ⟨hx, hb, hml, hown, hts⟩ (kX0_seenBefore l D cI cB h0 h1 kf kz ks kg k0 k1 (0 : Int32) a2 _ hv) (cwV 2 hts gX0_nearer_X0_seenBefore rfl rfl rfl (by decide +kernel) ⟨Nat.le_of_ble_eq_true rfl, Nat.le_of_ble_eq_true rfl⟩) hP hK hN 2 rfl rfl rfl rfl hl.1 rfl (Nat.le_of_ble_eq_true rfl) dX0_nearer_4 ⟨Nat.zero_le _, Nat.zero_le _⟩ (fun r4 hv => ?_)
  refine lv_ior hx hb dX0_nearer_7 ?_
  refine lv_istore (lv' := [(4, .int (a1 ||| r4)), (0, .ref h0), (1, .int a1), (2, .int a2), (3, .int a3)]) hx hb dX0_nearer_8 hl (by decide) rfl (fun ls hl => ?_)
  refine lv_iload hx hb dX0_nearer_10 (lv_at hl 0 rfl) ?_
  refine lv_iload_n hx hb dX0_nearer_12 rfl (lv_at hl 4 rfl) ?_
  refine kc_SN (As := [.int (a1 ||| r4), .int a3]) (rest := []) ⟨hx, hb, hml, hown, hts⟩ (kX1_has l D cI cB (a1 ||| r4) a3 _ hv) ⟨va_cnB (host := "Roadgame") 2 hts gX0_nearer_X1_has_n39 rfl rfl rfl hN.2.2.2.1 (hts (.initialized RX1) (by decide +kernel)) (by decide +kernel) ⟨Nat.le_of_ble_eq_true rfl, Nat.le_of_ble_eq_true rfl⟩, hts (.static yX1_has) (by decide +kernel), trivial⟩ (hP.sub (ws' := []) [] rfl) hK hN rfl hl.1 rfl (Nat.le_of_ble_eq_true rfl) dX0_nearer_13 ⟨Nat.zero_le _, Nat.zero_le _⟩ (fun r13 hv => ?_)
  refine lv_if_eq (tgt := 21) hx hb dX0_nearer_16 (by decide) (fun hc => ?_) (fun hc => ?_)
  · have hv := hv.1 hc
    refine lv_iconst (v := (0 : Int32)) hx hb dX0_nearer_21 (by decide) ?_
    refine lv_istore (lv' := [(5, .int (0 : Int32)), (4, .int (a1 ||| r4)), (0, .ref h0), (1, .int a1), (2, .int a2), (3, .int a3)]) hx hb dX0_nearer_22 hl (by decide) rfl (fun ls hl => ?_)
    have L24 : ∀ (K24_65 : Int32 → Int32 → Prop), (∀ (v4_24 : Int32) (v5_24 : Int32) (ls : Array Slot), K24_65 v4_24 v5_24 → lv_has ls 7 [(0, .ref h0), (1, .int a1), (2, .int a2), (3, .int a3), (4, .int v4_24), (5, .int v5_24)] → W p l e (headSpec wsX0_nearer ({ frames := 1, cells := 0, slots := 0, locals := 26 })).room s m ([.ref h0, .int a1, .int a2, .int a3] : List Value).toArray below meth c s.heap [] 0 0 (MQ below (vp_Si post) ([.ref h0, .int a1, .int a2, .int a3] : List Value).toArray s 0 0 (fun _ => False)) (F0 m 65 ls [])) → ∀ (n24 : Nat) (v4_24 : Int32) (v5_24 : Int32) (ls : Array Slot), qX0_nearer_24 kf kz ks a2 a3 K24_65 post n24 v4_24 v5_24 → lv_has ls 7 [(0, .ref h0), (1, .int a1), (2, .int a2), (3, .int a3), (4, .int v4_24), (5, .int v5_24)] → W p l e (headSpec wsX0_nearer ({ frames := 1, cells := 0, slots := 0, locals := 26 })).room s m ([.ref h0, .int a1, .int a2, .int a3] : List Value).toArray below meth c s.heap [] 0 0 (MQ below (vp_Si post) ([.ref h0, .int a1, .int a2, .int a3] : List Value).toArray s 0 0 (fun _ => False)) (F0 m 24 ls []) := by
      intro K24_65 hk24_65
      intro n24
      induction n24 with
      | zero => intro v4_24 v5_24 ls hv hl; exact hv.elim
      | succ n24 ih24 =>
        intro v4_24 v5_24 ls hv hl
        refine lv_iload hx hb dX0_nearer_24 (lv_at hl 5 rfl) ?_
        refine lv_bipush (v := (12 : Int32)) hx hb dX0_nearer_26 (by decide) ?_
        refine lv_icmp_ge (tgt := 65) hx hb dX0_nearer_28 (by decide) (fun hc => ?_) (fun hc => ?_)
        · have hv := hv.1 hc
          exact hk24_65 _ _ ls hv (lv_sub hl [0, 1, 2, 3, 4, 5] rfl)
        · have hv := hv.2 hc
          refine lv_iload hx hb dX0_nearer_31 (lv_at hl 4 rfl) ?_
          refine lv_aload_n hx hb dX0_nearer_33 rfl (lv_at hl 0 rfl) ?_
          refine lv_iload hx hb dX0_nearer_34 (lv_at hl 4 rfl) ?_
          refine lv_iload_n hx hb dX0_nearer_36 rfl (lv_at hl 2 rfl) ?_
          refine kc_V (As := [.int v4_24, .int a2]) (rest := [.int v4_24]) ⟨hx, hb, hml, hown, hts⟩ (kX0_seenBefore l D cI cB h0 h1 kf kz ks kg k0 k1 v4_24 a2 _ hv) (cwV 2 hts gX0_nearer_X0_seenBefore rfl rfl rfl (by decide +kernel) ⟨Nat.le_of_ble_eq_true rfl, Nat.le_of_ble_eq_true rfl⟩) hP hK hN 2 rfl rfl rfl rfl hl.1 rfl (Nat.le_of_ble_eq_true rfl) dX0_nearer_37 ⟨Nat.zero_le _, Nat.zero_le _⟩ (fun r37 hv => ?_)
          refine lv_ior hx hb dX0_nearer_40 ?_
          refine lv_istore (lv' := [(6, .int (v4_24 ||| r37)), (0, .ref h0), (1, .int a1), (2, .int a2), (3, .int a3), (4, .int v4_24), (5, .int v5_24)]) hx hb dX0_nearer_41 hl (by decide) rfl (fun ls hl => ?_)
          refine lv_iload hx hb dX0_nearer_43 (lv_at hl 0 rfl) ?_
          refine lv_iload_n hx hb dX0_nearer_45 rfl (lv_at hl 4 rfl) ?_
          refine kc_SN (As := [.int (v4_24 ||| r37), .int a3]) (rest := []) ⟨hx, hb, hml, hown, hts⟩ (kX1_has l D cI cB (v4_24 ||| r37) a3 _ hv) ⟨va_cnB (host := "Roadgame") 2 hts gX0_nearer_X1_has_n39 rfl rfl rfl hN.2.2.2.1 (hts (.initialized RX1) (by decide +kernel)) (by decide +kernel) ⟨Nat.le_of_ble_eq_true rfl, Nat.le_of_ble_eq_true rfl⟩, hts (.static yX1_has) (by decide +kernel), trivial⟩ (hP.sub (ws' := []) [] rfl) hK hN rfl hl.1 rfl (Nat.le_of_ble_eq_true rfl) dX0_nearer_46 ⟨Nat.zero_le _, Nat.zero_le _⟩ (fun r46 hv => ?_)
          refine lv_if_eq (tgt := 55) hx hb dX0_nearer_49 (by decide) (fun hc => ?_) (fun hc => ?_)
          · have hv := hv.1 hc
            refine lv_iload hx hb dX0_nearer_55 (lv_at hl 0 rfl) ?_
            refine lv_istore (lv' := [(4, .int (v4_24 ||| r37)), (6, .int (v4_24 ||| r37)), (0, .ref h0), (1, .int a1), (2, .int a2), (3, .int a3), (5, .int v5_24)]) hx hb dX0_nearer_57 hl (by decide) rfl (fun ls hl => ?_)
            refine lv_iinc (v := (v5_24 + (1 : Int32))) (lv' := [(5, .int (v5_24 + (1 : Int32))), (4, .int (v4_24 ||| r37)), (6, .int (v4_24 ||| r37)), (0, .ref h0), (1, .int a1), (2, .int a2), (3, .int a3)]) hx hb dX0_nearer_59 hl (k := 6) rfl rfl (by decide) rfl (fun ls hl => ?_)
            refine lv_goto (tgt := 24) hx hb dX0_nearer_62 (by decide) ?_
            exact ih24 _ _ ls hv (lv_sub hl [3, 4, 5, 6, 1, 0] rfl)
          · have hv := hv.2 hc
            refine lv_iload hx hb dX0_nearer_52 (lv_at hl 5 rfl) ?_
            exact W.iret (v := v4_24) hx hb hr (kSi_ret rfl hv) (fun _ h => by cases h) dX0_nearer_54
    obtain ⟨n24, hv⟩ := hv
    refine L24 _ (fun v4_24x v5_24x ls hv hl => ?_) n24 _ _ _ hv (lv_sub hl [2, 3, 4, 5, 1, 0] rfl)
    refine lv_iconst (v := (0 : Int32)) hx hb dX0_nearer_65 (by decide) ?_
    exact W.iret (v := (0 : Int32)) hx hb hr (kSi_ret rfl hv) (fun _ h => by cases h) dX0_nearer_66
  · have hv := hv.2 hc
    refine lv_iconst (v := (0 : Int32)) hx hb dX0_nearer_19 (by decide) ?_
    exact W.iret (v := (0 : Int32)) hx hb hr (kSi_ret rfl hv) (fun _ h => by cases h) dX0_nearer_20
set_option maxHeartbeats 4000000 in
set_option maxRecDepth 100000 in
theorem kX0_wonAgain (l : Launch) (D : va_G) (cI cB : ClassId) (h0 : Nat) (h1 : Nat) (kf : Nat → Int32) (kz : Int32) (ks : Int32) (kg : Int32) (k0 : Int32) (k1 : Int32) (a1 : Int32) (post : Int32 → Prop) (hv : qX0_wonAgain kf kz ks kg a1 post) : Met l yX0_wonAgain wsX0_wonAgain ({ frames := 2, cells := 0, slots := 0, locals := 51 }) (va_Pc [.ref h0, .int a1] (kB D cI cB [(h0, .inr (2, [.ref h1, .int kz, .int ks, .int kg, .int k0, .int k1])), (h1, .inl (cI, 12, .inl kf))])) (vp_Si post) 0 0 (fun _ => False) := by
  refine Met.ofW (cc := cX0_wonAgain) (maxL := 5) (ret := (some .int)) (by decide) rfl ?_
  intro p e s m args below meth c s₁ B hml hv0
  obtain ⟨rfl, hP, hK, hN⟩ := hv0
  have hx := B.exec
  have hb := B.bytes
  have hr := B.returns
  have hts := atoms_spec (ws := wsX0_wonAgain) B.pre
  have hown : s.vm.findClass RX0 = some m.cls := findClass_of_methodNamed B.named
  have hlocks := B.notSynchronized
  have hi_X0 : ∀ w ∈ wsX00, w ∈ wsX0_wonAgain := by decide +kernel
  have hF22 := hts (.fieldLink RX0 22 "Roadgame$Chart" "goal" "I") (by decide +kernel)
  have hl := lv_entry ([.ref h0, .int a1]) (n := 5) (Nat.le_of_ble_eq_true rfl)
  rw [lg_entry_eq]
  generalize (lg_sl ([.ref h0, .int a1]) ++ List.replicate (5 - (lg_sl ([.ref h0, .int a1])).length) Slot.unset).toArray = ls at hl ⊢
  have hl : lv_has ls 5 [(0, .ref h0), (1, .int a1)] := hl
  refine lv_aload_n hx hb dX0_wonAgain_0 rfl (lv_at hl 0 rfl) ?_
  refine kc_V (As := []) (rest := []) ⟨hx, hb, hml, hown, hts⟩ (kX0_all l D cI cB h0 h1 kf kz ks kg k0 k1 _ hv) (cwV 0 hts gX0_wonAgain_X0_all rfl rfl rfl (by decide +kernel) ⟨Nat.le_of_ble_eq_true rfl, Nat.le_of_ble_eq_true rfl⟩) hP hK hN 2 rfl rfl rfl rfl hl.1 rfl (Nat.le_of_ble_eq_true rfl) dX0_wonAgain_1 ⟨Nat.zero_le _, Nat.zero_le _⟩ (fun r1 hv => ?_)
  refine lv_istore_n (lv' := [(2, .int r1), (0, .ref h0), (1, .int a1)]) hx hb dX0_wonAgain_4 rfl hl (by decide) rfl (fun ls hl => ?_)
  refine lv_iconst (v := (0 : Int32)) hx hb dX0_wonAgain_5 (by decide) ?_
  refine lv_istore_n (lv' := [(3, .int (0 : Int32)), (2, .int r1), (0, .ref h0), (1, .int a1)]) hx hb dX0_wonAgain_6 rfl hl (by decide) rfl (fun ls hl => ?_)
  have L7 : ∀ (K7_49 : Int32 → Int32 → Prop), (∀ (v2_7 : Int32) (v3_7 : Int32) (ls : Array Slot), K7_49 v2_7 v3_7 → lv_has ls 5 [(0, .ref h0), (1, .int a1), (2, .int v2_7), (3, .int v3_7)] → W p l e (headSpec wsX0_wonAgain ({ frames := 2, cells := 0, slots := 0, locals := 51 })).room s m ([.ref h0, .int a1] : List Value).toArray below meth c s.heap [] 0 0 (MQ below (vp_Si post) ([.ref h0, .int a1] : List Value).toArray s 0 0 (fun _ => False)) (F0 m 49 ls [])) → ∀ (n7 : Nat) (v2_7 : Int32) (v3_7 : Int32) (ls : Array Slot), qX0_wonAgain_7 kf kz ks kg a1 K7_49 n7 v2_7 v3_7 → lv_has ls 5 [(0, .ref h0), (1, .int a1), (2, .int v2_7), (3, .int v3_7)] → W p l e (headSpec wsX0_wonAgain ({ frames := 2, cells := 0, slots := 0, locals := 51 })).room s m ([.ref h0, .int a1] : List Value).toArray below meth c s.heap [] 0 0 (MQ below (vp_Si post) ([.ref h0, .int a1] : List Value).toArray s 0 0 (fun _ => False)) (F0 m 7 ls []) := by
    intro K7_49 hk7_49
    intro n7
    induction n7 with
    | zero => intro v2_7 v3_7 ls hv hl; exact hv.elim
    | succ n7 ih7 =>
      intro v2_7 v3_7 ls hv hl
      refine lv_iload_n hx hb dX0_wonAgain_7 rfl (lv_at hl 3 rfl) ?_
      refine lv_bipush (v := (12 : Int32)) hx hb dX0_wonAgain_8 (by decide) ?_
      refine lv_icmp_ge (tgt := 49) hx hb dX0_wonAgain_10 (by decide) (fun hc => ?_) (fun hc => ?_)
      · have hv := hv.1 hc
        exact hk7_49 _ _ ls hv (lv_sub hl [0, 1, 2, 3] rfl)
      · have hv := hv.2 hc
        refine lv_aload_n hx hb dX0_wonAgain_13 rfl (lv_at hl 0 rfl) ?_
        refine lv_aload_n hx hb dX0_wonAgain_14 rfl (lv_at hl 0 rfl) ?_
        refine va_get (D := D) (ci := 2) (v := .int kg) (C := RX0) (T := TX0) (N := 6) hx hb hts hi_X0 hown hK hP 0 rfl rfl 3 (by decide) hF22 (fun _ h9 => h9) rfl dX0_wonAgain_15 ?_
        refine lv_aload_n hx hb dX0_wonAgain_18 rfl (lv_at hl 0 rfl) ?_
        refine lv_iload_n hx hb dX0_wonAgain_19 rfl (lv_at hl 2 rfl) ?_
        refine lv_iload_n hx hb dX0_wonAgain_20 rfl (lv_at hl 1 rfl) ?_
        refine kc_V (As := [.int v2_7, .int a1]) (rest := [.int kg, .ref h0]) ⟨hx, hb, hml, hown, hts⟩ (kX0_seenBefore l D cI cB h0 h1 kf kz ks kg k0 k1 v2_7 a1 _ hv) (cwV 2 hts gX0_wonAgain_X0_seenBefore rfl rfl rfl (by decide +kernel) ⟨Nat.le_of_ble_eq_true rfl, Nat.le_of_ble_eq_true rfl⟩) hP hK hN 2 rfl rfl rfl rfl hl.1 rfl (Nat.le_of_ble_eq_true rfl) dX0_wonAgain_21 ⟨Nat.zero_le _, Nat.zero_le _⟩ (fun r21 hv => ?_)
        refine lv_iand hx hb dX0_wonAgain_24 ?_
        refine lv_iload_n hx hb dX0_wonAgain_25 rfl (lv_at hl 1 rfl) ?_
        refine kc_V (As := [.int (kg &&& r21), .int a1]) (rest := []) ⟨hx, hb, hml, hown, hts⟩ (kX0_reaching l D cI cB h0 h1 kf kz ks kg k0 k1 (kg &&& r21) a1 _ hv) (cwV 2 hts gX0_wonAgain_X0_reaching rfl rfl rfl (by decide +kernel) ⟨Nat.le_of_ble_eq_true rfl, Nat.le_of_ble_eq_true rfl⟩) hP hK hN 2 rfl rfl rfl rfl hl.1 rfl (Nat.le_of_ble_eq_true rfl) dX0_wonAgain_26 ⟨Nat.zero_le _, Nat.zero_le _⟩ (fun r26 hv => ?_)
        refine lv_istore (lv' := [(4, .int r26), (0, .ref h0), (1, .int a1), (2, .int v2_7), (3, .int v3_7)]) hx hb dX0_wonAgain_29 hl (by decide) rfl (fun ls hl => ?_)
        refine lv_iload hx hb dX0_wonAgain_31 (lv_at hl 0 rfl) ?_
        refine lv_iload_n hx hb dX0_wonAgain_33 rfl (lv_at hl 3 rfl) ?_
        refine lv_icmp_ne (tgt := 40) hx hb dX0_wonAgain_34 (by decide) (fun hc => ?_) (fun hc => ?_)
        · have hv := hv.1 hc
          refine lv_iload hx hb dX0_wonAgain_40 (lv_at hl 0 rfl) ?_
          refine lv_istore_n (lv' := [(2, .int r26), (4, .int r26), (0, .ref h0), (1, .int a1), (3, .int v3_7)]) hx hb dX0_wonAgain_42 rfl hl (by decide) rfl (fun ls hl => ?_)
          refine lv_iinc (v := (v3_7 + (1 : Int32))) (lv' := [(3, .int (v3_7 + (1 : Int32))), (2, .int r26), (4, .int r26), (0, .ref h0), (1, .int a1)]) hx hb dX0_wonAgain_43 hl (k := 4) rfl rfl (by decide) rfl (fun ls hl => ?_)
          refine lv_goto (tgt := 7) hx hb dX0_wonAgain_46 (by decide) ?_
          exact ih7 _ _ ls hv (lv_sub hl [3, 4, 1, 0] rfl)
        · have hv := hv.2 hc
          refine lv_goto (tgt := 49) hx hb dX0_wonAgain_37 (by decide) ?_
          exact hk7_49 _ _ ls hv (lv_sub hl [1, 2, 3, 4] rfl)
  obtain ⟨n7, hv⟩ := hv
  refine L7 _ (fun v2_7x v3_7x ls hv hl => ?_) n7 _ _ _ hv (lv_sub hl [2, 3, 1, 0] rfl)
  refine lv_iload_n hx hb dX0_wonAgain_49 rfl (lv_at hl 2 rfl) ?_
  exact W.iret (v := v2_7x) hx hb hr (kSi_ret rfl hv) (fun _ h => by cases h) dX0_wonAgain_50
set_option maxHeartbeats 4000000 in
set_option maxRecDepth 100000 in
theorem kX0_holdingRankTwo (l : Launch) (D : va_G) (cI cB : ClassId) (h0 : Nat) (h1 : Nat) (kf : Nat → Int32) (kz : Int32) (ks : Int32) (kg : Int32) (k0 : Int32) (k1 : Int32) (a1 : Int32) (post : Int32 → Prop) (hv : qX0_holdingRankTwo kf kz ks k0 k1 a1 post) : Met l yX0_holdingRankTwo wsX0_holdingRankTwo ({ frames := 1, cells := 0, slots := 0, locals := 26 }) (va_Pc [.ref h0, .int a1] (kB D cI cB [(h0, .inr (2, [.ref h1, .int kz, .int ks, .int kg, .int k0, .int k1])), (h1, .inl (cI, 12, .inl kf))])) (vp_Si post) 0 0 (fun _ => False) := by
  refine Met.ofW (cc := cX0_holdingRankTwo) (maxL := 6) (ret := (some .int)) (by decide) rfl ?_
  intro p e s m args below meth c s₁ B hml hv0
  obtain ⟨rfl, hP, hK, hN⟩ := hv0
  have hx := B.exec
  have hb := B.bytes
  have hr := B.returns
  have hts := atoms_spec (ws := wsX0_holdingRankTwo) B.pre
  have hown : s.vm.findClass RX0 = some m.cls := findClass_of_methodNamed B.named
  have hlocks := B.notSynchronized
  have hi_X0 : ∀ w ∈ wsX00, w ∈ wsX0_holdingRankTwo := by decide +kernel
  have hF25 := hts (.fieldLink RX0 25 "Roadgame$Chart" "rankZero" "I") (by decide +kernel)
  have hF28 := hts (.fieldLink RX0 28 "Roadgame$Chart" "rankOne" "I") (by decide +kernel)
  have hl := lv_entry ([.ref h0, .int a1]) (n := 6) (Nat.le_of_ble_eq_true rfl)
  rw [lg_entry_eq]
  generalize (lg_sl ([.ref h0, .int a1]) ++ List.replicate (6 - (lg_sl ([.ref h0, .int a1])).length) Slot.unset).toArray = ls at hl ⊢
  have hl : lv_has ls 6 [(0, .ref h0), (1, .int a1)] := hl
  refine lv_aload_n hx hb dX0_holdingRankTwo_0 rfl (lv_at hl 0 rfl) ?_
  refine kc_V (As := []) (rest := []) ⟨hx, hb, hml, hown, hts⟩ (kX0_all l D cI cB h0 h1 kf kz ks kg k0 k1 _ hv) (cwV 0 hts gX0_holdingRankTwo_X0_all rfl rfl rfl (by decide +kernel) ⟨Nat.le_of_ble_eq_true rfl, Nat.le_of_ble_eq_true rfl⟩) hP hK hN 2 rfl rfl rfl rfl hl.1 rfl (Nat.le_of_ble_eq_true rfl) dX0_holdingRankTwo_1 ⟨Nat.zero_le _, Nat.zero_le _⟩ (fun r1 hv => ?_)
  refine lv_aload_n hx hb dX0_holdingRankTwo_4 rfl (lv_at hl 0 rfl) ?_
  refine va_get (D := D) (ci := 2) (v := .int k0) (C := RX0) (T := TX0) (N := 6) hx hb hts hi_X0 hown hK hP 0 rfl rfl 4 (by decide) hF25 (fun _ h9 => h9) rfl dX0_holdingRankTwo_5 ?_
  refine lv_aload_n hx hb dX0_holdingRankTwo_8 rfl (lv_at hl 0 rfl) ?_
  refine va_get (D := D) (ci := 2) (v := .int k1) (C := RX0) (T := TX0) (N := 6) hx hb hts hi_X0 hown hK hP 0 rfl rfl 5 (by decide) hF28 (fun _ h9 => h9) rfl dX0_holdingRankTwo_9 ?_
  refine lv_ior hx hb dX0_holdingRankTwo_12 ?_
  refine lv_iconst (v := (-1 : Int32)) hx hb dX0_holdingRankTwo_13 (by decide) ?_
  refine lv_ixor hx hb dX0_holdingRankTwo_14 ?_
  refine lv_iand hx hb dX0_holdingRankTwo_15 ?_
  refine lv_istore_n (lv' := [(2, .int (r1 &&& ((k0 ||| k1) ^^^ (-1 : Int32)))), (0, .ref h0), (1, .int a1)]) hx hb dX0_holdingRankTwo_16 rfl hl (by decide) rfl (fun ls hl => ?_)
  refine lv_aload_n hx hb dX0_holdingRankTwo_17 rfl (lv_at hl 1 rfl) ?_
  refine kc_V (As := []) (rest := []) ⟨hx, hb, hml, hown, hts⟩ (kX0_all l D cI cB h0 h1 kf kz ks kg k0 k1 _ hv) (cwV 0 hts gX0_holdingRankTwo_X0_all rfl rfl rfl (by decide +kernel) ⟨Nat.le_of_ble_eq_true rfl, Nat.le_of_ble_eq_true rfl⟩) hP hK hN 2 rfl rfl rfl rfl hl.1 rfl (Nat.le_of_ble_eq_true rfl) dX0_holdingRankTwo_18 ⟨Nat.zero_le _, Nat.zero_le _⟩ (fun r18 hv => ?_)
  refine lv_istore_n (lv' := [(3, .int r18), (2, .int (r1 &&& ((k0 ||| k1) ^^^ (-1 : Int32)))), (0, .ref h0), (1, .int a1)]) hx hb dX0_holdingRankTwo_21 rfl hl (by decide) rfl (fun ls hl => ?_)
  refine lv_iconst (v := (0 : Int32)) hx hb dX0_holdingRankTwo_22 (by decide) ?_
  refine lv_istore (lv' := [(4, .int (0 : Int32)), (3, .int r18), (2, .int (r1 &&& ((k0 ||| k1) ^^^ (-1 : Int32)))), (0, .ref h0), (1, .int a1)]) hx hb dX0_holdingRankTwo_23 hl (by decide) rfl (fun ls hl => ?_)
  have L25 : ∀ (K25_62 : Int32 → Int32 → Int32 → Prop), (∀ (v2_25 : Int32) (v3_25 : Int32) (v4_25 : Int32) (ls : Array Slot), K25_62 v2_25 v3_25 v4_25 → lv_has ls 6 [(0, .ref h0), (1, .int a1), (2, .int v2_25), (3, .int v3_25), (4, .int v4_25)] → W p l e (headSpec wsX0_holdingRankTwo ({ frames := 1, cells := 0, slots := 0, locals := 26 })).room s m ([.ref h0, .int a1] : List Value).toArray below meth c s.heap [] 0 0 (MQ below (vp_Si post) ([.ref h0, .int a1] : List Value).toArray s 0 0 (fun _ => False)) (F0 m 62 ls [])) → ∀ (n25 : Nat) (v2_25 : Int32) (v3_25 : Int32) (v4_25 : Int32) (ls : Array Slot), qX0_holdingRankTwo_25 kf kz ks a1 K25_62 n25 v2_25 v3_25 v4_25 → lv_has ls 6 [(0, .ref h0), (1, .int a1), (2, .int v2_25), (3, .int v3_25), (4, .int v4_25)] → W p l e (headSpec wsX0_holdingRankTwo ({ frames := 1, cells := 0, slots := 0, locals := 26 })).room s m ([.ref h0, .int a1] : List Value).toArray below meth c s.heap [] 0 0 (MQ below (vp_Si post) ([.ref h0, .int a1] : List Value).toArray s 0 0 (fun _ => False)) (F0 m 25 ls []) := by
    intro K25_62 hk25_62
    intro n25
    induction n25 with
    | zero => intro v2_25 v3_25 v4_25 ls hv hl; exact hv.elim
    | succ n25 ih25 =>
      intro v2_25 v3_25 v4_25 ls hv hl
      refine lv_iload hx hb dX0_holdingRankTwo_25 (lv_at hl 4 rfl) ?_
      refine lv_bipush (v := (12 : Int32)) hx hb dX0_holdingRankTwo_27 (by decide) ?_
      refine lv_icmp_ge (tgt := 62) hx hb dX0_holdingRankTwo_29 (by decide) (fun hc => ?_) (fun hc => ?_)
      · have hv := hv.1 hc
        exact hk25_62 _ _ _ ls hv (lv_sub hl [0, 1, 2, 3, 4] rfl)
      · have hv := hv.2 hc
        refine lv_iload_n hx hb dX0_holdingRankTwo_32 rfl (lv_at hl 1 rfl) ?_
        refine lv_iload_n hx hb dX0_holdingRankTwo_33 rfl (lv_at hl 2 rfl) ?_
        refine lv_aload_n hx hb dX0_holdingRankTwo_34 rfl (lv_at hl 0 rfl) ?_
        refine lv_iload_n hx hb dX0_holdingRankTwo_35 rfl (lv_at hl 3 rfl) ?_
        refine lv_iconst (v := (0 : Int32)) hx hb dX0_holdingRankTwo_36 (by decide) ?_
        refine kc_V (As := [.int v3_25, .int (0 : Int32)]) (rest := [.int v2_25, .int a1]) ⟨hx, hb, hml, hown, hts⟩ (kX0_seenBefore l D cI cB h0 h1 kf kz ks kg k0 k1 v3_25 (0 : Int32) _ hv) (cwV 2 hts gX0_holdingRankTwo_X0_seenBefore rfl rfl rfl (by decide +kernel) ⟨Nat.le_of_ble_eq_true rfl, Nat.le_of_ble_eq_true rfl⟩) hP hK hN 2 rfl rfl rfl rfl hl.1 rfl (Nat.le_of_ble_eq_true rfl) dX0_holdingRankTwo_37 ⟨Nat.zero_le _, Nat.zero_le _⟩ (fun r37 hv => ?_)
        refine lv_iand hx hb dX0_holdingRankTwo_40 ?_
        refine lv_ior hx hb dX0_holdingRankTwo_41 ?_
        refine lv_istore (lv' := [(5, .int (a1 ||| (v2_25 &&& r37))), (0, .ref h0), (1, .int a1), (2, .int v2_25), (3, .int v3_25), (4, .int v4_25)]) hx hb dX0_holdingRankTwo_42 hl (by decide) rfl (fun ls hl => ?_)
        refine lv_iload hx hb dX0_holdingRankTwo_44 (lv_at hl 0 rfl) ?_
        refine lv_iload_n hx hb dX0_holdingRankTwo_46 rfl (lv_at hl 4 rfl) ?_
        refine lv_icmp_ne (tgt := 53) hx hb dX0_holdingRankTwo_47 (by decide) (fun hc => ?_) (fun hc => ?_)
        · have hv := hv.1 hc
          refine lv_iload hx hb dX0_holdingRankTwo_53 (lv_at hl 0 rfl) ?_
          refine lv_istore_n (lv' := [(3, .int (a1 ||| (v2_25 &&& r37))), (5, .int (a1 ||| (v2_25 &&& r37))), (0, .ref h0), (1, .int a1), (2, .int v2_25), (4, .int v4_25)]) hx hb dX0_holdingRankTwo_55 rfl hl (by decide) rfl (fun ls hl => ?_)
          refine lv_iinc (v := (v4_25 + (1 : Int32))) (lv' := [(4, .int (v4_25 + (1 : Int32))), (3, .int (a1 ||| (v2_25 &&& r37))), (5, .int (a1 ||| (v2_25 &&& r37))), (0, .ref h0), (1, .int a1), (2, .int v2_25)]) hx hb dX0_holdingRankTwo_56 hl (k := 5) rfl rfl (by decide) rfl (fun ls hl => ?_)
          refine lv_goto (tgt := 25) hx hb dX0_holdingRankTwo_59 (by decide) ?_
          exact ih25 _ _ _ ls hv (lv_sub hl [3, 4, 5, 1, 0] rfl)
        · have hv := hv.2 hc
          refine lv_goto (tgt := 62) hx hb dX0_holdingRankTwo_50 (by decide) ?_
          exact hk25_62 _ _ _ ls hv (lv_sub hl [1, 2, 3, 4, 5] rfl)
  obtain ⟨n25, hv⟩ := hv
  refine L25 _ (fun v2_25x v3_25x v4_25x ls hv hl => ?_) n25 _ _ _ _ hv (lv_sub hl [3, 4, 2, 1, 0] rfl)
  refine lv_iload_n hx hb dX0_holdingRankTwo_62 rfl (lv_at hl 3 rfl) ?_
  exact W.iret (v := v3_25x) hx hb hr (kSi_ret rfl hv) (fun _ h => by cases h) dX0_holdingRankTwo_63
set_option maxHeartbeats 4000000 in
set_option maxRecDepth 100000 in
theorem kX0_wonRankedByZero (l : Launch) (D : va_G) (cI cB : ClassId) (h0 : Nat) (h1 : Nat) (kf : Nat → Int32) (kz : Int32) (ks : Int32) (kg : Int32) (k0 : Int32) (k1 : Int32)  (post : Int32 → Prop) (hv : qX0_wonRankedByZero kf kz ks k0 k1 post) : Met l yX0_wonRankedByZero wsX0_wonRankedByZero ({ frames := 2, cells := 0, slots := 0, locals := 51 }) (va_Pc [.ref h0] (kB D cI cB [(h0, .inr (2, [.ref h1, .int kz, .int ks, .int kg, .int k0, .int k1])), (h1, .inl (cI, 12, .inl kf))])) (vp_Si post) 0 0 (fun _ => False) := by
  refine Met.ofW (cc := cX0_wonRankedByZero) (maxL := 7) (ret := (some .int)) (by decide) rfl ?_
  intro p e s m args below meth c s₁ B hml hv0
  obtain ⟨rfl, hP, hK, hN⟩ := hv0
  have hx := B.exec
  have hb := B.bytes
  have hr := B.returns
  have hts := atoms_spec (ws := wsX0_wonRankedByZero) B.pre
  have hown : s.vm.findClass RX0 = some m.cls := findClass_of_methodNamed B.named
  have hlocks := B.notSynchronized
  have hi_X0 : ∀ w ∈ wsX00, w ∈ wsX0_wonRankedByZero := by decide +kernel
  have hF25 := hts (.fieldLink RX0 25 "Roadgame$Chart" "rankZero" "I") (by decide +kernel)
  have hF28 := hts (.fieldLink RX0 28 "Roadgame$Chart" "rankOne" "I") (by decide +kernel)
  have hl := lv_entry ([.ref h0]) (n := 7) (Nat.le_of_ble_eq_true rfl)
  rw [lg_entry_eq]
  generalize (lg_sl ([.ref h0]) ++ List.replicate (7 - (lg_sl ([.ref h0])).length) Slot.unset).toArray = ls at hl ⊢
  have hl : lv_has ls 7 [(0, .ref h0)] := hl
  refine lv_aload_n hx hb dX0_wonRankedByZero_0 rfl (lv_at hl 0 rfl) ?_
  refine kc_V (As := []) (rest := []) ⟨hx, hb, hml, hown, hts⟩ (kX0_all l D cI cB h0 h1 kf kz ks kg k0 k1 _ hv) (cwV 0 hts gX0_wonRankedByZero_X0_all rfl rfl rfl (by decide +kernel) ⟨Nat.le_of_ble_eq_true rfl, Nat.le_of_ble_eq_true rfl⟩) hP hK hN 2 rfl rfl rfl rfl hl.1 rfl (Nat.le_of_ble_eq_true rfl) dX0_wonRankedByZero_1 ⟨Nat.zero_le _, Nat.zero_le _⟩ (fun r1 hv => ?_)
  refine lv_istore_n (lv' := [(1, .int r1), (0, .ref h0)]) hx hb dX0_wonRankedByZero_4 rfl hl (by decide) rfl (fun ls hl => ?_)
  refine lv_iconst (v := (0 : Int32)) hx hb dX0_wonRankedByZero_5 (by decide) ?_
  refine lv_istore_n (lv' := [(2, .int (0 : Int32)), (1, .int r1), (0, .ref h0)]) hx hb dX0_wonRankedByZero_6 rfl hl (by decide) rfl (fun ls hl => ?_)
  have L7 : ∀ (K7_96 : Int32 → Int32 → Prop), (∀ (v1_7 : Int32) (v2_7 : Int32) (ls : Array Slot), K7_96 v1_7 v2_7 → lv_has ls 7 [(0, .ref h0), (1, .int v1_7), (2, .int v2_7)] → W p l e (headSpec wsX0_wonRankedByZero ({ frames := 2, cells := 0, slots := 0, locals := 51 })).room s m ([.ref h0] : List Value).toArray below meth c s.heap [] 0 0 (MQ below (vp_Si post) ([.ref h0] : List Value).toArray s 0 0 (fun _ => False)) (F0 m 96 ls [])) → ∀ (n7 : Nat) (v1_7 : Int32) (v2_7 : Int32) (ls : Array Slot), qX0_wonRankedByZero_7 kf kz ks k0 k1 K7_96 n7 v1_7 v2_7 → lv_has ls 7 [(0, .ref h0), (1, .int v1_7), (2, .int v2_7)] → W p l e (headSpec wsX0_wonRankedByZero ({ frames := 2, cells := 0, slots := 0, locals := 51 })).room s m ([.ref h0] : List Value).toArray below meth c s.heap [] 0 0 (MQ below (vp_Si post) ([.ref h0] : List Value).toArray s 0 0 (fun _ => False)) (F0 m 7 ls []) := by
    intro K7_96 hk7_96
    intro n7
    induction n7 with
    | zero => intro v1_7 v2_7 ls hv hl; exact hv.elim
    | succ n7 ih7 =>
      intro v1_7 v2_7 ls hv hl
      refine lv_iload_n hx hb dX0_wonRankedByZero_7 rfl (lv_at hl 2 rfl) ?_
      refine lv_bipush (v := (12 : Int32)) hx hb dX0_wonRankedByZero_8 (by decide) ?_
      refine lv_icmp_ge (tgt := 96) hx hb dX0_wonRankedByZero_10 (by decide) (fun hc => ?_) (fun hc => ?_)
      · have hv := hv.1 hc
        exact hk7_96 _ _ ls hv (lv_sub hl [0, 1, 2] rfl)
      · have hv := hv.2 hc
        refine lv_aload_n hx hb dX0_wonRankedByZero_13 rfl (lv_at hl 0 rfl) ?_
        refine va_get (D := D) (ci := 2) (v := .int k0) (C := RX0) (T := TX0) (N := 6) hx hb hts hi_X0 hown hK hP 0 rfl rfl 4 (by decide) hF25 (fun _ h9 => h9) rfl dX0_wonRankedByZero_14 ?_
        refine lv_aload_n hx hb dX0_wonRankedByZero_17 rfl (lv_at hl 0 rfl) ?_
        refine lv_iload_n hx hb dX0_wonRankedByZero_18 rfl (lv_at hl 1 rfl) ?_
        refine lv_iconst (v := (0 : Int32)) hx hb dX0_wonRankedByZero_19 (by decide) ?_
        refine kc_V (As := [.int v1_7, .int (0 : Int32)]) (rest := [.int k0]) ⟨hx, hb, hml, hown, hts⟩ (kX0_seenBefore l D cI cB h0 h1 kf kz ks kg k0 k1 v1_7 (0 : Int32) _ hv) (cwV 2 hts gX0_wonRankedByZero_X0_seenBefore rfl rfl rfl (by decide +kernel) ⟨Nat.le_of_ble_eq_true rfl, Nat.le_of_ble_eq_true rfl⟩) hP hK hN 2 rfl rfl rfl rfl hl.1 rfl (Nat.le_of_ble_eq_true rfl) dX0_wonRankedByZero_20 ⟨Nat.zero_le _, Nat.zero_le _⟩ (fun r20 hv => ?_)
        refine lv_iand hx hb dX0_wonRankedByZero_23 ?_
        refine lv_istore_n (lv' := [(3, .int (k0 &&& r20)), (0, .ref h0), (1, .int v1_7), (2, .int v2_7)]) hx hb dX0_wonRankedByZero_24 rfl hl (by decide) rfl (fun ls hl => ?_)
        refine lv_iconst (v := (0 : Int32)) hx hb dX0_wonRankedByZero_25 (by decide) ?_
        refine lv_istore (lv' := [(4, .int (0 : Int32)), (3, .int (k0 &&& r20)), (0, .ref h0), (1, .int v1_7), (2, .int v2_7)]) hx hb dX0_wonRankedByZero_26 hl (by decide) rfl (fun ls hl => ?_)
        refine lv_iconst (v := (0 : Int32)) hx hb dX0_wonRankedByZero_28 (by decide) ?_
        refine lv_istore (lv' := [(5, .int (0 : Int32)), (4, .int (0 : Int32)), (3, .int (k0 &&& r20)), (0, .ref h0), (1, .int v1_7), (2, .int v2_7)]) hx hb dX0_wonRankedByZero_29 hl (by decide) rfl (fun ls hl => ?_)
        have L31 : ∀ (K31_78 : Int32 → Int32 → Int32 → Prop), (∀ (v3_31 : Int32) (v4_31 : Int32) (v5_31 : Int32) (ls : Array Slot), K31_78 v3_31 v4_31 v5_31 → lv_has ls 7 [(0, .ref h0), (1, .int v1_7), (2, .int v2_7), (3, .int v3_31), (4, .int v4_31), (5, .int v5_31)] → W p l e (headSpec wsX0_wonRankedByZero ({ frames := 2, cells := 0, slots := 0, locals := 51 })).room s m ([.ref h0] : List Value).toArray below meth c s.heap [] 0 0 (MQ below (vp_Si post) ([.ref h0] : List Value).toArray s 0 0 (fun _ => False)) (F0 m 78 ls [])) → ∀ (n31 : Nat) (v3_31 : Int32) (v4_31 : Int32) (v5_31 : Int32) (ls : Array Slot), qX0_wonRankedByZero_31 kf kz ks k0 k1 K31_78 n31 v3_31 v4_31 v5_31 → lv_has ls 7 [(0, .ref h0), (1, .int v1_7), (2, .int v2_7), (3, .int v3_31), (4, .int v4_31), (5, .int v5_31)] → W p l e (headSpec wsX0_wonRankedByZero ({ frames := 2, cells := 0, slots := 0, locals := 51 })).room s m ([.ref h0] : List Value).toArray below meth c s.heap [] 0 0 (MQ below (vp_Si post) ([.ref h0] : List Value).toArray s 0 0 (fun _ => False)) (F0 m 31 ls []) := by
          intro K31_78 hk31_78
          intro n31
          induction n31 with
          | zero => intro v3_31 v4_31 v5_31 ls hv hl; exact hv.elim
          | succ n31 ih31 =>
            intro v3_31 v4_31 v5_31 ls hv hl
            refine lv_iload hx hb dX0_wonRankedByZero_31 (lv_at hl 5 rfl) ?_
            refine lv_bipush (v := (12 : Int32)) hx hb dX0_wonRankedByZero_33 (by decide) ?_
            refine lv_icmp_ge (tgt := 78) hx hb dX0_wonRankedByZero_35 (by decide) (fun hc => ?_) (fun hc => ?_)
            · have hv := hv.1 hc
              exact hk31_78 _ _ _ ls hv (lv_sub hl [0, 1, 2, 3, 4, 5] rfl)
            · have hv := hv.2 hc
              refine lv_aload_n hx hb dX0_wonRankedByZero_38 rfl (lv_at hl 0 rfl) ?_
              refine lv_iload_n hx hb dX0_wonRankedByZero_39 rfl (lv_at hl 3 rfl) ?_
              refine lv_aload_n hx hb dX0_wonRankedByZero_40 rfl (lv_at hl 0 rfl) ?_
              refine va_get (D := D) (ci := 2) (v := .int k1) (C := RX0) (T := TX0) (N := 6) hx hb hts hi_X0 hown hK hP 0 rfl rfl 5 (by decide) hF28 (fun _ h9 => h9) rfl dX0_wonRankedByZero_41 ?_
              refine lv_aload_n hx hb dX0_wonRankedByZero_44 rfl (lv_at hl 0 rfl) ?_
              refine lv_iload hx hb dX0_wonRankedByZero_45 (lv_at hl 4 rfl) ?_
              refine lv_iconst (v := (0 : Int32)) hx hb dX0_wonRankedByZero_47 (by decide) ?_
              refine kc_V (As := [.int v4_31, .int (0 : Int32)]) (rest := [.int k1, .int v3_31, .ref h0]) ⟨hx, hb, hml, hown, hts⟩ (kX0_seenBefore l D cI cB h0 h1 kf kz ks kg k0 k1 v4_31 (0 : Int32) _ hv) (cwV 2 hts gX0_wonRankedByZero_X0_seenBefore rfl rfl rfl (by decide +kernel) ⟨Nat.le_of_ble_eq_true rfl, Nat.le_of_ble_eq_true rfl⟩) hP hK hN 2 rfl rfl rfl rfl hl.1 rfl (Nat.le_of_ble_eq_true rfl) dX0_wonRankedByZero_48 ⟨Nat.zero_le _, Nat.zero_le _⟩ (fun r48 hv => ?_)
              refine lv_iand hx hb dX0_wonRankedByZero_51 ?_
              refine lv_ior hx hb dX0_wonRankedByZero_52 ?_
              refine kc_V (As := [.int (v3_31 ||| (k1 &&& r48))]) (rest := []) ⟨hx, hb, hml, hown, hts⟩ (kX0_holdingRankTwo l D cI cB h0 h1 kf kz ks kg k0 k1 (v3_31 ||| (k1 &&& r48)) _ hv) (cwV 1 hts gX0_wonRankedByZero_X0_holdingRankTwo rfl rfl rfl (by decide +kernel) ⟨Nat.le_of_ble_eq_true rfl, Nat.le_of_ble_eq_true rfl⟩) hP hK hN 2 rfl rfl rfl rfl hl.1 rfl (Nat.le_of_ble_eq_true rfl) dX0_wonRankedByZero_53 ⟨Nat.zero_le _, Nat.zero_le _⟩ (fun r53 hv => ?_)
              refine lv_istore (lv' := [(6, .int r53), (0, .ref h0), (1, .int v1_7), (2, .int v2_7), (3, .int v3_31), (4, .int v4_31), (5, .int v5_31)]) hx hb dX0_wonRankedByZero_56 hl (by decide) rfl (fun ls hl => ?_)
              refine lv_iload hx hb dX0_wonRankedByZero_58 (lv_at hl 0 rfl) ?_
              refine lv_iload hx hb dX0_wonRankedByZero_60 (lv_at hl 5 rfl) ?_
              refine lv_icmp_ne (tgt := 68) hx hb dX0_wonRankedByZero_62 (by decide) (fun hc => ?_) (fun hc => ?_)
              · have hv := hv.1 hc
                refine lv_iload hx hb dX0_wonRankedByZero_68 (lv_at hl 0 rfl) ?_
                refine lv_istore (lv' := [(4, .int r53), (6, .int r53), (0, .ref h0), (1, .int v1_7), (2, .int v2_7), (3, .int v3_31), (5, .int v5_31)]) hx hb dX0_wonRankedByZero_70 hl (by decide) rfl (fun ls hl => ?_)
                refine lv_iinc (v := (v5_31 + (1 : Int32))) (lv' := [(5, .int (v5_31 + (1 : Int32))), (4, .int r53), (6, .int r53), (0, .ref h0), (1, .int v1_7), (2, .int v2_7), (3, .int v3_31)]) hx hb dX0_wonRankedByZero_72 hl (k := 6) rfl rfl (by decide) rfl (fun ls hl => ?_)
                refine lv_goto (tgt := 31) hx hb dX0_wonRankedByZero_75 (by decide) ?_
                exact ih31 _ _ _ ls hv (lv_sub hl [3, 4, 5, 6, 1, 0] rfl)
              · have hv := hv.2 hc
                refine lv_goto (tgt := 78) hx hb dX0_wonRankedByZero_65 (by decide) ?_
                exact hk31_78 _ _ _ ls hv (lv_sub hl [1, 2, 3, 4, 5, 6] rfl)
        obtain ⟨n31, hv⟩ := hv
        refine L31 _ (fun v3_31x v4_31x v5_31x ls hv hl => ?_) n31 _ _ _ _ hv (lv_sub hl [3, 4, 5, 2, 1, 0] rfl)
        refine lv_iload hx hb dX0_wonRankedByZero_78 (lv_at hl 4 rfl) ?_
        refine lv_iload_n hx hb dX0_wonRankedByZero_80 rfl (lv_at hl 1 rfl) ?_
        refine lv_icmp_ne (tgt := 87) hx hb dX0_wonRankedByZero_81 (by decide) (fun hc => ?_) (fun hc => ?_)
        · have hv := hv.1 hc
          refine lv_iload hx hb dX0_wonRankedByZero_87 (lv_at hl 4 rfl) ?_
          refine lv_istore_n (lv' := [(1, .int v4_31x), (0, .ref h0), (2, .int v2_7), (3, .int v3_31x), (4, .int v4_31x), (5, .int v5_31x)]) hx hb dX0_wonRankedByZero_89 rfl hl (by decide) rfl (fun ls hl => ?_)
          refine lv_iinc (v := (v2_7 + (1 : Int32))) (lv' := [(2, .int (v2_7 + (1 : Int32))), (1, .int v4_31x), (0, .ref h0), (3, .int v3_31x), (4, .int v4_31x), (5, .int v5_31x)]) hx hb dX0_wonRankedByZero_90 hl (k := 2) rfl rfl (by decide) rfl (fun ls hl => ?_)
          refine lv_goto (tgt := 7) hx hb dX0_wonRankedByZero_93 (by decide) ?_
          exact ih7 _ _ ls hv (lv_sub hl [2, 1, 0] rfl)
        · have hv := hv.2 hc
          refine lv_goto (tgt := 96) hx hb dX0_wonRankedByZero_84 (by decide) ?_
          exact hk7_96 _ _ ls hv (lv_sub hl [0, 1, 2] rfl)
  obtain ⟨n7, hv⟩ := hv
  refine L7 _ (fun v1_7x v2_7x ls hv hl => ?_) n7 _ _ _ hv (lv_sub hl [2, 1, 0] rfl)
  refine lv_iload_n hx hb dX0_wonRankedByZero_96 rfl (lv_at hl 1 rfl) ?_
  exact W.iret (v := v1_7x) hx hb hr (kSi_ret rfl hv) (fun _ h => by cases h) dX0_wonRankedByZero_97
set_option maxHeartbeats 4000000 in
set_option maxRecDepth 100000 in
theorem kX0_won (l : Launch) (D : va_G) (cI cB : ClassId) (h0 : Nat) (h1 : Nat) (kf : Nat → Int32) (kz : Int32) (ks : Int32) (kg : Int32) (k0 : Int32) (k1 : Int32) (a1 : Int32) (a2 : Int32) (post : Int32 → Prop) (hv : qX0_won kf kz ks kg k0 k1 a1 a2 post) : Met l yX0_won wsX0_won ({ frames := 3, cells := 0, slots := 0, locals := 77 }) (va_Pc [.ref h0, .int a1, .int a2] (kB D cI cB [(h0, .inr (2, [.ref h1, .int kz, .int ks, .int kg, .int k0, .int k1])), (h1, .inl (cI, 12, .inl kf))])) (vp_Si post) 0 0 (fun _ => False) := by
  refine Met.ofW (cc := cX0_won) (maxL := 3) (ret := (some .int)) (by decide) rfl ?_
  intro p e s m args below meth c s₁ B hml hv0
  obtain ⟨rfl, hP, hK, hN⟩ := hv0
  have hx := B.exec
  have hb := B.bytes
  have hr := B.returns
  have hts := atoms_spec (ws := wsX0_won) B.pre
  have hown : s.vm.findClass RX0 = some m.cls := findClass_of_methodNamed B.named
  have hlocks := B.notSynchronized
  have hi_X0 : ∀ w ∈ wsX00, w ∈ wsX0_won := by decide +kernel
  have hF22 := hts (.fieldLink RX0 22 "Roadgame$Chart" "goal" "I") (by decide +kernel)
  have hl := lv_entry ([.ref h0, .int a1, .int a2]) (n := 3) (Nat.le_of_ble_eq_true rfl)
  rw [lg_entry_eq]
  generalize (lg_sl ([.ref h0, .int a1, .int a2]) ++ List.replicate (3 - (lg_sl ([.ref h0, .int a1, .int a2])).length) Slot.unset).toArray = ls at hl ⊢
  have hl : lv_has ls 3 [(0, .ref h0), (1, .int a1), (2, .int a2)] := hl
  refine lv_iload_n hx hb dX0_won_0 rfl (lv_at hl 1 rfl) ?_
  by_cases hc0 : a1 = (0 : Int32)
  · have hv := hv.1 hc0
    refine lv_tableIn (off := 27) (tgt := 28) hx hb dX0_won_1 (by rw [hc0]; decide) (by rw [hc0]; decide) (by rw [hc0]; decide) (by decide) ?_
    refine lv_aload_n hx hb dX0_won_28 rfl (lv_at hl 0 rfl) ?_
    refine lv_aload_n hx hb dX0_won_29 rfl (lv_at hl 0 rfl) ?_
    refine va_get (D := D) (ci := 2) (v := .int kg) (C := RX0) (T := TX0) (N := 6) hx hb hts hi_X0 hown hK hP 0 rfl rfl 3 (by decide) hF22 (fun _ h9 => h9) rfl dX0_won_30 ?_
    refine lv_iload_n hx hb dX0_won_33 rfl (lv_at hl 2 rfl) ?_
    refine kc_V (As := [.int kg, .int a2]) (rest := []) ⟨hx, hb, hml, hown, hts⟩ (kX0_reaching l D cI cB h0 h1 kf kz ks kg k0 k1 kg a2 _ hv) (cwV 2 hts gX0_won_X0_reaching rfl rfl rfl (by decide +kernel) ⟨Nat.le_of_ble_eq_true rfl, Nat.le_of_ble_eq_true rfl⟩) hP hK hN 2 rfl rfl rfl rfl hl.1 rfl (Nat.le_of_ble_eq_true rfl) dX0_won_34 ⟨Nat.zero_le _, Nat.zero_le _⟩ (fun r34 hv => ?_)
    exact W.iret (v := r34) hx hb hr (kSi_ret rfl hv) (fun _ h => by cases h) dX0_won_37
  · have hv := hv.2 hc0
    by_cases hc1 : a1 = (1 : Int32)
    · have hv := hv.1 hc1
      refine lv_tableIn (off := 37) (tgt := 38) hx hb dX0_won_1 (by rw [hc1]; decide) (by rw [hc1]; decide) (by rw [hc1]; decide) (by decide) ?_
      refine lv_aload_n hx hb dX0_won_38 rfl (lv_at hl 0 rfl) ?_
      refine kc_V (As := []) (rest := []) ⟨hx, hb, hml, hown, hts⟩ (kX0_all l D cI cB h0 h1 kf kz ks kg k0 k1 _ hv) (cwV 0 hts gX0_won_X0_all rfl rfl rfl (by decide +kernel) ⟨Nat.le_of_ble_eq_true rfl, Nat.le_of_ble_eq_true rfl⟩) hP hK hN 2 rfl rfl rfl rfl hl.1 rfl (Nat.le_of_ble_eq_true rfl) dX0_won_39 ⟨Nat.zero_le _, Nat.zero_le _⟩ (fun r39 hv => ?_)
      refine lv_aload_n hx hb dX0_won_42 rfl (lv_at hl 0 rfl) ?_
      refine lv_aload_n hx hb dX0_won_43 rfl (lv_at hl 0 rfl) ?_
      refine va_get (D := D) (ci := 2) (v := .int kg) (C := RX0) (T := TX0) (N := 6) hx hb hts hi_X0 hown hK hP 0 rfl rfl 3 (by decide) hF22 (fun _ h9 => h9) rfl dX0_won_44 ?_
      refine lv_iconst (v := (1 : Int32)) hx hb dX0_won_47 (by decide) ?_
      refine lv_iload_n hx hb dX0_won_48 rfl (lv_at hl 2 rfl) ?_
      refine lv_isub hx hb dX0_won_49 ?_
      refine kc_V (As := [.int kg, .int ((1 : Int32) - a2)]) (rest := [.int r39]) ⟨hx, hb, hml, hown, hts⟩ (kX0_reaching l D cI cB h0 h1 kf kz ks kg k0 k1 kg ((1 : Int32) - a2) _ hv) (cwV 2 hts gX0_won_X0_reaching rfl rfl rfl (by decide +kernel) ⟨Nat.le_of_ble_eq_true rfl, Nat.le_of_ble_eq_true rfl⟩) hP hK hN 2 rfl rfl rfl rfl hl.1 rfl (Nat.le_of_ble_eq_true rfl) dX0_won_50 ⟨Nat.zero_le _, Nat.zero_le _⟩ (fun r50 hv => ?_)
      refine lv_iconst (v := (-1 : Int32)) hx hb dX0_won_53 (by decide) ?_
      refine lv_ixor hx hb dX0_won_54 ?_
      refine lv_iand hx hb dX0_won_55 ?_
      exact W.iret (v := (r39 &&& (r50 ^^^ (-1 : Int32)))) hx hb hr (kSi_ret rfl hv) (fun _ h => by cases h) dX0_won_56
    · have hv := hv.2 hc1
      by_cases hc2 : a1 = (2 : Int32)
      · have hv := hv.1 hc2
        refine lv_tableIn (off := 56) (tgt := 57) hx hb dX0_won_1 (by rw [hc2]; decide) (by rw [hc2]; decide) (by rw [hc2]; decide) (by decide) ?_
        refine lv_aload_n hx hb dX0_won_57 rfl (lv_at hl 0 rfl) ?_
        refine lv_iload_n hx hb dX0_won_58 rfl (lv_at hl 2 rfl) ?_
        refine kc_V (As := [.int a2]) (rest := []) ⟨hx, hb, hml, hown, hts⟩ (kX0_wonAgain l D cI cB h0 h1 kf kz ks kg k0 k1 a2 _ hv) (cwV 1 hts gX0_won_X0_wonAgain rfl rfl rfl (by decide +kernel) ⟨Nat.le_of_ble_eq_true rfl, Nat.le_of_ble_eq_true rfl⟩) hP hK hN 2 rfl rfl rfl rfl hl.1 rfl (Nat.le_of_ble_eq_true rfl) dX0_won_59 ⟨Nat.zero_le _, Nat.zero_le _⟩ (fun r59 hv => ?_)
        exact W.iret (v := r59) hx hb hr (kSi_ret rfl hv) (fun _ h => by cases h) dX0_won_62
      · have hv := hv.2 hc2
        refine lv_tableOut (tgt := 63) hx hb dX0_won_1 (by have g0 := lv_neT hc0 (a := 0) (by decide); have g1 := lv_neT hc1 (a := 1) (by decide); have g2 := lv_neT hc2 (a := 2) (by decide); omega) (by decide) ?_
        refine lv_iload_n hx hb dX0_won_63 rfl (lv_at hl 2 rfl) ?_
        refine lv_if_ne (tgt := 74) hx hb dX0_won_64 (by decide) (fun hc => ?_) (fun hc => ?_)
        · have hv := hv.1 hc
          refine lv_aload_n hx hb dX0_won_74 rfl (lv_at hl 0 rfl) ?_
          refine kc_V (As := []) (rest := []) ⟨hx, hb, hml, hown, hts⟩ (kX0_all l D cI cB h0 h1 kf kz ks kg k0 k1 _ hv) (cwV 0 hts gX0_won_X0_all rfl rfl rfl (by decide +kernel) ⟨Nat.le_of_ble_eq_true rfl, Nat.le_of_ble_eq_true rfl⟩) hP hK hN 2 rfl rfl rfl rfl hl.1 rfl (Nat.le_of_ble_eq_true rfl) dX0_won_75 ⟨Nat.zero_le _, Nat.zero_le _⟩ (fun r75 hv => ?_)
          refine lv_aload_n hx hb dX0_won_78 rfl (lv_at hl 0 rfl) ?_
          refine kc_V (As := []) (rest := [.int r75]) ⟨hx, hb, hml, hown, hts⟩ (kX0_wonRankedByZero l D cI cB h0 h1 kf kz ks kg k0 k1 _ hv) (cwV 0 hts gX0_won_X0_wonRankedByZero rfl rfl rfl (by decide +kernel) ⟨Nat.le_of_ble_eq_true rfl, Nat.le_of_ble_eq_true rfl⟩) hP hK hN 2 rfl rfl rfl rfl hl.1 rfl (Nat.le_of_ble_eq_true rfl) dX0_won_79 ⟨Nat.zero_le _, Nat.zero_le _⟩ (fun r79 hv => ?_)
          refine lv_iconst (v := (-1 : Int32)) hx hb dX0_won_82 (by decide) ?_
          refine lv_ixor hx hb dX0_won_83 ?_
          refine lv_iand hx hb dX0_won_84 ?_
          exact W.iret (v := (r75 &&& (r79 ^^^ (-1 : Int32)))) hx hb hr (kSi_ret rfl hv) (fun _ h => by cases h) dX0_won_85
        · have hv := hv.2 hc
          refine lv_aload_n hx hb dX0_won_67 rfl (lv_at hl 0 rfl) ?_
          refine kc_V (As := []) (rest := []) ⟨hx, hb, hml, hown, hts⟩ (kX0_wonRankedByZero l D cI cB h0 h1 kf kz ks kg k0 k1 _ hv) (cwV 0 hts gX0_won_X0_wonRankedByZero rfl rfl rfl (by decide +kernel) ⟨Nat.le_of_ble_eq_true rfl, Nat.le_of_ble_eq_true rfl⟩) hP hK hN 2 rfl rfl rfl rfl hl.1 rfl (Nat.le_of_ble_eq_true rfl) dX0_won_68 ⟨Nat.zero_le _, Nat.zero_le _⟩ (fun r68 hv => ?_)
          refine lv_goto (tgt := 85) hx hb dX0_won_71 (by decide) ?_
          exact W.iret (v := r68) hx hb hr (kSi_ret rfl hv) (fun _ h => by cases h) dX0_won_85
set_option maxHeartbeats 4000000 in
set_option maxRecDepth 100000 in
theorem kX0_pickWithin (l : Launch) (D : va_G) (cI cB : ClassId) (h0 : Nat) (h1 : Nat) (kf : Nat → Int32) (kz : Int32) (ks : Int32) (kg : Int32) (k0 : Int32) (k1 : Int32) (a1 : Int32) (a2 : Int32) (a3 : Int32) (a4 : Int32) (post : Int32 → Prop) (hv : qX0_pickWithin kf kz ks kg a1 a2 a3 a4 post) : Met l yX0_pickWithin wsX0_pickWithin ({ frames := 3, cells := 0, slots := 0, locals := 64 }) (va_Pc [.ref h0, .int a1, .int a2, .int a3, .int a4] (kB D cI cB [(h0, .inr (2, [.ref h1, .int kz, .int ks, .int kg, .int k0, .int k1])), (h1, .inl (cI, 12, .inl kf))])) (vp_Si post) 0 0 (fun _ => False) := by
  refine Met.ofW (cc := cX0_pickWithin) (maxL := 6) (ret := (some .int)) (by decide) rfl ?_
  intro p e s m args below meth c s₁ B hml hv0
  obtain ⟨rfl, hP, hK, hN⟩ := hv0
  have hx := B.exec
  have hb := B.bytes
  have hr := B.returns
  have hts := atoms_spec (ws := wsX0_pickWithin) B.pre
  have hown : s.vm.findClass RX0 = some m.cls := findClass_of_methodNamed B.named
  have hlocks := B.notSynchronized
  have hi_X0 : ∀ w ∈ wsX00, w ∈ wsX0_pickWithin := by decide +kernel
  have hF22 := hts (.fieldLink RX0 22 "Roadgame$Chart" "goal" "I") (by decide +kernel)
  have hl := lv_entry ([.ref h0, .int a1, .int a2, .int a3, .int a4]) (n := 6) (Nat.le_of_ble_eq_true rfl)
  rw [lg_entry_eq]
  generalize (lg_sl ([.ref h0, .int a1, .int a2, .int a3, .int a4]) ++ List.replicate (6 - (lg_sl ([.ref h0, .int a1, .int a2, .int a3, .int a4])).length) Slot.unset).toArray = ls at hl ⊢
  have hl : lv_has ls 6 [(0, .ref h0), (1, .int a1), (2, .int a2), (3, .int a3), (4, .int a4)] := hl
  refine lv_iload hx hb dX0_pickWithin_0 (lv_at hl 4 rfl) ?_
  refine lv_aload_n hx hb dX0_pickWithin_2 rfl (lv_at hl 0 rfl) ?_
  refine lv_iload_n hx hb dX0_pickWithin_3 rfl (lv_at hl 2 rfl) ?_
  refine kc_V (As := [.int a2]) (rest := [.int a4]) ⟨hx, hb, hml, hown, hts⟩ (kX0_placesOf l D cI cB h0 h1 kf kz ks kg k0 k1 a2 _ hv) (cwV 1 hts gX0_pickWithin_X0_placesOf rfl rfl rfl (by decide +kernel) ⟨Nat.le_of_ble_eq_true rfl, Nat.le_of_ble_eq_true rfl⟩) hP hK hN 2 rfl rfl rfl rfl hl.1 rfl (Nat.le_of_ble_eq_true rfl) dX0_pickWithin_4 ⟨Nat.zero_le _, Nat.zero_le _⟩ (fun r4 hv => ?_)
  refine lv_iand hx hb dX0_pickWithin_7 ?_
  refine lv_iload_n hx hb dX0_pickWithin_8 rfl (lv_at hl 3 rfl) ?_
  refine kc_SN (As := [.int (a4 &&& r4), .int a3]) (rest := []) ⟨hx, hb, hml, hown, hts⟩ (kX1_has l D cI cB (a4 &&& r4) a3 _ hv) ⟨va_cnB (host := "Roadgame") 2 hts gX0_pickWithin_X1_has_n39 rfl rfl rfl hN.2.2.2.1 (hts (.initialized RX1) (by decide +kernel)) (by decide +kernel) ⟨Nat.le_of_ble_eq_true rfl, Nat.le_of_ble_eq_true rfl⟩, hts (.static yX1_has) (by decide +kernel), trivial⟩ (hP.sub (ws' := []) [] rfl) hK hN rfl hl.1 rfl (Nat.le_of_ble_eq_true rfl) dX0_pickWithin_9 ⟨Nat.zero_le _, Nat.zero_le _⟩ (fun r9 hv => ?_)
  refine lv_if_ne (tgt := 17) hx hb dX0_pickWithin_12 (by decide) (fun hc => ?_) (fun hc => ?_)
  · have hv := hv.1 hc
    refine lv_aload_n hx hb dX0_pickWithin_17 rfl (lv_at hl 0 rfl) ?_
    refine lv_iload_n hx hb dX0_pickWithin_18 rfl (lv_at hl 3 rfl) ?_
    refine kc_V (As := [.int a3]) (rest := []) ⟨hx, hb, hml, hown, hts⟩ (kX0_waysFrom l D cI cB h0 h1 kf kz ks kg k0 k1 a3 _ hv) (cwV 1 hts gX0_pickWithin_X0_waysFrom rfl rfl rfl (by decide +kernel) ⟨Nat.le_of_ble_eq_true rfl, Nat.le_of_ble_eq_true rfl⟩) hP hK hN 2 rfl rfl rfl rfl hl.1 rfl (Nat.le_of_ble_eq_true rfl) dX0_pickWithin_19 ⟨Nat.zero_le _, Nat.zero_le _⟩ (fun r19 hv => ?_)
    refine lv_istore (lv' := [(5, .int r19), (0, .ref h0), (1, .int a1), (2, .int a2), (3, .int a3), (4, .int a4)]) hx hb dX0_pickWithin_22 hl (by decide) rfl (fun ls hl => ?_)
    refine lv_iload_n hx hb dX0_pickWithin_24 rfl (lv_at hl 2 rfl) ?_
    refine lv_iconst (v := (1 : Int32)) hx hb dX0_pickWithin_25 (by decide) ?_
    refine lv_icmp_eq (tgt := 45) hx hb dX0_pickWithin_26 (by decide) (fun hc => ?_) (fun hc => ?_)
    · have hv := hv.1 hc
      refine lv_iload hx hb dX0_pickWithin_45 (lv_at hl 0 rfl) ?_
      refine lv_iload hx hb dX0_pickWithin_47 (lv_at hl 5 rfl) ?_
      refine lv_iand hx hb dX0_pickWithin_49 ?_
      refine kc_SN (As := [.int (r19 &&& a4)]) (rest := []) ⟨hx, hb, hml, hown, hts⟩ (kX1_least l D cI cB (r19 &&& a4) _ hv) ⟨va_cnB (host := "Roadgame") 1 hts gX0_pickWithin_X1_least_n81 rfl rfl rfl hN.2.2.2.2 (hts (.initialized RX1) (by decide +kernel)) (by decide +kernel) ⟨Nat.le_of_ble_eq_true rfl, Nat.le_of_ble_eq_true rfl⟩, hts (.static yX1_least) (by decide +kernel), trivial⟩ (hP.sub (ws' := []) [] rfl) hK hN rfl hl.1 rfl (Nat.le_of_ble_eq_true rfl) dX0_pickWithin_50 ⟨Nat.zero_le _, Nat.zero_le _⟩ (fun r50 hv => ?_)
      exact W.iret (v := r50) hx hb hr (kSi_ret rfl hv) (fun _ h => by cases h) dX0_pickWithin_53
    · have hv := hv.2 hc
      refine lv_iload_n hx hb dX0_pickWithin_29 rfl (lv_at hl 2 rfl) ?_
      refine lv_iconst (v := (2 : Int32)) hx hb dX0_pickWithin_30 (by decide) ?_
      have J54 : ∀  (ls : Array Slot), qX0_pickWithin_j54 kf kz ks kg a2 a3 a4 r19 post → lv_has ls 6 [(0, .ref h0), (1, .int a1), (2, .int a2), (3, .int a3), (4, .int a4), (5, .int r19)] → W p l e (headSpec wsX0_pickWithin ({ frames := 3, cells := 0, slots := 0, locals := 64 })).room s m ([.ref h0, .int a1, .int a2, .int a3, .int a4] : List Value).toArray below meth c s.heap [] 0 0 (MQ below (vp_Si post) ([.ref h0, .int a1, .int a2, .int a3, .int a4] : List Value).toArray s 0 0 (fun _ => False)) (F0 m 54 ls []) := by
        intro  ls hv hl
        refine lv_iload hx hb dX0_pickWithin_54 (lv_at hl 5 rfl) ?_
        refine lv_aload_n hx hb dX0_pickWithin_56 rfl (lv_at hl 0 rfl) ?_
        refine lv_aload_n hx hb dX0_pickWithin_57 rfl (lv_at hl 0 rfl) ?_
        refine va_get (D := D) (ci := 2) (v := .int kg) (C := RX0) (T := TX0) (N := 6) hx hb hts hi_X0 hown hK hP 0 rfl rfl 3 (by decide) hF22 (fun _ h9 => h9) rfl dX0_pickWithin_58 ?_
        refine lv_iload hx hb dX0_pickWithin_61 (lv_at hl 4 rfl) ?_
        refine lv_iand hx hb dX0_pickWithin_63 ?_
        refine lv_iload_n hx hb dX0_pickWithin_64 rfl (lv_at hl 2 rfl) ?_
        refine lv_iload_n hx hb dX0_pickWithin_65 rfl (lv_at hl 3 rfl) ?_
        refine kc_V (As := [.int (kg &&& a4), .int a2, .int a3]) (rest := [.int r19]) ⟨hx, hb, hml, hown, hts⟩ (kX0_nearer l D cI cB h0 h1 kf kz ks kg k0 k1 (kg &&& a4) a2 a3 _ hv) (cwV 3 hts gX0_pickWithin_X0_nearer rfl rfl rfl (by decide +kernel) ⟨Nat.le_of_ble_eq_true rfl, Nat.le_of_ble_eq_true rfl⟩) hP hK hN 2 rfl rfl rfl rfl hl.1 rfl (Nat.le_of_ble_eq_true rfl) dX0_pickWithin_66 ⟨Nat.zero_le _, Nat.zero_le _⟩ (fun r66 hv => ?_)
        refine lv_iand hx hb dX0_pickWithin_69 ?_
        refine kc_SN (As := [.int (r19 &&& r66)]) (rest := []) ⟨hx, hb, hml, hown, hts⟩ (kX1_least l D cI cB (r19 &&& r66) _ hv) ⟨va_cnB (host := "Roadgame") 1 hts gX0_pickWithin_X1_least_n81 rfl rfl rfl hN.2.2.2.2 (hts (.initialized RX1) (by decide +kernel)) (by decide +kernel) ⟨Nat.le_of_ble_eq_true rfl, Nat.le_of_ble_eq_true rfl⟩, hts (.static yX1_least) (by decide +kernel), trivial⟩ (hP.sub (ws' := []) [] rfl) hK hN rfl hl.1 rfl (Nat.le_of_ble_eq_true rfl) dX0_pickWithin_70 ⟨Nat.zero_le _, Nat.zero_le _⟩ (fun r70 hv => ?_)
        exact W.iret (v := r70) hx hb hr (kSi_ret rfl hv) (fun _ h => by cases h) dX0_pickWithin_73
      refine lv_icmp_ne (tgt := 54) hx hb dX0_pickWithin_31 (by decide) (fun hc => ?_) (fun hc => ?_)
      · have hv := hv.1 hc
        exact J54  _ hv (lv_sub hl [1, 2, 3, 4, 5, 0] rfl)
      · have hv := hv.2 hc
        refine lv_aload_n hx hb dX0_pickWithin_34 rfl (lv_at hl 1 rfl) ?_
        refine va_get (D := D) (ci := 2) (v := .int kg) (C := RX0) (T := TX0) (N := 6) hx hb hts hi_X0 hown hK hP 0 rfl rfl 3 (by decide) hF22 (fun _ h9 => h9) rfl dX0_pickWithin_35 ?_
        refine lv_iload_n hx hb dX0_pickWithin_38 rfl (lv_at hl 4 rfl) ?_
        refine kc_SN (As := [.int kg, .int a3]) (rest := []) ⟨hx, hb, hml, hown, hts⟩ (kX1_has l D cI cB kg a3 _ hv) ⟨va_cnB (host := "Roadgame") 2 hts gX0_pickWithin_X1_has_n39 rfl rfl rfl hN.2.2.2.1 (hts (.initialized RX1) (by decide +kernel)) (by decide +kernel) ⟨Nat.le_of_ble_eq_true rfl, Nat.le_of_ble_eq_true rfl⟩, hts (.static yX1_has) (by decide +kernel), trivial⟩ (hP.sub (ws' := []) [] rfl) hK hN rfl hl.1 rfl (Nat.le_of_ble_eq_true rfl) dX0_pickWithin_39 ⟨Nat.zero_le _, Nat.zero_le _⟩ (fun r39 hv => ?_)
        refine lv_if_eq (tgt := 54) hx hb dX0_pickWithin_42 (by decide) (fun hc => ?_) (fun hc => ?_)
        · have hv := hv.1 hc
          exact J54  _ hv (lv_sub hl [1, 2, 3, 4, 5, 0] rfl)
        · have hv := hv.2 hc
          refine lv_iload hx hb dX0_pickWithin_45 (lv_at hl 0 rfl) ?_
          refine lv_iload hx hb dX0_pickWithin_47 (lv_at hl 5 rfl) ?_
          refine lv_iand hx hb dX0_pickWithin_49 ?_
          refine kc_SN (As := [.int (r19 &&& a4)]) (rest := []) ⟨hx, hb, hml, hown, hts⟩ (kX1_least l D cI cB (r19 &&& a4) _ hv) ⟨va_cnB (host := "Roadgame") 1 hts gX0_pickWithin_X1_least_n81 rfl rfl rfl hN.2.2.2.2 (hts (.initialized RX1) (by decide +kernel)) (by decide +kernel) ⟨Nat.le_of_ble_eq_true rfl, Nat.le_of_ble_eq_true rfl⟩, hts (.static yX1_least) (by decide +kernel), trivial⟩ (hP.sub (ws' := []) [] rfl) hK hN rfl hl.1 rfl (Nat.le_of_ble_eq_true rfl) dX0_pickWithin_50 ⟨Nat.zero_le _, Nat.zero_le _⟩ (fun r50 hv => ?_)
          exact W.iret (v := r50) hx hb hr (kSi_ret rfl hv) (fun _ h => by cases h) dX0_pickWithin_53
  · have hv := hv.2 hc
    refine lv_iconst (v := (-1 : Int32)) hx hb dX0_pickWithin_15 (by decide) ?_
    exact W.iret (v := (-1 : Int32)) hx hb hr (kSi_ret rfl hv) (fun _ h => by cases h) dX0_pickWithin_16
set_option maxHeartbeats 4000000 in
set_option maxRecDepth 100000 in
theorem kX0_pick (l : Launch) (D : va_G) (cI cB : ClassId) (h0 : Nat) (h1 : Nat) (kf : Nat → Int32) (kz : Int32) (ks : Int32) (kg : Int32) (k0 : Int32) (k1 : Int32) (a1 : Int32) (a2 : Int32) (a3 : Int32) (post : Int32 → Prop) (hv : qX0_pick kf kz ks kg k0 k1 a1 a2 a3 post) : Met l yX0_pick wsX0_pick ({ frames := 4, cells := 0, slots := 0, locals := 99 }) (va_Pc [.ref h0, .int a1, .int a2, .int a3] (kB D cI cB [(h0, .inr (2, [.ref h1, .int kz, .int ks, .int kg, .int k0, .int k1])), (h1, .inl (cI, 12, .inl kf))])) (vp_Si post) 0 0 (fun _ => False) := by
  refine Met.ofW (cc := cX0_pick) (maxL := 4) (ret := (some .int)) (by decide) rfl ?_
  intro p e s m args below meth c s₁ B hml hv0
  obtain ⟨rfl, hP, hK, hN⟩ := hv0
  have hx := B.exec
  have hb := B.bytes
  have hr := B.returns
  have hts := atoms_spec (ws := wsX0_pick) B.pre
  have hown : s.vm.findClass RX0 = some m.cls := findClass_of_methodNamed B.named
  have hlocks := B.notSynchronized
  have hl := lv_entry ([.ref h0, .int a1, .int a2, .int a3]) (n := 4) (Nat.le_of_ble_eq_true rfl)
  rw [lg_entry_eq]
  generalize (lg_sl ([.ref h0, .int a1, .int a2, .int a3]) ++ List.replicate (4 - (lg_sl ([.ref h0, .int a1, .int a2, .int a3])).length) Slot.unset).toArray = ls at hl ⊢
  have hl : lv_has ls 4 [(0, .ref h0), (1, .int a1), (2, .int a2), (3, .int a3)] := hl
  refine lv_aload_n hx hb dX0_pick_0 rfl (lv_at hl 0 rfl) ?_
  refine lv_iload_n hx hb dX0_pick_1 rfl (lv_at hl 1 rfl) ?_
  refine lv_iload_n hx hb dX0_pick_2 rfl (lv_at hl 2 rfl) ?_
  refine lv_iload_n hx hb dX0_pick_3 rfl (lv_at hl 3 rfl) ?_
  refine lv_aload_n hx hb dX0_pick_4 rfl (lv_at hl 0 rfl) ?_
  refine lv_iload_n hx hb dX0_pick_5 rfl (lv_at hl 1 rfl) ?_
  refine lv_iload_n hx hb dX0_pick_6 rfl (lv_at hl 2 rfl) ?_
  refine kc_V (As := [.int a1, .int a2]) (rest := [.int a3, .int a2, .int a1, .ref h0]) ⟨hx, hb, hml, hown, hts⟩ (kX0_won l D cI cB h0 h1 kf kz ks kg k0 k1 a1 a2 _ hv) (cwV 2 hts gX0_pick_X0_won rfl rfl rfl (by decide +kernel) ⟨Nat.le_of_ble_eq_true rfl, Nat.le_of_ble_eq_true rfl⟩) hP hK hN 2 rfl rfl rfl rfl hl.1 rfl (Nat.le_of_ble_eq_true rfl) dX0_pick_7 ⟨Nat.zero_le _, Nat.zero_le _⟩ (fun r7 hv => ?_)
  refine kc_V (As := [.int a1, .int a2, .int a3, .int r7]) (rest := []) ⟨hx, hb, hml, hown, hts⟩ (kX0_pickWithin l D cI cB h0 h1 kf kz ks kg k0 k1 a1 a2 a3 r7 _ hv) (cwV 4 hts gX0_pick_X0_pickWithin rfl rfl rfl (by decide +kernel) ⟨Nat.le_of_ble_eq_true rfl, Nat.le_of_ble_eq_true rfl⟩) hP hK hN 2 rfl rfl rfl rfl hl.1 rfl (Nat.le_of_ble_eq_true rfl) dX0_pick_10 ⟨Nat.zero_le _, Nat.zero_le _⟩ (fun r10 hv => ?_)
  exact W.iret (v := r10) hx hb hr (kSi_ret rfl hv) (fun _ h => by cases h) dX0_pick_13
