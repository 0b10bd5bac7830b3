/-! walks by program (wip/gen) -/
set_option maxHeartbeats 4000000 in
set_option maxRecDepth 100000 in
theorem kX3_winnerW (l : Launch) (D : va_G) (cI cB : ClassId) (h0 : Nat) (h1 : Nat) (h2 : Nat) (on : Int32) (oo : Int32) (og : Int32) (orl : Nat) (ork : Nat → Int32) (owl : Nat) (oww : Nat → Int32) (ost : Int32) (ord : Int32) (oac : Int32) (ore : Int32) (okn : Int32) (oth : Int32) (a1 : Int32) (a2 : Int32) (sz : Nat) (post : Int32 → Int32 → Prop) (hv : qX3_winnerW on oo og orl ork owl oww a1 a2 post) : Met l yX3_winner wsX3_winner ({ frames := 6, cells := 0, slots := 0, locals := 134 }) (va_Pc [.ref h0, .int a1, .int a2] (kBW D cI cB sz [(h0, .inr (5, [.int on, .int oo, .int og, .ref h1, .ref h2, .int ost, .int ord, .int oac, .int ore, .int okn, .int oth])), (h1, .inl (cI, orl, .inl ork)), (h2, .inl (cI, owl, .inl oww))])) (va_Qi (fun (r : Int32) (u : Int32) => post r u) (fun (u : Int32) (t : State) => kE D (va_A [(h0, .inr (5, [.int on, .int oo, .int og, .ref h1, .ref h2, .int ost, .int ord, .int oac, .int ore, .int okn, .int oth])), (h1, .inl (cI, orl, .inl ork)), (h2, .inl (cI, owl, .inl oww))] sz) [(h0, .inr (5, [.int on, .int oo, .int og, .ref h1, .ref h2, .int ost, .int ord, .int oac, .int ore, .int okn, .int u])), (h1, .inl (cI, orl, .inl ork)), (h2, .inl (cI, owl, .inl oww))] t) (va_A [(h0, .inr (5, [.int on, .int oo, .int og, .ref h1, .ref h2, .int ost, .int ord, .int oac, .int ore, .int okn, .int oth])), (h1, .inl (cI, orl, .inl ork)), (h2, .inl (cI, owl, .inl oww))] sz)) 0 0 (va_A [(h0, .inr (5, [.int on, .int oo, .int og, .ref h1, .ref h2, .int ost, .int ord, .int oac, .int ore, .int okn, .int oth])), (h1, .inl (cI, orl, .inl ork)), (h2, .inl (cI, owl, .inl oww))] sz) := by
  refine Met.ofW (cc := cX3_winner) (maxL := 4) (ret := (some .int)) (by decide) rfl ?_
  intro p e s m args below meth c s₁ B hml hv0
  obtain ⟨rfl, hsz, ⟨hP, hK, hN⟩, hD0⟩ := hv0
  have hx := B.exec
  have hb := B.bytes
  have hr := B.returns
  have hts := atoms_spec (ws := wsX3_winner) B.pre
  have hown : s.vm.findClass RX3 = some m.cls := findClass_of_methodNamed B.named
  have hlocks := B.notSynchronized
  subst hsz
  have hD := hD0.self (sz := s.heap.size)
  generalize hAe : va_A [(h0, .inr (5, [.int on, .int oo, .int og, .ref h1, .ref h2, .int ost, .int ord, .int oac, .int ore, .int okn, .int oth])), (h1, .inl (cI, orl, .inl ork)), (h2, .inl (cI, owl, .inl oww))] s.heap.size = A at hD ⊢
  have hA : ∀ q : Nat, s.heap.size ≤ q → A q := fun q h => by rw [← hAe]; exact Or.inr h
  have hS : va_S A s.heap s.heap [] := va_S.rf
  have hl := lv_entry ([.ref h0, .int a1, .int a2]) (n := 4) (Nat.le_of_ble_eq_true rfl)
  rw [lg_entry_eq]
  generalize (lg_sl ([.ref h0, .int a1, .int a2]) ++ List.replicate (4 - (lg_sl ([.ref h0, .int a1, .int a2])).length) Slot.unset).toArray = ls at hl ⊢
  have hl : lv_has ls 4 [(0, .ref h0), (1, .int a1), (2, .int a2)] := hl
  refine lv_aload_n hx hb dX3_winner_0 rfl (lv_at hl 0 rfl) ?_
  refine lv_aload_n hx hb dX3_winner_1 rfl (lv_at hl 0 rfl) ?_
  refine lv_iload_n hx hb dX3_winner_2 rfl (lv_at hl 2 rfl) ?_
  refine kc_V (As := [.int a2]) (rest := [.ref h0]) ⟨hx, hb, hml, hown, hts⟩ (kX3_isPlace l D cI cB h0 h1 h2 on oo og orl ork owl oww ost ord oac ore okn oth a2 _ hv) (cwV 1 hts gX3_winner_X3_isPlace rfl rfl rfl (by decide +kernel) ⟨Nat.le_of_ble_eq_true rfl, Nat.le_of_ble_eq_true rfl⟩) hP hK hN 5 rfl rfl rfl rfl hl.1 rfl (Nat.le_of_ble_eq_true rfl) dX3_winner_3 ⟨Nat.le_of_ble_eq_true rfl, Nat.le_of_ble_eq_true rfl⟩ (fun r3 hv => ?_)
  have J14 : ∀ (s0_j14 : Int32) (H : Heap) (locs : List Loc) (ls : Array Slot), va_P D vwCl [(h0, .inr (5, [.int on, .int oo, .int og, .ref h1, .ref h2, .int ost, .int ord, .int oac, .int ore, .int okn, .int oth])), (h1, .inl (cI, orl, .inl ork)), (h2, .inl (cI, owl, .inl oww))] H → va_D A [(h0, .inr (5, [.int on, .int oo, .int og, .ref h1, .ref h2, .int ost, .int ord, .int oac, .int ore, .int okn, .int oth])), (h1, .inl (cI, orl, .inl ork)), (h2, .inl (cI, owl, .inl oww))] → va_S A s.heap H locs → qX3_winnerW_j14 on oo og orl ork owl oww a1 a2 s0_j14 post → lv_has ls 4 [(0, .ref h0), (1, .int a1), (2, .int a2)] → W p l e (headSpec wsX3_winner ({ frames := 6, cells := 0, slots := 0, locals := 134 })).room s m ([.ref h0, .int a1, .int a2] : List Value).toArray below meth c H locs 0 0 (MQ below (va_Qi (fun (r : Int32) (u : Int32) => post r u) (fun (u : Int32) (t : State) => kE D A [(h0, .inr (5, [.int on, .int oo, .int og, .ref h1, .ref h2, .int ost, .int ord, .int oac, .int ore, .int okn, .int u])), (h1, .inl (cI, orl, .inl ork)), (h2, .inl (cI, owl, .inl oww))] t) A) ([.ref h0, .int a1, .int a2] : List Value).toArray s 0 0 A) (F0 m 14 ls [.int s0_j14, .ref h0]) := by
    intro s0_j14 H locs ls hP hD hS hv hl
    refine lv_iload_n hx hb dX3_winner_14 rfl (lv_at hl 1 rfl) ?_
    have J28 : ∀ (s0_j28 : Int32) (s1_j28 : Int32) (H : Heap) (locs : List Loc) (ls : Array Slot), va_P D vwCl [(h0, .inr (5, [.int on, .int oo, .int og, .ref h1, .ref h2, .int ost, .int ord, .int oac, .int ore, .int okn, .int oth])), (h1, .inl (cI, orl, .inl ork)), (h2, .inl (cI, owl, .inl oww))] H → va_D A [(h0, .inr (5, [.int on, .int oo, .int og, .ref h1, .ref h2, .int ost, .int ord, .int oac, .int ore, .int okn, .int oth])), (h1, .inl (cI, orl, .inl ork)), (h2, .inl (cI, owl, .inl oww))] → va_S A s.heap H locs → qX3_winnerW_j28 on oo og orl ork owl oww a1 a2 s0_j28 s1_j28 post → lv_has ls 4 [(0, .ref h0), (1, .int a1), (2, .int a2)] → W p l e (headSpec wsX3_winner ({ frames := 6, cells := 0, slots := 0, locals := 134 })).room s m ([.ref h0, .int a1, .int a2] : List Value).toArray below meth c H locs 0 0 (MQ below (va_Qi (fun (r : Int32) (u : Int32) => post r u) (fun (u : Int32) (t : State) => kE D A [(h0, .inr (5, [.int on, .int oo, .int og, .ref h1, .ref h2, .int ost, .int ord, .int oac, .int ore, .int okn, .int u])), (h1, .inl (cI, orl, .inl ork)), (h2, .inl (cI, owl, .inl oww))] t) A) ([.ref h0, .int a1, .int a2] : List Value).toArray s 0 0 A) (F0 m 28 ls [.int s0_j28, .int s1_j28, .ref h0]) := by
      intro s0_j28 s1_j28 H locs ls hP hD hS hv hl
      refine kw_i (wr := []) (va_runV (As := [.int s1_j28, .int s0_j28]) (rest := []) ⟨hx, hb, hml, hown, hts⟩ (kX3_isThrownW l D cI cB h0 h1 h2 on oo og orl ork owl oww ost ord oac ore okn oth s1_j28 s0_j28 _ _ hv) (cwV 2 hts gX3_winner_X3_isThrown rfl rfl rfl (by decide +kernel) ⟨Nat.le_of_ble_eq_true rfl, Nat.le_of_ble_eq_true rfl⟩) ⟨(kPreW (As := [.ref h0, .int s1_j28, .int s0_j28]) (hP.sub (ws' := [(h0, .inr (5, [.int on, .int oo, .int og, .ref h1, .ref h2, .int ost, .int ord, .int oac, .int ore, .int okn, .int oth])), (h1, .inl (cI, orl, .inl ork)), (h2, .inl (cI, owl, .inl oww))]) [0, 1, 2] rfl) (hD.sub (ws' := [(h0, .inr (5, [.int on, .int oo, .int og, .ref h1, .ref h2, .int ost, .int ord, .int oac, .int ore, .int okn, .int oth])), (h1, .inl (cI, orl, .inl ork)), (h2, .inl (cI, owl, .inl oww))]) [0, 1, 2] (by decide) rfl) hK hN).1, kRecv (hP.sub (ws' := [(h0, .inr (5, [.int on, .int oo, .int og, .ref h1, .ref h2, .int ost, .int ord, .int oac, .int ore, .int okn, .int oth])), (h1, .inl (cI, orl, .inl ork)), (h2, .inl (cI, owl, .inl oww))]) [0, 1, 2] rfl) hK 5 rfl rfl rfl, (kPreW (As := [.ref h0, .int s1_j28, .int s0_j28]) (hP.sub (ws' := [(h0, .inr (5, [.int on, .int oo, .int og, .ref h1, .ref h2, .int ost, .int ord, .int oac, .int ore, .int okn, .int oth])), (h1, .inl (cI, orl, .inl ork)), (h2, .inl (cI, owl, .inl oww))]) [0, 1, 2] rfl) (hD.sub (ws' := [(h0, .inr (5, [.int on, .int oo, .int og, .ref h1, .ref h2, .int ost, .int ord, .int oac, .int ore, .int okn, .int oth])), (h1, .inl (cI, orl, .inl ork)), (h2, .inl (cI, owl, .inl oww))]) [0, 1, 2] (by decide) rfl) hK hN).2⟩ rfl rfl hl.1 rfl (lv_room (Nat.le_of_ble_eq_true rfl)) dX3_winner_28 ⟨Nat.le_of_ble_eq_true rfl, Nat.le_of_ble_eq_true rfl⟩) hP hD hS hA [0, 1, 2] [] rfl rfl (by decide) (by decide) (fun r28 u H locs hv hP hD hS => ?_)
      obtain ⟨x28_0, rfl⟩ : ∃ z, z = u := ⟨_, rfl⟩
      have hP : va_P D vwCl [(h0, .inr (5, [.int on, .int oo, .int og, .ref h1, .ref h2, .int ost, .int ord, .int oac, .int ore, .int okn, .int x28_0])), (h1, .inl (cI, orl, .inl ork)), (h2, .inl (cI, owl, .inl oww))] H := hP.sub [0, 1, 2] rfl
      have hD : va_D A [(h0, .inr (5, [.int on, .int oo, .int og, .ref h1, .ref h2, .int ost, .int ord, .int oac, .int ore, .int okn, .int x28_0])), (h1, .inl (cI, orl, .inl ork)), (h2, .inl (cI, owl, .inl oww))] := hD.sub [0, 1, 2] (by decide) rfl
      refine lv_if_eq (tgt := 36) hx hb dX3_winner_31 (by decide) (fun hc => ?_) (fun hc => ?_)
      · have hv := hv.1 hc
        refine lv_iload_n hx hb dX3_winner_36 rfl (lv_at hl 1 rfl) ?_
        refine lv_iconst (v := (4 : Int32)) hx hb dX3_winner_37 (by decide) ?_
        have J48 : ∀ (s0_j48 : Int32) (H : Heap) (locs : List Loc) (ls : Array Slot), va_P D vwCl [(h0, .inr (5, [.int on, .int oo, .int og, .ref h1, .ref h2, .int ost, .int ord, .int oac, .int ore, .int okn, .int x28_0])), (h1, .inl (cI, orl, .inl ork)), (h2, .inl (cI, owl, .inl oww))] H → va_D A [(h0, .inr (5, [.int on, .int oo, .int og, .ref h1, .ref h2, .int ost, .int ord, .int oac, .int ore, .int okn, .int x28_0])), (h1, .inl (cI, orl, .inl ork)), (h2, .inl (cI, owl, .inl oww))] → va_S A s.heap H locs → qX3_winnerW_j48 on oo og orl ork owl oww a1 a2 x28_0 s0_j48 post → lv_has ls 4 [(0, .ref h0), (1, .int a1), (2, .int a2)] → W p l e (headSpec wsX3_winner ({ frames := 6, cells := 0, slots := 0, locals := 134 })).room s m ([.ref h0, .int a1, .int a2] : List Value).toArray below meth c H locs 0 0 (MQ below (va_Qi (fun (r : Int32) (u : Int32) => post r u) (fun (u : Int32) (t : State) => kE D A [(h0, .inr (5, [.int on, .int oo, .int og, .ref h1, .ref h2, .int ost, .int ord, .int oac, .int ore, .int okn, .int u])), (h1, .inl (cI, orl, .inl ork)), (h2, .inl (cI, owl, .inl oww))] t) A) ([.ref h0, .int a1, .int a2] : List Value).toArray s 0 0 A) (F0 m 48 ls [.int s0_j48]) := by
          intro s0_j48 H locs ls hP hD hS hv hl
          refine lv_istore_n (lv' := [(3, .int s0_j48), (0, .ref h0), (1, .int a1), (2, .int a2)]) hx hb dX3_winner_48 rfl hl (by decide) rfl (fun ls hl => ?_)
          refine lv_aload_n hx hb dX3_winner_49 rfl (lv_at hl 1 rfl) ?_
          refine lv_iload_n hx hb dX3_winner_50 rfl (lv_at hl 2 rfl) ?_
          refine lv_iconst (v := (4 : Int32)) hx hb dX3_winner_51 (by decide) ?_
          have J69 : ∀ (s0_j69 : Int32) (H : Heap) (locs : List Loc) (ls : Array Slot), va_P D vwCl [(h0, .inr (5, [.int on, .int oo, .int og, .ref h1, .ref h2, .int ost, .int ord, .int oac, .int ore, .int okn, .int x28_0])), (h1, .inl (cI, orl, .inl ork)), (h2, .inl (cI, owl, .inl oww))] H → va_D A [(h0, .inr (5, [.int on, .int oo, .int og, .ref h1, .ref h2, .int ost, .int ord, .int oac, .int ore, .int okn, .int x28_0])), (h1, .inl (cI, orl, .inl ork)), (h2, .inl (cI, owl, .inl oww))] → va_S A s.heap H locs → qX3_winnerW_j69 on oo og orl ork owl oww a2 x28_0 s0_j48 s0_j69 post → lv_has ls 4 [(0, .ref h0), (1, .int a1), (2, .int a2), (3, .int s0_j48)] → W p l e (headSpec wsX3_winner ({ frames := 6, cells := 0, slots := 0, locals := 134 })).room s m ([.ref h0, .int a1, .int a2] : List Value).toArray below meth c H locs 0 0 (MQ below (va_Qi (fun (r : Int32) (u : Int32) => post r u) (fun (u : Int32) (t : State) => kE D A [(h0, .inr (5, [.int on, .int oo, .int og, .ref h1, .ref h2, .int ost, .int ord, .int oac, .int ore, .int okn, .int u])), (h1, .inl (cI, orl, .inl ork)), (h2, .inl (cI, owl, .inl oww))] t) A) ([.ref h0, .int a1, .int a2] : List Value).toArray s 0 0 A) (F0 m 69 ls [.int s0_j69, .ref h0]) := by
            intro s0_j69 H locs ls hP hD hS hv hl
            refine lv_iload_n hx hb dX3_winner_69 rfl (lv_at hl 3 rfl) ?_
            refine kc_V (As := [.int s0_j69, .int s0_j48]) (rest := []) ⟨hx, hb, hml, hown, hts⟩ (kX3_wonIn l D cI cB h0 h1 h2 on oo og orl ork owl oww ost ord oac ore okn x28_0 s0_j69 s0_j48 _ hv) (cwV 2 hts gX3_winner_X3_wonIn rfl rfl rfl (by decide +kernel) ⟨Nat.le_of_ble_eq_true rfl, Nat.le_of_ble_eq_true rfl⟩) hP hK hN 5 rfl rfl rfl rfl hl.1 rfl (Nat.le_of_ble_eq_true rfl) dX3_winner_70 ⟨Nat.le_of_ble_eq_true rfl, Nat.le_of_ble_eq_true rfl⟩ (fun r70 hv => ?_)
            refine lv_iload_n hx hb dX3_winner_73 rfl (lv_at hl 2 rfl) ?_
            refine kc_S (As := [.int r70, .int a2]) (rest := []) ⟨hx, hb, hml, hown, hts⟩ (kX3_isIn l D cI cB r70 a2 _ hv) (va_cwS 2 hts gX3_winner_X3_isIn rfl rfl rfl (by decide +kernel) ⟨Nat.le_of_ble_eq_true rfl, Nat.le_of_ble_eq_true rfl⟩) (hP.sub (ws' := []) [] rfl) hK hN rfl hl.1 rfl (Nat.le_of_ble_eq_true rfl) dX3_winner_74 ⟨Nat.le_of_ble_eq_true rfl, Nat.le_of_ble_eq_true rfl⟩ (fun r74 hv => ?_)
            refine lv_if_eq (tgt := 84) hx hb dX3_winner_77 (by decide) (fun hc => ?_) (fun hc => ?_)
            · have hv := hv.1 hc
              refine lv_iconst (v := (1 : Int32)) hx hb dX3_winner_84 (by decide) ?_
              refine lv_iload_n hx hb dX3_winner_85 rfl (lv_at hl 3 rfl) ?_
              refine lv_isub hx hb dX3_winner_86 ?_
              refine W.widen (k := 0) (n := 0) (Nat.le_of_ble_eq_true rfl) (Nat.le_of_ble_eq_true rfl) ?_
              exact W.iret (v := ((1 : Int32) - s0_j48)) hx hb hr (kWi_ret (u := x28_0) hv hP hD hS) hS.2.2 dX3_winner_87
            · have hv := hv.2 hc
              refine lv_iload_n hx hb dX3_winner_80 rfl (lv_at hl 3 rfl) ?_
              refine lv_goto (tgt := 87) hx hb dX3_winner_81 (by decide) ?_
              refine W.widen (k := 0) (n := 0) (Nat.le_of_ble_eq_true rfl) (Nat.le_of_ble_eq_true rfl) ?_
              exact W.iret (v := s0_j48) hx hb hr (kWi_ret (u := x28_0) hv hP hD hS) hS.2.2 dX3_winner_87
          refine lv_icmp_ne (tgt := 59) hx hb dX3_winner_52 (by decide) (fun hc => ?_) (fun hc => ?_)
          · have hv := hv.1 hc
            refine lv_iload_n hx hb dX3_winner_59 rfl (lv_at hl 2 rfl) ?_
            refine lv_iconst (v := (2 : Int32)) hx hb dX3_winner_60 (by decide) ?_
            refine lv_icmp_ge (tgt := 68) hx hb dX3_winner_61 (by decide) (fun hc => ?_) (fun hc => ?_)
            · have hv := hv.1 hc
              refine lv_iconst (v := (2 : Int32)) hx hb dX3_winner_68 (by decide) ?_
              refine W.widen (k := 0) (n := 0) (Nat.le_of_ble_eq_true rfl) (Nat.le_of_ble_eq_true rfl) ?_
              exact J69 _ _ _ _ hP hD hS hv (lv_sub hl [1, 2, 3, 0] rfl)
            · have hv := hv.2 hc
              refine lv_iconst (v := (0 : Int32)) hx hb dX3_winner_64 (by decide) ?_
              refine lv_goto (tgt := 69) hx hb dX3_winner_65 (by decide) ?_
              refine W.widen (k := 0) (n := 0) (Nat.le_of_ble_eq_true rfl) (Nat.le_of_ble_eq_true rfl) ?_
              exact J69 _ _ _ _ hP hD hS hv (lv_sub hl [1, 2, 3, 0] rfl)
          · have hv := hv.2 hc
            refine lv_iconst (v := (3 : Int32)) hx hb dX3_winner_55 (by decide) ?_
            refine lv_goto (tgt := 69) hx hb dX3_winner_56 (by decide) ?_
            refine W.widen (k := 0) (n := 0) (Nat.le_of_ble_eq_true rfl) (Nat.le_of_ble_eq_true rfl) ?_
            exact J69 _ _ _ _ hP hD hS hv (lv_sub hl [1, 2, 3, 0] rfl)
        refine lv_icmp_ne (tgt := 45) hx hb dX3_winner_38 (by decide) (fun hc => ?_) (fun hc => ?_)
        · have hv := hv.1 hc
          refine lv_iload_n hx hb dX3_winner_45 rfl (lv_at hl 1 rfl) ?_
          refine lv_iconst (v := (2 : Int32)) hx hb dX3_winner_46 (by decide) ?_
          refine lv_irem hx hb dX3_winner_47 (by decide) ?_
          refine W.widen (k := 0) (n := 0) (Nat.le_of_ble_eq_true rfl) (Nat.le_of_ble_eq_true rfl) ?_
          exact J48 _ _ _ _ hP hD hS hv (lv_sub hl [0, 1, 2] rfl)
        · have hv := hv.2 hc
          refine lv_iconst (v := (0 : Int32)) hx hb dX3_winner_41 (by decide) ?_
          refine lv_goto (tgt := 48) hx hb dX3_winner_42 (by decide) ?_
          refine W.widen (k := 0) (n := 0) (Nat.le_of_ble_eq_true rfl) (Nat.le_of_ble_eq_true rfl) ?_
          exact J48 _ _ _ _ hP hD hS hv (lv_sub hl [0, 1, 2] rfl)
      · have hv := hv.2 hc
        refine lv_iconst (v := (0 : Int32)) hx hb dX3_winner_34 (by decide) ?_
        refine W.widen (k := 0) (n := 0) (Nat.le_of_ble_eq_true rfl) (Nat.le_of_ble_eq_true rfl) ?_
        exact W.iret (v := (0 : Int32)) hx hb hr (kWi_ret (u := x28_0) hv hP hD hS) hS.2.2 dX3_winner_35
    have J23 : ∀ (s0_j23 : Int32) (H : Heap) (locs : List Loc) (ls : Array Slot), va_P D vwCl [(h0, .inr (5, [.int on, .int oo, .int og, .ref h1, .ref h2, .int ost, .int ord, .int oac, .int ore, .int okn, .int oth])), (h1, .inl (cI, orl, .inl ork)), (h2, .inl (cI, owl, .inl oww))] H → va_D A [(h0, .inr (5, [.int on, .int oo, .int og, .ref h1, .ref h2, .int ost, .int ord, .int oac, .int ore, .int okn, .int oth])), (h1, .inl (cI, orl, .inl ork)), (h2, .inl (cI, owl, .inl oww))] → va_S A s.heap H locs → qX3_winnerW_j23 on oo og orl ork owl oww a1 a2 s0_j23 post → lv_has ls 4 [(0, .ref h0), (1, .int a1), (2, .int a2)] → W p l e (headSpec wsX3_winner ({ frames := 6, cells := 0, slots := 0, locals := 134 })).room s m ([.ref h0, .int a1, .int a2] : List Value).toArray below meth c H locs 0 0 (MQ below (va_Qi (fun (r : Int32) (u : Int32) => post r u) (fun (u : Int32) (t : State) => kE D A [(h0, .inr (5, [.int on, .int oo, .int og, .ref h1, .ref h2, .int ost, .int ord, .int oac, .int ore, .int okn, .int u])), (h1, .inl (cI, orl, .inl ork)), (h2, .inl (cI, owl, .inl oww))] t) A) ([.ref h0, .int a1, .int a2] : List Value).toArray s 0 0 A) (F0 m 23 ls [.int s0_j23, .ref h0]) := by
      intro s0_j23 H locs ls hP hD hS hv hl
      refine lv_iconst (v := (1 : Int32)) hx hb dX3_winner_23 (by decide) ?_
      refine lv_goto (tgt := 28) hx hb dX3_winner_24 (by decide) ?_
      refine W.widen (k := 0) (n := 0) (Nat.le_of_ble_eq_true rfl) (Nat.le_of_ble_eq_true rfl) ?_
      exact J28 _ _ _ _ _ hP hD hS hv (lv_sub hl [0, 1, 2] rfl)
    refine lv_if_lt (tgt := 23) hx hb dX3_winner_15 (by decide) (fun hc => ?_) (fun hc => ?_)
    · have hv := hv.1 hc
      refine W.widen (k := 0) (n := 0) (Nat.le_of_ble_eq_true rfl) (Nat.le_of_ble_eq_true rfl) ?_
      exact J23 _ _ _ _ hP hD hS hv (lv_sub hl [0, 1, 2] rfl)
    · have hv := hv.2 hc
      refine lv_iload_n hx hb dX3_winner_18 rfl (lv_at hl 1 rfl) ?_
      refine lv_iconst (v := (4 : Int32)) hx hb dX3_winner_19 (by decide) ?_
      refine lv_icmp_le (tgt := 27) hx hb dX3_winner_20 (by decide) (fun hc => ?_) (fun hc => ?_)
      · have hv := hv.1 hc
        refine lv_iconst (v := (0 : Int32)) hx hb dX3_winner_27 (by decide) ?_
        refine W.widen (k := 0) (n := 0) (Nat.le_of_ble_eq_true rfl) (Nat.le_of_ble_eq_true rfl) ?_
        exact J28 _ _ _ _ _ hP hD hS hv (lv_sub hl [0, 1, 2] rfl)
      · have hv := hv.2 hc
        refine W.widen (k := 0) (n := 0) (Nat.le_of_ble_eq_true rfl) (Nat.le_of_ble_eq_true rfl) ?_
        exact J23 _ _ _ _ hP hD hS hv (lv_sub hl [0, 1, 2] rfl)
  refine lv_if_ne (tgt := 13) hx hb dX3_winner_6 (by decide) (fun hc => ?_) (fun hc => ?_)
  · have hv := hv.1 hc
    refine lv_iconst (v := (0 : Int32)) hx hb dX3_winner_13 (by decide) ?_
    refine W.widen (k := 0) (n := 0) (Nat.le_of_ble_eq_true rfl) (Nat.le_of_ble_eq_true rfl) ?_
    exact J14 _ _ _ _ hP hD hS hv (lv_sub hl [0, 1, 2] rfl)
  · have hv := hv.2 hc
    refine lv_iconst (v := (1 : Int32)) hx hb dX3_winner_9 (by decide) ?_
    refine lv_goto (tgt := 14) hx hb dX3_winner_10 (by decide) ?_
    refine W.widen (k := 0) (n := 0) (Nat.le_of_ble_eq_true rfl) (Nat.le_of_ble_eq_true rfl) ?_
    exact J14 _ _ _ _ hP hD hS hv (lv_sub hl [0, 1, 2] rfl)
set_option maxHeartbeats 4000000 in
set_option maxRecDepth 100000 in
theorem kX3_roundsW (l : Launch) (D : va_G) (cI cB : ClassId) (h0 : Nat) (h1 : Nat) (h2 : Nat) (on : Int32) (oo : Int32) (og : Int32) (orl : Nat) (ork : Nat → Int32) (owl : Nat) (oww : Nat → Int32) (ost : Int32) (ord : Int32) (oac : Int32) (ore : Int32) (okn : Int32) (oth : Int32) (a1 : Int32) (a2 : Int32) (sz : Nat) (post : Int32 → Int32 → Prop) (hv : qX3_roundsW on oo og owl oww a1 a2 post) : Met l yX3_rounds wsX3_rounds ({ frames := 4, cells := 0, slots := 0, locals := 89 }) (va_Pc [.ref h0, .int a1, .int a2] (kBW D cI cB sz [(h0, .inr (5, [.int on, .int oo, .int og, .ref h1, .ref h2, .int ost, .int ord, .int oac, .int ore, .int okn, .int oth])), (h1, .inl (cI, orl, .inl ork)), (h2, .inl (cI, owl, .inl oww))])) (va_Qi (fun (r : Int32) (u : Int32) => post r u) (fun (u : Int32) (t : State) => kE D (va_A [(h0, .inr (5, [.int on, .int oo, .int og, .ref h1, .ref h2, .int ost, .int ord, .int oac, .int ore, .int okn, .int oth])), (h1, .inl (cI, orl, .inl ork)), (h2, .inl (cI, owl, .inl oww))] sz) [(h0, .inr (5, [.int on, .int oo, .int og, .ref h1, .ref h2, .int ost, .int ord, .int oac, .int ore, .int okn, .int u])), (h1, .inl (cI, orl, .inl ork)), (h2, .inl (cI, owl, .inl oww))] t) (va_A [(h0, .inr (5, [.int on, .int oo, .int og, .ref h1, .ref h2, .int ost, .int ord, .int oac, .int ore, .int okn, .int oth])), (h1, .inl (cI, orl, .inl ork)), (h2, .inl (cI, owl, .inl oww))] sz)) 0 0 (va_A [(h0, .inr (5, [.int on, .int oo, .int og, .ref h1, .ref h2, .int ost, .int ord, .int oac, .int ore, .int okn, .int oth])), (h1, .inl (cI, orl, .inl ork)), (h2, .inl (cI, owl, .inl oww))] sz) := by
  refine Met.ofW (cc := cX3_rounds) (maxL := 3) (ret := (some .int)) (by decide) rfl ?_
  intro p e s m args below meth c s₁ B hml hv0
  obtain ⟨rfl, hsz, ⟨hP, hK, hN⟩, hD0⟩ := hv0
  have hx := B.exec
  have hb := B.bytes
  have hr := B.returns
  have hts := atoms_spec (ws := wsX3_rounds) B.pre
  have hown : s.vm.findClass RX3 = some m.cls := findClass_of_methodNamed B.named
  have hlocks := B.notSynchronized
  subst hsz
  have hD := hD0.self (sz := s.heap.size)
  generalize hAe : va_A [(h0, .inr (5, [.int on, .int oo, .int og, .ref h1, .ref h2, .int ost, .int ord, .int oac, .int ore, .int okn, .int oth])), (h1, .inl (cI, orl, .inl ork)), (h2, .inl (cI, owl, .inl oww))] s.heap.size = A at hD ⊢
  have hA : ∀ q : Nat, s.heap.size ≤ q → A q := fun q h => by rw [← hAe]; exact Or.inr h
  have hS : va_S A s.heap s.heap [] := va_S.rf
  have hl := lv_entry ([.ref h0, .int a1, .int a2]) (n := 3) (Nat.le_of_ble_eq_true rfl)
  rw [lg_entry_eq]
  generalize (lg_sl ([.ref h0, .int a1, .int a2]) ++ List.replicate (3 - (lg_sl ([.ref h0, .int a1, .int a2])).length) Slot.unset).toArray = ls at hl ⊢
  have hl : lv_has ls 3 [(0, .ref h0), (1, .int a1), (2, .int a2)] := hl
  refine lv_aload_n hx hb dX3_rounds_0 rfl (lv_at hl 0 rfl) ?_
  refine lv_aload_n hx hb dX3_rounds_1 rfl (lv_at hl 0 rfl) ?_
  refine lv_iload_n hx hb dX3_rounds_2 rfl (lv_at hl 2 rfl) ?_
  refine kc_V (As := [.int a2]) (rest := [.ref h0]) ⟨hx, hb, hml, hown, hts⟩ (kX3_isPlace l D cI cB h0 h1 h2 on oo og orl ork owl oww ost ord oac ore okn oth a2 _ hv) (cwV 1 hts gX3_rounds_X3_isPlace rfl rfl rfl (by decide +kernel) ⟨Nat.le_of_ble_eq_true rfl, Nat.le_of_ble_eq_true rfl⟩) hP hK hN 5 rfl rfl rfl rfl hl.1 rfl (Nat.le_of_ble_eq_true rfl) dX3_rounds_3 ⟨Nat.le_of_ble_eq_true rfl, Nat.le_of_ble_eq_true rfl⟩ (fun r3 hv => ?_)
  have J14 : ∀ (s0_j14 : Int32) (H : Heap) (locs : List Loc) (ls : Array Slot), va_P D vwCl [(h0, .inr (5, [.int on, .int oo, .int og, .ref h1, .ref h2, .int ost, .int ord, .int oac, .int ore, .int okn, .int oth])), (h1, .inl (cI, orl, .inl ork)), (h2, .inl (cI, owl, .inl oww))] H → va_D A [(h0, .inr (5, [.int on, .int oo, .int og, .ref h1, .ref h2, .int ost, .int ord, .int oac, .int ore, .int okn, .int oth])), (h1, .inl (cI, orl, .inl ork)), (h2, .inl (cI, owl, .inl oww))] → va_S A s.heap H locs → qX3_roundsW_j14 on oo og owl oww a1 a2 s0_j14 post → lv_has ls 3 [(0, .ref h0), (1, .int a1), (2, .int a2)] → W p l e (headSpec wsX3_rounds ({ frames := 4, cells := 0, slots := 0, locals := 89 })).room s m ([.ref h0, .int a1, .int a2] : List Value).toArray below meth c H locs 0 0 (MQ below (va_Qi (fun (r : Int32) (u : Int32) => post r u) (fun (u : Int32) (t : State) => kE D A [(h0, .inr (5, [.int on, .int oo, .int og, .ref h1, .ref h2, .int ost, .int ord, .int oac, .int ore, .int okn, .int u])), (h1, .inl (cI, orl, .inl ork)), (h2, .inl (cI, owl, .inl oww))] t) A) ([.ref h0, .int a1, .int a2] : List Value).toArray s 0 0 A) (F0 m 14 ls [.int s0_j14, .ref h0]) := by
    intro s0_j14 H locs ls hP hD hS hv hl
    refine lv_iload_n hx hb dX3_rounds_14 rfl (lv_at hl 1 rfl) ?_
    refine kc_S (As := [.int a1]) (rest := [.int s0_j14, .ref h0]) ⟨hx, hb, hml, hown, hts⟩ (kX3_isSide l D cI cB a1 _ hv) (va_cwS 1 hts gX3_rounds_X3_isSide rfl rfl rfl (by decide +kernel) ⟨Nat.le_of_ble_eq_true rfl, Nat.le_of_ble_eq_true rfl⟩) (hP.sub (ws' := []) [] rfl) hK hN rfl hl.1 rfl (Nat.le_of_ble_eq_true rfl) dX3_rounds_15 ⟨Nat.le_of_ble_eq_true rfl, Nat.le_of_ble_eq_true rfl⟩ (fun r15 hv => ?_)
    have J26 : ∀ (s0_j26 : Int32) (s1_j26 : Int32) (H : Heap) (locs : List Loc) (ls : Array Slot), va_P D vwCl [(h0, .inr (5, [.int on, .int oo, .int og, .ref h1, .ref h2, .int ost, .int ord, .int oac, .int ore, .int okn, .int oth])), (h1, .inl (cI, orl, .inl ork)), (h2, .inl (cI, owl, .inl oww))] H → va_D A [(h0, .inr (5, [.int on, .int oo, .int og, .ref h1, .ref h2, .int ost, .int ord, .int oac, .int ore, .int okn, .int oth])), (h1, .inl (cI, orl, .inl ork)), (h2, .inl (cI, owl, .inl oww))] → va_S A s.heap H locs → qX3_roundsW_j26 on oo og owl oww a1 a2 s0_j26 s1_j26 post → lv_has ls 3 [(0, .ref h0), (1, .int a1), (2, .int a2)] → W p l e (headSpec wsX3_rounds ({ frames := 4, cells := 0, slots := 0, locals := 89 })).room s m ([.ref h0, .int a1, .int a2] : List Value).toArray below meth c H locs 0 0 (MQ below (va_Qi (fun (r : Int32) (u : Int32) => post r u) (fun (u : Int32) (t : State) => kE D A [(h0, .inr (5, [.int on, .int oo, .int og, .ref h1, .ref h2, .int ost, .int ord, .int oac, .int ore, .int okn, .int u])), (h1, .inl (cI, orl, .inl ork)), (h2, .inl (cI, owl, .inl oww))] t) A) ([.ref h0, .int a1, .int a2] : List Value).toArray s 0 0 A) (F0 m 26 ls [.int s0_j26, .int s1_j26, .ref h0]) := by
      intro s0_j26 s1_j26 H locs ls hP hD hS hv hl
      refine kw_i (wr := []) (va_runV (As := [.int s1_j26, .int s0_j26]) (rest := []) ⟨hx, hb, hml, hown, hts⟩ (kX3_isThrownW l D cI cB h0 h1 h2 on oo og orl ork owl oww ost ord oac ore okn oth s1_j26 s0_j26 _ _ hv) (cwV 2 hts gX3_rounds_X3_isThrown rfl rfl rfl (by decide +kernel) ⟨Nat.le_of_ble_eq_true rfl, Nat.le_of_ble_eq_true rfl⟩) ⟨(kPreW (As := [.ref h0, .int s1_j26, .int s0_j26]) (hP.sub (ws' := [(h0, .inr (5, [.int on, .int oo, .int og, .ref h1, .ref h2, .int ost, .int ord, .int oac, .int ore, .int okn, .int oth])), (h1, .inl (cI, orl, .inl ork)), (h2, .inl (cI, owl, .inl oww))]) [0, 1, 2] rfl) (hD.sub (ws' := [(h0, .inr (5, [.int on, .int oo, .int og, .ref h1, .ref h2, .int ost, .int ord, .int oac, .int ore, .int okn, .int oth])), (h1, .inl (cI, orl, .inl ork)), (h2, .inl (cI, owl, .inl oww))]) [0, 1, 2] (by decide) rfl) hK hN).1, kRecv (hP.sub (ws' := [(h0, .inr (5, [.int on, .int oo, .int og, .ref h1, .ref h2, .int ost, .int ord, .int oac, .int ore, .int okn, .int oth])), (h1, .inl (cI, orl, .inl ork)), (h2, .inl (cI, owl, .inl oww))]) [0, 1, 2] rfl) hK 5 rfl rfl rfl, (kPreW (As := [.ref h0, .int s1_j26, .int s0_j26]) (hP.sub (ws' := [(h0, .inr (5, [.int on, .int oo, .int og, .ref h1, .ref h2, .int ost, .int ord, .int oac, .int ore, .int okn, .int oth])), (h1, .inl (cI, orl, .inl ork)), (h2, .inl (cI, owl, .inl oww))]) [0, 1, 2] rfl) (hD.sub (ws' := [(h0, .inr (5, [.int on, .int oo, .int og, .ref h1, .ref h2, .int ost, .int ord, .int oac, .int ore, .int okn, .int oth])), (h1, .inl (cI, orl, .inl ork)), (h2, .inl (cI, owl, .inl oww))]) [0, 1, 2] (by decide) rfl) hK hN).2⟩ rfl rfl hl.1 rfl (lv_room (Nat.le_of_ble_eq_true rfl)) dX3_rounds_26 ⟨Nat.le_of_ble_eq_true rfl, Nat.le_of_ble_eq_true rfl⟩) hP hD hS hA [0, 1, 2] [] rfl rfl (by decide) (by decide) (fun r26 u H locs hv hP hD hS => ?_)
      obtain ⟨x26_0, rfl⟩ : ∃ z, z = u := ⟨_, rfl⟩
      have hP : va_P D vwCl [(h0, .inr (5, [.int on, .int oo, .int og, .ref h1, .ref h2, .int ost, .int ord, .int oac, .int ore, .int okn, .int x26_0])), (h1, .inl (cI, orl, .inl ork)), (h2, .inl (cI, owl, .inl oww))] H := hP.sub [0, 1, 2] rfl
      have hD : va_D A [(h0, .inr (5, [.int on, .int oo, .int og, .ref h1, .ref h2, .int ost, .int ord, .int oac, .int ore, .int okn, .int x26_0])), (h1, .inl (cI, orl, .inl ork)), (h2, .inl (cI, owl, .inl oww))] := hD.sub [0, 1, 2] (by decide) rfl
      refine lv_if_eq (tgt := 36) hx hb dX3_rounds_29 (by decide) (fun hc => ?_) (fun hc => ?_)
      · have hv := hv.1 hc
        refine lv_aload_n hx hb dX3_rounds_36 rfl (lv_at hl 0 rfl) ?_
        refine lv_aload_n hx hb dX3_rounds_37 rfl (lv_at hl 0 rfl) ?_
        refine lv_iload_n hx hb dX3_rounds_38 rfl (lv_at hl 1 rfl) ?_
        refine kc_V (As := [.int a1]) (rest := [.ref h0]) ⟨hx, hb, hml, hown, hts⟩ (kX3_comingOf l D cI cB h0 h1 h2 on oo og orl ork owl oww ost ord oac ore okn x26_0 a1 _ hv) (cwV 1 hts gX3_rounds_X3_comingOf rfl rfl rfl (by decide +kernel) ⟨Nat.le_of_ble_eq_true rfl, Nat.le_of_ble_eq_true rfl⟩) hP hK hN 5 rfl rfl rfl rfl hl.1 rfl (Nat.le_of_ble_eq_true rfl) dX3_rounds_39 ⟨Nat.le_of_ble_eq_true rfl, Nat.le_of_ble_eq_true rfl⟩ (fun r39 hv => ?_)
        refine lv_iload_n hx hb dX3_rounds_42 rfl (lv_at hl 1 rfl) ?_
        refine lv_iload_n hx hb dX3_rounds_43 rfl (lv_at hl 2 rfl) ?_
        refine kc_V (As := [.int r39, .int a1, .int a2]) (rest := []) ⟨hx, hb, hml, hown, hts⟩ (kX3_roundsTo l D cI cB h0 h1 h2 on oo og orl ork owl oww ost ord oac ore okn x26_0 r39 a1 a2 _ hv) (cwV 3 hts gX3_rounds_X3_roundsTo rfl rfl rfl (by decide +kernel) ⟨Nat.le_of_ble_eq_true rfl, Nat.le_of_ble_eq_true rfl⟩) hP hK hN 5 rfl rfl rfl rfl hl.1 rfl (Nat.le_of_ble_eq_true rfl) dX3_rounds_44 ⟨Nat.le_of_ble_eq_true rfl, Nat.le_of_ble_eq_true rfl⟩ (fun r44 hv => ?_)
        refine W.widen (k := 0) (n := 0) (Nat.le_of_ble_eq_true rfl) (Nat.le_of_ble_eq_true rfl) ?_
        exact W.iret (v := r44) hx hb hr (kWi_ret (u := x26_0) hv hP hD hS) hS.2.2 dX3_rounds_47
      · have hv := hv.2 hc
        refine lv_iconst (v := (0 : Int32)) hx hb dX3_rounds_32 (by decide) ?_
        refine lv_goto (tgt := 47) hx hb dX3_rounds_33 (by decide) ?_
        refine W.widen (k := 0) (n := 0) (Nat.le_of_ble_eq_true rfl) (Nat.le_of_ble_eq_true rfl) ?_
        exact W.iret (v := (0 : Int32)) hx hb hr (kWi_ret (u := x26_0) hv hP hD hS) hS.2.2 dX3_rounds_47
    refine lv_if_ne (tgt := 25) hx hb dX3_rounds_18 (by decide) (fun hc => ?_) (fun hc => ?_)
    · have hv := hv.1 hc
      refine lv_iconst (v := (0 : Int32)) hx hb dX3_rounds_25 (by decide) ?_
      refine W.widen (k := 0) (n := 0) (Nat.le_of_ble_eq_true rfl) (Nat.le_of_ble_eq_true rfl) ?_
      exact J26 _ _ _ _ _ hP hD hS hv (lv_sub hl [0, 1, 2] rfl)
    · have hv := hv.2 hc
      refine lv_iconst (v := (1 : Int32)) hx hb dX3_rounds_21 (by decide) ?_
      refine lv_goto (tgt := 26) hx hb dX3_rounds_22 (by decide) ?_
      refine W.widen (k := 0) (n := 0) (Nat.le_of_ble_eq_true rfl) (Nat.le_of_ble_eq_true rfl) ?_
      exact J26 _ _ _ _ _ hP hD hS hv (lv_sub hl [0, 1, 2] rfl)
  refine lv_if_ne (tgt := 13) hx hb dX3_rounds_6 (by decide) (fun hc => ?_) (fun hc => ?_)
  · have hv := hv.1 hc
    refine lv_iconst (v := (0 : Int32)) hx hb dX3_rounds_13 (by decide) ?_
    refine W.widen (k := 0) (n := 0) (Nat.le_of_ble_eq_true rfl) (Nat.le_of_ble_eq_true rfl) ?_
    exact J14 _ _ _ _ hP hD hS hv (lv_sub hl [0, 1, 2] rfl)
  · have hv := hv.2 hc
    refine lv_iconst (v := (1 : Int32)) hx hb dX3_rounds_9 (by decide) ?_
    refine lv_goto (tgt := 14) hx hb dX3_rounds_10 (by decide) ?_
    refine W.widen (k := 0) (n := 0) (Nat.le_of_ble_eq_true rfl) (Nat.le_of_ble_eq_true rfl) ?_
    exact J14 _ _ _ _ hP hD hS hv (lv_sub hl [0, 1, 2] rfl)
set_option maxHeartbeats 4000000 in
set_option maxRecDepth 100000 in
theorem kX3_againRoundsW (l : Launch) (D : va_G) (cI cB : ClassId) (h0 : Nat) (h1 : Nat) (h2 : Nat) (on : Int32) (oo : Int32) (og : Int32) (orl : Nat) (ork : Nat → Int32) (owl : Nat) (oww : Nat → Int32) (ost : Int32) (ord : Int32) (oac : Int32) (ore : Int32) (okn : Int32) (oth : Int32) (a1 : Int32) (a2 : Int32) (sz : Nat) (post : Int32 → Int32 → Prop) (hv : qX3_againRoundsW on oo og owl oww a1 a2 post) : Met l yX3_againRounds wsX3_againRounds ({ frames := 5, cells := 0, slots := 0, locals := 112 }) (va_Pc [.ref h0, .int a1, .int a2] (kBW D cI cB sz [(h0, .inr (5, [.int on, .int oo, .int og, .ref h1, .ref h2, .int ost, .int ord, .int oac, .int ore, .int okn, .int oth])), (h1, .inl (cI, orl, .inl ork)), (h2, .inl (cI, owl, .inl oww))])) (va_Qi (fun (r : Int32) (u : Int32) => post r u) (fun (u : Int32) (t : State) => kE D (va_A [(h0, .inr (5, [.int on, .int oo, .int og, .ref h1, .ref h2, .int ost, .int ord, .int oac, .int ore, .int okn, .int oth])), (h1, .inl (cI, orl, .inl ork)), (h2, .inl (cI, owl, .inl oww))] sz) [(h0, .inr (5, [.int on, .int oo, .int og, .ref h1, .ref h2, .int ost, .int ord, .int oac, .int ore, .int okn, .int u])), (h1, .inl (cI, orl, .inl ork)), (h2, .inl (cI, owl, .inl oww))] t) (va_A [(h0, .inr (5, [.int on, .int oo, .int og, .ref h1, .ref h2, .int ost, .int ord, .int oac, .int ore, .int okn, .int oth])), (h1, .inl (cI, orl, .inl ork)), (h2, .inl (cI, owl, .inl oww))] sz)) 0 0 (va_A [(h0, .inr (5, [.int on, .int oo, .int og, .ref h1, .ref h2, .int ost, .int ord, .int oac, .int ore, .int okn, .int oth])), (h1, .inl (cI, orl, .inl ork)), (h2, .inl (cI, owl, .inl oww))] sz) := by
  refine Met.ofW (cc := cX3_againRounds) (maxL := 3) (ret := (some .int)) (by decide) rfl ?_
  intro p e s m args below meth c s₁ B hml hv0
  obtain ⟨rfl, hsz, ⟨hP, hK, hN⟩, hD0⟩ := hv0
  have hx := B.exec
  have hb := B.bytes
  have hr := B.returns
  have hts := atoms_spec (ws := wsX3_againRounds) B.pre
  have hown : s.vm.findClass RX3 = some m.cls := findClass_of_methodNamed B.named
  have hlocks := B.notSynchronized
  subst hsz
  have hD := hD0.self (sz := s.heap.size)
  generalize hAe : va_A [(h0, .inr (5, [.int on, .int oo, .int og, .ref h1, .ref h2, .int ost, .int ord, .int oac, .int ore, .int okn, .int oth])), (h1, .inl (cI, orl, .inl ork)), (h2, .inl (cI, owl, .inl oww))] s.heap.size = A at hD ⊢
  have hA : ∀ q : Nat, s.heap.size ≤ q → A q := fun q h => by rw [← hAe]; exact Or.inr h
  have hS : va_S A s.heap s.heap [] := va_S.rf
  have hl := lv_entry ([.ref h0, .int a1, .int a2]) (n := 3) (Nat.le_of_ble_eq_true rfl)
  rw [lg_entry_eq]
  generalize (lg_sl ([.ref h0, .int a1, .int a2]) ++ List.replicate (3 - (lg_sl ([.ref h0, .int a1, .int a2])).length) Slot.unset).toArray = ls at hl ⊢
  have hl : lv_has ls 3 [(0, .ref h0), (1, .int a1), (2, .int a2)] := hl
  refine lv_aload_n hx hb dX3_againRounds_0 rfl (lv_at hl 0 rfl) ?_
  refine lv_aload_n hx hb dX3_againRounds_1 rfl (lv_at hl 0 rfl) ?_
  refine lv_iload_n hx hb dX3_againRounds_2 rfl (lv_at hl 2 rfl) ?_
  refine kc_V (As := [.int a2]) (rest := [.ref h0]) ⟨hx, hb, hml, hown, hts⟩ (kX3_isPlace l D cI cB h0 h1 h2 on oo og orl ork owl oww ost ord oac ore okn oth a2 _ hv) (cwV 1 hts gX3_againRounds_X3_isPlace rfl rfl rfl (by decide +kernel) ⟨Nat.le_of_ble_eq_true rfl, Nat.le_of_ble_eq_true rfl⟩) hP hK hN 5 rfl rfl rfl rfl hl.1 rfl (Nat.le_of_ble_eq_true rfl) dX3_againRounds_3 ⟨Nat.le_of_ble_eq_true rfl, Nat.le_of_ble_eq_true rfl⟩ (fun r3 hv => ?_)
  have J14 : ∀ (s0_j14 : Int32) (H : Heap) (locs : List Loc) (ls : Array Slot), va_P D vwCl [(h0, .inr (5, [.int on, .int oo, .int og, .ref h1, .ref h2, .int ost, .int ord, .int oac, .int ore, .int okn, .int oth])), (h1, .inl (cI, orl, .inl ork)), (h2, .inl (cI, owl, .inl oww))] H → va_D A [(h0, .inr (5, [.int on, .int oo, .int og, .ref h1, .ref h2, .int ost, .int ord, .int oac, .int ore, .int okn, .int oth])), (h1, .inl (cI, orl, .inl ork)), (h2, .inl (cI, owl, .inl oww))] → va_S A s.heap H locs → qX3_againRoundsW_j14 on oo og owl oww a1 a2 s0_j14 post → lv_has ls 3 [(0, .ref h0), (1, .int a1), (2, .int a2)] → W p l e (headSpec wsX3_againRounds ({ frames := 5, cells := 0, slots := 0, locals := 112 })).room s m ([.ref h0, .int a1, .int a2] : List Value).toArray below meth c H locs 0 0 (MQ below (va_Qi (fun (r : Int32) (u : Int32) => post r u) (fun (u : Int32) (t : State) => kE D A [(h0, .inr (5, [.int on, .int oo, .int og, .ref h1, .ref h2, .int ost, .int ord, .int oac, .int ore, .int okn, .int u])), (h1, .inl (cI, orl, .inl ork)), (h2, .inl (cI, owl, .inl oww))] t) A) ([.ref h0, .int a1, .int a2] : List Value).toArray s 0 0 A) (F0 m 14 ls [.int s0_j14, .ref h0]) := by
    intro s0_j14 H locs ls hP hD hS hv hl
    refine lv_iload_n hx hb dX3_againRounds_14 rfl (lv_at hl 1 rfl) ?_
    refine kc_S (As := [.int a1]) (rest := [.int s0_j14, .ref h0]) ⟨hx, hb, hml, hown, hts⟩ (kX3_isSide l D cI cB a1 _ hv) (va_cwS 1 hts gX3_againRounds_X3_isSide rfl rfl rfl (by decide +kernel) ⟨Nat.le_of_ble_eq_true rfl, Nat.le_of_ble_eq_true rfl⟩) (hP.sub (ws' := []) [] rfl) hK hN rfl hl.1 rfl (Nat.le_of_ble_eq_true rfl) dX3_againRounds_15 ⟨Nat.le_of_ble_eq_true rfl, Nat.le_of_ble_eq_true rfl⟩ (fun r15 hv => ?_)
    have J26 : ∀ (s0_j26 : Int32) (s1_j26 : Int32) (H : Heap) (locs : List Loc) (ls : Array Slot), va_P D vwCl [(h0, .inr (5, [.int on, .int oo, .int og, .ref h1, .ref h2, .int ost, .int ord, .int oac, .int ore, .int okn, .int oth])), (h1, .inl (cI, orl, .inl ork)), (h2, .inl (cI, owl, .inl oww))] H → va_D A [(h0, .inr (5, [.int on, .int oo, .int og, .ref h1, .ref h2, .int ost, .int ord, .int oac, .int ore, .int okn, .int oth])), (h1, .inl (cI, orl, .inl ork)), (h2, .inl (cI, owl, .inl oww))] → va_S A s.heap H locs → qX3_againRoundsW_j26 on oo og owl oww a1 a2 s0_j26 s1_j26 post → lv_has ls 3 [(0, .ref h0), (1, .int a1), (2, .int a2)] → W p l e (headSpec wsX3_againRounds ({ frames := 5, cells := 0, slots := 0, locals := 112 })).room s m ([.ref h0, .int a1, .int a2] : List Value).toArray below meth c H locs 0 0 (MQ below (va_Qi (fun (r : Int32) (u : Int32) => post r u) (fun (u : Int32) (t : State) => kE D A [(h0, .inr (5, [.int on, .int oo, .int og, .ref h1, .ref h2, .int ost, .int ord, .int oac, .int ore, .int okn, .int u])), (h1, .inl (cI, orl, .inl ork)), (h2, .inl (cI, owl, .inl oww))] t) A) ([.ref h0, .int a1, .int a2] : List Value).toArray s 0 0 A) (F0 m 26 ls [.int s0_j26, .int s1_j26, .ref h0]) := by
      intro s0_j26 s1_j26 H locs ls hP hD hS hv hl
      refine kw_i (wr := []) (va_runV (As := [.int s1_j26, .int s0_j26]) (rest := []) ⟨hx, hb, hml, hown, hts⟩ (kX3_isThrownW l D cI cB h0 h1 h2 on oo og orl ork owl oww ost ord oac ore okn oth s1_j26 s0_j26 _ _ hv) (cwV 2 hts gX3_againRounds_X3_isThrown rfl rfl rfl (by decide +kernel) ⟨Nat.le_of_ble_eq_true rfl, Nat.le_of_ble_eq_true rfl⟩) ⟨(kPreW (As := [.ref h0, .int s1_j26, .int s0_j26]) (hP.sub (ws' := [(h0, .inr (5, [.int on, .int oo, .int og, .ref h1, .ref h2, .int ost, .int ord, .int oac, .int ore, .int okn, .int oth])), (h1, .inl (cI, orl, .inl ork)), (h2, .inl (cI, owl, .inl oww))]) [0, 1, 2] rfl) (hD.sub (ws' := [(h0, .inr (5, [.int on, .int oo, .int og, .ref h1, .ref h2, .int ost, .int ord, .int oac, .int ore, .int okn, .int oth])), (h1, .inl (cI, orl, .inl ork)), (h2, .inl (cI, owl, .inl oww))]) [0, 1, 2] (by decide) rfl) hK hN).1, kRecv (hP.sub (ws' := [(h0, .inr (5, [.int on, .int oo, .int og, .ref h1, .ref h2, .int ost, .int ord, .int oac, .int ore, .int okn, .int oth])), (h1, .inl (cI, orl, .inl ork)), (h2, .inl (cI, owl, .inl oww))]) [0, 1, 2] rfl) hK 5 rfl rfl rfl, (kPreW (As := [.ref h0, .int s1_j26, .int s0_j26]) (hP.sub (ws' := [(h0, .inr (5, [.int on, .int oo, .int og, .ref h1, .ref h2, .int ost, .int ord, .int oac, .int ore, .int okn, .int oth])), (h1, .inl (cI, orl, .inl ork)), (h2, .inl (cI, owl, .inl oww))]) [0, 1, 2] rfl) (hD.sub (ws' := [(h0, .inr (5, [.int on, .int oo, .int og, .ref h1, .ref h2, .int ost, .int ord, .int oac, .int ore, .int okn, .int oth])), (h1, .inl (cI, orl, .inl ork)), (h2, .inl (cI, owl, .inl oww))]) [0, 1, 2] (by decide) rfl) hK hN).2⟩ rfl rfl hl.1 rfl (lv_room (Nat.le_of_ble_eq_true rfl)) dX3_againRounds_26 ⟨Nat.le_of_ble_eq_true rfl, Nat.le_of_ble_eq_true rfl⟩) hP hD hS hA [0, 1, 2] [] rfl rfl (by decide) (by decide) (fun r26 u H locs hv hP hD hS => ?_)
      obtain ⟨x26_0, rfl⟩ : ∃ z, z = u := ⟨_, rfl⟩
      have hP : va_P D vwCl [(h0, .inr (5, [.int on, .int oo, .int og, .ref h1, .ref h2, .int ost, .int ord, .int oac, .int ore, .int okn, .int x26_0])), (h1, .inl (cI, orl, .inl ork)), (h2, .inl (cI, owl, .inl oww))] H := hP.sub [0, 1, 2] rfl
      have hD : va_D A [(h0, .inr (5, [.int on, .int oo, .int og, .ref h1, .ref h2, .int ost, .int ord, .int oac, .int ore, .int okn, .int x26_0])), (h1, .inl (cI, orl, .inl ork)), (h2, .inl (cI, owl, .inl oww))] := hD.sub [0, 1, 2] (by decide) rfl
      refine lv_if_eq (tgt := 36) hx hb dX3_againRounds_29 (by decide) (fun hc => ?_) (fun hc => ?_)
      · have hv := hv.1 hc
        refine lv_aload_n hx hb dX3_againRounds_36 rfl (lv_at hl 0 rfl) ?_
        refine lv_aload_n hx hb dX3_againRounds_37 rfl (lv_at hl 0 rfl) ?_
        refine lv_iload_n hx hb dX3_againRounds_38 rfl (lv_at hl 1 rfl) ?_
        refine kc_V (As := [.int a1]) (rest := [.ref h0]) ⟨hx, hb, hml, hown, hts⟩ (kX3_againOf l D cI cB h0 h1 h2 on oo og orl ork owl oww ost ord oac ore okn x26_0 a1 _ hv) (cwV 1 hts gX3_againRounds_X3_againOf rfl rfl rfl (by decide +kernel) ⟨Nat.le_of_ble_eq_true rfl, Nat.le_of_ble_eq_true rfl⟩) hP hK hN 5 rfl rfl rfl rfl hl.1 rfl (Nat.le_of_ble_eq_true rfl) dX3_againRounds_39 ⟨Nat.le_of_ble_eq_true rfl, Nat.le_of_ble_eq_true rfl⟩ (fun r39 hv => ?_)
        refine lv_iload_n hx hb dX3_againRounds_42 rfl (lv_at hl 1 rfl) ?_
        refine lv_iload_n hx hb dX3_againRounds_43 rfl (lv_at hl 2 rfl) ?_
        refine kc_V (As := [.int r39, .int a1, .int a2]) (rest := []) ⟨hx, hb, hml, hown, hts⟩ (kX3_roundsTo l D cI cB h0 h1 h2 on oo og orl ork owl oww ost ord oac ore okn x26_0 r39 a1 a2 _ hv) (cwV 3 hts gX3_againRounds_X3_roundsTo rfl rfl rfl (by decide +kernel) ⟨Nat.le_of_ble_eq_true rfl, Nat.le_of_ble_eq_true rfl⟩) hP hK hN 5 rfl rfl rfl rfl hl.1 rfl (Nat.le_of_ble_eq_true rfl) dX3_againRounds_44 ⟨Nat.le_of_ble_eq_true rfl, Nat.le_of_ble_eq_true rfl⟩ (fun r44 hv => ?_)
        refine W.widen (k := 0) (n := 0) (Nat.le_of_ble_eq_true rfl) (Nat.le_of_ble_eq_true rfl) ?_
        exact W.iret (v := r44) hx hb hr (kWi_ret (u := x26_0) hv hP hD hS) hS.2.2 dX3_againRounds_47
      · have hv := hv.2 hc
        refine lv_iconst (v := (0 : Int32)) hx hb dX3_againRounds_32 (by decide) ?_
        refine lv_goto (tgt := 47) hx hb dX3_againRounds_33 (by decide) ?_
        refine W.widen (k := 0) (n := 0) (Nat.le_of_ble_eq_true rfl) (Nat.le_of_ble_eq_true rfl) ?_
        exact W.iret (v := (0 : Int32)) hx hb hr (kWi_ret (u := x26_0) hv hP hD hS) hS.2.2 dX3_againRounds_47
    refine lv_if_ne (tgt := 25) hx hb dX3_againRounds_18 (by decide) (fun hc => ?_) (fun hc => ?_)
    · have hv := hv.1 hc
      refine lv_iconst (v := (0 : Int32)) hx hb dX3_againRounds_25 (by decide) ?_
      refine W.widen (k := 0) (n := 0) (Nat.le_of_ble_eq_true rfl) (Nat.le_of_ble_eq_true rfl) ?_
      exact J26 _ _ _ _ _ hP hD hS hv (lv_sub hl [0, 1, 2] rfl)
    · have hv := hv.2 hc
      refine lv_iconst (v := (1 : Int32)) hx hb dX3_againRounds_21 (by decide) ?_
      refine lv_goto (tgt := 26) hx hb dX3_againRounds_22 (by decide) ?_
      refine W.widen (k := 0) (n := 0) (Nat.le_of_ble_eq_true rfl) (Nat.le_of_ble_eq_true rfl) ?_
      exact J26 _ _ _ _ _ hP hD hS hv (lv_sub hl [0, 1, 2] rfl)
  refine lv_if_ne (tgt := 13) hx hb dX3_againRounds_6 (by decide) (fun hc => ?_) (fun hc => ?_)
  · have hv := hv.1 hc
    refine lv_iconst (v := (0 : Int32)) hx hb dX3_againRounds_13 (by decide) ?_
    refine W.widen (k := 0) (n := 0) (Nat.le_of_ble_eq_true rfl) (Nat.le_of_ble_eq_true rfl) ?_
    exact J14 _ _ _ _ hP hD hS hv (lv_sub hl [0, 1, 2] rfl)
  · have hv := hv.2 hc
    refine lv_iconst (v := (1 : Int32)) hx hb dX3_againRounds_9 (by decide) ?_
    refine lv_goto (tgt := 14) hx hb dX3_againRounds_10 (by decide) ?_
    refine W.widen (k := 0) (n := 0) (Nat.le_of_ble_eq_true rfl) (Nat.le_of_ble_eq_true rfl) ?_
    exact J14 _ _ _ _ hP hD hS hv (lv_sub hl [0, 1, 2] rfl)
set_option maxHeartbeats 4000000 in
set_option maxRecDepth 100000 in
theorem kX3_fallsW (l : Launch) (D : va_G) (cI cB : ClassId) (h0 : Nat) (h1 : Nat) (h2 : Nat) (on : Int32) (oo : Int32) (og : Int32) (orl : Nat) (ork : Nat → Int32) (owl : Nat) (oww : Nat → Int32) (ost : Int32) (ord : Int32) (oac : Int32) (ore : Int32) (okn : Int32) (oth : Int32) (a1 : Int32) (sz : Nat) (post : Int32 → Int32 → Prop) (hv : qX3_fallsW on oo og owl oww a1 post) : Met l yX3_falls wsX3_falls ({ frames := 5, cells := 0, slots := 0, locals := 113 }) (va_Pc [.ref h0, .int a1] (kBW D cI cB sz [(h0, .inr (5, [.int on, .int oo, .int og, .ref h1, .ref h2, .int ost, .int ord, .int oac, .int ore, .int okn, .int oth])), (h1, .inl (cI, orl, .inl ork)), (h2, .inl (cI, owl, .inl oww))])) (va_Qi (fun (r : Int32) (u : Int32) => post r u) (fun (u : Int32) (t : State) => kE D (va_A [(h0, .inr (5, [.int on, .int oo, .int og, .ref h1, .ref h2, .int ost, .int ord, .int oac, .int ore, .int okn, .int oth])), (h1, .inl (cI, orl, .inl ork)), (h2, .inl (cI, owl, .inl oww))] sz) [(h0, .inr (5, [.int on, .int oo, .int og, .ref h1, .ref h2, .int ost, .int ord, .int oac, .int ore, .int okn, .int u])), (h1, .inl (cI, orl, .inl ork)), (h2, .inl (cI, owl, .inl oww))] t) (va_A [(h0, .inr (5, [.int on, .int oo, .int og, .ref h1, .ref h2, .int ost, .int ord, .int oac, .int ore, .int okn, .int oth])), (h1, .inl (cI, orl, .inl ork)), (h2, .inl (cI, owl, .inl oww))] sz)) 0 0 (va_A [(h0, .inr (5, [.int on, .int oo, .int og, .ref h1, .ref h2, .int ost, .int ord, .int oac, .int ore, .int okn, .int oth])), (h1, .inl (cI, orl, .inl ork)), (h2, .inl (cI, owl, .inl oww))] sz) := by
  refine Met.ofW (cc := cX3_falls) (maxL := 2) (ret := (some .int)) (by decide) rfl ?_
  intro p e s m args below meth c s₁ B hml hv0
  obtain ⟨rfl, hsz, ⟨hP, hK, hN⟩, hD0⟩ := hv0
  have hx := B.exec
  have hb := B.bytes
  have hr := B.returns
  have hts := atoms_spec (ws := wsX3_falls) B.pre
  have hown : s.vm.findClass RX3 = some m.cls := findClass_of_methodNamed B.named
  have hlocks := B.notSynchronized
  subst hsz
  have hD := hD0.self (sz := s.heap.size)
  generalize hAe : va_A [(h0, .inr (5, [.int on, .int oo, .int og, .ref h1, .ref h2, .int ost, .int ord, .int oac, .int ore, .int okn, .int oth])), (h1, .inl (cI, orl, .inl ork)), (h2, .inl (cI, owl, .inl oww))] s.heap.size = A at hD ⊢
  have hA : ∀ q : Nat, s.heap.size ≤ q → A q := fun q h => by rw [← hAe]; exact Or.inr h
  have hS : va_S A s.heap s.heap [] := va_S.rf
  have hl := lv_entry ([.ref h0, .int a1]) (n := 2) (Nat.le_of_ble_eq_true rfl)
  rw [lg_entry_eq]
  generalize (lg_sl ([.ref h0, .int a1]) ++ List.replicate (2 - (lg_sl ([.ref h0, .int a1])).length) Slot.unset).toArray = ls at hl ⊢
  have hl : lv_has ls 2 [(0, .ref h0), (1, .int a1)] := hl
  refine lv_aload_n hx hb dX3_falls_0 rfl (lv_at hl 0 rfl) ?_
  refine lv_iload_n hx hb dX3_falls_1 rfl (lv_at hl 1 rfl) ?_
  refine kc_S (As := [.int a1]) (rest := [.ref h0]) ⟨hx, hb, hml, hown, hts⟩ (kX3_isSide l D cI cB a1 _ hv) (va_cwS 1 hts gX3_falls_X3_isSide rfl rfl rfl (by decide +kernel) ⟨Nat.le_of_ble_eq_true rfl, Nat.le_of_ble_eq_true rfl⟩) (hP.sub (ws' := []) [] rfl) hK hN rfl hl.1 rfl (Nat.le_of_ble_eq_true rfl) dX3_falls_2 ⟨Nat.le_of_ble_eq_true rfl, Nat.le_of_ble_eq_true rfl⟩ (fun r2 hv => ?_)
  refine lv_if_ne (tgt := 12) hx hb dX3_falls_5 (by decide) (fun hc => ?_) (fun hc => ?_)
  · have hv := hv.1 hc
    refine lv_iconst (v := (0 : Int32)) hx hb dX3_falls_12 (by decide) ?_
    refine kw_i (wr := []) (va_runV (As := [.int (0 : Int32)]) (rest := []) ⟨hx, hb, hml, hown, hts⟩ (kX3_isThrown_W l D cI cB h0 h1 h2 on oo og orl ork owl oww ost ord oac ore okn oth (0 : Int32) _ _ hv) (cwV 1 hts gX3_falls_X3_isThrown_ rfl rfl rfl (by decide +kernel) ⟨Nat.le_of_ble_eq_true rfl, Nat.le_of_ble_eq_true rfl⟩) ⟨(kPreW (As := [.ref h0, .int (0 : Int32)]) (hP.sub (ws' := [(h0, .inr (5, [.int on, .int oo, .int og, .ref h1, .ref h2, .int ost, .int ord, .int oac, .int ore, .int okn, .int oth])), (h1, .inl (cI, orl, .inl ork)), (h2, .inl (cI, owl, .inl oww))]) [0, 1, 2] rfl) (hD.sub (ws' := [(h0, .inr (5, [.int on, .int oo, .int og, .ref h1, .ref h2, .int ost, .int ord, .int oac, .int ore, .int okn, .int oth])), (h1, .inl (cI, orl, .inl ork)), (h2, .inl (cI, owl, .inl oww))]) [0, 1, 2] (by decide) rfl) hK hN).1, kRecv (hP.sub (ws' := [(h0, .inr (5, [.int on, .int oo, .int og, .ref h1, .ref h2, .int ost, .int ord, .int oac, .int ore, .int okn, .int oth])), (h1, .inl (cI, orl, .inl ork)), (h2, .inl (cI, owl, .inl oww))]) [0, 1, 2] rfl) hK 5 rfl rfl rfl, (kPreW (As := [.ref h0, .int (0 : Int32)]) (hP.sub (ws' := [(h0, .inr (5, [.int on, .int oo, .int og, .ref h1, .ref h2, .int ost, .int ord, .int oac, .int ore, .int okn, .int oth])), (h1, .inl (cI, orl, .inl ork)), (h2, .inl (cI, owl, .inl oww))]) [0, 1, 2] rfl) (hD.sub (ws' := [(h0, .inr (5, [.int on, .int oo, .int og, .ref h1, .ref h2, .int ost, .int ord, .int oac, .int ore, .int okn, .int oth])), (h1, .inl (cI, orl, .inl ork)), (h2, .inl (cI, owl, .inl oww))]) [0, 1, 2] (by decide) rfl) hK hN).2⟩ rfl rfl hl.1 rfl (lv_room (Nat.le_of_ble_eq_true rfl)) dX3_falls_13 ⟨Nat.le_of_ble_eq_true rfl, Nat.le_of_ble_eq_true rfl⟩) hP hD hS hA [0, 1, 2] [] rfl rfl (by decide) (by decide) (fun r13 u H locs hv hP hD hS => ?_)
    obtain ⟨x13_0, rfl⟩ : ∃ z, z = u := ⟨_, rfl⟩
    have hP : va_P D vwCl [(h0, .inr (5, [.int on, .int oo, .int og, .ref h1, .ref h2, .int ost, .int ord, .int oac, .int ore, .int okn, .int x13_0])), (h1, .inl (cI, orl, .inl ork)), (h2, .inl (cI, owl, .inl oww))] H := hP.sub [0, 1, 2] rfl
    have hD : va_D A [(h0, .inr (5, [.int on, .int oo, .int og, .ref h1, .ref h2, .int ost, .int ord, .int oac, .int ore, .int okn, .int x13_0])), (h1, .inl (cI, orl, .inl ork)), (h2, .inl (cI, owl, .inl oww))] := hD.sub [0, 1, 2] (by decide) rfl
    refine lv_if_eq (tgt := 23) hx hb dX3_falls_16 (by decide) (fun hc => ?_) (fun hc => ?_)
    · have hv := hv.1 hc
      refine lv_aload_n hx hb dX3_falls_23 rfl (lv_at hl 0 rfl) ?_
      refine lv_iload_n hx hb dX3_falls_24 rfl (lv_at hl 1 rfl) ?_
      refine kc_V (As := [.int a1]) (rest := []) ⟨hx, hb, hml, hown, hts⟩ (kX3_fallsOf l D cI cB h0 h1 h2 on oo og orl ork owl oww ost ord oac ore okn x13_0 a1 _ hv) (cwV 1 hts gX3_falls_X3_fallsOf rfl rfl rfl (by decide +kernel) ⟨Nat.le_of_ble_eq_true rfl, Nat.le_of_ble_eq_true rfl⟩) hP hK hN 5 rfl rfl rfl rfl hl.1 rfl (Nat.le_of_ble_eq_true rfl) dX3_falls_25 ⟨Nat.le_of_ble_eq_true rfl, Nat.le_of_ble_eq_true rfl⟩ (fun r25 hv => ?_)
      refine W.widen (k := 0) (n := 0) (Nat.le_of_ble_eq_true rfl) (Nat.le_of_ble_eq_true rfl) ?_
      exact W.iret (v := r25) hx hb hr (kWi_ret (u := x13_0) hv hP hD hS) hS.2.2 dX3_falls_28
    · have hv := hv.2 hc
      refine lv_iconst (v := (0 : Int32)) hx hb dX3_falls_19 (by decide) ?_
      refine lv_goto (tgt := 28) hx hb dX3_falls_20 (by decide) ?_
      refine W.widen (k := 0) (n := 0) (Nat.le_of_ble_eq_true rfl) (Nat.le_of_ble_eq_true rfl) ?_
      exact W.iret (v := (0 : Int32)) hx hb hr (kWi_ret (u := x13_0) hv hP hD hS) hS.2.2 dX3_falls_28
  · have hv := hv.2 hc
    refine lv_iconst (v := (1 : Int32)) hx hb dX3_falls_8 (by decide) ?_
    refine lv_goto (tgt := 13) hx hb dX3_falls_9 (by decide) ?_
    refine kw_i (wr := []) (va_runV (As := [.int (1 : Int32)]) (rest := []) ⟨hx, hb, hml, hown, hts⟩ (kX3_isThrown_W l D cI cB h0 h1 h2 on oo og orl ork owl oww ost ord oac ore okn oth (1 : Int32) _ _ hv) (cwV 1 hts gX3_falls_X3_isThrown_ rfl rfl rfl (by decide +kernel) ⟨Nat.le_of_ble_eq_true rfl, Nat.le_of_ble_eq_true rfl⟩) ⟨(kPreW (As := [.ref h0, .int (1 : Int32)]) (hP.sub (ws' := [(h0, .inr (5, [.int on, .int oo, .int og, .ref h1, .ref h2, .int ost, .int ord, .int oac, .int ore, .int okn, .int oth])), (h1, .inl (cI, orl, .inl ork)), (h2, .inl (cI, owl, .inl oww))]) [0, 1, 2] rfl) (hD.sub (ws' := [(h0, .inr (5, [.int on, .int oo, .int og, .ref h1, .ref h2, .int ost, .int ord, .int oac, .int ore, .int okn, .int oth])), (h1, .inl (cI, orl, .inl ork)), (h2, .inl (cI, owl, .inl oww))]) [0, 1, 2] (by decide) rfl) hK hN).1, kRecv (hP.sub (ws' := [(h0, .inr (5, [.int on, .int oo, .int og, .ref h1, .ref h2, .int ost, .int ord, .int oac, .int ore, .int okn, .int oth])), (h1, .inl (cI, orl, .inl ork)), (h2, .inl (cI, owl, .inl oww))]) [0, 1, 2] rfl) hK 5 rfl rfl rfl, (kPreW (As := [.ref h0, .int (1 : Int32)]) (hP.sub (ws' := [(h0, .inr (5, [.int on, .int oo, .int og, .ref h1, .ref h2, .int ost, .int ord, .int oac, .int ore, .int okn, .int oth])), (h1, .inl (cI, orl, .inl ork)), (h2, .inl (cI, owl, .inl oww))]) [0, 1, 2] rfl) (hD.sub (ws' := [(h0, .inr (5, [.int on, .int oo, .int og, .ref h1, .ref h2, .int ost, .int ord, .int oac, .int ore, .int okn, .int oth])), (h1, .inl (cI, orl, .inl ork)), (h2, .inl (cI, owl, .inl oww))]) [0, 1, 2] (by decide) rfl) hK hN).2⟩ rfl rfl hl.1 rfl (lv_room (Nat.le_of_ble_eq_true rfl)) dX3_falls_13 ⟨Nat.le_of_ble_eq_true rfl, Nat.le_of_ble_eq_true rfl⟩) hP hD hS hA [0, 1, 2] [] rfl rfl (by decide) (by decide) (fun r13 u H locs hv hP hD hS => ?_)
    obtain ⟨x13_0, rfl⟩ : ∃ z, z = u := ⟨_, rfl⟩
    have hP : va_P D vwCl [(h0, .inr (5, [.int on, .int oo, .int og, .ref h1, .ref h2, .int ost, .int ord, .int oac, .int ore, .int okn, .int x13_0])), (h1, .inl (cI, orl, .inl ork)), (h2, .inl (cI, owl, .inl oww))] H := hP.sub [0, 1, 2] rfl
    have hD : va_D A [(h0, .inr (5, [.int on, .int oo, .int og, .ref h1, .ref h2, .int ost, .int ord, .int oac, .int ore, .int okn, .int x13_0])), (h1, .inl (cI, orl, .inl ork)), (h2, .inl (cI, owl, .inl oww))] := hD.sub [0, 1, 2] (by decide) rfl
    refine lv_if_eq (tgt := 23) hx hb dX3_falls_16 (by decide) (fun hc => ?_) (fun hc => ?_)
    · have hv := hv.1 hc
      refine lv_aload_n hx hb dX3_falls_23 rfl (lv_at hl 0 rfl) ?_
      refine lv_iload_n hx hb dX3_falls_24 rfl (lv_at hl 1 rfl) ?_
      refine kc_V (As := [.int a1]) (rest := []) ⟨hx, hb, hml, hown, hts⟩ (kX3_fallsOf l D cI cB h0 h1 h2 on oo og orl ork owl oww ost ord oac ore okn x13_0 a1 _ hv) (cwV 1 hts gX3_falls_X3_fallsOf rfl rfl rfl (by decide +kernel) ⟨Nat.le_of_ble_eq_true rfl, Nat.le_of_ble_eq_true rfl⟩) hP hK hN 5 rfl rfl rfl rfl hl.1 rfl (Nat.le_of_ble_eq_true rfl) dX3_falls_25 ⟨Nat.le_of_ble_eq_true rfl, Nat.le_of_ble_eq_true rfl⟩ (fun r25 hv => ?_)
      refine W.widen (k := 0) (n := 0) (Nat.le_of_ble_eq_true rfl) (Nat.le_of_ble_eq_true rfl) ?_
      exact W.iret (v := r25) hx hb hr (kWi_ret (u := x13_0) hv hP hD hS) hS.2.2 dX3_falls_28
    · have hv := hv.2 hc
      refine lv_iconst (v := (0 : Int32)) hx hb dX3_falls_19 (by decide) ?_
      refine lv_goto (tgt := 28) hx hb dX3_falls_20 (by decide) ?_
      refine W.widen (k := 0) (n := 0) (Nat.le_of_ble_eq_true rfl) (Nat.le_of_ble_eq_true rfl) ?_
      exact W.iret (v := (0 : Int32)) hx hb hr (kWi_ret (u := x13_0) hv hP hD hS) hS.2.2 dX3_falls_28
set_option maxHeartbeats 4000000 in
set_option maxRecDepth 100000 in
theorem kX3_choiceW (l : Launch) (D : va_G) (cI cB : ClassId) (h0 : Nat) (h1 : Nat) (h2 : Nat) (on : Int32) (oo : Int32) (og : Int32) (orl : Nat) (ork : Nat → Int32) (owl : Nat) (oww : Nat → Int32) (ost : Int32) (ord : Int32) (oac : Int32) (ore : Int32) (okn : Int32) (oth : Int32) (a1 : Int32) (a2 : Int32) (a3 : Int32) (sz : Nat) (post : Int32 → Int32 → Prop) (hv : qX3_choiceW on oo og orl ork owl oww a1 a2 a3 post) : Met l yX3_choice wsX3_choice ({ frames := 7, cells := 0, slots := 0, locals := 160 }) (va_Pc [.ref h0, .int a1, .int a2, .int a3] (kBW D cI cB sz [(h0, .inr (5, [.int on, .int oo, .int og, .ref h1, .ref h2, .int ost, .int ord, .int oac, .int ore, .int okn, .int oth])), (h1, .inl (cI, orl, .inl ork)), (h2, .inl (cI, owl, .inl oww))])) (va_Qi (fun (r : Int32) (u : Int32) => post r u) (fun (u : Int32) (t : State) => kE D (va_A [(h0, .inr (5, [.int on, .int oo, .int og, .ref h1, .ref h2, .int ost, .int ord, .int oac, .int ore, .int okn, .int oth])), (h1, .inl (cI, orl, .inl ork)), (h2, .inl (cI, owl, .inl oww))] sz) [(h0, .inr (5, [.int on, .int oo, .int og, .ref h1, .ref h2, .int ost, .int ord, .int oac, .int ore, .int okn, .int u])), (h1, .inl (cI, orl, .inl ork)), (h2, .inl (cI, owl, .inl oww))] t) (va_A [(h0, .inr (5, [.int on, .int oo, .int og, .ref h1, .ref h2, .int ost, .int ord, .int oac, .int ore, .int okn, .int oth])), (h1, .inl (cI, orl, .inl ork)), (h2, .inl (cI, owl, .inl oww))] sz)) 0 0 (va_A [(h0, .inr (5, [.int on, .int oo, .int og, .ref h1, .ref h2, .int ost, .int ord, .int oac, .int ore, .int okn, .int oth])), (h1, .inl (cI, orl, .inl ork)), (h2, .inl (cI, owl, .inl oww))] sz) := by
  refine Met.ofW (cc := cX3_choice) (maxL := 4) (ret := (some .int)) (by decide) rfl ?_
  intro p e s m args below meth c s₁ B hml hv0
  obtain ⟨rfl, hsz, ⟨hP, hK, hN⟩, hD0⟩ := hv0
  have hx := B.exec
  have hb := B.bytes
  have hr := B.returns
  have hts := atoms_spec (ws := wsX3_choice) B.pre
  have hown : s.vm.findClass RX3 = some m.cls := findClass_of_methodNamed B.named
  have hlocks := B.notSynchronized
  subst hsz
  have hD := hD0.self (sz := s.heap.size)
  generalize hAe : va_A [(h0, .inr (5, [.int on, .int oo, .int og, .ref h1, .ref h2, .int ost, .int ord, .int oac, .int ore, .int okn, .int oth])), (h1, .inl (cI, orl, .inl ork)), (h2, .inl (cI, owl, .inl oww))] s.heap.size = A at hD ⊢
  have hA : ∀ q : Nat, s.heap.size ≤ q → A q := fun q h => by rw [← hAe]; exact Or.inr h
  have hS : va_S A s.heap s.heap [] := va_S.rf
  have hl := lv_entry ([.ref h0, .int a1, .int a2, .int a3]) (n := 4) (Nat.le_of_ble_eq_true rfl)
  rw [lg_entry_eq]
  generalize (lg_sl ([.ref h0, .int a1, .int a2, .int a3]) ++ List.replicate (4 - (lg_sl ([.ref h0, .int a1, .int a2, .int a3])).length) Slot.unset).toArray = ls at hl ⊢
  have hl : lv_has ls 4 [(0, .ref h0), (1, .int a1), (2, .int a2), (3, .int a3)] := hl
  refine lv_aload_n hx hb dX3_choice_0 rfl (lv_at hl 0 rfl) ?_
  refine lv_aload_n hx hb dX3_choice_1 rfl (lv_at hl 0 rfl) ?_
  refine lv_iload_n hx hb dX3_choice_2 rfl (lv_at hl 3 rfl) ?_
  refine kc_V (As := [.int a3]) (rest := [.ref h0]) ⟨hx, hb, hml, hown, hts⟩ (kX3_isPlace l D cI cB h0 h1 h2 on oo og orl ork owl oww ost ord oac ore okn oth a3 _ hv) (cwV 1 hts gX3_choice_X3_isPlace rfl rfl rfl (by decide +kernel) ⟨Nat.le_of_ble_eq_true rfl, Nat.le_of_ble_eq_true rfl⟩) hP hK hN 5 rfl rfl rfl rfl hl.1 rfl (Nat.le_of_ble_eq_true rfl) dX3_choice_3 ⟨Nat.le_of_ble_eq_true rfl, Nat.le_of_ble_eq_true rfl⟩ (fun r3 hv => ?_)
  have J14 : ∀ (s0_j14 : Int32) (H : Heap) (locs : List Loc) (ls : Array Slot), va_P D vwCl [(h0, .inr (5, [.int on, .int oo, .int og, .ref h1, .ref h2, .int ost, .int ord, .int oac, .int ore, .int okn, .int oth])), (h1, .inl (cI, orl, .inl ork)), (h2, .inl (cI, owl, .inl oww))] H → va_D A [(h0, .inr (5, [.int on, .int oo, .int og, .ref h1, .ref h2, .int ost, .int ord, .int oac, .int ore, .int okn, .int oth])), (h1, .inl (cI, orl, .inl ork)), (h2, .inl (cI, owl, .inl oww))] → va_S A s.heap H locs → qX3_choiceW_j14 on oo og orl ork owl oww a1 a2 a3 s0_j14 post → lv_has ls 4 [(0, .ref h0), (1, .int a1), (2, .int a2), (3, .int a3)] → W p l e (headSpec wsX3_choice ({ frames := 7, cells := 0, slots := 0, locals := 160 })).room s m ([.ref h0, .int a1, .int a2, .int a3] : List Value).toArray below meth c H locs 0 0 (MQ below (va_Qi (fun (r : Int32) (u : Int32) => post r u) (fun (u : Int32) (t : State) => kE D A [(h0, .inr (5, [.int on, .int oo, .int og, .ref h1, .ref h2, .int ost, .int ord, .int oac, .int ore, .int okn, .int u])), (h1, .inl (cI, orl, .inl ork)), (h2, .inl (cI, owl, .inl oww))] t) A) ([.ref h0, .int a1, .int a2, .int a3] : List Value).toArray s 0 0 A) (F0 m 14 ls [.int s0_j14, .ref h0]) := by
    intro s0_j14 H locs ls hP hD hS hv hl
    refine lv_iload_n hx hb dX3_choice_14 rfl (lv_at hl 1 rfl) ?_
    have J35 : ∀ (s0_j35 : Int32) (s1_j35 : Int32) (H : Heap) (locs : List Loc) (ls : Array Slot), va_P D vwCl [(h0, .inr (5, [.int on, .int oo, .int og, .ref h1, .ref h2, .int ost, .int ord, .int oac, .int ore, .int okn, .int oth])), (h1, .inl (cI, orl, .inl ork)), (h2, .inl (cI, owl, .inl oww))] H → va_D A [(h0, .inr (5, [.int on, .int oo, .int og, .ref h1, .ref h2, .int ost, .int ord, .int oac, .int ore, .int okn, .int oth])), (h1, .inl (cI, orl, .inl ork)), (h2, .inl (cI, owl, .inl oww))] → va_S A s.heap H locs → qX3_choiceW_j35 on oo og orl ork owl oww a1 a2 a3 s0_j35 s1_j35 post → lv_has ls 4 [(0, .ref h0), (1, .int a1), (2, .int a2), (3, .int a3)] → W p l e (headSpec wsX3_choice ({ frames := 7, cells := 0, slots := 0, locals := 160 })).room s m ([.ref h0, .int a1, .int a2, .int a3] : List Value).toArray below meth c H locs 0 0 (MQ below (va_Qi (fun (r : Int32) (u : Int32) => post r u) (fun (u : Int32) (t : State) => kE D A [(h0, .inr (5, [.int on, .int oo, .int og, .ref h1, .ref h2, .int ost, .int ord, .int oac, .int ore, .int okn, .int u])), (h1, .inl (cI, orl, .inl ork)), (h2, .inl (cI, owl, .inl oww))] t) A) ([.ref h0, .int a1, .int a2, .int a3] : List Value).toArray s 0 0 A) (F0 m 35 ls [.int s0_j35, .int s1_j35, .ref h0]) := by
      intro s0_j35 s1_j35 H locs ls hP hD hS hv hl
      refine kw_i (wr := []) (va_runV (As := [.int s1_j35, .int s0_j35]) (rest := []) ⟨hx, hb, hml, hown, hts⟩ (kX3_isThrownW l D cI cB h0 h1 h2 on oo og orl ork owl oww ost ord oac ore okn oth s1_j35 s0_j35 _ _ hv) (cwV 2 hts gX3_choice_X3_isThrown rfl rfl rfl (by decide +kernel) ⟨Nat.le_of_ble_eq_true rfl, Nat.le_of_ble_eq_true rfl⟩) ⟨(kPreW (As := [.ref h0, .int s1_j35, .int s0_j35]) (hP.sub (ws' := [(h0, .inr (5, [.int on, .int oo, .int og, .ref h1, .ref h2, .int ost, .int ord, .int oac, .int ore, .int okn, .int oth])), (h1, .inl (cI, orl, .inl ork)), (h2, .inl (cI, owl, .inl oww))]) [0, 1, 2] rfl) (hD.sub (ws' := [(h0, .inr (5, [.int on, .int oo, .int og, .ref h1, .ref h2, .int ost, .int ord, .int oac, .int ore, .int okn, .int oth])), (h1, .inl (cI, orl, .inl ork)), (h2, .inl (cI, owl, .inl oww))]) [0, 1, 2] (by decide) rfl) hK hN).1, kRecv (hP.sub (ws' := [(h0, .inr (5, [.int on, .int oo, .int og, .ref h1, .ref h2, .int ost, .int ord, .int oac, .int ore, .int okn, .int oth])), (h1, .inl (cI, orl, .inl ork)), (h2, .inl (cI, owl, .inl oww))]) [0, 1, 2] rfl) hK 5 rfl rfl rfl, (kPreW (As := [.ref h0, .int s1_j35, .int s0_j35]) (hP.sub (ws' := [(h0, .inr (5, [.int on, .int oo, .int og, .ref h1, .ref h2, .int ost, .int ord, .int oac, .int ore, .int okn, .int oth])), (h1, .inl (cI, orl, .inl ork)), (h2, .inl (cI, owl, .inl oww))]) [0, 1, 2] rfl) (hD.sub (ws' := [(h0, .inr (5, [.int on, .int oo, .int og, .ref h1, .ref h2, .int ost, .int ord, .int oac, .int ore, .int okn, .int oth])), (h1, .inl (cI, orl, .inl ork)), (h2, .inl (cI, owl, .inl oww))]) [0, 1, 2] (by decide) rfl) hK hN).2⟩ rfl rfl hl.1 rfl (lv_room (Nat.le_of_ble_eq_true rfl)) dX3_choice_35 ⟨Nat.le_of_ble_eq_true rfl, Nat.le_of_ble_eq_true rfl⟩) hP hD hS hA [0, 1, 2] [] rfl rfl (by decide) (by decide) (fun r35 u H locs hv hP hD hS => ?_)
      obtain ⟨x35_0, rfl⟩ : ∃ z, z = u := ⟨_, rfl⟩
      have hP : va_P D vwCl [(h0, .inr (5, [.int on, .int oo, .int og, .ref h1, .ref h2, .int ost, .int ord, .int oac, .int ore, .int okn, .int x35_0])), (h1, .inl (cI, orl, .inl ork)), (h2, .inl (cI, owl, .inl oww))] H := hP.sub [0, 1, 2] rfl
      have hD : va_D A [(h0, .inr (5, [.int on, .int oo, .int og, .ref h1, .ref h2, .int ost, .int ord, .int oac, .int ore, .int okn, .int x35_0])), (h1, .inl (cI, orl, .inl ork)), (h2, .inl (cI, owl, .inl oww))] := hD.sub [0, 1, 2] (by decide) rfl
      refine lv_if_eq (tgt := 45) hx hb dX3_choice_38 (by decide) (fun hc => ?_) (fun hc => ?_)
      · have hv := hv.1 hc
        refine lv_aload_n hx hb dX3_choice_45 rfl (lv_at hl 0 rfl) ?_
        refine lv_iload_n hx hb dX3_choice_46 rfl (lv_at hl 1 rfl) ?_
        refine lv_iload_n hx hb dX3_choice_47 rfl (lv_at hl 2 rfl) ?_
        refine lv_iload_n hx hb dX3_choice_48 rfl (lv_at hl 3 rfl) ?_
        refine kc_V (As := [.int a1, .int a2, .int a3]) (rest := []) ⟨hx, hb, hml, hown, hts⟩ (kX3_choiceOf l D cI cB h0 h1 h2 on oo og orl ork owl oww ost ord oac ore okn x35_0 a1 a2 a3 _ hv) (cwV 3 hts gX3_choice_X3_choiceOf rfl rfl rfl (by decide +kernel) ⟨Nat.le_of_ble_eq_true rfl, Nat.le_of_ble_eq_true rfl⟩) hP hK hN 5 rfl rfl rfl rfl hl.1 rfl (Nat.le_of_ble_eq_true rfl) dX3_choice_49 ⟨Nat.le_of_ble_eq_true rfl, Nat.le_of_ble_eq_true rfl⟩ (fun r49 hv => ?_)
        refine W.widen (k := 0) (n := 0) (Nat.le_of_ble_eq_true rfl) (Nat.le_of_ble_eq_true rfl) ?_
        exact W.iret (v := r49) hx hb hr (kWi_ret (u := x35_0) hv hP hD hS) hS.2.2 dX3_choice_52
      · have hv := hv.2 hc
        refine lv_iconst (v := (0 : Int32)) hx hb dX3_choice_41 (by decide) ?_
        refine lv_goto (tgt := 52) hx hb dX3_choice_42 (by decide) ?_
        refine W.widen (k := 0) (n := 0) (Nat.le_of_ble_eq_true rfl) (Nat.le_of_ble_eq_true rfl) ?_
        exact W.iret (v := (0 : Int32)) hx hb hr (kWi_ret (u := x35_0) hv hP hD hS) hS.2.2 dX3_choice_52
    have J30 : ∀ (s0_j30 : Int32) (H : Heap) (locs : List Loc) (ls : Array Slot), va_P D vwCl [(h0, .inr (5, [.int on, .int oo, .int og, .ref h1, .ref h2, .int ost, .int ord, .int oac, .int ore, .int okn, .int oth])), (h1, .inl (cI, orl, .inl ork)), (h2, .inl (cI, owl, .inl oww))] H → va_D A [(h0, .inr (5, [.int on, .int oo, .int og, .ref h1, .ref h2, .int ost, .int ord, .int oac, .int ore, .int okn, .int oth])), (h1, .inl (cI, orl, .inl ork)), (h2, .inl (cI, owl, .inl oww))] → va_S A s.heap H locs → qX3_choiceW_j30 on oo og orl ork owl oww a1 a2 a3 s0_j30 post → lv_has ls 4 [(0, .ref h0), (1, .int a1), (2, .int a2), (3, .int a3)] → W p l e (headSpec wsX3_choice ({ frames := 7, cells := 0, slots := 0, locals := 160 })).room s m ([.ref h0, .int a1, .int a2, .int a3] : List Value).toArray below meth c H locs 0 0 (MQ below (va_Qi (fun (r : Int32) (u : Int32) => post r u) (fun (u : Int32) (t : State) => kE D A [(h0, .inr (5, [.int on, .int oo, .int og, .ref h1, .ref h2, .int ost, .int ord, .int oac, .int ore, .int okn, .int u])), (h1, .inl (cI, orl, .inl ork)), (h2, .inl (cI, owl, .inl oww))] t) A) ([.ref h0, .int a1, .int a2, .int a3] : List Value).toArray s 0 0 A) (F0 m 30 ls [.int s0_j30, .ref h0]) := by
      intro s0_j30 H locs ls hP hD hS hv hl
      refine lv_iconst (v := (1 : Int32)) hx hb dX3_choice_30 (by decide) ?_
      refine lv_goto (tgt := 35) hx hb dX3_choice_31 (by decide) ?_
      refine W.widen (k := 0) (n := 0) (Nat.le_of_ble_eq_true rfl) (Nat.le_of_ble_eq_true rfl) ?_
      exact J35 _ _ _ _ _ hP hD hS hv (lv_sub hl [0, 1, 2, 3] rfl)
    refine lv_if_lt (tgt := 30) hx hb dX3_choice_15 (by decide) (fun hc => ?_) (fun hc => ?_)
    · have hv := hv.1 hc
      refine W.widen (k := 0) (n := 0) (Nat.le_of_ble_eq_true rfl) (Nat.le_of_ble_eq_true rfl) ?_
      exact J30 _ _ _ _ hP hD hS hv (lv_sub hl [0, 1, 2, 3] rfl)
    · have hv := hv.2 hc
      refine lv_iload_n hx hb dX3_choice_18 rfl (lv_at hl 1 rfl) ?_
      refine lv_iconst (v := (2 : Int32)) hx hb dX3_choice_19 (by decide) ?_
      refine lv_icmp_gt (tgt := 30) hx hb dX3_choice_20 (by decide) (fun hc => ?_) (fun hc => ?_)
      · have hv := hv.1 hc
        refine W.widen (k := 0) (n := 0) (Nat.le_of_ble_eq_true rfl) (Nat.le_of_ble_eq_true rfl) ?_
        exact J30 _ _ _ _ hP hD hS hv (lv_sub hl [0, 1, 2, 3] rfl)
      · have hv := hv.2 hc
        refine lv_iload_n hx hb dX3_choice_23 rfl (lv_at hl 2 rfl) ?_
        refine kc_S (As := [.int a2]) (rest := [.int s0_j14, .ref h0]) ⟨hx, hb, hml, hown, hts⟩ (kX3_isSide l D cI cB a2 _ hv) (va_cwS 1 hts gX3_choice_X3_isSide rfl rfl rfl (by decide +kernel) ⟨Nat.le_of_ble_eq_true rfl, Nat.le_of_ble_eq_true rfl⟩) (hP.sub (ws' := []) [] rfl) hK hN rfl hl.1 rfl (Nat.le_of_ble_eq_true rfl) dX3_choice_24 ⟨Nat.le_of_ble_eq_true rfl, Nat.le_of_ble_eq_true rfl⟩ (fun r24 hv => ?_)
        refine lv_if_ne (tgt := 34) hx hb dX3_choice_27 (by decide) (fun hc => ?_) (fun hc => ?_)
        · have hv := hv.1 hc
          refine lv_iconst (v := (0 : Int32)) hx hb dX3_choice_34 (by decide) ?_
          refine W.widen (k := 0) (n := 0) (Nat.le_of_ble_eq_true rfl) (Nat.le_of_ble_eq_true rfl) ?_
          exact J35 _ _ _ _ _ hP hD hS hv (lv_sub hl [0, 1, 2, 3] rfl)
        · have hv := hv.2 hc
          refine W.widen (k := 0) (n := 0) (Nat.le_of_ble_eq_true rfl) (Nat.le_of_ble_eq_true rfl) ?_
          exact J30 _ _ _ _ hP hD hS hv (lv_sub hl [0, 1, 2, 3] rfl)
  refine lv_if_ne (tgt := 13) hx hb dX3_choice_6 (by decide) (fun hc => ?_) (fun hc => ?_)
  · have hv := hv.1 hc
    refine lv_iconst (v := (0 : Int32)) hx hb dX3_choice_13 (by decide) ?_
    refine W.widen (k := 0) (n := 0) (Nat.le_of_ble_eq_true rfl) (Nat.le_of_ble_eq_true rfl) ?_
    exact J14 _ _ _ _ hP hD hS hv (lv_sub hl [0, 1, 2, 3] rfl)
  · have hv := hv.2 hc
    refine lv_iconst (v := (1 : Int32)) hx hb dX3_choice_9 (by decide) ?_
    refine lv_goto (tgt := 14) hx hb dX3_choice_10 (by decide) ?_
    refine W.widen (k := 0) (n := 0) (Nat.le_of_ble_eq_true rfl) (Nat.le_of_ble_eq_true rfl) ?_
    exact J14 _ _ _ _ hP hD hS hv (lv_sub hl [0, 1, 2, 3] rfl)
set_option maxHeartbeats 4000000 in
set_option maxRecDepth 100000 in
theorem kX3_isSureW (l : Launch) (D : va_G) (cI cB : ClassId) (h0 : Nat) (h1 : Nat) (h2 : Nat) (on : Int32) (oo : Int32) (og : Int32) (orl : Nat) (ork : Nat → Int32) (owl : Nat) (oww : Nat → Int32) (ost : Int32) (ord : Int32) (oac : Int32) (ore : Int32) (okn : Int32) (oth : Int32) (a1 : Int32) (a2 : Int32) (sz : Nat) (post : Int32 → Int32 → Prop) (hv : qX3_isSureW a1 a2 post) : Met l yX3_isSure wsX3_isSure ({ frames := 2, cells := 0, slots := 0, locals := 43 }) (va_Pc [.ref h0, .int a1, .int a2] (kBW D cI cB sz [(h0, .inr (5, [.int on, .int oo, .int og, .ref h1, .ref h2, .int ost, .int ord, .int oac, .int ore, .int okn, .int oth])), (h1, .inl (cI, orl, .inl ork)), (h2, .inl (cI, owl, .inl oww))])) (va_Qi (fun (r : Int32) (u : Int32) => post r u) (fun (u : Int32) (t : State) => kE D (va_A [(h0, .inr (5, [.int on, .int oo, .int og, .ref h1, .ref h2, .int ost, .int ord, .int oac, .int ore, .int okn, .int oth])), (h1, .inl (cI, orl, .inl ork)), (h2, .inl (cI, owl, .inl oww))] sz) [(h0, .inr (5, [.int on, .int oo, .int og, .ref h1, .ref h2, .int ost, .int ord, .int oac, .int ore, .int okn, .int u])), (h1, .inl (cI, orl, .inl ork)), (h2, .inl (cI, owl, .inl oww))] t) (va_A [(h0, .inr (5, [.int on, .int oo, .int og, .ref h1, .ref h2, .int ost, .int ord, .int oac, .int ore, .int okn, .int oth])), (h1, .inl (cI, orl, .inl ork)), (h2, .inl (cI, owl, .inl oww))] sz)) 0 0 (va_A [(h0, .inr (5, [.int on, .int oo, .int og, .ref h1, .ref h2, .int ost, .int ord, .int oac, .int ore, .int okn, .int oth])), (h1, .inl (cI, orl, .inl ork)), (h2, .inl (cI, owl, .inl oww))] sz) := by
  refine Met.ofW (cc := cX3_isSure) (maxL := 3) (ret := (some .boolean)) (by decide) rfl ?_
  intro p e s m args below meth c s₁ B hml hv0
  obtain ⟨rfl, hsz, ⟨hP, hK, hN⟩, hD0⟩ := hv0
  have hx := B.exec
  have hb := B.bytes
  have hr := B.returns
  have hts := atoms_spec (ws := wsX3_isSure) B.pre
  have hown : s.vm.findClass RX3 = some m.cls := findClass_of_methodNamed B.named
  have hlocks := B.notSynchronized
  subst hsz
  have hD := hD0.self (sz := s.heap.size)
  generalize hAe : va_A [(h0, .inr (5, [.int on, .int oo, .int og, .ref h1, .ref h2, .int ost, .int ord, .int oac, .int ore, .int okn, .int oth])), (h1, .inl (cI, orl, .inl ork)), (h2, .inl (cI, owl, .inl oww))] s.heap.size = A at hD ⊢
  have hA : ∀ q : Nat, s.heap.size ≤ q → A q := fun q h => by rw [← hAe]; exact Or.inr h
  have hS : va_S A s.heap s.heap [] := va_S.rf
  have hl := lv_entry ([.ref h0, .int a1, .int a2]) (n := 3) (Nat.le_of_ble_eq_true rfl)
  rw [lg_entry_eq]
  generalize (lg_sl ([.ref h0, .int a1, .int a2]) ++ List.replicate (3 - (lg_sl ([.ref h0, .int a1, .int a2])).length) Slot.unset).toArray = ls at hl ⊢
  have hl : lv_has ls 3 [(0, .ref h0), (1, .int a1), (2, .int a2)] := hl
  refine lv_aload_n hx hb dX3_isSure_0 rfl (lv_at hl 0 rfl) ?_
  refine lv_iload_n hx hb dX3_isSure_1 rfl (lv_at hl 1 rfl) ?_
  refine lv_if_lt (tgt := 17) hx hb dX3_isSure_2 (by decide) (fun hc => ?_) (fun hc => ?_)
  · have hv := hv.1 hc
    refine lv_iconst (v := (1 : Int32)) hx hb dX3_isSure_17 (by decide) ?_
    refine lv_goto (tgt := 22) hx hb dX3_isSure_18 (by decide) ?_
    refine kw_i (wr := []) (va_runV (As := [.int (1 : Int32)]) (rest := []) ⟨hx, hb, hml, hown, hts⟩ (kX3_isThrown_W l D cI cB h0 h1 h2 on oo og orl ork owl oww ost ord oac ore okn oth (1 : Int32) _ _ hv) (cwV 1 hts gX3_isSure_X3_isThrown_ rfl rfl rfl (by decide +kernel) ⟨Nat.le_of_ble_eq_true rfl, Nat.le_of_ble_eq_true rfl⟩) ⟨(kPreW (As := [.ref h0, .int (1 : Int32)]) (hP.sub (ws' := [(h0, .inr (5, [.int on, .int oo, .int og, .ref h1, .ref h2, .int ost, .int ord, .int oac, .int ore, .int okn, .int oth])), (h1, .inl (cI, orl, .inl ork)), (h2, .inl (cI, owl, .inl oww))]) [0, 1, 2] rfl) (hD.sub (ws' := [(h0, .inr (5, [.int on, .int oo, .int og, .ref h1, .ref h2, .int ost, .int ord, .int oac, .int ore, .int okn, .int oth])), (h1, .inl (cI, orl, .inl ork)), (h2, .inl (cI, owl, .inl oww))]) [0, 1, 2] (by decide) rfl) hK hN).1, kRecv (hP.sub (ws' := [(h0, .inr (5, [.int on, .int oo, .int og, .ref h1, .ref h2, .int ost, .int ord, .int oac, .int ore, .int okn, .int oth])), (h1, .inl (cI, orl, .inl ork)), (h2, .inl (cI, owl, .inl oww))]) [0, 1, 2] rfl) hK 5 rfl rfl rfl, (kPreW (As := [.ref h0, .int (1 : Int32)]) (hP.sub (ws' := [(h0, .inr (5, [.int on, .int oo, .int og, .ref h1, .ref h2, .int ost, .int ord, .int oac, .int ore, .int okn, .int oth])), (h1, .inl (cI, orl, .inl ork)), (h2, .inl (cI, owl, .inl oww))]) [0, 1, 2] rfl) (hD.sub (ws' := [(h0, .inr (5, [.int on, .int oo, .int og, .ref h1, .ref h2, .int ost, .int ord, .int oac, .int ore, .int okn, .int oth])), (h1, .inl (cI, orl, .inl ork)), (h2, .inl (cI, owl, .inl oww))]) [0, 1, 2] (by decide) rfl) hK hN).2⟩ rfl rfl hl.1 rfl (lv_room (Nat.le_of_ble_eq_true rfl)) dX3_isSure_22 ⟨Nat.le_of_ble_eq_true rfl, Nat.le_of_ble_eq_true rfl⟩) hP hD hS hA [0, 1, 2] [] rfl rfl (by decide) (by decide) (fun r22 u H locs hv hP hD hS => ?_)
    obtain ⟨x22_0, rfl⟩ : ∃ z, z = u := ⟨_, rfl⟩
    have hP : va_P D vwCl [(h0, .inr (5, [.int on, .int oo, .int og, .ref h1, .ref h2, .int ost, .int ord, .int oac, .int ore, .int okn, .int x22_0])), (h1, .inl (cI, orl, .inl ork)), (h2, .inl (cI, owl, .inl oww))] H := hP.sub [0, 1, 2] rfl
    have hD : va_D A [(h0, .inr (5, [.int on, .int oo, .int og, .ref h1, .ref h2, .int ost, .int ord, .int oac, .int ore, .int okn, .int x22_0])), (h1, .inl (cI, orl, .inl ork)), (h2, .inl (cI, owl, .inl oww))] := hD.sub [0, 1, 2] (by decide) rfl
    refine lv_if_ne (tgt := 32) hx hb dX3_isSure_25 (by decide) (fun hc => ?_) (fun hc => ?_)
    · have hv := hv.1 hc
      refine lv_iconst (v := (0 : Int32)) hx hb dX3_isSure_32 (by decide) ?_
      refine W.widen (k := 0) (n := 0) (Nat.le_of_ble_eq_true rfl) (Nat.le_of_ble_eq_true rfl) ?_
      exact W.zret (v := (0 : Int32)) (ty := .boolean) hx hb hr rfl (kWi_ret (u := x22_0) hv hP hD hS) hS.2.2 dX3_isSure_33
    · have hv := hv.2 hc
      refine lv_iconst (v := (1 : Int32)) hx hb dX3_isSure_28 (by decide) ?_
      refine lv_goto (tgt := 33) hx hb dX3_isSure_29 (by decide) ?_
      refine W.widen (k := 0) (n := 0) (Nat.le_of_ble_eq_true rfl) (Nat.le_of_ble_eq_true rfl) ?_
      exact W.zret (v := (1 : Int32)) (ty := .boolean) hx hb hr rfl (kWi_ret (u := x22_0) hv hP hD hS) hS.2.2 dX3_isSure_33
  · have hv := hv.2 hc
    refine lv_iload_n hx hb dX3_isSure_5 rfl (lv_at hl 1 rfl) ?_
    refine lv_iconst (v := (2 : Int32)) hx hb dX3_isSure_6 (by decide) ?_
    refine lv_icmp_gt (tgt := 17) hx hb dX3_isSure_7 (by decide) (fun hc => ?_) (fun hc => ?_)
    · have hv := hv.1 hc
      refine lv_iconst (v := (1 : Int32)) hx hb dX3_isSure_17 (by decide) ?_
      refine lv_goto (tgt := 22) hx hb dX3_isSure_18 (by decide) ?_
      refine kw_i (wr := []) (va_runV (As := [.int (1 : Int32)]) (rest := []) ⟨hx, hb, hml, hown, hts⟩ (kX3_isThrown_W l D cI cB h0 h1 h2 on oo og orl ork owl oww ost ord oac ore okn oth (1 : Int32) _ _ hv) (cwV 1 hts gX3_isSure_X3_isThrown_ rfl rfl rfl (by decide +kernel) ⟨Nat.le_of_ble_eq_true rfl, Nat.le_of_ble_eq_true rfl⟩) ⟨(kPreW (As := [.ref h0, .int (1 : Int32)]) (hP.sub (ws' := [(h0, .inr (5, [.int on, .int oo, .int og, .ref h1, .ref h2, .int ost, .int ord, .int oac, .int ore, .int okn, .int oth])), (h1, .inl (cI, orl, .inl ork)), (h2, .inl (cI, owl, .inl oww))]) [0, 1, 2] rfl) (hD.sub (ws' := [(h0, .inr (5, [.int on, .int oo, .int og, .ref h1, .ref h2, .int ost, .int ord, .int oac, .int ore, .int okn, .int oth])), (h1, .inl (cI, orl, .inl ork)), (h2, .inl (cI, owl, .inl oww))]) [0, 1, 2] (by decide) rfl) hK hN).1, kRecv (hP.sub (ws' := [(h0, .inr (5, [.int on, .int oo, .int og, .ref h1, .ref h2, .int ost, .int ord, .int oac, .int ore, .int okn, .int oth])), (h1, .inl (cI, orl, .inl ork)), (h2, .inl (cI, owl, .inl oww))]) [0, 1, 2] rfl) hK 5 rfl rfl rfl, (kPreW (As := [.ref h0, .int (1 : Int32)]) (hP.sub (ws' := [(h0, .inr (5, [.int on, .int oo, .int og, .ref h1, .ref h2, .int ost, .int ord, .int oac, .int ore, .int okn, .int oth])), (h1, .inl (cI, orl, .inl ork)), (h2, .inl (cI, owl, .inl oww))]) [0, 1, 2] rfl) (hD.sub (ws' := [(h0, .inr (5, [.int on, .int oo, .int og, .ref h1, .ref h2, .int ost, .int ord, .int oac, .int ore, .int okn, .int oth])), (h1, .inl (cI, orl, .inl ork)), (h2, .inl (cI, owl, .inl oww))]) [0, 1, 2] (by decide) rfl) hK hN).2⟩ rfl rfl hl.1 rfl (lv_room (Nat.le_of_ble_eq_true rfl)) dX3_isSure_22 ⟨Nat.le_of_ble_eq_true rfl, Nat.le_of_ble_eq_true rfl⟩) hP hD hS hA [0, 1, 2] [] rfl rfl (by decide) (by decide) (fun r22 u H locs hv hP hD hS => ?_)
      obtain ⟨x22_0, rfl⟩ : ∃ z, z = u := ⟨_, rfl⟩
      have hP : va_P D vwCl [(h0, .inr (5, [.int on, .int oo, .int og, .ref h1, .ref h2, .int ost, .int ord, .int oac, .int ore, .int okn, .int x22_0])), (h1, .inl (cI, orl, .inl ork)), (h2, .inl (cI, owl, .inl oww))] H := hP.sub [0, 1, 2] rfl
      have hD : va_D A [(h0, .inr (5, [.int on, .int oo, .int og, .ref h1, .ref h2, .int ost, .int ord, .int oac, .int ore, .int okn, .int x22_0])), (h1, .inl (cI, orl, .inl ork)), (h2, .inl (cI, owl, .inl oww))] := hD.sub [0, 1, 2] (by decide) rfl
      refine lv_if_ne (tgt := 32) hx hb dX3_isSure_25 (by decide) (fun hc => ?_) (fun hc => ?_)
      · have hv := hv.1 hc
        refine lv_iconst (v := (0 : Int32)) hx hb dX3_isSure_32 (by decide) ?_
        refine W.widen (k := 0) (n := 0) (Nat.le_of_ble_eq_true rfl) (Nat.le_of_ble_eq_true rfl) ?_
        exact W.zret (v := (0 : Int32)) (ty := .boolean) hx hb hr rfl (kWi_ret (u := x22_0) hv hP hD hS) hS.2.2 dX3_isSure_33
      · have hv := hv.2 hc
        refine lv_iconst (v := (1 : Int32)) hx hb dX3_isSure_28 (by decide) ?_
        refine lv_goto (tgt := 33) hx hb dX3_isSure_29 (by decide) ?_
        refine W.widen (k := 0) (n := 0) (Nat.le_of_ble_eq_true rfl) (Nat.le_of_ble_eq_true rfl) ?_
        exact W.zret (v := (1 : Int32)) (ty := .boolean) hx hb hr rfl (kWi_ret (u := x22_0) hv hP hD hS) hS.2.2 dX3_isSure_33
    · have hv := hv.2 hc
      refine lv_iload_n hx hb dX3_isSure_10 rfl (lv_at hl 2 rfl) ?_
      refine kc_S (As := [.int a2]) (rest := [.ref h0]) ⟨hx, hb, hml, hown, hts⟩ (kX3_isSide l D cI cB a2 _ hv) (va_cwS 1 hts gX3_isSure_X3_isSide rfl rfl rfl (by decide +kernel) ⟨Nat.le_of_ble_eq_true rfl, Nat.le_of_ble_eq_true rfl⟩) (hP.sub (ws' := []) [] rfl) hK hN rfl hl.1 rfl (Nat.le_of_ble_eq_true rfl) dX3_isSure_11 ⟨Nat.le_of_ble_eq_true rfl, Nat.le_of_ble_eq_true rfl⟩ (fun r11 hv => ?_)
      refine lv_if_ne (tgt := 21) hx hb dX3_isSure_14 (by decide) (fun hc => ?_) (fun hc => ?_)
      · have hv := hv.1 hc
        refine lv_iconst (v := (0 : Int32)) hx hb dX3_isSure_21 (by decide) ?_
        refine kw_i (wr := []) (va_runV (As := [.int (0 : Int32)]) (rest := []) ⟨hx, hb, hml, hown, hts⟩ (kX3_isThrown_W l D cI cB h0 h1 h2 on oo og orl ork owl oww ost ord oac ore okn oth (0 : Int32) _ _ hv) (cwV 1 hts gX3_isSure_X3_isThrown_ rfl rfl rfl (by decide +kernel) ⟨Nat.le_of_ble_eq_true rfl, Nat.le_of_ble_eq_true rfl⟩) ⟨(kPreW (As := [.ref h0, .int (0 : Int32)]) (hP.sub (ws' := [(h0, .inr (5, [.int on, .int oo, .int og, .ref h1, .ref h2, .int ost, .int ord, .int oac, .int ore, .int okn, .int oth])), (h1, .inl (cI, orl, .inl ork)), (h2, .inl (cI, owl, .inl oww))]) [0, 1, 2] rfl) (hD.sub (ws' := [(h0, .inr (5, [.int on, .int oo, .int og, .ref h1, .ref h2, .int ost, .int ord, .int oac, .int ore, .int okn, .int oth])), (h1, .inl (cI, orl, .inl ork)), (h2, .inl (cI, owl, .inl oww))]) [0, 1, 2] (by decide) rfl) hK hN).1, kRecv (hP.sub (ws' := [(h0, .inr (5, [.int on, .int oo, .int og, .ref h1, .ref h2, .int ost, .int ord, .int oac, .int ore, .int okn, .int oth])), (h1, .inl (cI, orl, .inl ork)), (h2, .inl (cI, owl, .inl oww))]) [0, 1, 2] rfl) hK 5 rfl rfl rfl, (kPreW (As := [.ref h0, .int (0 : Int32)]) (hP.sub (ws' := [(h0, .inr (5, [.int on, .int oo, .int og, .ref h1, .ref h2, .int ost, .int ord, .int oac, .int ore, .int okn, .int oth])), (h1, .inl (cI, orl, .inl ork)), (h2, .inl (cI, owl, .inl oww))]) [0, 1, 2] rfl) (hD.sub (ws' := [(h0, .inr (5, [.int on, .int oo, .int og, .ref h1, .ref h2, .int ost, .int ord, .int oac, .int ore, .int okn, .int oth])), (h1, .inl (cI, orl, .inl ork)), (h2, .inl (cI, owl, .inl oww))]) [0, 1, 2] (by decide) rfl) hK hN).2⟩ rfl rfl hl.1 rfl (lv_room (Nat.le_of_ble_eq_true rfl)) dX3_isSure_22 ⟨Nat.le_of_ble_eq_true rfl, Nat.le_of_ble_eq_true rfl⟩) hP hD hS hA [0, 1, 2] [] rfl rfl (by decide) (by decide) (fun r22 u H locs hv hP hD hS => ?_)
        obtain ⟨x22_0, rfl⟩ : ∃ z, z = u := ⟨_, rfl⟩
        have hP : va_P D vwCl [(h0, .inr (5, [.int on, .int oo, .int og, .ref h1, .ref h2, .int ost, .int ord, .int oac, .int ore, .int okn, .int x22_0])), (h1, .inl (cI, orl, .inl ork)), (h2, .inl (cI, owl, .inl oww))] H := hP.sub [0, 1, 2] rfl
        have hD : va_D A [(h0, .inr (5, [.int on, .int oo, .int og, .ref h1, .ref h2, .int ost, .int ord, .int oac, .int ore, .int okn, .int x22_0])), (h1, .inl (cI, orl, .inl ork)), (h2, .inl (cI, owl, .inl oww))] := hD.sub [0, 1, 2] (by decide) rfl
        refine lv_if_ne (tgt := 32) hx hb dX3_isSure_25 (by decide) (fun hc => ?_) (fun hc => ?_)
        · have hv := hv.1 hc
          refine lv_iconst (v := (0 : Int32)) hx hb dX3_isSure_32 (by decide) ?_
          refine W.widen (k := 0) (n := 0) (Nat.le_of_ble_eq_true rfl) (Nat.le_of_ble_eq_true rfl) ?_
          exact W.zret (v := (0 : Int32)) (ty := .boolean) hx hb hr rfl (kWi_ret (u := x22_0) hv hP hD hS) hS.2.2 dX3_isSure_33
        · have hv := hv.2 hc
          refine lv_iconst (v := (1 : Int32)) hx hb dX3_isSure_28 (by decide) ?_
          refine lv_goto (tgt := 33) hx hb dX3_isSure_29 (by decide) ?_
          refine W.widen (k := 0) (n := 0) (Nat.le_of_ble_eq_true rfl) (Nat.le_of_ble_eq_true rfl) ?_
          exact W.zret (v := (1 : Int32)) (ty := .boolean) hx hb hr rfl (kWi_ret (u := x22_0) hv hP hD hS) hS.2.2 dX3_isSure_33
      · have hv := hv.2 hc
        refine lv_iconst (v := (1 : Int32)) hx hb dX3_isSure_17 (by decide) ?_
        refine lv_goto (tgt := 22) hx hb dX3_isSure_18 (by decide) ?_
        refine kw_i (wr := []) (va_runV (As := [.int (1 : Int32)]) (rest := []) ⟨hx, hb, hml, hown, hts⟩ (kX3_isThrown_W l D cI cB h0 h1 h2 on oo og orl ork owl oww ost ord oac ore okn oth (1 : Int32) _ _ hv) (cwV 1 hts gX3_isSure_X3_isThrown_ rfl rfl rfl (by decide +kernel) ⟨Nat.le_of_ble_eq_true rfl, Nat.le_of_ble_eq_true rfl⟩) ⟨(kPreW (As := [.ref h0, .int (1 : Int32)]) (hP.sub (ws' := [(h0, .inr (5, [.int on, .int oo, .int og, .ref h1, .ref h2, .int ost, .int ord, .int oac, .int ore, .int okn, .int oth])), (h1, .inl (cI, orl, .inl ork)), (h2, .inl (cI, owl, .inl oww))]) [0, 1, 2] rfl) (hD.sub (ws' := [(h0, .inr (5, [.int on, .int oo, .int og, .ref h1, .ref h2, .int ost, .int ord, .int oac, .int ore, .int okn, .int oth])), (h1, .inl (cI, orl, .inl ork)), (h2, .inl (cI, owl, .inl oww))]) [0, 1, 2] (by decide) rfl) hK hN).1, kRecv (hP.sub (ws' := [(h0, .inr (5, [.int on, .int oo, .int og, .ref h1, .ref h2, .int ost, .int ord, .int oac, .int ore, .int okn, .int oth])), (h1, .inl (cI, orl, .inl ork)), (h2, .inl (cI, owl, .inl oww))]) [0, 1, 2] rfl) hK 5 rfl rfl rfl, (kPreW (As := [.ref h0, .int (1 : Int32)]) (hP.sub (ws' := [(h0, .inr (5, [.int on, .int oo, .int og, .ref h1, .ref h2, .int ost, .int ord, .int oac, .int ore, .int okn, .int oth])), (h1, .inl (cI, orl, .inl ork)), (h2, .inl (cI, owl, .inl oww))]) [0, 1, 2] rfl) (hD.sub (ws' := [(h0, .inr (5, [.int on, .int oo, .int og, .ref h1, .ref h2, .int ost, .int ord, .int oac, .int ore, .int okn, .int oth])), (h1, .inl (cI, orl, .inl ork)), (h2, .inl (cI, owl, .inl oww))]) [0, 1, 2] (by decide) rfl) hK hN).2⟩ rfl rfl hl.1 rfl (lv_room (Nat.le_of_ble_eq_true rfl)) dX3_isSure_22 ⟨Nat.le_of_ble_eq_true rfl, Nat.le_of_ble_eq_true rfl⟩) hP hD hS hA [0, 1, 2] [] rfl rfl (by decide) (by decide) (fun r22 u H locs hv hP hD hS => ?_)
        obtain ⟨x22_0, rfl⟩ : ∃ z, z = u := ⟨_, rfl⟩
        have hP : va_P D vwCl [(h0, .inr (5, [.int on, .int oo, .int og, .ref h1, .ref h2, .int ost, .int ord, .int oac, .int ore, .int okn, .int x22_0])), (h1, .inl (cI, orl, .inl ork)), (h2, .inl (cI, owl, .inl oww))] H := hP.sub [0, 1, 2] rfl
        have hD : va_D A [(h0, .inr (5, [.int on, .int oo, .int og, .ref h1, .ref h2, .int ost, .int ord, .int oac, .int ore, .int okn, .int x22_0])), (h1, .inl (cI, orl, .inl ork)), (h2, .inl (cI, owl, .inl oww))] := hD.sub [0, 1, 2] (by decide) rfl
        refine lv_if_ne (tgt := 32) hx hb dX3_isSure_25 (by decide) (fun hc => ?_) (fun hc => ?_)
        · have hv := hv.1 hc
          refine lv_iconst (v := (0 : Int32)) hx hb dX3_isSure_32 (by decide) ?_
          refine W.widen (k := 0) (n := 0) (Nat.le_of_ble_eq_true rfl) (Nat.le_of_ble_eq_true rfl) ?_
          exact W.zret (v := (0 : Int32)) (ty := .boolean) hx hb hr rfl (kWi_ret (u := x22_0) hv hP hD hS) hS.2.2 dX3_isSure_33
        · have hv := hv.2 hc
          refine lv_iconst (v := (1 : Int32)) hx hb dX3_isSure_28 (by decide) ?_
          refine lv_goto (tgt := 33) hx hb dX3_isSure_29 (by decide) ?_
          refine W.widen (k := 0) (n := 0) (Nat.le_of_ble_eq_true rfl) (Nat.le_of_ble_eq_true rfl) ?_
          exact W.zret (v := (1 : Int32)) (ty := .boolean) hx hb hr rfl (kWi_ret (u := x22_0) hv hP hD hS) hS.2.2 dX3_isSure_33
set_option maxHeartbeats 4000000 in
set_option maxRecDepth 100000 in
theorem kX3_choicesW (l : Launch) (D : va_G) (cI cB : ClassId) (h0 : Nat) (h1 : Nat) (h2 : Nat) (on : Int32) (oo : Int32) (og : Int32) (orl : Nat) (ork : Nat → Int32) (owl : Nat) (oww : Nat → Int32) (ost : Int32) (ord : Int32) (oac : Int32) (ore : Int32) (okn : Int32) (oth : Int32) (a1 : Int32) (sz : Nat) (post : Int32 → Int32 → Prop) (hv : qX3_choicesW on oo owl oww a1 post) : Met l yX3_choices wsX3_choices ({ frames := 2, cells := 0, slots := 0, locals := 44 }) (va_Pc [.ref h0, .int a1] (kBW D cI cB sz [(h0, .inr (5, [.int on, .int oo, .int og, .ref h1, .ref h2, .int ost, .int ord, .int oac, .int ore, .int okn, .int oth])), (h1, .inl (cI, orl, .inl ork)), (h2, .inl (cI, owl, .inl oww))])) (va_Qi (fun (r : Int32) (u : Int32) => post r u) (fun (u : Int32) (t : State) => kE D (va_A [(h0, .inr (5, [.int on, .int oo, .int og, .ref h1, .ref h2, .int ost, .int ord, .int oac, .int ore, .int okn, .int oth])), (h1, .inl (cI, orl, .inl ork)), (h2, .inl (cI, owl, .inl oww))] sz) [(h0, .inr (5, [.int on, .int oo, .int og, .ref h1, .ref h2, .int ost, .int ord, .int oac, .int ore, .int okn, .int u])), (h1, .inl (cI, orl, .inl ork)), (h2, .inl (cI, owl, .inl oww))] t) (va_A [(h0, .inr (5, [.int on, .int oo, .int og, .ref h1, .ref h2, .int ost, .int ord, .int oac, .int ore, .int okn, .int oth])), (h1, .inl (cI, orl, .inl ork)), (h2, .inl (cI, owl, .inl oww))] sz)) 0 0 (va_A [(h0, .inr (5, [.int on, .int oo, .int og, .ref h1, .ref h2, .int ost, .int ord, .int oac, .int ore, .int okn, .int oth])), (h1, .inl (cI, orl, .inl ork)), (h2, .inl (cI, owl, .inl oww))] sz) := by
  refine Met.ofW (cc := cX3_choices) (maxL := 2) (ret := (some .int)) (by decide) rfl ?_
  intro p e s m args below meth c s₁ B hml hv0
  obtain ⟨rfl, hsz, ⟨hP, hK, hN⟩, hD0⟩ := hv0
  have hx := B.exec
  have hb := B.bytes
  have hr := B.returns
  have hts := atoms_spec (ws := wsX3_choices) B.pre
  have hown : s.vm.findClass RX3 = some m.cls := findClass_of_methodNamed B.named
  have hlocks := B.notSynchronized
  subst hsz
  have hD := hD0.self (sz := s.heap.size)
  generalize hAe : va_A [(h0, .inr (5, [.int on, .int oo, .int og, .ref h1, .ref h2, .int ost, .int ord, .int oac, .int ore, .int okn, .int oth])), (h1, .inl (cI, orl, .inl ork)), (h2, .inl (cI, owl, .inl oww))] s.heap.size = A at hD ⊢
  have hA : ∀ q : Nat, s.heap.size ≤ q → A q := fun q h => by rw [← hAe]; exact Or.inr h
  have hS : va_S A s.heap s.heap [] := va_S.rf
  have hl := lv_entry ([.ref h0, .int a1]) (n := 2) (Nat.le_of_ble_eq_true rfl)
  rw [lg_entry_eq]
  generalize (lg_sl ([.ref h0, .int a1]) ++ List.replicate (2 - (lg_sl ([.ref h0, .int a1])).length) Slot.unset).toArray = ls at hl ⊢
  have hl : lv_has ls 2 [(0, .ref h0), (1, .int a1)] := hl
  refine lv_aload_n hx hb dX3_choices_0 rfl (lv_at hl 0 rfl) ?_
  refine lv_iload_n hx hb dX3_choices_1 rfl (lv_at hl 1 rfl) ?_
  refine kc_S (As := [.int a1]) (rest := [.ref h0]) ⟨hx, hb, hml, hown, hts⟩ (kX3_isSide l D cI cB a1 _ hv) (va_cwS 1 hts gX3_choices_X3_isSide rfl rfl rfl (by decide +kernel) ⟨Nat.le_of_ble_eq_true rfl, Nat.le_of_ble_eq_true rfl⟩) (hP.sub (ws' := []) [] rfl) hK hN rfl hl.1 rfl (Nat.le_of_ble_eq_true rfl) dX3_choices_2 ⟨Nat.le_of_ble_eq_true rfl, Nat.le_of_ble_eq_true rfl⟩ (fun r2 hv => ?_)
  refine lv_if_ne (tgt := 12) hx hb dX3_choices_5 (by decide) (fun hc => ?_) (fun hc => ?_)
  · have hv := hv.1 hc
    refine lv_iconst (v := (0 : Int32)) hx hb dX3_choices_12 (by decide) ?_
    refine kw_i (wr := []) (va_runV (As := [.int (0 : Int32)]) (rest := []) ⟨hx, hb, hml, hown, hts⟩ (kX3_isThrown_W l D cI cB h0 h1 h2 on oo og orl ork owl oww ost ord oac ore okn oth (0 : Int32) _ _ hv) (cwV 1 hts gX3_choices_X3_isThrown_ rfl rfl rfl (by decide +kernel) ⟨Nat.le_of_ble_eq_true rfl, Nat.le_of_ble_eq_true rfl⟩) ⟨(kPreW (As := [.ref h0, .int (0 : Int32)]) (hP.sub (ws' := [(h0, .inr (5, [.int on, .int oo, .int og, .ref h1, .ref h2, .int ost, .int ord, .int oac, .int ore, .int okn, .int oth])), (h1, .inl (cI, orl, .inl ork)), (h2, .inl (cI, owl, .inl oww))]) [0, 1, 2] rfl) (hD.sub (ws' := [(h0, .inr (5, [.int on, .int oo, .int og, .ref h1, .ref h2, .int ost, .int ord, .int oac, .int ore, .int okn, .int oth])), (h1, .inl (cI, orl, .inl ork)), (h2, .inl (cI, owl, .inl oww))]) [0, 1, 2] (by decide) rfl) hK hN).1, kRecv (hP.sub (ws' := [(h0, .inr (5, [.int on, .int oo, .int og, .ref h1, .ref h2, .int ost, .int ord, .int oac, .int ore, .int okn, .int oth])), (h1, .inl (cI, orl, .inl ork)), (h2, .inl (cI, owl, .inl oww))]) [0, 1, 2] rfl) hK 5 rfl rfl rfl, (kPreW (As := [.ref h0, .int (0 : Int32)]) (hP.sub (ws' := [(h0, .inr (5, [.int on, .int oo, .int og, .ref h1, .ref h2, .int ost, .int ord, .int oac, .int ore, .int okn, .int oth])), (h1, .inl (cI, orl, .inl ork)), (h2, .inl (cI, owl, .inl oww))]) [0, 1, 2] rfl) (hD.sub (ws' := [(h0, .inr (5, [.int on, .int oo, .int og, .ref h1, .ref h2, .int ost, .int ord, .int oac, .int ore, .int okn, .int oth])), (h1, .inl (cI, orl, .inl ork)), (h2, .inl (cI, owl, .inl oww))]) [0, 1, 2] (by decide) rfl) hK hN).2⟩ rfl rfl hl.1 rfl (lv_room (Nat.le_of_ble_eq_true rfl)) dX3_choices_13 ⟨Nat.le_of_ble_eq_true rfl, Nat.le_of_ble_eq_true rfl⟩) hP hD hS hA [0, 1, 2] [] rfl rfl (by decide) (by decide) (fun r13 u H locs hv hP hD hS => ?_)
    obtain ⟨x13_0, rfl⟩ : ∃ z, z = u := ⟨_, rfl⟩
    have hP : va_P D vwCl [(h0, .inr (5, [.int on, .int oo, .int og, .ref h1, .ref h2, .int ost, .int ord, .int oac, .int ore, .int okn, .int x13_0])), (h1, .inl (cI, orl, .inl ork)), (h2, .inl (cI, owl, .inl oww))] H := hP.sub [0, 1, 2] rfl
    have hD : va_D A [(h0, .inr (5, [.int on, .int oo, .int og, .ref h1, .ref h2, .int ost, .int ord, .int oac, .int ore, .int okn, .int x13_0])), (h1, .inl (cI, orl, .inl ork)), (h2, .inl (cI, owl, .inl oww))] := hD.sub [0, 1, 2] (by decide) rfl
    refine lv_if_eq (tgt := 23) hx hb dX3_choices_16 (by decide) (fun hc => ?_) (fun hc => ?_)
    · have hv := hv.1 hc
      refine lv_aload_n hx hb dX3_choices_23 rfl (lv_at hl 0 rfl) ?_
      refine lv_iload_n hx hb dX3_choices_24 rfl (lv_at hl 1 rfl) ?_
      refine kc_V (As := [.int a1]) (rest := []) ⟨hx, hb, hml, hown, hts⟩ (kX3_choicesOf l D cI cB h0 h1 h2 on oo og orl ork owl oww ost ord oac ore okn x13_0 a1 _ hv) (cwV 1 hts gX3_choices_X3_choicesOf rfl rfl rfl (by decide +kernel) ⟨Nat.le_of_ble_eq_true rfl, Nat.le_of_ble_eq_true rfl⟩) hP hK hN 5 rfl rfl rfl rfl hl.1 rfl (Nat.le_of_ble_eq_true rfl) dX3_choices_25 ⟨Nat.le_of_ble_eq_true rfl, Nat.le_of_ble_eq_true rfl⟩ (fun r25 hv => ?_)
      refine W.widen (k := 0) (n := 0) (Nat.le_of_ble_eq_true rfl) (Nat.le_of_ble_eq_true rfl) ?_
      exact W.iret (v := r25) hx hb hr (kWi_ret (u := x13_0) hv hP hD hS) hS.2.2 dX3_choices_28
    · have hv := hv.2 hc
      refine lv_iconst (v := (0 : Int32)) hx hb dX3_choices_19 (by decide) ?_
      refine lv_goto (tgt := 28) hx hb dX3_choices_20 (by decide) ?_
      refine W.widen (k := 0) (n := 0) (Nat.le_of_ble_eq_true rfl) (Nat.le_of_ble_eq_true rfl) ?_
      exact W.iret (v := (0 : Int32)) hx hb hr (kWi_ret (u := x13_0) hv hP hD hS) hS.2.2 dX3_choices_28
  · have hv := hv.2 hc
    refine lv_iconst (v := (1 : Int32)) hx hb dX3_choices_8 (by decide) ?_
    refine lv_goto (tgt := 13) hx hb dX3_choices_9 (by decide) ?_
    refine kw_i (wr := []) (va_runV (As := [.int (1 : Int32)]) (rest := []) ⟨hx, hb, hml, hown, hts⟩ (kX3_isThrown_W l D cI cB h0 h1 h2 on oo og orl ork owl oww ost ord oac ore okn oth (1 : Int32) _ _ hv) (cwV 1 hts gX3_choices_X3_isThrown_ rfl rfl rfl (by decide +kernel) ⟨Nat.le_of_ble_eq_true rfl, Nat.le_of_ble_eq_true rfl⟩) ⟨(kPreW (As := [.ref h0, .int (1 : Int32)]) (hP.sub (ws' := [(h0, .inr (5, [.int on, .int oo, .int og, .ref h1, .ref h2, .int ost, .int ord, .int oac, .int ore, .int okn, .int oth])), (h1, .inl (cI, orl, .inl ork)), (h2, .inl (cI, owl, .inl oww))]) [0, 1, 2] rfl) (hD.sub (ws' := [(h0, .inr (5, [.int on, .int oo, .int og, .ref h1, .ref h2, .int ost, .int ord, .int oac, .int ore, .int okn, .int oth])), (h1, .inl (cI, orl, .inl ork)), (h2, .inl (cI, owl, .inl oww))]) [0, 1, 2] (by decide) rfl) hK hN).1, kRecv (hP.sub (ws' := [(h0, .inr (5, [.int on, .int oo, .int og, .ref h1, .ref h2, .int ost, .int ord, .int oac, .int ore, .int okn, .int oth])), (h1, .inl (cI, orl, .inl ork)), (h2, .inl (cI, owl, .inl oww))]) [0, 1, 2] rfl) hK 5 rfl rfl rfl, (kPreW (As := [.ref h0, .int (1 : Int32)]) (hP.sub (ws' := [(h0, .inr (5, [.int on, .int oo, .int og, .ref h1, .ref h2, .int ost, .int ord, .int oac, .int ore, .int okn, .int oth])), (h1, .inl (cI, orl, .inl ork)), (h2, .inl (cI, owl, .inl oww))]) [0, 1, 2] rfl) (hD.sub (ws' := [(h0, .inr (5, [.int on, .int oo, .int og, .ref h1, .ref h2, .int ost, .int ord, .int oac, .int ore, .int okn, .int oth])), (h1, .inl (cI, orl, .inl ork)), (h2, .inl (cI, owl, .inl oww))]) [0, 1, 2] (by decide) rfl) hK hN).2⟩ rfl rfl hl.1 rfl (lv_room (Nat.le_of_ble_eq_true rfl)) dX3_choices_13 ⟨Nat.le_of_ble_eq_true rfl, Nat.le_of_ble_eq_true rfl⟩) hP hD hS hA [0, 1, 2] [] rfl rfl (by decide) (by decide) (fun r13 u H locs hv hP hD hS => ?_)
    obtain ⟨x13_0, rfl⟩ : ∃ z, z = u := ⟨_, rfl⟩
    have hP : va_P D vwCl [(h0, .inr (5, [.int on, .int oo, .int og, .ref h1, .ref h2, .int ost, .int ord, .int oac, .int ore, .int okn, .int x13_0])), (h1, .inl (cI, orl, .inl ork)), (h2, .inl (cI, owl, .inl oww))] H := hP.sub [0, 1, 2] rfl
    have hD : va_D A [(h0, .inr (5, [.int on, .int oo, .int og, .ref h1, .ref h2, .int ost, .int ord, .int oac, .int ore, .int okn, .int x13_0])), (h1, .inl (cI, orl, .inl ork)), (h2, .inl (cI, owl, .inl oww))] := hD.sub [0, 1, 2] (by decide) rfl
    refine lv_if_eq (tgt := 23) hx hb dX3_choices_16 (by decide) (fun hc => ?_) (fun hc => ?_)
    · have hv := hv.1 hc
      refine lv_aload_n hx hb dX3_choices_23 rfl (lv_at hl 0 rfl) ?_
      refine lv_iload_n hx hb dX3_choices_24 rfl (lv_at hl 1 rfl) ?_
      refine kc_V (As := [.int a1]) (rest := []) ⟨hx, hb, hml, hown, hts⟩ (kX3_choicesOf l D cI cB h0 h1 h2 on oo og orl ork owl oww ost ord oac ore okn x13_0 a1 _ hv) (cwV 1 hts gX3_choices_X3_choicesOf rfl rfl rfl (by decide +kernel) ⟨Nat.le_of_ble_eq_true rfl, Nat.le_of_ble_eq_true rfl⟩) hP hK hN 5 rfl rfl rfl rfl hl.1 rfl (Nat.le_of_ble_eq_true rfl) dX3_choices_25 ⟨Nat.le_of_ble_eq_true rfl, Nat.le_of_ble_eq_true rfl⟩ (fun r25 hv => ?_)
      refine W.widen (k := 0) (n := 0) (Nat.le_of_ble_eq_true rfl) (Nat.le_of_ble_eq_true rfl) ?_
      exact W.iret (v := r25) hx hb hr (kWi_ret (u := x13_0) hv hP hD hS) hS.2.2 dX3_choices_28
    · have hv := hv.2 hc
      refine lv_iconst (v := (0 : Int32)) hx hb dX3_choices_19 (by decide) ?_
      refine lv_goto (tgt := 28) hx hb dX3_choices_20 (by decide) ?_
      refine W.widen (k := 0) (n := 0) (Nat.le_of_ble_eq_true rfl) (Nat.le_of_ble_eq_true rfl) ?_
      exact W.iret (v := (0 : Int32)) hx hb hr (kWi_ret (u := x13_0) hv hP hD hS) hS.2.2 dX3_choices_28
set_option maxHeartbeats 4000000 in
set_option maxRecDepth 100000 in
theorem kX3_triedW (l : Launch) (D : va_G) (cI cB : ClassId) (h0 : Nat) (h1 : Nat) (h2 : Nat) (on : Int32) (oo : Int32) (og : Int32) (orl : Nat) (ork : Nat → Int32) (owl : Nat) (oww : Nat → Int32) (ost : Int32) (ord : Int32) (oac : Int32) (ore : Int32) (okn : Int32) (oth : Int32) (a1 : Int32) (a2 : Int32) (sz : Nat) (post : Int32 → Int32 → Prop) (hv : qX3_triedW on oo og orl ork owl oww a1 a2 post) : Met l yX3_tried wsX3_tried ({ frames := 6, cells := 0, slots := 0, locals := 134 }) (va_Pc [.ref h0, .int a1, .int a2] (kBW D cI cB sz [(h0, .inr (5, [.int on, .int oo, .int og, .ref h1, .ref h2, .int ost, .int ord, .int oac, .int ore, .int okn, .int oth])), (h1, .inl (cI, orl, .inl ork)), (h2, .inl (cI, owl, .inl oww))])) (va_Qi (fun (r : Int32) (u : Int32) => post r u) (fun (u : Int32) (t : State) => kE D (va_A [(h0, .inr (5, [.int on, .int oo, .int og, .ref h1, .ref h2, .int ost, .int ord, .int oac, .int ore, .int okn, .int oth])), (h1, .inl (cI, orl, .inl ork)), (h2, .inl (cI, owl, .inl oww))] sz) [(h0, .inr (5, [.int on, .int oo, .int og, .ref h1, .ref h2, .int ost, .int ord, .int oac, .int ore, .int okn, .int u])), (h1, .inl (cI, orl, .inl ork)), (h2, .inl (cI, owl, .inl oww))] t) (va_A [(h0, .inr (5, [.int on, .int oo, .int og, .ref h1, .ref h2, .int ost, .int ord, .int oac, .int ore, .int okn, .int oth])), (h1, .inl (cI, orl, .inl ork)), (h2, .inl (cI, owl, .inl oww))] sz)) 0 0 (va_A [(h0, .inr (5, [.int on, .int oo, .int og, .ref h1, .ref h2, .int ost, .int ord, .int oac, .int ore, .int okn, .int oth])), (h1, .inl (cI, orl, .inl ork)), (h2, .inl (cI, owl, .inl oww))] sz) := by
  refine Met.ofW (cc := cX3_tried) (maxL := 3) (ret := (some .int)) (by decide) rfl ?_
  intro p e s m args below meth c s₁ B hml hv0
  obtain ⟨rfl, hsz, ⟨hP, hK, hN⟩, hD0⟩ := hv0
  have hx := B.exec
  have hb := B.bytes
  have hr := B.returns
  have hts := atoms_spec (ws := wsX3_tried) B.pre
  have hown : s.vm.findClass RX3 = some m.cls := findClass_of_methodNamed B.named
  have hlocks := B.notSynchronized
  subst hsz
  have hD := hD0.self (sz := s.heap.size)
  generalize hAe : va_A [(h0, .inr (5, [.int on, .int oo, .int og, .ref h1, .ref h2, .int ost, .int ord, .int oac, .int ore, .int okn, .int oth])), (h1, .inl (cI, orl, .inl ork)), (h2, .inl (cI, owl, .inl oww))] s.heap.size = A at hD ⊢
  have hA : ∀ q : Nat, s.heap.size ≤ q → A q := fun q h => by rw [← hAe]; exact Or.inr h
  have hS : va_S A s.heap s.heap [] := va_S.rf
  have hl := lv_entry ([.ref h0, .int a1, .int a2]) (n := 3) (Nat.le_of_ble_eq_true rfl)
  rw [lg_entry_eq]
  generalize (lg_sl ([.ref h0, .int a1, .int a2]) ++ List.replicate (3 - (lg_sl ([.ref h0, .int a1, .int a2])).length) Slot.unset).toArray = ls at hl ⊢
  have hl : lv_has ls 3 [(0, .ref h0), (1, .int a1), (2, .int a2)] := hl
  refine lv_aload_n hx hb dX3_tried_0 rfl (lv_at hl 0 rfl) ?_
  refine lv_iload_n hx hb dX3_tried_1 rfl (lv_at hl 1 rfl) ?_
  have J22 : ∀ (s0_j22 : Int32) (H : Heap) (locs : List Loc) (ls : Array Slot), va_P D vwCl [(h0, .inr (5, [.int on, .int oo, .int og, .ref h1, .ref h2, .int ost, .int ord, .int oac, .int ore, .int okn, .int oth])), (h1, .inl (cI, orl, .inl ork)), (h2, .inl (cI, owl, .inl oww))] H → va_D A [(h0, .inr (5, [.int on, .int oo, .int og, .ref h1, .ref h2, .int ost, .int ord, .int oac, .int ore, .int okn, .int oth])), (h1, .inl (cI, orl, .inl ork)), (h2, .inl (cI, owl, .inl oww))] → va_S A s.heap H locs → qX3_triedW_j22 on oo og orl ork owl oww a1 a2 s0_j22 post → lv_has ls 3 [(0, .ref h0), (1, .int a1), (2, .int a2)] → W p l e (headSpec wsX3_tried ({ frames := 6, cells := 0, slots := 0, locals := 134 })).room s m ([.ref h0, .int a1, .int a2] : List Value).toArray below meth c H locs 0 0 (MQ below (va_Qi (fun (r : Int32) (u : Int32) => post r u) (fun (u : Int32) (t : State) => kE D A [(h0, .inr (5, [.int on, .int oo, .int og, .ref h1, .ref h2, .int ost, .int ord, .int oac, .int ore, .int okn, .int u])), (h1, .inl (cI, orl, .inl ork)), (h2, .inl (cI, owl, .inl oww))] t) A) ([.ref h0, .int a1, .int a2] : List Value).toArray s 0 0 A) (F0 m 22 ls [.int s0_j22, .ref h0]) := by
    intro s0_j22 H locs ls hP hD hS hv hl
    refine kw_i (wr := []) (va_runV (As := [.int s0_j22]) (rest := []) ⟨hx, hb, hml, hown, hts⟩ (kX3_isThrown_W l D cI cB h0 h1 h2 on oo og orl ork owl oww ost ord oac ore okn oth s0_j22 _ _ hv) (cwV 1 hts gX3_tried_X3_isThrown_ rfl rfl rfl (by decide +kernel) ⟨Nat.le_of_ble_eq_true rfl, Nat.le_of_ble_eq_true rfl⟩) ⟨(kPreW (As := [.ref h0, .int s0_j22]) (hP.sub (ws' := [(h0, .inr (5, [.int on, .int oo, .int og, .ref h1, .ref h2, .int ost, .int ord, .int oac, .int ore, .int okn, .int oth])), (h1, .inl (cI, orl, .inl ork)), (h2, .inl (cI, owl, .inl oww))]) [0, 1, 2] rfl) (hD.sub (ws' := [(h0, .inr (5, [.int on, .int oo, .int og, .ref h1, .ref h2, .int ost, .int ord, .int oac, .int ore, .int okn, .int oth])), (h1, .inl (cI, orl, .inl ork)), (h2, .inl (cI, owl, .inl oww))]) [0, 1, 2] (by decide) rfl) hK hN).1, kRecv (hP.sub (ws' := [(h0, .inr (5, [.int on, .int oo, .int og, .ref h1, .ref h2, .int ost, .int ord, .int oac, .int ore, .int okn, .int oth])), (h1, .inl (cI, orl, .inl ork)), (h2, .inl (cI, owl, .inl oww))]) [0, 1, 2] rfl) hK 5 rfl rfl rfl, (kPreW (As := [.ref h0, .int s0_j22]) (hP.sub (ws' := [(h0, .inr (5, [.int on, .int oo, .int og, .ref h1, .ref h2, .int ost, .int ord, .int oac, .int ore, .int okn, .int oth])), (h1, .inl (cI, orl, .inl ork)), (h2, .inl (cI, owl, .inl oww))]) [0, 1, 2] rfl) (hD.sub (ws' := [(h0, .inr (5, [.int on, .int oo, .int og, .ref h1, .ref h2, .int ost, .int ord, .int oac, .int ore, .int okn, .int oth])), (h1, .inl (cI, orl, .inl ork)), (h2, .inl (cI, owl, .inl oww))]) [0, 1, 2] (by decide) rfl) hK hN).2⟩ rfl rfl hl.1 rfl (lv_room (Nat.le_of_ble_eq_true rfl)) dX3_tried_22 ⟨Nat.le_of_ble_eq_true rfl, Nat.le_of_ble_eq_true rfl⟩) hP hD hS hA [0, 1, 2] [] rfl rfl (by decide) (by decide) (fun r22 u H locs hv hP hD hS => ?_)
    obtain ⟨x22_0, rfl⟩ : ∃ z, z = u := ⟨_, rfl⟩
    have hP : va_P D vwCl [(h0, .inr (5, [.int on, .int oo, .int og, .ref h1, .ref h2, .int ost, .int ord, .int oac, .int ore, .int okn, .int x22_0])), (h1, .inl (cI, orl, .inl ork)), (h2, .inl (cI, owl, .inl oww))] H := hP.sub [0, 1, 2] rfl
    have hD : va_D A [(h0, .inr (5, [.int on, .int oo, .int og, .ref h1, .ref h2, .int ost, .int ord, .int oac, .int ore, .int okn, .int x22_0])), (h1, .inl (cI, orl, .inl ork)), (h2, .inl (cI, owl, .inl oww))] := hD.sub [0, 1, 2] (by decide) rfl
    refine lv_if_eq (tgt := 30) hx hb dX3_tried_25 (by decide) (fun hc => ?_) (fun hc => ?_)
    · have hv := hv.1 hc
      refine lv_aload_n hx hb dX3_tried_30 rfl (lv_at hl 0 rfl) ?_
      refine lv_iload_n hx hb dX3_tried_31 rfl (lv_at hl 2 rfl) ?_
      refine kc_V (As := [.int a2]) (rest := []) ⟨hx, hb, hml, hown, hts⟩ (kX3_choicesOf l D cI cB h0 h1 h2 on oo og orl ork owl oww ost ord oac ore okn x22_0 a2 _ hv) (cwV 1 hts gX3_tried_X3_choicesOf rfl rfl rfl (by decide +kernel) ⟨Nat.le_of_ble_eq_true rfl, Nat.le_of_ble_eq_true rfl⟩) hP hK hN 5 rfl rfl rfl rfl hl.1 rfl (Nat.le_of_ble_eq_true rfl) dX3_tried_32 ⟨Nat.le_of_ble_eq_true rfl, Nat.le_of_ble_eq_true rfl⟩ (fun r32 hv => ?_)
      refine lv_bipush (v := (64 : Int32)) hx hb dX3_tried_35 (by decide) ?_
      refine lv_icmp_le (tgt := 45) hx hb dX3_tried_37 (by decide) (fun hc => ?_) (fun hc => ?_)
      · have hv := hv.1 hc
        refine lv_aload_n hx hb dX3_tried_45 rfl (lv_at hl 0 rfl) ?_
        refine lv_iload_n hx hb dX3_tried_46 rfl (lv_at hl 1 rfl) ?_
        refine lv_iload_n hx hb dX3_tried_47 rfl (lv_at hl 2 rfl) ?_
        refine kc_V (As := [.int a1, .int a2]) (rest := []) ⟨hx, hb, hml, hown, hts⟩ (kX3_wonIn l D cI cB h0 h1 h2 on oo og orl ork owl oww ost ord oac ore okn x22_0 a1 a2 _ hv) (cwV 2 hts gX3_tried_X3_wonIn rfl rfl rfl (by decide +kernel) ⟨Nat.le_of_ble_eq_true rfl, Nat.le_of_ble_eq_true rfl⟩) hP hK hN 5 rfl rfl rfl rfl hl.1 rfl (Nat.le_of_ble_eq_true rfl) dX3_tried_48 ⟨Nat.le_of_ble_eq_true rfl, Nat.le_of_ble_eq_true rfl⟩ (fun r48 hv => ?_)
        refine W.widen (k := 0) (n := 0) (Nat.le_of_ble_eq_true rfl) (Nat.le_of_ble_eq_true rfl) ?_
        exact W.iret (v := r48) hx hb hr (kWi_ret (u := x22_0) hv hP hD hS) hS.2.2 dX3_tried_51
      · have hv := hv.2 hc
        refine lv_bipush (v := (-9 : Int32)) hx hb dX3_tried_40 (by decide) ?_
        refine lv_goto (tgt := 51) hx hb dX3_tried_42 (by decide) ?_
        refine W.widen (k := 0) (n := 0) (Nat.le_of_ble_eq_true rfl) (Nat.le_of_ble_eq_true rfl) ?_
        exact W.iret (v := (-9 : Int32)) hx hb hr (kWi_ret (u := x22_0) hv hP hD hS) hS.2.2 dX3_tried_51
    · have hv := hv.2 hc
      refine lv_iconst (v := (0 : Int32)) hx hb dX3_tried_28 (by decide) ?_
      refine W.widen (k := 0) (n := 0) (Nat.le_of_ble_eq_true rfl) (Nat.le_of_ble_eq_true rfl) ?_
      exact W.iret (v := (0 : Int32)) hx hb hr (kWi_ret (u := x22_0) hv hP hD hS) hS.2.2 dX3_tried_29
  have J17 : ∀  (H : Heap) (locs : List Loc) (ls : Array Slot), va_P D vwCl [(h0, .inr (5, [.int on, .int oo, .int og, .ref h1, .ref h2, .int ost, .int ord, .int oac, .int ore, .int okn, .int oth])), (h1, .inl (cI, orl, .inl ork)), (h2, .inl (cI, owl, .inl oww))] H → va_D A [(h0, .inr (5, [.int on, .int oo, .int og, .ref h1, .ref h2, .int ost, .int ord, .int oac, .int ore, .int okn, .int oth])), (h1, .inl (cI, orl, .inl ork)), (h2, .inl (cI, owl, .inl oww))] → va_S A s.heap H locs → qX3_triedW_j17 on oo og orl ork owl oww a1 a2 post → lv_has ls 3 [(0, .ref h0), (1, .int a1), (2, .int a2)] → W p l e (headSpec wsX3_tried ({ frames := 6, cells := 0, slots := 0, locals := 134 })).room s m ([.ref h0, .int a1, .int a2] : List Value).toArray below meth c H locs 0 0 (MQ below (va_Qi (fun (r : Int32) (u : Int32) => post r u) (fun (u : Int32) (t : State) => kE D A [(h0, .inr (5, [.int on, .int oo, .int og, .ref h1, .ref h2, .int ost, .int ord, .int oac, .int ore, .int okn, .int u])), (h1, .inl (cI, orl, .inl ork)), (h2, .inl (cI, owl, .inl oww))] t) A) ([.ref h0, .int a1, .int a2] : List Value).toArray s 0 0 A) (F0 m 17 ls [.ref h0]) := by
    intro  H locs ls hP hD hS hv hl
    refine lv_iconst (v := (1 : Int32)) hx hb dX3_tried_17 (by decide) ?_
    refine lv_goto (tgt := 22) hx hb dX3_tried_18 (by decide) ?_
    refine W.widen (k := 0) (n := 0) (Nat.le_of_ble_eq_true rfl) (Nat.le_of_ble_eq_true rfl) ?_
    exact J22 _ _ _ _ hP hD hS hv (lv_sub hl [0, 1, 2] rfl)
  refine lv_if_lt (tgt := 17) hx hb dX3_tried_2 (by decide) (fun hc => ?_) (fun hc => ?_)
  · have hv := hv.1 hc
    refine W.widen (k := 0) (n := 0) (Nat.le_of_ble_eq_true rfl) (Nat.le_of_ble_eq_true rfl) ?_
    exact J17  _ _ _ hP hD hS hv (lv_sub hl [0, 1, 2] rfl)
  · have hv := hv.2 hc
    refine lv_iload_n hx hb dX3_tried_5 rfl (lv_at hl 1 rfl) ?_
    refine lv_iconst (v := (3 : Int32)) hx hb dX3_tried_6 (by decide) ?_
    refine lv_icmp_gt (tgt := 17) hx hb dX3_tried_7 (by decide) (fun hc => ?_) (fun hc => ?_)
    · have hv := hv.1 hc
      refine W.widen (k := 0) (n := 0) (Nat.le_of_ble_eq_true rfl) (Nat.le_of_ble_eq_true rfl) ?_
      exact J17  _ _ _ hP hD hS hv (lv_sub hl [0, 1, 2] rfl)
    · have hv := hv.2 hc
      refine lv_iload_n hx hb dX3_tried_10 rfl (lv_at hl 2 rfl) ?_
      refine kc_S (As := [.int a2]) (rest := [.ref h0]) ⟨hx, hb, hml, hown, hts⟩ (kX3_isSide l D cI cB a2 _ hv) (va_cwS 1 hts gX3_tried_X3_isSide rfl rfl rfl (by decide +kernel) ⟨Nat.le_of_ble_eq_true rfl, Nat.le_of_ble_eq_true rfl⟩) (hP.sub (ws' := []) [] rfl) hK hN rfl hl.1 rfl (Nat.le_of_ble_eq_true rfl) dX3_tried_11 ⟨Nat.le_of_ble_eq_true rfl, Nat.le_of_ble_eq_true rfl⟩ (fun r11 hv => ?_)
      refine lv_if_ne (tgt := 21) hx hb dX3_tried_14 (by decide) (fun hc => ?_) (fun hc => ?_)
      · have hv := hv.1 hc
        refine lv_iconst (v := (0 : Int32)) hx hb dX3_tried_21 (by decide) ?_
        refine W.widen (k := 0) (n := 0) (Nat.le_of_ble_eq_true rfl) (Nat.le_of_ble_eq_true rfl) ?_
        exact J22 _ _ _ _ hP hD hS hv (lv_sub hl [0, 1, 2] rfl)
      · have hv := hv.2 hc
        refine W.widen (k := 0) (n := 0) (Nat.le_of_ble_eq_true rfl) (Nat.le_of_ble_eq_true rfl) ?_
        exact J17  _ _ _ hP hD hS hv (lv_sub hl [0, 1, 2] rfl)
set_option maxHeartbeats 4000000 in
set_option maxRecDepth 100000 in
theorem kX3_withGoalW (l : Launch) (D : va_G) (cI cB : ClassId) (h0 : Nat) (h1 : Nat) (h2 : Nat) (on : Int32) (oo : Int32) (og : Int32) (orl : Nat) (ork : Nat → Int32) (owl : Nat) (oww : Nat → Int32) (ost : Int32) (ord : Int32) (oac : Int32) (ore : Int32) (okn : Int32) (oth : Int32) (a1 : Int32) (a2 : Int32) (a3 : Int32) (sz : Nat) (post : Int32 → Int32 → Int32 → Prop) (hv : qX3_withGoalW on oo og orl ork owl oww a1 a2 a3 post) : Met l yX3_withGoal wsX3_withGoal ({ frames := 6, cells := 0, slots := 0, locals := 134 }) (va_Pc [.ref h0, .int a1, .int a2, .int a3] (kBW D cI cB sz [(h0, .inr (5, [.int on, .int oo, .int og, .ref h1, .ref h2, .int ost, .int ord, .int oac, .int ore, .int okn, .int oth])), (h1, .inl (cI, orl, .inl ork)), (h2, .inl (cI, owl, .inl oww))])) (va_Qi (fun (r : Int32) (u : Int32 × Int32) => post r u.1 u.2) (fun (u : Int32 × Int32) (t : State) => kE D (va_A [(h0, .inr (5, [.int on, .int oo, .int og, .ref h1, .ref h2, .int ost, .int ord, .int oac, .int ore, .int okn, .int oth])), (h1, .inl (cI, orl, .inl ork)), (h2, .inl (cI, owl, .inl oww))] sz) [(h0, .inr (5, [.int on, .int oo, .int (u.1), .ref h1, .ref h2, .int ost, .int ord, .int oac, .int ore, .int okn, .int (u.2)])), (h1, .inl (cI, orl, .inl ork)), (h2, .inl (cI, owl, .inl oww))] t) (va_A [(h0, .inr (5, [.int on, .int oo, .int og, .ref h1, .ref h2, .int ost, .int ord, .int oac, .int ore, .int okn, .int oth])), (h1, .inl (cI, orl, .inl ork)), (h2, .inl (cI, owl, .inl oww))] sz)) 0 0 (va_A [(h0, .inr (5, [.int on, .int oo, .int og, .ref h1, .ref h2, .int ost, .int ord, .int oac, .int ore, .int okn, .int oth])), (h1, .inl (cI, orl, .inl ork)), (h2, .inl (cI, owl, .inl oww))] sz) := by
  refine Met.ofW (cc := cX3_withGoal) (maxL := 6) (ret := (some .int)) (by decide) rfl ?_
  intro p e s m args below meth c s₁ B hml hv0
  obtain ⟨rfl, hsz, ⟨hP, hK, hN⟩, hD0⟩ := hv0
  have hx := B.exec
  have hb := B.bytes
  have hr := B.returns
  have hts := atoms_spec (ws := wsX3_withGoal) B.pre
  have hown : s.vm.findClass RX3 = some m.cls := findClass_of_methodNamed B.named
  have hlocks := B.notSynchronized
  have hi_X3 : ∀ w ∈ wsX30, w ∈ wsX3_withGoal := by decide +kernel
  have hF23 := hts (.fieldLink RX3 23 "RoadgameModel" "goal" "I") (by decide +kernel)
  subst hsz
  have hD := hD0.self (sz := s.heap.size)
  generalize hAe : va_A [(h0, .inr (5, [.int on, .int oo, .int og, .ref h1, .ref h2, .int ost, .int ord, .int oac, .int ore, .int okn, .int oth])), (h1, .inl (cI, orl, .inl ork)), (h2, .inl (cI, owl, .inl oww))] s.heap.size = A at hD ⊢
  have hA : ∀ q : Nat, s.heap.size ≤ q → A q := fun q h => by rw [← hAe]; exact Or.inr h
  have hS : va_S A s.heap s.heap [] := va_S.rf
  have hl := lv_entry ([.ref h0, .int a1, .int a2, .int a3]) (n := 6) (Nat.le_of_ble_eq_true rfl)
  rw [lg_entry_eq]
  generalize (lg_sl ([.ref h0, .int a1, .int a2, .int a3]) ++ List.replicate (6 - (lg_sl ([.ref h0, .int a1, .int a2, .int a3])).length) Slot.unset).toArray = ls at hl ⊢
  have hl : lv_has ls 6 [(0, .ref h0), (1, .int a1), (2, .int a2), (3, .int a3)] := hl
  refine lv_aload_n hx hb dX3_withGoal_0 rfl (lv_at hl 0 rfl) ?_
  refine lv_aload_n hx hb dX3_withGoal_1 rfl (lv_at hl 0 rfl) ?_
  refine lv_iload_n hx hb dX3_withGoal_2 rfl (lv_at hl 3 rfl) ?_
  refine kc_V (As := [.int a3]) (rest := [.ref h0]) ⟨hx, hb, hml, hown, hts⟩ (kX3_isPlace l D cI cB h0 h1 h2 on oo og orl ork owl oww ost ord oac ore okn oth a3 _ hv) (cwV 1 hts gX3_withGoal_X3_isPlace rfl rfl rfl (by decide +kernel) ⟨Nat.le_of_ble_eq_true rfl, Nat.le_of_ble_eq_true rfl⟩) hP hK hN 5 rfl rfl rfl rfl hl.1 rfl (Nat.le_of_ble_eq_true rfl) dX3_withGoal_3 ⟨Nat.le_of_ble_eq_true rfl, Nat.le_of_ble_eq_true rfl⟩ (fun r3 hv => ?_)
  have J14 : ∀ (s0_j14 : Int32) (H : Heap) (locs : List Loc) (ls : Array Slot), va_P D vwCl [(h0, .inr (5, [.int on, .int oo, .int og, .ref h1, .ref h2, .int ost, .int ord, .int oac, .int ore, .int okn, .int oth])), (h1, .inl (cI, orl, .inl ork)), (h2, .inl (cI, owl, .inl oww))] H → va_D A [(h0, .inr (5, [.int on, .int oo, .int og, .ref h1, .ref h2, .int ost, .int ord, .int oac, .int ore, .int okn, .int oth])), (h1, .inl (cI, orl, .inl ork)), (h2, .inl (cI, owl, .inl oww))] → va_S A s.heap H locs → qX3_withGoalW_j14 on oo og orl ork owl oww a1 a2 a3 s0_j14 post → lv_has ls 6 [(0, .ref h0), (1, .int a1), (2, .int a2), (3, .int a3)] → W p l e (headSpec wsX3_withGoal ({ frames := 6, cells := 0, slots := 0, locals := 134 })).room s m ([.ref h0, .int a1, .int a2, .int a3] : List Value).toArray below meth c H locs 0 0 (MQ below (va_Qi (fun (r : Int32) (u : Int32 × Int32) => post r u.1 u.2) (fun (u : Int32 × Int32) (t : State) => kE D A [(h0, .inr (5, [.int on, .int oo, .int (u.1), .ref h1, .ref h2, .int ost, .int ord, .int oac, .int ore, .int okn, .int (u.2)])), (h1, .inl (cI, orl, .inl ork)), (h2, .inl (cI, owl, .inl oww))] t) A) ([.ref h0, .int a1, .int a2, .int a3] : List Value).toArray s 0 0 A) (F0 m 14 ls [.int s0_j14, .ref h0]) := by
    intro s0_j14 H locs ls hP hD hS hv hl
    refine lv_iload_n hx hb dX3_withGoal_14 rfl (lv_at hl 1 rfl) ?_
    have J35 : ∀ (s0_j35 : Int32) (s1_j35 : Int32) (H : Heap) (locs : List Loc) (ls : Array Slot), va_P D vwCl [(h0, .inr (5, [.int on, .int oo, .int og, .ref h1, .ref h2, .int ost, .int ord, .int oac, .int ore, .int okn, .int oth])), (h1, .inl (cI, orl, .inl ork)), (h2, .inl (cI, owl, .inl oww))] H → va_D A [(h0, .inr (5, [.int on, .int oo, .int og, .ref h1, .ref h2, .int ost, .int ord, .int oac, .int ore, .int okn, .int oth])), (h1, .inl (cI, orl, .inl ork)), (h2, .inl (cI, owl, .inl oww))] → va_S A s.heap H locs → qX3_withGoalW_j35 on oo og orl ork owl oww a1 a2 a3 s0_j35 s1_j35 post → lv_has ls 6 [(0, .ref h0), (1, .int a1), (2, .int a2), (3, .int a3)] → W p l e (headSpec wsX3_withGoal ({ frames := 6, cells := 0, slots := 0, locals := 134 })).room s m ([.ref h0, .int a1, .int a2, .int a3] : List Value).toArray below meth c H locs 0 0 (MQ below (va_Qi (fun (r : Int32) (u : Int32 × Int32) => post r u.1 u.2) (fun (u : Int32 × Int32) (t : State) => kE D A [(h0, .inr (5, [.int on, .int oo, .int (u.1), .ref h1, .ref h2, .int ost, .int ord, .int oac, .int ore, .int okn, .int (u.2)])), (h1, .inl (cI, orl, .inl ork)), (h2, .inl (cI, owl, .inl oww))] t) A) ([.ref h0, .int a1, .int a2, .int a3] : List Value).toArray s 0 0 A) (F0 m 35 ls [.int s0_j35, .int s1_j35, .ref h0]) := by
      intro s0_j35 s1_j35 H locs ls hP hD hS hv hl
      refine kw_i (wr := []) (va_runV (As := [.int s1_j35, .int s0_j35]) (rest := []) ⟨hx, hb, hml, hown, hts⟩ (kX3_isThrownW l D cI cB h0 h1 h2 on oo og orl ork owl oww ost ord oac ore okn oth s1_j35 s0_j35 _ _ hv) (cwV 2 hts gX3_withGoal_X3_isThrown rfl rfl rfl (by decide +kernel) ⟨Nat.le_of_ble_eq_true rfl, Nat.le_of_ble_eq_true rfl⟩) ⟨(kPreW (As := [.ref h0, .int s1_j35, .int s0_j35]) (hP.sub (ws' := [(h0, .inr (5, [.int on, .int oo, .int og, .ref h1, .ref h2, .int ost, .int ord, .int oac, .int ore, .int okn, .int oth])), (h1, .inl (cI, orl, .inl ork)), (h2, .inl (cI, owl, .inl oww))]) [0, 1, 2] rfl) (hD.sub (ws' := [(h0, .inr (5, [.int on, .int oo, .int og, .ref h1, .ref h2, .int ost, .int ord, .int oac, .int ore, .int okn, .int oth])), (h1, .inl (cI, orl, .inl ork)), (h2, .inl (cI, owl, .inl oww))]) [0, 1, 2] (by decide) rfl) hK hN).1, kRecv (hP.sub (ws' := [(h0, .inr (5, [.int on, .int oo, .int og, .ref h1, .ref h2, .int ost, .int ord, .int oac, .int ore, .int okn, .int oth])), (h1, .inl (cI, orl, .inl ork)), (h2, .inl (cI, owl, .inl oww))]) [0, 1, 2] rfl) hK 5 rfl rfl rfl, (kPreW (As := [.ref h0, .int s1_j35, .int s0_j35]) (hP.sub (ws' := [(h0, .inr (5, [.int on, .int oo, .int og, .ref h1, .ref h2, .int ost, .int ord, .int oac, .int ore, .int okn, .int oth])), (h1, .inl (cI, orl, .inl ork)), (h2, .inl (cI, owl, .inl oww))]) [0, 1, 2] rfl) (hD.sub (ws' := [(h0, .inr (5, [.int on, .int oo, .int og, .ref h1, .ref h2, .int ost, .int ord, .int oac, .int ore, .int okn, .int oth])), (h1, .inl (cI, orl, .inl ork)), (h2, .inl (cI, owl, .inl oww))]) [0, 1, 2] (by decide) rfl) hK hN).2⟩ rfl rfl hl.1 rfl (lv_room (Nat.le_of_ble_eq_true rfl)) dX3_withGoal_35 ⟨Nat.le_of_ble_eq_true rfl, Nat.le_of_ble_eq_true rfl⟩) hP hD hS hA [0, 1, 2] [] rfl rfl (by decide) (by decide) (fun r35 u H locs hv hP hD hS => ?_)
      obtain ⟨x35_0, rfl⟩ : ∃ z, z = u := ⟨_, rfl⟩
      have hP : va_P D vwCl [(h0, .inr (5, [.int on, .int oo, .int og, .ref h1, .ref h2, .int ost, .int ord, .int oac, .int ore, .int okn, .int x35_0])), (h1, .inl (cI, orl, .inl ork)), (h2, .inl (cI, owl, .inl oww))] H := hP.sub [0, 1, 2] rfl
      have hD : va_D A [(h0, .inr (5, [.int on, .int oo, .int og, .ref h1, .ref h2, .int ost, .int ord, .int oac, .int ore, .int okn, .int x35_0])), (h1, .inl (cI, orl, .inl ork)), (h2, .inl (cI, owl, .inl oww))] := hD.sub [0, 1, 2] (by decide) rfl
      refine lv_if_eq (tgt := 43) hx hb dX3_withGoal_38 (by decide) (fun hc => ?_) (fun hc => ?_)
      · have hv := hv.1 hc
        refine lv_aload_n hx hb dX3_withGoal_43 rfl (lv_at hl 0 rfl) ?_
        refine va_get (D := D) (ci := 5) (v := .int og) (C := RX3) (T := TX3) (N := 11) hx hb hts hi_X3 hown hK hP 0 rfl rfl 2 (by decide) hF23 (fun _ h9 => h9) rfl dX3_withGoal_44 ?_
        refine lv_istore (lv' := [(4, .int og), (0, .ref h0), (1, .int a1), (2, .int a2), (3, .int a3)]) hx hb dX3_withGoal_47 hl (by decide) rfl (fun ls hl => ?_)
        refine lv_aload_n hx hb dX3_withGoal_49 rfl (lv_at hl 1 rfl) ?_
        refine lv_dup hx hb dX3_withGoal_50 rfl ?_
        refine va_get (D := D) (ci := 5) (v := .int og) (C := RX3) (T := TX3) (N := 11) hx hb hts hi_X3 hown hK hP 0 rfl rfl 2 (by decide) hF23 (fun _ h9 => h9) rfl dX3_withGoal_51 ?_
        refine lv_iconst (v := (1 : Int32)) hx hb dX3_withGoal_54 (by decide) ?_
        refine lv_iload_n hx hb dX3_withGoal_55 rfl (lv_at hl 4 rfl) ?_
        refine lv_ishl hx hb dX3_withGoal_56 ?_
        refine lv_ior hx hb dX3_withGoal_57 ?_
        refine va_put (D := D) (ci := 5) (v := .int (og ||| ((1 : Int32) <<< (a3 &&& (31 : Int32))))) (ty := .int) (C := RX3) (T := TX3) (N := 11) hx hb hts hi_X3 tyX3 tyX3_ok nmX3 hown hK hP hD hS 0 rfl rfl 2 (by decide) hF23 (fun _ h9 => h9) rfl (by decide +kernel) rfl rfl (Nat.le_of_ble_eq_true rfl) dX3_withGoal_58 (fun H locs hP hD hS => ?_)
        have hP : va_P D vwCl [(h0, .inr (5, [.int on, .int oo, .int (og ||| ((1 : Int32) <<< (a3 &&& (31 : Int32)))), .ref h1, .ref h2, .int ost, .int ord, .int oac, .int ore, .int okn, .int x35_0])), (h1, .inl (cI, orl, .inl ork)), (h2, .inl (cI, owl, .inl oww))] H := hP
        have hD : va_D A [(h0, .inr (5, [.int on, .int oo, .int (og ||| ((1 : Int32) <<< (a3 &&& (31 : Int32)))), .ref h1, .ref h2, .int ost, .int ord, .int oac, .int ore, .int okn, .int x35_0])), (h1, .inl (cI, orl, .inl ork)), (h2, .inl (cI, owl, .inl oww))] := hD
        refine lv_aload_n hx hb dX3_withGoal_61 rfl (lv_at hl 1 rfl) ?_
        refine lv_iconst (v := (2 : Int32)) hx hb dX3_withGoal_62 (by decide) ?_
        refine lv_iload_n hx hb dX3_withGoal_63 rfl (lv_at hl 2 rfl) ?_
        refine lv_imul hx hb dX3_withGoal_64 ?_
        refine lv_iload_n hx hb dX3_withGoal_65 rfl (lv_at hl 3 rfl) ?_
        refine kc_V (As := [.int ((2 : Int32) * a1), .int a2]) (rest := []) ⟨hx, hb, hml, hown, hts⟩ (kX3_wonIn l D cI cB h0 h1 h2 on oo (og ||| ((1 : Int32) <<< (a3 &&& (31 : Int32)))) orl ork owl oww ost ord oac ore okn x35_0 ((2 : Int32) * a1) a2 _ hv) (cwV 2 hts gX3_withGoal_X3_wonIn rfl rfl rfl (by decide +kernel) ⟨Nat.le_of_ble_eq_true rfl, Nat.le_of_ble_eq_true rfl⟩) hP hK hN 5 rfl rfl rfl rfl hl.1 rfl (Nat.le_of_ble_eq_true rfl) dX3_withGoal_66 ⟨Nat.le_of_ble_eq_true rfl, Nat.le_of_ble_eq_true rfl⟩ (fun r66 hv => ?_)
        refine lv_istore (lv' := [(5, .int r66), (4, .int og), (0, .ref h0), (1, .int a1), (2, .int a2), (3, .int a3)]) hx hb dX3_withGoal_69 hl (by decide) rfl (fun ls hl => ?_)
        refine lv_aload_n hx hb dX3_withGoal_71 rfl (lv_at hl 2 rfl) ?_
        refine lv_iload hx hb dX3_withGoal_72 (lv_at hl 1 rfl) ?_
        refine va_put (D := D) (ci := 5) (v := .int og) (ty := .int) (C := RX3) (T := TX3) (N := 11) hx hb hts hi_X3 tyX3 tyX3_ok nmX3 hown hK hP hD hS 0 rfl rfl 2 (by decide) hF23 (fun _ h9 => h9) rfl (by decide +kernel) rfl rfl (Nat.le_of_ble_eq_true rfl) dX3_withGoal_74 (fun H locs hP hD hS => ?_)
        have hP : va_P D vwCl [(h0, .inr (5, [.int on, .int oo, .int og, .ref h1, .ref h2, .int ost, .int ord, .int oac, .int ore, .int okn, .int x35_0])), (h1, .inl (cI, orl, .inl ork)), (h2, .inl (cI, owl, .inl oww))] H := hP
        have hD : va_D A [(h0, .inr (5, [.int on, .int oo, .int og, .ref h1, .ref h2, .int ost, .int ord, .int oac, .int ore, .int okn, .int x35_0])), (h1, .inl (cI, orl, .inl ork)), (h2, .inl (cI, owl, .inl oww))] := hD
        refine lv_iload hx hb dX3_withGoal_77 (lv_at hl 0 rfl) ?_
        refine W.widen (k := 0) (n := 0) (Nat.le_of_ble_eq_true rfl) (Nat.le_of_ble_eq_true rfl) ?_
        exact W.iret (v := r66) hx hb hr (kWi_ret (u := (og, x35_0)) hv hP hD hS) hS.2.2 dX3_withGoal_79
      · have hv := hv.2 hc
        refine lv_iconst (v := (0 : Int32)) hx hb dX3_withGoal_41 (by decide) ?_
        refine W.widen (k := 0) (n := 0) (Nat.le_of_ble_eq_true rfl) (Nat.le_of_ble_eq_true rfl) ?_
        exact W.iret (v := (0 : Int32)) hx hb hr (kWi_ret (u := (og, x35_0)) hv hP hD hS) hS.2.2 dX3_withGoal_42
    have J30 : ∀ (s0_j30 : Int32) (H : Heap) (locs : List Loc) (ls : Array Slot), va_P D vwCl [(h0, .inr (5, [.int on, .int oo, .int og, .ref h1, .ref h2, .int ost, .int ord, .int oac, .int ore, .int okn, .int oth])), (h1, .inl (cI, orl, .inl ork)), (h2, .inl (cI, owl, .inl oww))] H → va_D A [(h0, .inr (5, [.int on, .int oo, .int og, .ref h1, .ref h2, .int ost, .int ord, .int oac, .int ore, .int okn, .int oth])), (h1, .inl (cI, orl, .inl ork)), (h2, .inl (cI, owl, .inl oww))] → va_S A s.heap H locs → qX3_withGoalW_j30 on oo og orl ork owl oww a1 a2 a3 s0_j30 post → lv_has ls 6 [(0, .ref h0), (1, .int a1), (2, .int a2), (3, .int a3)] → W p l e (headSpec wsX3_withGoal ({ frames := 6, cells := 0, slots := 0, locals := 134 })).room s m ([.ref h0, .int a1, .int a2, .int a3] : List Value).toArray below meth c H locs 0 0 (MQ below (va_Qi (fun (r : Int32) (u : Int32 × Int32) => post r u.1 u.2) (fun (u : Int32 × Int32) (t : State) => kE D A [(h0, .inr (5, [.int on, .int oo, .int (u.1), .ref h1, .ref h2, .int ost, .int ord, .int oac, .int ore, .int okn, .int (u.2)])), (h1, .inl (cI, orl, .inl ork)), (h2, .inl (cI, owl, .inl oww))] t) A) ([.ref h0, .int a1, .int a2, .int a3] : List Value).toArray s 0 0 A) (F0 m 30 ls [.int s0_j30, .ref h0]) := by
      intro s0_j30 H locs ls hP hD hS hv hl
      refine lv_iconst (v := (1 : Int32)) hx hb dX3_withGoal_30 (by decide) ?_
      refine lv_goto (tgt := 35) hx hb dX3_withGoal_31 (by decide) ?_
      refine W.widen (k := 0) (n := 0) (Nat.le_of_ble_eq_true rfl) (Nat.le_of_ble_eq_true rfl) ?_
      exact J35 _ _ _ _ _ hP hD hS hv (lv_sub hl [0, 1, 2, 3] rfl)
    refine lv_if_lt (tgt := 30) hx hb dX3_withGoal_15 (by decide) (fun hc => ?_) (fun hc => ?_)
    · have hv := hv.1 hc
      refine W.widen (k := 0) (n := 0) (Nat.le_of_ble_eq_true rfl) (Nat.le_of_ble_eq_true rfl) ?_
      exact J30 _ _ _ _ hP hD hS hv (lv_sub hl [0, 1, 2, 3] rfl)
    · have hv := hv.2 hc
      refine lv_iload_n hx hb dX3_withGoal_18 rfl (lv_at hl 1 rfl) ?_
      refine lv_iconst (v := (1 : Int32)) hx hb dX3_withGoal_19 (by decide) ?_
      refine lv_icmp_gt (tgt := 30) hx hb dX3_withGoal_20 (by decide) (fun hc => ?_) (fun hc => ?_)
      · have hv := hv.1 hc
        refine W.widen (k := 0) (n := 0) (Nat.le_of_ble_eq_true rfl) (Nat.le_of_ble_eq_true rfl) ?_
        exact J30 _ _ _ _ hP hD hS hv (lv_sub hl [0, 1, 2, 3] rfl)
      · have hv := hv.2 hc
        refine lv_iload_n hx hb dX3_withGoal_23 rfl (lv_at hl 2 rfl) ?_
        refine kc_S (As := [.int a2]) (rest := [.int s0_j14, .ref h0]) ⟨hx, hb, hml, hown, hts⟩ (kX3_isSide l D cI cB a2 _ hv) (va_cwS 1 hts gX3_withGoal_X3_isSide rfl rfl rfl (by decide +kernel) ⟨Nat.le_of_ble_eq_true rfl, Nat.le_of_ble_eq_true rfl⟩) (hP.sub (ws' := []) [] rfl) hK hN rfl hl.1 rfl (Nat.le_of_ble_eq_true rfl) dX3_withGoal_24 ⟨Nat.le_of_ble_eq_true rfl, Nat.le_of_ble_eq_true rfl⟩ (fun r24 hv => ?_)
        refine lv_if_ne (tgt := 34) hx hb dX3_withGoal_27 (by decide) (fun hc => ?_) (fun hc => ?_)
        · have hv := hv.1 hc
          refine lv_iconst (v := (0 : Int32)) hx hb dX3_withGoal_34 (by decide) ?_
          refine W.widen (k := 0) (n := 0) (Nat.le_of_ble_eq_true rfl) (Nat.le_of_ble_eq_true rfl) ?_
          exact J35 _ _ _ _ _ hP hD hS hv (lv_sub hl [0, 1, 2, 3] rfl)
        · have hv := hv.2 hc
          refine W.widen (k := 0) (n := 0) (Nat.le_of_ble_eq_true rfl) (Nat.le_of_ble_eq_true rfl) ?_
          exact J30 _ _ _ _ hP hD hS hv (lv_sub hl [0, 1, 2, 3] rfl)
  refine lv_if_ne (tgt := 13) hx hb dX3_withGoal_6 (by decide) (fun hc => ?_) (fun hc => ?_)
  · have hv := hv.1 hc
    refine lv_iconst (v := (0 : Int32)) hx hb dX3_withGoal_13 (by decide) ?_
    refine W.widen (k := 0) (n := 0) (Nat.le_of_ble_eq_true rfl) (Nat.le_of_ble_eq_true rfl) ?_
    exact J14 _ _ _ _ hP hD hS hv (lv_sub hl [0, 1, 2, 3] rfl)
  · have hv := hv.2 hc
    refine lv_iconst (v := (1 : Int32)) hx hb dX3_withGoal_9 (by decide) ?_
    refine lv_goto (tgt := 14) hx hb dX3_withGoal_10 (by decide) ?_
    refine W.widen (k := 0) (n := 0) (Nat.le_of_ble_eq_true rfl) (Nat.le_of_ble_eq_true rfl) ?_
    exact J14 _ _ _ _ hP hD hS hv (lv_sub hl [0, 1, 2, 3] rfl)
set_option maxHeartbeats 4000000 in
set_option maxRecDepth 100000 in
theorem kX3_withWayW (l : Launch) (D : va_G) (cI cB : ClassId) (h0 : Nat) (h1 : Nat) (h2 : Nat) (on : Int32) (oo : Int32) (og : Int32) (orl : Nat) (ork : Nat → Int32) (owl : Nat) (oww : Nat → Int32) (ost : Int32) (ord : Int32) (oac : Int32) (ore : Int32) (okn : Int32) (oth : Int32) (a1 : Int32) (a2 : Int32) (a3 : Int32) (a4 : Int32) (sz : Nat) (post : Int32 → Int32 → (Nat → Int32) → Prop) (hv : qX3_withWayW on oo og orl ork owl oww a1 a2 a3 a4 post) : Met l yX3_withWay wsX3_withWay ({ frames := 6, cells := 0, slots := 0, locals := 134 }) (va_Pc [.ref h0, .int a1, .int a2, .int a3, .int a4] (kBW D cI cB sz [(h0, .inr (5, [.int on, .int oo, .int og, .ref h1, .ref h2, .int ost, .int ord, .int oac, .int ore, .int okn, .int oth])), (h1, .inl (cI, orl, .inl ork)), (h2, .inl (cI, owl, .inl oww))])) (va_Qi (fun (r : Int32) (u : Int32 × (Nat → Int32)) => post r u.1 u.2) (fun (u : Int32 × (Nat → Int32)) (t : State) => kE D (va_A [(h0, .inr (5, [.int on, .int oo, .int og, .ref h1, .ref h2, .int ost, .int ord, .int oac, .int ore, .int okn, .int oth])), (h1, .inl (cI, orl, .inl ork)), (h2, .inl (cI, owl, .inl oww))] sz) [(h0, .inr (5, [.int on, .int oo, .int og, .ref h1, .ref h2, .int ost, .int ord, .int oac, .int ore, .int okn, .int (u.1)])), (h1, .inl (cI, orl, .inl ork)), (h2, .inl (cI, owl, .inl (u.2)))] t) (va_A [(h0, .inr (5, [.int on, .int oo, .int og, .ref h1, .ref h2, .int ost, .int ord, .int oac, .int ore, .int okn, .int oth])), (h1, .inl (cI, orl, .inl ork)), (h2, .inl (cI, owl, .inl oww))] sz)) 0 0 (va_A [(h0, .inr (5, [.int on, .int oo, .int og, .ref h1, .ref h2, .int ost, .int ord, .int oac, .int ore, .int okn, .int oth])), (h1, .inl (cI, orl, .inl ork)), (h2, .inl (cI, owl, .inl oww))] sz) := by
  refine Met.ofW (cc := cX3_withWay) (maxL := 7) (ret := (some .int)) (by decide) rfl ?_
  intro p e s m args below meth c s₁ B hml hv0
  obtain ⟨rfl, hsz, ⟨hP, hK, hN⟩, hD0⟩ := hv0
  have hx := B.exec
  have hb := B.bytes
  have hr := B.returns
  have hts := atoms_spec (ws := wsX3_withWay) B.pre
  have hown : s.vm.findClass RX3 = some m.cls := findClass_of_methodNamed B.named
  have hlocks := B.notSynchronized
  have hi_X3 : ∀ w ∈ wsX30, w ∈ wsX3_withWay := by decide +kernel
  have hF30 := hts (.fieldLink RX3 30 "RoadgameModel" "ways" "[I") (by decide +kernel)
  subst hsz
  have hD := hD0.self (sz := s.heap.size)
  generalize hAe : va_A [(h0, .inr (5, [.int on, .int oo, .int og, .ref h1, .ref h2, .int ost, .int ord, .int oac, .int ore, .int okn, .int oth])), (h1, .inl (cI, orl, .inl ork)), (h2, .inl (cI, owl, .inl oww))] s.heap.size = A at hD ⊢
  have hA : ∀ q : Nat, s.heap.size ≤ q → A q := fun q h => by rw [← hAe]; exact Or.inr h
  have hS : va_S A s.heap s.heap [] := va_S.rf
  have hl := lv_entry ([.ref h0, .int a1, .int a2, .int a3, .int a4]) (n := 7) (Nat.le_of_ble_eq_true rfl)
  rw [lg_entry_eq]
  generalize (lg_sl ([.ref h0, .int a1, .int a2, .int a3, .int a4]) ++ List.replicate (7 - (lg_sl ([.ref h0, .int a1, .int a2, .int a3, .int a4])).length) Slot.unset).toArray = ls at hl ⊢
  have hl : lv_has ls 7 [(0, .ref h0), (1, .int a1), (2, .int a2), (3, .int a3), (4, .int a4)] := hl
  refine lv_aload_n hx hb dX3_withWay_0 rfl (lv_at hl 0 rfl) ?_
  refine lv_aload_n hx hb dX3_withWay_1 rfl (lv_at hl 0 rfl) ?_
  refine lv_iload_n hx hb dX3_withWay_2 rfl (lv_at hl 3 rfl) ?_
  refine kc_V (As := [.int a3]) (rest := [.ref h0]) ⟨hx, hb, hml, hown, hts⟩ (kX3_isPlace l D cI cB h0 h1 h2 on oo og orl ork owl oww ost ord oac ore okn oth a3 _ hv) (cwV 1 hts gX3_withWay_X3_isPlace rfl rfl rfl (by decide +kernel) ⟨Nat.le_of_ble_eq_true rfl, Nat.le_of_ble_eq_true rfl⟩) hP hK hN 5 rfl rfl rfl rfl hl.1 rfl (Nat.le_of_ble_eq_true rfl) dX3_withWay_3 ⟨Nat.le_of_ble_eq_true rfl, Nat.le_of_ble_eq_true rfl⟩ (fun r3 hv => ?_)
  have J23 : ∀ (s0_j23 : Int32) (H : Heap) (locs : List Loc) (ls : Array Slot), va_P D vwCl [(h0, .inr (5, [.int on, .int oo, .int og, .ref h1, .ref h2, .int ost, .int ord, .int oac, .int ore, .int okn, .int oth])), (h1, .inl (cI, orl, .inl ork)), (h2, .inl (cI, owl, .inl oww))] H → va_D A [(h0, .inr (5, [.int on, .int oo, .int og, .ref h1, .ref h2, .int ost, .int ord, .int oac, .int ore, .int okn, .int oth])), (h1, .inl (cI, orl, .inl ork)), (h2, .inl (cI, owl, .inl oww))] → va_S A s.heap H locs → qX3_withWayW_j23 on oo og orl ork owl oww a1 a2 a3 a4 s0_j23 post → lv_has ls 7 [(0, .ref h0), (1, .int a1), (2, .int a2), (3, .int a3), (4, .int a4)] → W p l e (headSpec wsX3_withWay ({ frames := 6, cells := 0, slots := 0, locals := 134 })).room s m ([.ref h0, .int a1, .int a2, .int a3, .int a4] : List Value).toArray below meth c H locs 0 0 (MQ below (va_Qi (fun (r : Int32) (u : Int32 × (Nat → Int32)) => post r u.1 u.2) (fun (u : Int32 × (Nat → Int32)) (t : State) => kE D A [(h0, .inr (5, [.int on, .int oo, .int og, .ref h1, .ref h2, .int ost, .int ord, .int oac, .int ore, .int okn, .int (u.1)])), (h1, .inl (cI, orl, .inl ork)), (h2, .inl (cI, owl, .inl (u.2)))] t) A) ([.ref h0, .int a1, .int a2, .int a3, .int a4] : List Value).toArray s 0 0 A) (F0 m 23 ls [.int s0_j23, .ref h0]) := by
    intro s0_j23 H locs ls hP hD hS hv hl
    refine lv_iload_n hx hb dX3_withWay_23 rfl (lv_at hl 1 rfl) ?_
    have J44 : ∀ (s0_j44 : Int32) (s1_j44 : Int32) (H : Heap) (locs : List Loc) (ls : Array Slot), va_P D vwCl [(h0, .inr (5, [.int on, .int oo, .int og, .ref h1, .ref h2, .int ost, .int ord, .int oac, .int ore, .int okn, .int oth])), (h1, .inl (cI, orl, .inl ork)), (h2, .inl (cI, owl, .inl oww))] H → va_D A [(h0, .inr (5, [.int on, .int oo, .int og, .ref h1, .ref h2, .int ost, .int ord, .int oac, .int ore, .int okn, .int oth])), (h1, .inl (cI, orl, .inl ork)), (h2, .inl (cI, owl, .inl oww))] → va_S A s.heap H locs → qX3_withWayW_j44 on oo og orl ork owl oww a1 a2 a3 a4 s0_j44 s1_j44 post → lv_has ls 7 [(0, .ref h0), (1, .int a1), (2, .int a2), (3, .int a3), (4, .int a4)] → W p l e (headSpec wsX3_withWay ({ frames := 6, cells := 0, slots := 0, locals := 134 })).room s m ([.ref h0, .int a1, .int a2, .int a3, .int a4] : List Value).toArray below meth c H locs 0 0 (MQ below (va_Qi (fun (r : Int32) (u : Int32 × (Nat → Int32)) => post r u.1 u.2) (fun (u : Int32 × (Nat → Int32)) (t : State) => kE D A [(h0, .inr (5, [.int on, .int oo, .int og, .ref h1, .ref h2, .int ost, .int ord, .int oac, .int ore, .int okn, .int (u.1)])), (h1, .inl (cI, orl, .inl ork)), (h2, .inl (cI, owl, .inl (u.2)))] t) A) ([.ref h0, .int a1, .int a2, .int a3, .int a4] : List Value).toArray s 0 0 A) (F0 m 44 ls [.int s0_j44, .int s1_j44, .ref h0]) := by
      intro s0_j44 s1_j44 H locs ls hP hD hS hv hl
      refine kw_i (wr := []) (va_runV (As := [.int s1_j44, .int s0_j44]) (rest := []) ⟨hx, hb, hml, hown, hts⟩ (kX3_isThrownW l D cI cB h0 h1 h2 on oo og orl ork owl oww ost ord oac ore okn oth s1_j44 s0_j44 _ _ hv) (cwV 2 hts gX3_withWay_X3_isThrown rfl rfl rfl (by decide +kernel) ⟨Nat.le_of_ble_eq_true rfl, Nat.le_of_ble_eq_true rfl⟩) ⟨(kPreW (As := [.ref h0, .int s1_j44, .int s0_j44]) (hP.sub (ws' := [(h0, .inr (5, [.int on, .int oo, .int og, .ref h1, .ref h2, .int ost, .int ord, .int oac, .int ore, .int okn, .int oth])), (h1, .inl (cI, orl, .inl ork)), (h2, .inl (cI, owl, .inl oww))]) [0, 1, 2] rfl) (hD.sub (ws' := [(h0, .inr (5, [.int on, .int oo, .int og, .ref h1, .ref h2, .int ost, .int ord, .int oac, .int ore, .int okn, .int oth])), (h1, .inl (cI, orl, .inl ork)), (h2, .inl (cI, owl, .inl oww))]) [0, 1, 2] (by decide) rfl) hK hN).1, kRecv (hP.sub (ws' := [(h0, .inr (5, [.int on, .int oo, .int og, .ref h1, .ref h2, .int ost, .int ord, .int oac, .int ore, .int okn, .int oth])), (h1, .inl (cI, orl, .inl ork)), (h2, .inl (cI, owl, .inl oww))]) [0, 1, 2] rfl) hK 5 rfl rfl rfl, (kPreW (As := [.ref h0, .int s1_j44, .int s0_j44]) (hP.sub (ws' := [(h0, .inr (5, [.int on, .int oo, .int og, .ref h1, .ref h2, .int ost, .int ord, .int oac, .int ore, .int okn, .int oth])), (h1, .inl (cI, orl, .inl ork)), (h2, .inl (cI, owl, .inl oww))]) [0, 1, 2] rfl) (hD.sub (ws' := [(h0, .inr (5, [.int on, .int oo, .int og, .ref h1, .ref h2, .int ost, .int ord, .int oac, .int ore, .int okn, .int oth])), (h1, .inl (cI, orl, .inl ork)), (h2, .inl (cI, owl, .inl oww))]) [0, 1, 2] (by decide) rfl) hK hN).2⟩ rfl rfl hl.1 rfl (lv_room (Nat.le_of_ble_eq_true rfl)) dX3_withWay_44 ⟨Nat.le_of_ble_eq_true rfl, Nat.le_of_ble_eq_true rfl⟩) hP hD hS hA [0, 1, 2] [] rfl rfl (by decide) (by decide) (fun r44 u H locs hv hP hD hS => ?_)
      obtain ⟨x44_0, rfl⟩ : ∃ z, z = u := ⟨_, rfl⟩
      have hP : va_P D vwCl [(h0, .inr (5, [.int on, .int oo, .int og, .ref h1, .ref h2, .int ost, .int ord, .int oac, .int ore, .int okn, .int x44_0])), (h1, .inl (cI, orl, .inl ork)), (h2, .inl (cI, owl, .inl oww))] H := hP.sub [0, 1, 2] rfl
      have hD : va_D A [(h0, .inr (5, [.int on, .int oo, .int og, .ref h1, .ref h2, .int ost, .int ord, .int oac, .int ore, .int okn, .int x44_0])), (h1, .inl (cI, orl, .inl ork)), (h2, .inl (cI, owl, .inl oww))] := hD.sub [0, 1, 2] (by decide) rfl
      refine lv_if_eq (tgt := 52) hx hb dX3_withWay_47 (by decide) (fun hc => ?_) (fun hc => ?_)
      · have hv := hv.1 hc
        refine lv_aload_n hx hb dX3_withWay_52 rfl (lv_at hl 0 rfl) ?_
        refine va_get (D := D) (ci := 5) (v := .ref h2) (C := RX3) (T := TX3) (N := 11) hx hb hts hi_X3 hown hK hP 0 rfl rfl 4 (by decide) hF30 (fun _ h9 => h9) rfl dX3_withWay_53 ?_
        refine lv_iload_n hx hb dX3_withWay_56 rfl (lv_at hl 3 rfl) ?_
        obtain ⟨hq, hv⟩ := hv
        refine va_iald hx hb hK hP 2 0 rfl rfl hq dX3_withWay_57 ?_
        refine lv_istore (lv' := [(5, .int (oww a3.toNatClampNeg)), (0, .ref h0), (1, .int a1), (2, .int a2), (3, .int a3), (4, .int a4)]) hx hb dX3_withWay_58 hl (by decide) rfl (fun ls hl => ?_)
        refine lv_aload_n hx hb dX3_withWay_60 rfl (lv_at hl 1 rfl) ?_
        refine va_get (D := D) (ci := 5) (v := .ref h2) (C := RX3) (T := TX3) (N := 11) hx hb hts hi_X3 hown hK hP 0 rfl rfl 4 (by decide) hF30 (fun _ h9 => h9) rfl dX3_withWay_61 ?_
        refine lv_iload_n hx hb dX3_withWay_64 rfl (lv_at hl 4 rfl) ?_
        refine lv_dup2_11 hx hb dX3_withWay_65 rfl rfl ?_
        obtain ⟨hq, hv⟩ := hv
        refine va_iald hx hb hK hP 2 0 rfl rfl hq dX3_withWay_66 ?_
        refine lv_iconst (v := (1 : Int32)) hx hb dX3_withWay_67 (by decide) ?_
        refine lv_iload hx hb dX3_withWay_68 (lv_at hl 5 rfl) ?_
        refine lv_ishl hx hb dX3_withWay_70 ?_
        refine lv_ior hx hb dX3_withWay_71 ?_
        obtain ⟨hq, hv⟩ := hv
        refine va_iast hx hb hK hP hD hS 2 0 rfl rfl hq dX3_withWay_72 (fun H locs hP hD hS => ?_)
        have hP : va_P D vwCl [(h0, .inr (5, [.int on, .int oo, .int og, .ref h1, .ref h2, .int ost, .int ord, .int oac, .int ore, .int okn, .int x44_0])), (h1, .inl (cI, orl, .inl ork)), (h2, .inl (cI, owl, .inl (upd oww a3.toNatClampNeg ((oww a3.toNatClampNeg) ||| ((1 : Int32) <<< (a4 &&& (31 : Int32)))))))] H := hP
        have hD : va_D A [(h0, .inr (5, [.int on, .int oo, .int og, .ref h1, .ref h2, .int ost, .int ord, .int oac, .int ore, .int okn, .int x44_0])), (h1, .inl (cI, orl, .inl ork)), (h2, .inl (cI, owl, .inl (upd oww a3.toNatClampNeg ((oww a3.toNatClampNeg) ||| ((1 : Int32) <<< (a4 &&& (31 : Int32)))))))] := hD
        refine lv_aload_n hx hb dX3_withWay_73 rfl (lv_at hl 1 rfl) ?_
        refine lv_iload_n hx hb dX3_withWay_74 rfl (lv_at hl 2 rfl) ?_
        refine lv_iload_n hx hb dX3_withWay_75 rfl (lv_at hl 3 rfl) ?_
        refine kc_V (As := [.int a1, .int a2]) (rest := []) ⟨hx, hb, hml, hown, hts⟩ (kX3_wonIn l D cI cB h0 h1 h2 on oo og orl ork owl (upd oww a3.toNatClampNeg ((oww a3.toNatClampNeg) ||| ((1 : Int32) <<< (a4 &&& (31 : Int32))))) ost ord oac ore okn x44_0 a1 a2 _ hv) (cwV 2 hts gX3_withWay_X3_wonIn rfl rfl rfl (by decide +kernel) ⟨Nat.le_of_ble_eq_true rfl, Nat.le_of_ble_eq_true rfl⟩) hP hK hN 5 rfl rfl rfl rfl hl.1 rfl (Nat.le_of_ble_eq_true rfl) dX3_withWay_76 ⟨Nat.le_of_ble_eq_true rfl, Nat.le_of_ble_eq_true rfl⟩ (fun r76 hv => ?_)
        refine lv_istore (lv' := [(6, .int r76), (5, .int (oww a3.toNatClampNeg)), (0, .ref h0), (1, .int a1), (2, .int a2), (3, .int a3), (4, .int a4)]) hx hb dX3_withWay_79 hl (by decide) rfl (fun ls hl => ?_)
        refine lv_aload_n hx hb dX3_withWay_81 rfl (lv_at hl 2 rfl) ?_
        refine va_get (D := D) (ci := 5) (v := .ref h2) (C := RX3) (T := TX3) (N := 11) hx hb hts hi_X3 hown hK hP 0 rfl rfl 4 (by decide) hF30 (fun _ h9 => h9) rfl dX3_withWay_82 ?_
        refine lv_iload_n hx hb dX3_withWay_85 rfl (lv_at hl 5 rfl) ?_
        refine lv_iload hx hb dX3_withWay_86 (lv_at hl 1 rfl) ?_
        obtain ⟨hq, hv⟩ := hv
        refine va_iast hx hb hK hP hD hS 2 0 rfl rfl hq dX3_withWay_88 (fun H locs hP hD hS => ?_)
        have hP : va_P D vwCl [(h0, .inr (5, [.int on, .int oo, .int og, .ref h1, .ref h2, .int ost, .int ord, .int oac, .int ore, .int okn, .int x44_0])), (h1, .inl (cI, orl, .inl ork)), (h2, .inl (cI, owl, .inl (upd (upd oww a3.toNatClampNeg ((oww a3.toNatClampNeg) ||| ((1 : Int32) <<< (a4 &&& (31 : Int32))))) a3.toNatClampNeg (oww a3.toNatClampNeg))))] H := hP
        have hD : va_D A [(h0, .inr (5, [.int on, .int oo, .int og, .ref h1, .ref h2, .int ost, .int ord, .int oac, .int ore, .int okn, .int x44_0])), (h1, .inl (cI, orl, .inl ork)), (h2, .inl (cI, owl, .inl (upd (upd oww a3.toNatClampNeg ((oww a3.toNatClampNeg) ||| ((1 : Int32) <<< (a4 &&& (31 : Int32))))) a3.toNatClampNeg (oww a3.toNatClampNeg))))] := hD
        refine lv_iload hx hb dX3_withWay_89 (lv_at hl 0 rfl) ?_
        refine W.widen (k := 0) (n := 0) (Nat.le_of_ble_eq_true rfl) (Nat.le_of_ble_eq_true rfl) ?_
        exact W.iret (v := r76) hx hb hr (kWi_ret (u := (x44_0, (upd (upd oww a3.toNatClampNeg ((oww a3.toNatClampNeg) ||| ((1 : Int32) <<< (a4 &&& (31 : Int32))))) a3.toNatClampNeg (oww a3.toNatClampNeg)))) hv hP hD hS) hS.2.2 dX3_withWay_91
      · have hv := hv.2 hc
        refine lv_iconst (v := (0 : Int32)) hx hb dX3_withWay_50 (by decide) ?_
        refine W.widen (k := 0) (n := 0) (Nat.le_of_ble_eq_true rfl) (Nat.le_of_ble_eq_true rfl) ?_
        exact W.iret (v := (0 : Int32)) hx hb hr (kWi_ret (u := (x44_0, oww)) hv hP hD hS) hS.2.2 dX3_withWay_51
    have J39 : ∀ (s0_j39 : Int32) (H : Heap) (locs : List Loc) (ls : Array Slot), va_P D vwCl [(h0, .inr (5, [.int on, .int oo, .int og, .ref h1, .ref h2, .int ost, .int ord, .int oac, .int ore, .int okn, .int oth])), (h1, .inl (cI, orl, .inl ork)), (h2, .inl (cI, owl, .inl oww))] H → va_D A [(h0, .inr (5, [.int on, .int oo, .int og, .ref h1, .ref h2, .int ost, .int ord, .int oac, .int ore, .int okn, .int oth])), (h1, .inl (cI, orl, .inl ork)), (h2, .inl (cI, owl, .inl oww))] → va_S A s.heap H locs → qX3_withWayW_j39 on oo og orl ork owl oww a1 a2 a3 a4 s0_j39 post → lv_has ls 7 [(0, .ref h0), (1, .int a1), (2, .int a2), (3, .int a3), (4, .int a4)] → W p l e (headSpec wsX3_withWay ({ frames := 6, cells := 0, slots := 0, locals := 134 })).room s m ([.ref h0, .int a1, .int a2, .int a3, .int a4] : List Value).toArray below meth c H locs 0 0 (MQ below (va_Qi (fun (r : Int32) (u : Int32 × (Nat → Int32)) => post r u.1 u.2) (fun (u : Int32 × (Nat → Int32)) (t : State) => kE D A [(h0, .inr (5, [.int on, .int oo, .int og, .ref h1, .ref h2, .int ost, .int ord, .int oac, .int ore, .int okn, .int (u.1)])), (h1, .inl (cI, orl, .inl ork)), (h2, .inl (cI, owl, .inl (u.2)))] t) A) ([.ref h0, .int a1, .int a2, .int a3, .int a4] : List Value).toArray s 0 0 A) (F0 m 39 ls [.int s0_j39, .ref h0]) := by
      intro s0_j39 H locs ls hP hD hS hv hl
      refine lv_iconst (v := (1 : Int32)) hx hb dX3_withWay_39 (by decide) ?_
      refine lv_goto (tgt := 44) hx hb dX3_withWay_40 (by decide) ?_
      refine W.widen (k := 0) (n := 0) (Nat.le_of_ble_eq_true rfl) (Nat.le_of_ble_eq_true rfl) ?_
      exact J44 _ _ _ _ _ hP hD hS hv (lv_sub hl [0, 1, 2, 3, 4] rfl)
    refine lv_if_lt (tgt := 39) hx hb dX3_withWay_24 (by decide) (fun hc => ?_) (fun hc => ?_)
    · have hv := hv.1 hc
      refine W.widen (k := 0) (n := 0) (Nat.le_of_ble_eq_true rfl) (Nat.le_of_ble_eq_true rfl) ?_
      exact J39 _ _ _ _ hP hD hS hv (lv_sub hl [0, 1, 2, 3, 4] rfl)
    · have hv := hv.2 hc
      refine lv_iload_n hx hb dX3_withWay_27 rfl (lv_at hl 1 rfl) ?_
      refine lv_iconst (v := (3 : Int32)) hx hb dX3_withWay_28 (by decide) ?_
      refine lv_icmp_gt (tgt := 39) hx hb dX3_withWay_29 (by decide) (fun hc => ?_) (fun hc => ?_)
      · have hv := hv.1 hc
        refine W.widen (k := 0) (n := 0) (Nat.le_of_ble_eq_true rfl) (Nat.le_of_ble_eq_true rfl) ?_
        exact J39 _ _ _ _ hP hD hS hv (lv_sub hl [0, 1, 2, 3, 4] rfl)
      · have hv := hv.2 hc
        refine lv_iload_n hx hb dX3_withWay_32 rfl (lv_at hl 2 rfl) ?_
        refine kc_S (As := [.int a2]) (rest := [.int s0_j23, .ref h0]) ⟨hx, hb, hml, hown, hts⟩ (kX3_isSide l D cI cB a2 _ hv) (va_cwS 1 hts gX3_withWay_X3_isSide rfl rfl rfl (by decide +kernel) ⟨Nat.le_of_ble_eq_true rfl, Nat.le_of_ble_eq_true rfl⟩) (hP.sub (ws' := []) [] rfl) hK hN rfl hl.1 rfl (Nat.le_of_ble_eq_true rfl) dX3_withWay_33 ⟨Nat.le_of_ble_eq_true rfl, Nat.le_of_ble_eq_true rfl⟩ (fun r33 hv => ?_)
        refine lv_if_ne (tgt := 43) hx hb dX3_withWay_36 (by decide) (fun hc => ?_) (fun hc => ?_)
        · have hv := hv.1 hc
          refine lv_iconst (v := (0 : Int32)) hx hb dX3_withWay_43 (by decide) ?_
          refine W.widen (k := 0) (n := 0) (Nat.le_of_ble_eq_true rfl) (Nat.le_of_ble_eq_true rfl) ?_
          exact J44 _ _ _ _ _ hP hD hS hv (lv_sub hl [0, 1, 2, 3, 4] rfl)
        · have hv := hv.2 hc
          refine W.widen (k := 0) (n := 0) (Nat.le_of_ble_eq_true rfl) (Nat.le_of_ble_eq_true rfl) ?_
          exact J39 _ _ _ _ hP hD hS hv (lv_sub hl [0, 1, 2, 3, 4] rfl)
  have J18 : ∀  (H : Heap) (locs : List Loc) (ls : Array Slot), va_P D vwCl [(h0, .inr (5, [.int on, .int oo, .int og, .ref h1, .ref h2, .int ost, .int ord, .int oac, .int ore, .int okn, .int oth])), (h1, .inl (cI, orl, .inl ork)), (h2, .inl (cI, owl, .inl oww))] H → va_D A [(h0, .inr (5, [.int on, .int oo, .int og, .ref h1, .ref h2, .int ost, .int ord, .int oac, .int ore, .int okn, .int oth])), (h1, .inl (cI, orl, .inl ork)), (h2, .inl (cI, owl, .inl oww))] → va_S A s.heap H locs → qX3_withWayW_j18 on oo og orl ork owl oww a1 a2 a3 a4 post → lv_has ls 7 [(0, .ref h0), (1, .int a1), (2, .int a2), (3, .int a3), (4, .int a4)] → W p l e (headSpec wsX3_withWay ({ frames := 6, cells := 0, slots := 0, locals := 134 })).room s m ([.ref h0, .int a1, .int a2, .int a3, .int a4] : List Value).toArray below meth c H locs 0 0 (MQ below (va_Qi (fun (r : Int32) (u : Int32 × (Nat → Int32)) => post r u.1 u.2) (fun (u : Int32 × (Nat → Int32)) (t : State) => kE D A [(h0, .inr (5, [.int on, .int oo, .int og, .ref h1, .ref h2, .int ost, .int ord, .int oac, .int ore, .int okn, .int (u.1)])), (h1, .inl (cI, orl, .inl ork)), (h2, .inl (cI, owl, .inl (u.2)))] t) A) ([.ref h0, .int a1, .int a2, .int a3, .int a4] : List Value).toArray s 0 0 A) (F0 m 18 ls [.ref h0]) := by
    intro  H locs ls hP hD hS hv hl
    refine lv_iconst (v := (1 : Int32)) hx hb dX3_withWay_18 (by decide) ?_
    refine lv_goto (tgt := 23) hx hb dX3_withWay_19 (by decide) ?_
    refine W.widen (k := 0) (n := 0) (Nat.le_of_ble_eq_true rfl) (Nat.le_of_ble_eq_true rfl) ?_
    exact J23 _ _ _ _ hP hD hS hv (lv_sub hl [0, 1, 2, 3, 4] rfl)
  refine lv_if_eq (tgt := 18) hx hb dX3_withWay_6 (by decide) (fun hc => ?_) (fun hc => ?_)
  · have hv := hv.1 hc
    refine W.widen (k := 0) (n := 0) (Nat.le_of_ble_eq_true rfl) (Nat.le_of_ble_eq_true rfl) ?_
    exact J18  _ _ _ hP hD hS hv (lv_sub hl [0, 1, 2, 3, 4] rfl)
  · have hv := hv.2 hc
    refine lv_aload_n hx hb dX3_withWay_9 rfl (lv_at hl 0 rfl) ?_
    refine lv_iload hx hb dX3_withWay_10 (lv_at hl 4 rfl) ?_
    refine kc_V (As := [.int a4]) (rest := [.ref h0]) ⟨hx, hb, hml, hown, hts⟩ (kX3_isPlace l D cI cB h0 h1 h2 on oo og orl ork owl oww ost ord oac ore okn oth a4 _ hv) (cwV 1 hts gX3_withWay_X3_isPlace rfl rfl rfl (by decide +kernel) ⟨Nat.le_of_ble_eq_true rfl, Nat.le_of_ble_eq_true rfl⟩) hP hK hN 5 rfl rfl rfl rfl hl.1 rfl (Nat.le_of_ble_eq_true rfl) dX3_withWay_12 ⟨Nat.le_of_ble_eq_true rfl, Nat.le_of_ble_eq_true rfl⟩ (fun r12 hv => ?_)
    refine lv_if_ne (tgt := 22) hx hb dX3_withWay_15 (by decide) (fun hc => ?_) (fun hc => ?_)
    · have hv := hv.1 hc
      refine lv_iconst (v := (0 : Int32)) hx hb dX3_withWay_22 (by decide) ?_
      refine W.widen (k := 0) (n := 0) (Nat.le_of_ble_eq_true rfl) (Nat.le_of_ble_eq_true rfl) ?_
      exact J23 _ _ _ _ hP hD hS hv (lv_sub hl [0, 1, 2, 3, 4] rfl)
    · have hv := hv.2 hc
      refine W.widen (k := 0) (n := 0) (Nat.le_of_ble_eq_true rfl) (Nat.le_of_ble_eq_true rfl) ?_
      exact J18  _ _ _ hP hD hS hv (lv_sub hl [0, 1, 2, 3, 4] rfl)
set_option maxHeartbeats 4000000 in
set_option maxRecDepth 100000 in
theorem kX3_houseW (l : Launch) (D : va_G) (cI cB : ClassId) (h0 : Nat) (h1 : Nat) (h2 : Nat) (on : Int32) (oo : Int32) (og : Int32) (orl : Nat) (ork : Nat → Int32) (owl : Nat) (oww : Nat → Int32) (ost : Int32) (ord : Int32) (oac : Int32) (ore : Int32) (okn : Int32) (oth : Int32) (a1 : Int32) (sz : Nat) (post : Int32 → Int32 → Prop) (hv : qX3_houseW oac ore okn a1 post) : Met l yX3_house wsX3_house ({ frames := 2, cells := 0, slots := 0, locals := 43 }) (va_Pc [.ref h0, .int a1] (kBW D cI cB sz [(h0, .inr (5, [.int on, .int oo, .int og, .ref h1, .ref h2, .int ost, .int ord, .int oac, .int ore, .int okn, .int oth])), (h1, .inl (cI, orl, .inl ork)), (h2, .inl (cI, owl, .inl oww))])) (va_Qi (fun (r : Int32) (u : Int32) => post r u) (fun (u : Int32) (t : State) => kE D (va_A [(h0, .inr (5, [.int on, .int oo, .int og, .ref h1, .ref h2, .int ost, .int ord, .int oac, .int ore, .int okn, .int oth])), (h1, .inl (cI, orl, .inl ork)), (h2, .inl (cI, owl, .inl oww))] sz) [(h0, .inr (5, [.int on, .int oo, .int og, .ref h1, .ref h2, .int ost, .int ord, .int oac, .int ore, .int okn, .int u])), (h1, .inl (cI, orl, .inl ork)), (h2, .inl (cI, owl, .inl oww))] t) (va_A [(h0, .inr (5, [.int on, .int oo, .int og, .ref h1, .ref h2, .int ost, .int ord, .int oac, .int ore, .int okn, .int oth])), (h1, .inl (cI, orl, .inl ork)), (h2, .inl (cI, owl, .inl oww))] sz)) 0 0 (va_A [(h0, .inr (5, [.int on, .int oo, .int og, .ref h1, .ref h2, .int ost, .int ord, .int oac, .int ore, .int okn, .int oth])), (h1, .inl (cI, orl, .inl ork)), (h2, .inl (cI, owl, .inl oww))] sz) := by
  refine Met.ofW (cc := cX3_house) (maxL := 2) (ret := (some .int)) (by decide) rfl ?_
  intro p e s m args below meth c s₁ B hml hv0
  obtain ⟨rfl, hsz, ⟨hP, hK, hN⟩, hD0⟩ := hv0
  have hx := B.exec
  have hb := B.bytes
  have hr := B.returns
  have hts := atoms_spec (ws := wsX3_house) B.pre
  have hown : s.vm.findClass RX3 = some m.cls := findClass_of_methodNamed B.named
  have hlocks := B.notSynchronized
  have hi_X3 : ∀ w ∈ wsX30, w ∈ wsX3_house := by decide +kernel
  have hF92 := hts (.fieldLink RX3 92 "RoadgameModel" "acts" "I") (by decide +kernel)
  have hF95 := hts (.fieldLink RX3 95 "RoadgameModel" "refused" "I") (by decide +kernel)
  have hF161 := hts (.fieldLink RX3 161 "RoadgameModel" "knocks" "I") (by decide +kernel)
  subst hsz
  have hD := hD0.self (sz := s.heap.size)
  generalize hAe : va_A [(h0, .inr (5, [.int on, .int oo, .int og, .ref h1, .ref h2, .int ost, .int ord, .int oac, .int ore, .int okn, .int oth])), (h1, .inl (cI, orl, .inl ork)), (h2, .inl (cI, owl, .inl oww))] s.heap.size = A at hD ⊢
  have hA : ∀ q : Nat, s.heap.size ≤ q → A q := fun q h => by rw [← hAe]; exact Or.inr h
  have hS : va_S A s.heap s.heap [] := va_S.rf
  have hl := lv_entry ([.ref h0, .int a1]) (n := 2) (Nat.le_of_ble_eq_true rfl)
  rw [lg_entry_eq]
  generalize (lg_sl ([.ref h0, .int a1]) ++ List.replicate (2 - (lg_sl ([.ref h0, .int a1])).length) Slot.unset).toArray = ls at hl ⊢
  have hl : lv_has ls 2 [(0, .ref h0), (1, .int a1)] := hl
  refine lv_aload_n hx hb dX3_house_0 rfl (lv_at hl 0 rfl) ?_
  refine lv_iload_n hx hb dX3_house_1 rfl (lv_at hl 1 rfl) ?_
  have J15 : ∀ (s0_j15 : Int32) (H : Heap) (locs : List Loc) (ls : Array Slot), va_P D vwCl [(h0, .inr (5, [.int on, .int oo, .int og, .ref h1, .ref h2, .int ost, .int ord, .int oac, .int ore, .int okn, .int oth])), (h1, .inl (cI, orl, .inl ork)), (h2, .inl (cI, owl, .inl oww))] H → va_D A [(h0, .inr (5, [.int on, .int oo, .int og, .ref h1, .ref h2, .int ost, .int ord, .int oac, .int ore, .int okn, .int oth])), (h1, .inl (cI, orl, .inl ork)), (h2, .inl (cI, owl, .inl oww))] → va_S A s.heap H locs → qX3_houseW_j15 oac ore okn a1 s0_j15 post → lv_has ls 2 [(0, .ref h0), (1, .int a1)] → W p l e (headSpec wsX3_house ({ frames := 2, cells := 0, slots := 0, locals := 43 })).room s m ([.ref h0, .int a1] : List Value).toArray below meth c H locs 0 0 (MQ below (va_Qi (fun (r : Int32) (u : Int32) => post r u) (fun (u : Int32) (t : State) => kE D A [(h0, .inr (5, [.int on, .int oo, .int og, .ref h1, .ref h2, .int ost, .int ord, .int oac, .int ore, .int okn, .int u])), (h1, .inl (cI, orl, .inl ork)), (h2, .inl (cI, owl, .inl oww))] t) A) ([.ref h0, .int a1] : List Value).toArray s 0 0 A) (F0 m 15 ls [.int s0_j15, .ref h0]) := by
    intro s0_j15 H locs ls hP hD hS hv hl
    refine kw_i (wr := []) (va_runV (As := [.int s0_j15]) (rest := []) ⟨hx, hb, hml, hown, hts⟩ (kX3_isThrown_W l D cI cB h0 h1 h2 on oo og orl ork owl oww ost ord oac ore okn oth s0_j15 _ _ hv) (cwV 1 hts gX3_house_X3_isThrown_ rfl rfl rfl (by decide +kernel) ⟨Nat.le_of_ble_eq_true rfl, Nat.le_of_ble_eq_true rfl⟩) ⟨(kPreW (As := [.ref h0, .int s0_j15]) (hP.sub (ws' := [(h0, .inr (5, [.int on, .int oo, .int og, .ref h1, .ref h2, .int ost, .int ord, .int oac, .int ore, .int okn, .int oth])), (h1, .inl (cI, orl, .inl ork)), (h2, .inl (cI, owl, .inl oww))]) [0, 1, 2] rfl) (hD.sub (ws' := [(h0, .inr (5, [.int on, .int oo, .int og, .ref h1, .ref h2, .int ost, .int ord, .int oac, .int ore, .int okn, .int oth])), (h1, .inl (cI, orl, .inl ork)), (h2, .inl (cI, owl, .inl oww))]) [0, 1, 2] (by decide) rfl) hK hN).1, kRecv (hP.sub (ws' := [(h0, .inr (5, [.int on, .int oo, .int og, .ref h1, .ref h2, .int ost, .int ord, .int oac, .int ore, .int okn, .int oth])), (h1, .inl (cI, orl, .inl ork)), (h2, .inl (cI, owl, .inl oww))]) [0, 1, 2] rfl) hK 5 rfl rfl rfl, (kPreW (As := [.ref h0, .int s0_j15]) (hP.sub (ws' := [(h0, .inr (5, [.int on, .int oo, .int og, .ref h1, .ref h2, .int ost, .int ord, .int oac, .int ore, .int okn, .int oth])), (h1, .inl (cI, orl, .inl ork)), (h2, .inl (cI, owl, .inl oww))]) [0, 1, 2] rfl) (hD.sub (ws' := [(h0, .inr (5, [.int on, .int oo, .int og, .ref h1, .ref h2, .int ost, .int ord, .int oac, .int ore, .int okn, .int oth])), (h1, .inl (cI, orl, .inl ork)), (h2, .inl (cI, owl, .inl oww))]) [0, 1, 2] (by decide) rfl) hK hN).2⟩ rfl rfl hl.1 rfl (lv_room (Nat.le_of_ble_eq_true rfl)) dX3_house_15 ⟨Nat.le_of_ble_eq_true rfl, Nat.le_of_ble_eq_true rfl⟩) hP hD hS hA [0, 1, 2] [] rfl rfl (by decide) (by decide) (fun r15 u H locs hv hP hD hS => ?_)
    obtain ⟨x15_0, rfl⟩ : ∃ z, z = u := ⟨_, rfl⟩
    have hP : va_P D vwCl [(h0, .inr (5, [.int on, .int oo, .int og, .ref h1, .ref h2, .int ost, .int ord, .int oac, .int ore, .int okn, .int x15_0])), (h1, .inl (cI, orl, .inl ork)), (h2, .inl (cI, owl, .inl oww))] H := hP.sub [0, 1, 2] rfl
    have hD : va_D A [(h0, .inr (5, [.int on, .int oo, .int og, .ref h1, .ref h2, .int ost, .int ord, .int oac, .int ore, .int okn, .int x15_0])), (h1, .inl (cI, orl, .inl ork)), (h2, .inl (cI, owl, .inl oww))] := hD.sub [0, 1, 2] (by decide) rfl
    refine lv_if_eq (tgt := 25) hx hb dX3_house_18 (by decide) (fun hc => ?_) (fun hc => ?_)
    · have hv := hv.1 hc
      refine lv_iload_n hx hb dX3_house_25 rfl (lv_at hl 1 rfl) ?_
      refine lv_if_ne (tgt := 36) hx hb dX3_house_26 (by decide) (fun hc => ?_) (fun hc => ?_)
      · have hv := hv.1 hc
        refine lv_iload_n hx hb dX3_house_36 rfl (lv_at hl 1 rfl) ?_
        refine lv_iconst (v := (1 : Int32)) hx hb dX3_house_37 (by decide) ?_
        refine lv_icmp_ne (tgt := 48) hx hb dX3_house_38 (by decide) (fun hc => ?_) (fun hc => ?_)
        · have hv := hv.1 hc
          refine lv_aload_n hx hb dX3_house_48 rfl (lv_at hl 0 rfl) ?_
          refine va_get (D := D) (ci := 5) (v := .int okn) (C := RX3) (T := TX3) (N := 11) hx hb hts hi_X3 hown hK hP 0 rfl rfl 9 (by decide) hF161 (fun _ h9 => h9) rfl dX3_house_49 ?_
          refine W.widen (k := 0) (n := 0) (Nat.le_of_ble_eq_true rfl) (Nat.le_of_ble_eq_true rfl) ?_
          exact W.iret (v := okn) hx hb hr (kWi_ret (u := x15_0) hv hP hD hS) hS.2.2 dX3_house_52
        · have hv := hv.2 hc
          refine lv_aload_n hx hb dX3_house_41 rfl (lv_at hl 0 rfl) ?_
          refine va_get (D := D) (ci := 5) (v := .int ore) (C := RX3) (T := TX3) (N := 11) hx hb hts hi_X3 hown hK hP 0 rfl rfl 8 (by decide) hF95 (fun _ h9 => h9) rfl dX3_house_42 ?_
          refine lv_goto (tgt := 52) hx hb dX3_house_45 (by decide) ?_
          refine W.widen (k := 0) (n := 0) (Nat.le_of_ble_eq_true rfl) (Nat.le_of_ble_eq_true rfl) ?_
          exact W.iret (v := ore) hx hb hr (kWi_ret (u := x15_0) hv hP hD hS) hS.2.2 dX3_house_52
      · have hv := hv.2 hc
        refine lv_aload_n hx hb dX3_house_29 rfl (lv_at hl 0 rfl) ?_
        refine va_get (D := D) (ci := 5) (v := .int oac) (C := RX3) (T := TX3) (N := 11) hx hb hts hi_X3 hown hK hP 0 rfl rfl 7 (by decide) hF92 (fun _ h9 => h9) rfl dX3_house_30 ?_
        refine lv_goto (tgt := 52) hx hb dX3_house_33 (by decide) ?_
        refine W.widen (k := 0) (n := 0) (Nat.le_of_ble_eq_true rfl) (Nat.le_of_ble_eq_true rfl) ?_
        exact W.iret (v := oac) hx hb hr (kWi_ret (u := x15_0) hv hP hD hS) hS.2.2 dX3_house_52
    · have hv := hv.2 hc
      refine lv_iconst (v := (0 : Int32)) hx hb dX3_house_21 (by decide) ?_
      refine lv_goto (tgt := 52) hx hb dX3_house_22 (by decide) ?_
      refine W.widen (k := 0) (n := 0) (Nat.le_of_ble_eq_true rfl) (Nat.le_of_ble_eq_true rfl) ?_
      exact W.iret (v := (0 : Int32)) hx hb hr (kWi_ret (u := x15_0) hv hP hD hS) hS.2.2 dX3_house_52
  have J10 : ∀  (H : Heap) (locs : List Loc) (ls : Array Slot), va_P D vwCl [(h0, .inr (5, [.int on, .int oo, .int og, .ref h1, .ref h2, .int ost, .int ord, .int oac, .int ore, .int okn, .int oth])), (h1, .inl (cI, orl, .inl ork)), (h2, .inl (cI, owl, .inl oww))] H → va_D A [(h0, .inr (5, [.int on, .int oo, .int og, .ref h1, .ref h2, .int ost, .int ord, .int oac, .int ore, .int okn, .int oth])), (h1, .inl (cI, orl, .inl ork)), (h2, .inl (cI, owl, .inl oww))] → va_S A s.heap H locs → qX3_houseW_j10 oac ore okn a1 post → lv_has ls 2 [(0, .ref h0), (1, .int a1)] → W p l e (headSpec wsX3_house ({ frames := 2, cells := 0, slots := 0, locals := 43 })).room s m ([.ref h0, .int a1] : List Value).toArray below meth c H locs 0 0 (MQ below (va_Qi (fun (r : Int32) (u : Int32) => post r u) (fun (u : Int32) (t : State) => kE D A [(h0, .inr (5, [.int on, .int oo, .int og, .ref h1, .ref h2, .int ost, .int ord, .int oac, .int ore, .int okn, .int u])), (h1, .inl (cI, orl, .inl ork)), (h2, .inl (cI, owl, .inl oww))] t) A) ([.ref h0, .int a1] : List Value).toArray s 0 0 A) (F0 m 10 ls [.ref h0]) := by
    intro  H locs ls hP hD hS hv hl
    refine lv_iconst (v := (1 : Int32)) hx hb dX3_house_10 (by decide) ?_
    refine lv_goto (tgt := 15) hx hb dX3_house_11 (by decide) ?_
    refine W.widen (k := 0) (n := 0) (Nat.le_of_ble_eq_true rfl) (Nat.le_of_ble_eq_true rfl) ?_
    exact J15 _ _ _ _ hP hD hS hv (lv_sub hl [0, 1] rfl)
  refine lv_if_lt (tgt := 10) hx hb dX3_house_2 (by decide) (fun hc => ?_) (fun hc => ?_)
  · have hv := hv.1 hc
    refine W.widen (k := 0) (n := 0) (Nat.le_of_ble_eq_true rfl) (Nat.le_of_ble_eq_true rfl) ?_
    exact J10  _ _ _ hP hD hS hv (lv_sub hl [0, 1] rfl)
  · have hv := hv.2 hc
    refine lv_iload_n hx hb dX3_house_5 rfl (lv_at hl 1 rfl) ?_
    refine lv_iconst (v := (2 : Int32)) hx hb dX3_house_6 (by decide) ?_
    refine lv_icmp_le (tgt := 14) hx hb dX3_house_7 (by decide) (fun hc => ?_) (fun hc => ?_)
    · have hv := hv.1 hc
      refine lv_iconst (v := (0 : Int32)) hx hb dX3_house_14 (by decide) ?_
      refine W.widen (k := 0) (n := 0) (Nat.le_of_ble_eq_true rfl) (Nat.le_of_ble_eq_true rfl) ?_
      exact J15 _ _ _ _ hP hD hS hv (lv_sub hl [0, 1] rfl)
    · have hv := hv.2 hc
      refine W.widen (k := 0) (n := 0) (Nat.le_of_ble_eq_true rfl) (Nat.le_of_ble_eq_true rfl) ?_
      exact J10  _ _ _ hP hD hS hv (lv_sub hl [0, 1] rfl)
set_option maxHeartbeats 4000000 in
set_option maxRecDepth 100000 in
theorem kX3_knockW (l : Launch) (D : va_G) (cI cB : ClassId) (h0 : Nat) (h1 : Nat) (h2 : Nat) (on : Int32) (oo : Int32) (og : Int32) (orl : Nat) (ork : Nat → Int32) (owl : Nat) (oww : Nat → Int32) (ost : Int32) (ord : Int32) (oac : Int32) (ore : Int32) (okn : Int32) (oth : Int32)  (sz : Nat) (post : Int32 → Int32 → Int32 → Prop) (hv : qX3_knockW okn post) : Met l yX3_knock wsX3_knock ({ frames := 0, cells := 0, slots := 0, locals := 0 }) (va_Pc [.ref h0] (kBW D cI cB sz [(h0, .inr (5, [.int on, .int oo, .int og, .ref h1, .ref h2, .int ost, .int ord, .int oac, .int ore, .int okn, .int oth])), (h1, .inl (cI, orl, .inl ork)), (h2, .inl (cI, owl, .inl oww))])) (va_Qi (fun (r : Int32) (u : Int32 × Int32) => post r u.1 u.2) (fun (u : Int32 × Int32) (t : State) => kE D (va_A [(h0, .inr (5, [.int on, .int oo, .int og, .ref h1, .ref h2, .int ost, .int ord, .int oac, .int ore, .int okn, .int oth])), (h1, .inl (cI, orl, .inl ork)), (h2, .inl (cI, owl, .inl oww))] sz) [(h0, .inr (5, [.int on, .int oo, .int og, .ref h1, .ref h2, .int ost, .int ord, .int oac, .int ore, .int (u.1), .int (u.2)])), (h1, .inl (cI, orl, .inl ork)), (h2, .inl (cI, owl, .inl oww))] t) (va_A [(h0, .inr (5, [.int on, .int oo, .int og, .ref h1, .ref h2, .int ost, .int ord, .int oac, .int ore, .int okn, .int oth])), (h1, .inl (cI, orl, .inl ork)), (h2, .inl (cI, owl, .inl oww))] sz)) 0 0 (va_A [(h0, .inr (5, [.int on, .int oo, .int og, .ref h1, .ref h2, .int ost, .int ord, .int oac, .int ore, .int okn, .int oth])), (h1, .inl (cI, orl, .inl ork)), (h2, .inl (cI, owl, .inl oww))] sz) := by
  refine Met.ofW (cc := cX3_knock) (maxL := 1) (ret := (some .int)) (by decide) rfl ?_
  intro p e s m args below meth c s₁ B hml hv0
  obtain ⟨rfl, hsz, ⟨hP, hK, hN⟩, hD0⟩ := hv0
  have hx := B.exec
  have hb := B.bytes
  have hr := B.returns
  have hts := atoms_spec (ws := wsX3_knock) B.pre
  have hown : s.vm.findClass RX3 = some m.cls := findClass_of_methodNamed B.named
  have hlocks := B.notSynchronized
  have hi_X3 : ∀ w ∈ wsX30, w ∈ wsX3_knock := by decide +kernel
  have hF13 := hts (.fieldLink RX3 13 "RoadgameModel" "thrown" "I") (by decide +kernel)
  have hF161 := hts (.fieldLink RX3 161 "RoadgameModel" "knocks" "I") (by decide +kernel)
  subst hsz
  have hD := hD0.self (sz := s.heap.size)
  generalize hAe : va_A [(h0, .inr (5, [.int on, .int oo, .int og, .ref h1, .ref h2, .int ost, .int ord, .int oac, .int ore, .int okn, .int oth])), (h1, .inl (cI, orl, .inl ork)), (h2, .inl (cI, owl, .inl oww))] s.heap.size = A at hD ⊢
  have hA : ∀ q : Nat, s.heap.size ≤ q → A q := fun q h => by rw [← hAe]; exact Or.inr h
  have hS : va_S A s.heap s.heap [] := va_S.rf
  have hl := lv_entry ([.ref h0]) (n := 1) (Nat.le_of_ble_eq_true rfl)
  rw [lg_entry_eq]
  generalize (lg_sl ([.ref h0]) ++ List.replicate (1 - (lg_sl ([.ref h0])).length) Slot.unset).toArray = ls at hl ⊢
  have hl : lv_has ls 1 [(0, .ref h0)] := hl
  refine lv_aload_n hx hb dX3_knock_0 rfl (lv_at hl 0 rfl) ?_
  refine lv_iconst (v := (0 : Int32)) hx hb dX3_knock_1 (by decide) ?_
  refine va_put (D := D) (ci := 5) (v := .int (0 : Int32)) (ty := .int) (C := RX3) (T := TX3) (N := 11) hx hb hts hi_X3 tyX3 tyX3_ok nmX3 hown hK hP hD hS 0 rfl rfl 10 (by decide) hF13 (fun _ h9 => h9) rfl (by decide +kernel) rfl rfl (Nat.le_of_ble_eq_true rfl) dX3_knock_2 (fun H locs hP hD hS => ?_)
  have hP : va_P D vwCl [(h0, .inr (5, [.int on, .int oo, .int og, .ref h1, .ref h2, .int ost, .int ord, .int oac, .int ore, .int okn, .int (0 : Int32)])), (h1, .inl (cI, orl, .inl ork)), (h2, .inl (cI, owl, .inl oww))] H := hP
  have hD : va_D A [(h0, .inr (5, [.int on, .int oo, .int og, .ref h1, .ref h2, .int ost, .int ord, .int oac, .int ore, .int okn, .int (0 : Int32)])), (h1, .inl (cI, orl, .inl ork)), (h2, .inl (cI, owl, .inl oww))] := hD
  refine lv_aload_n hx hb dX3_knock_5 rfl (lv_at hl 0 rfl) ?_
  refine lv_dup hx hb dX3_knock_6 rfl ?_
  refine va_get (D := D) (ci := 5) (v := .int okn) (C := RX3) (T := TX3) (N := 11) hx hb hts hi_X3 hown hK hP 0 rfl rfl 9 (by decide) hF161 (fun _ h9 => h9) rfl dX3_knock_7 ?_
  refine lv_iconst (v := (1 : Int32)) hx hb dX3_knock_10 (by decide) ?_
  refine lv_iadd hx hb dX3_knock_11 ?_
  refine va_put (D := D) (ci := 5) (v := .int (okn + (1 : Int32))) (ty := .int) (C := RX3) (T := TX3) (N := 11) hx hb hts hi_X3 tyX3 tyX3_ok nmX3 hown hK hP hD hS 0 rfl rfl 9 (by decide) hF161 (fun _ h9 => h9) rfl (by decide +kernel) rfl rfl (Nat.le_of_ble_eq_true rfl) dX3_knock_12 (fun H locs hP hD hS => ?_)
  have hP : va_P D vwCl [(h0, .inr (5, [.int on, .int oo, .int og, .ref h1, .ref h2, .int ost, .int ord, .int oac, .int ore, .int (okn + (1 : Int32)), .int (0 : Int32)])), (h1, .inl (cI, orl, .inl ork)), (h2, .inl (cI, owl, .inl oww))] H := hP
  have hD : va_D A [(h0, .inr (5, [.int on, .int oo, .int og, .ref h1, .ref h2, .int ost, .int ord, .int oac, .int ore, .int (okn + (1 : Int32)), .int (0 : Int32)])), (h1, .inl (cI, orl, .inl ork)), (h2, .inl (cI, owl, .inl oww))] := hD
  refine lv_aload_n hx hb dX3_knock_15 rfl (lv_at hl 0 rfl) ?_
  refine va_get (D := D) (ci := 5) (v := .int (okn + (1 : Int32))) (C := RX3) (T := TX3) (N := 11) hx hb hts hi_X3 hown hK hP 0 rfl rfl 9 (by decide) hF161 (fun _ h9 => h9) rfl dX3_knock_16 ?_
  refine W.widen (k := 0) (n := 0) (Nat.le_of_ble_eq_true rfl) (Nat.le_of_ble_eq_true rfl) ?_
  exact W.iret (v := (okn + (1 : Int32))) hx hb hr (kWi_ret (u := ((okn + (1 : Int32)), (0 : Int32))) hv hP hD hS) hS.2.2 dX3_knock_19
set_option maxHeartbeats 4000000 in
set_option maxRecDepth 100000 in
theorem kX3_isSoundW (l : Launch) (D : va_G) (cI cB : ClassId) (h0 : Nat) (h1 : Nat) (h2 : Nat) (on : Int32) (oo : Int32) (og : Int32) (orl : Nat) (ork : Nat → Int32) (owl : Nat) (oww : Nat → Int32) (ost : Int32) (ord : Int32) (oac : Int32) (ore : Int32) (okn : Int32) (oth : Int32)  (sz : Nat) (post : Int32 → Int32 → Prop) (hv : qX3_isSoundW post) : Met l yX3_isSound wsX3_isSound ({ frames := 0, cells := 0, slots := 0, locals := 0 }) (va_Pc [.ref h0] (kBW D cI cB sz [(h0, .inr (5, [.int on, .int oo, .int og, .ref h1, .ref h2, .int ost, .int ord, .int oac, .int ore, .int okn, .int oth])), (h1, .inl (cI, orl, .inl ork)), (h2, .inl (cI, owl, .inl oww))])) (va_Qi (fun (r : Int32) (u : Int32) => post r u) (fun (u : Int32) (t : State) => kE D (va_A [(h0, .inr (5, [.int on, .int oo, .int og, .ref h1, .ref h2, .int ost, .int ord, .int oac, .int ore, .int okn, .int oth])), (h1, .inl (cI, orl, .inl ork)), (h2, .inl (cI, owl, .inl oww))] sz) [(h0, .inr (5, [.int on, .int oo, .int og, .ref h1, .ref h2, .int ost, .int ord, .int oac, .int ore, .int okn, .int u])), (h1, .inl (cI, orl, .inl ork)), (h2, .inl (cI, owl, .inl oww))] t) (va_A [(h0, .inr (5, [.int on, .int oo, .int og, .ref h1, .ref h2, .int ost, .int ord, .int oac, .int ore, .int okn, .int oth])), (h1, .inl (cI, orl, .inl ork)), (h2, .inl (cI, owl, .inl oww))] sz)) 0 0 (va_A [(h0, .inr (5, [.int on, .int oo, .int og, .ref h1, .ref h2, .int ost, .int ord, .int oac, .int ore, .int okn, .int oth])), (h1, .inl (cI, orl, .inl ork)), (h2, .inl (cI, owl, .inl oww))] sz) := by
  refine Met.ofW (cc := cX3_isSound) (maxL := 1) (ret := (some .boolean)) (by decide) rfl ?_
  intro p e s m args below meth c s₁ B hml hv0
  obtain ⟨rfl, hsz, ⟨hP, hK, hN⟩, hD0⟩ := hv0
  have hx := B.exec
  have hb := B.bytes
  have hr := B.returns
  have hts := atoms_spec (ws := wsX3_isSound) B.pre
  have hown : s.vm.findClass RX3 = some m.cls := findClass_of_methodNamed B.named
  have hlocks := B.notSynchronized
  have hi_X3 : ∀ w ∈ wsX30, w ∈ wsX3_isSound := by decide +kernel
  have hF13 := hts (.fieldLink RX3 13 "RoadgameModel" "thrown" "I") (by decide +kernel)
  subst hsz
  have hD := hD0.self (sz := s.heap.size)
  generalize hAe : va_A [(h0, .inr (5, [.int on, .int oo, .int og, .ref h1, .ref h2, .int ost, .int ord, .int oac, .int ore, .int okn, .int oth])), (h1, .inl (cI, orl, .inl ork)), (h2, .inl (cI, owl, .inl oww))] s.heap.size = A at hD ⊢
  have hA : ∀ q : Nat, s.heap.size ≤ q → A q := fun q h => by rw [← hAe]; exact Or.inr h
  have hS : va_S A s.heap s.heap [] := va_S.rf
  have hl := lv_entry ([.ref h0]) (n := 1) (Nat.le_of_ble_eq_true rfl)
  rw [lg_entry_eq]
  generalize (lg_sl ([.ref h0]) ++ List.replicate (1 - (lg_sl ([.ref h0])).length) Slot.unset).toArray = ls at hl ⊢
  have hl : lv_has ls 1 [(0, .ref h0)] := hl
  refine lv_aload_n hx hb dX3_isSound_0 rfl (lv_at hl 0 rfl) ?_
  refine lv_iconst (v := (0 : Int32)) hx hb dX3_isSound_1 (by decide) ?_
  refine va_put (D := D) (ci := 5) (v := .int (0 : Int32)) (ty := .int) (C := RX3) (T := TX3) (N := 11) hx hb hts hi_X3 tyX3 tyX3_ok nmX3 hown hK hP hD hS 0 rfl rfl 10 (by decide) hF13 (fun _ h9 => h9) rfl (by decide +kernel) rfl rfl (Nat.le_of_ble_eq_true rfl) dX3_isSound_2 (fun H locs hP hD hS => ?_)
  have hP : va_P D vwCl [(h0, .inr (5, [.int on, .int oo, .int og, .ref h1, .ref h2, .int ost, .int ord, .int oac, .int ore, .int okn, .int (0 : Int32)])), (h1, .inl (cI, orl, .inl ork)), (h2, .inl (cI, owl, .inl oww))] H := hP
  have hD : va_D A [(h0, .inr (5, [.int on, .int oo, .int og, .ref h1, .ref h2, .int ost, .int ord, .int oac, .int ore, .int okn, .int (0 : Int32)])), (h1, .inl (cI, orl, .inl ork)), (h2, .inl (cI, owl, .inl oww))] := hD
  refine lv_iconst (v := (1 : Int32)) hx hb dX3_isSound_5 (by decide) ?_
  refine W.widen (k := 0) (n := 0) (Nat.le_of_ble_eq_true rfl) (Nat.le_of_ble_eq_true rfl) ?_
  exact W.zret (v := (1 : Int32)) (ty := .boolean) hx hb hr rfl (kWi_ret (u := (0 : Int32)) hv hP hD hS) hS.2.2 dX3_isSound_6
set_option maxHeartbeats 4000000 in
set_option maxRecDepth 100000 in
theorem kX3_digestW (l : Launch) (D : va_G) (cI cB : ClassId) (h0 : Nat) (h1 : Nat) (h2 : Nat) (on : Int32) (oo : Int32) (og : Int32) (orl : Nat) (ork : Nat → Int32) (owl : Nat) (oww : Nat → Int32) (ost : Int32) (ord : Int32) (oac : Int32) (ore : Int32) (okn : Int32) (oth : Int32)  (sz : Nat) (post : Int64 → Int32 → Prop) (hv : qX3_digestW on oo og orl ork owl oww ost ord oac ore okn post) : Met l yX3_digest wsX3_digest ({ frames := 6, cells := 2, slots := 4, locals := 134 }) (va_Pc [.ref h0] (kBW D cI cB sz [(h0, .inr (5, [.int on, .int oo, .int og, .ref h1, .ref h2, .int ost, .int ord, .int oac, .int ore, .int okn, .int oth])), (h1, .inl (cI, orl, .inl ork)), (h2, .inl (cI, owl, .inl oww))])) (va_Ql (fun (r : Int64) (u : Int32) => post r u) (fun (u : Int32) (t : State) => kE D (va_A [(h0, .inr (5, [.int on, .int oo, .int og, .ref h1, .ref h2, .int ost, .int ord, .int oac, .int ore, .int okn, .int oth])), (h1, .inl (cI, orl, .inl ork)), (h2, .inl (cI, owl, .inl oww))] sz) [(h0, .inr (5, [.int on, .int oo, .int og, .ref h1, .ref h2, .int ost, .int ord, .int oac, .int ore, .int okn, .int u])), (h1, .inl (cI, orl, .inl ork)), (h2, .inl (cI, owl, .inl oww))] t) (va_A [(h0, .inr (5, [.int on, .int oo, .int og, .ref h1, .ref h2, .int ost, .int ord, .int oac, .int ore, .int okn, .int oth])), (h1, .inl (cI, orl, .inl ork)), (h2, .inl (cI, owl, .inl oww))] sz)) 2 4 (va_A [(h0, .inr (5, [.int on, .int oo, .int og, .ref h1, .ref h2, .int ost, .int ord, .int oac, .int ore, .int okn, .int oth])), (h1, .inl (cI, orl, .inl ork)), (h2, .inl (cI, owl, .inl oww))] sz) := by
  refine Met.ofW (cc := cX3_digest) (maxL := 7) (ret := (some .long)) (by decide) rfl ?_
  intro p e s m args below meth c s₁ B hml hv0
  obtain ⟨rfl, hsz, ⟨hP, hK, hN⟩, hD0⟩ := hv0
  have hx := B.exec
  have hb := B.bytes
  have hr := B.returns
  have hts := atoms_spec (ws := wsX3_digest) B.pre
  have hown : s.vm.findClass RX3 = some m.cls := findClass_of_methodNamed B.named
  have hlocks := B.notSynchronized
  have hi_X3 : ∀ w ∈ wsX30, w ∈ wsX3_digest := by decide +kernel
  have hF13 := hts (.fieldLink RX3 13 "RoadgameModel" "thrown" "I") (by decide +kernel)
  have hF17 := hts (.fieldLink RX3 17 "RoadgameModel" "n" "I") (by decide +kernel)
  have hF92 := hts (.fieldLink RX3 92 "RoadgameModel" "acts" "I") (by decide +kernel)
  have hF95 := hts (.fieldLink RX3 95 "RoadgameModel" "refused" "I") (by decide +kernel)
  have hF161 := hts (.fieldLink RX3 161 "RoadgameModel" "knocks" "I") (by decide +kernel)
  have hC166 := hts (.constantLong RX3 166 (8031 : Int64)) (by decide +kernel)
  subst hsz
  have hD := hD0.self (sz := s.heap.size)
  generalize hAe : va_A [(h0, .inr (5, [.int on, .int oo, .int og, .ref h1, .ref h2, .int ost, .int ord, .int oac, .int ore, .int okn, .int oth])), (h1, .inl (cI, orl, .inl ork)), (h2, .inl (cI, owl, .inl oww))] s.heap.size = A at hD ⊢
  have hA : ∀ q : Nat, s.heap.size ≤ q → A q := fun q h => by rw [← hAe]; exact Or.inr h
  have hS : va_S A s.heap s.heap [] := va_S.rf
  have hl := lv_entry ([.ref h0]) (n := 7) (Nat.le_of_ble_eq_true rfl)
  rw [lg_entry_eq]
  generalize (lg_sl ([.ref h0]) ++ List.replicate (7 - (lg_sl ([.ref h0])).length) Slot.unset).toArray = ls at hl ⊢
  have hl : lv_has ls 7 [(0, .ref h0)] := hl
  refine lv_aload_n hx hb dX3_digest_0 rfl (lv_at hl 0 rfl) ?_
  refine lv_iconst (v := (0 : Int32)) hx hb dX3_digest_1 (by decide) ?_
  refine va_put (D := D) (ci := 5) (v := .int (0 : Int32)) (ty := .int) (C := RX3) (T := TX3) (N := 11) hx hb hts hi_X3 tyX3 tyX3_ok nmX3 hown hK hP hD hS 0 rfl rfl 10 (by decide) hF13 (fun _ h9 => h9) rfl (by decide +kernel) rfl rfl (Nat.le_of_ble_eq_true rfl) dX3_digest_2 (fun H locs hP hD hS => ?_)
  have hP : va_P D vwCl [(h0, .inr (5, [.int on, .int oo, .int og, .ref h1, .ref h2, .int ost, .int ord, .int oac, .int ore, .int okn, .int (0 : Int32)])), (h1, .inl (cI, orl, .inl ork)), (h2, .inl (cI, owl, .inl oww))] H := hP
  have hD : va_D A [(h0, .inr (5, [.int on, .int oo, .int og, .ref h1, .ref h2, .int ost, .int ord, .int oac, .int ore, .int okn, .int (0 : Int32)])), (h1, .inl (cI, orl, .inl ork)), (h2, .inl (cI, owl, .inl oww))] := hD
  refine lv_ldc2 (v := (8031 : Int64)) hx hb hown hC166 dX3_digest_5 ?_
  refine lv_lstore_n (lv' := [(1, .long (8031 : Int64)), (0, .ref h0)]) hx hb dX3_digest_8 rfl hl (by decide) rfl (fun ls hl => ?_)
  refine lv_iconst (v := (0 : Int32)) hx hb dX3_digest_9 (by decide) ?_
  refine lv_istore_n (lv' := [(3, .int (0 : Int32)), (1, .long (8031 : Int64)), (0, .ref h0)]) hx hb dX3_digest_10 rfl hl (by decide) rfl (fun ls hl => ?_)
  have L11 : ∀ (K11_34 : Int64 → Int32 → Prop), (∀ (v1_11 : Int64) (v3_11 : Int32) (H : Heap) (locs : List Loc) (ls : Array Slot), va_P D vwCl [(h0, .inr (5, [.int on, .int oo, .int og, .ref h1, .ref h2, .int ost, .int ord, .int oac, .int ore, .int okn, .int (0 : Int32)])), (h1, .inl (cI, orl, .inl ork)), (h2, .inl (cI, owl, .inl oww))] H → va_D A [(h0, .inr (5, [.int on, .int oo, .int og, .ref h1, .ref h2, .int ost, .int ord, .int oac, .int ore, .int okn, .int (0 : Int32)])), (h1, .inl (cI, orl, .inl ork)), (h2, .inl (cI, owl, .inl oww))] → va_S A s.heap H locs → K11_34 v1_11 v3_11 → lv_has ls 7 [(0, .ref h0), (1, .long v1_11), (3, .int v3_11)] → W p l e (headSpec wsX3_digest ({ frames := 6, cells := 2, slots := 4, locals := 134 })).room s m ([.ref h0] : List Value).toArray below meth c H locs 0 0 (MQ below (va_Ql (fun (r : Int64) (u : Int32) => post r u) (fun (u : Int32) (t : State) => kE D A [(h0, .inr (5, [.int on, .int oo, .int og, .ref h1, .ref h2, .int ost, .int ord, .int oac, .int ore, .int okn, .int u])), (h1, .inl (cI, orl, .inl ork)), (h2, .inl (cI, owl, .inl oww))] t) A) ([.ref h0] : List Value).toArray s 2 4 A) (F0 m 34 ls [])) → ∀ (n11 : Nat) (v1_11 : Int64) (v3_11 : Int32) (H : Heap) (locs : List Loc) (ls : Array Slot), va_P D vwCl [(h0, .inr (5, [.int on, .int oo, .int og, .ref h1, .ref h2, .int ost, .int ord, .int oac, .int ore, .int okn, .int (0 : Int32)])), (h1, .inl (cI, orl, .inl ork)), (h2, .inl (cI, owl, .inl oww))] H → va_D A [(h0, .inr (5, [.int on, .int oo, .int og, .ref h1, .ref h2, .int ost, .int ord, .int oac, .int ore, .int okn, .int (0 : Int32)])), (h1, .inl (cI, orl, .inl ork)), (h2, .inl (cI, owl, .inl oww))] → va_S A s.heap H locs → qX3_digest_W11 on oo og owl oww ost ord K11_34 n11 v1_11 v3_11 → lv_has ls 7 [(0, .ref h0), (1, .long v1_11), (3, .int v3_11)] → W p l e (headSpec wsX3_digest ({ frames := 6, cells := 2, slots := 4, locals := 134 })).room s m ([.ref h0] : List Value).toArray below meth c H locs 0 0 (MQ below (va_Ql (fun (r : Int64) (u : Int32) => post r u) (fun (u : Int32) (t : State) => kE D A [(h0, .inr (5, [.int on, .int oo, .int og, .ref h1, .ref h2, .int ost, .int ord, .int oac, .int ore, .int okn, .int u])), (h1, .inl (cI, orl, .inl ork)), (h2, .inl (cI, owl, .inl oww))] t) A) ([.ref h0] : List Value).toArray s 2 4 A) (F0 m 11 ls []) := by
    intro K11_34 hk11_34
    intro n11
    induction n11 with
    | zero => intro v1_11 v3_11 H locs ls hP hD hS hv hl; exact hv.elim
    | succ n11 ih11 =>
      intro v1_11 v3_11 H locs ls hP hD hS hv hl
      refine lv_iload_n hx hb dX3_digest_11 rfl (lv_at hl 2 rfl) ?_
      refine lv_bipush (v := (6 : Int32)) hx hb dX3_digest_12 (by decide) ?_
      refine lv_icmp_gt (tgt := 34) hx hb dX3_digest_14 (by decide) (fun hc => ?_) (fun hc => ?_)
      · have hv := hv.1 hc
        exact hk11_34 _ _ _ _ _ hP hD hS hv (lv_sub hl [0, 1, 2] rfl)
      · have hv := hv.2 hc
        refine lv_lload_n hx hb dX3_digest_17 rfl (lv_at hl 1 rfl) ?_
        refine lv_aload_n hx hb dX3_digest_18 rfl (lv_at hl 0 rfl) ?_
        refine lv_iload_n hx hb dX3_digest_19 rfl (lv_at hl 2 rfl) ?_
        refine kc_V (As := [.int v3_11]) (rest := [.long v1_11]) ⟨hx, hb, hml, hown, hts⟩ (kX3_toldNow l D cI cB h0 h1 h2 on oo og orl ork owl oww ost ord oac ore okn (0 : Int32) v3_11 _ hv) (cwV 1 hts gX3_digest_X3_toldNow rfl rfl rfl (by decide +kernel) ⟨Nat.le_of_ble_eq_true rfl, Nat.le_of_ble_eq_true rfl⟩) hP hK hN 5 rfl rfl rfl rfl hl.1 rfl (Nat.le_of_ble_eq_true rfl) dX3_digest_20 ⟨Nat.le_of_ble_eq_true rfl, Nat.le_of_ble_eq_true rfl⟩ (fun r20 hv => ?_)
        refine lv_i2l hx hb dX3_digest_23 rfl ?_
        refine kc_Sl (As := [.long v1_11, .long r20.toInt64]) (rest := []) ⟨hx, hb, hml, hown, hts⟩ (kX3_add l D cI cB v1_11 (r20.toInt64) _ hv) (va_cwS 2 hts gX3_digest_X3_add rfl rfl rfl (by decide +kernel) ⟨Nat.le_of_ble_eq_true rfl, Nat.le_of_ble_eq_true rfl⟩) (hP.sub (ws' := []) [] rfl) hK hN rfl hl.1 rfl (Nat.le_of_ble_eq_true rfl) dX3_digest_24 ⟨Nat.le_of_ble_eq_true rfl, Nat.le_of_ble_eq_true rfl⟩ (fun r24 hv => ?_)
        refine lv_lstore_n (lv' := [(1, .long r24), (0, .ref h0), (3, .int v3_11)]) hx hb dX3_digest_27 rfl hl (by decide) rfl (fun ls hl => ?_)
        refine lv_iinc (v := (v3_11 + (1 : Int32))) (lv' := [(3, .int (v3_11 + (1 : Int32))), (1, .long r24), (0, .ref h0)]) hx hb dX3_digest_28 hl (k := 2) rfl rfl (by decide) rfl (fun ls hl => ?_)
        refine lv_goto (tgt := 11) hx hb dX3_digest_31 (by decide) ?_
        exact ih11 _ _ _ _ _ hP hD hS hv (lv_sub hl [2, 1, 0] rfl)
  obtain ⟨n11, hv⟩ := hv
  refine L11 _ (fun v1_11x v3_11x H locs ls hP hD hS hv hl => ?_) n11 _ _ _ _ _ hP hD hS hv (lv_sub hl [2, 1, 0] rfl)
  refine lv_iconst (v := (2 : Int32)) hx hb dX3_digest_34 (by decide) ?_
  refine va_newa (atype := .int) (ty := .int) (N' := 2) (a0 := (2, .inl (fun _ => (0 : Int32)))) hx hb (hts (.arrayClass .int) (by decide +kernel)) rfl hK hP hD hS hA (fun _ => rfl) (by decide) (by decide) (Nat.le_of_ble_eq_true rfl) (Nat.le_of_ble_eq_true rfl) (Nat.le_of_ble_eq_true rfl) dX3_digest_35 (fun w35 cA H hK2 hP hD hS => ?_)
  have hcA := kSameI hK hK2
  subst hcA
  have hP : va_P D vwCl [(h0, .inr (5, [.int on, .int oo, .int og, .ref h1, .ref h2, .int ost, .int ord, .int oac, .int ore, .int okn, .int (0 : Int32)])), (h1, .inl (cI, orl, .inl ork)), (h2, .inl (cI, owl, .inl oww)), (w35, .inl (cI, 2, .inl (fun _ => (0 : Int32))))] H := hP
  have hD : va_D A [(h0, .inr (5, [.int on, .int oo, .int og, .ref h1, .ref h2, .int ost, .int ord, .int oac, .int ore, .int okn, .int (0 : Int32)])), (h1, .inl (cI, orl, .inl ork)), (h2, .inl (cI, owl, .inl oww)), (w35, .inl (cI, 2, .inl (fun _ => (0 : Int32))))] := hD
  refine W.widen (k := 1) (n := 2) (Nat.le_of_ble_eq_true rfl) (Nat.le_of_ble_eq_true rfl) ?_
  refine lv_dup hx hb dX3_digest_37 rfl ?_
  refine lv_iconst (v := (0 : Int32)) hx hb dX3_digest_38 (by decide) ?_
  refine lv_aload_n hx hb dX3_digest_39 rfl (lv_at hl 0 rfl) ?_
  refine lv_iconst (v := (0 : Int32)) hx hb dX3_digest_40 (by decide) ?_
  refine kc_V (As := [.int (0 : Int32)]) (rest := [.int (0 : Int32), .ref w35, .ref w35]) ⟨hx, hb, hml, hown, hts⟩ (kX3_comingOf l D cI cB h0 h1 h2 on oo og orl ork owl oww ost ord oac ore okn (0 : Int32) (0 : Int32) _ hv) (cwV 1 hts gX3_digest_X3_comingOf rfl rfl rfl (by decide +kernel) ⟨Nat.le_of_ble_eq_true rfl, Nat.le_of_ble_eq_true rfl⟩) (hP.sub (ws' := [(h0, .inr (5, [.int on, .int oo, .int og, .ref h1, .ref h2, .int ost, .int ord, .int oac, .int ore, .int okn, .int (0 : Int32)])), (h1, .inl (cI, orl, .inl ork)), (h2, .inl (cI, owl, .inl oww))]) [0, 1, 2] rfl) hK hN 5 rfl rfl rfl rfl hl.1 rfl (Nat.le_of_ble_eq_true rfl) dX3_digest_41 ⟨Nat.le_of_ble_eq_true rfl, Nat.le_of_ble_eq_true rfl⟩ (fun r41 hv => ?_)
  obtain ⟨hq, hv⟩ := hv
  refine va_iast hx hb hK hP hD hS 3 0 rfl rfl hq dX3_digest_44 (fun H locs hP hD hS => ?_)
  have hP : va_P D vwCl [(h0, .inr (5, [.int on, .int oo, .int og, .ref h1, .ref h2, .int ost, .int ord, .int oac, .int ore, .int okn, .int (0 : Int32)])), (h1, .inl (cI, orl, .inl ork)), (h2, .inl (cI, owl, .inl oww)), (w35, .inl (cI, 2, .inl (upd (fun _ => (0 : Int32)) (0 : Int32).toNatClampNeg r41)))] H := hP
  have hD : va_D A [(h0, .inr (5, [.int on, .int oo, .int og, .ref h1, .ref h2, .int ost, .int ord, .int oac, .int ore, .int okn, .int (0 : Int32)])), (h1, .inl (cI, orl, .inl ork)), (h2, .inl (cI, owl, .inl oww)), (w35, .inl (cI, 2, .inl (upd (fun _ => (0 : Int32)) (0 : Int32).toNatClampNeg r41)))] := hD
  refine lv_dup hx hb dX3_digest_45 rfl ?_
  refine lv_iconst (v := (1 : Int32)) hx hb dX3_digest_46 (by decide) ?_
  refine lv_aload_n hx hb dX3_digest_47 rfl (lv_at hl 0 rfl) ?_
  refine lv_iconst (v := (1 : Int32)) hx hb dX3_digest_48 (by decide) ?_
  refine kc_V (As := [.int (1 : Int32)]) (rest := [.int (1 : Int32), .ref w35, .ref w35]) ⟨hx, hb, hml, hown, hts⟩ (kX3_comingOf l D cI cB h0 h1 h2 on oo og orl ork owl oww ost ord oac ore okn (0 : Int32) (1 : Int32) _ hv) (cwV 1 hts gX3_digest_X3_comingOf rfl rfl rfl (by decide +kernel) ⟨Nat.le_of_ble_eq_true rfl, Nat.le_of_ble_eq_true rfl⟩) (hP.sub (ws' := [(h0, .inr (5, [.int on, .int oo, .int og, .ref h1, .ref h2, .int ost, .int ord, .int oac, .int ore, .int okn, .int (0 : Int32)])), (h1, .inl (cI, orl, .inl ork)), (h2, .inl (cI, owl, .inl oww))]) [0, 1, 2] rfl) hK hN 5 rfl rfl rfl rfl hl.1 rfl (Nat.le_of_ble_eq_true rfl) dX3_digest_49 ⟨Nat.le_of_ble_eq_true rfl, Nat.le_of_ble_eq_true rfl⟩ (fun r49 hv => ?_)
  obtain ⟨hq, hv⟩ := hv
  refine va_iast hx hb hK hP hD hS 3 0 rfl rfl hq dX3_digest_52 (fun H locs hP hD hS => ?_)
  have hP : va_P D vwCl [(h0, .inr (5, [.int on, .int oo, .int og, .ref h1, .ref h2, .int ost, .int ord, .int oac, .int ore, .int okn, .int (0 : Int32)])), (h1, .inl (cI, orl, .inl ork)), (h2, .inl (cI, owl, .inl oww)), (w35, .inl (cI, 2, .inl (upd (upd (fun _ => (0 : Int32)) (0 : Int32).toNatClampNeg r41) (1 : Int32).toNatClampNeg r49)))] H := hP
  have hD : va_D A [(h0, .inr (5, [.int on, .int oo, .int og, .ref h1, .ref h2, .int ost, .int ord, .int oac, .int ore, .int okn, .int (0 : Int32)])), (h1, .inl (cI, orl, .inl ork)), (h2, .inl (cI, owl, .inl oww)), (w35, .inl (cI, 2, .inl (upd (upd (fun _ => (0 : Int32)) (0 : Int32).toNatClampNeg r41) (1 : Int32).toNatClampNeg r49)))] := hD
  refine lv_astore_n (lv' := [(3, .ref w35), (0, .ref h0), (1, .long v1_11x)]) hx hb dX3_digest_53 rfl hl (by decide) rfl (fun ls hl => ?_)
  refine lv_iconst (v := (2 : Int32)) hx hb dX3_digest_54 (by decide) ?_
  refine va_newa (atype := .int) (ty := .int) (N' := 2) (a0 := (2, .inl (fun _ => (0 : Int32)))) hx hb (hts (.arrayClass .int) (by decide +kernel)) rfl hK hP hD hS hA (fun _ => rfl) (by decide) (by decide) (Nat.le_of_ble_eq_true rfl) (Nat.le_of_ble_eq_true rfl) (Nat.le_of_ble_eq_true rfl) dX3_digest_55 (fun w55 cA H hK2 hP hD hS => ?_)
  have hcA := kSameI hK hK2
  subst hcA
  have hP : va_P D vwCl [(h0, .inr (5, [.int on, .int oo, .int og, .ref h1, .ref h2, .int ost, .int ord, .int oac, .int ore, .int okn, .int (0 : Int32)])), (h1, .inl (cI, orl, .inl ork)), (h2, .inl (cI, owl, .inl oww)), (w35, .inl (cI, 2, .inl (upd (upd (fun _ => (0 : Int32)) (0 : Int32).toNatClampNeg r41) (1 : Int32).toNatClampNeg r49))), (w55, .inl (cI, 2, .inl (fun _ => (0 : Int32))))] H := hP
  have hD : va_D A [(h0, .inr (5, [.int on, .int oo, .int og, .ref h1, .ref h2, .int ost, .int ord, .int oac, .int ore, .int okn, .int (0 : Int32)])), (h1, .inl (cI, orl, .inl ork)), (h2, .inl (cI, owl, .inl oww)), (w35, .inl (cI, 2, .inl (upd (upd (fun _ => (0 : Int32)) (0 : Int32).toNatClampNeg r41) (1 : Int32).toNatClampNeg r49))), (w55, .inl (cI, 2, .inl (fun _ => (0 : Int32))))] := hD
  refine W.widen (k := 2) (n := 4) (Nat.le_of_ble_eq_true rfl) (Nat.le_of_ble_eq_true rfl) ?_
  refine lv_dup hx hb dX3_digest_57 rfl ?_
  refine lv_iconst (v := (0 : Int32)) hx hb dX3_digest_58 (by decide) ?_
  refine lv_aload_n hx hb dX3_digest_59 rfl (lv_at hl 1 rfl) ?_
  refine lv_iconst (v := (0 : Int32)) hx hb dX3_digest_60 (by decide) ?_
  refine kc_V (As := [.int (0 : Int32)]) (rest := [.int (0 : Int32), .ref w55, .ref w55]) ⟨hx, hb, hml, hown, hts⟩ (kX3_againOf l D cI cB h0 h1 h2 on oo og orl ork owl oww ost ord oac ore okn (0 : Int32) (0 : Int32) _ hv) (cwV 1 hts gX3_digest_X3_againOf rfl rfl rfl (by decide +kernel) ⟨Nat.le_of_ble_eq_true rfl, Nat.le_of_ble_eq_true rfl⟩) (hP.sub (ws' := [(h0, .inr (5, [.int on, .int oo, .int og, .ref h1, .ref h2, .int ost, .int ord, .int oac, .int ore, .int okn, .int (0 : Int32)])), (h1, .inl (cI, orl, .inl ork)), (h2, .inl (cI, owl, .inl oww))]) [0, 1, 2] rfl) hK hN 5 rfl rfl rfl rfl hl.1 rfl (Nat.le_of_ble_eq_true rfl) dX3_digest_61 ⟨Nat.le_of_ble_eq_true rfl, Nat.le_of_ble_eq_true rfl⟩ (fun r61 hv => ?_)
  obtain ⟨hq, hv⟩ := hv
  refine va_iast hx hb hK hP hD hS 4 0 rfl rfl hq dX3_digest_64 (fun H locs hP hD hS => ?_)
  have hP : va_P D vwCl [(h0, .inr (5, [.int on, .int oo, .int og, .ref h1, .ref h2, .int ost, .int ord, .int oac, .int ore, .int okn, .int (0 : Int32)])), (h1, .inl (cI, orl, .inl ork)), (h2, .inl (cI, owl, .inl oww)), (w35, .inl (cI, 2, .inl (upd (upd (fun _ => (0 : Int32)) (0 : Int32).toNatClampNeg r41) (1 : Int32).toNatClampNeg r49))), (w55, .inl (cI, 2, .inl (upd (fun _ => (0 : Int32)) (0 : Int32).toNatClampNeg r61)))] H := hP
  have hD : va_D A [(h0, .inr (5, [.int on, .int oo, .int og, .ref h1, .ref h2, .int ost, .int ord, .int oac, .int ore, .int okn, .int (0 : Int32)])), (h1, .inl (cI, orl, .inl ork)), (h2, .inl (cI, owl, .inl oww)), (w35, .inl (cI, 2, .inl (upd (upd (fun _ => (0 : Int32)) (0 : Int32).toNatClampNeg r41) (1 : Int32).toNatClampNeg r49))), (w55, .inl (cI, 2, .inl (upd (fun _ => (0 : Int32)) (0 : Int32).toNatClampNeg r61)))] := hD
  refine lv_dup hx hb dX3_digest_65 rfl ?_
  refine lv_iconst (v := (1 : Int32)) hx hb dX3_digest_66 (by decide) ?_
  refine lv_aload_n hx hb dX3_digest_67 rfl (lv_at hl 1 rfl) ?_
  refine lv_iconst (v := (1 : Int32)) hx hb dX3_digest_68 (by decide) ?_
  refine kc_V (As := [.int (1 : Int32)]) (rest := [.int (1 : Int32), .ref w55, .ref w55]) ⟨hx, hb, hml, hown, hts⟩ (kX3_againOf l D cI cB h0 h1 h2 on oo og orl ork owl oww ost ord oac ore okn (0 : Int32) (1 : Int32) _ hv) (cwV 1 hts gX3_digest_X3_againOf rfl rfl rfl (by decide +kernel) ⟨Nat.le_of_ble_eq_true rfl, Nat.le_of_ble_eq_true rfl⟩) (hP.sub (ws' := [(h0, .inr (5, [.int on, .int oo, .int og, .ref h1, .ref h2, .int ost, .int ord, .int oac, .int ore, .int okn, .int (0 : Int32)])), (h1, .inl (cI, orl, .inl ork)), (h2, .inl (cI, owl, .inl oww))]) [0, 1, 2] rfl) hK hN 5 rfl rfl rfl rfl hl.1 rfl (Nat.le_of_ble_eq_true rfl) dX3_digest_69 ⟨Nat.le_of_ble_eq_true rfl, Nat.le_of_ble_eq_true rfl⟩ (fun r69 hv => ?_)
  obtain ⟨hq, hv⟩ := hv
  refine va_iast hx hb hK hP hD hS 4 0 rfl rfl hq dX3_digest_72 (fun H locs hP hD hS => ?_)
  have hP : va_P D vwCl [(h0, .inr (5, [.int on, .int oo, .int og, .ref h1, .ref h2, .int ost, .int ord, .int oac, .int ore, .int okn, .int (0 : Int32)])), (h1, .inl (cI, orl, .inl ork)), (h2, .inl (cI, owl, .inl oww)), (w35, .inl (cI, 2, .inl (upd (upd (fun _ => (0 : Int32)) (0 : Int32).toNatClampNeg r41) (1 : Int32).toNatClampNeg r49))), (w55, .inl (cI, 2, .inl (upd (upd (fun _ => (0 : Int32)) (0 : Int32).toNatClampNeg r61) (1 : Int32).toNatClampNeg r69)))] H := hP
  have hD : va_D A [(h0, .inr (5, [.int on, .int oo, .int og, .ref h1, .ref h2, .int ost, .int ord, .int oac, .int ore, .int okn, .int (0 : Int32)])), (h1, .inl (cI, orl, .inl ork)), (h2, .inl (cI, owl, .inl oww)), (w35, .inl (cI, 2, .inl (upd (upd (fun _ => (0 : Int32)) (0 : Int32).toNatClampNeg r41) (1 : Int32).toNatClampNeg r49))), (w55, .inl (cI, 2, .inl (upd (upd (fun _ => (0 : Int32)) (0 : Int32).toNatClampNeg r61) (1 : Int32).toNatClampNeg r69)))] := hD
  refine lv_astore (lv' := [(4, .ref w55), (3, .ref w35), (0, .ref h0), (1, .long v1_11x)]) hx hb dX3_digest_73 hl (by decide) rfl (fun ls hl => ?_)
  refine lv_iconst (v := (0 : Int32)) hx hb dX3_digest_75 (by decide) ?_
  refine lv_istore (lv' := [(5, .int (0 : Int32)), (4, .ref w55), (3, .ref w35), (0, .ref h0), (1, .long v1_11x)]) hx hb dX3_digest_76 hl (by decide) rfl (fun ls hl => ?_)
  have L78 : ∀ (K78_189 : Int64 → Int32 → Prop), (∀ (v1_78 : Int64) (v5_78 : Int32) (H : Heap) (locs : List Loc) (ls : Array Slot), va_P D vwCl [(h0, .inr (5, [.int on, .int oo, .int og, .ref h1, .ref h2, .int ost, .int ord, .int oac, .int ore, .int okn, .int (0 : Int32)])), (h1, .inl (cI, orl, .inl ork)), (h2, .inl (cI, owl, .inl oww)), (w35, .inl (cI, 2, .inl (upd (upd (fun _ => (0 : Int32)) (0 : Int32).toNatClampNeg r41) (1 : Int32).toNatClampNeg r49))), (w55, .inl (cI, 2, .inl (upd (upd (fun _ => (0 : Int32)) (0 : Int32).toNatClampNeg r61) (1 : Int32).toNatClampNeg r69)))] H → va_D A [(h0, .inr (5, [.int on, .int oo, .int og, .ref h1, .ref h2, .int ost, .int ord, .int oac, .int ore, .int okn, .int (0 : Int32)])), (h1, .inl (cI, orl, .inl ork)), (h2, .inl (cI, owl, .inl oww)), (w35, .inl (cI, 2, .inl (upd (upd (fun _ => (0 : Int32)) (0 : Int32).toNatClampNeg r41) (1 : Int32).toNatClampNeg r49))), (w55, .inl (cI, 2, .inl (upd (upd (fun _ => (0 : Int32)) (0 : Int32).toNatClampNeg r61) (1 : Int32).toNatClampNeg r69)))] → va_S A s.heap H locs → K78_189 v1_78 v5_78 → lv_has ls 7 [(0, .ref h0), (1, .long v1_78), (3, .ref w35), (4, .ref w55), (5, .int v5_78)] → W p l e (headSpec wsX3_digest ({ frames := 6, cells := 2, slots := 4, locals := 134 })).room s m ([.ref h0] : List Value).toArray below meth c H locs 2 4 (MQ below (va_Ql (fun (r : Int64) (u : Int32) => post r u) (fun (u : Int32) (t : State) => kE D A [(h0, .inr (5, [.int on, .int oo, .int og, .ref h1, .ref h2, .int ost, .int ord, .int oac, .int ore, .int okn, .int u])), (h1, .inl (cI, orl, .inl ork)), (h2, .inl (cI, owl, .inl oww))] t) A) ([.ref h0] : List Value).toArray s 2 4 A) (F0 m 189 ls [])) → ∀ (n78 : Nat) (v1_78 : Int64) (v5_78 : Int32) (H : Heap) (locs : List Loc) (ls : Array Slot), va_P D vwCl [(h0, .inr (5, [.int on, .int oo, .int og, .ref h1, .ref h2, .int ost, .int ord, .int oac, .int ore, .int okn, .int (0 : Int32)])), (h1, .inl (cI, orl, .inl ork)), (h2, .inl (cI, owl, .inl oww)), (w35, .inl (cI, 2, .inl (upd (upd (fun _ => (0 : Int32)) (0 : Int32).toNatClampNeg r41) (1 : Int32).toNatClampNeg r49))), (w55, .inl (cI, 2, .inl (upd (upd (fun _ => (0 : Int32)) (0 : Int32).toNatClampNeg r61) (1 : Int32).toNatClampNeg r69)))] H → va_D A [(h0, .inr (5, [.int on, .int oo, .int og, .ref h1, .ref h2, .int ost, .int ord, .int oac, .int ore, .int okn, .int (0 : Int32)])), (h1, .inl (cI, orl, .inl ork)), (h2, .inl (cI, owl, .inl oww)), (w35, .inl (cI, 2, .inl (upd (upd (fun _ => (0 : Int32)) (0 : Int32).toNatClampNeg r41) (1 : Int32).toNatClampNeg r49))), (w55, .inl (cI, 2, .inl (upd (upd (fun _ => (0 : Int32)) (0 : Int32).toNatClampNeg r61) (1 : Int32).toNatClampNeg r69)))] → va_S A s.heap H locs → qX3_digest_W78 on oo og orl ork owl oww r41 r49 r61 r69 K78_189 n78 v1_78 v5_78 → lv_has ls 7 [(0, .ref h0), (1, .long v1_78), (3, .ref w35), (4, .ref w55), (5, .int v5_78)] → W p l e (headSpec wsX3_digest ({ frames := 6, cells := 2, slots := 4, locals := 134 })).room s m ([.ref h0] : List Value).toArray below meth c H locs 2 4 (MQ below (va_Ql (fun (r : Int64) (u : Int32) => post r u) (fun (u : Int32) (t : State) => kE D A [(h0, .inr (5, [.int on, .int oo, .int og, .ref h1, .ref h2, .int ost, .int ord, .int oac, .int ore, .int okn, .int u])), (h1, .inl (cI, orl, .inl ork)), (h2, .inl (cI, owl, .inl oww))] t) A) ([.ref h0] : List Value).toArray s 2 4 A) (F0 m 78 ls []) := by
    intro K78_189 hk78_189
    intro n78
    induction n78 with
    | zero => intro v1_78 v5_78 H locs ls hP hD hS hv hl; exact hv.elim
    | succ n78 ih78 =>
      intro v1_78 v5_78 H locs ls hP hD hS hv hl
      refine lv_iload hx hb dX3_digest_78 (lv_at hl 4 rfl) ?_
      refine lv_aload_n hx hb dX3_digest_80 rfl (lv_at hl 0 rfl) ?_
      refine va_get (D := D) (ci := 5) (v := .int on) (C := RX3) (T := TX3) (N := 11) hx hb hts hi_X3 hown hK hP 0 rfl rfl 0 (by decide) hF17 (fun _ h9 => h9) rfl dX3_digest_81 ?_
      refine lv_icmp_ge (tgt := 189) hx hb dX3_digest_84 (by decide) (fun hc => ?_) (fun hc => ?_)
      · have hv := hv.1 hc
        exact hk78_189 _ _ _ _ _ hP hD hS hv (lv_sub hl [0, 1, 2, 3, 4] rfl)
      · have hv := hv.2 hc
        refine lv_iconst (v := (0 : Int32)) hx hb dX3_digest_87 (by decide) ?_
        refine lv_istore (lv' := [(6, .int (0 : Int32)), (0, .ref h0), (1, .long v1_78), (3, .ref w35), (4, .ref w55), (5, .int v5_78)]) hx hb dX3_digest_88 hl (by decide) rfl (fun ls hl => ?_)
        have L90 : ∀ (K90_116 : Int64 → Int32 → Prop), (∀ (v1_90 : Int64) (v6_90 : Int32) (H : Heap) (locs : List Loc) (ls : Array Slot), va_P D vwCl [(h0, .inr (5, [.int on, .int oo, .int og, .ref h1, .ref h2, .int ost, .int ord, .int oac, .int ore, .int okn, .int (0 : Int32)])), (h1, .inl (cI, orl, .inl ork)), (h2, .inl (cI, owl, .inl oww)), (w35, .inl (cI, 2, .inl (upd (upd (fun _ => (0 : Int32)) (0 : Int32).toNatClampNeg r41) (1 : Int32).toNatClampNeg r49))), (w55, .inl (cI, 2, .inl (upd (upd (fun _ => (0 : Int32)) (0 : Int32).toNatClampNeg r61) (1 : Int32).toNatClampNeg r69)))] H → va_D A [(h0, .inr (5, [.int on, .int oo, .int og, .ref h1, .ref h2, .int ost, .int ord, .int oac, .int ore, .int okn, .int (0 : Int32)])), (h1, .inl (cI, orl, .inl ork)), (h2, .inl (cI, owl, .inl oww)), (w35, .inl (cI, 2, .inl (upd (upd (fun _ => (0 : Int32)) (0 : Int32).toNatClampNeg r41) (1 : Int32).toNatClampNeg r49))), (w55, .inl (cI, 2, .inl (upd (upd (fun _ => (0 : Int32)) (0 : Int32).toNatClampNeg r61) (1 : Int32).toNatClampNeg r69)))] → va_S A s.heap H locs → K90_116 v1_90 v6_90 → lv_has ls 7 [(0, .ref h0), (1, .long v1_90), (3, .ref w35), (4, .ref w55), (5, .int v5_78), (6, .int v6_90)] → W p l e (headSpec wsX3_digest ({ frames := 6, cells := 2, slots := 4, locals := 134 })).room s m ([.ref h0] : List Value).toArray below meth c H locs 2 4 (MQ below (va_Ql (fun (r : Int64) (u : Int32) => post r u) (fun (u : Int32) (t : State) => kE D A [(h0, .inr (5, [.int on, .int oo, .int og, .ref h1, .ref h2, .int ost, .int ord, .int oac, .int ore, .int okn, .int u])), (h1, .inl (cI, orl, .inl ork)), (h2, .inl (cI, owl, .inl oww))] t) A) ([.ref h0] : List Value).toArray s 2 4 A) (F0 m 116 ls [])) → ∀ (n90 : Nat) (v1_90 : Int64) (v6_90 : Int32) (H : Heap) (locs : List Loc) (ls : Array Slot), va_P D vwCl [(h0, .inr (5, [.int on, .int oo, .int og, .ref h1, .ref h2, .int ost, .int ord, .int oac, .int ore, .int okn, .int (0 : Int32)])), (h1, .inl (cI, orl, .inl ork)), (h2, .inl (cI, owl, .inl oww)), (w35, .inl (cI, 2, .inl (upd (upd (fun _ => (0 : Int32)) (0 : Int32).toNatClampNeg r41) (1 : Int32).toNatClampNeg r49))), (w55, .inl (cI, 2, .inl (upd (upd (fun _ => (0 : Int32)) (0 : Int32).toNatClampNeg r61) (1 : Int32).toNatClampNeg r69)))] H → va_D A [(h0, .inr (5, [.int on, .int oo, .int og, .ref h1, .ref h2, .int ost, .int ord, .int oac, .int ore, .int okn, .int (0 : Int32)])), (h1, .inl (cI, orl, .inl ork)), (h2, .inl (cI, owl, .inl oww)), (w35, .inl (cI, 2, .inl (upd (upd (fun _ => (0 : Int32)) (0 : Int32).toNatClampNeg r41) (1 : Int32).toNatClampNeg r49))), (w55, .inl (cI, 2, .inl (upd (upd (fun _ => (0 : Int32)) (0 : Int32).toNatClampNeg r61) (1 : Int32).toNatClampNeg r69)))] → va_S A s.heap H locs → qX3_digest_W90 on oo og orl ork owl oww v5_78 K90_116 n90 v1_90 v6_90 → lv_has ls 7 [(0, .ref h0), (1, .long v1_90), (3, .ref w35), (4, .ref w55), (5, .int v5_78), (6, .int v6_90)] → W p l e (headSpec wsX3_digest ({ frames := 6, cells := 2, slots := 4, locals := 134 })).room s m ([.ref h0] : List Value).toArray below meth c H locs 2 4 (MQ below (va_Ql (fun (r : Int64) (u : Int32) => post r u) (fun (u : Int32) (t : State) => kE D A [(h0, .inr (5, [.int on, .int oo, .int og, .ref h1, .ref h2, .int ost, .int ord, .int oac, .int ore, .int okn, .int u])), (h1, .inl (cI, orl, .inl ork)), (h2, .inl (cI, owl, .inl oww))] t) A) ([.ref h0] : List Value).toArray s 2 4 A) (F0 m 90 ls []) := by
          intro K90_116 hk90_116
          intro n90
          induction n90 with
          | zero => intro v1_90 v6_90 H locs ls hP hD hS hv hl; exact hv.elim
          | succ n90 ih90 =>
            intro v1_90 v6_90 H locs ls hP hD hS hv hl
            refine lv_iload hx hb dX3_digest_90 (lv_at hl 5 rfl) ?_
            refine lv_iconst (v := (3 : Int32)) hx hb dX3_digest_92 (by decide) ?_
            refine lv_icmp_gt (tgt := 116) hx hb dX3_digest_93 (by decide) (fun hc => ?_) (fun hc => ?_)
            · have hv := hv.1 hc
              exact hk90_116 _ _ _ _ _ hP hD hS hv (lv_sub hl [0, 1, 2, 3, 4, 5] rfl)
            · have hv := hv.2 hc
              refine lv_lload_n hx hb dX3_digest_96 rfl (lv_at hl 1 rfl) ?_
              refine lv_aload_n hx hb dX3_digest_97 rfl (lv_at hl 0 rfl) ?_
              refine lv_iload hx hb dX3_digest_98 (lv_at hl 4 rfl) ?_
              refine lv_iload hx hb dX3_digest_100 (lv_at hl 5 rfl) ?_
              refine kc_V (As := [.int v5_78, .int v6_90]) (rest := [.long v1_90]) ⟨hx, hb, hml, hown, hts⟩ (kX3_ofPlaceNow l D cI cB h0 h1 h2 on oo og orl ork owl oww ost ord oac ore okn (0 : Int32) v5_78 v6_90 _ hv) (cwV 2 hts gX3_digest_X3_ofPlaceNow rfl rfl rfl (by decide +kernel) ⟨Nat.le_of_ble_eq_true rfl, Nat.le_of_ble_eq_true rfl⟩) (hP.sub (ws' := [(h0, .inr (5, [.int on, .int oo, .int og, .ref h1, .ref h2, .int ost, .int ord, .int oac, .int ore, .int okn, .int (0 : Int32)])), (h1, .inl (cI, orl, .inl ork)), (h2, .inl (cI, owl, .inl oww))]) [0, 1, 2] rfl) hK hN 5 rfl rfl rfl rfl hl.1 rfl (Nat.le_of_ble_eq_true rfl) dX3_digest_102 ⟨Nat.le_of_ble_eq_true rfl, Nat.le_of_ble_eq_true rfl⟩ (fun r102 hv => ?_)
              refine lv_i2l hx hb dX3_digest_105 rfl ?_
              refine kc_Sl (As := [.long v1_90, .long r102.toInt64]) (rest := []) ⟨hx, hb, hml, hown, hts⟩ (kX3_add l D cI cB v1_90 (r102.toInt64) _ hv) (va_cwS 2 hts gX3_digest_X3_add rfl rfl rfl (by decide +kernel) ⟨Nat.le_of_ble_eq_true rfl, Nat.le_of_ble_eq_true rfl⟩) (hP.sub (ws' := []) [] rfl) hK hN rfl hl.1 rfl (Nat.le_of_ble_eq_true rfl) dX3_digest_106 ⟨Nat.le_of_ble_eq_true rfl, Nat.le_of_ble_eq_true rfl⟩ (fun r106 hv => ?_)
              refine lv_lstore_n (lv' := [(1, .long r106), (0, .ref h0), (3, .ref w35), (4, .ref w55), (5, .int v5_78), (6, .int v6_90)]) hx hb dX3_digest_109 rfl hl (by decide) rfl (fun ls hl => ?_)
              refine lv_iinc (v := (v6_90 + (1 : Int32))) (lv' := [(6, .int (v6_90 + (1 : Int32))), (1, .long r106), (0, .ref h0), (3, .ref w35), (4, .ref w55), (5, .int v5_78)]) hx hb dX3_digest_110 hl (k := 5) rfl rfl (by decide) rfl (fun ls hl => ?_)
              refine lv_goto (tgt := 90) hx hb dX3_digest_113 (by decide) ?_
              exact ih90 _ _ _ _ _ hP hD hS hv (lv_sub hl [2, 1, 3, 4, 5, 0] rfl)
        obtain ⟨n90, hv⟩ := hv
        refine L90 _ (fun v1_90x v6_90x H locs ls hP hD hS hv hl => ?_) n90 _ _ _ _ _ hP hD hS hv (lv_sub hl [1, 2, 3, 4, 5, 0] rfl)
        refine lv_iconst (v := (0 : Int32)) hx hb dX3_digest_116 (by decide) ?_
        refine lv_istore (lv' := [(6, .int (0 : Int32)), (0, .ref h0), (1, .long v1_90x), (3, .ref w35), (4, .ref w55), (5, .int v5_78)]) hx hb dX3_digest_117 hl (by decide) rfl (fun ls hl => ?_)
        have L119 : ∀ (K119_149 : Int64 → Int32 → Prop), (∀ (v1_119 : Int64) (v6_119 : Int32) (H : Heap) (locs : List Loc) (ls : Array Slot), va_P D vwCl [(h0, .inr (5, [.int on, .int oo, .int og, .ref h1, .ref h2, .int ost, .int ord, .int oac, .int ore, .int okn, .int (0 : Int32)])), (h1, .inl (cI, orl, .inl ork)), (h2, .inl (cI, owl, .inl oww)), (w35, .inl (cI, 2, .inl (upd (upd (fun _ => (0 : Int32)) (0 : Int32).toNatClampNeg r41) (1 : Int32).toNatClampNeg r49))), (w55, .inl (cI, 2, .inl (upd (upd (fun _ => (0 : Int32)) (0 : Int32).toNatClampNeg r61) (1 : Int32).toNatClampNeg r69)))] H → va_D A [(h0, .inr (5, [.int on, .int oo, .int og, .ref h1, .ref h2, .int ost, .int ord, .int oac, .int ore, .int okn, .int (0 : Int32)])), (h1, .inl (cI, orl, .inl ork)), (h2, .inl (cI, owl, .inl oww)), (w35, .inl (cI, 2, .inl (upd (upd (fun _ => (0 : Int32)) (0 : Int32).toNatClampNeg r41) (1 : Int32).toNatClampNeg r49))), (w55, .inl (cI, 2, .inl (upd (upd (fun _ => (0 : Int32)) (0 : Int32).toNatClampNeg r61) (1 : Int32).toNatClampNeg r69)))] → va_S A s.heap H locs → K119_149 v1_119 v6_119 → lv_has ls 7 [(0, .ref h0), (1, .long v1_119), (3, .ref w35), (4, .ref w55), (5, .int v5_78), (6, .int v6_119)] → W p l e (headSpec wsX3_digest ({ frames := 6, cells := 2, slots := 4, locals := 134 })).room s m ([.ref h0] : List Value).toArray below meth c H locs 2 4 (MQ below (va_Ql (fun (r : Int64) (u : Int32) => post r u) (fun (u : Int32) (t : State) => kE D A [(h0, .inr (5, [.int on, .int oo, .int og, .ref h1, .ref h2, .int ost, .int ord, .int oac, .int ore, .int okn, .int u])), (h1, .inl (cI, orl, .inl ork)), (h2, .inl (cI, owl, .inl oww))] t) A) ([.ref h0] : List Value).toArray s 2 4 A) (F0 m 149 ls [])) → ∀ (n119 : Nat) (v1_119 : Int64) (v6_119 : Int32) (H : Heap) (locs : List Loc) (ls : Array Slot), va_P D vwCl [(h0, .inr (5, [.int on, .int oo, .int og, .ref h1, .ref h2, .int ost, .int ord, .int oac, .int ore, .int okn, .int (0 : Int32)])), (h1, .inl (cI, orl, .inl ork)), (h2, .inl (cI, owl, .inl oww)), (w35, .inl (cI, 2, .inl (upd (upd (fun _ => (0 : Int32)) (0 : Int32).toNatClampNeg r41) (1 : Int32).toNatClampNeg r49))), (w55, .inl (cI, 2, .inl (upd (upd (fun _ => (0 : Int32)) (0 : Int32).toNatClampNeg r61) (1 : Int32).toNatClampNeg r69)))] H → va_D A [(h0, .inr (5, [.int on, .int oo, .int og, .ref h1, .ref h2, .int ost, .int ord, .int oac, .int ore, .int okn, .int (0 : Int32)])), (h1, .inl (cI, orl, .inl ork)), (h2, .inl (cI, owl, .inl oww)), (w35, .inl (cI, 2, .inl (upd (upd (fun _ => (0 : Int32)) (0 : Int32).toNatClampNeg r41) (1 : Int32).toNatClampNeg r49))), (w55, .inl (cI, 2, .inl (upd (upd (fun _ => (0 : Int32)) (0 : Int32).toNatClampNeg r61) (1 : Int32).toNatClampNeg r69)))] → va_S A s.heap H locs → qX3_digest_W119 on oo og owl oww r41 r49 v5_78 K119_149 n119 v1_119 v6_119 → lv_has ls 7 [(0, .ref h0), (1, .long v1_119), (3, .ref w35), (4, .ref w55), (5, .int v5_78), (6, .int v6_119)] → W p l e (headSpec wsX3_digest ({ frames := 6, cells := 2, slots := 4, locals := 134 })).room s m ([.ref h0] : List Value).toArray below meth c H locs 2 4 (MQ below (va_Ql (fun (r : Int64) (u : Int32) => post r u) (fun (u : Int32) (t : State) => kE D A [(h0, .inr (5, [.int on, .int oo, .int og, .ref h1, .ref h2, .int ost, .int ord, .int oac, .int ore, .int okn, .int u])), (h1, .inl (cI, orl, .inl ork)), (h2, .inl (cI, owl, .inl oww))] t) A) ([.ref h0] : List Value).toArray s 2 4 A) (F0 m 119 ls []) := by
          intro K119_149 hk119_149
          intro n119
          induction n119 with
          | zero => intro v1_119 v6_119 H locs ls hP hD hS hv hl; exact hv.elim
          | succ n119 ih119 =>
            intro v1_119 v6_119 H locs ls hP hD hS hv hl
            refine lv_iload hx hb dX3_digest_119 (lv_at hl 5 rfl) ?_
            refine lv_iconst (v := (2 : Int32)) hx hb dX3_digest_121 (by decide) ?_
            refine lv_icmp_ge (tgt := 149) hx hb dX3_digest_122 (by decide) (fun hc => ?_) (fun hc => ?_)
            · have hv := hv.1 hc
              exact hk119_149 _ _ _ _ _ hP hD hS hv (lv_sub hl [0, 1, 2, 3, 4, 5] rfl)
            · have hv := hv.2 hc
              refine lv_lload_n hx hb dX3_digest_125 rfl (lv_at hl 1 rfl) ?_
              refine lv_aload_n hx hb dX3_digest_126 rfl (lv_at hl 0 rfl) ?_
              refine lv_aload_n hx hb dX3_digest_127 rfl (lv_at hl 2 rfl) ?_
              refine lv_iload hx hb dX3_digest_128 (lv_at hl 5 rfl) ?_
              obtain ⟨hq, hv⟩ := hv
              refine va_iald hx hb hK hP 3 0 rfl rfl hq dX3_digest_130 ?_
              refine lv_iload hx hb dX3_digest_131 (lv_at hl 5 rfl) ?_
              refine lv_iload hx hb dX3_digest_133 (lv_at hl 4 rfl) ?_
              refine kc_V (As := [.int ((upd (upd (fun _ => (0 : Int32)) (0 : Int32).toNatClampNeg r41) (1 : Int32).toNatClampNeg r49) v6_119.toNatClampNeg), .int v6_119, .int v5_78]) (rest := [.long v1_119]) ⟨hx, hb, hml, hown, hts⟩ (kX3_roundsTo l D cI cB h0 h1 h2 on oo og orl ork owl oww ost ord oac ore okn (0 : Int32) ((upd (upd (fun _ => (0 : Int32)) (0 : Int32).toNatClampNeg r41) (1 : Int32).toNatClampNeg r49) v6_119.toNatClampNeg) v6_119 v5_78 _ hv) (cwV 3 hts gX3_digest_X3_roundsTo rfl rfl rfl (by decide +kernel) ⟨Nat.le_of_ble_eq_true rfl, Nat.le_of_ble_eq_true rfl⟩) (hP.sub (ws' := [(h0, .inr (5, [.int on, .int oo, .int og, .ref h1, .ref h2, .int ost, .int ord, .int oac, .int ore, .int okn, .int (0 : Int32)])), (h1, .inl (cI, orl, .inl ork)), (h2, .inl (cI, owl, .inl oww))]) [0, 1, 2] rfl) hK hN 5 rfl rfl rfl rfl hl.1 rfl (Nat.le_of_ble_eq_true rfl) dX3_digest_135 ⟨Nat.le_of_ble_eq_true rfl, Nat.le_of_ble_eq_true rfl⟩ (fun r135 hv => ?_)
              refine lv_i2l hx hb dX3_digest_138 rfl ?_
              refine kc_Sl (As := [.long v1_119, .long r135.toInt64]) (rest := []) ⟨hx, hb, hml, hown, hts⟩ (kX3_add l D cI cB v1_119 (r135.toInt64) _ hv) (va_cwS 2 hts gX3_digest_X3_add rfl rfl rfl (by decide +kernel) ⟨Nat.le_of_ble_eq_true rfl, Nat.le_of_ble_eq_true rfl⟩) (hP.sub (ws' := []) [] rfl) hK hN rfl hl.1 rfl (Nat.le_of_ble_eq_true rfl) dX3_digest_139 ⟨Nat.le_of_ble_eq_true rfl, Nat.le_of_ble_eq_true rfl⟩ (fun r139 hv => ?_)
              refine lv_lstore_n (lv' := [(1, .long r139), (0, .ref h0), (3, .ref w35), (4, .ref w55), (5, .int v5_78), (6, .int v6_119)]) hx hb dX3_digest_142 rfl hl (by decide) rfl (fun ls hl => ?_)
              refine lv_iinc (v := (v6_119 + (1 : Int32))) (lv' := [(6, .int (v6_119 + (1 : Int32))), (1, .long r139), (0, .ref h0), (3, .ref w35), (4, .ref w55), (5, .int v5_78)]) hx hb dX3_digest_143 hl (k := 5) rfl rfl (by decide) rfl (fun ls hl => ?_)
              refine lv_goto (tgt := 119) hx hb dX3_digest_146 (by decide) ?_
              exact ih119 _ _ _ _ _ hP hD hS hv (lv_sub hl [2, 1, 3, 4, 5, 0] rfl)
        obtain ⟨n119, hv⟩ := hv
        refine L119 _ (fun v1_119x v6_119x H locs ls hP hD hS hv hl => ?_) n119 _ _ _ _ _ hP hD hS hv (lv_sub hl [1, 2, 3, 4, 5, 0] rfl)
        refine lv_iconst (v := (0 : Int32)) hx hb dX3_digest_149 (by decide) ?_
        refine lv_istore (lv' := [(6, .int (0 : Int32)), (0, .ref h0), (1, .long v1_119x), (3, .ref w35), (4, .ref w55), (5, .int v5_78)]) hx hb dX3_digest_150 hl (by decide) rfl (fun ls hl => ?_)
        have L152 : ∀ (K152_183 : Int64 → Int32 → Prop), (∀ (v1_152 : Int64) (v6_152 : Int32) (H : Heap) (locs : List Loc) (ls : Array Slot), va_P D vwCl [(h0, .inr (5, [.int on, .int oo, .int og, .ref h1, .ref h2, .int ost, .int ord, .int oac, .int ore, .int okn, .int (0 : Int32)])), (h1, .inl (cI, orl, .inl ork)), (h2, .inl (cI, owl, .inl oww)), (w35, .inl (cI, 2, .inl (upd (upd (fun _ => (0 : Int32)) (0 : Int32).toNatClampNeg r41) (1 : Int32).toNatClampNeg r49))), (w55, .inl (cI, 2, .inl (upd (upd (fun _ => (0 : Int32)) (0 : Int32).toNatClampNeg r61) (1 : Int32).toNatClampNeg r69)))] H → va_D A [(h0, .inr (5, [.int on, .int oo, .int og, .ref h1, .ref h2, .int ost, .int ord, .int oac, .int ore, .int okn, .int (0 : Int32)])), (h1, .inl (cI, orl, .inl ork)), (h2, .inl (cI, owl, .inl oww)), (w35, .inl (cI, 2, .inl (upd (upd (fun _ => (0 : Int32)) (0 : Int32).toNatClampNeg r41) (1 : Int32).toNatClampNeg r49))), (w55, .inl (cI, 2, .inl (upd (upd (fun _ => (0 : Int32)) (0 : Int32).toNatClampNeg r61) (1 : Int32).toNatClampNeg r69)))] → va_S A s.heap H locs → K152_183 v1_152 v6_152 → lv_has ls 7 [(0, .ref h0), (1, .long v1_152), (3, .ref w35), (4, .ref w55), (5, .int v5_78), (6, .int v6_152)] → W p l e (headSpec wsX3_digest ({ frames := 6, cells := 2, slots := 4, locals := 134 })).room s m ([.ref h0] : List Value).toArray below meth c H locs 2 4 (MQ below (va_Ql (fun (r : Int64) (u : Int32) => post r u) (fun (u : Int32) (t : State) => kE D A [(h0, .inr (5, [.int on, .int oo, .int og, .ref h1, .ref h2, .int ost, .int ord, .int oac, .int ore, .int okn, .int u])), (h1, .inl (cI, orl, .inl ork)), (h2, .inl (cI, owl, .inl oww))] t) A) ([.ref h0] : List Value).toArray s 2 4 A) (F0 m 183 ls [])) → ∀ (n152 : Nat) (v1_152 : Int64) (v6_152 : Int32) (H : Heap) (locs : List Loc) (ls : Array Slot), va_P D vwCl [(h0, .inr (5, [.int on, .int oo, .int og, .ref h1, .ref h2, .int ost, .int ord, .int oac, .int ore, .int okn, .int (0 : Int32)])), (h1, .inl (cI, orl, .inl ork)), (h2, .inl (cI, owl, .inl oww)), (w35, .inl (cI, 2, .inl (upd (upd (fun _ => (0 : Int32)) (0 : Int32).toNatClampNeg r41) (1 : Int32).toNatClampNeg r49))), (w55, .inl (cI, 2, .inl (upd (upd (fun _ => (0 : Int32)) (0 : Int32).toNatClampNeg r61) (1 : Int32).toNatClampNeg r69)))] H → va_D A [(h0, .inr (5, [.int on, .int oo, .int og, .ref h1, .ref h2, .int ost, .int ord, .int oac, .int ore, .int okn, .int (0 : Int32)])), (h1, .inl (cI, orl, .inl ork)), (h2, .inl (cI, owl, .inl oww)), (w35, .inl (cI, 2, .inl (upd (upd (fun _ => (0 : Int32)) (0 : Int32).toNatClampNeg r41) (1 : Int32).toNatClampNeg r49))), (w55, .inl (cI, 2, .inl (upd (upd (fun _ => (0 : Int32)) (0 : Int32).toNatClampNeg r61) (1 : Int32).toNatClampNeg r69)))] → va_S A s.heap H locs → qX3_digest_W152 on oo og owl oww r61 r69 v5_78 K152_183 n152 v1_152 v6_152 → lv_has ls 7 [(0, .ref h0), (1, .long v1_152), (3, .ref w35), (4, .ref w55), (5, .int v5_78), (6, .int v6_152)] → W p l e (headSpec wsX3_digest ({ frames := 6, cells := 2, slots := 4, locals := 134 })).room s m ([.ref h0] : List Value).toArray below meth c H locs 2 4 (MQ below (va_Ql (fun (r : Int64) (u : Int32) => post r u) (fun (u : Int32) (t : State) => kE D A [(h0, .inr (5, [.int on, .int oo, .int og, .ref h1, .ref h2, .int ost, .int ord, .int oac, .int ore, .int okn, .int u])), (h1, .inl (cI, orl, .inl ork)), (h2, .inl (cI, owl, .inl oww))] t) A) ([.ref h0] : List Value).toArray s 2 4 A) (F0 m 152 ls []) := by
          intro K152_183 hk152_183
          intro n152
          induction n152 with
          | zero => intro v1_152 v6_152 H locs ls hP hD hS hv hl; exact hv.elim
          | succ n152 ih152 =>
            intro v1_152 v6_152 H locs ls hP hD hS hv hl
            refine lv_iload hx hb dX3_digest_152 (lv_at hl 5 rfl) ?_
            refine lv_iconst (v := (2 : Int32)) hx hb dX3_digest_154 (by decide) ?_
            refine lv_icmp_ge (tgt := 183) hx hb dX3_digest_155 (by decide) (fun hc => ?_) (fun hc => ?_)
            · have hv := hv.1 hc
              exact hk152_183 _ _ _ _ _ hP hD hS hv (lv_sub hl [0, 1, 2, 3, 4, 5] rfl)
            · have hv := hv.2 hc
              refine lv_lload_n hx hb dX3_digest_158 rfl (lv_at hl 1 rfl) ?_
              refine lv_aload_n hx hb dX3_digest_159 rfl (lv_at hl 0 rfl) ?_
              refine lv_aload hx hb dX3_digest_160 (lv_at hl 3 rfl) ?_
              refine lv_iload hx hb dX3_digest_162 (lv_at hl 5 rfl) ?_
              obtain ⟨hq, hv⟩ := hv
              refine va_iald hx hb hK hP 4 0 rfl rfl hq dX3_digest_164 ?_
              refine lv_iload hx hb dX3_digest_165 (lv_at hl 5 rfl) ?_
              refine lv_iload hx hb dX3_digest_167 (lv_at hl 4 rfl) ?_
              refine kc_V (As := [.int ((upd (upd (fun _ => (0 : Int32)) (0 : Int32).toNatClampNeg r61) (1 : Int32).toNatClampNeg r69) v6_152.toNatClampNeg), .int v6_152, .int v5_78]) (rest := [.long v1_152]) ⟨hx, hb, hml, hown, hts⟩ (kX3_roundsTo l D cI cB h0 h1 h2 on oo og orl ork owl oww ost ord oac ore okn (0 : Int32) ((upd (upd (fun _ => (0 : Int32)) (0 : Int32).toNatClampNeg r61) (1 : Int32).toNatClampNeg r69) v6_152.toNatClampNeg) v6_152 v5_78 _ hv) (cwV 3 hts gX3_digest_X3_roundsTo rfl rfl rfl (by decide +kernel) ⟨Nat.le_of_ble_eq_true rfl, Nat.le_of_ble_eq_true rfl⟩) (hP.sub (ws' := [(h0, .inr (5, [.int on, .int oo, .int og, .ref h1, .ref h2, .int ost, .int ord, .int oac, .int ore, .int okn, .int (0 : Int32)])), (h1, .inl (cI, orl, .inl ork)), (h2, .inl (cI, owl, .inl oww))]) [0, 1, 2] rfl) hK hN 5 rfl rfl rfl rfl hl.1 rfl (Nat.le_of_ble_eq_true rfl) dX3_digest_169 ⟨Nat.le_of_ble_eq_true rfl, Nat.le_of_ble_eq_true rfl⟩ (fun r169 hv => ?_)
              refine lv_i2l hx hb dX3_digest_172 rfl ?_
              refine kc_Sl (As := [.long v1_152, .long r169.toInt64]) (rest := []) ⟨hx, hb, hml, hown, hts⟩ (kX3_add l D cI cB v1_152 (r169.toInt64) _ hv) (va_cwS 2 hts gX3_digest_X3_add rfl rfl rfl (by decide +kernel) ⟨Nat.le_of_ble_eq_true rfl, Nat.le_of_ble_eq_true rfl⟩) (hP.sub (ws' := []) [] rfl) hK hN rfl hl.1 rfl (Nat.le_of_ble_eq_true rfl) dX3_digest_173 ⟨Nat.le_of_ble_eq_true rfl, Nat.le_of_ble_eq_true rfl⟩ (fun r173 hv => ?_)
              refine lv_lstore_n (lv' := [(1, .long r173), (0, .ref h0), (3, .ref w35), (4, .ref w55), (5, .int v5_78), (6, .int v6_152)]) hx hb dX3_digest_176 rfl hl (by decide) rfl (fun ls hl => ?_)
              refine lv_iinc (v := (v6_152 + (1 : Int32))) (lv' := [(6, .int (v6_152 + (1 : Int32))), (1, .long r173), (0, .ref h0), (3, .ref w35), (4, .ref w55), (5, .int v5_78)]) hx hb dX3_digest_177 hl (k := 5) rfl rfl (by decide) rfl (fun ls hl => ?_)
              refine lv_goto (tgt := 152) hx hb dX3_digest_180 (by decide) ?_
              exact ih152 _ _ _ _ _ hP hD hS hv (lv_sub hl [2, 1, 3, 4, 5, 0] rfl)
        obtain ⟨n152, hv⟩ := hv
        refine L152 _ (fun v1_152x v6_152x H locs ls hP hD hS hv hl => ?_) n152 _ _ _ _ _ hP hD hS hv (lv_sub hl [1, 2, 3, 4, 5, 0] rfl)
        refine lv_iinc (v := (v5_78 + (1 : Int32))) (lv' := [(5, .int (v5_78 + (1 : Int32))), (0, .ref h0), (1, .long v1_152x), (3, .ref w35), (4, .ref w55), (6, .int v6_152x)]) hx hb dX3_digest_183 hl (k := 4) rfl rfl (by decide) rfl (fun ls hl => ?_)
        refine lv_goto (tgt := 78) hx hb dX3_digest_186 (by decide) ?_
        exact ih78 _ _ _ _ _ hP hD hS hv (lv_sub hl [1, 2, 3, 4, 0] rfl)
  obtain ⟨n78, hv⟩ := hv
  refine L78 _ (fun v1_78x v5_78x H locs ls hP hD hS hv hl => ?_) n78 _ _ _ _ _ hP hD hS hv (lv_sub hl [3, 4, 2, 1, 0] rfl)
  refine lv_iconst (v := (0 : Int32)) hx hb dX3_digest_189 (by decide) ?_
  refine lv_istore (lv' := [(5, .int (0 : Int32)), (0, .ref h0), (1, .long v1_78x), (3, .ref w35), (4, .ref w55)]) hx hb dX3_digest_190 hl (by decide) rfl (fun ls hl => ?_)
  have L192 : ∀ (K192_266 : Int64 → Int32 → Prop), (∀ (v1_192 : Int64) (v5_192 : Int32) (H : Heap) (locs : List Loc) (ls : Array Slot), va_P D vwCl [(h0, .inr (5, [.int on, .int oo, .int og, .ref h1, .ref h2, .int ost, .int ord, .int oac, .int ore, .int okn, .int (0 : Int32)])), (h1, .inl (cI, orl, .inl ork)), (h2, .inl (cI, owl, .inl oww)), (w35, .inl (cI, 2, .inl (upd (upd (fun _ => (0 : Int32)) (0 : Int32).toNatClampNeg r41) (1 : Int32).toNatClampNeg r49))), (w55, .inl (cI, 2, .inl (upd (upd (fun _ => (0 : Int32)) (0 : Int32).toNatClampNeg r61) (1 : Int32).toNatClampNeg r69)))] H → va_D A [(h0, .inr (5, [.int on, .int oo, .int og, .ref h1, .ref h2, .int ost, .int ord, .int oac, .int ore, .int okn, .int (0 : Int32)])), (h1, .inl (cI, orl, .inl ork)), (h2, .inl (cI, owl, .inl oww)), (w35, .inl (cI, 2, .inl (upd (upd (fun _ => (0 : Int32)) (0 : Int32).toNatClampNeg r41) (1 : Int32).toNatClampNeg r49))), (w55, .inl (cI, 2, .inl (upd (upd (fun _ => (0 : Int32)) (0 : Int32).toNatClampNeg r61) (1 : Int32).toNatClampNeg r69)))] → va_S A s.heap H locs → K192_266 v1_192 v5_192 → lv_has ls 7 [(0, .ref h0), (1, .long v1_192), (3, .ref w35), (4, .ref w55), (5, .int v5_192)] → W p l e (headSpec wsX3_digest ({ frames := 6, cells := 2, slots := 4, locals := 134 })).room s m ([.ref h0] : List Value).toArray below meth c H locs 2 4 (MQ below (va_Ql (fun (r : Int64) (u : Int32) => post r u) (fun (u : Int32) (t : State) => kE D A [(h0, .inr (5, [.int on, .int oo, .int og, .ref h1, .ref h2, .int ost, .int ord, .int oac, .int ore, .int okn, .int u])), (h1, .inl (cI, orl, .inl ork)), (h2, .inl (cI, owl, .inl oww))] t) A) ([.ref h0] : List Value).toArray s 2 4 A) (F0 m 266 ls [])) → ∀ (n192 : Nat) (v1_192 : Int64) (v5_192 : Int32) (H : Heap) (locs : List Loc) (ls : Array Slot), va_P D vwCl [(h0, .inr (5, [.int on, .int oo, .int og, .ref h1, .ref h2, .int ost, .int ord, .int oac, .int ore, .int okn, .int (0 : Int32)])), (h1, .inl (cI, orl, .inl ork)), (h2, .inl (cI, owl, .inl oww)), (w35, .inl (cI, 2, .inl (upd (upd (fun _ => (0 : Int32)) (0 : Int32).toNatClampNeg r41) (1 : Int32).toNatClampNeg r49))), (w55, .inl (cI, 2, .inl (upd (upd (fun _ => (0 : Int32)) (0 : Int32).toNatClampNeg r61) (1 : Int32).toNatClampNeg r69)))] H → va_D A [(h0, .inr (5, [.int on, .int oo, .int og, .ref h1, .ref h2, .int ost, .int ord, .int oac, .int ore, .int okn, .int (0 : Int32)])), (h1, .inl (cI, orl, .inl ork)), (h2, .inl (cI, owl, .inl oww)), (w35, .inl (cI, 2, .inl (upd (upd (fun _ => (0 : Int32)) (0 : Int32).toNatClampNeg r41) (1 : Int32).toNatClampNeg r49))), (w55, .inl (cI, 2, .inl (upd (upd (fun _ => (0 : Int32)) (0 : Int32).toNatClampNeg r61) (1 : Int32).toNatClampNeg r69)))] → va_S A s.heap H locs → qX3_digest_W192 on oo og orl ork owl oww r41 r49 r61 r69 K192_266 n192 v1_192 v5_192 → lv_has ls 7 [(0, .ref h0), (1, .long v1_192), (3, .ref w35), (4, .ref w55), (5, .int v5_192)] → W p l e (headSpec wsX3_digest ({ frames := 6, cells := 2, slots := 4, locals := 134 })).room s m ([.ref h0] : List Value).toArray below meth c H locs 2 4 (MQ below (va_Ql (fun (r : Int64) (u : Int32) => post r u) (fun (u : Int32) (t : State) => kE D A [(h0, .inr (5, [.int on, .int oo, .int og, .ref h1, .ref h2, .int ost, .int ord, .int oac, .int ore, .int okn, .int u])), (h1, .inl (cI, orl, .inl ork)), (h2, .inl (cI, owl, .inl oww))] t) A) ([.ref h0] : List Value).toArray s 2 4 A) (F0 m 192 ls []) := by
    intro K192_266 hk192_266
    intro n192
    induction n192 with
    | zero => intro v1_192 v5_192 H locs ls hP hD hS hv hl; exact hv.elim
    | succ n192 ih192 =>
      intro v1_192 v5_192 H locs ls hP hD hS hv hl
      refine lv_iload hx hb dX3_digest_192 (lv_at hl 4 rfl) ?_
      refine lv_iconst (v := (2 : Int32)) hx hb dX3_digest_194 (by decide) ?_
      refine lv_icmp_ge (tgt := 266) hx hb dX3_digest_195 (by decide) (fun hc => ?_) (fun hc => ?_)
      · have hv := hv.1 hc
        exact hk192_266 _ _ _ _ _ hP hD hS hv (lv_sub hl [0, 1, 2, 3, 4] rfl)
      · have hv := hv.2 hc
        refine lv_lload_n hx hb dX3_digest_198 rfl (lv_at hl 1 rfl) ?_
        refine lv_aload_n hx hb dX3_digest_199 rfl (lv_at hl 2 rfl) ?_
        refine lv_iload hx hb dX3_digest_200 (lv_at hl 4 rfl) ?_
        obtain ⟨hq, hv⟩ := hv
        refine va_iald hx hb hK hP 3 0 rfl rfl hq dX3_digest_202 ?_
        refine lv_i2l hx hb dX3_digest_203 rfl ?_
        refine kc_Sl (As := [.long v1_192, .long ((upd (upd (fun _ => (0 : Int32)) (0 : Int32).toNatClampNeg r41) (1 : Int32).toNatClampNeg r49) v5_192.toNatClampNeg).toInt64]) (rest := []) ⟨hx, hb, hml, hown, hts⟩ (kX3_add l D cI cB v1_192 ((upd (upd (fun _ => (0 : Int32)) (0 : Int32).toNatClampNeg r41) (1 : Int32).toNatClampNeg r49) v5_192.toNatClampNeg).toInt64 _ hv) (va_cwS 2 hts gX3_digest_X3_add rfl rfl rfl (by decide +kernel) ⟨Nat.le_of_ble_eq_true rfl, Nat.le_of_ble_eq_true rfl⟩) (hP.sub (ws' := []) [] rfl) hK hN rfl hl.1 rfl (Nat.le_of_ble_eq_true rfl) dX3_digest_204 ⟨Nat.le_of_ble_eq_true rfl, Nat.le_of_ble_eq_true rfl⟩ (fun r204 hv => ?_)
        refine lv_aload_n hx hb dX3_digest_207 rfl (lv_at hl 0 rfl) ?_
        refine lv_iload hx hb dX3_digest_208 (lv_at hl 4 rfl) ?_
        refine kc_V (As := [.int v5_192]) (rest := [.long r204]) ⟨hx, hb, hml, hown, hts⟩ (kX3_keepingOf l D cI cB h0 h1 h2 on oo og orl ork owl oww ost ord oac ore okn (0 : Int32) v5_192 _ hv) (cwV 1 hts gX3_digest_X3_keepingOf rfl rfl rfl (by decide +kernel) ⟨Nat.le_of_ble_eq_true rfl, Nat.le_of_ble_eq_true rfl⟩) (hP.sub (ws' := [(h0, .inr (5, [.int on, .int oo, .int og, .ref h1, .ref h2, .int ost, .int ord, .int oac, .int ore, .int okn, .int (0 : Int32)])), (h1, .inl (cI, orl, .inl ork)), (h2, .inl (cI, owl, .inl oww))]) [0, 1, 2] rfl) hK hN 5 rfl rfl rfl rfl hl.1 rfl (Nat.le_of_ble_eq_true rfl) dX3_digest_210 ⟨Nat.le_of_ble_eq_true rfl, Nat.le_of_ble_eq_true rfl⟩ (fun r210 hv => ?_)
        refine lv_i2l hx hb dX3_digest_213 rfl ?_
        refine kc_Sl (As := [.long r204, .long r210.toInt64]) (rest := []) ⟨hx, hb, hml, hown, hts⟩ (kX3_add l D cI cB r204 (r210.toInt64) _ hv) (va_cwS 2 hts gX3_digest_X3_add rfl rfl rfl (by decide +kernel) ⟨Nat.le_of_ble_eq_true rfl, Nat.le_of_ble_eq_true rfl⟩) (hP.sub (ws' := []) [] rfl) hK hN rfl hl.1 rfl (Nat.le_of_ble_eq_true rfl) dX3_digest_214 ⟨Nat.le_of_ble_eq_true rfl, Nat.le_of_ble_eq_true rfl⟩ (fun r214 hv => ?_)
        refine lv_aload hx hb dX3_digest_217 (lv_at hl 3 rfl) ?_
        refine lv_iload hx hb dX3_digest_219 (lv_at hl 4 rfl) ?_
        obtain ⟨hq, hv⟩ := hv
        refine va_iald hx hb hK hP 4 0 rfl rfl hq dX3_digest_221 ?_
        refine lv_i2l hx hb dX3_digest_222 rfl ?_
        refine kc_Sl (As := [.long r214, .long ((upd (upd (fun _ => (0 : Int32)) (0 : Int32).toNatClampNeg r61) (1 : Int32).toNatClampNeg r69) v5_192.toNatClampNeg).toInt64]) (rest := []) ⟨hx, hb, hml, hown, hts⟩ (kX3_add l D cI cB r214 ((upd (upd (fun _ => (0 : Int32)) (0 : Int32).toNatClampNeg r61) (1 : Int32).toNatClampNeg r69) v5_192.toNatClampNeg).toInt64 _ hv) (va_cwS 2 hts gX3_digest_X3_add rfl rfl rfl (by decide +kernel) ⟨Nat.le_of_ble_eq_true rfl, Nat.le_of_ble_eq_true rfl⟩) (hP.sub (ws' := []) [] rfl) hK hN rfl hl.1 rfl (Nat.le_of_ble_eq_true rfl) dX3_digest_223 ⟨Nat.le_of_ble_eq_true rfl, Nat.le_of_ble_eq_true rfl⟩ (fun r223 hv => ?_)
        refine lv_lstore_n (lv' := [(1, .long r223), (0, .ref h0), (3, .ref w35), (4, .ref w55), (5, .int v5_192)]) hx hb dX3_digest_226 rfl hl (by decide) rfl (fun ls hl => ?_)
        refine lv_lload_n hx hb dX3_digest_227 rfl (lv_at hl 0 rfl) ?_
        refine lv_aload_n hx hb dX3_digest_228 rfl (lv_at hl 1 rfl) ?_
        refine lv_iconst (v := (3 : Int32)) hx hb dX3_digest_229 (by decide) ?_
        refine lv_iload hx hb dX3_digest_230 (lv_at hl 4 rfl) ?_
        refine kc_V (As := [.int (3 : Int32), .int v5_192]) (rest := [.long r223]) ⟨hx, hb, hml, hown, hts⟩ (kX3_wonIn l D cI cB h0 h1 h2 on oo og orl ork owl oww ost ord oac ore okn (0 : Int32) (3 : Int32) v5_192 _ hv) (cwV 2 hts gX3_digest_X3_wonIn rfl rfl rfl (by decide +kernel) ⟨Nat.le_of_ble_eq_true rfl, Nat.le_of_ble_eq_true rfl⟩) (hP.sub (ws' := [(h0, .inr (5, [.int on, .int oo, .int og, .ref h1, .ref h2, .int ost, .int ord, .int oac, .int ore, .int okn, .int (0 : Int32)])), (h1, .inl (cI, orl, .inl ork)), (h2, .inl (cI, owl, .inl oww))]) [0, 1, 2] rfl) hK hN 5 rfl rfl rfl rfl hl.1 rfl (Nat.le_of_ble_eq_true rfl) dX3_digest_232 ⟨Nat.le_of_ble_eq_true rfl, Nat.le_of_ble_eq_true rfl⟩ (fun r232 hv => ?_)
        refine lv_i2l hx hb dX3_digest_235 rfl ?_
        refine kc_Sl (As := [.long r223, .long r232.toInt64]) (rest := []) ⟨hx, hb, hml, hown, hts⟩ (kX3_add l D cI cB r223 (r232.toInt64) _ hv) (va_cwS 2 hts gX3_digest_X3_add rfl rfl rfl (by decide +kernel) ⟨Nat.le_of_ble_eq_true rfl, Nat.le_of_ble_eq_true rfl⟩) (hP.sub (ws' := []) [] rfl) hK hN rfl hl.1 rfl (Nat.le_of_ble_eq_true rfl) dX3_digest_236 ⟨Nat.le_of_ble_eq_true rfl, Nat.le_of_ble_eq_true rfl⟩ (fun r236 hv => ?_)
        refine lv_aload_n hx hb dX3_digest_239 rfl (lv_at hl 1 rfl) ?_
        refine lv_iload hx hb dX3_digest_240 (lv_at hl 4 rfl) ?_
        refine kc_V (As := [.int v5_192]) (rest := [.long r236]) ⟨hx, hb, hml, hown, hts⟩ (kX3_fallsOf l D cI cB h0 h1 h2 on oo og orl ork owl oww ost ord oac ore okn (0 : Int32) v5_192 _ hv) (cwV 1 hts gX3_digest_X3_fallsOf rfl rfl rfl (by decide +kernel) ⟨Nat.le_of_ble_eq_true rfl, Nat.le_of_ble_eq_true rfl⟩) (hP.sub (ws' := [(h0, .inr (5, [.int on, .int oo, .int og, .ref h1, .ref h2, .int ost, .int ord, .int oac, .int ore, .int okn, .int (0 : Int32)])), (h1, .inl (cI, orl, .inl ork)), (h2, .inl (cI, owl, .inl oww))]) [0, 1, 2] rfl) hK hN 5 rfl rfl rfl rfl hl.1 rfl (Nat.le_of_ble_eq_true rfl) dX3_digest_242 ⟨Nat.le_of_ble_eq_true rfl, Nat.le_of_ble_eq_true rfl⟩ (fun r242 hv => ?_)
        refine lv_i2l hx hb dX3_digest_245 rfl ?_
        refine kc_Sl (As := [.long r236, .long r242.toInt64]) (rest := []) ⟨hx, hb, hml, hown, hts⟩ (kX3_add l D cI cB r236 (r242.toInt64) _ hv) (va_cwS 2 hts gX3_digest_X3_add rfl rfl rfl (by decide +kernel) ⟨Nat.le_of_ble_eq_true rfl, Nat.le_of_ble_eq_true rfl⟩) (hP.sub (ws' := []) [] rfl) hK hN rfl hl.1 rfl (Nat.le_of_ble_eq_true rfl) dX3_digest_246 ⟨Nat.le_of_ble_eq_true rfl, Nat.le_of_ble_eq_true rfl⟩ (fun r246 hv => ?_)
        refine lv_aload_n hx hb dX3_digest_249 rfl (lv_at hl 1 rfl) ?_
        refine lv_iload hx hb dX3_digest_250 (lv_at hl 4 rfl) ?_
        refine kc_V (As := [.int v5_192]) (rest := [.long r246]) ⟨hx, hb, hml, hown, hts⟩ (kX3_choicesOf l D cI cB h0 h1 h2 on oo og orl ork owl oww ost ord oac ore okn (0 : Int32) v5_192 _ hv) (cwV 1 hts gX3_digest_X3_choicesOf rfl rfl rfl (by decide +kernel) ⟨Nat.le_of_ble_eq_true rfl, Nat.le_of_ble_eq_true rfl⟩) (hP.sub (ws' := [(h0, .inr (5, [.int on, .int oo, .int og, .ref h1, .ref h2, .int ost, .int ord, .int oac, .int ore, .int okn, .int (0 : Int32)])), (h1, .inl (cI, orl, .inl ork)), (h2, .inl (cI, owl, .inl oww))]) [0, 1, 2] rfl) hK hN 5 rfl rfl rfl rfl hl.1 rfl (Nat.le_of_ble_eq_true rfl) dX3_digest_252 ⟨Nat.le_of_ble_eq_true rfl, Nat.le_of_ble_eq_true rfl⟩ (fun r252 hv => ?_)
        refine lv_i2l hx hb dX3_digest_255 rfl ?_
        refine kc_Sl (As := [.long r246, .long r252.toInt64]) (rest := []) ⟨hx, hb, hml, hown, hts⟩ (kX3_add l D cI cB r246 (r252.toInt64) _ hv) (va_cwS 2 hts gX3_digest_X3_add rfl rfl rfl (by decide +kernel) ⟨Nat.le_of_ble_eq_true rfl, Nat.le_of_ble_eq_true rfl⟩) (hP.sub (ws' := []) [] rfl) hK hN rfl hl.1 rfl (Nat.le_of_ble_eq_true rfl) dX3_digest_256 ⟨Nat.le_of_ble_eq_true rfl, Nat.le_of_ble_eq_true rfl⟩ (fun r256 hv => ?_)
        refine lv_lstore_n (lv' := [(1, .long r256), (0, .ref h0), (3, .ref w35), (4, .ref w55), (5, .int v5_192)]) hx hb dX3_digest_259 rfl hl (by decide) rfl (fun ls hl => ?_)
        refine lv_iinc (v := (v5_192 + (1 : Int32))) (lv' := [(5, .int (v5_192 + (1 : Int32))), (1, .long r256), (0, .ref h0), (3, .ref w35), (4, .ref w55)]) hx hb dX3_digest_260 hl (k := 4) rfl rfl (by decide) rfl (fun ls hl => ?_)
        refine lv_goto (tgt := 192) hx hb dX3_digest_263 (by decide) ?_
        exact ih192 _ _ _ _ _ hP hD hS hv (lv_sub hl [2, 1, 3, 4, 0] rfl)
  obtain ⟨n192, hv⟩ := hv
  refine L192 _ (fun v1_192x v5_192x H locs ls hP hD hS hv hl => ?_) n192 _ _ _ _ _ hP hD hS hv (lv_sub hl [1, 2, 3, 4, 0] rfl)
  refine lv_lload_n hx hb dX3_digest_266 rfl (lv_at hl 1 rfl) ?_
  refine lv_aload_n hx hb dX3_digest_267 rfl (lv_at hl 0 rfl) ?_
  refine va_get (D := D) (ci := 5) (v := .int oac) (C := RX3) (T := TX3) (N := 11) hx hb hts hi_X3 hown hK hP 0 rfl rfl 7 (by decide) hF92 (fun _ h9 => h9) rfl dX3_digest_268 ?_
  refine lv_i2l hx hb dX3_digest_271 rfl ?_
  refine kc_Sl (As := [.long v1_192x, .long oac.toInt64]) (rest := []) ⟨hx, hb, hml, hown, hts⟩ (kX3_add l D cI cB v1_192x (oac.toInt64) _ hv) (va_cwS 2 hts gX3_digest_X3_add rfl rfl rfl (by decide +kernel) ⟨Nat.le_of_ble_eq_true rfl, Nat.le_of_ble_eq_true rfl⟩) (hP.sub (ws' := []) [] rfl) hK hN rfl hl.1 rfl (Nat.le_of_ble_eq_true rfl) dX3_digest_272 ⟨Nat.le_of_ble_eq_true rfl, Nat.le_of_ble_eq_true rfl⟩ (fun r272 hv => ?_)
  refine lv_aload_n hx hb dX3_digest_275 rfl (lv_at hl 0 rfl) ?_
  refine va_get (D := D) (ci := 5) (v := .int ore) (C := RX3) (T := TX3) (N := 11) hx hb hts hi_X3 hown hK hP 0 rfl rfl 8 (by decide) hF95 (fun _ h9 => h9) rfl dX3_digest_276 ?_
  refine lv_i2l hx hb dX3_digest_279 rfl ?_
  refine kc_Sl (As := [.long r272, .long ore.toInt64]) (rest := []) ⟨hx, hb, hml, hown, hts⟩ (kX3_add l D cI cB r272 (ore.toInt64) _ hv) (va_cwS 2 hts gX3_digest_X3_add rfl rfl rfl (by decide +kernel) ⟨Nat.le_of_ble_eq_true rfl, Nat.le_of_ble_eq_true rfl⟩) (hP.sub (ws' := []) [] rfl) hK hN rfl hl.1 rfl (Nat.le_of_ble_eq_true rfl) dX3_digest_280 ⟨Nat.le_of_ble_eq_true rfl, Nat.le_of_ble_eq_true rfl⟩ (fun r280 hv => ?_)
  refine lv_aload_n hx hb dX3_digest_283 rfl (lv_at hl 0 rfl) ?_
  refine va_get (D := D) (ci := 5) (v := .int okn) (C := RX3) (T := TX3) (N := 11) hx hb hts hi_X3 hown hK hP 0 rfl rfl 9 (by decide) hF161 (fun _ h9 => h9) rfl dX3_digest_284 ?_
  refine lv_i2l hx hb dX3_digest_287 rfl ?_
  refine kc_Sl (As := [.long r280, .long okn.toInt64]) (rest := []) ⟨hx, hb, hml, hown, hts⟩ (kX3_add l D cI cB r280 (okn.toInt64) _ hv) (va_cwS 2 hts gX3_digest_X3_add rfl rfl rfl (by decide +kernel) ⟨Nat.le_of_ble_eq_true rfl, Nat.le_of_ble_eq_true rfl⟩) (hP.sub (ws' := []) [] rfl) hK hN rfl hl.1 rfl (Nat.le_of_ble_eq_true rfl) dX3_digest_288 ⟨Nat.le_of_ble_eq_true rfl, Nat.le_of_ble_eq_true rfl⟩ (fun r288 hv => ?_)
  refine lv_lconst (v := (1 : Int64)) hx hb dX3_digest_291 (by decide) ?_
  refine kc_Sl (As := [.long r288, .long (1 : Int64)]) (rest := []) ⟨hx, hb, hml, hown, hts⟩ (kX3_add l D cI cB r288 (1 : Int64) _ hv) (va_cwS 2 hts gX3_digest_X3_add rfl rfl rfl (by decide +kernel) ⟨Nat.le_of_ble_eq_true rfl, Nat.le_of_ble_eq_true rfl⟩) (hP.sub (ws' := []) [] rfl) hK hN rfl hl.1 rfl (Nat.le_of_ble_eq_true rfl) dX3_digest_292 ⟨Nat.le_of_ble_eq_true rfl, Nat.le_of_ble_eq_true rfl⟩ (fun r292 hv => ?_)
  refine W.widen (k := 2) (n := 4) (Nat.le_of_ble_eq_true rfl) (Nat.le_of_ble_eq_true rfl) ?_
  have hP : va_P D vwCl [(h0, .inr (5, [.int on, .int oo, .int og, .ref h1, .ref h2, .int ost, .int ord, .int oac, .int ore, .int okn, .int (0 : Int32)])), (h1, .inl (cI, orl, .inl ork)), (h2, .inl (cI, owl, .inl oww))] _ := hP.sub [0, 1, 2] rfl
  have hD : va_D A [(h0, .inr (5, [.int on, .int oo, .int og, .ref h1, .ref h2, .int ost, .int ord, .int oac, .int ore, .int okn, .int (0 : Int32)])), (h1, .inl (cI, orl, .inl ork)), (h2, .inl (cI, owl, .inl oww))] := hD.sub [0, 1, 2] (by decide) rfl
  exact W.lret (v := r292) hx hb hr (kWl_ret (u := (0 : Int32)) hv hP hD hS) hS.2.2 dX3_digest_295
