/-! walks by program (wip/gen) -/
set_option maxHeartbeats 4000000 in
set_option maxRecDepth 100000 in
theorem kX3_circleW (l : Launch) (D : va_G) (cI cB : ClassId) (h0 : Nat) (h1 : Nat) (h2 : Nat) (on : Int32) (oo : Int32) (og : Int32) (orl : Nat) (ork : Nat → Int32) (owl : Nat) (oww : Nat → Int32) (ost : Int32) (ord : Int32) (oac : Int32) (ore : Int32) (okn : Int32) (oth : Int32) (a1 : Int32) (sz : Nat) (post : Int32 → Int32 → Int32 → Int32 → (Nat → Int32) → Prop) (hv : qX3_circleW on owl oww oac ore a1 post) : Met l yX3_circle wsX3_circle ({ frames := 2, cells := 0, slots := 0, locals := 45 }) (va_Pc [.ref h0, .int a1] (kBW D cI cB sz [(h0, .inr (5, [.int on, .int oo, .int og, .ref h1, .ref h2, .int ost, .int ord, .int oac, .int ore, .int okn, .int oth])), (h1, .inl (cI, orl, .inl ork)), (h2, .inl (cI, owl, .inl oww))])) (va_Qi (fun (r : Int32) (u : Int32 × Int32 × Int32 × (Nat → Int32)) => post r u.1 u.2.1 u.2.2.1 u.2.2.2) (fun (u : Int32 × Int32 × Int32 × (Nat → Int32)) (t : State) => kE D (va_A [(h0, .inr (5, [.int on, .int oo, .int og, .ref h1, .ref h2, .int ost, .int ord, .int oac, .int ore, .int okn, .int oth])), (h1, .inl (cI, orl, .inl ork)), (h2, .inl (cI, owl, .inl oww))] sz) [(h0, .inr (5, [.int on, .int oo, .int og, .ref h1, .ref h2, .int ost, .int ord, .int (u.1), .int (u.2.1), .int okn, .int (u.2.2.1)])), (h1, .inl (cI, orl, .inl ork)), (h2, .inl (cI, owl, .inl (u.2.2.2)))] t) (va_A [(h0, .inr (5, [.int on, .int oo, .int og, .ref h1, .ref h2, .int ost, .int ord, .int oac, .int ore, .int okn, .int oth])), (h1, .inl (cI, orl, .inl ork)), (h2, .inl (cI, owl, .inl oww))] sz)) 0 0 (va_A [(h0, .inr (5, [.int on, .int oo, .int og, .ref h1, .ref h2, .int ost, .int ord, .int oac, .int ore, .int okn, .int oth])), (h1, .inl (cI, orl, .inl ork)), (h2, .inl (cI, owl, .inl oww))] sz) := by
  refine Met.ofW (cc := cX3_circle) (maxL := 4) (ret := (some .int)) (by decide) rfl ?_
  intro p e s m args below meth c s₁ B hml hv0
  obtain ⟨rfl, hsz, ⟨hP, hK, hN⟩, hD0⟩ := hv0
  have hx := B.exec
  have hb := B.bytes
  have hr := B.returns
  have hts := atoms_spec (ws := wsX3_circle) B.pre
  have hown : s.vm.findClass RX3 = some m.cls := findClass_of_methodNamed B.named
  have hlocks := B.notSynchronized
  have hi_X3 : ∀ w ∈ wsX30, w ∈ wsX3_circle := by decide +kernel
  have hF17 := hts (.fieldLink RX3 17 "RoadgameModel" "n" "I") (by decide +kernel)
  have hF30 := hts (.fieldLink RX3 30 "RoadgameModel" "ways" "[I") (by decide +kernel)
  subst hsz
  have hD := hD0.self (sz := s.heap.size)
  generalize hAe : va_A [(h0, .inr (5, [.int on, .int oo, .int og, .ref h1, .ref h2, .int ost, .int ord, .int oac, .int ore, .int okn, .int oth])), (h1, .inl (cI, orl, .inl ork)), (h2, .inl (cI, owl, .inl oww))] s.heap.size = A at hD ⊢
  have hA : ∀ q : Nat, s.heap.size ≤ q → A q := fun q h => by rw [← hAe]; exact Or.inr h
  have hS : va_S A s.heap s.heap [] := va_S.rf
  have hl := lv_entry ([.ref h0, .int a1]) (n := 4) (Nat.le_of_ble_eq_true rfl)
  rw [lg_entry_eq]
  generalize (lg_sl ([.ref h0, .int a1]) ++ List.replicate (4 - (lg_sl ([.ref h0, .int a1])).length) Slot.unset).toArray = ls at hl ⊢
  have hl : lv_has ls 4 [(0, .ref h0), (1, .int a1)] := hl
  refine lv_aload_n hx hb dX3_circle_0 rfl (lv_at hl 0 rfl) ?_
  refine lv_iload_n hx hb dX3_circle_1 rfl (lv_at hl 1 rfl) ?_
  have J16 : ∀ (s0_j16 : Int32) (H : Heap) (locs : List Loc) (ls : Array Slot), va_P D vwCl [(h0, .inr (5, [.int on, .int oo, .int og, .ref h1, .ref h2, .int ost, .int ord, .int oac, .int ore, .int okn, .int oth])), (h1, .inl (cI, orl, .inl ork)), (h2, .inl (cI, owl, .inl oww))] H → va_D A [(h0, .inr (5, [.int on, .int oo, .int og, .ref h1, .ref h2, .int ost, .int ord, .int oac, .int ore, .int okn, .int oth])), (h1, .inl (cI, orl, .inl ork)), (h2, .inl (cI, owl, .inl oww))] → va_S A s.heap H locs → qX3_circleW_j16 on owl oww oac ore a1 s0_j16 post → lv_has ls 4 [(0, .ref h0), (1, .int a1)] → W p l e (headSpec wsX3_circle ({ frames := 2, cells := 0, slots := 0, locals := 45 })).room s m ([.ref h0, .int a1] : List Value).toArray below meth c H locs 0 0 (MQ below (va_Qi (fun (r : Int32) (u : Int32 × Int32 × Int32 × (Nat → Int32)) => post r u.1 u.2.1 u.2.2.1 u.2.2.2) (fun (u : Int32 × Int32 × Int32 × (Nat → Int32)) (t : State) => kE D A [(h0, .inr (5, [.int on, .int oo, .int og, .ref h1, .ref h2, .int ost, .int ord, .int (u.1), .int (u.2.1), .int okn, .int (u.2.2.1)])), (h1, .inl (cI, orl, .inl ork)), (h2, .inl (cI, owl, .inl (u.2.2.2)))] t) A) ([.ref h0, .int a1] : List Value).toArray s 0 0 A) (F0 m 16 ls [.int s0_j16, .ref h0]) := by
    intro s0_j16 H locs ls hP hD hS hv hl
    refine kw_i (wr := []) (va_runV (As := [.int s0_j16]) (rest := []) ⟨hx, hb, hml, hown, hts⟩ (kX3_isThrown_W l D cI cB h0 h1 h2 on oo og orl ork owl oww ost ord oac ore okn oth s0_j16 _ _ hv) (cwV 1 hts gX3_circle_X3_isThrown_ rfl rfl rfl (by decide +kernel) ⟨Nat.le_of_ble_eq_true rfl, Nat.le_of_ble_eq_true rfl⟩) ⟨(kPreW (As := [.ref h0, .int s0_j16]) (hP.sub (ws' := [(h0, .inr (5, [.int on, .int oo, .int og, .ref h1, .ref h2, .int ost, .int ord, .int oac, .int ore, .int okn, .int oth])), (h1, .inl (cI, orl, .inl ork)), (h2, .inl (cI, owl, .inl oww))]) [0, 1, 2] rfl) (hD.sub (ws' := [(h0, .inr (5, [.int on, .int oo, .int og, .ref h1, .ref h2, .int ost, .int ord, .int oac, .int ore, .int okn, .int oth])), (h1, .inl (cI, orl, .inl ork)), (h2, .inl (cI, owl, .inl oww))]) [0, 1, 2] (by decide) rfl) hK hN).1, kRecv (hP.sub (ws' := [(h0, .inr (5, [.int on, .int oo, .int og, .ref h1, .ref h2, .int ost, .int ord, .int oac, .int ore, .int okn, .int oth])), (h1, .inl (cI, orl, .inl ork)), (h2, .inl (cI, owl, .inl oww))]) [0, 1, 2] rfl) hK 5 rfl rfl rfl, (kPreW (As := [.ref h0, .int s0_j16]) (hP.sub (ws' := [(h0, .inr (5, [.int on, .int oo, .int og, .ref h1, .ref h2, .int ost, .int ord, .int oac, .int ore, .int okn, .int oth])), (h1, .inl (cI, orl, .inl ork)), (h2, .inl (cI, owl, .inl oww))]) [0, 1, 2] rfl) (hD.sub (ws' := [(h0, .inr (5, [.int on, .int oo, .int og, .ref h1, .ref h2, .int ost, .int ord, .int oac, .int ore, .int okn, .int oth])), (h1, .inl (cI, orl, .inl ork)), (h2, .inl (cI, owl, .inl oww))]) [0, 1, 2] (by decide) rfl) hK hN).2⟩ rfl rfl hl.1 rfl (lv_room (Nat.le_of_ble_eq_true rfl)) dX3_circle_16 ⟨Nat.le_of_ble_eq_true rfl, Nat.le_of_ble_eq_true rfl⟩) hP hD hS hA [0, 1, 2] [] rfl rfl (by decide) (by decide) (fun r16 u H locs hv hP hD hS => ?_)
    obtain ⟨x16_0, rfl⟩ : ∃ z, z = u := ⟨_, rfl⟩
    have hP : va_P D vwCl [(h0, .inr (5, [.int on, .int oo, .int og, .ref h1, .ref h2, .int ost, .int ord, .int oac, .int ore, .int okn, .int x16_0])), (h1, .inl (cI, orl, .inl ork)), (h2, .inl (cI, owl, .inl oww))] H := hP.sub [0, 1, 2] rfl
    have hD : va_D A [(h0, .inr (5, [.int on, .int oo, .int og, .ref h1, .ref h2, .int ost, .int ord, .int oac, .int ore, .int okn, .int x16_0])), (h1, .inl (cI, orl, .inl ork)), (h2, .inl (cI, owl, .inl oww))] := hD.sub [0, 1, 2] (by decide) rfl
    refine lv_if_eq (tgt := 24) hx hb dX3_circle_19 (by decide) (fun hc => ?_) (fun hc => ?_)
    · have hv := hv.1 hc
      refine lv_iconst (v := (0 : Int32)) hx hb dX3_circle_24 (by decide) ?_
      refine lv_istore_n (lv' := [(2, .int (0 : Int32)), (0, .ref h0), (1, .int a1)]) hx hb dX3_circle_25 rfl hl (by decide) rfl (fun ls hl => ?_)
      refine lv_iconst (v := (0 : Int32)) hx hb dX3_circle_26 (by decide) ?_
      refine lv_istore_n (lv' := [(3, .int (0 : Int32)), (2, .int (0 : Int32)), (0, .ref h0), (1, .int a1)]) hx hb dX3_circle_27 rfl hl (by decide) rfl (fun ls hl => ?_)
      have L28 : ∀ (K28_70 : Int32 → Int32 → Prop), (∀ (v2_28 : Int32) (v3_28 : Int32) (H : Heap) (locs : List Loc) (ls : Array Slot), va_P D vwCl [(h0, .inr (5, [.int on, .int oo, .int og, .ref h1, .ref h2, .int ost, .int ord, .int oac, .int ore, .int okn, .int x16_0])), (h1, .inl (cI, orl, .inl ork)), (h2, .inl (cI, owl, .inl oww))] H → va_D A [(h0, .inr (5, [.int on, .int oo, .int og, .ref h1, .ref h2, .int ost, .int ord, .int oac, .int ore, .int okn, .int x16_0])), (h1, .inl (cI, orl, .inl ork)), (h2, .inl (cI, owl, .inl oww))] → va_S A s.heap H locs → K28_70 v2_28 v3_28 → lv_has ls 4 [(0, .ref h0), (1, .int a1), (2, .int v2_28), (3, .int v3_28)] → W p l e (headSpec wsX3_circle ({ frames := 2, cells := 0, slots := 0, locals := 45 })).room s m ([.ref h0, .int a1] : List Value).toArray below meth c H locs 0 0 (MQ below (va_Qi (fun (r : Int32) (u : Int32 × Int32 × Int32 × (Nat → Int32)) => post r u.1 u.2.1 u.2.2.1 u.2.2.2) (fun (u : Int32 × Int32 × Int32 × (Nat → Int32)) (t : State) => kE D A [(h0, .inr (5, [.int on, .int oo, .int og, .ref h1, .ref h2, .int ost, .int ord, .int (u.1), .int (u.2.1), .int okn, .int (u.2.2.1)])), (h1, .inl (cI, orl, .inl ork)), (h2, .inl (cI, owl, .inl (u.2.2.2)))] t) A) ([.ref h0, .int a1] : List Value).toArray s 0 0 A) (F0 m 70 ls [])) → ∀ (n28 : Nat) (v2_28 : Int32) (v3_28 : Int32) (H : Heap) (locs : List Loc) (ls : Array Slot), va_P D vwCl [(h0, .inr (5, [.int on, .int oo, .int og, .ref h1, .ref h2, .int ost, .int ord, .int oac, .int ore, .int okn, .int x16_0])), (h1, .inl (cI, orl, .inl ork)), (h2, .inl (cI, owl, .inl oww))] H → va_D A [(h0, .inr (5, [.int on, .int oo, .int og, .ref h1, .ref h2, .int ost, .int ord, .int oac, .int ore, .int okn, .int x16_0])), (h1, .inl (cI, orl, .inl ork)), (h2, .inl (cI, owl, .inl oww))] → va_S A s.heap H locs → qX3_circle_W28 on owl oww a1 K28_70 n28 v2_28 v3_28 → lv_has ls 4 [(0, .ref h0), (1, .int a1), (2, .int v2_28), (3, .int v3_28)] → W p l e (headSpec wsX3_circle ({ frames := 2, cells := 0, slots := 0, locals := 45 })).room s m ([.ref h0, .int a1] : List Value).toArray below meth c H locs 0 0 (MQ below (va_Qi (fun (r : Int32) (u : Int32 × Int32 × Int32 × (Nat → Int32)) => post r u.1 u.2.1 u.2.2.1 u.2.2.2) (fun (u : Int32 × Int32 × Int32 × (Nat → Int32)) (t : State) => kE D A [(h0, .inr (5, [.int on, .int oo, .int og, .ref h1, .ref h2, .int ost, .int ord, .int (u.1), .int (u.2.1), .int okn, .int (u.2.2.1)])), (h1, .inl (cI, orl, .inl ork)), (h2, .inl (cI, owl, .inl (u.2.2.2)))] t) A) ([.ref h0, .int a1] : List Value).toArray s 0 0 A) (F0 m 28 ls []) := by
        intro K28_70 hk28_70
        intro n28
        induction n28 with
        | zero => intro v2_28 v3_28 H locs ls hP hD hS hv hl; exact hv.elim
        | succ n28 ih28 =>
          intro v2_28 v3_28 H locs ls hP hD hS hv hl
          refine lv_iload_n hx hb dX3_circle_28 rfl (lv_at hl 3 rfl) ?_
          refine lv_aload_n hx hb dX3_circle_29 rfl (lv_at hl 0 rfl) ?_
          refine va_get (D := D) (ci := 5) (v := .int on) (C := RX3) (T := TX3) (N := 11) hx hb hts hi_X3 hown hK hP 0 rfl rfl 0 (by decide) hF17 (fun _ h9 => h9) rfl dX3_circle_30 ?_
          refine lv_icmp_ge (tgt := 70) hx hb dX3_circle_33 (by decide) (fun hc => ?_) (fun hc => ?_)
          · have hv := hv.1 hc
            exact hk28_70 _ _ _ _ _ hP hD hS hv (lv_sub hl [0, 1, 2, 3] rfl)
          · have hv := hv.2 hc
            refine lv_iload_n hx hb dX3_circle_36 rfl (lv_at hl 2 rfl) ?_
            refine lv_aload_n hx hb dX3_circle_37 rfl (lv_at hl 0 rfl) ?_
            refine va_get (D := D) (ci := 5) (v := .ref h2) (C := RX3) (T := TX3) (N := 11) hx hb hts hi_X3 hown hK hP 0 rfl rfl 4 (by decide) hF30 (fun _ h9 => h9) rfl dX3_circle_38 ?_
            refine lv_iload_n hx hb dX3_circle_41 rfl (lv_at hl 3 rfl) ?_
            obtain ⟨hq, hv⟩ := hv
            refine va_iald hx hb hK hP 2 0 rfl rfl hq dX3_circle_42 ?_
            refine lv_iload_n hx hb dX3_circle_43 rfl (lv_at hl 3 rfl) ?_
            refine lv_iload_n hx hb dX3_circle_44 rfl (lv_at hl 1 rfl) ?_
            refine lv_iadd hx hb dX3_circle_45 ?_
            refine lv_aload_n hx hb dX3_circle_46 rfl (lv_at hl 0 rfl) ?_
            refine va_get (D := D) (ci := 5) (v := .int on) (C := RX3) (T := TX3) (N := 11) hx hb hts hi_X3 hown hK hP 0 rfl rfl 0 (by decide) hF17 (fun _ h9 => h9) rfl dX3_circle_47 ?_
            obtain ⟨hq, hv⟩ := hv
            refine lv_irem hx hb dX3_circle_50 hq ?_
            refine kc_S (As := [.int (oww v3_28.toNatClampNeg), .int ((v3_28 + a1) - (v3_28 + a1) / on * on)]) (rest := [.int v2_28]) ⟨hx, hb, hml, hown, hts⟩ (kX3_isIn l D cI cB (oww v3_28.toNatClampNeg) ((v3_28 + a1) - (v3_28 + a1) / on * on) _ hv) (va_cwS 2 hts gX3_circle_X3_isIn rfl rfl rfl (by decide +kernel) ⟨Nat.le_of_ble_eq_true rfl, Nat.le_of_ble_eq_true rfl⟩) (hP.sub (ws' := []) [] rfl) hK hN rfl hl.1 rfl (Nat.le_of_ble_eq_true rfl) dX3_circle_51 ⟨Nat.le_of_ble_eq_true rfl, Nat.le_of_ble_eq_true rfl⟩ (fun r51 hv => ?_)
            refine lv_if_eq (tgt := 61) hx hb dX3_circle_54 (by decide) (fun hc => ?_) (fun hc => ?_)
            · have hv := hv.1 hc
              refine lv_iconst (v := (1 : Int32)) hx hb dX3_circle_61 (by decide) ?_
              refine lv_iadd hx hb dX3_circle_62 ?_
              refine lv_istore_n (lv' := [(2, .int (v2_28 + (1 : Int32))), (0, .ref h0), (1, .int a1), (3, .int v3_28)]) hx hb dX3_circle_63 rfl hl (by decide) rfl (fun ls hl => ?_)
              refine lv_iinc (v := (v3_28 + (1 : Int32))) (lv' := [(3, .int (v3_28 + (1 : Int32))), (2, .int (v2_28 + (1 : Int32))), (0, .ref h0), (1, .int a1)]) hx hb dX3_circle_64 hl (k := 3) rfl rfl (by decide) rfl (fun ls hl => ?_)
              refine lv_goto (tgt := 28) hx hb dX3_circle_67 (by decide) ?_
              exact ih28 _ _ _ _ _ hP hD hS hv (lv_sub hl [2, 3, 1, 0] rfl)
            · have hv := hv.2 hc
              refine lv_iconst (v := (0 : Int32)) hx hb dX3_circle_57 (by decide) ?_
              refine lv_goto (tgt := 62) hx hb dX3_circle_58 (by decide) ?_
              refine lv_iadd hx hb dX3_circle_62 ?_
              refine lv_istore_n (lv' := [(2, .int (v2_28 + (0 : Int32))), (0, .ref h0), (1, .int a1), (3, .int v3_28)]) hx hb dX3_circle_63 rfl hl (by decide) rfl (fun ls hl => ?_)
              refine lv_iinc (v := (v3_28 + (1 : Int32))) (lv' := [(3, .int (v3_28 + (1 : Int32))), (2, .int (v2_28 + (0 : Int32))), (0, .ref h0), (1, .int a1)]) hx hb dX3_circle_64 hl (k := 3) rfl rfl (by decide) rfl (fun ls hl => ?_)
              refine lv_goto (tgt := 28) hx hb dX3_circle_67 (by decide) ?_
              exact ih28 _ _ _ _ _ hP hD hS hv (lv_sub hl [2, 3, 1, 0] rfl)
      obtain ⟨n28, hv⟩ := hv
      refine L28 _ (fun v2_28x v3_28x H locs ls hP hD hS hv hl => ?_) n28 _ _ _ _ _ hP hD hS hv (lv_sub hl [2, 3, 1, 0] rfl)
      refine lv_aload_n hx hb dX3_circle_70 rfl (lv_at hl 0 rfl) ?_
      refine kc_V (As := []) (rest := []) ⟨hx, hb, hml, hown, hts⟩ (kX3_waysNow l D cI cB h0 h1 h2 on oo og orl ork owl oww ost ord oac ore okn x16_0 _ hv) (cwV 0 hts gX3_circle_X3_waysNow rfl rfl rfl (by decide +kernel) ⟨Nat.le_of_ble_eq_true rfl, Nat.le_of_ble_eq_true rfl⟩) hP hK hN 5 rfl rfl rfl rfl hl.1 rfl (Nat.le_of_ble_eq_true rfl) dX3_circle_71 ⟨Nat.le_of_ble_eq_true rfl, Nat.le_of_ble_eq_true rfl⟩ (fun r71 hv => ?_)
      refine lv_iload_n hx hb dX3_circle_74 rfl (lv_at hl 2 rfl) ?_
      refine lv_iadd hx hb dX3_circle_75 ?_
      refine lv_bipush (v := (30 : Int32)) hx hb dX3_circle_76 (by decide) ?_
      refine lv_icmp_le (tgt := 86) hx hb dX3_circle_78 (by decide) (fun hc => ?_) (fun hc => ?_)
      · have hv := hv.1 hc
        refine lv_iconst (v := (0 : Int32)) hx hb dX3_circle_86 (by decide) ?_
        refine lv_istore_n (lv' := [(3, .int (0 : Int32)), (0, .ref h0), (1, .int a1), (2, .int v2_28x)]) hx hb dX3_circle_87 rfl hl (by decide) rfl (fun ls hl => ?_)
        have L88 : ∀ (K88_121 : Int32 → (Nat → Int32) → Prop), (∀ (v3_88 : Int32) (z2_0_88 : Nat → Int32) (H : Heap) (locs : List Loc) (ls : Array Slot), va_P D vwCl [(h0, .inr (5, [.int on, .int oo, .int og, .ref h1, .ref h2, .int ost, .int ord, .int oac, .int ore, .int okn, .int x16_0])), (h1, .inl (cI, orl, .inl ork)), (h2, .inl (cI, owl, .inl z2_0_88))] H → va_D A [(h0, .inr (5, [.int on, .int oo, .int og, .ref h1, .ref h2, .int ost, .int ord, .int oac, .int ore, .int okn, .int x16_0])), (h1, .inl (cI, orl, .inl ork)), (h2, .inl (cI, owl, .inl z2_0_88))] → va_S A s.heap H locs → K88_121 v3_88 z2_0_88 → lv_has ls 4 [(0, .ref h0), (1, .int a1), (2, .int v2_28x), (3, .int v3_88)] → W p l e (headSpec wsX3_circle ({ frames := 2, cells := 0, slots := 0, locals := 45 })).room s m ([.ref h0, .int a1] : List Value).toArray below meth c H locs 0 0 (MQ below (va_Qi (fun (r : Int32) (u : Int32 × Int32 × Int32 × (Nat → Int32)) => post r u.1 u.2.1 u.2.2.1 u.2.2.2) (fun (u : Int32 × Int32 × Int32 × (Nat → Int32)) (t : State) => kE D A [(h0, .inr (5, [.int on, .int oo, .int og, .ref h1, .ref h2, .int ost, .int ord, .int (u.1), .int (u.2.1), .int okn, .int (u.2.2.1)])), (h1, .inl (cI, orl, .inl ork)), (h2, .inl (cI, owl, .inl (u.2.2.2)))] t) A) ([.ref h0, .int a1] : List Value).toArray s 0 0 A) (F0 m 121 ls [])) → ∀ (n88 : Nat) (v3_88 : Int32) (z2_0_88 : Nat → Int32) (H : Heap) (locs : List Loc) (ls : Array Slot), va_P D vwCl [(h0, .inr (5, [.int on, .int oo, .int og, .ref h1, .ref h2, .int ost, .int ord, .int oac, .int ore, .int okn, .int x16_0])), (h1, .inl (cI, orl, .inl ork)), (h2, .inl (cI, owl, .inl z2_0_88))] H → va_D A [(h0, .inr (5, [.int on, .int oo, .int og, .ref h1, .ref h2, .int ost, .int ord, .int oac, .int ore, .int okn, .int x16_0])), (h1, .inl (cI, orl, .inl ork)), (h2, .inl (cI, owl, .inl z2_0_88))] → va_S A s.heap H locs → qX3_circle_W88 on owl a1 K88_121 n88 v3_88 z2_0_88 → lv_has ls 4 [(0, .ref h0), (1, .int a1), (2, .int v2_28x), (3, .int v3_88)] → W p l e (headSpec wsX3_circle ({ frames := 2, cells := 0, slots := 0, locals := 45 })).room s m ([.ref h0, .int a1] : List Value).toArray below meth c H locs 0 0 (MQ below (va_Qi (fun (r : Int32) (u : Int32 × Int32 × Int32 × (Nat → Int32)) => post r u.1 u.2.1 u.2.2.1 u.2.2.2) (fun (u : Int32 × Int32 × Int32 × (Nat → Int32)) (t : State) => kE D A [(h0, .inr (5, [.int on, .int oo, .int og, .ref h1, .ref h2, .int ost, .int ord, .int (u.1), .int (u.2.1), .int okn, .int (u.2.2.1)])), (h1, .inl (cI, orl, .inl ork)), (h2, .inl (cI, owl, .inl (u.2.2.2)))] t) A) ([.ref h0, .int a1] : List Value).toArray s 0 0 A) (F0 m 88 ls []) := by
          intro K88_121 hk88_121
          intro n88
          induction n88 with
          | zero => intro v3_88 z2_0_88 H locs ls hP hD hS hv hl; exact hv.elim
          | succ n88 ih88 =>
            intro v3_88 z2_0_88 H locs ls hP hD hS hv hl
            refine lv_iload_n hx hb dX3_circle_88 rfl (lv_at hl 3 rfl) ?_
            refine lv_aload_n hx hb dX3_circle_89 rfl (lv_at hl 0 rfl) ?_
            refine va_get (D := D) (ci := 5) (v := .int on) (C := RX3) (T := TX3) (N := 11) hx hb hts hi_X3 hown hK hP 0 rfl rfl 0 (by decide) hF17 (fun _ h9 => h9) rfl dX3_circle_90 ?_
            refine lv_icmp_ge (tgt := 121) hx hb dX3_circle_93 (by decide) (fun hc => ?_) (fun hc => ?_)
            · have hv := hv.1 hc
              exact hk88_121 _ _ _ _ _ hP hD hS hv (lv_sub hl [0, 1, 2, 3] rfl)
            · have hv := hv.2 hc
              refine lv_aload_n hx hb dX3_circle_96 rfl (lv_at hl 0 rfl) ?_
              refine va_get (D := D) (ci := 5) (v := .ref h2) (C := RX3) (T := TX3) (N := 11) hx hb hts hi_X3 hown hK hP 0 rfl rfl 4 (by decide) hF30 (fun _ h9 => h9) rfl dX3_circle_97 ?_
              refine lv_iload_n hx hb dX3_circle_100 rfl (lv_at hl 3 rfl) ?_
              refine lv_dup2_11 hx hb dX3_circle_101 rfl rfl ?_
              obtain ⟨hq, hv⟩ := hv
              refine va_iald hx hb hK hP 2 0 rfl rfl hq dX3_circle_102 ?_
              refine lv_iconst (v := (1 : Int32)) hx hb dX3_circle_103 (by decide) ?_
              refine lv_iload_n hx hb dX3_circle_104 rfl (lv_at hl 3 rfl) ?_
              refine lv_iload_n hx hb dX3_circle_105 rfl (lv_at hl 1 rfl) ?_
              refine lv_iadd hx hb dX3_circle_106 ?_
              refine lv_aload_n hx hb dX3_circle_107 rfl (lv_at hl 0 rfl) ?_
              refine va_get (D := D) (ci := 5) (v := .int on) (C := RX3) (T := TX3) (N := 11) hx hb hts hi_X3 hown hK hP 0 rfl rfl 0 (by decide) hF17 (fun _ h9 => h9) rfl dX3_circle_108 ?_
              obtain ⟨hq, hv⟩ := hv
              refine lv_irem hx hb dX3_circle_111 hq ?_
              refine lv_ishl hx hb dX3_circle_112 ?_
              refine lv_ior hx hb dX3_circle_113 ?_
              obtain ⟨hq, hv⟩ := hv
              refine va_iast hx hb hK hP hD hS 2 0 rfl rfl hq dX3_circle_114 (fun H locs hP hD hS => ?_)
              have hP : va_P D vwCl [(h0, .inr (5, [.int on, .int oo, .int og, .ref h1, .ref h2, .int ost, .int ord, .int oac, .int ore, .int okn, .int x16_0])), (h1, .inl (cI, orl, .inl ork)), (h2, .inl (cI, owl, .inl (upd z2_0_88 v3_88.toNatClampNeg ((z2_0_88 v3_88.toNatClampNeg) ||| ((1 : Int32) <<< (((v3_88 + a1) - (v3_88 + a1) / on * on) &&& (31 : Int32)))))))] H := hP
              have hD : va_D A [(h0, .inr (5, [.int on, .int oo, .int og, .ref h1, .ref h2, .int ost, .int ord, .int oac, .int ore, .int okn, .int x16_0])), (h1, .inl (cI, orl, .inl ork)), (h2, .inl (cI, owl, .inl (upd z2_0_88 v3_88.toNatClampNeg ((z2_0_88 v3_88.toNatClampNeg) ||| ((1 : Int32) <<< (((v3_88 + a1) - (v3_88 + a1) / on * on) &&& (31 : Int32)))))))] := hD
              refine lv_iinc (v := (v3_88 + (1 : Int32))) (lv' := [(3, .int (v3_88 + (1 : Int32))), (0, .ref h0), (1, .int a1), (2, .int v2_28x)]) hx hb dX3_circle_115 hl (k := 3) rfl rfl (by decide) rfl (fun ls hl => ?_)
              refine lv_goto (tgt := 88) hx hb dX3_circle_118 (by decide) ?_
              exact ih88 _ _ _ _ _ hP hD hS hv (lv_sub hl [1, 2, 3, 0] rfl)
        obtain ⟨n88, hv⟩ := hv
        refine L88 _ (fun v3_88x z2_0_88x H locs ls hP hD hS hv hl => ?_) n88 _ _ _ _ _ hP hD hS hv (lv_sub hl [1, 2, 3, 0] rfl)
        refine lv_aload_n hx hb dX3_circle_121 rfl (lv_at hl 0 rfl) ?_
        refine lv_iload_n hx hb dX3_circle_122 rfl (lv_at hl 2 rfl) ?_
        refine kw_i (wr := []) (va_runV (As := [.int v2_28x]) (rest := []) ⟨hx, hb, hml, hown, hts⟩ (kX3_doneW l D cI cB h0 h1 h2 on oo og orl ork owl z2_0_88x ost ord oac ore okn x16_0 v2_28x _ _ hv) (cwV 1 hts gX3_circle_X3_done rfl rfl rfl (by decide +kernel) ⟨Nat.le_of_ble_eq_true rfl, Nat.le_of_ble_eq_true rfl⟩) ⟨(kPreW (As := [.ref h0, .int v2_28x]) (hP.sub (ws' := [(h0, .inr (5, [.int on, .int oo, .int og, .ref h1, .ref h2, .int ost, .int ord, .int oac, .int ore, .int okn, .int x16_0])), (h1, .inl (cI, orl, .inl ork)), (h2, .inl (cI, owl, .inl z2_0_88x))]) [0, 1, 2] rfl) (hD.sub (ws' := [(h0, .inr (5, [.int on, .int oo, .int og, .ref h1, .ref h2, .int ost, .int ord, .int oac, .int ore, .int okn, .int x16_0])), (h1, .inl (cI, orl, .inl ork)), (h2, .inl (cI, owl, .inl z2_0_88x))]) [0, 1, 2] (by decide) rfl) hK hN).1, kRecv (hP.sub (ws' := [(h0, .inr (5, [.int on, .int oo, .int og, .ref h1, .ref h2, .int ost, .int ord, .int oac, .int ore, .int okn, .int x16_0])), (h1, .inl (cI, orl, .inl ork)), (h2, .inl (cI, owl, .inl z2_0_88x))]) [0, 1, 2] rfl) hK 5 rfl rfl rfl, (kPreW (As := [.ref h0, .int v2_28x]) (hP.sub (ws' := [(h0, .inr (5, [.int on, .int oo, .int og, .ref h1, .ref h2, .int ost, .int ord, .int oac, .int ore, .int okn, .int x16_0])), (h1, .inl (cI, orl, .inl ork)), (h2, .inl (cI, owl, .inl z2_0_88x))]) [0, 1, 2] rfl) (hD.sub (ws' := [(h0, .inr (5, [.int on, .int oo, .int og, .ref h1, .ref h2, .int ost, .int ord, .int oac, .int ore, .int okn, .int x16_0])), (h1, .inl (cI, orl, .inl ork)), (h2, .inl (cI, owl, .inl z2_0_88x))]) [0, 1, 2] (by decide) rfl) hK hN).2⟩ rfl rfl hl.1 rfl (lv_room (Nat.le_of_ble_eq_true rfl)) dX3_circle_123 ⟨Nat.le_of_ble_eq_true rfl, Nat.le_of_ble_eq_true rfl⟩) hP hD hS hA [0, 1, 2] [] rfl rfl (by decide) (by decide) (fun r123 u H locs hv hP hD hS => ?_)
        obtain ⟨x123_0, rfl⟩ : ∃ z, z = u := ⟨_, rfl⟩
        have hP : va_P D vwCl [(h0, .inr (5, [.int on, .int oo, .int og, .ref h1, .ref h2, .int ost, .int ord, .int x123_0, .int ore, .int okn, .int x16_0])), (h1, .inl (cI, orl, .inl ork)), (h2, .inl (cI, owl, .inl z2_0_88x))] H := hP.sub [0, 1, 2] rfl
        have hD : va_D A [(h0, .inr (5, [.int on, .int oo, .int og, .ref h1, .ref h2, .int ost, .int ord, .int x123_0, .int ore, .int okn, .int x16_0])), (h1, .inl (cI, orl, .inl ork)), (h2, .inl (cI, owl, .inl z2_0_88x))] := hD.sub [0, 1, 2] (by decide) rfl
        refine W.widen (k := 0) (n := 0) (Nat.le_of_ble_eq_true rfl) (Nat.le_of_ble_eq_true rfl) ?_
        exact W.iret (v := r123) hx hb hr (kWi_ret (u := (x123_0, ore, x16_0, z2_0_88x)) hv hP hD hS) hS.2.2 dX3_circle_126
      · have hv := hv.2 hc
        refine lv_aload_n hx hb dX3_circle_81 rfl (lv_at hl 0 rfl) ?_
        refine kw_i (wr := []) (va_runV (As := []) (rest := []) ⟨hx, hb, hml, hown, hts⟩ (kX3_noW l D cI cB h0 h1 h2 on oo og orl ork owl oww ost ord oac ore okn x16_0 _ _ hv) (cwV 0 hts gX3_circle_X3_no rfl rfl rfl (by decide +kernel) ⟨Nat.le_of_ble_eq_true rfl, Nat.le_of_ble_eq_true rfl⟩) ⟨(kPreW (As := [.ref h0]) (hP.sub (ws' := [(h0, .inr (5, [.int on, .int oo, .int og, .ref h1, .ref h2, .int ost, .int ord, .int oac, .int ore, .int okn, .int x16_0])), (h1, .inl (cI, orl, .inl ork)), (h2, .inl (cI, owl, .inl oww))]) [0, 1, 2] rfl) (hD.sub (ws' := [(h0, .inr (5, [.int on, .int oo, .int og, .ref h1, .ref h2, .int ost, .int ord, .int oac, .int ore, .int okn, .int x16_0])), (h1, .inl (cI, orl, .inl ork)), (h2, .inl (cI, owl, .inl oww))]) [0, 1, 2] (by decide) rfl) hK hN).1, kRecv (hP.sub (ws' := [(h0, .inr (5, [.int on, .int oo, .int og, .ref h1, .ref h2, .int ost, .int ord, .int oac, .int ore, .int okn, .int x16_0])), (h1, .inl (cI, orl, .inl ork)), (h2, .inl (cI, owl, .inl oww))]) [0, 1, 2] rfl) hK 5 rfl rfl rfl, (kPreW (As := [.ref h0]) (hP.sub (ws' := [(h0, .inr (5, [.int on, .int oo, .int og, .ref h1, .ref h2, .int ost, .int ord, .int oac, .int ore, .int okn, .int x16_0])), (h1, .inl (cI, orl, .inl ork)), (h2, .inl (cI, owl, .inl oww))]) [0, 1, 2] rfl) (hD.sub (ws' := [(h0, .inr (5, [.int on, .int oo, .int og, .ref h1, .ref h2, .int ost, .int ord, .int oac, .int ore, .int okn, .int x16_0])), (h1, .inl (cI, orl, .inl ork)), (h2, .inl (cI, owl, .inl oww))]) [0, 1, 2] (by decide) rfl) hK hN).2⟩ rfl rfl hl.1 rfl (lv_room (Nat.le_of_ble_eq_true rfl)) dX3_circle_82 ⟨Nat.le_of_ble_eq_true rfl, Nat.le_of_ble_eq_true rfl⟩) hP hD hS hA [0, 1, 2] [] rfl rfl (by decide) (by decide) (fun r82 u H locs hv hP hD hS => ?_)
        obtain ⟨x82_0, rfl⟩ : ∃ z, z = u := ⟨_, rfl⟩
        have hP : va_P D vwCl [(h0, .inr (5, [.int on, .int oo, .int og, .ref h1, .ref h2, .int ost, .int ord, .int oac, .int x82_0, .int okn, .int x16_0])), (h1, .inl (cI, orl, .inl ork)), (h2, .inl (cI, owl, .inl oww))] H := hP.sub [0, 1, 2] rfl
        have hD : va_D A [(h0, .inr (5, [.int on, .int oo, .int og, .ref h1, .ref h2, .int ost, .int ord, .int oac, .int x82_0, .int okn, .int x16_0])), (h1, .inl (cI, orl, .inl ork)), (h2, .inl (cI, owl, .inl oww))] := hD.sub [0, 1, 2] (by decide) rfl
        refine W.widen (k := 0) (n := 0) (Nat.le_of_ble_eq_true rfl) (Nat.le_of_ble_eq_true rfl) ?_
        exact W.iret (v := r82) hx hb hr (kWi_ret (u := (oac, x82_0, x16_0, oww)) hv hP hD hS) hS.2.2 dX3_circle_85
    · have hv := hv.2 hc
      refine lv_iconst (v := (0 : Int32)) hx hb dX3_circle_22 (by decide) ?_
      refine W.widen (k := 0) (n := 0) (Nat.le_of_ble_eq_true rfl) (Nat.le_of_ble_eq_true rfl) ?_
      exact W.iret (v := (0 : Int32)) hx hb hr (kWi_ret (u := (oac, ore, x16_0, oww)) hv hP hD hS) hS.2.2 dX3_circle_23
  have J11 : ∀  (H : Heap) (locs : List Loc) (ls : Array Slot), va_P D vwCl [(h0, .inr (5, [.int on, .int oo, .int og, .ref h1, .ref h2, .int ost, .int ord, .int oac, .int ore, .int okn, .int oth])), (h1, .inl (cI, orl, .inl ork)), (h2, .inl (cI, owl, .inl oww))] H → va_D A [(h0, .inr (5, [.int on, .int oo, .int og, .ref h1, .ref h2, .int ost, .int ord, .int oac, .int ore, .int okn, .int oth])), (h1, .inl (cI, orl, .inl ork)), (h2, .inl (cI, owl, .inl oww))] → va_S A s.heap H locs → qX3_circleW_j11 on owl oww oac ore a1 post → lv_has ls 4 [(0, .ref h0), (1, .int a1)] → W p l e (headSpec wsX3_circle ({ frames := 2, cells := 0, slots := 0, locals := 45 })).room s m ([.ref h0, .int a1] : List Value).toArray below meth c H locs 0 0 (MQ below (va_Qi (fun (r : Int32) (u : Int32 × Int32 × Int32 × (Nat → Int32)) => post r u.1 u.2.1 u.2.2.1 u.2.2.2) (fun (u : Int32 × Int32 × Int32 × (Nat → Int32)) (t : State) => kE D A [(h0, .inr (5, [.int on, .int oo, .int og, .ref h1, .ref h2, .int ost, .int ord, .int (u.1), .int (u.2.1), .int okn, .int (u.2.2.1)])), (h1, .inl (cI, orl, .inl ork)), (h2, .inl (cI, owl, .inl (u.2.2.2)))] t) A) ([.ref h0, .int a1] : List Value).toArray s 0 0 A) (F0 m 11 ls [.ref h0]) := by
    intro  H locs ls hP hD hS hv hl
    refine lv_iconst (v := (1 : Int32)) hx hb dX3_circle_11 (by decide) ?_
    refine lv_goto (tgt := 16) hx hb dX3_circle_12 (by decide) ?_
    refine W.widen (k := 0) (n := 0) (Nat.le_of_ble_eq_true rfl) (Nat.le_of_ble_eq_true rfl) ?_
    exact J16 _ _ _ _ hP hD hS hv (lv_sub hl [0, 1] rfl)
  refine lv_if_lt (tgt := 11) hx hb dX3_circle_2 (by decide) (fun hc => ?_) (fun hc => ?_)
  · have hv := hv.1 hc
    refine W.widen (k := 0) (n := 0) (Nat.le_of_ble_eq_true rfl) (Nat.le_of_ble_eq_true rfl) ?_
    exact J11  _ _ _ hP hD hS hv (lv_sub hl [0, 1] rfl)
  · have hv := hv.2 hc
    refine lv_iload_n hx hb dX3_circle_5 rfl (lv_at hl 1 rfl) ?_
    refine lv_bipush (v := (11 : Int32)) hx hb dX3_circle_6 (by decide) ?_
    refine lv_icmp_le (tgt := 15) hx hb dX3_circle_8 (by decide) (fun hc => ?_) (fun hc => ?_)
    · have hv := hv.1 hc
      refine lv_iconst (v := (0 : Int32)) hx hb dX3_circle_15 (by decide) ?_
      refine W.widen (k := 0) (n := 0) (Nat.le_of_ble_eq_true rfl) (Nat.le_of_ble_eq_true rfl) ?_
      exact J16 _ _ _ _ hP hD hS hv (lv_sub hl [0, 1] rfl)
    · have hv := hv.2 hc
      refine W.widen (k := 0) (n := 0) (Nat.le_of_ble_eq_true rfl) (Nat.le_of_ble_eq_true rfl) ?_
      exact J11  _ _ _ hP hD hS hv (lv_sub hl [0, 1] rfl)
set_option maxHeartbeats 4000000 in
set_option maxRecDepth 100000 in
theorem kX3_strewW (l : Launch) (D : va_G) (cI cB : ClassId) (h0 : Nat) (h1 : Nat) (h2 : Nat) (on : Int32) (oo : Int32) (og : Int32) (orl : Nat) (ork : Nat → Int32) (owl : Nat) (oww : Nat → Int32) (ost : Int32) (ord : Int32) (oac : Int32) (ore : Int32) (okn : Int32) (oth : Int32) (a1 : Int32) (sz : Nat) (post : Int32 → Int32 → Int32 → Int32 → Int32 → (Nat → Int32) → (Nat → Int32) → Prop) (hv : qX3_strewW on oo og orl ork owl oww oac a1 post) : Met l yX3_strew wsX3_strew ({ frames := 2, cells := 0, slots := 0, locals := 45 }) (va_Pc [.ref h0, .int a1] (kBW D cI cB sz [(h0, .inr (5, [.int on, .int oo, .int og, .ref h1, .ref h2, .int ost, .int ord, .int oac, .int ore, .int okn, .int oth])), (h1, .inl (cI, orl, .inl ork)), (h2, .inl (cI, owl, .inl oww))])) (va_Qi (fun (r : Int32) (u : Int32 × Int32 × Int32 × Int32 × (Nat → Int32) × (Nat → Int32)) => post r u.1 u.2.1 u.2.2.1 u.2.2.2.1 u.2.2.2.2.1 u.2.2.2.2.2) (fun (u : Int32 × Int32 × Int32 × Int32 × (Nat → Int32) × (Nat → Int32)) (t : State) => kE D (va_A [(h0, .inr (5, [.int on, .int oo, .int og, .ref h1, .ref h2, .int ost, .int ord, .int oac, .int ore, .int okn, .int oth])), (h1, .inl (cI, orl, .inl ork)), (h2, .inl (cI, owl, .inl oww))] sz) [(h0, .inr (5, [.int on, .int (u.1), .int (u.2.1), .ref h1, .ref h2, .int ost, .int ord, .int (u.2.2.1), .int ore, .int okn, .int (u.2.2.2.1)])), (h1, .inl (cI, orl, .inl (u.2.2.2.2.1))), (h2, .inl (cI, owl, .inl (u.2.2.2.2.2)))] t) (va_A [(h0, .inr (5, [.int on, .int oo, .int og, .ref h1, .ref h2, .int ost, .int ord, .int oac, .int ore, .int okn, .int oth])), (h1, .inl (cI, orl, .inl ork)), (h2, .inl (cI, owl, .inl oww))] sz)) 0 0 (va_A [(h0, .inr (5, [.int on, .int oo, .int og, .ref h1, .ref h2, .int ost, .int ord, .int oac, .int ore, .int okn, .int oth])), (h1, .inl (cI, orl, .inl ork)), (h2, .inl (cI, owl, .inl oww))] sz) := by
  refine Met.ofW (cc := cX3_strew) (maxL := 4) (ret := (some .int)) (by decide) rfl ?_
  intro p e s m args below meth c s₁ B hml hv0
  obtain ⟨rfl, hsz, ⟨hP, hK, hN⟩, hD0⟩ := hv0
  have hx := B.exec
  have hb := B.bytes
  have hr := B.returns
  have hts := atoms_spec (ws := wsX3_strew) B.pre
  have hown : s.vm.findClass RX3 = some m.cls := findClass_of_methodNamed B.named
  have hlocks := B.notSynchronized
  have hi_X3 : ∀ w ∈ wsX30, w ∈ wsX3_strew := by decide +kernel
  have hF17 := hts (.fieldLink RX3 17 "RoadgameModel" "n" "I") (by decide +kernel)
  have hF20 := hts (.fieldLink RX3 20 "RoadgameModel" "ofOne" "I") (by decide +kernel)
  have hF23 := hts (.fieldLink RX3 23 "RoadgameModel" "goal" "I") (by decide +kernel)
  have hF26 := hts (.fieldLink RX3 26 "RoadgameModel" "ranks" "[I") (by decide +kernel)
  have hF30 := hts (.fieldLink RX3 30 "RoadgameModel" "ways" "[I") (by decide +kernel)
  subst hsz
  have hD := hD0.self (sz := s.heap.size)
  generalize hAe : va_A [(h0, .inr (5, [.int on, .int oo, .int og, .ref h1, .ref h2, .int ost, .int ord, .int oac, .int ore, .int okn, .int oth])), (h1, .inl (cI, orl, .inl ork)), (h2, .inl (cI, owl, .inl oww))] s.heap.size = A at hD ⊢
  have hA : ∀ q : Nat, s.heap.size ≤ q → A q := fun q h => by rw [← hAe]; exact Or.inr h
  have hS : va_S A s.heap s.heap [] := va_S.rf
  have hl := lv_entry ([.ref h0, .int a1]) (n := 4) (Nat.le_of_ble_eq_true rfl)
  rw [lg_entry_eq]
  generalize (lg_sl ([.ref h0, .int a1]) ++ List.replicate (4 - (lg_sl ([.ref h0, .int a1])).length) Slot.unset).toArray = ls at hl ⊢
  have hl : lv_has ls 4 [(0, .ref h0), (1, .int a1)] := hl
  refine lv_aload_n hx hb dX3_strew_0 rfl (lv_at hl 0 rfl) ?_
  refine lv_iload_n hx hb dX3_strew_1 rfl (lv_at hl 1 rfl) ?_
  have J17 : ∀ (s0_j17 : Int32) (H : Heap) (locs : List Loc) (ls : Array Slot), va_P D vwCl [(h0, .inr (5, [.int on, .int oo, .int og, .ref h1, .ref h2, .int ost, .int ord, .int oac, .int ore, .int okn, .int oth])), (h1, .inl (cI, orl, .inl ork)), (h2, .inl (cI, owl, .inl oww))] H → va_D A [(h0, .inr (5, [.int on, .int oo, .int og, .ref h1, .ref h2, .int ost, .int ord, .int oac, .int ore, .int okn, .int oth])), (h1, .inl (cI, orl, .inl ork)), (h2, .inl (cI, owl, .inl oww))] → va_S A s.heap H locs → qX3_strewW_j17 on oo og orl ork owl oww oac a1 s0_j17 post → lv_has ls 4 [(0, .ref h0), (1, .int a1)] → W p l e (headSpec wsX3_strew ({ frames := 2, cells := 0, slots := 0, locals := 45 })).room s m ([.ref h0, .int a1] : List Value).toArray below meth c H locs 0 0 (MQ below (va_Qi (fun (r : Int32) (u : Int32 × Int32 × Int32 × Int32 × (Nat → Int32) × (Nat → Int32)) => post r u.1 u.2.1 u.2.2.1 u.2.2.2.1 u.2.2.2.2.1 u.2.2.2.2.2) (fun (u : Int32 × Int32 × Int32 × Int32 × (Nat → Int32) × (Nat → Int32)) (t : State) => kE D A [(h0, .inr (5, [.int on, .int (u.1), .int (u.2.1), .ref h1, .ref h2, .int ost, .int ord, .int (u.2.2.1), .int ore, .int okn, .int (u.2.2.2.1)])), (h1, .inl (cI, orl, .inl (u.2.2.2.2.1))), (h2, .inl (cI, owl, .inl (u.2.2.2.2.2)))] t) A) ([.ref h0, .int a1] : List Value).toArray s 0 0 A) (F0 m 17 ls [.int s0_j17, .ref h0]) := by
    intro s0_j17 H locs ls hP hD hS hv hl
    refine kw_i (wr := []) (va_runV (As := [.int s0_j17]) (rest := []) ⟨hx, hb, hml, hown, hts⟩ (kX3_isThrown_W l D cI cB h0 h1 h2 on oo og orl ork owl oww ost ord oac ore okn oth s0_j17 _ _ hv) (cwV 1 hts gX3_strew_X3_isThrown_ rfl rfl rfl (by decide +kernel) ⟨Nat.le_of_ble_eq_true rfl, Nat.le_of_ble_eq_true rfl⟩) ⟨(kPreW (As := [.ref h0, .int s0_j17]) (hP.sub (ws' := [(h0, .inr (5, [.int on, .int oo, .int og, .ref h1, .ref h2, .int ost, .int ord, .int oac, .int ore, .int okn, .int oth])), (h1, .inl (cI, orl, .inl ork)), (h2, .inl (cI, owl, .inl oww))]) [0, 1, 2] rfl) (hD.sub (ws' := [(h0, .inr (5, [.int on, .int oo, .int og, .ref h1, .ref h2, .int ost, .int ord, .int oac, .int ore, .int okn, .int oth])), (h1, .inl (cI, orl, .inl ork)), (h2, .inl (cI, owl, .inl oww))]) [0, 1, 2] (by decide) rfl) hK hN).1, kRecv (hP.sub (ws' := [(h0, .inr (5, [.int on, .int oo, .int og, .ref h1, .ref h2, .int ost, .int ord, .int oac, .int ore, .int okn, .int oth])), (h1, .inl (cI, orl, .inl ork)), (h2, .inl (cI, owl, .inl oww))]) [0, 1, 2] rfl) hK 5 rfl rfl rfl, (kPreW (As := [.ref h0, .int s0_j17]) (hP.sub (ws' := [(h0, .inr (5, [.int on, .int oo, .int og, .ref h1, .ref h2, .int ost, .int ord, .int oac, .int ore, .int okn, .int oth])), (h1, .inl (cI, orl, .inl ork)), (h2, .inl (cI, owl, .inl oww))]) [0, 1, 2] rfl) (hD.sub (ws' := [(h0, .inr (5, [.int on, .int oo, .int og, .ref h1, .ref h2, .int ost, .int ord, .int oac, .int ore, .int okn, .int oth])), (h1, .inl (cI, orl, .inl ork)), (h2, .inl (cI, owl, .inl oww))]) [0, 1, 2] (by decide) rfl) hK hN).2⟩ rfl rfl hl.1 rfl (lv_room (Nat.le_of_ble_eq_true rfl)) dX3_strew_17 ⟨Nat.le_of_ble_eq_true rfl, Nat.le_of_ble_eq_true rfl⟩) hP hD hS hA [0, 1, 2] [] rfl rfl (by decide) (by decide) (fun r17 u H locs hv hP hD hS => ?_)
    obtain ⟨x17_0, rfl⟩ : ∃ z, z = u := ⟨_, rfl⟩
    have hP : va_P D vwCl [(h0, .inr (5, [.int on, .int oo, .int og, .ref h1, .ref h2, .int ost, .int ord, .int oac, .int ore, .int okn, .int x17_0])), (h1, .inl (cI, orl, .inl ork)), (h2, .inl (cI, owl, .inl oww))] H := hP.sub [0, 1, 2] rfl
    have hD : va_D A [(h0, .inr (5, [.int on, .int oo, .int og, .ref h1, .ref h2, .int ost, .int ord, .int oac, .int ore, .int okn, .int x17_0])), (h1, .inl (cI, orl, .inl ork)), (h2, .inl (cI, owl, .inl oww))] := hD.sub [0, 1, 2] (by decide) rfl
    refine lv_if_eq (tgt := 25) hx hb dX3_strew_20 (by decide) (fun hc => ?_) (fun hc => ?_)
    · have hv := hv.1 hc
      refine lv_aload_n hx hb dX3_strew_25 rfl (lv_at hl 0 rfl) ?_
      refine lv_iconst (v := (0 : Int32)) hx hb dX3_strew_26 (by decide) ?_
      refine va_put (D := D) (ci := 5) (v := .int (0 : Int32)) (ty := .int) (C := RX3) (T := TX3) (N := 11) hx hb hts hi_X3 tyX3 tyX3_ok nmX3 hown hK hP hD hS 0 rfl rfl 1 (by decide) hF20 (fun _ h9 => h9) rfl (by decide +kernel) rfl rfl (Nat.le_of_ble_eq_true rfl) dX3_strew_27 (fun H locs hP hD hS => ?_)
      have hP : va_P D vwCl [(h0, .inr (5, [.int on, .int (0 : Int32), .int og, .ref h1, .ref h2, .int ost, .int ord, .int oac, .int ore, .int okn, .int x17_0])), (h1, .inl (cI, orl, .inl ork)), (h2, .inl (cI, owl, .inl oww))] H := hP
      have hD : va_D A [(h0, .inr (5, [.int on, .int (0 : Int32), .int og, .ref h1, .ref h2, .int ost, .int ord, .int oac, .int ore, .int okn, .int x17_0])), (h1, .inl (cI, orl, .inl ork)), (h2, .inl (cI, owl, .inl oww))] := hD
      refine lv_aload_n hx hb dX3_strew_30 rfl (lv_at hl 0 rfl) ?_
      refine lv_iconst (v := (0 : Int32)) hx hb dX3_strew_31 (by decide) ?_
      refine va_put (D := D) (ci := 5) (v := .int (0 : Int32)) (ty := .int) (C := RX3) (T := TX3) (N := 11) hx hb hts hi_X3 tyX3 tyX3_ok nmX3 hown hK hP hD hS 0 rfl rfl 2 (by decide) hF23 (fun _ h9 => h9) rfl (by decide +kernel) rfl rfl (Nat.le_of_ble_eq_true rfl) dX3_strew_32 (fun H locs hP hD hS => ?_)
      have hP : va_P D vwCl [(h0, .inr (5, [.int on, .int (0 : Int32), .int (0 : Int32), .ref h1, .ref h2, .int ost, .int ord, .int oac, .int ore, .int okn, .int x17_0])), (h1, .inl (cI, orl, .inl ork)), (h2, .inl (cI, owl, .inl oww))] H := hP
      have hD : va_D A [(h0, .inr (5, [.int on, .int (0 : Int32), .int (0 : Int32), .ref h1, .ref h2, .int ost, .int ord, .int oac, .int ore, .int okn, .int x17_0])), (h1, .inl (cI, orl, .inl ork)), (h2, .inl (cI, owl, .inl oww))] := hD
      refine lv_iconst (v := (0 : Int32)) hx hb dX3_strew_35 (by decide) ?_
      refine lv_istore_n (lv' := [(2, .int (0 : Int32)), (0, .ref h0), (1, .int a1)]) hx hb dX3_strew_36 rfl hl (by decide) rfl (fun ls hl => ?_)
      have L37 : ∀ (K37_134 : Int32 → Int32 → Int32 → (Nat → Int32) → (Nat → Int32) → Prop), (∀ (v2_37 : Int32) (z0_1_37 : Int32) (z0_2_37 : Int32) (z1_0_37 : Nat → Int32) (z2_0_37 : Nat → Int32) (H : Heap) (locs : List Loc) (ls : Array Slot), va_P D vwCl [(h0, .inr (5, [.int on, .int z0_1_37, .int z0_2_37, .ref h1, .ref h2, .int ost, .int ord, .int oac, .int ore, .int okn, .int x17_0])), (h1, .inl (cI, orl, .inl z1_0_37)), (h2, .inl (cI, owl, .inl z2_0_37))] H → va_D A [(h0, .inr (5, [.int on, .int z0_1_37, .int z0_2_37, .ref h1, .ref h2, .int ost, .int ord, .int oac, .int ore, .int okn, .int x17_0])), (h1, .inl (cI, orl, .inl z1_0_37)), (h2, .inl (cI, owl, .inl z2_0_37))] → va_S A s.heap H locs → K37_134 v2_37 z0_1_37 z0_2_37 z1_0_37 z2_0_37 → lv_has ls 4 [(0, .ref h0), (1, .int a1), (2, .int v2_37)] → W p l e (headSpec wsX3_strew ({ frames := 2, cells := 0, slots := 0, locals := 45 })).room s m ([.ref h0, .int a1] : List Value).toArray below meth c H locs 0 0 (MQ below (va_Qi (fun (r : Int32) (u : Int32 × Int32 × Int32 × Int32 × (Nat → Int32) × (Nat → Int32)) => post r u.1 u.2.1 u.2.2.1 u.2.2.2.1 u.2.2.2.2.1 u.2.2.2.2.2) (fun (u : Int32 × Int32 × Int32 × Int32 × (Nat → Int32) × (Nat → Int32)) (t : State) => kE D A [(h0, .inr (5, [.int on, .int (u.1), .int (u.2.1), .ref h1, .ref h2, .int ost, .int ord, .int (u.2.2.1), .int ore, .int okn, .int (u.2.2.2.1)])), (h1, .inl (cI, orl, .inl (u.2.2.2.2.1))), (h2, .inl (cI, owl, .inl (u.2.2.2.2.2)))] t) A) ([.ref h0, .int a1] : List Value).toArray s 0 0 A) (F0 m 134 ls [])) → ∀ (n37 : Nat) (v2_37 : Int32) (z0_1_37 : Int32) (z0_2_37 : Int32) (z1_0_37 : Nat → Int32) (z2_0_37 : Nat → Int32) (H : Heap) (locs : List Loc) (ls : Array Slot), va_P D vwCl [(h0, .inr (5, [.int on, .int z0_1_37, .int z0_2_37, .ref h1, .ref h2, .int ost, .int ord, .int oac, .int ore, .int okn, .int x17_0])), (h1, .inl (cI, orl, .inl z1_0_37)), (h2, .inl (cI, owl, .inl z2_0_37))] H → va_D A [(h0, .inr (5, [.int on, .int z0_1_37, .int z0_2_37, .ref h1, .ref h2, .int ost, .int ord, .int oac, .int ore, .int okn, .int x17_0])), (h1, .inl (cI, orl, .inl z1_0_37)), (h2, .inl (cI, owl, .inl z2_0_37))] → va_S A s.heap H locs → qX3_strew_W37 on orl owl a1 K37_134 n37 v2_37 z0_1_37 z0_2_37 z1_0_37 z2_0_37 → lv_has ls 4 [(0, .ref h0), (1, .int a1), (2, .int v2_37)] → W p l e (headSpec wsX3_strew ({ frames := 2, cells := 0, slots := 0, locals := 45 })).room s m ([.ref h0, .int a1] : List Value).toArray below meth c H locs 0 0 (MQ below (va_Qi (fun (r : Int32) (u : Int32 × Int32 × Int32 × Int32 × (Nat → Int32) × (Nat → Int32)) => post r u.1 u.2.1 u.2.2.1 u.2.2.2.1 u.2.2.2.2.1 u.2.2.2.2.2) (fun (u : Int32 × Int32 × Int32 × Int32 × (Nat → Int32) × (Nat → Int32)) (t : State) => kE D A [(h0, .inr (5, [.int on, .int (u.1), .int (u.2.1), .ref h1, .ref h2, .int ost, .int ord, .int (u.2.2.1), .int ore, .int okn, .int (u.2.2.2.1)])), (h1, .inl (cI, orl, .inl (u.2.2.2.2.1))), (h2, .inl (cI, owl, .inl (u.2.2.2.2.2)))] t) A) ([.ref h0, .int a1] : List Value).toArray s 0 0 A) (F0 m 37 ls []) := by
        intro K37_134 hk37_134
        intro n37
        induction n37 with
        | zero => intro v2_37 z0_1_37 z0_2_37 z1_0_37 z2_0_37 H locs ls hP hD hS hv hl; exact hv.elim
        | succ n37 ih37 =>
          intro v2_37 z0_1_37 z0_2_37 z1_0_37 z2_0_37 H locs ls hP hD hS hv hl
          refine lv_iload_n hx hb dX3_strew_37 rfl (lv_at hl 2 rfl) ?_
          refine lv_aload_n hx hb dX3_strew_38 rfl (lv_at hl 0 rfl) ?_
          refine va_get (D := D) (ci := 5) (v := .int on) (C := RX3) (T := TX3) (N := 11) hx hb hts hi_X3 hown hK hP 0 rfl rfl 0 (by decide) hF17 (fun _ h9 => h9) rfl dX3_strew_39 ?_
          refine lv_icmp_ge (tgt := 134) hx hb dX3_strew_42 (by decide) (fun hc => ?_) (fun hc => ?_)
          · have hv := hv.1 hc
            exact hk37_134 _ _ _ _ _ _ _ _ hP hD hS hv (lv_sub hl [0, 1, 2] rfl)
          · have hv := hv.2 hc
            refine lv_iload_n hx hb dX3_strew_45 rfl (lv_at hl 1 rfl) ?_
            refine lv_bipush (v := (7 : Int32)) hx hb dX3_strew_46 (by decide) ?_
            refine lv_iload_n hx hb dX3_strew_48 rfl (lv_at hl 2 rfl) ?_
            refine lv_imul hx hb dX3_strew_49 ?_
            refine lv_iadd hx hb dX3_strew_50 ?_
            refine lv_iload_n hx hb dX3_strew_51 rfl (lv_at hl 2 rfl) ?_
            refine lv_iload_n hx hb dX3_strew_52 rfl (lv_at hl 2 rfl) ?_
            refine lv_imul hx hb dX3_strew_53 ?_
            refine lv_iadd hx hb dX3_strew_54 ?_
            refine lv_istore_n (lv' := [(3, .int ((a1 + ((7 : Int32) * v2_37)) + (v2_37 * v2_37))), (0, .ref h0), (1, .int a1), (2, .int v2_37)]) hx hb dX3_strew_55 rfl hl (by decide) rfl (fun ls hl => ?_)
            refine lv_aload_n hx hb dX3_strew_56 rfl (lv_at hl 1 rfl) ?_
            refine lv_dup hx hb dX3_strew_57 rfl ?_
            refine va_get (D := D) (ci := 5) (v := .int z0_1_37) (C := RX3) (T := TX3) (N := 11) hx hb hts hi_X3 hown hK hP 0 rfl rfl 1 (by decide) hF20 (fun _ h9 => h9) rfl dX3_strew_58 ?_
            refine lv_iload_n hx hb dX3_strew_61 rfl (lv_at hl 0 rfl) ?_
            refine lv_iconst (v := (2 : Int32)) hx hb dX3_strew_62 (by decide) ?_
            refine lv_irem hx hb dX3_strew_63 (by decide) ?_
            refine lv_iload_n hx hb dX3_strew_64 rfl (lv_at hl 3 rfl) ?_
            refine lv_ishl hx hb dX3_strew_65 ?_
            refine lv_ior hx hb dX3_strew_66 ?_
            refine va_put (D := D) (ci := 5) (v := .int (z0_1_37 ||| ((((a1 + ((7 : Int32) * v2_37)) + (v2_37 * v2_37)) - ((a1 + ((7 : Int32) * v2_37)) + (v2_37 * v2_37)) / (2 : Int32) * (2 : Int32)) <<< (v2_37 &&& (31 : Int32))))) (ty := .int) (C := RX3) (T := TX3) (N := 11) hx hb hts hi_X3 tyX3 tyX3_ok nmX3 hown hK hP hD hS 0 rfl rfl 1 (by decide) hF20 (fun _ h9 => h9) rfl (by decide +kernel) rfl rfl (Nat.le_of_ble_eq_true rfl) dX3_strew_67 (fun H locs hP hD hS => ?_)
            have hP : va_P D vwCl [(h0, .inr (5, [.int on, .int (z0_1_37 ||| ((((a1 + ((7 : Int32) * v2_37)) + (v2_37 * v2_37)) - ((a1 + ((7 : Int32) * v2_37)) + (v2_37 * v2_37)) / (2 : Int32) * (2 : Int32)) <<< (v2_37 &&& (31 : Int32)))), .int z0_2_37, .ref h1, .ref h2, .int ost, .int ord, .int oac, .int ore, .int okn, .int x17_0])), (h1, .inl (cI, orl, .inl z1_0_37)), (h2, .inl (cI, owl, .inl z2_0_37))] H := hP
            have hD : va_D A [(h0, .inr (5, [.int on, .int (z0_1_37 ||| ((((a1 + ((7 : Int32) * v2_37)) + (v2_37 * v2_37)) - ((a1 + ((7 : Int32) * v2_37)) + (v2_37 * v2_37)) / (2 : Int32) * (2 : Int32)) <<< (v2_37 &&& (31 : Int32)))), .int z0_2_37, .ref h1, .ref h2, .int ost, .int ord, .int oac, .int ore, .int okn, .int x17_0])), (h1, .inl (cI, orl, .inl z1_0_37)), (h2, .inl (cI, owl, .inl z2_0_37))] := hD
            refine lv_aload_n hx hb dX3_strew_70 rfl (lv_at hl 1 rfl) ?_
            refine va_get (D := D) (ci := 5) (v := .ref h1) (C := RX3) (T := TX3) (N := 11) hx hb hts hi_X3 hown hK hP 0 rfl rfl 3 (by decide) hF26 (fun _ h9 => h9) rfl dX3_strew_71 ?_
            refine lv_iload_n hx hb dX3_strew_74 rfl (lv_at hl 3 rfl) ?_
            refine lv_iload_n hx hb dX3_strew_75 rfl (lv_at hl 0 rfl) ?_
            refine lv_iconst (v := (3 : Int32)) hx hb dX3_strew_76 (by decide) ?_
            refine lv_irem hx hb dX3_strew_77 (by decide) ?_
            obtain ⟨hq, hv⟩ := hv
            refine va_iast hx hb hK hP hD hS 1 0 rfl rfl hq dX3_strew_78 (fun H locs hP hD hS => ?_)
            have hP : va_P D vwCl [(h0, .inr (5, [.int on, .int (z0_1_37 ||| ((((a1 + ((7 : Int32) * v2_37)) + (v2_37 * v2_37)) - ((a1 + ((7 : Int32) * v2_37)) + (v2_37 * v2_37)) / (2 : Int32) * (2 : Int32)) <<< (v2_37 &&& (31 : Int32)))), .int z0_2_37, .ref h1, .ref h2, .int ost, .int ord, .int oac, .int ore, .int okn, .int x17_0])), (h1, .inl (cI, orl, .inl (upd z1_0_37 v2_37.toNatClampNeg (((a1 + ((7 : Int32) * v2_37)) + (v2_37 * v2_37)) - ((a1 + ((7 : Int32) * v2_37)) + (v2_37 * v2_37)) / (3 : Int32) * (3 : Int32))))), (h2, .inl (cI, owl, .inl z2_0_37))] H := hP
            have hD : va_D A [(h0, .inr (5, [.int on, .int (z0_1_37 ||| ((((a1 + ((7 : Int32) * v2_37)) + (v2_37 * v2_37)) - ((a1 + ((7 : Int32) * v2_37)) + (v2_37 * v2_37)) / (2 : Int32) * (2 : Int32)) <<< (v2_37 &&& (31 : Int32)))), .int z0_2_37, .ref h1, .ref h2, .int ost, .int ord, .int oac, .int ore, .int okn, .int x17_0])), (h1, .inl (cI, orl, .inl (upd z1_0_37 v2_37.toNatClampNeg (((a1 + ((7 : Int32) * v2_37)) + (v2_37 * v2_37)) - ((a1 + ((7 : Int32) * v2_37)) + (v2_37 * v2_37)) / (3 : Int32) * (3 : Int32))))), (h2, .inl (cI, owl, .inl z2_0_37))] := hD
            refine lv_aload_n hx hb dX3_strew_79 rfl (lv_at hl 1 rfl) ?_
            refine lv_dup hx hb dX3_strew_80 rfl ?_
            refine va_get (D := D) (ci := 5) (v := .int z0_2_37) (C := RX3) (T := TX3) (N := 11) hx hb hts hi_X3 hown hK hP 0 rfl rfl 2 (by decide) hF23 (fun _ h9 => h9) rfl dX3_strew_81 ?_
            refine lv_iload_n hx hb dX3_strew_84 rfl (lv_at hl 0 rfl) ?_
            refine lv_iconst (v := (5 : Int32)) hx hb dX3_strew_85 (by decide) ?_
            refine lv_irem hx hb dX3_strew_86 (by decide) ?_
            refine lv_if_ne (tgt := 96) hx hb dX3_strew_87 (by decide) (fun hc => ?_) (fun hc => ?_)
            · have hv := hv.1 hc
              refine lv_iconst (v := (0 : Int32)) hx hb dX3_strew_96 (by decide) ?_
              refine lv_ior hx hb dX3_strew_97 ?_
              refine va_put (D := D) (ci := 5) (v := .int (z0_2_37 ||| (0 : Int32))) (ty := .int) (C := RX3) (T := TX3) (N := 11) hx hb hts hi_X3 tyX3 tyX3_ok nmX3 hown hK hP hD hS 0 rfl rfl 2 (by decide) hF23 (fun _ h9 => h9) rfl (by decide +kernel) rfl rfl (Nat.le_of_ble_eq_true rfl) dX3_strew_98 (fun H locs hP hD hS => ?_)
              have hP : va_P D vwCl [(h0, .inr (5, [.int on, .int (z0_1_37 ||| ((((a1 + ((7 : Int32) * v2_37)) + (v2_37 * v2_37)) - ((a1 + ((7 : Int32) * v2_37)) + (v2_37 * v2_37)) / (2 : Int32) * (2 : Int32)) <<< (v2_37 &&& (31 : Int32)))), .int (z0_2_37 ||| (0 : Int32)), .ref h1, .ref h2, .int ost, .int ord, .int oac, .int ore, .int okn, .int x17_0])), (h1, .inl (cI, orl, .inl (upd z1_0_37 v2_37.toNatClampNeg (((a1 + ((7 : Int32) * v2_37)) + (v2_37 * v2_37)) - ((a1 + ((7 : Int32) * v2_37)) + (v2_37 * v2_37)) / (3 : Int32) * (3 : Int32))))), (h2, .inl (cI, owl, .inl z2_0_37))] H := hP
              have hD : va_D A [(h0, .inr (5, [.int on, .int (z0_1_37 ||| ((((a1 + ((7 : Int32) * v2_37)) + (v2_37 * v2_37)) - ((a1 + ((7 : Int32) * v2_37)) + (v2_37 * v2_37)) / (2 : Int32) * (2 : Int32)) <<< (v2_37 &&& (31 : Int32)))), .int (z0_2_37 ||| (0 : Int32)), .ref h1, .ref h2, .int ost, .int ord, .int oac, .int ore, .int okn, .int x17_0])), (h1, .inl (cI, orl, .inl (upd z1_0_37 v2_37.toNatClampNeg (((a1 + ((7 : Int32) * v2_37)) + (v2_37 * v2_37)) - ((a1 + ((7 : Int32) * v2_37)) + (v2_37 * v2_37)) / (3 : Int32) * (3 : Int32))))), (h2, .inl (cI, owl, .inl z2_0_37))] := hD
              refine lv_aload_n hx hb dX3_strew_101 rfl (lv_at hl 1 rfl) ?_
              refine va_get (D := D) (ci := 5) (v := .ref h2) (C := RX3) (T := TX3) (N := 11) hx hb hts hi_X3 hown hK hP 0 rfl rfl 4 (by decide) hF30 (fun _ h9 => h9) rfl dX3_strew_102 ?_
              refine lv_iload_n hx hb dX3_strew_105 rfl (lv_at hl 3 rfl) ?_
              refine lv_iconst (v := (1 : Int32)) hx hb dX3_strew_106 (by decide) ?_
              refine lv_iload_n hx hb dX3_strew_107 rfl (lv_at hl 0 rfl) ?_
              refine lv_aload_n hx hb dX3_strew_108 rfl (lv_at hl 1 rfl) ?_
              refine va_get (D := D) (ci := 5) (v := .int on) (C := RX3) (T := TX3) (N := 11) hx hb hts hi_X3 hown hK hP 0 rfl rfl 0 (by decide) hF17 (fun _ h9 => h9) rfl dX3_strew_109 ?_
              obtain ⟨hq, hv⟩ := hv
              refine lv_irem hx hb dX3_strew_112 hq ?_
              refine lv_ishl hx hb dX3_strew_113 ?_
              refine lv_iconst (v := (1 : Int32)) hx hb dX3_strew_114 (by decide) ?_
              refine lv_iconst (v := (3 : Int32)) hx hb dX3_strew_115 (by decide) ?_
              refine lv_iload_n hx hb dX3_strew_116 rfl (lv_at hl 0 rfl) ?_
              refine lv_imul hx hb dX3_strew_117 ?_
              refine lv_iload_n hx hb dX3_strew_118 rfl (lv_at hl 3 rfl) ?_
              refine lv_iadd hx hb dX3_strew_119 ?_
              refine lv_aload_n hx hb dX3_strew_120 rfl (lv_at hl 1 rfl) ?_
              refine va_get (D := D) (ci := 5) (v := .int on) (C := RX3) (T := TX3) (N := 11) hx hb hts hi_X3 hown hK hP 0 rfl rfl 0 (by decide) hF17 (fun _ h9 => h9) rfl dX3_strew_121 ?_
              obtain ⟨hq, hv⟩ := hv
              refine lv_irem hx hb dX3_strew_124 hq ?_
              refine lv_ishl hx hb dX3_strew_125 ?_
              refine lv_ior hx hb dX3_strew_126 ?_
              obtain ⟨hq, hv⟩ := hv
              refine va_iast hx hb hK hP hD hS 2 0 rfl rfl hq dX3_strew_127 (fun H locs hP hD hS => ?_)
              have hP : va_P D vwCl [(h0, .inr (5, [.int on, .int (z0_1_37 ||| ((((a1 + ((7 : Int32) * v2_37)) + (v2_37 * v2_37)) - ((a1 + ((7 : Int32) * v2_37)) + (v2_37 * v2_37)) / (2 : Int32) * (2 : Int32)) <<< (v2_37 &&& (31 : Int32)))), .int (z0_2_37 ||| (0 : Int32)), .ref h1, .ref h2, .int ost, .int ord, .int oac, .int ore, .int okn, .int x17_0])), (h1, .inl (cI, orl, .inl (upd z1_0_37 v2_37.toNatClampNeg (((a1 + ((7 : Int32) * v2_37)) + (v2_37 * v2_37)) - ((a1 + ((7 : Int32) * v2_37)) + (v2_37 * v2_37)) / (3 : Int32) * (3 : Int32))))), (h2, .inl (cI, owl, .inl (upd z2_0_37 v2_37.toNatClampNeg (((1 : Int32) <<< ((((a1 + ((7 : Int32) * v2_37)) + (v2_37 * v2_37)) - ((a1 + ((7 : Int32) * v2_37)) + (v2_37 * v2_37)) / on * on) &&& (31 : Int32))) ||| ((1 : Int32) <<< (((((3 : Int32) * ((a1 + ((7 : Int32) * v2_37)) + (v2_37 * v2_37))) + v2_37) - (((3 : Int32) * ((a1 + ((7 : Int32) * v2_37)) + (v2_37 * v2_37))) + v2_37) / on * on) &&& (31 : Int32)))))))] H := hP
              have hD : va_D A [(h0, .inr (5, [.int on, .int (z0_1_37 ||| ((((a1 + ((7 : Int32) * v2_37)) + (v2_37 * v2_37)) - ((a1 + ((7 : Int32) * v2_37)) + (v2_37 * v2_37)) / (2 : Int32) * (2 : Int32)) <<< (v2_37 &&& (31 : Int32)))), .int (z0_2_37 ||| (0 : Int32)), .ref h1, .ref h2, .int ost, .int ord, .int oac, .int ore, .int okn, .int x17_0])), (h1, .inl (cI, orl, .inl (upd z1_0_37 v2_37.toNatClampNeg (((a1 + ((7 : Int32) * v2_37)) + (v2_37 * v2_37)) - ((a1 + ((7 : Int32) * v2_37)) + (v2_37 * v2_37)) / (3 : Int32) * (3 : Int32))))), (h2, .inl (cI, owl, .inl (upd z2_0_37 v2_37.toNatClampNeg (((1 : Int32) <<< ((((a1 + ((7 : Int32) * v2_37)) + (v2_37 * v2_37)) - ((a1 + ((7 : Int32) * v2_37)) + (v2_37 * v2_37)) / on * on) &&& (31 : Int32))) ||| ((1 : Int32) <<< (((((3 : Int32) * ((a1 + ((7 : Int32) * v2_37)) + (v2_37 * v2_37))) + v2_37) - (((3 : Int32) * ((a1 + ((7 : Int32) * v2_37)) + (v2_37 * v2_37))) + v2_37) / on * on) &&& (31 : Int32)))))))] := hD
              refine lv_iinc (v := (v2_37 + (1 : Int32))) (lv' := [(2, .int (v2_37 + (1 : Int32))), (3, .int ((a1 + ((7 : Int32) * v2_37)) + (v2_37 * v2_37))), (0, .ref h0), (1, .int a1)]) hx hb dX3_strew_128 hl (k := 3) rfl rfl (by decide) rfl (fun ls hl => ?_)
              refine lv_goto (tgt := 37) hx hb dX3_strew_131 (by decide) ?_
              exact ih37 _ _ _ _ _ _ _ _ hP hD hS hv (lv_sub hl [2, 3, 0] rfl)
            · have hv := hv.2 hc
              refine lv_iconst (v := (1 : Int32)) hx hb dX3_strew_90 (by decide) ?_
              refine lv_iload_n hx hb dX3_strew_91 rfl (lv_at hl 3 rfl) ?_
              refine lv_ishl hx hb dX3_strew_92 ?_
              refine lv_goto (tgt := 97) hx hb dX3_strew_93 (by decide) ?_
              refine lv_ior hx hb dX3_strew_97 ?_
              refine va_put (D := D) (ci := 5) (v := .int (z0_2_37 ||| ((1 : Int32) <<< (v2_37 &&& (31 : Int32))))) (ty := .int) (C := RX3) (T := TX3) (N := 11) hx hb hts hi_X3 tyX3 tyX3_ok nmX3 hown hK hP hD hS 0 rfl rfl 2 (by decide) hF23 (fun _ h9 => h9) rfl (by decide +kernel) rfl rfl (Nat.le_of_ble_eq_true rfl) dX3_strew_98 (fun H locs hP hD hS => ?_)
              have hP : va_P D vwCl [(h0, .inr (5, [.int on, .int (z0_1_37 ||| ((((a1 + ((7 : Int32) * v2_37)) + (v2_37 * v2_37)) - ((a1 + ((7 : Int32) * v2_37)) + (v2_37 * v2_37)) / (2 : Int32) * (2 : Int32)) <<< (v2_37 &&& (31 : Int32)))), .int (z0_2_37 ||| ((1 : Int32) <<< (v2_37 &&& (31 : Int32)))), .ref h1, .ref h2, .int ost, .int ord, .int oac, .int ore, .int okn, .int x17_0])), (h1, .inl (cI, orl, .inl (upd z1_0_37 v2_37.toNatClampNeg (((a1 + ((7 : Int32) * v2_37)) + (v2_37 * v2_37)) - ((a1 + ((7 : Int32) * v2_37)) + (v2_37 * v2_37)) / (3 : Int32) * (3 : Int32))))), (h2, .inl (cI, owl, .inl z2_0_37))] H := hP
              have hD : va_D A [(h0, .inr (5, [.int on, .int (z0_1_37 ||| ((((a1 + ((7 : Int32) * v2_37)) + (v2_37 * v2_37)) - ((a1 + ((7 : Int32) * v2_37)) + (v2_37 * v2_37)) / (2 : Int32) * (2 : Int32)) <<< (v2_37 &&& (31 : Int32)))), .int (z0_2_37 ||| ((1 : Int32) <<< (v2_37 &&& (31 : Int32)))), .ref h1, .ref h2, .int ost, .int ord, .int oac, .int ore, .int okn, .int x17_0])), (h1, .inl (cI, orl, .inl (upd z1_0_37 v2_37.toNatClampNeg (((a1 + ((7 : Int32) * v2_37)) + (v2_37 * v2_37)) - ((a1 + ((7 : Int32) * v2_37)) + (v2_37 * v2_37)) / (3 : Int32) * (3 : Int32))))), (h2, .inl (cI, owl, .inl z2_0_37))] := hD
              refine lv_aload_n hx hb dX3_strew_101 rfl (lv_at hl 1 rfl) ?_
              refine va_get (D := D) (ci := 5) (v := .ref h2) (C := RX3) (T := TX3) (N := 11) hx hb hts hi_X3 hown hK hP 0 rfl rfl 4 (by decide) hF30 (fun _ h9 => h9) rfl dX3_strew_102 ?_
              refine lv_iload_n hx hb dX3_strew_105 rfl (lv_at hl 3 rfl) ?_
              refine lv_iconst (v := (1 : Int32)) hx hb dX3_strew_106 (by decide) ?_
              refine lv_iload_n hx hb dX3_strew_107 rfl (lv_at hl 0 rfl) ?_
              refine lv_aload_n hx hb dX3_strew_108 rfl (lv_at hl 1 rfl) ?_
              refine va_get (D := D) (ci := 5) (v := .int on) (C := RX3) (T := TX3) (N := 11) hx hb hts hi_X3 hown hK hP 0 rfl rfl 0 (by decide) hF17 (fun _ h9 => h9) rfl dX3_strew_109 ?_
              obtain ⟨hq, hv⟩ := hv
              refine lv_irem hx hb dX3_strew_112 hq ?_
              refine lv_ishl hx hb dX3_strew_113 ?_
              refine lv_iconst (v := (1 : Int32)) hx hb dX3_strew_114 (by decide) ?_
              refine lv_iconst (v := (3 : Int32)) hx hb dX3_strew_115 (by decide) ?_
              refine lv_iload_n hx hb dX3_strew_116 rfl (lv_at hl 0 rfl) ?_
              refine lv_imul hx hb dX3_strew_117 ?_
              refine lv_iload_n hx hb dX3_strew_118 rfl (lv_at hl 3 rfl) ?_
              refine lv_iadd hx hb dX3_strew_119 ?_
              refine lv_aload_n hx hb dX3_strew_120 rfl (lv_at hl 1 rfl) ?_
              refine va_get (D := D) (ci := 5) (v := .int on) (C := RX3) (T := TX3) (N := 11) hx hb hts hi_X3 hown hK hP 0 rfl rfl 0 (by decide) hF17 (fun _ h9 => h9) rfl dX3_strew_121 ?_
              obtain ⟨hq, hv⟩ := hv
              refine lv_irem hx hb dX3_strew_124 hq ?_
              refine lv_ishl hx hb dX3_strew_125 ?_
              refine lv_ior hx hb dX3_strew_126 ?_
              obtain ⟨hq, hv⟩ := hv
              refine va_iast hx hb hK hP hD hS 2 0 rfl rfl hq dX3_strew_127 (fun H locs hP hD hS => ?_)
              have hP : va_P D vwCl [(h0, .inr (5, [.int on, .int (z0_1_37 ||| ((((a1 + ((7 : Int32) * v2_37)) + (v2_37 * v2_37)) - ((a1 + ((7 : Int32) * v2_37)) + (v2_37 * v2_37)) / (2 : Int32) * (2 : Int32)) <<< (v2_37 &&& (31 : Int32)))), .int (z0_2_37 ||| ((1 : Int32) <<< (v2_37 &&& (31 : Int32)))), .ref h1, .ref h2, .int ost, .int ord, .int oac, .int ore, .int okn, .int x17_0])), (h1, .inl (cI, orl, .inl (upd z1_0_37 v2_37.toNatClampNeg (((a1 + ((7 : Int32) * v2_37)) + (v2_37 * v2_37)) - ((a1 + ((7 : Int32) * v2_37)) + (v2_37 * v2_37)) / (3 : Int32) * (3 : Int32))))), (h2, .inl (cI, owl, .inl (upd z2_0_37 v2_37.toNatClampNeg (((1 : Int32) <<< ((((a1 + ((7 : Int32) * v2_37)) + (v2_37 * v2_37)) - ((a1 + ((7 : Int32) * v2_37)) + (v2_37 * v2_37)) / on * on) &&& (31 : Int32))) ||| ((1 : Int32) <<< (((((3 : Int32) * ((a1 + ((7 : Int32) * v2_37)) + (v2_37 * v2_37))) + v2_37) - (((3 : Int32) * ((a1 + ((7 : Int32) * v2_37)) + (v2_37 * v2_37))) + v2_37) / on * on) &&& (31 : Int32)))))))] H := hP
              have hD : va_D A [(h0, .inr (5, [.int on, .int (z0_1_37 ||| ((((a1 + ((7 : Int32) * v2_37)) + (v2_37 * v2_37)) - ((a1 + ((7 : Int32) * v2_37)) + (v2_37 * v2_37)) / (2 : Int32) * (2 : Int32)) <<< (v2_37 &&& (31 : Int32)))), .int (z0_2_37 ||| ((1 : Int32) <<< (v2_37 &&& (31 : Int32)))), .ref h1, .ref h2, .int ost, .int ord, .int oac, .int ore, .int okn, .int x17_0])), (h1, .inl (cI, orl, .inl (upd z1_0_37 v2_37.toNatClampNeg (((a1 + ((7 : Int32) * v2_37)) + (v2_37 * v2_37)) - ((a1 + ((7 : Int32) * v2_37)) + (v2_37 * v2_37)) / (3 : Int32) * (3 : Int32))))), (h2, .inl (cI, owl, .inl (upd z2_0_37 v2_37.toNatClampNeg (((1 : Int32) <<< ((((a1 + ((7 : Int32) * v2_37)) + (v2_37 * v2_37)) - ((a1 + ((7 : Int32) * v2_37)) + (v2_37 * v2_37)) / on * on) &&& (31 : Int32))) ||| ((1 : Int32) <<< (((((3 : Int32) * ((a1 + ((7 : Int32) * v2_37)) + (v2_37 * v2_37))) + v2_37) - (((3 : Int32) * ((a1 + ((7 : Int32) * v2_37)) + (v2_37 * v2_37))) + v2_37) / on * on) &&& (31 : Int32)))))))] := hD
              refine lv_iinc (v := (v2_37 + (1 : Int32))) (lv' := [(2, .int (v2_37 + (1 : Int32))), (3, .int ((a1 + ((7 : Int32) * v2_37)) + (v2_37 * v2_37))), (0, .ref h0), (1, .int a1)]) hx hb dX3_strew_128 hl (k := 3) rfl rfl (by decide) rfl (fun ls hl => ?_)
              refine lv_goto (tgt := 37) hx hb dX3_strew_131 (by decide) ?_
              exact ih37 _ _ _ _ _ _ _ _ hP hD hS hv (lv_sub hl [2, 3, 0] rfl)
      obtain ⟨n37, hv⟩ := hv
      refine L37 _ (fun v2_37x z0_1_37x z0_2_37x z1_0_37x z2_0_37x H locs ls hP hD hS hv hl => ?_) n37 _ _ _ _ _ _ _ _ hP hD hS hv (lv_sub hl [1, 2, 0] rfl)
      refine lv_aload_n hx hb dX3_strew_134 rfl (lv_at hl 0 rfl) ?_
      refine lv_aload_n hx hb dX3_strew_135 rfl (lv_at hl 0 rfl) ?_
      refine kc_V (As := []) (rest := [.ref h0]) ⟨hx, hb, hml, hown, hts⟩ (kX3_waysNow l D cI cB h0 h1 h2 on z0_1_37x z0_2_37x orl z1_0_37x owl z2_0_37x ost ord oac ore okn x17_0 _ hv) (cwV 0 hts gX3_strew_X3_waysNow rfl rfl rfl (by decide +kernel) ⟨Nat.le_of_ble_eq_true rfl, Nat.le_of_ble_eq_true rfl⟩) hP hK hN 5 rfl rfl rfl rfl hl.1 rfl (Nat.le_of_ble_eq_true rfl) dX3_strew_136 ⟨Nat.le_of_ble_eq_true rfl, Nat.le_of_ble_eq_true rfl⟩ (fun r136 hv => ?_)
      refine kw_i (wr := []) (va_runV (As := [.int r136]) (rest := []) ⟨hx, hb, hml, hown, hts⟩ (kX3_doneW l D cI cB h0 h1 h2 on z0_1_37x z0_2_37x orl z1_0_37x owl z2_0_37x ost ord oac ore okn x17_0 r136 _ _ hv) (cwV 1 hts gX3_strew_X3_done rfl rfl rfl (by decide +kernel) ⟨Nat.le_of_ble_eq_true rfl, Nat.le_of_ble_eq_true rfl⟩) ⟨(kPreW (As := [.ref h0, .int r136]) (hP.sub (ws' := [(h0, .inr (5, [.int on, .int z0_1_37x, .int z0_2_37x, .ref h1, .ref h2, .int ost, .int ord, .int oac, .int ore, .int okn, .int x17_0])), (h1, .inl (cI, orl, .inl z1_0_37x)), (h2, .inl (cI, owl, .inl z2_0_37x))]) [0, 1, 2] rfl) (hD.sub (ws' := [(h0, .inr (5, [.int on, .int z0_1_37x, .int z0_2_37x, .ref h1, .ref h2, .int ost, .int ord, .int oac, .int ore, .int okn, .int x17_0])), (h1, .inl (cI, orl, .inl z1_0_37x)), (h2, .inl (cI, owl, .inl z2_0_37x))]) [0, 1, 2] (by decide) rfl) hK hN).1, kRecv (hP.sub (ws' := [(h0, .inr (5, [.int on, .int z0_1_37x, .int z0_2_37x, .ref h1, .ref h2, .int ost, .int ord, .int oac, .int ore, .int okn, .int x17_0])), (h1, .inl (cI, orl, .inl z1_0_37x)), (h2, .inl (cI, owl, .inl z2_0_37x))]) [0, 1, 2] rfl) hK 5 rfl rfl rfl, (kPreW (As := [.ref h0, .int r136]) (hP.sub (ws' := [(h0, .inr (5, [.int on, .int z0_1_37x, .int z0_2_37x, .ref h1, .ref h2, .int ost, .int ord, .int oac, .int ore, .int okn, .int x17_0])), (h1, .inl (cI, orl, .inl z1_0_37x)), (h2, .inl (cI, owl, .inl z2_0_37x))]) [0, 1, 2] rfl) (hD.sub (ws' := [(h0, .inr (5, [.int on, .int z0_1_37x, .int z0_2_37x, .ref h1, .ref h2, .int ost, .int ord, .int oac, .int ore, .int okn, .int x17_0])), (h1, .inl (cI, orl, .inl z1_0_37x)), (h2, .inl (cI, owl, .inl z2_0_37x))]) [0, 1, 2] (by decide) rfl) hK hN).2⟩ rfl rfl hl.1 rfl (lv_room (Nat.le_of_ble_eq_true rfl)) dX3_strew_139 ⟨Nat.le_of_ble_eq_true rfl, Nat.le_of_ble_eq_true rfl⟩) hP hD hS hA [0, 1, 2] [] rfl rfl (by decide) (by decide) (fun r139 u H locs hv hP hD hS => ?_)
      obtain ⟨x139_0, rfl⟩ : ∃ z, z = u := ⟨_, rfl⟩
      have hP : va_P D vwCl [(h0, .inr (5, [.int on, .int z0_1_37x, .int z0_2_37x, .ref h1, .ref h2, .int ost, .int ord, .int x139_0, .int ore, .int okn, .int x17_0])), (h1, .inl (cI, orl, .inl z1_0_37x)), (h2, .inl (cI, owl, .inl z2_0_37x))] H := hP.sub [0, 1, 2] rfl
      have hD : va_D A [(h0, .inr (5, [.int on, .int z0_1_37x, .int z0_2_37x, .ref h1, .ref h2, .int ost, .int ord, .int x139_0, .int ore, .int okn, .int x17_0])), (h1, .inl (cI, orl, .inl z1_0_37x)), (h2, .inl (cI, owl, .inl z2_0_37x))] := hD.sub [0, 1, 2] (by decide) rfl
      refine W.widen (k := 0) (n := 0) (Nat.le_of_ble_eq_true rfl) (Nat.le_of_ble_eq_true rfl) ?_
      exact W.iret (v := r139) hx hb hr (kWi_ret (u := (z0_1_37x, z0_2_37x, x139_0, x17_0, z1_0_37x, z2_0_37x)) hv hP hD hS) hS.2.2 dX3_strew_142
    · have hv := hv.2 hc
      refine lv_iconst (v := (0 : Int32)) hx hb dX3_strew_23 (by decide) ?_
      refine W.widen (k := 0) (n := 0) (Nat.le_of_ble_eq_true rfl) (Nat.le_of_ble_eq_true rfl) ?_
      exact W.iret (v := (0 : Int32)) hx hb hr (kWi_ret (u := (oo, og, oac, x17_0, ork, oww)) hv hP hD hS) hS.2.2 dX3_strew_24
  have J12 : ∀  (H : Heap) (locs : List Loc) (ls : Array Slot), va_P D vwCl [(h0, .inr (5, [.int on, .int oo, .int og, .ref h1, .ref h2, .int ost, .int ord, .int oac, .int ore, .int okn, .int oth])), (h1, .inl (cI, orl, .inl ork)), (h2, .inl (cI, owl, .inl oww))] H → va_D A [(h0, .inr (5, [.int on, .int oo, .int og, .ref h1, .ref h2, .int ost, .int ord, .int oac, .int ore, .int okn, .int oth])), (h1, .inl (cI, orl, .inl ork)), (h2, .inl (cI, owl, .inl oww))] → va_S A s.heap H locs → qX3_strewW_j12 on oo og orl ork owl oww oac a1 post → lv_has ls 4 [(0, .ref h0), (1, .int a1)] → W p l e (headSpec wsX3_strew ({ frames := 2, cells := 0, slots := 0, locals := 45 })).room s m ([.ref h0, .int a1] : List Value).toArray below meth c H locs 0 0 (MQ below (va_Qi (fun (r : Int32) (u : Int32 × Int32 × Int32 × Int32 × (Nat → Int32) × (Nat → Int32)) => post r u.1 u.2.1 u.2.2.1 u.2.2.2.1 u.2.2.2.2.1 u.2.2.2.2.2) (fun (u : Int32 × Int32 × Int32 × Int32 × (Nat → Int32) × (Nat → Int32)) (t : State) => kE D A [(h0, .inr (5, [.int on, .int (u.1), .int (u.2.1), .ref h1, .ref h2, .int ost, .int ord, .int (u.2.2.1), .int ore, .int okn, .int (u.2.2.2.1)])), (h1, .inl (cI, orl, .inl (u.2.2.2.2.1))), (h2, .inl (cI, owl, .inl (u.2.2.2.2.2)))] t) A) ([.ref h0, .int a1] : List Value).toArray s 0 0 A) (F0 m 12 ls [.ref h0]) := by
    intro  H locs ls hP hD hS hv hl
    refine lv_iconst (v := (1 : Int32)) hx hb dX3_strew_12 (by decide) ?_
    refine lv_goto (tgt := 17) hx hb dX3_strew_13 (by decide) ?_
    refine W.widen (k := 0) (n := 0) (Nat.le_of_ble_eq_true rfl) (Nat.le_of_ble_eq_true rfl) ?_
    exact J17 _ _ _ _ hP hD hS hv (lv_sub hl [0, 1] rfl)
  refine lv_if_lt (tgt := 12) hx hb dX3_strew_2 (by decide) (fun hc => ?_) (fun hc => ?_)
  · have hv := hv.1 hc
    refine W.widen (k := 0) (n := 0) (Nat.le_of_ble_eq_true rfl) (Nat.le_of_ble_eq_true rfl) ?_
    exact J12  _ _ _ hP hD hS hv (lv_sub hl [0, 1] rfl)
  · have hv := hv.2 hc
    refine lv_iload_n hx hb dX3_strew_5 rfl (lv_at hl 1 rfl) ?_
    refine lv_sipush (v := (9999 : Int32)) hx hb dX3_strew_6 (by decide) ?_
    refine lv_icmp_le (tgt := 16) hx hb dX3_strew_9 (by decide) (fun hc => ?_) (fun hc => ?_)
    · have hv := hv.1 hc
      refine lv_iconst (v := (0 : Int32)) hx hb dX3_strew_16 (by decide) ?_
      refine W.widen (k := 0) (n := 0) (Nat.le_of_ble_eq_true rfl) (Nat.le_of_ble_eq_true rfl) ?_
      exact J17 _ _ _ _ hP hD hS hv (lv_sub hl [0, 1] rfl)
    · have hv := hv.2 hc
      refine W.widen (k := 0) (n := 0) (Nat.le_of_ble_eq_true rfl) (Nat.le_of_ble_eq_true rfl) ?_
      exact J12  _ _ _ hP hD hS hv (lv_sub hl [0, 1] rfl)
set_option maxHeartbeats 4000000 in
set_option maxRecDepth 100000 in
theorem kX3_changeW (l : Launch) (D : va_G) (cI cB : ClassId) (h0 : Nat) (h1 : Nat) (h2 : Nat) (on : Int32) (oo : Int32) (og : Int32) (orl : Nat) (ork : Nat → Int32) (owl : Nat) (oww : Nat → Int32) (ost : Int32) (ord : Int32) (oac : Int32) (ore : Int32) (okn : Int32) (oth : Int32)  (sz : Nat) (post : Int32 → Int32 → Int32 → Int32 → Prop) (hv : qX3_changeW on oo oac post) : Met l yX3_change wsX3_change ({ frames := 1, cells := 0, slots := 0, locals := 21 }) (va_Pc [.ref h0] (kBW D cI cB sz [(h0, .inr (5, [.int on, .int oo, .int og, .ref h1, .ref h2, .int ost, .int ord, .int oac, .int ore, .int okn, .int oth])), (h1, .inl (cI, orl, .inl ork)), (h2, .inl (cI, owl, .inl oww))])) (va_Qi (fun (r : Int32) (u : Int32 × Int32 × Int32) => post r u.1 u.2.1 u.2.2) (fun (u : Int32 × Int32 × Int32) (t : State) => kE D (va_A [(h0, .inr (5, [.int on, .int oo, .int og, .ref h1, .ref h2, .int ost, .int ord, .int oac, .int ore, .int okn, .int oth])), (h1, .inl (cI, orl, .inl ork)), (h2, .inl (cI, owl, .inl oww))] sz) [(h0, .inr (5, [.int on, .int (u.1), .int og, .ref h1, .ref h2, .int ost, .int ord, .int (u.2.1), .int ore, .int okn, .int (u.2.2)])), (h1, .inl (cI, orl, .inl ork)), (h2, .inl (cI, owl, .inl oww))] t) (va_A [(h0, .inr (5, [.int on, .int oo, .int og, .ref h1, .ref h2, .int ost, .int ord, .int oac, .int ore, .int okn, .int oth])), (h1, .inl (cI, orl, .inl ork)), (h2, .inl (cI, owl, .inl oww))] sz)) 0 0 (va_A [(h0, .inr (5, [.int on, .int oo, .int og, .ref h1, .ref h2, .int ost, .int ord, .int oac, .int ore, .int okn, .int oth])), (h1, .inl (cI, orl, .inl ork)), (h2, .inl (cI, owl, .inl oww))] sz) := by
  refine Met.ofW (cc := cX3_change) (maxL := 1) (ret := (some .int)) (by decide) rfl ?_
  intro p e s m args below meth c s₁ B hml hv0
  obtain ⟨rfl, hsz, ⟨hP, hK, hN⟩, hD0⟩ := hv0
  have hx := B.exec
  have hb := B.bytes
  have hr := B.returns
  have hts := atoms_spec (ws := wsX3_change) B.pre
  have hown : s.vm.findClass RX3 = some m.cls := findClass_of_methodNamed B.named
  have hlocks := B.notSynchronized
  have hi_X3 : ∀ w ∈ wsX30, w ∈ wsX3_change := by decide +kernel
  have hF13 := hts (.fieldLink RX3 13 "RoadgameModel" "thrown" "I") (by decide +kernel)
  have hF17 := hts (.fieldLink RX3 17 "RoadgameModel" "n" "I") (by decide +kernel)
  have hF20 := hts (.fieldLink RX3 20 "RoadgameModel" "ofOne" "I") (by decide +kernel)
  subst hsz
  have hD := hD0.self (sz := s.heap.size)
  generalize hAe : va_A [(h0, .inr (5, [.int on, .int oo, .int og, .ref h1, .ref h2, .int ost, .int ord, .int oac, .int ore, .int okn, .int oth])), (h1, .inl (cI, orl, .inl ork)), (h2, .inl (cI, owl, .inl oww))] s.heap.size = A at hD ⊢
  have hA : ∀ q : Nat, s.heap.size ≤ q → A q := fun q h => by rw [← hAe]; exact Or.inr h
  have hS : va_S A s.heap s.heap [] := va_S.rf
  have hl := lv_entry ([.ref h0]) (n := 1) (Nat.le_of_ble_eq_true rfl)
  rw [lg_entry_eq]
  generalize (lg_sl ([.ref h0]) ++ List.replicate (1 - (lg_sl ([.ref h0])).length) Slot.unset).toArray = ls at hl ⊢
  have hl : lv_has ls 1 [(0, .ref h0)] := hl
  refine lv_aload_n hx hb dX3_change_0 rfl (lv_at hl 0 rfl) ?_
  refine lv_iconst (v := (0 : Int32)) hx hb dX3_change_1 (by decide) ?_
  refine va_put (D := D) (ci := 5) (v := .int (0 : Int32)) (ty := .int) (C := RX3) (T := TX3) (N := 11) hx hb hts hi_X3 tyX3 tyX3_ok nmX3 hown hK hP hD hS 0 rfl rfl 10 (by decide) hF13 (fun _ h9 => h9) rfl (by decide +kernel) rfl rfl (Nat.le_of_ble_eq_true rfl) dX3_change_2 (fun H locs hP hD hS => ?_)
  have hP : va_P D vwCl [(h0, .inr (5, [.int on, .int oo, .int og, .ref h1, .ref h2, .int ost, .int ord, .int oac, .int ore, .int okn, .int (0 : Int32)])), (h1, .inl (cI, orl, .inl ork)), (h2, .inl (cI, owl, .inl oww))] H := hP
  have hD : va_D A [(h0, .inr (5, [.int on, .int oo, .int og, .ref h1, .ref h2, .int ost, .int ord, .int oac, .int ore, .int okn, .int (0 : Int32)])), (h1, .inl (cI, orl, .inl ork)), (h2, .inl (cI, owl, .inl oww))] := hD
  refine lv_aload_n hx hb dX3_change_5 rfl (lv_at hl 0 rfl) ?_
  refine lv_aload_n hx hb dX3_change_6 rfl (lv_at hl 0 rfl) ?_
  refine kc_V (As := []) (rest := [.ref h0]) ⟨hx, hb, hml, hown, hts⟩ (kX3_all l D cI cB h0 h1 h2 on oo og orl ork owl oww ost ord oac ore okn (0 : Int32) _ hv) (cwV 0 hts gX3_change_X3_all rfl rfl rfl (by decide +kernel) ⟨Nat.le_of_ble_eq_true rfl, Nat.le_of_ble_eq_true rfl⟩) hP hK hN 5 rfl rfl rfl rfl hl.1 rfl (Nat.le_of_ble_eq_true rfl) dX3_change_7 ⟨Nat.le_of_ble_eq_true rfl, Nat.le_of_ble_eq_true rfl⟩ (fun r7 hv => ?_)
  refine lv_aload_n hx hb dX3_change_10 rfl (lv_at hl 0 rfl) ?_
  refine va_get (D := D) (ci := 5) (v := .int oo) (C := RX3) (T := TX3) (N := 11) hx hb hts hi_X3 hown hK hP 0 rfl rfl 1 (by decide) hF20 (fun _ h9 => h9) rfl dX3_change_11 ?_
  refine lv_iconst (v := (-1 : Int32)) hx hb dX3_change_14 (by decide) ?_
  refine lv_ixor hx hb dX3_change_15 ?_
  refine lv_iand hx hb dX3_change_16 ?_
  refine va_put (D := D) (ci := 5) (v := .int (r7 &&& (oo ^^^ (-1 : Int32)))) (ty := .int) (C := RX3) (T := TX3) (N := 11) hx hb hts hi_X3 tyX3 tyX3_ok nmX3 hown hK hP hD hS 0 rfl rfl 1 (by decide) hF20 (fun _ h9 => h9) rfl (by decide +kernel) rfl rfl (Nat.le_of_ble_eq_true rfl) dX3_change_17 (fun H locs hP hD hS => ?_)
  have hP : va_P D vwCl [(h0, .inr (5, [.int on, .int (r7 &&& (oo ^^^ (-1 : Int32))), .int og, .ref h1, .ref h2, .int ost, .int ord, .int oac, .int ore, .int okn, .int (0 : Int32)])), (h1, .inl (cI, orl, .inl ork)), (h2, .inl (cI, owl, .inl oww))] H := hP
  have hD : va_D A [(h0, .inr (5, [.int on, .int (r7 &&& (oo ^^^ (-1 : Int32))), .int og, .ref h1, .ref h2, .int ost, .int ord, .int oac, .int ore, .int okn, .int (0 : Int32)])), (h1, .inl (cI, orl, .inl ork)), (h2, .inl (cI, owl, .inl oww))] := hD
  refine lv_aload_n hx hb dX3_change_20 rfl (lv_at hl 0 rfl) ?_
  refine lv_aload_n hx hb dX3_change_21 rfl (lv_at hl 0 rfl) ?_
  refine va_get (D := D) (ci := 5) (v := .int on) (C := RX3) (T := TX3) (N := 11) hx hb hts hi_X3 hown hK hP 0 rfl rfl 0 (by decide) hF17 (fun _ h9 => h9) rfl dX3_change_22 ?_
  refine lv_aload_n hx hb dX3_change_25 rfl (lv_at hl 0 rfl) ?_
  refine va_get (D := D) (ci := 5) (v := .int (r7 &&& (oo ^^^ (-1 : Int32)))) (C := RX3) (T := TX3) (N := 11) hx hb hts hi_X3 hown hK hP 0 rfl rfl 1 (by decide) hF20 (fun _ h9 => h9) rfl dX3_change_26 ?_
  refine kc_S (As := [.int (r7 &&& (oo ^^^ (-1 : Int32)))]) (rest := [.int on, .ref h0]) ⟨hx, hb, hml, hown, hts⟩ (kJ6_bitCount_0f7a4 l D cI cB (r7 &&& (oo ^^^ (-1 : Int32))) _ hv) (va_cwS 1 hts gX3_change_J6_bitCount_0f7a4 rfl rfl rfl (by decide +kernel) ⟨Nat.le_of_ble_eq_true rfl, Nat.le_of_ble_eq_true rfl⟩) (hP.sub (ws' := []) [] rfl) hK hN rfl hl.1 rfl (Nat.le_of_ble_eq_true rfl) dX3_change_29 ⟨Nat.le_of_ble_eq_true rfl, Nat.le_of_ble_eq_true rfl⟩ (fun r29 hv => ?_)
  refine lv_isub hx hb dX3_change_32 ?_
  refine kw_i (wr := []) (va_runV (As := [.int (on - r29)]) (rest := []) ⟨hx, hb, hml, hown, hts⟩ (kX3_doneW l D cI cB h0 h1 h2 on (r7 &&& (oo ^^^ (-1 : Int32))) og orl ork owl oww ost ord oac ore okn (0 : Int32) (on - r29) _ _ hv) (cwV 1 hts gX3_change_X3_done rfl rfl rfl (by decide +kernel) ⟨Nat.le_of_ble_eq_true rfl, Nat.le_of_ble_eq_true rfl⟩) ⟨(kPreW (As := [.ref h0, .int (on - r29)]) (hP.sub (ws' := [(h0, .inr (5, [.int on, .int (r7 &&& (oo ^^^ (-1 : Int32))), .int og, .ref h1, .ref h2, .int ost, .int ord, .int oac, .int ore, .int okn, .int (0 : Int32)])), (h1, .inl (cI, orl, .inl ork)), (h2, .inl (cI, owl, .inl oww))]) [0, 1, 2] rfl) (hD.sub (ws' := [(h0, .inr (5, [.int on, .int (r7 &&& (oo ^^^ (-1 : Int32))), .int og, .ref h1, .ref h2, .int ost, .int ord, .int oac, .int ore, .int okn, .int (0 : Int32)])), (h1, .inl (cI, orl, .inl ork)), (h2, .inl (cI, owl, .inl oww))]) [0, 1, 2] (by decide) rfl) hK hN).1, kRecv (hP.sub (ws' := [(h0, .inr (5, [.int on, .int (r7 &&& (oo ^^^ (-1 : Int32))), .int og, .ref h1, .ref h2, .int ost, .int ord, .int oac, .int ore, .int okn, .int (0 : Int32)])), (h1, .inl (cI, orl, .inl ork)), (h2, .inl (cI, owl, .inl oww))]) [0, 1, 2] rfl) hK 5 rfl rfl rfl, (kPreW (As := [.ref h0, .int (on - r29)]) (hP.sub (ws' := [(h0, .inr (5, [.int on, .int (r7 &&& (oo ^^^ (-1 : Int32))), .int og, .ref h1, .ref h2, .int ost, .int ord, .int oac, .int ore, .int okn, .int (0 : Int32)])), (h1, .inl (cI, orl, .inl ork)), (h2, .inl (cI, owl, .inl oww))]) [0, 1, 2] rfl) (hD.sub (ws' := [(h0, .inr (5, [.int on, .int (r7 &&& (oo ^^^ (-1 : Int32))), .int og, .ref h1, .ref h2, .int ost, .int ord, .int oac, .int ore, .int okn, .int (0 : Int32)])), (h1, .inl (cI, orl, .inl ork)), (h2, .inl (cI, owl, .inl oww))]) [0, 1, 2] (by decide) rfl) hK hN).2⟩ rfl rfl hl.1 rfl (lv_room (Nat.le_of_ble_eq_true rfl)) dX3_change_33 ⟨Nat.le_of_ble_eq_true rfl, Nat.le_of_ble_eq_true rfl⟩) hP hD hS hA [0, 1, 2] [] rfl rfl (by decide) (by decide) (fun r33 u H locs hv hP hD hS => ?_)
  obtain ⟨x33_0, rfl⟩ : ∃ z, z = u := ⟨_, rfl⟩
  have hP : va_P D vwCl [(h0, .inr (5, [.int on, .int (r7 &&& (oo ^^^ (-1 : Int32))), .int og, .ref h1, .ref h2, .int ost, .int ord, .int x33_0, .int ore, .int okn, .int (0 : Int32)])), (h1, .inl (cI, orl, .inl ork)), (h2, .inl (cI, owl, .inl oww))] H := hP.sub [0, 1, 2] rfl
  have hD : va_D A [(h0, .inr (5, [.int on, .int (r7 &&& (oo ^^^ (-1 : Int32))), .int og, .ref h1, .ref h2, .int ost, .int ord, .int x33_0, .int ore, .int okn, .int (0 : Int32)])), (h1, .inl (cI, orl, .inl ork)), (h2, .inl (cI, owl, .inl oww))] := hD.sub [0, 1, 2] (by decide) rfl
  refine W.widen (k := 0) (n := 0) (Nat.le_of_ble_eq_true rfl) (Nat.le_of_ble_eq_true rfl) ?_
  exact W.iret (v := r33) hx hb hr (kWi_ret (u := ((r7 &&& (oo ^^^ (-1 : Int32))), x33_0, (0 : Int32))) hv hP hD hS) hS.2.2 dX3_change_36
set_option maxHeartbeats 4000000 in
set_option maxRecDepth 100000 in
theorem kX3_standW (l : Launch) (D : va_G) (cI cB : ClassId) (h0 : Nat) (h1 : Nat) (h2 : Nat) (on : Int32) (oo : Int32) (og : Int32) (orl : Nat) (ork : Nat → Int32) (owl : Nat) (oww : Nat → Int32) (ost : Int32) (ord : Int32) (oac : Int32) (ore : Int32) (okn : Int32) (oth : Int32) (a1 : Int32) (sz : Nat) (post : Int32 → Int32 → Int32 → Int32 → Int32 → Prop) (hv : qX3_standW on ost ord oac a1 post) : Met l yX3_stand wsX3_stand ({ frames := 2, cells := 0, slots := 0, locals := 43 }) (va_Pc [.ref h0, .int a1] (kBW D cI cB sz [(h0, .inr (5, [.int on, .int oo, .int og, .ref h1, .ref h2, .int ost, .int ord, .int oac, .int ore, .int okn, .int oth])), (h1, .inl (cI, orl, .inl ork)), (h2, .inl (cI, owl, .inl oww))])) (va_Qi (fun (r : Int32) (u : Int32 × Int32 × Int32 × Int32) => post r u.1 u.2.1 u.2.2.1 u.2.2.2) (fun (u : Int32 × Int32 × Int32 × Int32) (t : State) => kE D (va_A [(h0, .inr (5, [.int on, .int oo, .int og, .ref h1, .ref h2, .int ost, .int ord, .int oac, .int ore, .int okn, .int oth])), (h1, .inl (cI, orl, .inl ork)), (h2, .inl (cI, owl, .inl oww))] sz) [(h0, .inr (5, [.int on, .int oo, .int og, .ref h1, .ref h2, .int (u.1), .int (u.2.1), .int (u.2.2.1), .int ore, .int okn, .int (u.2.2.2)])), (h1, .inl (cI, orl, .inl ork)), (h2, .inl (cI, owl, .inl oww))] t) (va_A [(h0, .inr (5, [.int on, .int oo, .int og, .ref h1, .ref h2, .int ost, .int ord, .int oac, .int ore, .int okn, .int oth])), (h1, .inl (cI, orl, .inl ork)), (h2, .inl (cI, owl, .inl oww))] sz)) 0 0 (va_A [(h0, .inr (5, [.int on, .int oo, .int og, .ref h1, .ref h2, .int ost, .int ord, .int oac, .int ore, .int okn, .int oth])), (h1, .inl (cI, orl, .inl ork)), (h2, .inl (cI, owl, .inl oww))] sz) := by
  refine Met.ofW (cc := cX3_stand) (maxL := 3) (ret := (some .int)) (by decide) rfl ?_
  intro p e s m args below meth c s₁ B hml hv0
  obtain ⟨rfl, hsz, ⟨hP, hK, hN⟩, hD0⟩ := hv0
  have hx := B.exec
  have hb := B.bytes
  have hr := B.returns
  have hts := atoms_spec (ws := wsX3_stand) B.pre
  have hown : s.vm.findClass RX3 = some m.cls := findClass_of_methodNamed B.named
  have hlocks := B.notSynchronized
  have hi_X3 : ∀ w ∈ wsX30, w ∈ wsX3_stand := by decide +kernel
  have hF33 := hts (.fieldLink RX3 33 "RoadgameModel" "stone" "I") (by decide +kernel)
  have hF36 := hts (.fieldLink RX3 36 "RoadgameModel" "rounds" "I") (by decide +kernel)
  subst hsz
  have hD := hD0.self (sz := s.heap.size)
  generalize hAe : va_A [(h0, .inr (5, [.int on, .int oo, .int og, .ref h1, .ref h2, .int ost, .int ord, .int oac, .int ore, .int okn, .int oth])), (h1, .inl (cI, orl, .inl ork)), (h2, .inl (cI, owl, .inl oww))] s.heap.size = A at hD ⊢
  have hA : ∀ q : Nat, s.heap.size ≤ q → A q := fun q h => by rw [← hAe]; exact Or.inr h
  have hS : va_S A s.heap s.heap [] := va_S.rf
  have hl := lv_entry ([.ref h0, .int a1]) (n := 3) (Nat.le_of_ble_eq_true rfl)
  rw [lg_entry_eq]
  generalize (lg_sl ([.ref h0, .int a1]) ++ List.replicate (3 - (lg_sl ([.ref h0, .int a1])).length) Slot.unset).toArray = ls at hl ⊢
  have hl : lv_has ls 3 [(0, .ref h0), (1, .int a1)] := hl
  refine lv_aload_n hx hb dX3_stand_0 rfl (lv_at hl 0 rfl) ?_
  refine lv_aload_n hx hb dX3_stand_1 rfl (lv_at hl 0 rfl) ?_
  refine lv_iload_n hx hb dX3_stand_2 rfl (lv_at hl 1 rfl) ?_
  refine kc_V (As := [.int a1]) (rest := [.ref h0]) ⟨hx, hb, hml, hown, hts⟩ (kX3_isPlace l D cI cB h0 h1 h2 on oo og orl ork owl oww ost ord oac ore okn oth a1 _ hv) (cwV 1 hts gX3_stand_X3_isPlace rfl rfl rfl (by decide +kernel) ⟨Nat.le_of_ble_eq_true rfl, Nat.le_of_ble_eq_true rfl⟩) hP hK hN 5 rfl rfl rfl rfl hl.1 rfl (Nat.le_of_ble_eq_true rfl) dX3_stand_3 ⟨Nat.le_of_ble_eq_true rfl, Nat.le_of_ble_eq_true rfl⟩ (fun r3 hv => ?_)
  have J14 : ∀ (s0_j14 : Int32) (H : Heap) (locs : List Loc) (ls : Array Slot), va_P D vwCl [(h0, .inr (5, [.int on, .int oo, .int og, .ref h1, .ref h2, .int ost, .int ord, .int oac, .int ore, .int okn, .int oth])), (h1, .inl (cI, orl, .inl ork)), (h2, .inl (cI, owl, .inl oww))] H → va_D A [(h0, .inr (5, [.int on, .int oo, .int og, .ref h1, .ref h2, .int ost, .int ord, .int oac, .int ore, .int okn, .int oth])), (h1, .inl (cI, orl, .inl ork)), (h2, .inl (cI, owl, .inl oww))] → va_S A s.heap H locs → qX3_standW_j14 ost ord oac a1 s0_j14 post → lv_has ls 3 [(0, .ref h0), (1, .int a1)] → W p l e (headSpec wsX3_stand ({ frames := 2, cells := 0, slots := 0, locals := 43 })).room s m ([.ref h0, .int a1] : List Value).toArray below meth c H locs 0 0 (MQ below (va_Qi (fun (r : Int32) (u : Int32 × Int32 × Int32 × Int32) => post r u.1 u.2.1 u.2.2.1 u.2.2.2) (fun (u : Int32 × Int32 × Int32 × Int32) (t : State) => kE D A [(h0, .inr (5, [.int on, .int oo, .int og, .ref h1, .ref h2, .int (u.1), .int (u.2.1), .int (u.2.2.1), .int ore, .int okn, .int (u.2.2.2)])), (h1, .inl (cI, orl, .inl ork)), (h2, .inl (cI, owl, .inl oww))] t) A) ([.ref h0, .int a1] : List Value).toArray s 0 0 A) (F0 m 14 ls [.int s0_j14, .ref h0]) := by
    intro s0_j14 H locs ls hP hD hS hv hl
    refine kw_i (wr := []) (va_runV (As := [.int s0_j14]) (rest := []) ⟨hx, hb, hml, hown, hts⟩ (kX3_isThrown_W l D cI cB h0 h1 h2 on oo og orl ork owl oww ost ord oac ore okn oth s0_j14 _ _ hv) (cwV 1 hts gX3_stand_X3_isThrown_ rfl rfl rfl (by decide +kernel) ⟨Nat.le_of_ble_eq_true rfl, Nat.le_of_ble_eq_true rfl⟩) ⟨(kPreW (As := [.ref h0, .int s0_j14]) (hP.sub (ws' := [(h0, .inr (5, [.int on, .int oo, .int og, .ref h1, .ref h2, .int ost, .int ord, .int oac, .int ore, .int okn, .int oth])), (h1, .inl (cI, orl, .inl ork)), (h2, .inl (cI, owl, .inl oww))]) [0, 1, 2] rfl) (hD.sub (ws' := [(h0, .inr (5, [.int on, .int oo, .int og, .ref h1, .ref h2, .int ost, .int ord, .int oac, .int ore, .int okn, .int oth])), (h1, .inl (cI, orl, .inl ork)), (h2, .inl (cI, owl, .inl oww))]) [0, 1, 2] (by decide) rfl) hK hN).1, kRecv (hP.sub (ws' := [(h0, .inr (5, [.int on, .int oo, .int og, .ref h1, .ref h2, .int ost, .int ord, .int oac, .int ore, .int okn, .int oth])), (h1, .inl (cI, orl, .inl ork)), (h2, .inl (cI, owl, .inl oww))]) [0, 1, 2] rfl) hK 5 rfl rfl rfl, (kPreW (As := [.ref h0, .int s0_j14]) (hP.sub (ws' := [(h0, .inr (5, [.int on, .int oo, .int og, .ref h1, .ref h2, .int ost, .int ord, .int oac, .int ore, .int okn, .int oth])), (h1, .inl (cI, orl, .inl ork)), (h2, .inl (cI, owl, .inl oww))]) [0, 1, 2] rfl) (hD.sub (ws' := [(h0, .inr (5, [.int on, .int oo, .int og, .ref h1, .ref h2, .int ost, .int ord, .int oac, .int ore, .int okn, .int oth])), (h1, .inl (cI, orl, .inl ork)), (h2, .inl (cI, owl, .inl oww))]) [0, 1, 2] (by decide) rfl) hK hN).2⟩ rfl rfl hl.1 rfl (lv_room (Nat.le_of_ble_eq_true rfl)) dX3_stand_14 ⟨Nat.le_of_ble_eq_true rfl, Nat.le_of_ble_eq_true rfl⟩) hP hD hS hA [0, 1, 2] [] rfl rfl (by decide) (by decide) (fun r14 u H locs hv hP hD hS => ?_)
    obtain ⟨x14_0, rfl⟩ : ∃ z, z = u := ⟨_, rfl⟩
    have hP : va_P D vwCl [(h0, .inr (5, [.int on, .int oo, .int og, .ref h1, .ref h2, .int ost, .int ord, .int oac, .int ore, .int okn, .int x14_0])), (h1, .inl (cI, orl, .inl ork)), (h2, .inl (cI, owl, .inl oww))] H := hP.sub [0, 1, 2] rfl
    have hD : va_D A [(h0, .inr (5, [.int on, .int oo, .int og, .ref h1, .ref h2, .int ost, .int ord, .int oac, .int ore, .int okn, .int x14_0])), (h1, .inl (cI, orl, .inl ork)), (h2, .inl (cI, owl, .inl oww))] := hD.sub [0, 1, 2] (by decide) rfl
    refine lv_if_eq (tgt := 22) hx hb dX3_stand_17 (by decide) (fun hc => ?_) (fun hc => ?_)
    · have hv := hv.1 hc
      refine lv_aload_n hx hb dX3_stand_22 rfl (lv_at hl 0 rfl) ?_
      refine va_get (D := D) (ci := 5) (v := .int ost) (C := RX3) (T := TX3) (N := 11) hx hb hts hi_X3 hown hK hP 0 rfl rfl 5 (by decide) hF33 (fun _ h9 => h9) rfl dX3_stand_23 ?_
      refine lv_istore_n (lv' := [(2, .int ost), (0, .ref h0), (1, .int a1)]) hx hb dX3_stand_26 rfl hl (by decide) rfl (fun ls hl => ?_)
      refine lv_aload_n hx hb dX3_stand_27 rfl (lv_at hl 1 rfl) ?_
      refine lv_iload_n hx hb dX3_stand_28 rfl (lv_at hl 2 rfl) ?_
      refine va_put (D := D) (ci := 5) (v := .int a1) (ty := .int) (C := RX3) (T := TX3) (N := 11) hx hb hts hi_X3 tyX3 tyX3_ok nmX3 hown hK hP hD hS 0 rfl rfl 5 (by decide) hF33 (fun _ h9 => h9) rfl (by decide +kernel) rfl rfl (Nat.le_of_ble_eq_true rfl) dX3_stand_29 (fun H locs hP hD hS => ?_)
      have hP : va_P D vwCl [(h0, .inr (5, [.int on, .int oo, .int og, .ref h1, .ref h2, .int a1, .int ord, .int oac, .int ore, .int okn, .int x14_0])), (h1, .inl (cI, orl, .inl ork)), (h2, .inl (cI, owl, .inl oww))] H := hP
      have hD : va_D A [(h0, .inr (5, [.int on, .int oo, .int og, .ref h1, .ref h2, .int a1, .int ord, .int oac, .int ore, .int okn, .int x14_0])), (h1, .inl (cI, orl, .inl ork)), (h2, .inl (cI, owl, .inl oww))] := hD
      refine lv_aload_n hx hb dX3_stand_32 rfl (lv_at hl 1 rfl) ?_
      refine lv_iconst (v := (0 : Int32)) hx hb dX3_stand_33 (by decide) ?_
      refine va_put (D := D) (ci := 5) (v := .int (0 : Int32)) (ty := .int) (C := RX3) (T := TX3) (N := 11) hx hb hts hi_X3 tyX3 tyX3_ok nmX3 hown hK hP hD hS 0 rfl rfl 6 (by decide) hF36 (fun _ h9 => h9) rfl (by decide +kernel) rfl rfl (Nat.le_of_ble_eq_true rfl) dX3_stand_34 (fun H locs hP hD hS => ?_)
      have hP : va_P D vwCl [(h0, .inr (5, [.int on, .int oo, .int og, .ref h1, .ref h2, .int a1, .int (0 : Int32), .int oac, .int ore, .int okn, .int x14_0])), (h1, .inl (cI, orl, .inl ork)), (h2, .inl (cI, owl, .inl oww))] H := hP
      have hD : va_D A [(h0, .inr (5, [.int on, .int oo, .int og, .ref h1, .ref h2, .int a1, .int (0 : Int32), .int oac, .int ore, .int okn, .int x14_0])), (h1, .inl (cI, orl, .inl ork)), (h2, .inl (cI, owl, .inl oww))] := hD
      refine lv_aload_n hx hb dX3_stand_37 rfl (lv_at hl 1 rfl) ?_
      refine lv_iload_n hx hb dX3_stand_38 rfl (lv_at hl 0 rfl) ?_
      refine kw_i (wr := []) (va_runV (As := [.int ost]) (rest := []) ⟨hx, hb, hml, hown, hts⟩ (kX3_doneW l D cI cB h0 h1 h2 on oo og orl ork owl oww a1 (0 : Int32) oac ore okn x14_0 ost _ _ hv) (cwV 1 hts gX3_stand_X3_done rfl rfl rfl (by decide +kernel) ⟨Nat.le_of_ble_eq_true rfl, Nat.le_of_ble_eq_true rfl⟩) ⟨(kPreW (As := [.ref h0, .int ost]) (hP.sub (ws' := [(h0, .inr (5, [.int on, .int oo, .int og, .ref h1, .ref h2, .int a1, .int (0 : Int32), .int oac, .int ore, .int okn, .int x14_0])), (h1, .inl (cI, orl, .inl ork)), (h2, .inl (cI, owl, .inl oww))]) [0, 1, 2] rfl) (hD.sub (ws' := [(h0, .inr (5, [.int on, .int oo, .int og, .ref h1, .ref h2, .int a1, .int (0 : Int32), .int oac, .int ore, .int okn, .int x14_0])), (h1, .inl (cI, orl, .inl ork)), (h2, .inl (cI, owl, .inl oww))]) [0, 1, 2] (by decide) rfl) hK hN).1, kRecv (hP.sub (ws' := [(h0, .inr (5, [.int on, .int oo, .int og, .ref h1, .ref h2, .int a1, .int (0 : Int32), .int oac, .int ore, .int okn, .int x14_0])), (h1, .inl (cI, orl, .inl ork)), (h2, .inl (cI, owl, .inl oww))]) [0, 1, 2] rfl) hK 5 rfl rfl rfl, (kPreW (As := [.ref h0, .int ost]) (hP.sub (ws' := [(h0, .inr (5, [.int on, .int oo, .int og, .ref h1, .ref h2, .int a1, .int (0 : Int32), .int oac, .int ore, .int okn, .int x14_0])), (h1, .inl (cI, orl, .inl ork)), (h2, .inl (cI, owl, .inl oww))]) [0, 1, 2] rfl) (hD.sub (ws' := [(h0, .inr (5, [.int on, .int oo, .int og, .ref h1, .ref h2, .int a1, .int (0 : Int32), .int oac, .int ore, .int okn, .int x14_0])), (h1, .inl (cI, orl, .inl ork)), (h2, .inl (cI, owl, .inl oww))]) [0, 1, 2] (by decide) rfl) hK hN).2⟩ rfl rfl hl.1 rfl (lv_room (Nat.le_of_ble_eq_true rfl)) dX3_stand_39 ⟨Nat.le_of_ble_eq_true rfl, Nat.le_of_ble_eq_true rfl⟩) hP hD hS hA [0, 1, 2] [] rfl rfl (by decide) (by decide) (fun r39 u H locs hv hP hD hS => ?_)
      obtain ⟨x39_0, rfl⟩ : ∃ z, z = u := ⟨_, rfl⟩
      have hP : va_P D vwCl [(h0, .inr (5, [.int on, .int oo, .int og, .ref h1, .ref h2, .int a1, .int (0 : Int32), .int x39_0, .int ore, .int okn, .int x14_0])), (h1, .inl (cI, orl, .inl ork)), (h2, .inl (cI, owl, .inl oww))] H := hP.sub [0, 1, 2] rfl
      have hD : va_D A [(h0, .inr (5, [.int on, .int oo, .int og, .ref h1, .ref h2, .int a1, .int (0 : Int32), .int x39_0, .int ore, .int okn, .int x14_0])), (h1, .inl (cI, orl, .inl ork)), (h2, .inl (cI, owl, .inl oww))] := hD.sub [0, 1, 2] (by decide) rfl
      refine W.widen (k := 0) (n := 0) (Nat.le_of_ble_eq_true rfl) (Nat.le_of_ble_eq_true rfl) ?_
      exact W.iret (v := r39) hx hb hr (kWi_ret (u := (a1, (0 : Int32), x39_0, x14_0)) hv hP hD hS) hS.2.2 dX3_stand_42
    · have hv := hv.2 hc
      refine lv_iconst (v := (0 : Int32)) hx hb dX3_stand_20 (by decide) ?_
      refine W.widen (k := 0) (n := 0) (Nat.le_of_ble_eq_true rfl) (Nat.le_of_ble_eq_true rfl) ?_
      exact W.iret (v := (0 : Int32)) hx hb hr (kWi_ret (u := (ost, ord, oac, x14_0)) hv hP hD hS) hS.2.2 dX3_stand_21
  refine lv_if_ne (tgt := 13) hx hb dX3_stand_6 (by decide) (fun hc => ?_) (fun hc => ?_)
  · have hv := hv.1 hc
    refine lv_iconst (v := (0 : Int32)) hx hb dX3_stand_13 (by decide) ?_
    refine W.widen (k := 0) (n := 0) (Nat.le_of_ble_eq_true rfl) (Nat.le_of_ble_eq_true rfl) ?_
    exact J14 _ _ _ _ hP hD hS hv (lv_sub hl [0, 1] rfl)
  · have hv := hv.2 hc
    refine lv_iconst (v := (1 : Int32)) hx hb dX3_stand_9 (by decide) ?_
    refine lv_goto (tgt := 14) hx hb dX3_stand_10 (by decide) ?_
    refine W.widen (k := 0) (n := 0) (Nat.le_of_ble_eq_true rfl) (Nat.le_of_ble_eq_true rfl) ?_
    exact J14 _ _ _ _ hP hD hS hv (lv_sub hl [0, 1] rfl)
set_option maxHeartbeats 4000000 in
set_option maxRecDepth 100000 in
theorem kX3_goW (l : Launch) (D : va_G) (cI cB : ClassId) (h0 : Nat) (h1 : Nat) (h2 : Nat) (on : Int32) (oo : Int32) (og : Int32) (orl : Nat) (ork : Nat → Int32) (owl : Nat) (oww : Nat → Int32) (ost : Int32) (ord : Int32) (oac : Int32) (ore : Int32) (okn : Int32) (oth : Int32) (a1 : Int32) (sz : Nat) (post : Int32 → Int32 → Int32 → Int32 → Int32 → Int32 → Prop) (hv : qX3_goW on owl oww ost ord oac ore a1 post) : Met l yX3_go wsX3_go ({ frames := 2, cells := 0, slots := 0, locals := 43 }) (va_Pc [.ref h0, .int a1] (kBW D cI cB sz [(h0, .inr (5, [.int on, .int oo, .int og, .ref h1, .ref h2, .int ost, .int ord, .int oac, .int ore, .int okn, .int oth])), (h1, .inl (cI, orl, .inl ork)), (h2, .inl (cI, owl, .inl oww))])) (va_Qi (fun (r : Int32) (u : Int32 × Int32 × Int32 × Int32 × Int32) => post r u.1 u.2.1 u.2.2.1 u.2.2.2.1 u.2.2.2.2) (fun (u : Int32 × Int32 × Int32 × Int32 × Int32) (t : State) => kE D (va_A [(h0, .inr (5, [.int on, .int oo, .int og, .ref h1, .ref h2, .int ost, .int ord, .int oac, .int ore, .int okn, .int oth])), (h1, .inl (cI, orl, .inl ork)), (h2, .inl (cI, owl, .inl oww))] sz) [(h0, .inr (5, [.int on, .int oo, .int og, .ref h1, .ref h2, .int (u.1), .int (u.2.1), .int (u.2.2.1), .int (u.2.2.2.1), .int okn, .int (u.2.2.2.2)])), (h1, .inl (cI, orl, .inl ork)), (h2, .inl (cI, owl, .inl oww))] t) (va_A [(h0, .inr (5, [.int on, .int oo, .int og, .ref h1, .ref h2, .int ost, .int ord, .int oac, .int ore, .int okn, .int oth])), (h1, .inl (cI, orl, .inl ork)), (h2, .inl (cI, owl, .inl oww))] sz)) 0 0 (va_A [(h0, .inr (5, [.int on, .int oo, .int og, .ref h1, .ref h2, .int ost, .int ord, .int oac, .int ore, .int okn, .int oth])), (h1, .inl (cI, orl, .inl ork)), (h2, .inl (cI, owl, .inl oww))] sz) := by
  refine Met.ofW (cc := cX3_go) (maxL := 2) (ret := (some .int)) (by decide) rfl ?_
  intro p e s m args below meth c s₁ B hml hv0
  obtain ⟨rfl, hsz, ⟨hP, hK, hN⟩, hD0⟩ := hv0
  have hx := B.exec
  have hb := B.bytes
  have hr := B.returns
  have hts := atoms_spec (ws := wsX3_go) B.pre
  have hown : s.vm.findClass RX3 = some m.cls := findClass_of_methodNamed B.named
  have hlocks := B.notSynchronized
  have hi_X3 : ∀ w ∈ wsX30, w ∈ wsX3_go := by decide +kernel
  have hF30 := hts (.fieldLink RX3 30 "RoadgameModel" "ways" "[I") (by decide +kernel)
  have hF33 := hts (.fieldLink RX3 33 "RoadgameModel" "stone" "I") (by decide +kernel)
  have hF36 := hts (.fieldLink RX3 36 "RoadgameModel" "rounds" "I") (by decide +kernel)
  subst hsz
  have hD := hD0.self (sz := s.heap.size)
  generalize hAe : va_A [(h0, .inr (5, [.int on, .int oo, .int og, .ref h1, .ref h2, .int ost, .int ord, .int oac, .int ore, .int okn, .int oth])), (h1, .inl (cI, orl, .inl ork)), (h2, .inl (cI, owl, .inl oww))] s.heap.size = A at hD ⊢
  have hA : ∀ q : Nat, s.heap.size ≤ q → A q := fun q h => by rw [← hAe]; exact Or.inr h
  have hS : va_S A s.heap s.heap [] := va_S.rf
  have hl := lv_entry ([.ref h0, .int a1]) (n := 2) (Nat.le_of_ble_eq_true rfl)
  rw [lg_entry_eq]
  generalize (lg_sl ([.ref h0, .int a1]) ++ List.replicate (2 - (lg_sl ([.ref h0, .int a1])).length) Slot.unset).toArray = ls at hl ⊢
  have hl : lv_has ls 2 [(0, .ref h0), (1, .int a1)] := hl
  refine lv_aload_n hx hb dX3_go_0 rfl (lv_at hl 0 rfl) ?_
  refine lv_aload_n hx hb dX3_go_1 rfl (lv_at hl 0 rfl) ?_
  refine lv_iload_n hx hb dX3_go_2 rfl (lv_at hl 1 rfl) ?_
  refine kc_V (As := [.int a1]) (rest := [.ref h0]) ⟨hx, hb, hml, hown, hts⟩ (kX3_isPlace l D cI cB h0 h1 h2 on oo og orl ork owl oww ost ord oac ore okn oth a1 _ hv) (cwV 1 hts gX3_go_X3_isPlace rfl rfl rfl (by decide +kernel) ⟨Nat.le_of_ble_eq_true rfl, Nat.le_of_ble_eq_true rfl⟩) hP hK hN 5 rfl rfl rfl rfl hl.1 rfl (Nat.le_of_ble_eq_true rfl) dX3_go_3 ⟨Nat.le_of_ble_eq_true rfl, Nat.le_of_ble_eq_true rfl⟩ (fun r3 hv => ?_)
  have J14 : ∀ (s0_j14 : Int32) (H : Heap) (locs : List Loc) (ls : Array Slot), va_P D vwCl [(h0, .inr (5, [.int on, .int oo, .int og, .ref h1, .ref h2, .int ost, .int ord, .int oac, .int ore, .int okn, .int oth])), (h1, .inl (cI, orl, .inl ork)), (h2, .inl (cI, owl, .inl oww))] H → va_D A [(h0, .inr (5, [.int on, .int oo, .int og, .ref h1, .ref h2, .int ost, .int ord, .int oac, .int ore, .int okn, .int oth])), (h1, .inl (cI, orl, .inl ork)), (h2, .inl (cI, owl, .inl oww))] → va_S A s.heap H locs → qX3_goW_j14 owl oww ost ord oac ore a1 s0_j14 post → lv_has ls 2 [(0, .ref h0), (1, .int a1)] → W p l e (headSpec wsX3_go ({ frames := 2, cells := 0, slots := 0, locals := 43 })).room s m ([.ref h0, .int a1] : List Value).toArray below meth c H locs 0 0 (MQ below (va_Qi (fun (r : Int32) (u : Int32 × Int32 × Int32 × Int32 × Int32) => post r u.1 u.2.1 u.2.2.1 u.2.2.2.1 u.2.2.2.2) (fun (u : Int32 × Int32 × Int32 × Int32 × Int32) (t : State) => kE D A [(h0, .inr (5, [.int on, .int oo, .int og, .ref h1, .ref h2, .int (u.1), .int (u.2.1), .int (u.2.2.1), .int (u.2.2.2.1), .int okn, .int (u.2.2.2.2)])), (h1, .inl (cI, orl, .inl ork)), (h2, .inl (cI, owl, .inl oww))] t) A) ([.ref h0, .int a1] : List Value).toArray s 0 0 A) (F0 m 14 ls [.int s0_j14, .ref h0]) := by
    intro s0_j14 H locs ls hP hD hS hv hl
    refine kw_i (wr := []) (va_runV (As := [.int s0_j14]) (rest := []) ⟨hx, hb, hml, hown, hts⟩ (kX3_isThrown_W l D cI cB h0 h1 h2 on oo og orl ork owl oww ost ord oac ore okn oth s0_j14 _ _ hv) (cwV 1 hts gX3_go_X3_isThrown_ rfl rfl rfl (by decide +kernel) ⟨Nat.le_of_ble_eq_true rfl, Nat.le_of_ble_eq_true rfl⟩) ⟨(kPreW (As := [.ref h0, .int s0_j14]) (hP.sub (ws' := [(h0, .inr (5, [.int on, .int oo, .int og, .ref h1, .ref h2, .int ost, .int ord, .int oac, .int ore, .int okn, .int oth])), (h1, .inl (cI, orl, .inl ork)), (h2, .inl (cI, owl, .inl oww))]) [0, 1, 2] rfl) (hD.sub (ws' := [(h0, .inr (5, [.int on, .int oo, .int og, .ref h1, .ref h2, .int ost, .int ord, .int oac, .int ore, .int okn, .int oth])), (h1, .inl (cI, orl, .inl ork)), (h2, .inl (cI, owl, .inl oww))]) [0, 1, 2] (by decide) rfl) hK hN).1, kRecv (hP.sub (ws' := [(h0, .inr (5, [.int on, .int oo, .int og, .ref h1, .ref h2, .int ost, .int ord, .int oac, .int ore, .int okn, .int oth])), (h1, .inl (cI, orl, .inl ork)), (h2, .inl (cI, owl, .inl oww))]) [0, 1, 2] rfl) hK 5 rfl rfl rfl, (kPreW (As := [.ref h0, .int s0_j14]) (hP.sub (ws' := [(h0, .inr (5, [.int on, .int oo, .int og, .ref h1, .ref h2, .int ost, .int ord, .int oac, .int ore, .int okn, .int oth])), (h1, .inl (cI, orl, .inl ork)), (h2, .inl (cI, owl, .inl oww))]) [0, 1, 2] rfl) (hD.sub (ws' := [(h0, .inr (5, [.int on, .int oo, .int og, .ref h1, .ref h2, .int ost, .int ord, .int oac, .int ore, .int okn, .int oth])), (h1, .inl (cI, orl, .inl ork)), (h2, .inl (cI, owl, .inl oww))]) [0, 1, 2] (by decide) rfl) hK hN).2⟩ rfl rfl hl.1 rfl (lv_room (Nat.le_of_ble_eq_true rfl)) dX3_go_14 ⟨Nat.le_of_ble_eq_true rfl, Nat.le_of_ble_eq_true rfl⟩) hP hD hS hA [0, 1, 2] [] rfl rfl (by decide) (by decide) (fun r14 u H locs hv hP hD hS => ?_)
    obtain ⟨x14_0, rfl⟩ : ∃ z, z = u := ⟨_, rfl⟩
    have hP : va_P D vwCl [(h0, .inr (5, [.int on, .int oo, .int og, .ref h1, .ref h2, .int ost, .int ord, .int oac, .int ore, .int okn, .int x14_0])), (h1, .inl (cI, orl, .inl ork)), (h2, .inl (cI, owl, .inl oww))] H := hP.sub [0, 1, 2] rfl
    have hD : va_D A [(h0, .inr (5, [.int on, .int oo, .int og, .ref h1, .ref h2, .int ost, .int ord, .int oac, .int ore, .int okn, .int x14_0])), (h1, .inl (cI, orl, .inl ork)), (h2, .inl (cI, owl, .inl oww))] := hD.sub [0, 1, 2] (by decide) rfl
    refine lv_if_eq (tgt := 22) hx hb dX3_go_17 (by decide) (fun hc => ?_) (fun hc => ?_)
    · have hv := hv.1 hc
      refine lv_aload_n hx hb dX3_go_22 rfl (lv_at hl 0 rfl) ?_
      refine va_get (D := D) (ci := 5) (v := .ref h2) (C := RX3) (T := TX3) (N := 11) hx hb hts hi_X3 hown hK hP 0 rfl rfl 4 (by decide) hF30 (fun _ h9 => h9) rfl dX3_go_23 ?_
      refine lv_aload_n hx hb dX3_go_26 rfl (lv_at hl 0 rfl) ?_
      refine va_get (D := D) (ci := 5) (v := .int ost) (C := RX3) (T := TX3) (N := 11) hx hb hts hi_X3 hown hK hP 0 rfl rfl 5 (by decide) hF33 (fun _ h9 => h9) rfl dX3_go_27 ?_
      obtain ⟨hq, hv⟩ := hv
      refine va_iald hx hb hK hP 2 0 rfl rfl hq dX3_go_30 ?_
      refine lv_iload_n hx hb dX3_go_31 rfl (lv_at hl 1 rfl) ?_
      refine kc_S (As := [.int (oww ost.toNatClampNeg), .int a1]) (rest := []) ⟨hx, hb, hml, hown, hts⟩ (kX3_isIn l D cI cB (oww ost.toNatClampNeg) a1 _ hv) (va_cwS 2 hts gX3_go_X3_isIn rfl rfl rfl (by decide +kernel) ⟨Nat.le_of_ble_eq_true rfl, Nat.le_of_ble_eq_true rfl⟩) (hP.sub (ws' := []) [] rfl) hK hN rfl hl.1 rfl (Nat.le_of_ble_eq_true rfl) dX3_go_32 ⟨Nat.le_of_ble_eq_true rfl, Nat.le_of_ble_eq_true rfl⟩ (fun r32 hv => ?_)
      refine lv_if_ne (tgt := 43) hx hb dX3_go_35 (by decide) (fun hc => ?_) (fun hc => ?_)
      · have hv := hv.1 hc
        refine lv_aload_n hx hb dX3_go_43 rfl (lv_at hl 0 rfl) ?_
        refine lv_iload_n hx hb dX3_go_44 rfl (lv_at hl 1 rfl) ?_
        refine va_put (D := D) (ci := 5) (v := .int a1) (ty := .int) (C := RX3) (T := TX3) (N := 11) hx hb hts hi_X3 tyX3 tyX3_ok nmX3 hown hK hP hD hS 0 rfl rfl 5 (by decide) hF33 (fun _ h9 => h9) rfl (by decide +kernel) rfl rfl (Nat.le_of_ble_eq_true rfl) dX3_go_45 (fun H locs hP hD hS => ?_)
        have hP : va_P D vwCl [(h0, .inr (5, [.int on, .int oo, .int og, .ref h1, .ref h2, .int a1, .int ord, .int oac, .int ore, .int okn, .int x14_0])), (h1, .inl (cI, orl, .inl ork)), (h2, .inl (cI, owl, .inl oww))] H := hP
        have hD : va_D A [(h0, .inr (5, [.int on, .int oo, .int og, .ref h1, .ref h2, .int a1, .int ord, .int oac, .int ore, .int okn, .int x14_0])), (h1, .inl (cI, orl, .inl ork)), (h2, .inl (cI, owl, .inl oww))] := hD
        refine lv_aload_n hx hb dX3_go_48 rfl (lv_at hl 0 rfl) ?_
        refine lv_dup hx hb dX3_go_49 rfl ?_
        refine va_get (D := D) (ci := 5) (v := .int ord) (C := RX3) (T := TX3) (N := 11) hx hb hts hi_X3 hown hK hP 0 rfl rfl 6 (by decide) hF36 (fun _ h9 => h9) rfl dX3_go_50 ?_
        refine lv_iconst (v := (1 : Int32)) hx hb dX3_go_53 (by decide) ?_
        refine lv_iadd hx hb dX3_go_54 ?_
        refine va_put (D := D) (ci := 5) (v := .int (ord + (1 : Int32))) (ty := .int) (C := RX3) (T := TX3) (N := 11) hx hb hts hi_X3 tyX3 tyX3_ok nmX3 hown hK hP hD hS 0 rfl rfl 6 (by decide) hF36 (fun _ h9 => h9) rfl (by decide +kernel) rfl rfl (Nat.le_of_ble_eq_true rfl) dX3_go_55 (fun H locs hP hD hS => ?_)
        have hP : va_P D vwCl [(h0, .inr (5, [.int on, .int oo, .int og, .ref h1, .ref h2, .int a1, .int (ord + (1 : Int32)), .int oac, .int ore, .int okn, .int x14_0])), (h1, .inl (cI, orl, .inl ork)), (h2, .inl (cI, owl, .inl oww))] H := hP
        have hD : va_D A [(h0, .inr (5, [.int on, .int oo, .int og, .ref h1, .ref h2, .int a1, .int (ord + (1 : Int32)), .int oac, .int ore, .int okn, .int x14_0])), (h1, .inl (cI, orl, .inl ork)), (h2, .inl (cI, owl, .inl oww))] := hD
        refine lv_aload_n hx hb dX3_go_58 rfl (lv_at hl 0 rfl) ?_
        refine lv_aload_n hx hb dX3_go_59 rfl (lv_at hl 0 rfl) ?_
        refine va_get (D := D) (ci := 5) (v := .int (ord + (1 : Int32))) (C := RX3) (T := TX3) (N := 11) hx hb hts hi_X3 hown hK hP 0 rfl rfl 6 (by decide) hF36 (fun _ h9 => h9) rfl dX3_go_60 ?_
        refine kw_i (wr := []) (va_runV (As := [.int (ord + (1 : Int32))]) (rest := []) ⟨hx, hb, hml, hown, hts⟩ (kX3_doneW l D cI cB h0 h1 h2 on oo og orl ork owl oww a1 (ord + (1 : Int32)) oac ore okn x14_0 (ord + (1 : Int32)) _ _ hv) (cwV 1 hts gX3_go_X3_done rfl rfl rfl (by decide +kernel) ⟨Nat.le_of_ble_eq_true rfl, Nat.le_of_ble_eq_true rfl⟩) ⟨(kPreW (As := [.ref h0, .int (ord + (1 : Int32))]) (hP.sub (ws' := [(h0, .inr (5, [.int on, .int oo, .int og, .ref h1, .ref h2, .int a1, .int (ord + (1 : Int32)), .int oac, .int ore, .int okn, .int x14_0])), (h1, .inl (cI, orl, .inl ork)), (h2, .inl (cI, owl, .inl oww))]) [0, 1, 2] rfl) (hD.sub (ws' := [(h0, .inr (5, [.int on, .int oo, .int og, .ref h1, .ref h2, .int a1, .int (ord + (1 : Int32)), .int oac, .int ore, .int okn, .int x14_0])), (h1, .inl (cI, orl, .inl ork)), (h2, .inl (cI, owl, .inl oww))]) [0, 1, 2] (by decide) rfl) hK hN).1, kRecv (hP.sub (ws' := [(h0, .inr (5, [.int on, .int oo, .int og, .ref h1, .ref h2, .int a1, .int (ord + (1 : Int32)), .int oac, .int ore, .int okn, .int x14_0])), (h1, .inl (cI, orl, .inl ork)), (h2, .inl (cI, owl, .inl oww))]) [0, 1, 2] rfl) hK 5 rfl rfl rfl, (kPreW (As := [.ref h0, .int (ord + (1 : Int32))]) (hP.sub (ws' := [(h0, .inr (5, [.int on, .int oo, .int og, .ref h1, .ref h2, .int a1, .int (ord + (1 : Int32)), .int oac, .int ore, .int okn, .int x14_0])), (h1, .inl (cI, orl, .inl ork)), (h2, .inl (cI, owl, .inl oww))]) [0, 1, 2] rfl) (hD.sub (ws' := [(h0, .inr (5, [.int on, .int oo, .int og, .ref h1, .ref h2, .int a1, .int (ord + (1 : Int32)), .int oac, .int ore, .int okn, .int x14_0])), (h1, .inl (cI, orl, .inl ork)), (h2, .inl (cI, owl, .inl oww))]) [0, 1, 2] (by decide) rfl) hK hN).2⟩ rfl rfl hl.1 rfl (lv_room (Nat.le_of_ble_eq_true rfl)) dX3_go_63 ⟨Nat.le_of_ble_eq_true rfl, Nat.le_of_ble_eq_true rfl⟩) hP hD hS hA [0, 1, 2] [] rfl rfl (by decide) (by decide) (fun r63 u H locs hv hP hD hS => ?_)
        obtain ⟨x63_0, rfl⟩ : ∃ z, z = u := ⟨_, rfl⟩
        have hP : va_P D vwCl [(h0, .inr (5, [.int on, .int oo, .int og, .ref h1, .ref h2, .int a1, .int (ord + (1 : Int32)), .int x63_0, .int ore, .int okn, .int x14_0])), (h1, .inl (cI, orl, .inl ork)), (h2, .inl (cI, owl, .inl oww))] H := hP.sub [0, 1, 2] rfl
        have hD : va_D A [(h0, .inr (5, [.int on, .int oo, .int og, .ref h1, .ref h2, .int a1, .int (ord + (1 : Int32)), .int x63_0, .int ore, .int okn, .int x14_0])), (h1, .inl (cI, orl, .inl ork)), (h2, .inl (cI, owl, .inl oww))] := hD.sub [0, 1, 2] (by decide) rfl
        refine W.widen (k := 0) (n := 0) (Nat.le_of_ble_eq_true rfl) (Nat.le_of_ble_eq_true rfl) ?_
        exact W.iret (v := r63) hx hb hr (kWi_ret (u := (a1, (ord + (1 : Int32)), x63_0, ore, x14_0)) hv hP hD hS) hS.2.2 dX3_go_66
      · have hv := hv.2 hc
        refine lv_aload_n hx hb dX3_go_38 rfl (lv_at hl 0 rfl) ?_
        refine kw_i (wr := []) (va_runV (As := []) (rest := []) ⟨hx, hb, hml, hown, hts⟩ (kX3_noW l D cI cB h0 h1 h2 on oo og orl ork owl oww ost ord oac ore okn x14_0 _ _ hv) (cwV 0 hts gX3_go_X3_no rfl rfl rfl (by decide +kernel) ⟨Nat.le_of_ble_eq_true rfl, Nat.le_of_ble_eq_true rfl⟩) ⟨(kPreW (As := [.ref h0]) (hP.sub (ws' := [(h0, .inr (5, [.int on, .int oo, .int og, .ref h1, .ref h2, .int ost, .int ord, .int oac, .int ore, .int okn, .int x14_0])), (h1, .inl (cI, orl, .inl ork)), (h2, .inl (cI, owl, .inl oww))]) [0, 1, 2] rfl) (hD.sub (ws' := [(h0, .inr (5, [.int on, .int oo, .int og, .ref h1, .ref h2, .int ost, .int ord, .int oac, .int ore, .int okn, .int x14_0])), (h1, .inl (cI, orl, .inl ork)), (h2, .inl (cI, owl, .inl oww))]) [0, 1, 2] (by decide) rfl) hK hN).1, kRecv (hP.sub (ws' := [(h0, .inr (5, [.int on, .int oo, .int og, .ref h1, .ref h2, .int ost, .int ord, .int oac, .int ore, .int okn, .int x14_0])), (h1, .inl (cI, orl, .inl ork)), (h2, .inl (cI, owl, .inl oww))]) [0, 1, 2] rfl) hK 5 rfl rfl rfl, (kPreW (As := [.ref h0]) (hP.sub (ws' := [(h0, .inr (5, [.int on, .int oo, .int og, .ref h1, .ref h2, .int ost, .int ord, .int oac, .int ore, .int okn, .int x14_0])), (h1, .inl (cI, orl, .inl ork)), (h2, .inl (cI, owl, .inl oww))]) [0, 1, 2] rfl) (hD.sub (ws' := [(h0, .inr (5, [.int on, .int oo, .int og, .ref h1, .ref h2, .int ost, .int ord, .int oac, .int ore, .int okn, .int x14_0])), (h1, .inl (cI, orl, .inl ork)), (h2, .inl (cI, owl, .inl oww))]) [0, 1, 2] (by decide) rfl) hK hN).2⟩ rfl rfl hl.1 rfl (lv_room (Nat.le_of_ble_eq_true rfl)) dX3_go_39 ⟨Nat.le_of_ble_eq_true rfl, Nat.le_of_ble_eq_true rfl⟩) hP hD hS hA [0, 1, 2] [] rfl rfl (by decide) (by decide) (fun r39 u H locs hv hP hD hS => ?_)
        obtain ⟨x39_0, rfl⟩ : ∃ z, z = u := ⟨_, rfl⟩
        have hP : va_P D vwCl [(h0, .inr (5, [.int on, .int oo, .int og, .ref h1, .ref h2, .int ost, .int ord, .int oac, .int x39_0, .int okn, .int x14_0])), (h1, .inl (cI, orl, .inl ork)), (h2, .inl (cI, owl, .inl oww))] H := hP.sub [0, 1, 2] rfl
        have hD : va_D A [(h0, .inr (5, [.int on, .int oo, .int og, .ref h1, .ref h2, .int ost, .int ord, .int oac, .int x39_0, .int okn, .int x14_0])), (h1, .inl (cI, orl, .inl ork)), (h2, .inl (cI, owl, .inl oww))] := hD.sub [0, 1, 2] (by decide) rfl
        refine W.widen (k := 0) (n := 0) (Nat.le_of_ble_eq_true rfl) (Nat.le_of_ble_eq_true rfl) ?_
        exact W.iret (v := r39) hx hb hr (kWi_ret (u := (ost, ord, oac, x39_0, x14_0)) hv hP hD hS) hS.2.2 dX3_go_42
    · have hv := hv.2 hc
      refine lv_iconst (v := (0 : Int32)) hx hb dX3_go_20 (by decide) ?_
      refine W.widen (k := 0) (n := 0) (Nat.le_of_ble_eq_true rfl) (Nat.le_of_ble_eq_true rfl) ?_
      exact W.iret (v := (0 : Int32)) hx hb hr (kWi_ret (u := (ost, ord, oac, ore, x14_0)) hv hP hD hS) hS.2.2 dX3_go_21
  refine lv_if_ne (tgt := 13) hx hb dX3_go_6 (by decide) (fun hc => ?_) (fun hc => ?_)
  · have hv := hv.1 hc
    refine lv_iconst (v := (0 : Int32)) hx hb dX3_go_13 (by decide) ?_
    refine W.widen (k := 0) (n := 0) (Nat.le_of_ble_eq_true rfl) (Nat.le_of_ble_eq_true rfl) ?_
    exact J14 _ _ _ _ hP hD hS hv (lv_sub hl [0, 1] rfl)
  · have hv := hv.2 hc
    refine lv_iconst (v := (1 : Int32)) hx hb dX3_go_9 (by decide) ?_
    refine lv_goto (tgt := 14) hx hb dX3_go_10 (by decide) ?_
    refine W.widen (k := 0) (n := 0) (Nat.le_of_ble_eq_true rfl) (Nat.le_of_ble_eq_true rfl) ?_
    exact J14 _ _ _ _ hP hD hS hv (lv_sub hl [0, 1] rfl)
set_option maxHeartbeats 4000000 in
set_option maxRecDepth 100000 in
theorem kX3_followW (l : Launch) (D : va_G) (cI cB : ClassId) (h0 : Nat) (h1 : Nat) (h2 : Nat) (on : Int32) (oo : Int32) (og : Int32) (orl : Nat) (ork : Nat → Int32) (owl : Nat) (oww : Nat → Int32) (ost : Int32) (ord : Int32) (oac : Int32) (ore : Int32) (okn : Int32) (oth : Int32) (a1 : Int32) (sz : Nat) (post : Int32 → Int32 → Int32 → Int32 → Int32 → Int32 → Prop) (hv : qX3_followW on oo og orl ork owl oww ost ord oac ore a1 post) : Met l yX3_follow wsX3_follow ({ frames := 7, cells := 0, slots := 0, locals := 160 }) (va_Pc [.ref h0, .int a1] (kBW D cI cB sz [(h0, .inr (5, [.int on, .int oo, .int og, .ref h1, .ref h2, .int ost, .int ord, .int oac, .int ore, .int okn, .int oth])), (h1, .inl (cI, orl, .inl ork)), (h2, .inl (cI, owl, .inl oww))])) (va_Qi (fun (r : Int32) (u : Int32 × Int32 × Int32 × Int32 × Int32) => post r u.1 u.2.1 u.2.2.1 u.2.2.2.1 u.2.2.2.2) (fun (u : Int32 × Int32 × Int32 × Int32 × Int32) (t : State) => kE D (va_A [(h0, .inr (5, [.int on, .int oo, .int og, .ref h1, .ref h2, .int ost, .int ord, .int oac, .int ore, .int okn, .int oth])), (h1, .inl (cI, orl, .inl ork)), (h2, .inl (cI, owl, .inl oww))] sz) [(h0, .inr (5, [.int on, .int oo, .int og, .ref h1, .ref h2, .int (u.1), .int (u.2.1), .int (u.2.2.1), .int (u.2.2.2.1), .int okn, .int (u.2.2.2.2)])), (h1, .inl (cI, orl, .inl ork)), (h2, .inl (cI, owl, .inl oww))] t) (va_A [(h0, .inr (5, [.int on, .int oo, .int og, .ref h1, .ref h2, .int ost, .int ord, .int oac, .int ore, .int okn, .int oth])), (h1, .inl (cI, orl, .inl ork)), (h2, .inl (cI, owl, .inl oww))] sz)) 0 0 (va_A [(h0, .inr (5, [.int on, .int oo, .int og, .ref h1, .ref h2, .int ost, .int ord, .int oac, .int ore, .int okn, .int oth])), (h1, .inl (cI, orl, .inl ork)), (h2, .inl (cI, owl, .inl oww))] sz) := by
  refine Met.ofW (cc := cX3_follow) (maxL := 3) (ret := (some .int)) (by decide) rfl ?_
  intro p e s m args below meth c s₁ B hml hv0
  obtain ⟨rfl, hsz, ⟨hP, hK, hN⟩, hD0⟩ := hv0
  have hx := B.exec
  have hb := B.bytes
  have hr := B.returns
  have hts := atoms_spec (ws := wsX3_follow) B.pre
  have hown : s.vm.findClass RX3 = some m.cls := findClass_of_methodNamed B.named
  have hlocks := B.notSynchronized
  have hi_X3 : ∀ w ∈ wsX30, w ∈ wsX3_follow := by decide +kernel
  have hF33 := hts (.fieldLink RX3 33 "RoadgameModel" "stone" "I") (by decide +kernel)
  have hF36 := hts (.fieldLink RX3 36 "RoadgameModel" "rounds" "I") (by decide +kernel)
  subst hsz
  have hD := hD0.self (sz := s.heap.size)
  generalize hAe : va_A [(h0, .inr (5, [.int on, .int oo, .int og, .ref h1, .ref h2, .int ost, .int ord, .int oac, .int ore, .int okn, .int oth])), (h1, .inl (cI, orl, .inl ork)), (h2, .inl (cI, owl, .inl oww))] s.heap.size = A at hD ⊢
  have hA : ∀ q : Nat, s.heap.size ≤ q → A q := fun q h => by rw [← hAe]; exact Or.inr h
  have hS : va_S A s.heap s.heap [] := va_S.rf
  have hl := lv_entry ([.ref h0, .int a1]) (n := 3) (Nat.le_of_ble_eq_true rfl)
  rw [lg_entry_eq]
  generalize (lg_sl ([.ref h0, .int a1]) ++ List.replicate (3 - (lg_sl ([.ref h0, .int a1])).length) Slot.unset).toArray = ls at hl ⊢
  have hl : lv_has ls 3 [(0, .ref h0), (1, .int a1)] := hl
  refine lv_aload_n hx hb dX3_follow_0 rfl (lv_at hl 0 rfl) ?_
  refine lv_iload_n hx hb dX3_follow_1 rfl (lv_at hl 1 rfl) ?_
  have J15 : ∀ (s0_j15 : Int32) (H : Heap) (locs : List Loc) (ls : Array Slot), va_P D vwCl [(h0, .inr (5, [.int on, .int oo, .int og, .ref h1, .ref h2, .int ost, .int ord, .int oac, .int ore, .int okn, .int oth])), (h1, .inl (cI, orl, .inl ork)), (h2, .inl (cI, owl, .inl oww))] H → va_D A [(h0, .inr (5, [.int on, .int oo, .int og, .ref h1, .ref h2, .int ost, .int ord, .int oac, .int ore, .int okn, .int oth])), (h1, .inl (cI, orl, .inl ork)), (h2, .inl (cI, owl, .inl oww))] → va_S A s.heap H locs → qX3_followW_j15 on oo og orl ork owl oww ost ord oac ore a1 s0_j15 post → lv_has ls 3 [(0, .ref h0), (1, .int a1)] → W p l e (headSpec wsX3_follow ({ frames := 7, cells := 0, slots := 0, locals := 160 })).room s m ([.ref h0, .int a1] : List Value).toArray below meth c H locs 0 0 (MQ below (va_Qi (fun (r : Int32) (u : Int32 × Int32 × Int32 × Int32 × Int32) => post r u.1 u.2.1 u.2.2.1 u.2.2.2.1 u.2.2.2.2) (fun (u : Int32 × Int32 × Int32 × Int32 × Int32) (t : State) => kE D A [(h0, .inr (5, [.int on, .int oo, .int og, .ref h1, .ref h2, .int (u.1), .int (u.2.1), .int (u.2.2.1), .int (u.2.2.2.1), .int okn, .int (u.2.2.2.2)])), (h1, .inl (cI, orl, .inl ork)), (h2, .inl (cI, owl, .inl oww))] t) A) ([.ref h0, .int a1] : List Value).toArray s 0 0 A) (F0 m 15 ls [.int s0_j15, .ref h0]) := by
    intro s0_j15 H locs ls hP hD hS hv hl
    refine kw_i (wr := []) (va_runV (As := [.int s0_j15]) (rest := []) ⟨hx, hb, hml, hown, hts⟩ (kX3_isThrown_W l D cI cB h0 h1 h2 on oo og orl ork owl oww ost ord oac ore okn oth s0_j15 _ _ hv) (cwV 1 hts gX3_follow_X3_isThrown_ rfl rfl rfl (by decide +kernel) ⟨Nat.le_of_ble_eq_true rfl, Nat.le_of_ble_eq_true rfl⟩) ⟨(kPreW (As := [.ref h0, .int s0_j15]) (hP.sub (ws' := [(h0, .inr (5, [.int on, .int oo, .int og, .ref h1, .ref h2, .int ost, .int ord, .int oac, .int ore, .int okn, .int oth])), (h1, .inl (cI, orl, .inl ork)), (h2, .inl (cI, owl, .inl oww))]) [0, 1, 2] rfl) (hD.sub (ws' := [(h0, .inr (5, [.int on, .int oo, .int og, .ref h1, .ref h2, .int ost, .int ord, .int oac, .int ore, .int okn, .int oth])), (h1, .inl (cI, orl, .inl ork)), (h2, .inl (cI, owl, .inl oww))]) [0, 1, 2] (by decide) rfl) hK hN).1, kRecv (hP.sub (ws' := [(h0, .inr (5, [.int on, .int oo, .int og, .ref h1, .ref h2, .int ost, .int ord, .int oac, .int ore, .int okn, .int oth])), (h1, .inl (cI, orl, .inl ork)), (h2, .inl (cI, owl, .inl oww))]) [0, 1, 2] rfl) hK 5 rfl rfl rfl, (kPreW (As := [.ref h0, .int s0_j15]) (hP.sub (ws' := [(h0, .inr (5, [.int on, .int oo, .int og, .ref h1, .ref h2, .int ost, .int ord, .int oac, .int ore, .int okn, .int oth])), (h1, .inl (cI, orl, .inl ork)), (h2, .inl (cI, owl, .inl oww))]) [0, 1, 2] rfl) (hD.sub (ws' := [(h0, .inr (5, [.int on, .int oo, .int og, .ref h1, .ref h2, .int ost, .int ord, .int oac, .int ore, .int okn, .int oth])), (h1, .inl (cI, orl, .inl ork)), (h2, .inl (cI, owl, .inl oww))]) [0, 1, 2] (by decide) rfl) hK hN).2⟩ rfl rfl hl.1 rfl (lv_room (Nat.le_of_ble_eq_true rfl)) dX3_follow_15 ⟨Nat.le_of_ble_eq_true rfl, Nat.le_of_ble_eq_true rfl⟩) hP hD hS hA [0, 1, 2] [] rfl rfl (by decide) (by decide) (fun r15 u H locs hv hP hD hS => ?_)
    obtain ⟨x15_0, rfl⟩ : ∃ z, z = u := ⟨_, rfl⟩
    have hP : va_P D vwCl [(h0, .inr (5, [.int on, .int oo, .int og, .ref h1, .ref h2, .int ost, .int ord, .int oac, .int ore, .int okn, .int x15_0])), (h1, .inl (cI, orl, .inl ork)), (h2, .inl (cI, owl, .inl oww))] H := hP.sub [0, 1, 2] rfl
    have hD : va_D A [(h0, .inr (5, [.int on, .int oo, .int og, .ref h1, .ref h2, .int ost, .int ord, .int oac, .int ore, .int okn, .int x15_0])), (h1, .inl (cI, orl, .inl ork)), (h2, .inl (cI, owl, .inl oww))] := hD.sub [0, 1, 2] (by decide) rfl
    refine lv_if_eq (tgt := 23) hx hb dX3_follow_18 (by decide) (fun hc => ?_) (fun hc => ?_)
    · have hv := hv.1 hc
      refine lv_aload_n hx hb dX3_follow_23 rfl (lv_at hl 0 rfl) ?_
      refine lv_iload_n hx hb dX3_follow_24 rfl (lv_at hl 1 rfl) ?_
      refine lv_aload_n hx hb dX3_follow_25 rfl (lv_at hl 0 rfl) ?_
      refine lv_aload_n hx hb dX3_follow_26 rfl (lv_at hl 0 rfl) ?_
      refine va_get (D := D) (ci := 5) (v := .int ost) (C := RX3) (T := TX3) (N := 11) hx hb hts hi_X3 hown hK hP 0 rfl rfl 5 (by decide) hF33 (fun _ h9 => h9) rfl dX3_follow_27 ?_
      refine kc_V (As := [.int ost]) (rest := [.int a1, .ref h0]) ⟨hx, hb, hml, hown, hts⟩ (kX3_sideOf l D cI cB h0 h1 h2 on oo og orl ork owl oww ost ord oac ore okn x15_0 ost _ hv) (cwV 1 hts gX3_follow_X3_sideOf rfl rfl rfl (by decide +kernel) ⟨Nat.le_of_ble_eq_true rfl, Nat.le_of_ble_eq_true rfl⟩) hP hK hN 5 rfl rfl rfl rfl hl.1 rfl (Nat.le_of_ble_eq_true rfl) dX3_follow_30 ⟨Nat.le_of_ble_eq_true rfl, Nat.le_of_ble_eq_true rfl⟩ (fun r30 hv => ?_)
      refine lv_aload_n hx hb dX3_follow_33 rfl (lv_at hl 0 rfl) ?_
      refine va_get (D := D) (ci := 5) (v := .int ost) (C := RX3) (T := TX3) (N := 11) hx hb hts hi_X3 hown hK hP 0 rfl rfl 5 (by decide) hF33 (fun _ h9 => h9) rfl dX3_follow_34 ?_
      refine kc_V (As := [.int a1, .int r30, .int ost]) (rest := []) ⟨hx, hb, hml, hown, hts⟩ (kX3_choiceOf l D cI cB h0 h1 h2 on oo og orl ork owl oww ost ord oac ore okn x15_0 a1 r30 ost _ hv) (cwV 3 hts gX3_follow_X3_choiceOf rfl rfl rfl (by decide +kernel) ⟨Nat.le_of_ble_eq_true rfl, Nat.le_of_ble_eq_true rfl⟩) hP hK hN 5 rfl rfl rfl rfl hl.1 rfl (Nat.le_of_ble_eq_true rfl) dX3_follow_37 ⟨Nat.le_of_ble_eq_true rfl, Nat.le_of_ble_eq_true rfl⟩ (fun r37 hv => ?_)
      refine lv_istore_n (lv' := [(2, .int r37), (0, .ref h0), (1, .int a1)]) hx hb dX3_follow_40 rfl hl (by decide) rfl (fun ls hl => ?_)
      refine lv_iload_n hx hb dX3_follow_41 rfl (lv_at hl 0 rfl) ?_
      refine lv_if_ge (tgt := 50) hx hb dX3_follow_42 (by decide) (fun hc => ?_) (fun hc => ?_)
      · have hv := hv.1 hc
        refine lv_aload_n hx hb dX3_follow_50 rfl (lv_at hl 1 rfl) ?_
        refine lv_iload_n hx hb dX3_follow_51 rfl (lv_at hl 0 rfl) ?_
        refine va_put (D := D) (ci := 5) (v := .int r37) (ty := .int) (C := RX3) (T := TX3) (N := 11) hx hb hts hi_X3 tyX3 tyX3_ok nmX3 hown hK hP hD hS 0 rfl rfl 5 (by decide) hF33 (fun _ h9 => h9) rfl (by decide +kernel) rfl rfl (Nat.le_of_ble_eq_true rfl) dX3_follow_52 (fun H locs hP hD hS => ?_)
        have hP : va_P D vwCl [(h0, .inr (5, [.int on, .int oo, .int og, .ref h1, .ref h2, .int r37, .int ord, .int oac, .int ore, .int okn, .int x15_0])), (h1, .inl (cI, orl, .inl ork)), (h2, .inl (cI, owl, .inl oww))] H := hP
        have hD : va_D A [(h0, .inr (5, [.int on, .int oo, .int og, .ref h1, .ref h2, .int r37, .int ord, .int oac, .int ore, .int okn, .int x15_0])), (h1, .inl (cI, orl, .inl ork)), (h2, .inl (cI, owl, .inl oww))] := hD
        refine lv_aload_n hx hb dX3_follow_55 rfl (lv_at hl 1 rfl) ?_
        refine lv_dup hx hb dX3_follow_56 rfl ?_
        refine va_get (D := D) (ci := 5) (v := .int ord) (C := RX3) (T := TX3) (N := 11) hx hb hts hi_X3 hown hK hP 0 rfl rfl 6 (by decide) hF36 (fun _ h9 => h9) rfl dX3_follow_57 ?_
        refine lv_iconst (v := (1 : Int32)) hx hb dX3_follow_60 (by decide) ?_
        refine lv_iadd hx hb dX3_follow_61 ?_
        refine va_put (D := D) (ci := 5) (v := .int (ord + (1 : Int32))) (ty := .int) (C := RX3) (T := TX3) (N := 11) hx hb hts hi_X3 tyX3 tyX3_ok nmX3 hown hK hP hD hS 0 rfl rfl 6 (by decide) hF36 (fun _ h9 => h9) rfl (by decide +kernel) rfl rfl (Nat.le_of_ble_eq_true rfl) dX3_follow_62 (fun H locs hP hD hS => ?_)
        have hP : va_P D vwCl [(h0, .inr (5, [.int on, .int oo, .int og, .ref h1, .ref h2, .int r37, .int (ord + (1 : Int32)), .int oac, .int ore, .int okn, .int x15_0])), (h1, .inl (cI, orl, .inl ork)), (h2, .inl (cI, owl, .inl oww))] H := hP
        have hD : va_D A [(h0, .inr (5, [.int on, .int oo, .int og, .ref h1, .ref h2, .int r37, .int (ord + (1 : Int32)), .int oac, .int ore, .int okn, .int x15_0])), (h1, .inl (cI, orl, .inl ork)), (h2, .inl (cI, owl, .inl oww))] := hD
        refine lv_aload_n hx hb dX3_follow_65 rfl (lv_at hl 1 rfl) ?_
        refine lv_aload_n hx hb dX3_follow_66 rfl (lv_at hl 1 rfl) ?_
        refine va_get (D := D) (ci := 5) (v := .int r37) (C := RX3) (T := TX3) (N := 11) hx hb hts hi_X3 hown hK hP 0 rfl rfl 5 (by decide) hF33 (fun _ h9 => h9) rfl dX3_follow_67 ?_
        refine kw_i (wr := []) (va_runV (As := [.int r37]) (rest := []) ⟨hx, hb, hml, hown, hts⟩ (kX3_doneW l D cI cB h0 h1 h2 on oo og orl ork owl oww r37 (ord + (1 : Int32)) oac ore okn x15_0 r37 _ _ hv) (cwV 1 hts gX3_follow_X3_done rfl rfl rfl (by decide +kernel) ⟨Nat.le_of_ble_eq_true rfl, Nat.le_of_ble_eq_true rfl⟩) ⟨(kPreW (As := [.ref h0, .int r37]) (hP.sub (ws' := [(h0, .inr (5, [.int on, .int oo, .int og, .ref h1, .ref h2, .int r37, .int (ord + (1 : Int32)), .int oac, .int ore, .int okn, .int x15_0])), (h1, .inl (cI, orl, .inl ork)), (h2, .inl (cI, owl, .inl oww))]) [0, 1, 2] rfl) (hD.sub (ws' := [(h0, .inr (5, [.int on, .int oo, .int og, .ref h1, .ref h2, .int r37, .int (ord + (1 : Int32)), .int oac, .int ore, .int okn, .int x15_0])), (h1, .inl (cI, orl, .inl ork)), (h2, .inl (cI, owl, .inl oww))]) [0, 1, 2] (by decide) rfl) hK hN).1, kRecv (hP.sub (ws' := [(h0, .inr (5, [.int on, .int oo, .int og, .ref h1, .ref h2, .int r37, .int (ord + (1 : Int32)), .int oac, .int ore, .int okn, .int x15_0])), (h1, .inl (cI, orl, .inl ork)), (h2, .inl (cI, owl, .inl oww))]) [0, 1, 2] rfl) hK 5 rfl rfl rfl, (kPreW (As := [.ref h0, .int r37]) (hP.sub (ws' := [(h0, .inr (5, [.int on, .int oo, .int og, .ref h1, .ref h2, .int r37, .int (ord + (1 : Int32)), .int oac, .int ore, .int okn, .int x15_0])), (h1, .inl (cI, orl, .inl ork)), (h2, .inl (cI, owl, .inl oww))]) [0, 1, 2] rfl) (hD.sub (ws' := [(h0, .inr (5, [.int on, .int oo, .int og, .ref h1, .ref h2, .int r37, .int (ord + (1 : Int32)), .int oac, .int ore, .int okn, .int x15_0])), (h1, .inl (cI, orl, .inl ork)), (h2, .inl (cI, owl, .inl oww))]) [0, 1, 2] (by decide) rfl) hK hN).2⟩ rfl rfl hl.1 rfl (lv_room (Nat.le_of_ble_eq_true rfl)) dX3_follow_70 ⟨Nat.le_of_ble_eq_true rfl, Nat.le_of_ble_eq_true rfl⟩) hP hD hS hA [0, 1, 2] [] rfl rfl (by decide) (by decide) (fun r70 u H locs hv hP hD hS => ?_)
        obtain ⟨x70_0, rfl⟩ : ∃ z, z = u := ⟨_, rfl⟩
        have hP : va_P D vwCl [(h0, .inr (5, [.int on, .int oo, .int og, .ref h1, .ref h2, .int r37, .int (ord + (1 : Int32)), .int x70_0, .int ore, .int okn, .int x15_0])), (h1, .inl (cI, orl, .inl ork)), (h2, .inl (cI, owl, .inl oww))] H := hP.sub [0, 1, 2] rfl
        have hD : va_D A [(h0, .inr (5, [.int on, .int oo, .int og, .ref h1, .ref h2, .int r37, .int (ord + (1 : Int32)), .int x70_0, .int ore, .int okn, .int x15_0])), (h1, .inl (cI, orl, .inl ork)), (h2, .inl (cI, owl, .inl oww))] := hD.sub [0, 1, 2] (by decide) rfl
        refine W.widen (k := 0) (n := 0) (Nat.le_of_ble_eq_true rfl) (Nat.le_of_ble_eq_true rfl) ?_
        exact W.iret (v := r70) hx hb hr (kWi_ret (u := (r37, (ord + (1 : Int32)), x70_0, ore, x15_0)) hv hP hD hS) hS.2.2 dX3_follow_73
      · have hv := hv.2 hc
        refine lv_aload_n hx hb dX3_follow_45 rfl (lv_at hl 1 rfl) ?_
        refine kw_i (wr := []) (va_runV (As := []) (rest := []) ⟨hx, hb, hml, hown, hts⟩ (kX3_noW l D cI cB h0 h1 h2 on oo og orl ork owl oww ost ord oac ore okn x15_0 _ _ hv) (cwV 0 hts gX3_follow_X3_no rfl rfl rfl (by decide +kernel) ⟨Nat.le_of_ble_eq_true rfl, Nat.le_of_ble_eq_true rfl⟩) ⟨(kPreW (As := [.ref h0]) (hP.sub (ws' := [(h0, .inr (5, [.int on, .int oo, .int og, .ref h1, .ref h2, .int ost, .int ord, .int oac, .int ore, .int okn, .int x15_0])), (h1, .inl (cI, orl, .inl ork)), (h2, .inl (cI, owl, .inl oww))]) [0, 1, 2] rfl) (hD.sub (ws' := [(h0, .inr (5, [.int on, .int oo, .int og, .ref h1, .ref h2, .int ost, .int ord, .int oac, .int ore, .int okn, .int x15_0])), (h1, .inl (cI, orl, .inl ork)), (h2, .inl (cI, owl, .inl oww))]) [0, 1, 2] (by decide) rfl) hK hN).1, kRecv (hP.sub (ws' := [(h0, .inr (5, [.int on, .int oo, .int og, .ref h1, .ref h2, .int ost, .int ord, .int oac, .int ore, .int okn, .int x15_0])), (h1, .inl (cI, orl, .inl ork)), (h2, .inl (cI, owl, .inl oww))]) [0, 1, 2] rfl) hK 5 rfl rfl rfl, (kPreW (As := [.ref h0]) (hP.sub (ws' := [(h0, .inr (5, [.int on, .int oo, .int og, .ref h1, .ref h2, .int ost, .int ord, .int oac, .int ore, .int okn, .int x15_0])), (h1, .inl (cI, orl, .inl ork)), (h2, .inl (cI, owl, .inl oww))]) [0, 1, 2] rfl) (hD.sub (ws' := [(h0, .inr (5, [.int on, .int oo, .int og, .ref h1, .ref h2, .int ost, .int ord, .int oac, .int ore, .int okn, .int x15_0])), (h1, .inl (cI, orl, .inl ork)), (h2, .inl (cI, owl, .inl oww))]) [0, 1, 2] (by decide) rfl) hK hN).2⟩ rfl rfl hl.1 rfl (lv_room (Nat.le_of_ble_eq_true rfl)) dX3_follow_46 ⟨Nat.le_of_ble_eq_true rfl, Nat.le_of_ble_eq_true rfl⟩) hP hD hS hA [0, 1, 2] [] rfl rfl (by decide) (by decide) (fun r46 u H locs hv hP hD hS => ?_)
        obtain ⟨x46_0, rfl⟩ : ∃ z, z = u := ⟨_, rfl⟩
        have hP : va_P D vwCl [(h0, .inr (5, [.int on, .int oo, .int og, .ref h1, .ref h2, .int ost, .int ord, .int oac, .int x46_0, .int okn, .int x15_0])), (h1, .inl (cI, orl, .inl ork)), (h2, .inl (cI, owl, .inl oww))] H := hP.sub [0, 1, 2] rfl
        have hD : va_D A [(h0, .inr (5, [.int on, .int oo, .int og, .ref h1, .ref h2, .int ost, .int ord, .int oac, .int x46_0, .int okn, .int x15_0])), (h1, .inl (cI, orl, .inl ork)), (h2, .inl (cI, owl, .inl oww))] := hD.sub [0, 1, 2] (by decide) rfl
        refine W.widen (k := 0) (n := 0) (Nat.le_of_ble_eq_true rfl) (Nat.le_of_ble_eq_true rfl) ?_
        exact W.iret (v := r46) hx hb hr (kWi_ret (u := (ost, ord, oac, x46_0, x15_0)) hv hP hD hS) hS.2.2 dX3_follow_49
    · have hv := hv.2 hc
      refine lv_iconst (v := (0 : Int32)) hx hb dX3_follow_21 (by decide) ?_
      refine W.widen (k := 0) (n := 0) (Nat.le_of_ble_eq_true rfl) (Nat.le_of_ble_eq_true rfl) ?_
      exact W.iret (v := (0 : Int32)) hx hb hr (kWi_ret (u := (ost, ord, oac, ore, x15_0)) hv hP hD hS) hS.2.2 dX3_follow_22
  have J10 : ∀  (H : Heap) (locs : List Loc) (ls : Array Slot), va_P D vwCl [(h0, .inr (5, [.int on, .int oo, .int og, .ref h1, .ref h2, .int ost, .int ord, .int oac, .int ore, .int okn, .int oth])), (h1, .inl (cI, orl, .inl ork)), (h2, .inl (cI, owl, .inl oww))] H → va_D A [(h0, .inr (5, [.int on, .int oo, .int og, .ref h1, .ref h2, .int ost, .int ord, .int oac, .int ore, .int okn, .int oth])), (h1, .inl (cI, orl, .inl ork)), (h2, .inl (cI, owl, .inl oww))] → va_S A s.heap H locs → qX3_followW_j10 on oo og orl ork owl oww ost ord oac ore a1 post → lv_has ls 3 [(0, .ref h0), (1, .int a1)] → W p l e (headSpec wsX3_follow ({ frames := 7, cells := 0, slots := 0, locals := 160 })).room s m ([.ref h0, .int a1] : List Value).toArray below meth c H locs 0 0 (MQ below (va_Qi (fun (r : Int32) (u : Int32 × Int32 × Int32 × Int32 × Int32) => post r u.1 u.2.1 u.2.2.1 u.2.2.2.1 u.2.2.2.2) (fun (u : Int32 × Int32 × Int32 × Int32 × Int32) (t : State) => kE D A [(h0, .inr (5, [.int on, .int oo, .int og, .ref h1, .ref h2, .int (u.1), .int (u.2.1), .int (u.2.2.1), .int (u.2.2.2.1), .int okn, .int (u.2.2.2.2)])), (h1, .inl (cI, orl, .inl ork)), (h2, .inl (cI, owl, .inl oww))] t) A) ([.ref h0, .int a1] : List Value).toArray s 0 0 A) (F0 m 10 ls [.ref h0]) := by
    intro  H locs ls hP hD hS hv hl
    refine lv_iconst (v := (1 : Int32)) hx hb dX3_follow_10 (by decide) ?_
    refine lv_goto (tgt := 15) hx hb dX3_follow_11 (by decide) ?_
    refine W.widen (k := 0) (n := 0) (Nat.le_of_ble_eq_true rfl) (Nat.le_of_ble_eq_true rfl) ?_
    exact J15 _ _ _ _ hP hD hS hv (lv_sub hl [0, 1] rfl)
  refine lv_if_lt (tgt := 10) hx hb dX3_follow_2 (by decide) (fun hc => ?_) (fun hc => ?_)
  · have hv := hv.1 hc
    refine W.widen (k := 0) (n := 0) (Nat.le_of_ble_eq_true rfl) (Nat.le_of_ble_eq_true rfl) ?_
    exact J10  _ _ _ hP hD hS hv (lv_sub hl [0, 1] rfl)
  · have hv := hv.2 hc
    refine lv_iload_n hx hb dX3_follow_5 rfl (lv_at hl 1 rfl) ?_
    refine lv_iconst (v := (2 : Int32)) hx hb dX3_follow_6 (by decide) ?_
    refine lv_icmp_le (tgt := 14) hx hb dX3_follow_7 (by decide) (fun hc => ?_) (fun hc => ?_)
    · have hv := hv.1 hc
      refine lv_iconst (v := (0 : Int32)) hx hb dX3_follow_14 (by decide) ?_
      refine W.widen (k := 0) (n := 0) (Nat.le_of_ble_eq_true rfl) (Nat.le_of_ble_eq_true rfl) ?_
      exact J15 _ _ _ _ hP hD hS hv (lv_sub hl [0, 1] rfl)
    · have hv := hv.2 hc
      refine W.widen (k := 0) (n := 0) (Nat.le_of_ble_eq_true rfl) (Nat.le_of_ble_eq_true rfl) ?_
      exact J10  _ _ _ hP hD hS hv (lv_sub hl [0, 1] rfl)
set_option maxHeartbeats 4000000 in
set_option maxRecDepth 100000 in
theorem kX3_toldW (l : Launch) (D : va_G) (cI cB : ClassId) (h0 : Nat) (h1 : Nat) (h2 : Nat) (on : Int32) (oo : Int32) (og : Int32) (orl : Nat) (ork : Nat → Int32) (owl : Nat) (oww : Nat → Int32) (ost : Int32) (ord : Int32) (oac : Int32) (ore : Int32) (okn : Int32) (oth : Int32) (a1 : Int32) (sz : Nat) (post : Int32 → Int32 → Prop) (hv : qX3_toldW on oo og owl oww ost ord a1 post) : Met l yX3_told wsX3_told ({ frames := 3, cells := 0, slots := 0, locals := 66 }) (va_Pc [.ref h0, .int a1] (kBW D cI cB sz [(h0, .inr (5, [.int on, .int oo, .int og, .ref h1, .ref h2, .int ost, .int ord, .int oac, .int ore, .int okn, .int oth])), (h1, .inl (cI, orl, .inl ork)), (h2, .inl (cI, owl, .inl oww))])) (va_Qi (fun (r : Int32) (u : Int32) => post r u) (fun (u : Int32) (t : State) => kE D (va_A [(h0, .inr (5, [.int on, .int oo, .int og, .ref h1, .ref h2, .int ost, .int ord, .int oac, .int ore, .int okn, .int oth])), (h1, .inl (cI, orl, .inl ork)), (h2, .inl (cI, owl, .inl oww))] sz) [(h0, .inr (5, [.int on, .int oo, .int og, .ref h1, .ref h2, .int ost, .int ord, .int oac, .int ore, .int okn, .int u])), (h1, .inl (cI, orl, .inl ork)), (h2, .inl (cI, owl, .inl oww))] t) (va_A [(h0, .inr (5, [.int on, .int oo, .int og, .ref h1, .ref h2, .int ost, .int ord, .int oac, .int ore, .int okn, .int oth])), (h1, .inl (cI, orl, .inl ork)), (h2, .inl (cI, owl, .inl oww))] sz)) 0 0 (va_A [(h0, .inr (5, [.int on, .int oo, .int og, .ref h1, .ref h2, .int ost, .int ord, .int oac, .int ore, .int okn, .int oth])), (h1, .inl (cI, orl, .inl ork)), (h2, .inl (cI, owl, .inl oww))] sz) := by
  refine Met.ofW (cc := cX3_told) (maxL := 2) (ret := (some .int)) (by decide) rfl ?_
  intro p e s m args below meth c s₁ B hml hv0
  obtain ⟨rfl, hsz, ⟨hP, hK, hN⟩, hD0⟩ := hv0
  have hx := B.exec
  have hb := B.bytes
  have hr := B.returns
  have hts := atoms_spec (ws := wsX3_told) B.pre
  have hown : s.vm.findClass RX3 = some m.cls := findClass_of_methodNamed B.named
  have hlocks := B.notSynchronized
  subst hsz
  have hD := hD0.self (sz := s.heap.size)
  generalize hAe : va_A [(h0, .inr (5, [.int on, .int oo, .int og, .ref h1, .ref h2, .int ost, .int ord, .int oac, .int ore, .int okn, .int oth])), (h1, .inl (cI, orl, .inl ork)), (h2, .inl (cI, owl, .inl oww))] s.heap.size = A at hD ⊢
  have hA : ∀ q : Nat, s.heap.size ≤ q → A q := fun q h => by rw [← hAe]; exact Or.inr h
  have hS : va_S A s.heap s.heap [] := va_S.rf
  have hl := lv_entry ([.ref h0, .int a1]) (n := 2) (Nat.le_of_ble_eq_true rfl)
  rw [lg_entry_eq]
  generalize (lg_sl ([.ref h0, .int a1]) ++ List.replicate (2 - (lg_sl ([.ref h0, .int a1])).length) Slot.unset).toArray = ls at hl ⊢
  have hl : lv_has ls 2 [(0, .ref h0), (1, .int a1)] := hl
  refine lv_aload_n hx hb dX3_told_0 rfl (lv_at hl 0 rfl) ?_
  refine lv_iload_n hx hb dX3_told_1 rfl (lv_at hl 1 rfl) ?_
  have J11 : ∀  (H : Heap) (locs : List Loc) (ls : Array Slot), va_P D vwCl [(h0, .inr (5, [.int on, .int oo, .int og, .ref h1, .ref h2, .int ost, .int ord, .int oac, .int ore, .int okn, .int oth])), (h1, .inl (cI, orl, .inl ork)), (h2, .inl (cI, owl, .inl oww))] H → va_D A [(h0, .inr (5, [.int on, .int oo, .int og, .ref h1, .ref h2, .int ost, .int ord, .int oac, .int ore, .int okn, .int oth])), (h1, .inl (cI, orl, .inl ork)), (h2, .inl (cI, owl, .inl oww))] → va_S A s.heap H locs → qX3_toldW_j11 on oo og owl oww ost ord a1 post → lv_has ls 2 [(0, .ref h0), (1, .int a1)] → W p l e (headSpec wsX3_told ({ frames := 3, cells := 0, slots := 0, locals := 66 })).room s m ([.ref h0, .int a1] : List Value).toArray below meth c H locs 0 0 (MQ below (va_Qi (fun (r : Int32) (u : Int32) => post r u) (fun (u : Int32) (t : State) => kE D A [(h0, .inr (5, [.int on, .int oo, .int og, .ref h1, .ref h2, .int ost, .int ord, .int oac, .int ore, .int okn, .int u])), (h1, .inl (cI, orl, .inl ork)), (h2, .inl (cI, owl, .inl oww))] t) A) ([.ref h0, .int a1] : List Value).toArray s 0 0 A) (F0 m 11 ls [.ref h0]) := by
    intro  H locs ls hP hD hS hv hl
    refine lv_iconst (v := (1 : Int32)) hx hb dX3_told_11 (by decide) ?_
    refine lv_goto (tgt := 16) hx hb dX3_told_12 (by decide) ?_
    refine kw_i (wr := []) (va_runV (As := [.int (1 : Int32)]) (rest := []) ⟨hx, hb, hml, hown, hts⟩ (kX3_isThrown_W l D cI cB h0 h1 h2 on oo og orl ork owl oww ost ord oac ore okn oth (1 : Int32) _ _ hv) (cwV 1 hts gX3_told_X3_isThrown_ rfl rfl rfl (by decide +kernel) ⟨Nat.le_of_ble_eq_true rfl, Nat.le_of_ble_eq_true rfl⟩) ⟨(kPreW (As := [.ref h0, .int (1 : Int32)]) (hP.sub (ws' := [(h0, .inr (5, [.int on, .int oo, .int og, .ref h1, .ref h2, .int ost, .int ord, .int oac, .int ore, .int okn, .int oth])), (h1, .inl (cI, orl, .inl ork)), (h2, .inl (cI, owl, .inl oww))]) [0, 1, 2] rfl) (hD.sub (ws' := [(h0, .inr (5, [.int on, .int oo, .int og, .ref h1, .ref h2, .int ost, .int ord, .int oac, .int ore, .int okn, .int oth])), (h1, .inl (cI, orl, .inl ork)), (h2, .inl (cI, owl, .inl oww))]) [0, 1, 2] (by decide) rfl) hK hN).1, kRecv (hP.sub (ws' := [(h0, .inr (5, [.int on, .int oo, .int og, .ref h1, .ref h2, .int ost, .int ord, .int oac, .int ore, .int okn, .int oth])), (h1, .inl (cI, orl, .inl ork)), (h2, .inl (cI, owl, .inl oww))]) [0, 1, 2] rfl) hK 5 rfl rfl rfl, (kPreW (As := [.ref h0, .int (1 : Int32)]) (hP.sub (ws' := [(h0, .inr (5, [.int on, .int oo, .int og, .ref h1, .ref h2, .int ost, .int ord, .int oac, .int ore, .int okn, .int oth])), (h1, .inl (cI, orl, .inl ork)), (h2, .inl (cI, owl, .inl oww))]) [0, 1, 2] rfl) (hD.sub (ws' := [(h0, .inr (5, [.int on, .int oo, .int og, .ref h1, .ref h2, .int ost, .int ord, .int oac, .int ore, .int okn, .int oth])), (h1, .inl (cI, orl, .inl ork)), (h2, .inl (cI, owl, .inl oww))]) [0, 1, 2] (by decide) rfl) hK hN).2⟩ rfl rfl hl.1 rfl (lv_room (Nat.le_of_ble_eq_true rfl)) dX3_told_16 ⟨Nat.le_of_ble_eq_true rfl, Nat.le_of_ble_eq_true rfl⟩) hP hD hS hA [0, 1, 2] [] rfl rfl (by decide) (by decide) (fun r16 u H locs hv hP hD hS => ?_)
    obtain ⟨x16_0, rfl⟩ : ∃ z, z = u := ⟨_, rfl⟩
    have hP : va_P D vwCl [(h0, .inr (5, [.int on, .int oo, .int og, .ref h1, .ref h2, .int ost, .int ord, .int oac, .int ore, .int okn, .int x16_0])), (h1, .inl (cI, orl, .inl ork)), (h2, .inl (cI, owl, .inl oww))] H := hP.sub [0, 1, 2] rfl
    have hD : va_D A [(h0, .inr (5, [.int on, .int oo, .int og, .ref h1, .ref h2, .int ost, .int ord, .int oac, .int ore, .int okn, .int x16_0])), (h1, .inl (cI, orl, .inl ork)), (h2, .inl (cI, owl, .inl oww))] := hD.sub [0, 1, 2] (by decide) rfl
    refine lv_if_eq (tgt := 26) hx hb dX3_told_19 (by decide) (fun hc => ?_) (fun hc => ?_)
    · have hv := hv.1 hc
      refine lv_aload_n hx hb dX3_told_26 rfl (lv_at hl 0 rfl) ?_
      refine lv_iload_n hx hb dX3_told_27 rfl (lv_at hl 1 rfl) ?_
      refine kc_V (As := [.int a1]) (rest := []) ⟨hx, hb, hml, hown, hts⟩ (kX3_toldNow l D cI cB h0 h1 h2 on oo og orl ork owl oww ost ord oac ore okn x16_0 a1 _ hv) (cwV 1 hts gX3_told_X3_toldNow rfl rfl rfl (by decide +kernel) ⟨Nat.le_of_ble_eq_true rfl, Nat.le_of_ble_eq_true rfl⟩) hP hK hN 5 rfl rfl rfl rfl hl.1 rfl (Nat.le_of_ble_eq_true rfl) dX3_told_28 ⟨Nat.le_of_ble_eq_true rfl, Nat.le_of_ble_eq_true rfl⟩ (fun r28 hv => ?_)
      refine W.widen (k := 0) (n := 0) (Nat.le_of_ble_eq_true rfl) (Nat.le_of_ble_eq_true rfl) ?_
      exact W.iret (v := r28) hx hb hr (kWi_ret (u := x16_0) hv hP hD hS) hS.2.2 dX3_told_31
    · have hv := hv.2 hc
      refine lv_iconst (v := (0 : Int32)) hx hb dX3_told_22 (by decide) ?_
      refine lv_goto (tgt := 31) hx hb dX3_told_23 (by decide) ?_
      refine W.widen (k := 0) (n := 0) (Nat.le_of_ble_eq_true rfl) (Nat.le_of_ble_eq_true rfl) ?_
      exact W.iret (v := (0 : Int32)) hx hb hr (kWi_ret (u := x16_0) hv hP hD hS) hS.2.2 dX3_told_31
  refine lv_if_lt (tgt := 11) hx hb dX3_told_2 (by decide) (fun hc => ?_) (fun hc => ?_)
  · have hv := hv.1 hc
    refine W.widen (k := 0) (n := 0) (Nat.le_of_ble_eq_true rfl) (Nat.le_of_ble_eq_true rfl) ?_
    exact J11  _ _ _ hP hD hS hv (lv_sub hl [0, 1] rfl)
  · have hv := hv.2 hc
    refine lv_iload_n hx hb dX3_told_5 rfl (lv_at hl 1 rfl) ?_
    refine lv_bipush (v := (6 : Int32)) hx hb dX3_told_6 (by decide) ?_
    refine lv_icmp_le (tgt := 15) hx hb dX3_told_8 (by decide) (fun hc => ?_) (fun hc => ?_)
    · have hv := hv.1 hc
      refine lv_iconst (v := (0 : Int32)) hx hb dX3_told_15 (by decide) ?_
      refine kw_i (wr := []) (va_runV (As := [.int (0 : Int32)]) (rest := []) ⟨hx, hb, hml, hown, hts⟩ (kX3_isThrown_W l D cI cB h0 h1 h2 on oo og orl ork owl oww ost ord oac ore okn oth (0 : Int32) _ _ hv) (cwV 1 hts gX3_told_X3_isThrown_ rfl rfl rfl (by decide +kernel) ⟨Nat.le_of_ble_eq_true rfl, Nat.le_of_ble_eq_true rfl⟩) ⟨(kPreW (As := [.ref h0, .int (0 : Int32)]) (hP.sub (ws' := [(h0, .inr (5, [.int on, .int oo, .int og, .ref h1, .ref h2, .int ost, .int ord, .int oac, .int ore, .int okn, .int oth])), (h1, .inl (cI, orl, .inl ork)), (h2, .inl (cI, owl, .inl oww))]) [0, 1, 2] rfl) (hD.sub (ws' := [(h0, .inr (5, [.int on, .int oo, .int og, .ref h1, .ref h2, .int ost, .int ord, .int oac, .int ore, .int okn, .int oth])), (h1, .inl (cI, orl, .inl ork)), (h2, .inl (cI, owl, .inl oww))]) [0, 1, 2] (by decide) rfl) hK hN).1, kRecv (hP.sub (ws' := [(h0, .inr (5, [.int on, .int oo, .int og, .ref h1, .ref h2, .int ost, .int ord, .int oac, .int ore, .int okn, .int oth])), (h1, .inl (cI, orl, .inl ork)), (h2, .inl (cI, owl, .inl oww))]) [0, 1, 2] rfl) hK 5 rfl rfl rfl, (kPreW (As := [.ref h0, .int (0 : Int32)]) (hP.sub (ws' := [(h0, .inr (5, [.int on, .int oo, .int og, .ref h1, .ref h2, .int ost, .int ord, .int oac, .int ore, .int okn, .int oth])), (h1, .inl (cI, orl, .inl ork)), (h2, .inl (cI, owl, .inl oww))]) [0, 1, 2] rfl) (hD.sub (ws' := [(h0, .inr (5, [.int on, .int oo, .int og, .ref h1, .ref h2, .int ost, .int ord, .int oac, .int ore, .int okn, .int oth])), (h1, .inl (cI, orl, .inl ork)), (h2, .inl (cI, owl, .inl oww))]) [0, 1, 2] (by decide) rfl) hK hN).2⟩ rfl rfl hl.1 rfl (lv_room (Nat.le_of_ble_eq_true rfl)) dX3_told_16 ⟨Nat.le_of_ble_eq_true rfl, Nat.le_of_ble_eq_true rfl⟩) hP hD hS hA [0, 1, 2] [] rfl rfl (by decide) (by decide) (fun r16 u H locs hv hP hD hS => ?_)
      obtain ⟨x16_0, rfl⟩ : ∃ z, z = u := ⟨_, rfl⟩
      have hP : va_P D vwCl [(h0, .inr (5, [.int on, .int oo, .int og, .ref h1, .ref h2, .int ost, .int ord, .int oac, .int ore, .int okn, .int x16_0])), (h1, .inl (cI, orl, .inl ork)), (h2, .inl (cI, owl, .inl oww))] H := hP.sub [0, 1, 2] rfl
      have hD : va_D A [(h0, .inr (5, [.int on, .int oo, .int og, .ref h1, .ref h2, .int ost, .int ord, .int oac, .int ore, .int okn, .int x16_0])), (h1, .inl (cI, orl, .inl ork)), (h2, .inl (cI, owl, .inl oww))] := hD.sub [0, 1, 2] (by decide) rfl
      refine lv_if_eq (tgt := 26) hx hb dX3_told_19 (by decide) (fun hc => ?_) (fun hc => ?_)
      · have hv := hv.1 hc
        refine lv_aload_n hx hb dX3_told_26 rfl (lv_at hl 0 rfl) ?_
        refine lv_iload_n hx hb dX3_told_27 rfl (lv_at hl 1 rfl) ?_
        refine kc_V (As := [.int a1]) (rest := []) ⟨hx, hb, hml, hown, hts⟩ (kX3_toldNow l D cI cB h0 h1 h2 on oo og orl ork owl oww ost ord oac ore okn x16_0 a1 _ hv) (cwV 1 hts gX3_told_X3_toldNow rfl rfl rfl (by decide +kernel) ⟨Nat.le_of_ble_eq_true rfl, Nat.le_of_ble_eq_true rfl⟩) hP hK hN 5 rfl rfl rfl rfl hl.1 rfl (Nat.le_of_ble_eq_true rfl) dX3_told_28 ⟨Nat.le_of_ble_eq_true rfl, Nat.le_of_ble_eq_true rfl⟩ (fun r28 hv => ?_)
        refine W.widen (k := 0) (n := 0) (Nat.le_of_ble_eq_true rfl) (Nat.le_of_ble_eq_true rfl) ?_
        exact W.iret (v := r28) hx hb hr (kWi_ret (u := x16_0) hv hP hD hS) hS.2.2 dX3_told_31
      · have hv := hv.2 hc
        refine lv_iconst (v := (0 : Int32)) hx hb dX3_told_22 (by decide) ?_
        refine lv_goto (tgt := 31) hx hb dX3_told_23 (by decide) ?_
        refine W.widen (k := 0) (n := 0) (Nat.le_of_ble_eq_true rfl) (Nat.le_of_ble_eq_true rfl) ?_
        exact W.iret (v := (0 : Int32)) hx hb hr (kWi_ret (u := x16_0) hv hP hD hS) hS.2.2 dX3_told_31
    · have hv := hv.2 hc
      refine W.widen (k := 0) (n := 0) (Nat.le_of_ble_eq_true rfl) (Nat.le_of_ble_eq_true rfl) ?_
      exact J11  _ _ _ hP hD hS hv (lv_sub hl [0, 1] rfl)
set_option maxHeartbeats 4000000 in
set_option maxRecDepth 100000 in
theorem kX3_ofPlaceW (l : Launch) (D : va_G) (cI cB : ClassId) (h0 : Nat) (h1 : Nat) (h2 : Nat) (on : Int32) (oo : Int32) (og : Int32) (orl : Nat) (ork : Nat → Int32) (owl : Nat) (oww : Nat → Int32) (ost : Int32) (ord : Int32) (oac : Int32) (ore : Int32) (okn : Int32) (oth : Int32) (a1 : Int32) (a2 : Int32) (sz : Nat) (post : Int32 → Int32 → Prop) (hv : qX3_ofPlaceW on oo og orl ork owl oww a1 a2 post) : Met l yX3_ofPlace wsX3_ofPlace ({ frames := 2, cells := 0, slots := 0, locals := 45 }) (va_Pc [.ref h0, .int a1, .int a2] (kBW D cI cB sz [(h0, .inr (5, [.int on, .int oo, .int og, .ref h1, .ref h2, .int ost, .int ord, .int oac, .int ore, .int okn, .int oth])), (h1, .inl (cI, orl, .inl ork)), (h2, .inl (cI, owl, .inl oww))])) (va_Qi (fun (r : Int32) (u : Int32) => post r u) (fun (u : Int32) (t : State) => kE D (va_A [(h0, .inr (5, [.int on, .int oo, .int og, .ref h1, .ref h2, .int ost, .int ord, .int oac, .int ore, .int okn, .int oth])), (h1, .inl (cI, orl, .inl ork)), (h2, .inl (cI, owl, .inl oww))] sz) [(h0, .inr (5, [.int on, .int oo, .int og, .ref h1, .ref h2, .int ost, .int ord, .int oac, .int ore, .int okn, .int u])), (h1, .inl (cI, orl, .inl ork)), (h2, .inl (cI, owl, .inl oww))] t) (va_A [(h0, .inr (5, [.int on, .int oo, .int og, .ref h1, .ref h2, .int ost, .int ord, .int oac, .int ore, .int okn, .int oth])), (h1, .inl (cI, orl, .inl ork)), (h2, .inl (cI, owl, .inl oww))] sz)) 0 0 (va_A [(h0, .inr (5, [.int on, .int oo, .int og, .ref h1, .ref h2, .int ost, .int ord, .int oac, .int ore, .int okn, .int oth])), (h1, .inl (cI, orl, .inl ork)), (h2, .inl (cI, owl, .inl oww))] sz) := by
  refine Met.ofW (cc := cX3_ofPlace) (maxL := 3) (ret := (some .int)) (by decide) rfl ?_
  intro p e s m args below meth c s₁ B hml hv0
  obtain ⟨rfl, hsz, ⟨hP, hK, hN⟩, hD0⟩ := hv0
  have hx := B.exec
  have hb := B.bytes
  have hr := B.returns
  have hts := atoms_spec (ws := wsX3_ofPlace) B.pre
  have hown : s.vm.findClass RX3 = some m.cls := findClass_of_methodNamed B.named
  have hlocks := B.notSynchronized
  subst hsz
  have hD := hD0.self (sz := s.heap.size)
  generalize hAe : va_A [(h0, .inr (5, [.int on, .int oo, .int og, .ref h1, .ref h2, .int ost, .int ord, .int oac, .int ore, .int okn, .int oth])), (h1, .inl (cI, orl, .inl ork)), (h2, .inl (cI, owl, .inl oww))] s.heap.size = A at hD ⊢
  have hA : ∀ q : Nat, s.heap.size ≤ q → A q := fun q h => by rw [← hAe]; exact Or.inr h
  have hS : va_S A s.heap s.heap [] := va_S.rf
  have hl := lv_entry ([.ref h0, .int a1, .int a2]) (n := 3) (Nat.le_of_ble_eq_true rfl)
  rw [lg_entry_eq]
  generalize (lg_sl ([.ref h0, .int a1, .int a2]) ++ List.replicate (3 - (lg_sl ([.ref h0, .int a1, .int a2])).length) Slot.unset).toArray = ls at hl ⊢
  have hl : lv_has ls 3 [(0, .ref h0), (1, .int a1), (2, .int a2)] := hl
  refine lv_aload_n hx hb dX3_ofPlace_0 rfl (lv_at hl 0 rfl) ?_
  refine lv_aload_n hx hb dX3_ofPlace_1 rfl (lv_at hl 0 rfl) ?_
  refine lv_iload_n hx hb dX3_ofPlace_2 rfl (lv_at hl 1 rfl) ?_
  refine kc_V (As := [.int a1]) (rest := [.ref h0]) ⟨hx, hb, hml, hown, hts⟩ (kX3_isPlace l D cI cB h0 h1 h2 on oo og orl ork owl oww ost ord oac ore okn oth a1 _ hv) (cwV 1 hts gX3_ofPlace_X3_isPlace rfl rfl rfl (by decide +kernel) ⟨Nat.le_of_ble_eq_true rfl, Nat.le_of_ble_eq_true rfl⟩) hP hK hN 5 rfl rfl rfl rfl hl.1 rfl (Nat.le_of_ble_eq_true rfl) dX3_ofPlace_3 ⟨Nat.le_of_ble_eq_true rfl, Nat.le_of_ble_eq_true rfl⟩ (fun r3 hv => ?_)
  have J14 : ∀ (s0_j14 : Int32) (H : Heap) (locs : List Loc) (ls : Array Slot), va_P D vwCl [(h0, .inr (5, [.int on, .int oo, .int og, .ref h1, .ref h2, .int ost, .int ord, .int oac, .int ore, .int okn, .int oth])), (h1, .inl (cI, orl, .inl ork)), (h2, .inl (cI, owl, .inl oww))] H → va_D A [(h0, .inr (5, [.int on, .int oo, .int og, .ref h1, .ref h2, .int ost, .int ord, .int oac, .int ore, .int okn, .int oth])), (h1, .inl (cI, orl, .inl ork)), (h2, .inl (cI, owl, .inl oww))] → va_S A s.heap H locs → qX3_ofPlaceW_j14 on oo og orl ork owl oww a1 a2 s0_j14 post → lv_has ls 3 [(0, .ref h0), (1, .int a1), (2, .int a2)] → W p l e (headSpec wsX3_ofPlace ({ frames := 2, cells := 0, slots := 0, locals := 45 })).room s m ([.ref h0, .int a1, .int a2] : List Value).toArray below meth c H locs 0 0 (MQ below (va_Qi (fun (r : Int32) (u : Int32) => post r u) (fun (u : Int32) (t : State) => kE D A [(h0, .inr (5, [.int on, .int oo, .int og, .ref h1, .ref h2, .int ost, .int ord, .int oac, .int ore, .int okn, .int u])), (h1, .inl (cI, orl, .inl ork)), (h2, .inl (cI, owl, .inl oww))] t) A) ([.ref h0, .int a1, .int a2] : List Value).toArray s 0 0 A) (F0 m 14 ls [.int s0_j14, .ref h0]) := by
    intro s0_j14 H locs ls hP hD hS hv hl
    refine lv_iload_n hx hb dX3_ofPlace_14 rfl (lv_at hl 2 rfl) ?_
    have J28 : ∀ (s0_j28 : Int32) (s1_j28 : Int32) (H : Heap) (locs : List Loc) (ls : Array Slot), va_P D vwCl [(h0, .inr (5, [.int on, .int oo, .int og, .ref h1, .ref h2, .int ost, .int ord, .int oac, .int ore, .int okn, .int oth])), (h1, .inl (cI, orl, .inl ork)), (h2, .inl (cI, owl, .inl oww))] H → va_D A [(h0, .inr (5, [.int on, .int oo, .int og, .ref h1, .ref h2, .int ost, .int ord, .int oac, .int ore, .int okn, .int oth])), (h1, .inl (cI, orl, .inl ork)), (h2, .inl (cI, owl, .inl oww))] → va_S A s.heap H locs → qX3_ofPlaceW_j28 on oo og orl ork owl oww a1 a2 s0_j28 s1_j28 post → lv_has ls 3 [(0, .ref h0), (1, .int a1), (2, .int a2)] → W p l e (headSpec wsX3_ofPlace ({ frames := 2, cells := 0, slots := 0, locals := 45 })).room s m ([.ref h0, .int a1, .int a2] : List Value).toArray below meth c H locs 0 0 (MQ below (va_Qi (fun (r : Int32) (u : Int32) => post r u) (fun (u : Int32) (t : State) => kE D A [(h0, .inr (5, [.int on, .int oo, .int og, .ref h1, .ref h2, .int ost, .int ord, .int oac, .int ore, .int okn, .int u])), (h1, .inl (cI, orl, .inl ork)), (h2, .inl (cI, owl, .inl oww))] t) A) ([.ref h0, .int a1, .int a2] : List Value).toArray s 0 0 A) (F0 m 28 ls [.int s0_j28, .int s1_j28, .ref h0]) := by
      intro s0_j28 s1_j28 H locs ls hP hD hS hv hl
      refine kw_i (wr := []) (va_runV (As := [.int s1_j28, .int s0_j28]) (rest := []) ⟨hx, hb, hml, hown, hts⟩ (kX3_isThrownW l D cI cB h0 h1 h2 on oo og orl ork owl oww ost ord oac ore okn oth s1_j28 s0_j28 _ _ hv) (cwV 2 hts gX3_ofPlace_X3_isThrown rfl rfl rfl (by decide +kernel) ⟨Nat.le_of_ble_eq_true rfl, Nat.le_of_ble_eq_true rfl⟩) ⟨(kPreW (As := [.ref h0, .int s1_j28, .int s0_j28]) (hP.sub (ws' := [(h0, .inr (5, [.int on, .int oo, .int og, .ref h1, .ref h2, .int ost, .int ord, .int oac, .int ore, .int okn, .int oth])), (h1, .inl (cI, orl, .inl ork)), (h2, .inl (cI, owl, .inl oww))]) [0, 1, 2] rfl) (hD.sub (ws' := [(h0, .inr (5, [.int on, .int oo, .int og, .ref h1, .ref h2, .int ost, .int ord, .int oac, .int ore, .int okn, .int oth])), (h1, .inl (cI, orl, .inl ork)), (h2, .inl (cI, owl, .inl oww))]) [0, 1, 2] (by decide) rfl) hK hN).1, kRecv (hP.sub (ws' := [(h0, .inr (5, [.int on, .int oo, .int og, .ref h1, .ref h2, .int ost, .int ord, .int oac, .int ore, .int okn, .int oth])), (h1, .inl (cI, orl, .inl ork)), (h2, .inl (cI, owl, .inl oww))]) [0, 1, 2] rfl) hK 5 rfl rfl rfl, (kPreW (As := [.ref h0, .int s1_j28, .int s0_j28]) (hP.sub (ws' := [(h0, .inr (5, [.int on, .int oo, .int og, .ref h1, .ref h2, .int ost, .int ord, .int oac, .int ore, .int okn, .int oth])), (h1, .inl (cI, orl, .inl ork)), (h2, .inl (cI, owl, .inl oww))]) [0, 1, 2] rfl) (hD.sub (ws' := [(h0, .inr (5, [.int on, .int oo, .int og, .ref h1, .ref h2, .int ost, .int ord, .int oac, .int ore, .int okn, .int oth])), (h1, .inl (cI, orl, .inl ork)), (h2, .inl (cI, owl, .inl oww))]) [0, 1, 2] (by decide) rfl) hK hN).2⟩ rfl rfl hl.1 rfl (lv_room (Nat.le_of_ble_eq_true rfl)) dX3_ofPlace_28 ⟨Nat.le_of_ble_eq_true rfl, Nat.le_of_ble_eq_true rfl⟩) hP hD hS hA [0, 1, 2] [] rfl rfl (by decide) (by decide) (fun r28 u H locs hv hP hD hS => ?_)
      obtain ⟨x28_0, rfl⟩ : ∃ z, z = u := ⟨_, rfl⟩
      have hP : va_P D vwCl [(h0, .inr (5, [.int on, .int oo, .int og, .ref h1, .ref h2, .int ost, .int ord, .int oac, .int ore, .int okn, .int x28_0])), (h1, .inl (cI, orl, .inl ork)), (h2, .inl (cI, owl, .inl oww))] H := hP.sub [0, 1, 2] rfl
      have hD : va_D A [(h0, .inr (5, [.int on, .int oo, .int og, .ref h1, .ref h2, .int ost, .int ord, .int oac, .int ore, .int okn, .int x28_0])), (h1, .inl (cI, orl, .inl ork)), (h2, .inl (cI, owl, .inl oww))] := hD.sub [0, 1, 2] (by decide) rfl
      refine lv_if_eq (tgt := 38) hx hb dX3_ofPlace_31 (by decide) (fun hc => ?_) (fun hc => ?_)
      · have hv := hv.1 hc
        refine lv_aload_n hx hb dX3_ofPlace_38 rfl (lv_at hl 0 rfl) ?_
        refine lv_iload_n hx hb dX3_ofPlace_39 rfl (lv_at hl 1 rfl) ?_
        refine lv_iload_n hx hb dX3_ofPlace_40 rfl (lv_at hl 2 rfl) ?_
        refine kc_V (As := [.int a1, .int a2]) (rest := []) ⟨hx, hb, hml, hown, hts⟩ (kX3_ofPlaceNow l D cI cB h0 h1 h2 on oo og orl ork owl oww ost ord oac ore okn x28_0 a1 a2 _ hv) (cwV 2 hts gX3_ofPlace_X3_ofPlaceNow rfl rfl rfl (by decide +kernel) ⟨Nat.le_of_ble_eq_true rfl, Nat.le_of_ble_eq_true rfl⟩) hP hK hN 5 rfl rfl rfl rfl hl.1 rfl (Nat.le_of_ble_eq_true rfl) dX3_ofPlace_41 ⟨Nat.le_of_ble_eq_true rfl, Nat.le_of_ble_eq_true rfl⟩ (fun r41 hv => ?_)
        refine W.widen (k := 0) (n := 0) (Nat.le_of_ble_eq_true rfl) (Nat.le_of_ble_eq_true rfl) ?_
        exact W.iret (v := r41) hx hb hr (kWi_ret (u := x28_0) hv hP hD hS) hS.2.2 dX3_ofPlace_44
      · have hv := hv.2 hc
        refine lv_iconst (v := (0 : Int32)) hx hb dX3_ofPlace_34 (by decide) ?_
        refine lv_goto (tgt := 44) hx hb dX3_ofPlace_35 (by decide) ?_
        refine W.widen (k := 0) (n := 0) (Nat.le_of_ble_eq_true rfl) (Nat.le_of_ble_eq_true rfl) ?_
        exact W.iret (v := (0 : Int32)) hx hb hr (kWi_ret (u := x28_0) hv hP hD hS) hS.2.2 dX3_ofPlace_44
    have J23 : ∀ (s0_j23 : Int32) (H : Heap) (locs : List Loc) (ls : Array Slot), va_P D vwCl [(h0, .inr (5, [.int on, .int oo, .int og, .ref h1, .ref h2, .int ost, .int ord, .int oac, .int ore, .int okn, .int oth])), (h1, .inl (cI, orl, .inl ork)), (h2, .inl (cI, owl, .inl oww))] H → va_D A [(h0, .inr (5, [.int on, .int oo, .int og, .ref h1, .ref h2, .int ost, .int ord, .int oac, .int ore, .int okn, .int oth])), (h1, .inl (cI, orl, .inl ork)), (h2, .inl (cI, owl, .inl oww))] → va_S A s.heap H locs → qX3_ofPlaceW_j23 on oo og orl ork owl oww a1 a2 s0_j23 post → lv_has ls 3 [(0, .ref h0), (1, .int a1), (2, .int a2)] → W p l e (headSpec wsX3_ofPlace ({ frames := 2, cells := 0, slots := 0, locals := 45 })).room s m ([.ref h0, .int a1, .int a2] : List Value).toArray below meth c H locs 0 0 (MQ below (va_Qi (fun (r : Int32) (u : Int32) => post r u) (fun (u : Int32) (t : State) => kE D A [(h0, .inr (5, [.int on, .int oo, .int og, .ref h1, .ref h2, .int ost, .int ord, .int oac, .int ore, .int okn, .int u])), (h1, .inl (cI, orl, .inl ork)), (h2, .inl (cI, owl, .inl oww))] t) A) ([.ref h0, .int a1, .int a2] : List Value).toArray s 0 0 A) (F0 m 23 ls [.int s0_j23, .ref h0]) := by
      intro s0_j23 H locs ls hP hD hS hv hl
      refine lv_iconst (v := (1 : Int32)) hx hb dX3_ofPlace_23 (by decide) ?_
      refine lv_goto (tgt := 28) hx hb dX3_ofPlace_24 (by decide) ?_
      refine W.widen (k := 0) (n := 0) (Nat.le_of_ble_eq_true rfl) (Nat.le_of_ble_eq_true rfl) ?_
      exact J28 _ _ _ _ _ hP hD hS hv (lv_sub hl [0, 1, 2] rfl)
    refine lv_if_lt (tgt := 23) hx hb dX3_ofPlace_15 (by decide) (fun hc => ?_) (fun hc => ?_)
    · have hv := hv.1 hc
      refine W.widen (k := 0) (n := 0) (Nat.le_of_ble_eq_true rfl) (Nat.le_of_ble_eq_true rfl) ?_
      exact J23 _ _ _ _ hP hD hS hv (lv_sub hl [0, 1, 2] rfl)
    · have hv := hv.2 hc
      refine lv_iload_n hx hb dX3_ofPlace_18 rfl (lv_at hl 2 rfl) ?_
      refine lv_iconst (v := (4 : Int32)) hx hb dX3_ofPlace_19 (by decide) ?_
      refine lv_icmp_le (tgt := 27) hx hb dX3_ofPlace_20 (by decide) (fun hc => ?_) (fun hc => ?_)
      · have hv := hv.1 hc
        refine lv_iconst (v := (0 : Int32)) hx hb dX3_ofPlace_27 (by decide) ?_
        refine W.widen (k := 0) (n := 0) (Nat.le_of_ble_eq_true rfl) (Nat.le_of_ble_eq_true rfl) ?_
        exact J28 _ _ _ _ _ hP hD hS hv (lv_sub hl [0, 1, 2] rfl)
      · have hv := hv.2 hc
        refine W.widen (k := 0) (n := 0) (Nat.le_of_ble_eq_true rfl) (Nat.le_of_ble_eq_true rfl) ?_
        exact J23 _ _ _ _ hP hD hS hv (lv_sub hl [0, 1, 2] rfl)
  refine lv_if_ne (tgt := 13) hx hb dX3_ofPlace_6 (by decide) (fun hc => ?_) (fun hc => ?_)
  · have hv := hv.1 hc
    refine lv_iconst (v := (0 : Int32)) hx hb dX3_ofPlace_13 (by decide) ?_
    refine W.widen (k := 0) (n := 0) (Nat.le_of_ble_eq_true rfl) (Nat.le_of_ble_eq_true rfl) ?_
    exact J14 _ _ _ _ hP hD hS hv (lv_sub hl [0, 1, 2] rfl)
  · have hv := hv.2 hc
    refine lv_iconst (v := (1 : Int32)) hx hb dX3_ofPlace_9 (by decide) ?_
    refine lv_goto (tgt := 14) hx hb dX3_ofPlace_10 (by decide) ?_
    refine W.widen (k := 0) (n := 0) (Nat.le_of_ble_eq_true rfl) (Nat.le_of_ble_eq_true rfl) ?_
    exact J14 _ _ _ _ hP hD hS hv (lv_sub hl [0, 1, 2] rfl)
set_option maxHeartbeats 4000000 in
set_option maxRecDepth 100000 in
theorem kX3_isWayW (l : Launch) (D : va_G) (cI cB : ClassId) (h0 : Nat) (h1 : Nat) (h2 : Nat) (on : Int32) (oo : Int32) (og : Int32) (orl : Nat) (ork : Nat → Int32) (owl : Nat) (oww : Nat → Int32) (ost : Int32) (ord : Int32) (oac : Int32) (ore : Int32) (okn : Int32) (oth : Int32) (a1 : Int32) (a2 : Int32) (sz : Nat) (post : Int32 → Int32 → Prop) (hv : qX3_isWayW on owl oww a1 a2 post) : Met l yX3_isWay wsX3_isWay ({ frames := 2, cells := 0, slots := 0, locals := 43 }) (va_Pc [.ref h0, .int a1, .int a2] (kBW D cI cB sz [(h0, .inr (5, [.int on, .int oo, .int og, .ref h1, .ref h2, .int ost, .int ord, .int oac, .int ore, .int okn, .int oth])), (h1, .inl (cI, orl, .inl ork)), (h2, .inl (cI, owl, .inl oww))])) (va_Qi (fun (r : Int32) (u : Int32) => post r u) (fun (u : Int32) (t : State) => kE D (va_A [(h0, .inr (5, [.int on, .int oo, .int og, .ref h1, .ref h2, .int ost, .int ord, .int oac, .int ore, .int okn, .int oth])), (h1, .inl (cI, orl, .inl ork)), (h2, .inl (cI, owl, .inl oww))] sz) [(h0, .inr (5, [.int on, .int oo, .int og, .ref h1, .ref h2, .int ost, .int ord, .int oac, .int ore, .int okn, .int u])), (h1, .inl (cI, orl, .inl ork)), (h2, .inl (cI, owl, .inl oww))] t) (va_A [(h0, .inr (5, [.int on, .int oo, .int og, .ref h1, .ref h2, .int ost, .int ord, .int oac, .int ore, .int okn, .int oth])), (h1, .inl (cI, orl, .inl ork)), (h2, .inl (cI, owl, .inl oww))] sz)) 0 0 (va_A [(h0, .inr (5, [.int on, .int oo, .int og, .ref h1, .ref h2, .int ost, .int ord, .int oac, .int ore, .int okn, .int oth])), (h1, .inl (cI, orl, .inl ork)), (h2, .inl (cI, owl, .inl oww))] sz) := by
  refine Met.ofW (cc := cX3_isWay) (maxL := 3) (ret := (some .boolean)) (by decide) rfl ?_
  intro p e s m args below meth c s₁ B hml hv0
  obtain ⟨rfl, hsz, ⟨hP, hK, hN⟩, hD0⟩ := hv0
  have hx := B.exec
  have hb := B.bytes
  have hr := B.returns
  have hts := atoms_spec (ws := wsX3_isWay) B.pre
  have hown : s.vm.findClass RX3 = some m.cls := findClass_of_methodNamed B.named
  have hlocks := B.notSynchronized
  have hi_X3 : ∀ w ∈ wsX30, w ∈ wsX3_isWay := by decide +kernel
  have hF30 := hts (.fieldLink RX3 30 "RoadgameModel" "ways" "[I") (by decide +kernel)
  subst hsz
  have hD := hD0.self (sz := s.heap.size)
  generalize hAe : va_A [(h0, .inr (5, [.int on, .int oo, .int og, .ref h1, .ref h2, .int ost, .int ord, .int oac, .int ore, .int okn, .int oth])), (h1, .inl (cI, orl, .inl ork)), (h2, .inl (cI, owl, .inl oww))] s.heap.size = A at hD ⊢
  have hA : ∀ q : Nat, s.heap.size ≤ q → A q := fun q h => by rw [← hAe]; exact Or.inr h
  have hS : va_S A s.heap s.heap [] := va_S.rf
  have hl := lv_entry ([.ref h0, .int a1, .int a2]) (n := 3) (Nat.le_of_ble_eq_true rfl)
  rw [lg_entry_eq]
  generalize (lg_sl ([.ref h0, .int a1, .int a2]) ++ List.replicate (3 - (lg_sl ([.ref h0, .int a1, .int a2])).length) Slot.unset).toArray = ls at hl ⊢
  have hl : lv_has ls 3 [(0, .ref h0), (1, .int a1), (2, .int a2)] := hl
  refine lv_aload_n hx hb dX3_isWay_0 rfl (lv_at hl 0 rfl) ?_
  refine lv_aload_n hx hb dX3_isWay_1 rfl (lv_at hl 0 rfl) ?_
  refine lv_iload_n hx hb dX3_isWay_2 rfl (lv_at hl 1 rfl) ?_
  refine kc_V (As := [.int a1]) (rest := [.ref h0]) ⟨hx, hb, hml, hown, hts⟩ (kX3_isPlace l D cI cB h0 h1 h2 on oo og orl ork owl oww ost ord oac ore okn oth a1 _ hv) (cwV 1 hts gX3_isWay_X3_isPlace rfl rfl rfl (by decide +kernel) ⟨Nat.le_of_ble_eq_true rfl, Nat.le_of_ble_eq_true rfl⟩) hP hK hN 5 rfl rfl rfl rfl hl.1 rfl (Nat.le_of_ble_eq_true rfl) dX3_isWay_3 ⟨Nat.le_of_ble_eq_true rfl, Nat.le_of_ble_eq_true rfl⟩ (fun r3 hv => ?_)
  have J22 : ∀ (s0_j22 : Int32) (H : Heap) (locs : List Loc) (ls : Array Slot), va_P D vwCl [(h0, .inr (5, [.int on, .int oo, .int og, .ref h1, .ref h2, .int ost, .int ord, .int oac, .int ore, .int okn, .int oth])), (h1, .inl (cI, orl, .inl ork)), (h2, .inl (cI, owl, .inl oww))] H → va_D A [(h0, .inr (5, [.int on, .int oo, .int og, .ref h1, .ref h2, .int ost, .int ord, .int oac, .int ore, .int okn, .int oth])), (h1, .inl (cI, orl, .inl ork)), (h2, .inl (cI, owl, .inl oww))] → va_S A s.heap H locs → qX3_isWayW_j22 owl oww a1 a2 s0_j22 post → lv_has ls 3 [(0, .ref h0), (1, .int a1), (2, .int a2)] → W p l e (headSpec wsX3_isWay ({ frames := 2, cells := 0, slots := 0, locals := 43 })).room s m ([.ref h0, .int a1, .int a2] : List Value).toArray below meth c H locs 0 0 (MQ below (va_Qi (fun (r : Int32) (u : Int32) => post r u) (fun (u : Int32) (t : State) => kE D A [(h0, .inr (5, [.int on, .int oo, .int og, .ref h1, .ref h2, .int ost, .int ord, .int oac, .int ore, .int okn, .int u])), (h1, .inl (cI, orl, .inl ork)), (h2, .inl (cI, owl, .inl oww))] t) A) ([.ref h0, .int a1, .int a2] : List Value).toArray s 0 0 A) (F0 m 22 ls [.int s0_j22, .ref h0]) := by
    intro s0_j22 H locs ls hP hD hS hv hl
    refine kw_i (wr := []) (va_runV (As := [.int s0_j22]) (rest := []) ⟨hx, hb, hml, hown, hts⟩ (kX3_isThrown_W l D cI cB h0 h1 h2 on oo og orl ork owl oww ost ord oac ore okn oth s0_j22 _ _ hv) (cwV 1 hts gX3_isWay_X3_isThrown_ rfl rfl rfl (by decide +kernel) ⟨Nat.le_of_ble_eq_true rfl, Nat.le_of_ble_eq_true rfl⟩) ⟨(kPreW (As := [.ref h0, .int s0_j22]) (hP.sub (ws' := [(h0, .inr (5, [.int on, .int oo, .int og, .ref h1, .ref h2, .int ost, .int ord, .int oac, .int ore, .int okn, .int oth])), (h1, .inl (cI, orl, .inl ork)), (h2, .inl (cI, owl, .inl oww))]) [0, 1, 2] rfl) (hD.sub (ws' := [(h0, .inr (5, [.int on, .int oo, .int og, .ref h1, .ref h2, .int ost, .int ord, .int oac, .int ore, .int okn, .int oth])), (h1, .inl (cI, orl, .inl ork)), (h2, .inl (cI, owl, .inl oww))]) [0, 1, 2] (by decide) rfl) hK hN).1, kRecv (hP.sub (ws' := [(h0, .inr (5, [.int on, .int oo, .int og, .ref h1, .ref h2, .int ost, .int ord, .int oac, .int ore, .int okn, .int oth])), (h1, .inl (cI, orl, .inl ork)), (h2, .inl (cI, owl, .inl oww))]) [0, 1, 2] rfl) hK 5 rfl rfl rfl, (kPreW (As := [.ref h0, .int s0_j22]) (hP.sub (ws' := [(h0, .inr (5, [.int on, .int oo, .int og, .ref h1, .ref h2, .int ost, .int ord, .int oac, .int ore, .int okn, .int oth])), (h1, .inl (cI, orl, .inl ork)), (h2, .inl (cI, owl, .inl oww))]) [0, 1, 2] rfl) (hD.sub (ws' := [(h0, .inr (5, [.int on, .int oo, .int og, .ref h1, .ref h2, .int ost, .int ord, .int oac, .int ore, .int okn, .int oth])), (h1, .inl (cI, orl, .inl ork)), (h2, .inl (cI, owl, .inl oww))]) [0, 1, 2] (by decide) rfl) hK hN).2⟩ rfl rfl hl.1 rfl (lv_room (Nat.le_of_ble_eq_true rfl)) dX3_isWay_22 ⟨Nat.le_of_ble_eq_true rfl, Nat.le_of_ble_eq_true rfl⟩) hP hD hS hA [0, 1, 2] [] rfl rfl (by decide) (by decide) (fun r22 u H locs hv hP hD hS => ?_)
    obtain ⟨x22_0, rfl⟩ : ∃ z, z = u := ⟨_, rfl⟩
    have hP : va_P D vwCl [(h0, .inr (5, [.int on, .int oo, .int og, .ref h1, .ref h2, .int ost, .int ord, .int oac, .int ore, .int okn, .int x22_0])), (h1, .inl (cI, orl, .inl ork)), (h2, .inl (cI, owl, .inl oww))] H := hP.sub [0, 1, 2] rfl
    have hD : va_D A [(h0, .inr (5, [.int on, .int oo, .int og, .ref h1, .ref h2, .int ost, .int ord, .int oac, .int ore, .int okn, .int x22_0])), (h1, .inl (cI, orl, .inl ork)), (h2, .inl (cI, owl, .inl oww))] := hD.sub [0, 1, 2] (by decide) rfl
    refine lv_if_ne (tgt := 45) hx hb dX3_isWay_25 (by decide) (fun hc => ?_) (fun hc => ?_)
    · have hv := hv.1 hc
      refine lv_iconst (v := (0 : Int32)) hx hb dX3_isWay_45 (by decide) ?_
      refine W.widen (k := 0) (n := 0) (Nat.le_of_ble_eq_true rfl) (Nat.le_of_ble_eq_true rfl) ?_
      exact W.zret (v := (0 : Int32)) (ty := .boolean) hx hb hr rfl (kWi_ret (u := x22_0) hv hP hD hS) hS.2.2 dX3_isWay_46
    · have hv := hv.2 hc
      refine lv_aload_n hx hb dX3_isWay_28 rfl (lv_at hl 0 rfl) ?_
      refine va_get (D := D) (ci := 5) (v := .ref h2) (C := RX3) (T := TX3) (N := 11) hx hb hts hi_X3 hown hK hP 0 rfl rfl 4 (by decide) hF30 (fun _ h9 => h9) rfl dX3_isWay_29 ?_
      refine lv_iload_n hx hb dX3_isWay_32 rfl (lv_at hl 1 rfl) ?_
      obtain ⟨hq, hv⟩ := hv
      refine va_iald hx hb hK hP 2 0 rfl rfl hq dX3_isWay_33 ?_
      refine lv_iload_n hx hb dX3_isWay_34 rfl (lv_at hl 2 rfl) ?_
      refine kc_S (As := [.int (oww a1.toNatClampNeg), .int a2]) (rest := []) ⟨hx, hb, hml, hown, hts⟩ (kX3_isIn l D cI cB (oww a1.toNatClampNeg) a2 _ hv) (va_cwS 2 hts gX3_isWay_X3_isIn rfl rfl rfl (by decide +kernel) ⟨Nat.le_of_ble_eq_true rfl, Nat.le_of_ble_eq_true rfl⟩) (hP.sub (ws' := []) [] rfl) hK hN rfl hl.1 rfl (Nat.le_of_ble_eq_true rfl) dX3_isWay_35 ⟨Nat.le_of_ble_eq_true rfl, Nat.le_of_ble_eq_true rfl⟩ (fun r35 hv => ?_)
      refine lv_if_eq (tgt := 45) hx hb dX3_isWay_38 (by decide) (fun hc => ?_) (fun hc => ?_)
      · have hv := hv.1 hc
        refine lv_iconst (v := (0 : Int32)) hx hb dX3_isWay_45 (by decide) ?_
        refine W.widen (k := 0) (n := 0) (Nat.le_of_ble_eq_true rfl) (Nat.le_of_ble_eq_true rfl) ?_
        exact W.zret (v := (0 : Int32)) (ty := .boolean) hx hb hr rfl (kWi_ret (u := x22_0) hv hP hD hS) hS.2.2 dX3_isWay_46
      · have hv := hv.2 hc
        refine lv_iconst (v := (1 : Int32)) hx hb dX3_isWay_41 (by decide) ?_
        refine lv_goto (tgt := 46) hx hb dX3_isWay_42 (by decide) ?_
        refine W.widen (k := 0) (n := 0) (Nat.le_of_ble_eq_true rfl) (Nat.le_of_ble_eq_true rfl) ?_
        exact W.zret (v := (1 : Int32)) (ty := .boolean) hx hb hr rfl (kWi_ret (u := x22_0) hv hP hD hS) hS.2.2 dX3_isWay_46
  have J17 : ∀  (H : Heap) (locs : List Loc) (ls : Array Slot), va_P D vwCl [(h0, .inr (5, [.int on, .int oo, .int og, .ref h1, .ref h2, .int ost, .int ord, .int oac, .int ore, .int okn, .int oth])), (h1, .inl (cI, orl, .inl ork)), (h2, .inl (cI, owl, .inl oww))] H → va_D A [(h0, .inr (5, [.int on, .int oo, .int og, .ref h1, .ref h2, .int ost, .int ord, .int oac, .int ore, .int okn, .int oth])), (h1, .inl (cI, orl, .inl ork)), (h2, .inl (cI, owl, .inl oww))] → va_S A s.heap H locs → qX3_isWayW_j17 owl oww a1 a2 post → lv_has ls 3 [(0, .ref h0), (1, .int a1), (2, .int a2)] → W p l e (headSpec wsX3_isWay ({ frames := 2, cells := 0, slots := 0, locals := 43 })).room s m ([.ref h0, .int a1, .int a2] : List Value).toArray below meth c H locs 0 0 (MQ below (va_Qi (fun (r : Int32) (u : Int32) => post r u) (fun (u : Int32) (t : State) => kE D A [(h0, .inr (5, [.int on, .int oo, .int og, .ref h1, .ref h2, .int ost, .int ord, .int oac, .int ore, .int okn, .int u])), (h1, .inl (cI, orl, .inl ork)), (h2, .inl (cI, owl, .inl oww))] t) A) ([.ref h0, .int a1, .int a2] : List Value).toArray s 0 0 A) (F0 m 17 ls [.ref h0]) := by
    intro  H locs ls hP hD hS hv hl
    refine lv_iconst (v := (1 : Int32)) hx hb dX3_isWay_17 (by decide) ?_
    refine lv_goto (tgt := 22) hx hb dX3_isWay_18 (by decide) ?_
    refine W.widen (k := 0) (n := 0) (Nat.le_of_ble_eq_true rfl) (Nat.le_of_ble_eq_true rfl) ?_
    exact J22 _ _ _ _ hP hD hS hv (lv_sub hl [0, 1, 2] rfl)
  refine lv_if_eq (tgt := 17) hx hb dX3_isWay_6 (by decide) (fun hc => ?_) (fun hc => ?_)
  · have hv := hv.1 hc
    refine W.widen (k := 0) (n := 0) (Nat.le_of_ble_eq_true rfl) (Nat.le_of_ble_eq_true rfl) ?_
    exact J17  _ _ _ hP hD hS hv (lv_sub hl [0, 1, 2] rfl)
  · have hv := hv.2 hc
    refine lv_aload_n hx hb dX3_isWay_9 rfl (lv_at hl 0 rfl) ?_
    refine lv_iload_n hx hb dX3_isWay_10 rfl (lv_at hl 2 rfl) ?_
    refine kc_V (As := [.int a2]) (rest := [.ref h0]) ⟨hx, hb, hml, hown, hts⟩ (kX3_isPlace l D cI cB h0 h1 h2 on oo og orl ork owl oww ost ord oac ore okn oth a2 _ hv) (cwV 1 hts gX3_isWay_X3_isPlace rfl rfl rfl (by decide +kernel) ⟨Nat.le_of_ble_eq_true rfl, Nat.le_of_ble_eq_true rfl⟩) hP hK hN 5 rfl rfl rfl rfl hl.1 rfl (Nat.le_of_ble_eq_true rfl) dX3_isWay_11 ⟨Nat.le_of_ble_eq_true rfl, Nat.le_of_ble_eq_true rfl⟩ (fun r11 hv => ?_)
    refine lv_if_ne (tgt := 21) hx hb dX3_isWay_14 (by decide) (fun hc => ?_) (fun hc => ?_)
    · have hv := hv.1 hc
      refine lv_iconst (v := (0 : Int32)) hx hb dX3_isWay_21 (by decide) ?_
      refine W.widen (k := 0) (n := 0) (Nat.le_of_ble_eq_true rfl) (Nat.le_of_ble_eq_true rfl) ?_
      exact J22 _ _ _ _ hP hD hS hv (lv_sub hl [0, 1, 2] rfl)
    · have hv := hv.2 hc
      refine W.widen (k := 0) (n := 0) (Nat.le_of_ble_eq_true rfl) (Nat.le_of_ble_eq_true rfl) ?_
      exact J17  _ _ _ hP hD hS hv (lv_sub hl [0, 1, 2] rfl)
set_option maxHeartbeats 4000000 in
set_option maxRecDepth 100000 in
theorem kX3_aheadW (l : Launch) (D : va_G) (cI cB : ClassId) (h0 : Nat) (h1 : Nat) (h2 : Nat) (on : Int32) (oo : Int32) (og : Int32) (orl : Nat) (ork : Nat → Int32) (owl : Nat) (oww : Nat → Int32) (ost : Int32) (ord : Int32) (oac : Int32) (ore : Int32) (okn : Int32) (oth : Int32) (a1 : Int32) (a2 : Int32) (sz : Nat) (post : Int32 → Int32 → Prop) (hv : qX3_aheadW on oo owl oww a1 a2 post) : Met l yX3_ahead wsX3_ahead ({ frames := 2, cells := 0, slots := 0, locals := 45 }) (va_Pc [.ref h0, .int a1, .int a2] (kBW D cI cB sz [(h0, .inr (5, [.int on, .int oo, .int og, .ref h1, .ref h2, .int ost, .int ord, .int oac, .int ore, .int okn, .int oth])), (h1, .inl (cI, orl, .inl ork)), (h2, .inl (cI, owl, .inl oww))])) (va_Qi (fun (r : Int32) (u : Int32) => post r u) (fun (u : Int32) (t : State) => kE D (va_A [(h0, .inr (5, [.int on, .int oo, .int og, .ref h1, .ref h2, .int ost, .int ord, .int oac, .int ore, .int okn, .int oth])), (h1, .inl (cI, orl, .inl ork)), (h2, .inl (cI, owl, .inl oww))] sz) [(h0, .inr (5, [.int on, .int oo, .int og, .ref h1, .ref h2, .int ost, .int ord, .int oac, .int ore, .int okn, .int u])), (h1, .inl (cI, orl, .inl ork)), (h2, .inl (cI, owl, .inl oww))] t) (va_A [(h0, .inr (5, [.int on, .int oo, .int og, .ref h1, .ref h2, .int ost, .int ord, .int oac, .int ore, .int okn, .int oth])), (h1, .inl (cI, orl, .inl ork)), (h2, .inl (cI, owl, .inl oww))] sz)) 0 0 (va_A [(h0, .inr (5, [.int on, .int oo, .int og, .ref h1, .ref h2, .int ost, .int ord, .int oac, .int ore, .int okn, .int oth])), (h1, .inl (cI, orl, .inl ork)), (h2, .inl (cI, owl, .inl oww))] sz) := by
  refine Met.ofW (cc := cX3_ahead) (maxL := 3) (ret := (some .int)) (by decide) rfl ?_
  intro p e s m args below meth c s₁ B hml hv0
  obtain ⟨rfl, hsz, ⟨hP, hK, hN⟩, hD0⟩ := hv0
  have hx := B.exec
  have hb := B.bytes
  have hr := B.returns
  have hts := atoms_spec (ws := wsX3_ahead) B.pre
  have hown : s.vm.findClass RX3 = some m.cls := findClass_of_methodNamed B.named
  have hlocks := B.notSynchronized
  subst hsz
  have hD := hD0.self (sz := s.heap.size)
  generalize hAe : va_A [(h0, .inr (5, [.int on, .int oo, .int og, .ref h1, .ref h2, .int ost, .int ord, .int oac, .int ore, .int okn, .int oth])), (h1, .inl (cI, orl, .inl ork)), (h2, .inl (cI, owl, .inl oww))] s.heap.size = A at hD ⊢
  have hA : ∀ q : Nat, s.heap.size ≤ q → A q := fun q h => by rw [← hAe]; exact Or.inr h
  have hS : va_S A s.heap s.heap [] := va_S.rf
  have hl := lv_entry ([.ref h0, .int a1, .int a2]) (n := 3) (Nat.le_of_ble_eq_true rfl)
  rw [lg_entry_eq]
  generalize (lg_sl ([.ref h0, .int a1, .int a2]) ++ List.replicate (3 - (lg_sl ([.ref h0, .int a1, .int a2])).length) Slot.unset).toArray = ls at hl ⊢
  have hl : lv_has ls 3 [(0, .ref h0), (1, .int a1), (2, .int a2)] := hl
  refine lv_aload_n hx hb dX3_ahead_0 rfl (lv_at hl 0 rfl) ?_
  refine lv_iload_n hx hb dX3_ahead_1 rfl (lv_at hl 1 rfl) ?_
  have J25 : ∀ (s0_j25 : Int32) (H : Heap) (locs : List Loc) (ls : Array Slot), va_P D vwCl [(h0, .inr (5, [.int on, .int oo, .int og, .ref h1, .ref h2, .int ost, .int ord, .int oac, .int ore, .int okn, .int oth])), (h1, .inl (cI, orl, .inl ork)), (h2, .inl (cI, owl, .inl oww))] H → va_D A [(h0, .inr (5, [.int on, .int oo, .int og, .ref h1, .ref h2, .int ost, .int ord, .int oac, .int ore, .int okn, .int oth])), (h1, .inl (cI, orl, .inl ork)), (h2, .inl (cI, owl, .inl oww))] → va_S A s.heap H locs → qX3_aheadW_j25 on oo owl oww a1 a2 s0_j25 post → lv_has ls 3 [(0, .ref h0), (1, .int a1), (2, .int a2)] → W p l e (headSpec wsX3_ahead ({ frames := 2, cells := 0, slots := 0, locals := 45 })).room s m ([.ref h0, .int a1, .int a2] : List Value).toArray below meth c H locs 0 0 (MQ below (va_Qi (fun (r : Int32) (u : Int32) => post r u) (fun (u : Int32) (t : State) => kE D A [(h0, .inr (5, [.int on, .int oo, .int og, .ref h1, .ref h2, .int ost, .int ord, .int oac, .int ore, .int okn, .int u])), (h1, .inl (cI, orl, .inl ork)), (h2, .inl (cI, owl, .inl oww))] t) A) ([.ref h0, .int a1, .int a2] : List Value).toArray s 0 0 A) (F0 m 25 ls [.int s0_j25, .ref h0]) := by
    intro s0_j25 H locs ls hP hD hS hv hl
    refine kw_i (wr := []) (va_runV (As := [.int s0_j25]) (rest := []) ⟨hx, hb, hml, hown, hts⟩ (kX3_isThrown_W l D cI cB h0 h1 h2 on oo og orl ork owl oww ost ord oac ore okn oth s0_j25 _ _ hv) (cwV 1 hts gX3_ahead_X3_isThrown_ rfl rfl rfl (by decide +kernel) ⟨Nat.le_of_ble_eq_true rfl, Nat.le_of_ble_eq_true rfl⟩) ⟨(kPreW (As := [.ref h0, .int s0_j25]) (hP.sub (ws' := [(h0, .inr (5, [.int on, .int oo, .int og, .ref h1, .ref h2, .int ost, .int ord, .int oac, .int ore, .int okn, .int oth])), (h1, .inl (cI, orl, .inl ork)), (h2, .inl (cI, owl, .inl oww))]) [0, 1, 2] rfl) (hD.sub (ws' := [(h0, .inr (5, [.int on, .int oo, .int og, .ref h1, .ref h2, .int ost, .int ord, .int oac, .int ore, .int okn, .int oth])), (h1, .inl (cI, orl, .inl ork)), (h2, .inl (cI, owl, .inl oww))]) [0, 1, 2] (by decide) rfl) hK hN).1, kRecv (hP.sub (ws' := [(h0, .inr (5, [.int on, .int oo, .int og, .ref h1, .ref h2, .int ost, .int ord, .int oac, .int ore, .int okn, .int oth])), (h1, .inl (cI, orl, .inl ork)), (h2, .inl (cI, owl, .inl oww))]) [0, 1, 2] rfl) hK 5 rfl rfl rfl, (kPreW (As := [.ref h0, .int s0_j25]) (hP.sub (ws' := [(h0, .inr (5, [.int on, .int oo, .int og, .ref h1, .ref h2, .int ost, .int ord, .int oac, .int ore, .int okn, .int oth])), (h1, .inl (cI, orl, .inl ork)), (h2, .inl (cI, owl, .inl oww))]) [0, 1, 2] rfl) (hD.sub (ws' := [(h0, .inr (5, [.int on, .int oo, .int og, .ref h1, .ref h2, .int ost, .int ord, .int oac, .int ore, .int okn, .int oth])), (h1, .inl (cI, orl, .inl ork)), (h2, .inl (cI, owl, .inl oww))]) [0, 1, 2] (by decide) rfl) hK hN).2⟩ rfl rfl hl.1 rfl (lv_room (Nat.le_of_ble_eq_true rfl)) dX3_ahead_25 ⟨Nat.le_of_ble_eq_true rfl, Nat.le_of_ble_eq_true rfl⟩) hP hD hS hA [0, 1, 2] [] rfl rfl (by decide) (by decide) (fun r25 u H locs hv hP hD hS => ?_)
    obtain ⟨x25_0, rfl⟩ : ∃ z, z = u := ⟨_, rfl⟩
    have hP : va_P D vwCl [(h0, .inr (5, [.int on, .int oo, .int og, .ref h1, .ref h2, .int ost, .int ord, .int oac, .int ore, .int okn, .int x25_0])), (h1, .inl (cI, orl, .inl ork)), (h2, .inl (cI, owl, .inl oww))] H := hP.sub [0, 1, 2] rfl
    have hD : va_D A [(h0, .inr (5, [.int on, .int oo, .int og, .ref h1, .ref h2, .int ost, .int ord, .int oac, .int ore, .int okn, .int x25_0])), (h1, .inl (cI, orl, .inl ork)), (h2, .inl (cI, owl, .inl oww))] := hD.sub [0, 1, 2] (by decide) rfl
    refine lv_if_eq (tgt := 35) hx hb dX3_ahead_28 (by decide) (fun hc => ?_) (fun hc => ?_)
    · have hv := hv.1 hc
      refine lv_aload_n hx hb dX3_ahead_35 rfl (lv_at hl 0 rfl) ?_
      refine lv_iload_n hx hb dX3_ahead_36 rfl (lv_at hl 1 rfl) ?_
      refine lv_iload_n hx hb dX3_ahead_37 rfl (lv_at hl 2 rfl) ?_
      refine kc_V (As := [.int a1, .int a2]) (rest := []) ⟨hx, hb, hml, hown, hts⟩ (kX3_aheadOf l D cI cB h0 h1 h2 on oo og orl ork owl oww ost ord oac ore okn x25_0 a1 a2 _ hv) (cwV 2 hts gX3_ahead_X3_aheadOf rfl rfl rfl (by decide +kernel) ⟨Nat.le_of_ble_eq_true rfl, Nat.le_of_ble_eq_true rfl⟩) hP hK hN 5 rfl rfl rfl rfl hl.1 rfl (Nat.le_of_ble_eq_true rfl) dX3_ahead_38 ⟨Nat.le_of_ble_eq_true rfl, Nat.le_of_ble_eq_true rfl⟩ (fun r38 hv => ?_)
      refine W.widen (k := 0) (n := 0) (Nat.le_of_ble_eq_true rfl) (Nat.le_of_ble_eq_true rfl) ?_
      exact W.iret (v := r38) hx hb hr (kWi_ret (u := x25_0) hv hP hD hS) hS.2.2 dX3_ahead_41
    · have hv := hv.2 hc
      refine lv_iconst (v := (0 : Int32)) hx hb dX3_ahead_31 (by decide) ?_
      refine lv_goto (tgt := 41) hx hb dX3_ahead_32 (by decide) ?_
      refine W.widen (k := 0) (n := 0) (Nat.le_of_ble_eq_true rfl) (Nat.le_of_ble_eq_true rfl) ?_
      exact W.iret (v := (0 : Int32)) hx hb hr (kWi_ret (u := x25_0) hv hP hD hS) hS.2.2 dX3_ahead_41
  have J20 : ∀  (H : Heap) (locs : List Loc) (ls : Array Slot), va_P D vwCl [(h0, .inr (5, [.int on, .int oo, .int og, .ref h1, .ref h2, .int ost, .int ord, .int oac, .int ore, .int okn, .int oth])), (h1, .inl (cI, orl, .inl ork)), (h2, .inl (cI, owl, .inl oww))] H → va_D A [(h0, .inr (5, [.int on, .int oo, .int og, .ref h1, .ref h2, .int ost, .int ord, .int oac, .int ore, .int okn, .int oth])), (h1, .inl (cI, orl, .inl ork)), (h2, .inl (cI, owl, .inl oww))] → va_S A s.heap H locs → qX3_aheadW_j20 on oo owl oww a1 a2 post → lv_has ls 3 [(0, .ref h0), (1, .int a1), (2, .int a2)] → W p l e (headSpec wsX3_ahead ({ frames := 2, cells := 0, slots := 0, locals := 45 })).room s m ([.ref h0, .int a1, .int a2] : List Value).toArray below meth c H locs 0 0 (MQ below (va_Qi (fun (r : Int32) (u : Int32) => post r u) (fun (u : Int32) (t : State) => kE D A [(h0, .inr (5, [.int on, .int oo, .int og, .ref h1, .ref h2, .int ost, .int ord, .int oac, .int ore, .int okn, .int u])), (h1, .inl (cI, orl, .inl ork)), (h2, .inl (cI, owl, .inl oww))] t) A) ([.ref h0, .int a1, .int a2] : List Value).toArray s 0 0 A) (F0 m 20 ls [.ref h0]) := by
    intro  H locs ls hP hD hS hv hl
    refine lv_iconst (v := (1 : Int32)) hx hb dX3_ahead_20 (by decide) ?_
    refine lv_goto (tgt := 25) hx hb dX3_ahead_21 (by decide) ?_
    refine W.widen (k := 0) (n := 0) (Nat.le_of_ble_eq_true rfl) (Nat.le_of_ble_eq_true rfl) ?_
    exact J25 _ _ _ _ hP hD hS hv (lv_sub hl [0, 1, 2] rfl)
  refine lv_if_lt (tgt := 20) hx hb dX3_ahead_2 (by decide) (fun hc => ?_) (fun hc => ?_)
  · have hv := hv.1 hc
    refine W.widen (k := 0) (n := 0) (Nat.le_of_ble_eq_true rfl) (Nat.le_of_ble_eq_true rfl) ?_
    exact J20  _ _ _ hP hD hS hv (lv_sub hl [0, 1, 2] rfl)
  · have hv := hv.2 hc
    refine lv_iload_n hx hb dX3_ahead_5 rfl (lv_at hl 1 rfl) ?_
    refine lv_aload_n hx hb dX3_ahead_6 rfl (lv_at hl 0 rfl) ?_
    refine kc_V (As := []) (rest := [.int a1, .ref h0]) ⟨hx, hb, hml, hown, hts⟩ (kX3_all l D cI cB h0 h1 h2 on oo og orl ork owl oww ost ord oac ore okn oth _ hv) (cwV 0 hts gX3_ahead_X3_all rfl rfl rfl (by decide +kernel) ⟨Nat.le_of_ble_eq_true rfl, Nat.le_of_ble_eq_true rfl⟩) hP hK hN 5 rfl rfl rfl rfl hl.1 rfl (Nat.le_of_ble_eq_true rfl) dX3_ahead_7 ⟨Nat.le_of_ble_eq_true rfl, Nat.le_of_ble_eq_true rfl⟩ (fun r7 hv => ?_)
    refine lv_icmp_gt (tgt := 20) hx hb dX3_ahead_10 (by decide) (fun hc => ?_) (fun hc => ?_)
    · have hv := hv.1 hc
      refine W.widen (k := 0) (n := 0) (Nat.le_of_ble_eq_true rfl) (Nat.le_of_ble_eq_true rfl) ?_
      exact J20  _ _ _ hP hD hS hv (lv_sub hl [0, 1, 2] rfl)
    · have hv := hv.2 hc
      refine lv_iload_n hx hb dX3_ahead_13 rfl (lv_at hl 2 rfl) ?_
      refine kc_S (As := [.int a2]) (rest := [.ref h0]) ⟨hx, hb, hml, hown, hts⟩ (kX3_isSide l D cI cB a2 _ hv) (va_cwS 1 hts gX3_ahead_X3_isSide rfl rfl rfl (by decide +kernel) ⟨Nat.le_of_ble_eq_true rfl, Nat.le_of_ble_eq_true rfl⟩) (hP.sub (ws' := []) [] rfl) hK hN rfl hl.1 rfl (Nat.le_of_ble_eq_true rfl) dX3_ahead_14 ⟨Nat.le_of_ble_eq_true rfl, Nat.le_of_ble_eq_true rfl⟩ (fun r14 hv => ?_)
      refine lv_if_ne (tgt := 24) hx hb dX3_ahead_17 (by decide) (fun hc => ?_) (fun hc => ?_)
      · have hv := hv.1 hc
        refine lv_iconst (v := (0 : Int32)) hx hb dX3_ahead_24 (by decide) ?_
        refine W.widen (k := 0) (n := 0) (Nat.le_of_ble_eq_true rfl) (Nat.le_of_ble_eq_true rfl) ?_
        exact J25 _ _ _ _ hP hD hS hv (lv_sub hl [0, 1, 2] rfl)
      · have hv := hv.2 hc
        refine W.widen (k := 0) (n := 0) (Nat.le_of_ble_eq_true rfl) (Nat.le_of_ble_eq_true rfl) ?_
        exact J20  _ _ _ hP hD hS hv (lv_sub hl [0, 1, 2] rfl)
set_option maxHeartbeats 4000000 in
set_option maxRecDepth 100000 in
theorem kX3_comingW (l : Launch) (D : va_G) (cI cB : ClassId) (h0 : Nat) (h1 : Nat) (h2 : Nat) (on : Int32) (oo : Int32) (og : Int32) (orl : Nat) (ork : Nat → Int32) (owl : Nat) (oww : Nat → Int32) (ost : Int32) (ord : Int32) (oac : Int32) (ore : Int32) (okn : Int32) (oth : Int32) (a1 : Int32) (sz : Nat) (post : Int32 → Int32 → Prop) (hv : qX3_comingW on oo og owl oww a1 post) : Met l yX3_coming wsX3_coming ({ frames := 4, cells := 0, slots := 0, locals := 89 }) (va_Pc [.ref h0, .int a1] (kBW D cI cB sz [(h0, .inr (5, [.int on, .int oo, .int og, .ref h1, .ref h2, .int ost, .int ord, .int oac, .int ore, .int okn, .int oth])), (h1, .inl (cI, orl, .inl ork)), (h2, .inl (cI, owl, .inl oww))])) (va_Qi (fun (r : Int32) (u : Int32) => post r u) (fun (u : Int32) (t : State) => kE D (va_A [(h0, .inr (5, [.int on, .int oo, .int og, .ref h1, .ref h2, .int ost, .int ord, .int oac, .int ore, .int okn, .int oth])), (h1, .inl (cI, orl, .inl ork)), (h2, .inl (cI, owl, .inl oww))] sz) [(h0, .inr (5, [.int on, .int oo, .int og, .ref h1, .ref h2, .int ost, .int ord, .int oac, .int ore, .int okn, .int u])), (h1, .inl (cI, orl, .inl ork)), (h2, .inl (cI, owl, .inl oww))] t) (va_A [(h0, .inr (5, [.int on, .int oo, .int og, .ref h1, .ref h2, .int ost, .int ord, .int oac, .int ore, .int okn, .int oth])), (h1, .inl (cI, orl, .inl ork)), (h2, .inl (cI, owl, .inl oww))] sz)) 0 0 (va_A [(h0, .inr (5, [.int on, .int oo, .int og, .ref h1, .ref h2, .int ost, .int ord, .int oac, .int ore, .int okn, .int oth])), (h1, .inl (cI, orl, .inl ork)), (h2, .inl (cI, owl, .inl oww))] sz) := by
  refine Met.ofW (cc := cX3_coming) (maxL := 2) (ret := (some .int)) (by decide) rfl ?_
  intro p e s m args below meth c s₁ B hml hv0
  obtain ⟨rfl, hsz, ⟨hP, hK, hN⟩, hD0⟩ := hv0
  have hx := B.exec
  have hb := B.bytes
  have hr := B.returns
  have hts := atoms_spec (ws := wsX3_coming) B.pre
  have hown : s.vm.findClass RX3 = some m.cls := findClass_of_methodNamed B.named
  have hlocks := B.notSynchronized
  subst hsz
  have hD := hD0.self (sz := s.heap.size)
  generalize hAe : va_A [(h0, .inr (5, [.int on, .int oo, .int og, .ref h1, .ref h2, .int ost, .int ord, .int oac, .int ore, .int okn, .int oth])), (h1, .inl (cI, orl, .inl ork)), (h2, .inl (cI, owl, .inl oww))] s.heap.size = A at hD ⊢
  have hA : ∀ q : Nat, s.heap.size ≤ q → A q := fun q h => by rw [← hAe]; exact Or.inr h
  have hS : va_S A s.heap s.heap [] := va_S.rf
  have hl := lv_entry ([.ref h0, .int a1]) (n := 2) (Nat.le_of_ble_eq_true rfl)
  rw [lg_entry_eq]
  generalize (lg_sl ([.ref h0, .int a1]) ++ List.replicate (2 - (lg_sl ([.ref h0, .int a1])).length) Slot.unset).toArray = ls at hl ⊢
  have hl : lv_has ls 2 [(0, .ref h0), (1, .int a1)] := hl
  refine lv_aload_n hx hb dX3_coming_0 rfl (lv_at hl 0 rfl) ?_
  refine lv_iload_n hx hb dX3_coming_1 rfl (lv_at hl 1 rfl) ?_
  refine kc_S (As := [.int a1]) (rest := [.ref h0]) ⟨hx, hb, hml, hown, hts⟩ (kX3_isSide l D cI cB a1 _ hv) (va_cwS 1 hts gX3_coming_X3_isSide rfl rfl rfl (by decide +kernel) ⟨Nat.le_of_ble_eq_true rfl, Nat.le_of_ble_eq_true rfl⟩) (hP.sub (ws' := []) [] rfl) hK hN rfl hl.1 rfl (Nat.le_of_ble_eq_true rfl) dX3_coming_2 ⟨Nat.le_of_ble_eq_true rfl, Nat.le_of_ble_eq_true rfl⟩ (fun r2 hv => ?_)
  refine lv_if_ne (tgt := 12) hx hb dX3_coming_5 (by decide) (fun hc => ?_) (fun hc => ?_)
  · have hv := hv.1 hc
    refine lv_iconst (v := (0 : Int32)) hx hb dX3_coming_12 (by decide) ?_
    refine kw_i (wr := []) (va_runV (As := [.int (0 : Int32)]) (rest := []) ⟨hx, hb, hml, hown, hts⟩ (kX3_isThrown_W l D cI cB h0 h1 h2 on oo og orl ork owl oww ost ord oac ore okn oth (0 : Int32) _ _ hv) (cwV 1 hts gX3_coming_X3_isThrown_ rfl rfl rfl (by decide +kernel) ⟨Nat.le_of_ble_eq_true rfl, Nat.le_of_ble_eq_true rfl⟩) ⟨(kPreW (As := [.ref h0, .int (0 : Int32)]) (hP.sub (ws' := [(h0, .inr (5, [.int on, .int oo, .int og, .ref h1, .ref h2, .int ost, .int ord, .int oac, .int ore, .int okn, .int oth])), (h1, .inl (cI, orl, .inl ork)), (h2, .inl (cI, owl, .inl oww))]) [0, 1, 2] rfl) (hD.sub (ws' := [(h0, .inr (5, [.int on, .int oo, .int og, .ref h1, .ref h2, .int ost, .int ord, .int oac, .int ore, .int okn, .int oth])), (h1, .inl (cI, orl, .inl ork)), (h2, .inl (cI, owl, .inl oww))]) [0, 1, 2] (by decide) rfl) hK hN).1, kRecv (hP.sub (ws' := [(h0, .inr (5, [.int on, .int oo, .int og, .ref h1, .ref h2, .int ost, .int ord, .int oac, .int ore, .int okn, .int oth])), (h1, .inl (cI, orl, .inl ork)), (h2, .inl (cI, owl, .inl oww))]) [0, 1, 2] rfl) hK 5 rfl rfl rfl, (kPreW (As := [.ref h0, .int (0 : Int32)]) (hP.sub (ws' := [(h0, .inr (5, [.int on, .int oo, .int og, .ref h1, .ref h2, .int ost, .int ord, .int oac, .int ore, .int okn, .int oth])), (h1, .inl (cI, orl, .inl ork)), (h2, .inl (cI, owl, .inl oww))]) [0, 1, 2] rfl) (hD.sub (ws' := [(h0, .inr (5, [.int on, .int oo, .int og, .ref h1, .ref h2, .int ost, .int ord, .int oac, .int ore, .int okn, .int oth])), (h1, .inl (cI, orl, .inl ork)), (h2, .inl (cI, owl, .inl oww))]) [0, 1, 2] (by decide) rfl) hK hN).2⟩ rfl rfl hl.1 rfl (lv_room (Nat.le_of_ble_eq_true rfl)) dX3_coming_13 ⟨Nat.le_of_ble_eq_true rfl, Nat.le_of_ble_eq_true rfl⟩) hP hD hS hA [0, 1, 2] [] rfl rfl (by decide) (by decide) (fun r13 u H locs hv hP hD hS => ?_)
    obtain ⟨x13_0, rfl⟩ : ∃ z, z = u := ⟨_, rfl⟩
    have hP : va_P D vwCl [(h0, .inr (5, [.int on, .int oo, .int og, .ref h1, .ref h2, .int ost, .int ord, .int oac, .int ore, .int okn, .int x13_0])), (h1, .inl (cI, orl, .inl ork)), (h2, .inl (cI, owl, .inl oww))] H := hP.sub [0, 1, 2] rfl
    have hD : va_D A [(h0, .inr (5, [.int on, .int oo, .int og, .ref h1, .ref h2, .int ost, .int ord, .int oac, .int ore, .int okn, .int x13_0])), (h1, .inl (cI, orl, .inl ork)), (h2, .inl (cI, owl, .inl oww))] := hD.sub [0, 1, 2] (by decide) rfl
    refine lv_if_eq (tgt := 23) hx hb dX3_coming_16 (by decide) (fun hc => ?_) (fun hc => ?_)
    · have hv := hv.1 hc
      refine lv_aload_n hx hb dX3_coming_23 rfl (lv_at hl 0 rfl) ?_
      refine lv_iload_n hx hb dX3_coming_24 rfl (lv_at hl 1 rfl) ?_
      refine kc_V (As := [.int a1]) (rest := []) ⟨hx, hb, hml, hown, hts⟩ (kX3_comingOf l D cI cB h0 h1 h2 on oo og orl ork owl oww ost ord oac ore okn x13_0 a1 _ hv) (cwV 1 hts gX3_coming_X3_comingOf rfl rfl rfl (by decide +kernel) ⟨Nat.le_of_ble_eq_true rfl, Nat.le_of_ble_eq_true rfl⟩) hP hK hN 5 rfl rfl rfl rfl hl.1 rfl (Nat.le_of_ble_eq_true rfl) dX3_coming_25 ⟨Nat.le_of_ble_eq_true rfl, Nat.le_of_ble_eq_true rfl⟩ (fun r25 hv => ?_)
      refine W.widen (k := 0) (n := 0) (Nat.le_of_ble_eq_true rfl) (Nat.le_of_ble_eq_true rfl) ?_
      exact W.iret (v := r25) hx hb hr (kWi_ret (u := x13_0) hv hP hD hS) hS.2.2 dX3_coming_28
    · have hv := hv.2 hc
      refine lv_iconst (v := (0 : Int32)) hx hb dX3_coming_19 (by decide) ?_
      refine lv_goto (tgt := 28) hx hb dX3_coming_20 (by decide) ?_
      refine W.widen (k := 0) (n := 0) (Nat.le_of_ble_eq_true rfl) (Nat.le_of_ble_eq_true rfl) ?_
      exact W.iret (v := (0 : Int32)) hx hb hr (kWi_ret (u := x13_0) hv hP hD hS) hS.2.2 dX3_coming_28
  · have hv := hv.2 hc
    refine lv_iconst (v := (1 : Int32)) hx hb dX3_coming_8 (by decide) ?_
    refine lv_goto (tgt := 13) hx hb dX3_coming_9 (by decide) ?_
    refine kw_i (wr := []) (va_runV (As := [.int (1 : Int32)]) (rest := []) ⟨hx, hb, hml, hown, hts⟩ (kX3_isThrown_W l D cI cB h0 h1 h2 on oo og orl ork owl oww ost ord oac ore okn oth (1 : Int32) _ _ hv) (cwV 1 hts gX3_coming_X3_isThrown_ rfl rfl rfl (by decide +kernel) ⟨Nat.le_of_ble_eq_true rfl, Nat.le_of_ble_eq_true rfl⟩) ⟨(kPreW (As := [.ref h0, .int (1 : Int32)]) (hP.sub (ws' := [(h0, .inr (5, [.int on, .int oo, .int og, .ref h1, .ref h2, .int ost, .int ord, .int oac, .int ore, .int okn, .int oth])), (h1, .inl (cI, orl, .inl ork)), (h2, .inl (cI, owl, .inl oww))]) [0, 1, 2] rfl) (hD.sub (ws' := [(h0, .inr (5, [.int on, .int oo, .int og, .ref h1, .ref h2, .int ost, .int ord, .int oac, .int ore, .int okn, .int oth])), (h1, .inl (cI, orl, .inl ork)), (h2, .inl (cI, owl, .inl oww))]) [0, 1, 2] (by decide) rfl) hK hN).1, kRecv (hP.sub (ws' := [(h0, .inr (5, [.int on, .int oo, .int og, .ref h1, .ref h2, .int ost, .int ord, .int oac, .int ore, .int okn, .int oth])), (h1, .inl (cI, orl, .inl ork)), (h2, .inl (cI, owl, .inl oww))]) [0, 1, 2] rfl) hK 5 rfl rfl rfl, (kPreW (As := [.ref h0, .int (1 : Int32)]) (hP.sub (ws' := [(h0, .inr (5, [.int on, .int oo, .int og, .ref h1, .ref h2, .int ost, .int ord, .int oac, .int ore, .int okn, .int oth])), (h1, .inl (cI, orl, .inl ork)), (h2, .inl (cI, owl, .inl oww))]) [0, 1, 2] rfl) (hD.sub (ws' := [(h0, .inr (5, [.int on, .int oo, .int og, .ref h1, .ref h2, .int ost, .int ord, .int oac, .int ore, .int okn, .int oth])), (h1, .inl (cI, orl, .inl ork)), (h2, .inl (cI, owl, .inl oww))]) [0, 1, 2] (by decide) rfl) hK hN).2⟩ rfl rfl hl.1 rfl (lv_room (Nat.le_of_ble_eq_true rfl)) dX3_coming_13 ⟨Nat.le_of_ble_eq_true rfl, Nat.le_of_ble_eq_true rfl⟩) hP hD hS hA [0, 1, 2] [] rfl rfl (by decide) (by decide) (fun r13 u H locs hv hP hD hS => ?_)
    obtain ⟨x13_0, rfl⟩ : ∃ z, z = u := ⟨_, rfl⟩
    have hP : va_P D vwCl [(h0, .inr (5, [.int on, .int oo, .int og, .ref h1, .ref h2, .int ost, .int ord, .int oac, .int ore, .int okn, .int x13_0])), (h1, .inl (cI, orl, .inl ork)), (h2, .inl (cI, owl, .inl oww))] H := hP.sub [0, 1, 2] rfl
    have hD : va_D A [(h0, .inr (5, [.int on, .int oo, .int og, .ref h1, .ref h2, .int ost, .int ord, .int oac, .int ore, .int okn, .int x13_0])), (h1, .inl (cI, orl, .inl ork)), (h2, .inl (cI, owl, .inl oww))] := hD.sub [0, 1, 2] (by decide) rfl
    refine lv_if_eq (tgt := 23) hx hb dX3_coming_16 (by decide) (fun hc => ?_) (fun hc => ?_)
    · have hv := hv.1 hc
      refine lv_aload_n hx hb dX3_coming_23 rfl (lv_at hl 0 rfl) ?_
      refine lv_iload_n hx hb dX3_coming_24 rfl (lv_at hl 1 rfl) ?_
      refine kc_V (As := [.int a1]) (rest := []) ⟨hx, hb, hml, hown, hts⟩ (kX3_comingOf l D cI cB h0 h1 h2 on oo og orl ork owl oww ost ord oac ore okn x13_0 a1 _ hv) (cwV 1 hts gX3_coming_X3_comingOf rfl rfl rfl (by decide +kernel) ⟨Nat.le_of_ble_eq_true rfl, Nat.le_of_ble_eq_true rfl⟩) hP hK hN 5 rfl rfl rfl rfl hl.1 rfl (Nat.le_of_ble_eq_true rfl) dX3_coming_25 ⟨Nat.le_of_ble_eq_true rfl, Nat.le_of_ble_eq_true rfl⟩ (fun r25 hv => ?_)
      refine W.widen (k := 0) (n := 0) (Nat.le_of_ble_eq_true rfl) (Nat.le_of_ble_eq_true rfl) ?_
      exact W.iret (v := r25) hx hb hr (kWi_ret (u := x13_0) hv hP hD hS) hS.2.2 dX3_coming_28
    · have hv := hv.2 hc
      refine lv_iconst (v := (0 : Int32)) hx hb dX3_coming_19 (by decide) ?_
      refine lv_goto (tgt := 28) hx hb dX3_coming_20 (by decide) ?_
      refine W.widen (k := 0) (n := 0) (Nat.le_of_ble_eq_true rfl) (Nat.le_of_ble_eq_true rfl) ?_
      exact W.iret (v := (0 : Int32)) hx hb hr (kWi_ret (u := x13_0) hv hP hD hS) hS.2.2 dX3_coming_28
set_option maxHeartbeats 4000000 in
set_option maxRecDepth 100000 in
theorem kX3_keepingW (l : Launch) (D : va_G) (cI cB : ClassId) (h0 : Nat) (h1 : Nat) (h2 : Nat) (on : Int32) (oo : Int32) (og : Int32) (orl : Nat) (ork : Nat → Int32) (owl : Nat) (oww : Nat → Int32) (ost : Int32) (ord : Int32) (oac : Int32) (ore : Int32) (okn : Int32) (oth : Int32) (a1 : Int32) (sz : Nat) (post : Int32 → Int32 → Prop) (hv : qX3_keepingW on oo og owl oww a1 post) : Met l yX3_keeping wsX3_keeping ({ frames := 5, cells := 0, slots := 0, locals := 110 }) (va_Pc [.ref h0, .int a1] (kBW D cI cB sz [(h0, .inr (5, [.int on, .int oo, .int og, .ref h1, .ref h2, .int ost, .int ord, .int oac, .int ore, .int okn, .int oth])), (h1, .inl (cI, orl, .inl ork)), (h2, .inl (cI, owl, .inl oww))])) (va_Qi (fun (r : Int32) (u : Int32) => post r u) (fun (u : Int32) (t : State) => kE D (va_A [(h0, .inr (5, [.int on, .int oo, .int og, .ref h1, .ref h2, .int ost, .int ord, .int oac, .int ore, .int okn, .int oth])), (h1, .inl (cI, orl, .inl ork)), (h2, .inl (cI, owl, .inl oww))] sz) [(h0, .inr (5, [.int on, .int oo, .int og, .ref h1, .ref h2, .int ost, .int ord, .int oac, .int ore, .int okn, .int u])), (h1, .inl (cI, orl, .inl ork)), (h2, .inl (cI, owl, .inl oww))] t) (va_A [(h0, .inr (5, [.int on, .int oo, .int og, .ref h1, .ref h2, .int ost, .int ord, .int oac, .int ore, .int okn, .int oth])), (h1, .inl (cI, orl, .inl ork)), (h2, .inl (cI, owl, .inl oww))] sz)) 0 0 (va_A [(h0, .inr (5, [.int on, .int oo, .int og, .ref h1, .ref h2, .int ost, .int ord, .int oac, .int ore, .int okn, .int oth])), (h1, .inl (cI, orl, .inl ork)), (h2, .inl (cI, owl, .inl oww))] sz) := by
  refine Met.ofW (cc := cX3_keeping) (maxL := 2) (ret := (some .int)) (by decide) rfl ?_
  intro p e s m args below meth c s₁ B hml hv0
  obtain ⟨rfl, hsz, ⟨hP, hK, hN⟩, hD0⟩ := hv0
  have hx := B.exec
  have hb := B.bytes
  have hr := B.returns
  have hts := atoms_spec (ws := wsX3_keeping) B.pre
  have hown : s.vm.findClass RX3 = some m.cls := findClass_of_methodNamed B.named
  have hlocks := B.notSynchronized
  subst hsz
  have hD := hD0.self (sz := s.heap.size)
  generalize hAe : va_A [(h0, .inr (5, [.int on, .int oo, .int og, .ref h1, .ref h2, .int ost, .int ord, .int oac, .int ore, .int okn, .int oth])), (h1, .inl (cI, orl, .inl ork)), (h2, .inl (cI, owl, .inl oww))] s.heap.size = A at hD ⊢
  have hA : ∀ q : Nat, s.heap.size ≤ q → A q := fun q h => by rw [← hAe]; exact Or.inr h
  have hS : va_S A s.heap s.heap [] := va_S.rf
  have hl := lv_entry ([.ref h0, .int a1]) (n := 2) (Nat.le_of_ble_eq_true rfl)
  rw [lg_entry_eq]
  generalize (lg_sl ([.ref h0, .int a1]) ++ List.replicate (2 - (lg_sl ([.ref h0, .int a1])).length) Slot.unset).toArray = ls at hl ⊢
  have hl : lv_has ls 2 [(0, .ref h0), (1, .int a1)] := hl
  refine lv_aload_n hx hb dX3_keeping_0 rfl (lv_at hl 0 rfl) ?_
  refine lv_iload_n hx hb dX3_keeping_1 rfl (lv_at hl 1 rfl) ?_
  refine kc_S (As := [.int a1]) (rest := [.ref h0]) ⟨hx, hb, hml, hown, hts⟩ (kX3_isSide l D cI cB a1 _ hv) (va_cwS 1 hts gX3_keeping_X3_isSide rfl rfl rfl (by decide +kernel) ⟨Nat.le_of_ble_eq_true rfl, Nat.le_of_ble_eq_true rfl⟩) (hP.sub (ws' := []) [] rfl) hK hN rfl hl.1 rfl (Nat.le_of_ble_eq_true rfl) dX3_keeping_2 ⟨Nat.le_of_ble_eq_true rfl, Nat.le_of_ble_eq_true rfl⟩ (fun r2 hv => ?_)
  refine lv_if_ne (tgt := 12) hx hb dX3_keeping_5 (by decide) (fun hc => ?_) (fun hc => ?_)
  · have hv := hv.1 hc
    refine lv_iconst (v := (0 : Int32)) hx hb dX3_keeping_12 (by decide) ?_
    refine kw_i (wr := []) (va_runV (As := [.int (0 : Int32)]) (rest := []) ⟨hx, hb, hml, hown, hts⟩ (kX3_isThrown_W l D cI cB h0 h1 h2 on oo og orl ork owl oww ost ord oac ore okn oth (0 : Int32) _ _ hv) (cwV 1 hts gX3_keeping_X3_isThrown_ rfl rfl rfl (by decide +kernel) ⟨Nat.le_of_ble_eq_true rfl, Nat.le_of_ble_eq_true rfl⟩) ⟨(kPreW (As := [.ref h0, .int (0 : Int32)]) (hP.sub (ws' := [(h0, .inr (5, [.int on, .int oo, .int og, .ref h1, .ref h2, .int ost, .int ord, .int oac, .int ore, .int okn, .int oth])), (h1, .inl (cI, orl, .inl ork)), (h2, .inl (cI, owl, .inl oww))]) [0, 1, 2] rfl) (hD.sub (ws' := [(h0, .inr (5, [.int on, .int oo, .int og, .ref h1, .ref h2, .int ost, .int ord, .int oac, .int ore, .int okn, .int oth])), (h1, .inl (cI, orl, .inl ork)), (h2, .inl (cI, owl, .inl oww))]) [0, 1, 2] (by decide) rfl) hK hN).1, kRecv (hP.sub (ws' := [(h0, .inr (5, [.int on, .int oo, .int og, .ref h1, .ref h2, .int ost, .int ord, .int oac, .int ore, .int okn, .int oth])), (h1, .inl (cI, orl, .inl ork)), (h2, .inl (cI, owl, .inl oww))]) [0, 1, 2] rfl) hK 5 rfl rfl rfl, (kPreW (As := [.ref h0, .int (0 : Int32)]) (hP.sub (ws' := [(h0, .inr (5, [.int on, .int oo, .int og, .ref h1, .ref h2, .int ost, .int ord, .int oac, .int ore, .int okn, .int oth])), (h1, .inl (cI, orl, .inl ork)), (h2, .inl (cI, owl, .inl oww))]) [0, 1, 2] rfl) (hD.sub (ws' := [(h0, .inr (5, [.int on, .int oo, .int og, .ref h1, .ref h2, .int ost, .int ord, .int oac, .int ore, .int okn, .int oth])), (h1, .inl (cI, orl, .inl ork)), (h2, .inl (cI, owl, .inl oww))]) [0, 1, 2] (by decide) rfl) hK hN).2⟩ rfl rfl hl.1 rfl (lv_room (Nat.le_of_ble_eq_true rfl)) dX3_keeping_13 ⟨Nat.le_of_ble_eq_true rfl, Nat.le_of_ble_eq_true rfl⟩) hP hD hS hA [0, 1, 2] [] rfl rfl (by decide) (by decide) (fun r13 u H locs hv hP hD hS => ?_)
    obtain ⟨x13_0, rfl⟩ : ∃ z, z = u := ⟨_, rfl⟩
    have hP : va_P D vwCl [(h0, .inr (5, [.int on, .int oo, .int og, .ref h1, .ref h2, .int ost, .int ord, .int oac, .int ore, .int okn, .int x13_0])), (h1, .inl (cI, orl, .inl ork)), (h2, .inl (cI, owl, .inl oww))] H := hP.sub [0, 1, 2] rfl
    have hD : va_D A [(h0, .inr (5, [.int on, .int oo, .int og, .ref h1, .ref h2, .int ost, .int ord, .int oac, .int ore, .int okn, .int x13_0])), (h1, .inl (cI, orl, .inl ork)), (h2, .inl (cI, owl, .inl oww))] := hD.sub [0, 1, 2] (by decide) rfl
    refine lv_if_eq (tgt := 23) hx hb dX3_keeping_16 (by decide) (fun hc => ?_) (fun hc => ?_)
    · have hv := hv.1 hc
      refine lv_aload_n hx hb dX3_keeping_23 rfl (lv_at hl 0 rfl) ?_
      refine lv_iload_n hx hb dX3_keeping_24 rfl (lv_at hl 1 rfl) ?_
      refine kc_V (As := [.int a1]) (rest := []) ⟨hx, hb, hml, hown, hts⟩ (kX3_keepingOf l D cI cB h0 h1 h2 on oo og orl ork owl oww ost ord oac ore okn x13_0 a1 _ hv) (cwV 1 hts gX3_keeping_X3_keepingOf rfl rfl rfl (by decide +kernel) ⟨Nat.le_of_ble_eq_true rfl, Nat.le_of_ble_eq_true rfl⟩) hP hK hN 5 rfl rfl rfl rfl hl.1 rfl (Nat.le_of_ble_eq_true rfl) dX3_keeping_25 ⟨Nat.le_of_ble_eq_true rfl, Nat.le_of_ble_eq_true rfl⟩ (fun r25 hv => ?_)
      refine W.widen (k := 0) (n := 0) (Nat.le_of_ble_eq_true rfl) (Nat.le_of_ble_eq_true rfl) ?_
      exact W.iret (v := r25) hx hb hr (kWi_ret (u := x13_0) hv hP hD hS) hS.2.2 dX3_keeping_28
    · have hv := hv.2 hc
      refine lv_iconst (v := (0 : Int32)) hx hb dX3_keeping_19 (by decide) ?_
      refine lv_goto (tgt := 28) hx hb dX3_keeping_20 (by decide) ?_
      refine W.widen (k := 0) (n := 0) (Nat.le_of_ble_eq_true rfl) (Nat.le_of_ble_eq_true rfl) ?_
      exact W.iret (v := (0 : Int32)) hx hb hr (kWi_ret (u := x13_0) hv hP hD hS) hS.2.2 dX3_keeping_28
  · have hv := hv.2 hc
    refine lv_iconst (v := (1 : Int32)) hx hb dX3_keeping_8 (by decide) ?_
    refine lv_goto (tgt := 13) hx hb dX3_keeping_9 (by decide) ?_
    refine kw_i (wr := []) (va_runV (As := [.int (1 : Int32)]) (rest := []) ⟨hx, hb, hml, hown, hts⟩ (kX3_isThrown_W l D cI cB h0 h1 h2 on oo og orl ork owl oww ost ord oac ore okn oth (1 : Int32) _ _ hv) (cwV 1 hts gX3_keeping_X3_isThrown_ rfl rfl rfl (by decide +kernel) ⟨Nat.le_of_ble_eq_true rfl, Nat.le_of_ble_eq_true rfl⟩) ⟨(kPreW (As := [.ref h0, .int (1 : Int32)]) (hP.sub (ws' := [(h0, .inr (5, [.int on, .int oo, .int og, .ref h1, .ref h2, .int ost, .int ord, .int oac, .int ore, .int okn, .int oth])), (h1, .inl (cI, orl, .inl ork)), (h2, .inl (cI, owl, .inl oww))]) [0, 1, 2] rfl) (hD.sub (ws' := [(h0, .inr (5, [.int on, .int oo, .int og, .ref h1, .ref h2, .int ost, .int ord, .int oac, .int ore, .int okn, .int oth])), (h1, .inl (cI, orl, .inl ork)), (h2, .inl (cI, owl, .inl oww))]) [0, 1, 2] (by decide) rfl) hK hN).1, kRecv (hP.sub (ws' := [(h0, .inr (5, [.int on, .int oo, .int og, .ref h1, .ref h2, .int ost, .int ord, .int oac, .int ore, .int okn, .int oth])), (h1, .inl (cI, orl, .inl ork)), (h2, .inl (cI, owl, .inl oww))]) [0, 1, 2] rfl) hK 5 rfl rfl rfl, (kPreW (As := [.ref h0, .int (1 : Int32)]) (hP.sub (ws' := [(h0, .inr (5, [.int on, .int oo, .int og, .ref h1, .ref h2, .int ost, .int ord, .int oac, .int ore, .int okn, .int oth])), (h1, .inl (cI, orl, .inl ork)), (h2, .inl (cI, owl, .inl oww))]) [0, 1, 2] rfl) (hD.sub (ws' := [(h0, .inr (5, [.int on, .int oo, .int og, .ref h1, .ref h2, .int ost, .int ord, .int oac, .int ore, .int okn, .int oth])), (h1, .inl (cI, orl, .inl ork)), (h2, .inl (cI, owl, .inl oww))]) [0, 1, 2] (by decide) rfl) hK hN).2⟩ rfl rfl hl.1 rfl (lv_room (Nat.le_of_ble_eq_true rfl)) dX3_keeping_13 ⟨Nat.le_of_ble_eq_true rfl, Nat.le_of_ble_eq_true rfl⟩) hP hD hS hA [0, 1, 2] [] rfl rfl (by decide) (by decide) (fun r13 u H locs hv hP hD hS => ?_)
    obtain ⟨x13_0, rfl⟩ : ∃ z, z = u := ⟨_, rfl⟩
    have hP : va_P D vwCl [(h0, .inr (5, [.int on, .int oo, .int og, .ref h1, .ref h2, .int ost, .int ord, .int oac, .int ore, .int okn, .int x13_0])), (h1, .inl (cI, orl, .inl ork)), (h2, .inl (cI, owl, .inl oww))] H := hP.sub [0, 1, 2] rfl
    have hD : va_D A [(h0, .inr (5, [.int on, .int oo, .int og, .ref h1, .ref h2, .int ost, .int ord, .int oac, .int ore, .int okn, .int x13_0])), (h1, .inl (cI, orl, .inl ork)), (h2, .inl (cI, owl, .inl oww))] := hD.sub [0, 1, 2] (by decide) rfl
    refine lv_if_eq (tgt := 23) hx hb dX3_keeping_16 (by decide) (fun hc => ?_) (fun hc => ?_)
    · have hv := hv.1 hc
      refine lv_aload_n hx hb dX3_keeping_23 rfl (lv_at hl 0 rfl) ?_
      refine lv_iload_n hx hb dX3_keeping_24 rfl (lv_at hl 1 rfl) ?_
      refine kc_V (As := [.int a1]) (rest := []) ⟨hx, hb, hml, hown, hts⟩ (kX3_keepingOf l D cI cB h0 h1 h2 on oo og orl ork owl oww ost ord oac ore okn x13_0 a1 _ hv) (cwV 1 hts gX3_keeping_X3_keepingOf rfl rfl rfl (by decide +kernel) ⟨Nat.le_of_ble_eq_true rfl, Nat.le_of_ble_eq_true rfl⟩) hP hK hN 5 rfl rfl rfl rfl hl.1 rfl (Nat.le_of_ble_eq_true rfl) dX3_keeping_25 ⟨Nat.le_of_ble_eq_true rfl, Nat.le_of_ble_eq_true rfl⟩ (fun r25 hv => ?_)
      refine W.widen (k := 0) (n := 0) (Nat.le_of_ble_eq_true rfl) (Nat.le_of_ble_eq_true rfl) ?_
      exact W.iret (v := r25) hx hb hr (kWi_ret (u := x13_0) hv hP hD hS) hS.2.2 dX3_keeping_28
    · have hv := hv.2 hc
      refine lv_iconst (v := (0 : Int32)) hx hb dX3_keeping_19 (by decide) ?_
      refine lv_goto (tgt := 28) hx hb dX3_keeping_20 (by decide) ?_
      refine W.widen (k := 0) (n := 0) (Nat.le_of_ble_eq_true rfl) (Nat.le_of_ble_eq_true rfl) ?_
      exact W.iret (v := (0 : Int32)) hx hb hr (kWi_ret (u := x13_0) hv hP hD hS) hS.2.2 dX3_keeping_28
set_option maxHeartbeats 4000000 in
set_option maxRecDepth 100000 in
theorem kX3_againW (l : Launch) (D : va_G) (cI cB : ClassId) (h0 : Nat) (h1 : Nat) (h2 : Nat) (on : Int32) (oo : Int32) (og : Int32) (orl : Nat) (ork : Nat → Int32) (owl : Nat) (oww : Nat → Int32) (ost : Int32) (ord : Int32) (oac : Int32) (ore : Int32) (okn : Int32) (oth : Int32) (a1 : Int32) (sz : Nat) (post : Int32 → Int32 → Prop) (hv : qX3_againW on oo og owl oww a1 post) : Met l yX3_again wsX3_again ({ frames := 5, cells := 0, slots := 0, locals := 112 }) (va_Pc [.ref h0, .int a1] (kBW D cI cB sz [(h0, .inr (5, [.int on, .int oo, .int og, .ref h1, .ref h2, .int ost, .int ord, .int oac, .int ore, .int okn, .int oth])), (h1, .inl (cI, orl, .inl ork)), (h2, .inl (cI, owl, .inl oww))])) (va_Qi (fun (r : Int32) (u : Int32) => post r u) (fun (u : Int32) (t : State) => kE D (va_A [(h0, .inr (5, [.int on, .int oo, .int og, .ref h1, .ref h2, .int ost, .int ord, .int oac, .int ore, .int okn, .int oth])), (h1, .inl (cI, orl, .inl ork)), (h2, .inl (cI, owl, .inl oww))] sz) [(h0, .inr (5, [.int on, .int oo, .int og, .ref h1, .ref h2, .int ost, .int ord, .int oac, .int ore, .int okn, .int u])), (h1, .inl (cI, orl, .inl ork)), (h2, .inl (cI, owl, .inl oww))] t) (va_A [(h0, .inr (5, [.int on, .int oo, .int og, .ref h1, .ref h2, .int ost, .int ord, .int oac, .int ore, .int okn, .int oth])), (h1, .inl (cI, orl, .inl ork)), (h2, .inl (cI, owl, .inl oww))] sz)) 0 0 (va_A [(h0, .inr (5, [.int on, .int oo, .int og, .ref h1, .ref h2, .int ost, .int ord, .int oac, .int ore, .int okn, .int oth])), (h1, .inl (cI, orl, .inl ork)), (h2, .inl (cI, owl, .inl oww))] sz) := by
  refine Met.ofW (cc := cX3_again) (maxL := 2) (ret := (some .int)) (by decide) rfl ?_
  intro p e s m args below meth c s₁ B hml hv0
  obtain ⟨rfl, hsz, ⟨hP, hK, hN⟩, hD0⟩ := hv0
  have hx := B.exec
  have hb := B.bytes
  have hr := B.returns
  have hts := atoms_spec (ws := wsX3_again) B.pre
  have hown : s.vm.findClass RX3 = some m.cls := findClass_of_methodNamed B.named
  have hlocks := B.notSynchronized
  subst hsz
  have hD := hD0.self (sz := s.heap.size)
  generalize hAe : va_A [(h0, .inr (5, [.int on, .int oo, .int og, .ref h1, .ref h2, .int ost, .int ord, .int oac, .int ore, .int okn, .int oth])), (h1, .inl (cI, orl, .inl ork)), (h2, .inl (cI, owl, .inl oww))] s.heap.size = A at hD ⊢
  have hA : ∀ q : Nat, s.heap.size ≤ q → A q := fun q h => by rw [← hAe]; exact Or.inr h
  have hS : va_S A s.heap s.heap [] := va_S.rf
  have hl := lv_entry ([.ref h0, .int a1]) (n := 2) (Nat.le_of_ble_eq_true rfl)
  rw [lg_entry_eq]
  generalize (lg_sl ([.ref h0, .int a1]) ++ List.replicate (2 - (lg_sl ([.ref h0, .int a1])).length) Slot.unset).toArray = ls at hl ⊢
  have hl : lv_has ls 2 [(0, .ref h0), (1, .int a1)] := hl
  refine lv_aload_n hx hb dX3_again_0 rfl (lv_at hl 0 rfl) ?_
  refine lv_iload_n hx hb dX3_again_1 rfl (lv_at hl 1 rfl) ?_
  refine kc_S (As := [.int a1]) (rest := [.ref h0]) ⟨hx, hb, hml, hown, hts⟩ (kX3_isSide l D cI cB a1 _ hv) (va_cwS 1 hts gX3_again_X3_isSide rfl rfl rfl (by decide +kernel) ⟨Nat.le_of_ble_eq_true rfl, Nat.le_of_ble_eq_true rfl⟩) (hP.sub (ws' := []) [] rfl) hK hN rfl hl.1 rfl (Nat.le_of_ble_eq_true rfl) dX3_again_2 ⟨Nat.le_of_ble_eq_true rfl, Nat.le_of_ble_eq_true rfl⟩ (fun r2 hv => ?_)
  refine lv_if_ne (tgt := 12) hx hb dX3_again_5 (by decide) (fun hc => ?_) (fun hc => ?_)
  · have hv := hv.1 hc
    refine lv_iconst (v := (0 : Int32)) hx hb dX3_again_12 (by decide) ?_
    refine kw_i (wr := []) (va_runV (As := [.int (0 : Int32)]) (rest := []) ⟨hx, hb, hml, hown, hts⟩ (kX3_isThrown_W l D cI cB h0 h1 h2 on oo og orl ork owl oww ost ord oac ore okn oth (0 : Int32) _ _ hv) (cwV 1 hts gX3_again_X3_isThrown_ rfl rfl rfl (by decide +kernel) ⟨Nat.le_of_ble_eq_true rfl, Nat.le_of_ble_eq_true rfl⟩) ⟨(kPreW (As := [.ref h0, .int (0 : Int32)]) (hP.sub (ws' := [(h0, .inr (5, [.int on, .int oo, .int og, .ref h1, .ref h2, .int ost, .int ord, .int oac, .int ore, .int okn, .int oth])), (h1, .inl (cI, orl, .inl ork)), (h2, .inl (cI, owl, .inl oww))]) [0, 1, 2] rfl) (hD.sub (ws' := [(h0, .inr (5, [.int on, .int oo, .int og, .ref h1, .ref h2, .int ost, .int ord, .int oac, .int ore, .int okn, .int oth])), (h1, .inl (cI, orl, .inl ork)), (h2, .inl (cI, owl, .inl oww))]) [0, 1, 2] (by decide) rfl) hK hN).1, kRecv (hP.sub (ws' := [(h0, .inr (5, [.int on, .int oo, .int og, .ref h1, .ref h2, .int ost, .int ord, .int oac, .int ore, .int okn, .int oth])), (h1, .inl (cI, orl, .inl ork)), (h2, .inl (cI, owl, .inl oww))]) [0, 1, 2] rfl) hK 5 rfl rfl rfl, (kPreW (As := [.ref h0, .int (0 : Int32)]) (hP.sub (ws' := [(h0, .inr (5, [.int on, .int oo, .int og, .ref h1, .ref h2, .int ost, .int ord, .int oac, .int ore, .int okn, .int oth])), (h1, .inl (cI, orl, .inl ork)), (h2, .inl (cI, owl, .inl oww))]) [0, 1, 2] rfl) (hD.sub (ws' := [(h0, .inr (5, [.int on, .int oo, .int og, .ref h1, .ref h2, .int ost, .int ord, .int oac, .int ore, .int okn, .int oth])), (h1, .inl (cI, orl, .inl ork)), (h2, .inl (cI, owl, .inl oww))]) [0, 1, 2] (by decide) rfl) hK hN).2⟩ rfl rfl hl.1 rfl (lv_room (Nat.le_of_ble_eq_true rfl)) dX3_again_13 ⟨Nat.le_of_ble_eq_true rfl, Nat.le_of_ble_eq_true rfl⟩) hP hD hS hA [0, 1, 2] [] rfl rfl (by decide) (by decide) (fun r13 u H locs hv hP hD hS => ?_)
    obtain ⟨x13_0, rfl⟩ : ∃ z, z = u := ⟨_, rfl⟩
    have hP : va_P D vwCl [(h0, .inr (5, [.int on, .int oo, .int og, .ref h1, .ref h2, .int ost, .int ord, .int oac, .int ore, .int okn, .int x13_0])), (h1, .inl (cI, orl, .inl ork)), (h2, .inl (cI, owl, .inl oww))] H := hP.sub [0, 1, 2] rfl
    have hD : va_D A [(h0, .inr (5, [.int on, .int oo, .int og, .ref h1, .ref h2, .int ost, .int ord, .int oac, .int ore, .int okn, .int x13_0])), (h1, .inl (cI, orl, .inl ork)), (h2, .inl (cI, owl, .inl oww))] := hD.sub [0, 1, 2] (by decide) rfl
    refine lv_if_eq (tgt := 23) hx hb dX3_again_16 (by decide) (fun hc => ?_) (fun hc => ?_)
    · have hv := hv.1 hc
      refine lv_aload_n hx hb dX3_again_23 rfl (lv_at hl 0 rfl) ?_
      refine lv_iload_n hx hb dX3_again_24 rfl (lv_at hl 1 rfl) ?_
      refine kc_V (As := [.int a1]) (rest := []) ⟨hx, hb, hml, hown, hts⟩ (kX3_againOf l D cI cB h0 h1 h2 on oo og orl ork owl oww ost ord oac ore okn x13_0 a1 _ hv) (cwV 1 hts gX3_again_X3_againOf rfl rfl rfl (by decide +kernel) ⟨Nat.le_of_ble_eq_true rfl, Nat.le_of_ble_eq_true rfl⟩) hP hK hN 5 rfl rfl rfl rfl hl.1 rfl (Nat.le_of_ble_eq_true rfl) dX3_again_25 ⟨Nat.le_of_ble_eq_true rfl, Nat.le_of_ble_eq_true rfl⟩ (fun r25 hv => ?_)
      refine W.widen (k := 0) (n := 0) (Nat.le_of_ble_eq_true rfl) (Nat.le_of_ble_eq_true rfl) ?_
      exact W.iret (v := r25) hx hb hr (kWi_ret (u := x13_0) hv hP hD hS) hS.2.2 dX3_again_28
    · have hv := hv.2 hc
      refine lv_iconst (v := (0 : Int32)) hx hb dX3_again_19 (by decide) ?_
      refine lv_goto (tgt := 28) hx hb dX3_again_20 (by decide) ?_
      refine W.widen (k := 0) (n := 0) (Nat.le_of_ble_eq_true rfl) (Nat.le_of_ble_eq_true rfl) ?_
      exact W.iret (v := (0 : Int32)) hx hb hr (kWi_ret (u := x13_0) hv hP hD hS) hS.2.2 dX3_again_28
  · have hv := hv.2 hc
    refine lv_iconst (v := (1 : Int32)) hx hb dX3_again_8 (by decide) ?_
    refine lv_goto (tgt := 13) hx hb dX3_again_9 (by decide) ?_
    refine kw_i (wr := []) (va_runV (As := [.int (1 : Int32)]) (rest := []) ⟨hx, hb, hml, hown, hts⟩ (kX3_isThrown_W l D cI cB h0 h1 h2 on oo og orl ork owl oww ost ord oac ore okn oth (1 : Int32) _ _ hv) (cwV 1 hts gX3_again_X3_isThrown_ rfl rfl rfl (by decide +kernel) ⟨Nat.le_of_ble_eq_true rfl, Nat.le_of_ble_eq_true rfl⟩) ⟨(kPreW (As := [.ref h0, .int (1 : Int32)]) (hP.sub (ws' := [(h0, .inr (5, [.int on, .int oo, .int og, .ref h1, .ref h2, .int ost, .int ord, .int oac, .int ore, .int okn, .int oth])), (h1, .inl (cI, orl, .inl ork)), (h2, .inl (cI, owl, .inl oww))]) [0, 1, 2] rfl) (hD.sub (ws' := [(h0, .inr (5, [.int on, .int oo, .int og, .ref h1, .ref h2, .int ost, .int ord, .int oac, .int ore, .int okn, .int oth])), (h1, .inl (cI, orl, .inl ork)), (h2, .inl (cI, owl, .inl oww))]) [0, 1, 2] (by decide) rfl) hK hN).1, kRecv (hP.sub (ws' := [(h0, .inr (5, [.int on, .int oo, .int og, .ref h1, .ref h2, .int ost, .int ord, .int oac, .int ore, .int okn, .int oth])), (h1, .inl (cI, orl, .inl ork)), (h2, .inl (cI, owl, .inl oww))]) [0, 1, 2] rfl) hK 5 rfl rfl rfl, (kPreW (As := [.ref h0, .int (1 : Int32)]) (hP.sub (ws' := [(h0, .inr (5, [.int on, .int oo, .int og, .ref h1, .ref h2, .int ost, .int ord, .int oac, .int ore, .int okn, .int oth])), (h1, .inl (cI, orl, .inl ork)), (h2, .inl (cI, owl, .inl oww))]) [0, 1, 2] rfl) (hD.sub (ws' := [(h0, .inr (5, [.int on, .int oo, .int og, .ref h1, .ref h2, .int ost, .int ord, .int oac, .int ore, .int okn, .int oth])), (h1, .inl (cI, orl, .inl ork)), (h2, .inl (cI, owl, .inl oww))]) [0, 1, 2] (by decide) rfl) hK hN).2⟩ rfl rfl hl.1 rfl (lv_room (Nat.le_of_ble_eq_true rfl)) dX3_again_13 ⟨Nat.le_of_ble_eq_true rfl, Nat.le_of_ble_eq_true rfl⟩) hP hD hS hA [0, 1, 2] [] rfl rfl (by decide) (by decide) (fun r13 u H locs hv hP hD hS => ?_)
    obtain ⟨x13_0, rfl⟩ : ∃ z, z = u := ⟨_, rfl⟩
    have hP : va_P D vwCl [(h0, .inr (5, [.int on, .int oo, .int og, .ref h1, .ref h2, .int ost, .int ord, .int oac, .int ore, .int okn, .int x13_0])), (h1, .inl (cI, orl, .inl ork)), (h2, .inl (cI, owl, .inl oww))] H := hP.sub [0, 1, 2] rfl
    have hD : va_D A [(h0, .inr (5, [.int on, .int oo, .int og, .ref h1, .ref h2, .int ost, .int ord, .int oac, .int ore, .int okn, .int x13_0])), (h1, .inl (cI, orl, .inl ork)), (h2, .inl (cI, owl, .inl oww))] := hD.sub [0, 1, 2] (by decide) rfl
    refine lv_if_eq (tgt := 23) hx hb dX3_again_16 (by decide) (fun hc => ?_) (fun hc => ?_)
    · have hv := hv.1 hc
      refine lv_aload_n hx hb dX3_again_23 rfl (lv_at hl 0 rfl) ?_
      refine lv_iload_n hx hb dX3_again_24 rfl (lv_at hl 1 rfl) ?_
      refine kc_V (As := [.int a1]) (rest := []) ⟨hx, hb, hml, hown, hts⟩ (kX3_againOf l D cI cB h0 h1 h2 on oo og orl ork owl oww ost ord oac ore okn x13_0 a1 _ hv) (cwV 1 hts gX3_again_X3_againOf rfl rfl rfl (by decide +kernel) ⟨Nat.le_of_ble_eq_true rfl, Nat.le_of_ble_eq_true rfl⟩) hP hK hN 5 rfl rfl rfl rfl hl.1 rfl (Nat.le_of_ble_eq_true rfl) dX3_again_25 ⟨Nat.le_of_ble_eq_true rfl, Nat.le_of_ble_eq_true rfl⟩ (fun r25 hv => ?_)
      refine W.widen (k := 0) (n := 0) (Nat.le_of_ble_eq_true rfl) (Nat.le_of_ble_eq_true rfl) ?_
      exact W.iret (v := r25) hx hb hr (kWi_ret (u := x13_0) hv hP hD hS) hS.2.2 dX3_again_28
    · have hv := hv.2 hc
      refine lv_iconst (v := (0 : Int32)) hx hb dX3_again_19 (by decide) ?_
      refine lv_goto (tgt := 28) hx hb dX3_again_20 (by decide) ?_
      refine W.widen (k := 0) (n := 0) (Nat.le_of_ble_eq_true rfl) (Nat.le_of_ble_eq_true rfl) ?_
      exact W.iret (v := (0 : Int32)) hx hb hr (kWi_ret (u := x13_0) hv hP hD hS) hS.2.2 dX3_again_28
set_option maxHeartbeats 4000000 in
set_option maxRecDepth 100000 in
theorem kX3_rankedW (l : Launch) (D : va_G) (cI cB : ClassId) (h0 : Nat) (h1 : Nat) (h2 : Nat) (on : Int32) (oo : Int32) (og : Int32) (orl : Nat) (ork : Nat → Int32) (owl : Nat) (oww : Nat → Int32) (ost : Int32) (ord : Int32) (oac : Int32) (ore : Int32) (okn : Int32) (oth : Int32) (a1 : Int32) (sz : Nat) (post : Int32 → Int32 → Prop) (hv : qX3_rankedW on oo og orl ork owl oww a1 post) : Met l yX3_ranked wsX3_ranked ({ frames := 6, cells := 0, slots := 0, locals := 134 }) (va_Pc [.ref h0, .int a1] (kBW D cI cB sz [(h0, .inr (5, [.int on, .int oo, .int og, .ref h1, .ref h2, .int ost, .int ord, .int oac, .int ore, .int okn, .int oth])), (h1, .inl (cI, orl, .inl ork)), (h2, .inl (cI, owl, .inl oww))])) (va_Qi (fun (r : Int32) (u : Int32) => post r u) (fun (u : Int32) (t : State) => kE D (va_A [(h0, .inr (5, [.int on, .int oo, .int og, .ref h1, .ref h2, .int ost, .int ord, .int oac, .int ore, .int okn, .int oth])), (h1, .inl (cI, orl, .inl ork)), (h2, .inl (cI, owl, .inl oww))] sz) [(h0, .inr (5, [.int on, .int oo, .int og, .ref h1, .ref h2, .int ost, .int ord, .int oac, .int ore, .int okn, .int u])), (h1, .inl (cI, orl, .inl ork)), (h2, .inl (cI, owl, .inl oww))] t) (va_A [(h0, .inr (5, [.int on, .int oo, .int og, .ref h1, .ref h2, .int ost, .int ord, .int oac, .int ore, .int okn, .int oth])), (h1, .inl (cI, orl, .inl ork)), (h2, .inl (cI, owl, .inl oww))] sz)) 0 0 (va_A [(h0, .inr (5, [.int on, .int oo, .int og, .ref h1, .ref h2, .int ost, .int ord, .int oac, .int ore, .int okn, .int oth])), (h1, .inl (cI, orl, .inl ork)), (h2, .inl (cI, owl, .inl oww))] sz) := by
  refine Met.ofW (cc := cX3_ranked) (maxL := 2) (ret := (some .int)) (by decide) rfl ?_
  intro p e s m args below meth c s₁ B hml hv0
  obtain ⟨rfl, hsz, ⟨hP, hK, hN⟩, hD0⟩ := hv0
  have hx := B.exec
  have hb := B.bytes
  have hr := B.returns
  have hts := atoms_spec (ws := wsX3_ranked) B.pre
  have hown : s.vm.findClass RX3 = some m.cls := findClass_of_methodNamed B.named
  have hlocks := B.notSynchronized
  subst hsz
  have hD := hD0.self (sz := s.heap.size)
  generalize hAe : va_A [(h0, .inr (5, [.int on, .int oo, .int og, .ref h1, .ref h2, .int ost, .int ord, .int oac, .int ore, .int okn, .int oth])), (h1, .inl (cI, orl, .inl ork)), (h2, .inl (cI, owl, .inl oww))] s.heap.size = A at hD ⊢
  have hA : ∀ q : Nat, s.heap.size ≤ q → A q := fun q h => by rw [← hAe]; exact Or.inr h
  have hS : va_S A s.heap s.heap [] := va_S.rf
  have hl := lv_entry ([.ref h0, .int a1]) (n := 2) (Nat.le_of_ble_eq_true rfl)
  rw [lg_entry_eq]
  generalize (lg_sl ([.ref h0, .int a1]) ++ List.replicate (2 - (lg_sl ([.ref h0, .int a1])).length) Slot.unset).toArray = ls at hl ⊢
  have hl : lv_has ls 2 [(0, .ref h0), (1, .int a1)] := hl
  refine lv_aload_n hx hb dX3_ranked_0 rfl (lv_at hl 0 rfl) ?_
  refine lv_iload_n hx hb dX3_ranked_1 rfl (lv_at hl 1 rfl) ?_
  refine kc_S (As := [.int a1]) (rest := [.ref h0]) ⟨hx, hb, hml, hown, hts⟩ (kX3_isSide l D cI cB a1 _ hv) (va_cwS 1 hts gX3_ranked_X3_isSide rfl rfl rfl (by decide +kernel) ⟨Nat.le_of_ble_eq_true rfl, Nat.le_of_ble_eq_true rfl⟩) (hP.sub (ws' := []) [] rfl) hK hN rfl hl.1 rfl (Nat.le_of_ble_eq_true rfl) dX3_ranked_2 ⟨Nat.le_of_ble_eq_true rfl, Nat.le_of_ble_eq_true rfl⟩ (fun r2 hv => ?_)
  have J13 : ∀ (s0_j13 : Int32) (H : Heap) (locs : List Loc) (ls : Array Slot), va_P D vwCl [(h0, .inr (5, [.int on, .int oo, .int og, .ref h1, .ref h2, .int ost, .int ord, .int oac, .int ore, .int okn, .int oth])), (h1, .inl (cI, orl, .inl ork)), (h2, .inl (cI, owl, .inl oww))] H → va_D A [(h0, .inr (5, [.int on, .int oo, .int og, .ref h1, .ref h2, .int ost, .int ord, .int oac, .int ore, .int okn, .int oth])), (h1, .inl (cI, orl, .inl ork)), (h2, .inl (cI, owl, .inl oww))] → va_S A s.heap H locs → qX3_rankedW_j13 on oo og orl ork owl oww a1 s0_j13 post → lv_has ls 2 [(0, .ref h0), (1, .int a1)] → W p l e (headSpec wsX3_ranked ({ frames := 6, cells := 0, slots := 0, locals := 134 })).room s m ([.ref h0, .int a1] : List Value).toArray below meth c H locs 0 0 (MQ below (va_Qi (fun (r : Int32) (u : Int32) => post r u) (fun (u : Int32) (t : State) => kE D A [(h0, .inr (5, [.int on, .int oo, .int og, .ref h1, .ref h2, .int ost, .int ord, .int oac, .int ore, .int okn, .int u])), (h1, .inl (cI, orl, .inl ork)), (h2, .inl (cI, owl, .inl oww))] t) A) ([.ref h0, .int a1] : List Value).toArray s 0 0 A) (F0 m 13 ls [.int s0_j13, .ref h0]) := by
    intro s0_j13 H locs ls hP hD hS hv hl
    refine kw_i (wr := []) (va_runV (As := [.int s0_j13]) (rest := []) ⟨hx, hb, hml, hown, hts⟩ (kX3_isThrown_W l D cI cB h0 h1 h2 on oo og orl ork owl oww ost ord oac ore okn oth s0_j13 _ _ hv) (cwV 1 hts gX3_ranked_X3_isThrown_ rfl rfl rfl (by decide +kernel) ⟨Nat.le_of_ble_eq_true rfl, Nat.le_of_ble_eq_true rfl⟩) ⟨(kPreW (As := [.ref h0, .int s0_j13]) (hP.sub (ws' := [(h0, .inr (5, [.int on, .int oo, .int og, .ref h1, .ref h2, .int ost, .int ord, .int oac, .int ore, .int okn, .int oth])), (h1, .inl (cI, orl, .inl ork)), (h2, .inl (cI, owl, .inl oww))]) [0, 1, 2] rfl) (hD.sub (ws' := [(h0, .inr (5, [.int on, .int oo, .int og, .ref h1, .ref h2, .int ost, .int ord, .int oac, .int ore, .int okn, .int oth])), (h1, .inl (cI, orl, .inl ork)), (h2, .inl (cI, owl, .inl oww))]) [0, 1, 2] (by decide) rfl) hK hN).1, kRecv (hP.sub (ws' := [(h0, .inr (5, [.int on, .int oo, .int og, .ref h1, .ref h2, .int ost, .int ord, .int oac, .int ore, .int okn, .int oth])), (h1, .inl (cI, orl, .inl ork)), (h2, .inl (cI, owl, .inl oww))]) [0, 1, 2] rfl) hK 5 rfl rfl rfl, (kPreW (As := [.ref h0, .int s0_j13]) (hP.sub (ws' := [(h0, .inr (5, [.int on, .int oo, .int og, .ref h1, .ref h2, .int ost, .int ord, .int oac, .int ore, .int okn, .int oth])), (h1, .inl (cI, orl, .inl ork)), (h2, .inl (cI, owl, .inl oww))]) [0, 1, 2] rfl) (hD.sub (ws' := [(h0, .inr (5, [.int on, .int oo, .int og, .ref h1, .ref h2, .int ost, .int ord, .int oac, .int ore, .int okn, .int oth])), (h1, .inl (cI, orl, .inl ork)), (h2, .inl (cI, owl, .inl oww))]) [0, 1, 2] (by decide) rfl) hK hN).2⟩ rfl rfl hl.1 rfl (lv_room (Nat.le_of_ble_eq_true rfl)) dX3_ranked_13 ⟨Nat.le_of_ble_eq_true rfl, Nat.le_of_ble_eq_true rfl⟩) hP hD hS hA [0, 1, 2] [] rfl rfl (by decide) (by decide) (fun r13 u H locs hv hP hD hS => ?_)
    obtain ⟨x13_0, rfl⟩ : ∃ z, z = u := ⟨_, rfl⟩
    have hP : va_P D vwCl [(h0, .inr (5, [.int on, .int oo, .int og, .ref h1, .ref h2, .int ost, .int ord, .int oac, .int ore, .int okn, .int x13_0])), (h1, .inl (cI, orl, .inl ork)), (h2, .inl (cI, owl, .inl oww))] H := hP.sub [0, 1, 2] rfl
    have hD : va_D A [(h0, .inr (5, [.int on, .int oo, .int og, .ref h1, .ref h2, .int ost, .int ord, .int oac, .int ore, .int okn, .int x13_0])), (h1, .inl (cI, orl, .inl ork)), (h2, .inl (cI, owl, .inl oww))] := hD.sub [0, 1, 2] (by decide) rfl
    refine lv_if_eq (tgt := 23) hx hb dX3_ranked_16 (by decide) (fun hc => ?_) (fun hc => ?_)
    · have hv := hv.1 hc
      refine lv_aload_n hx hb dX3_ranked_23 rfl (lv_at hl 0 rfl) ?_
      refine lv_iconst (v := (3 : Int32)) hx hb dX3_ranked_24 (by decide) ?_
      refine lv_iload_n hx hb dX3_ranked_25 rfl (lv_at hl 1 rfl) ?_
      refine kc_V (As := [.int (3 : Int32), .int a1]) (rest := []) ⟨hx, hb, hml, hown, hts⟩ (kX3_wonIn l D cI cB h0 h1 h2 on oo og orl ork owl oww ost ord oac ore okn x13_0 (3 : Int32) a1 _ hv) (cwV 2 hts gX3_ranked_X3_wonIn rfl rfl rfl (by decide +kernel) ⟨Nat.le_of_ble_eq_true rfl, Nat.le_of_ble_eq_true rfl⟩) hP hK hN 5 rfl rfl rfl rfl hl.1 rfl (Nat.le_of_ble_eq_true rfl) dX3_ranked_26 ⟨Nat.le_of_ble_eq_true rfl, Nat.le_of_ble_eq_true rfl⟩ (fun r26 hv => ?_)
      refine W.widen (k := 0) (n := 0) (Nat.le_of_ble_eq_true rfl) (Nat.le_of_ble_eq_true rfl) ?_
      exact W.iret (v := r26) hx hb hr (kWi_ret (u := x13_0) hv hP hD hS) hS.2.2 dX3_ranked_29
    · have hv := hv.2 hc
      refine lv_iconst (v := (0 : Int32)) hx hb dX3_ranked_19 (by decide) ?_
      refine lv_goto (tgt := 29) hx hb dX3_ranked_20 (by decide) ?_
      refine W.widen (k := 0) (n := 0) (Nat.le_of_ble_eq_true rfl) (Nat.le_of_ble_eq_true rfl) ?_
      exact W.iret (v := (0 : Int32)) hx hb hr (kWi_ret (u := x13_0) hv hP hD hS) hS.2.2 dX3_ranked_29
  refine lv_if_ne (tgt := 12) hx hb dX3_ranked_5 (by decide) (fun hc => ?_) (fun hc => ?_)
  · have hv := hv.1 hc
    refine lv_iconst (v := (0 : Int32)) hx hb dX3_ranked_12 (by decide) ?_
    refine W.widen (k := 0) (n := 0) (Nat.le_of_ble_eq_true rfl) (Nat.le_of_ble_eq_true rfl) ?_
    exact J13 _ _ _ _ hP hD hS hv (lv_sub hl [0, 1] rfl)
  · have hv := hv.2 hc
    refine lv_iconst (v := (1 : Int32)) hx hb dX3_ranked_8 (by decide) ?_
    refine lv_goto (tgt := 13) hx hb dX3_ranked_9 (by decide) ?_
    refine W.widen (k := 0) (n := 0) (Nat.le_of_ble_eq_true rfl) (Nat.le_of_ble_eq_true rfl) ?_
    exact J13 _ _ _ _ hP hD hS hv (lv_sub hl [0, 1] rfl)
