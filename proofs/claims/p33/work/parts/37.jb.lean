/-! text, by program (wip/gen) -/
set_option maxHeartbeats 4000000 in
set_option maxRecDepth 100000 in
theorem kJ7_copyOf_9075bW (l : Launch) (D : va_G) (cI cB : ClassId) (dO dT : Nat → Int32) (adK adV : Nat → Nat) (h0 : Nat) (bl : Nat) (bf : Nat → Int32) (a1 : Int32) (sz : Nat) (post : Nat → (Nat → Int32) → Nat → (Nat → Int32) → Prop) (hv : qJ7_copyOf_9075bW bl bf a1 post) : Met l yJ7_copyOf_9075b wsJ7_copyOf_9075b ({ frames := 1, cells := 1, slots := 300, locals := 40 }) (va_Pc [.ref h0, .int a1] (kBWJ D cI cB dO dT adK adV sz [(h0, .inl (cB, bl, .inl bf))])) (va_Qr (fun (u : Nat × (Nat → Int32) × Nat × (Nat → Int32)) => post u.1 u.2.1 u.2.2.1 u.2.2.2) (fun (u : Nat × (Nat → Int32) × Nat × (Nat → Int32)) (q : Nat) (t : State) => kE D (va_A [(h0, .inl (cB, bl, .inl bf))] sz) [(h0, .inl (cB, (u.1), .inl (u.2.1))), (q, .inl (cB, (u.2.2.1), .inl (u.2.2.2)))] t) (va_A [(h0, .inl (cB, bl, .inl bf))] sz)) 1 300 (va_A [(h0, .inl (cB, bl, .inl bf))] sz) := by
  refine Met.ofW (cc := cJ7_copyOf_9075b) (maxL := 3) (ret := (some (.array .byte))) (by decide) rfl ?_
  intro p e s m args below meth c s₁ B hml hv0
  obtain ⟨rfl, ⟨hsz, ⟨hP, hK, hN⟩, hD0⟩, hSt⟩ := hv0
  have hx := B.exec
  have hb := B.bytes
  have hr := B.returns
  have hts := atoms_spec (ws := wsJ7_copyOf_9075b) B.pre
  have hown : s.vm.findClass RJ7 = some m.cls := findClass_of_methodNamed B.named
  have hlocks := B.notSynchronized
  subst hsz
  have hD := hD0.self (sz := s.heap.size)
  generalize hAe : va_A [(h0, .inl (cB, bl, .inl bf))] s.heap.size = A at hD hSt ⊢
  have hA : ∀ q : Nat, s.heap.size ≤ q → A q := fun q h => by rw [← hAe]; exact Or.inr h
  have hS : va_S A s.heap s.heap [] := va_S.rf
  have hl := lv_entry ([.ref h0, .int a1]) (n := 3) (Nat.le_of_ble_eq_true rfl)
  rw [lg_entry_eq]
  generalize (lg_sl ([.ref h0, .int a1]) ++ List.replicate (3 - (lg_sl ([.ref h0, .int a1])).length) Slot.unset).toArray = ls at hl ⊢
  have hl : lv_has ls 3 [(0, .ref h0), (1, .int a1)] := hl
  refine lv_iload_n hx hb dJ7_copyOf_9075b_0 rfl (lv_at hl 1 rfl) ?_
  refine lv_aload_n hx hb dJ7_copyOf_9075b_1 rfl (lv_at hl 0 rfl) ?_
  refine va_alen (v := (Int32.ofNat bl)) hx hb hK hP 0 1 rfl rfl (by first | rfl | decide) dJ7_copyOf_9075b_2 ?_
  refine lv_icmp_ne (tgt := 14) hx hb dJ7_copyOf_9075b_3 (by decide) (fun hc => ?_) (fun hc => ?_)
  · have hv := hv.1 hc
    refine lv_iload_n hx hb dJ7_copyOf_9075b_14 rfl (lv_at hl 1 rfl) ?_
    obtain ⟨hq0, hq1, hv⟩ := hv
    refine va_newa (atype := .byte) (ty := .byte) (N' := a1.toNatClampNeg) (a0 := (a1.toNatClampNeg, .inl (fun _ => (0 : Int32)))) hx hb (hts (.arrayClass .byte) (by decide +kernel)) rfl hK hP hD hS hA (fun _ => rfl) hq0 rfl (by show _ * 1 ≤ _; omega) (Nat.le_of_ble_eq_true rfl) (by show _ ≤ _; exact Nat.le_trans (Nat.add_le_add_left hq1 _) (Nat.le_of_ble_eq_true rfl)) dJ7_copyOf_9075b_15 (fun w15 cA H hK2 hP hD hS => ?_)
    have hcA := kSameB hK hK2
    subst hcA
    have hP : va_P D vwCl [(h0, .inl (cB, bl, .inl bf)), (w15, .inl (cB, (a1.toNatClampNeg), .inl (fun _ => (0 : Int32))))] H := hP
    have hD : va_D A [(h0, .inl (cB, bl, .inl bf)), (w15, .inl (cB, (a1.toNatClampNeg), .inl (fun _ => (0 : Int32))))] := hD
    refine W.widen (k := 1) (n := 300) (Nat.le_of_ble_eq_true rfl) (by omega) ?_
    refine lv_astore_n (lv' := [(2, .ref w15), (0, .ref h0), (1, .int a1)]) hx hb dJ7_copyOf_9075b_17 rfl hl (by decide) rfl (fun ls hl => ?_)
    refine lv_aload_n hx hb dJ7_copyOf_9075b_18 rfl (lv_at hl 1 rfl) ?_
    refine lv_iconst (v := (0 : Int32)) hx hb dJ7_copyOf_9075b_19 (by decide) ?_
    refine lv_aload_n hx hb dJ7_copyOf_9075b_20 rfl (lv_at hl 0 rfl) ?_
    refine lv_iconst (v := (0 : Int32)) hx hb dJ7_copyOf_9075b_21 (by decide) ?_
    refine lv_aload_n hx hb dJ7_copyOf_9075b_22 rfl (lv_at hl 1 rfl) ?_
    refine va_alen (v := (Int32.ofNat bl)) hx hb hK hP 0 1 rfl rfl (by first | rfl | decide) dJ7_copyOf_9075b_23 ?_
    refine lv_iload_n hx hb dJ7_copyOf_9075b_24 rfl (lv_at hl 2 rfl) ?_
    refine va_mmin hx hb (hml.trans hl.1.symm) hown (hts (.methodLink RJ7 304 Lib.Math.min.name) (by decide +kernel)) (hts (.static Lib.Math.min.name) (by decide +kernel)) (hts (.initialized "java/lang/Math") (by decide +kernel)) (hts (.code Lib.Math.min.name Lib.Math.min.code 2 (some .int)) (by decide +kernel)) (Nat.le_of_ble_eq_true rfl) (Nat.le_of_ble_eq_true rfl) (Nat.le_of_ble_eq_true rfl) (Nat.le_of_ble_eq_true rfl) dJ7_copyOf_9075b_25 ?_
    obtain ⟨hc1, hc2, hc3, hc4, hc5, hc6, hv⟩ := hv
    refine va_copyi (ty := .byte) hx hb (hml.trans hl.1.symm) hown (hts (.methodLink RJ7 150 arraycopyName) (by decide +kernel)) (hts (.native arraycopyName) (by decide +kernel)) (hts (.static arraycopyName) (by decide +kernel)) (hts (.initialized "java/lang/System") (by decide +kernel)) hK hP hD hS 0 1 1 1 rfl rfl rfl rfl rfl hc1 hc2 hc3 hc4 hc5 hc6 (Nat.le_of_ble_eq_true rfl) (Nat.le_of_ble_eq_true rfl) dJ7_copyOf_9075b_28 (fun H locs hP hD hS => ?_)
    have hP : va_P D vwCl [(h0, .inl (cB, bl, .inl bf)), (w15, .inl (cB, (a1.toNatClampNeg), .inl (va_cpy bf (fun _ => (0 : Int32)) (0 : Int32).toNatClampNeg (0 : Int32).toNatClampNeg (if a1 < (Int32.ofNat bl) then a1 else (Int32.ofNat bl)).toNatClampNeg)))] H := hP
    have hD : va_D A [(h0, .inl (cB, bl, .inl bf)), (w15, .inl (cB, (a1.toNatClampNeg), .inl (va_cpy bf (fun _ => (0 : Int32)) (0 : Int32).toNatClampNeg (0 : Int32).toNatClampNeg (if a1 < (Int32.ofNat bl) then a1 else (Int32.ofNat bl)).toNatClampNeg)))] := hD
    refine lv_aload_n hx hb dJ7_copyOf_9075b_31 rfl (lv_at hl 0 rfl) ?_
    refine W.widen (k := 1) (n := 300) (Nat.le_of_ble_eq_true rfl) (Nat.le_of_ble_eq_true rfl) ?_
    have hP : va_P D vwCl [(h0, .inl (cB, bl, .inl bf)), (w15, .inl (cB, (a1.toNatClampNeg), .inl (va_cpy bf (fun _ => (0 : Int32)) (0 : Int32).toNatClampNeg (0 : Int32).toNatClampNeg (if a1 < (Int32.ofNat bl) then a1 else (Int32.ofNat bl)).toNatClampNeg)))] _ := hP.sub [0, 1] rfl
    have hD : va_D A [(h0, .inl (cB, bl, .inl bf)), (w15, .inl (cB, (a1.toNatClampNeg), .inl (va_cpy bf (fun _ => (0 : Int32)) (0 : Int32).toNatClampNeg (0 : Int32).toNatClampNeg (if a1 < (Int32.ofNat bl) then a1 else (Int32.ofNat bl)).toNatClampNeg)))] := hD.sub [0, 1] (by decide) rfl
    exact W.aret (v := .ref w15) (rt := .array .byte) hx hb hr (Or.inr ⟨_, rfl⟩) (Or.inr ⟨_, rfl⟩) (kWr_ret (q := w15) (u := (bl, bf, (a1.toNatClampNeg), (va_cpy bf (fun _ => (0 : Int32)) (0 : Int32).toNatClampNeg (0 : Int32).toNatClampNeg (if a1 < (Int32.ofNat bl) then a1 else (Int32.ofNat bl)).toNatClampNeg))) (w1 := fun (u : Nat × (Nat → Int32) × Nat × (Nat → Int32)) (q : Nat) => [(h0, .inl (cB, (u.1), .inl (u.2.1))), (q, .inl (cB, (u.2.2.1), .inl (u.2.2.2)))]) (by exact hv) hP hD hS) hS.2.2 dJ7_copyOf_9075b_32
  · have hv := hv.2 hc
    refine lv_aload_n hx hb dJ7_copyOf_9075b_6 rfl (lv_at hl 0 rfl) ?_
    obtain ⟨hc5, hc6, hv⟩ := hv
    refine va_clone (ad := "[B") hx hb (hml.trans hl.1.symm) hown (hts (.methodLink RJ7 310 ⟨"[B", "clone", "()Ljava/lang/Object;"⟩) (by decide +kernel)) (hts (.sameMethod "[B" "java/lang/Object" "clone" "()Ljava/lang/Object;") (by decide +kernel)) (hts (.native ⟨"java/lang/Object", "clone", "()Ljava/lang/Object;"⟩) (by decide +kernel)) (hts (.instanceMethod ⟨"java/lang/Object", "clone", "()Ljava/lang/Object;"⟩) (by decide +kernel)) (hts (.selects "[B" ⟨"[B", "clone", "()Ljava/lang/Object;"⟩ ⟨"java/lang/Object", "clone", "()Ljava/lang/Object;"⟩) (by decide +kernel)) hSt.2.2.2.2.2.2.2 hK hP hD hS hA 0 1 rfl rfl (hK.2 1 (cB, .byte) rfl).2 (kFitB hc6) (Nat.le_of_ble_eq_true rfl) (Nat.le_of_ble_eq_true rfl) (Nat.le_of_ble_eq_true rfl) (by show _ ≤ _; exact Nat.le_trans (Nat.add_le_add_left hc5 _) (Nat.le_of_ble_eq_true rfl)) dJ7_copyOf_9075b_7 (fun w7 H hK2 hP hD hS => ?_)
    have hP : va_P D vwCl [(h0, .inl (cB, bl, .inl bf)), (w7, .inl (cB, bl, .inl bf))] H := hP
    have hD : va_D A [(h0, .inl (cB, bl, .inl bf)), (w7, .inl (cB, bl, .inl bf))] := hD
    refine W.widen (k := 1) (n := 300) (Nat.le_of_ble_eq_true rfl) (by show _ ≤ _; omega) ?_
    refine va_castA hx hb hown (hts (.classLink RJ7 311 "[B") (by decide +kernel)) hP 1 rfl (hK.2 1 (cB, .byte) rfl).2 dJ7_copyOf_9075b_10 ?_
    refine W.widen (k := 1) (n := 300) (Nat.le_of_ble_eq_true rfl) (Nat.le_of_ble_eq_true rfl) ?_
    have hP : va_P D vwCl [(h0, .inl (cB, bl, .inl bf)), (w7, .inl (cB, bl, .inl bf))] _ := hP.sub [0, 1] rfl
    have hD : va_D A [(h0, .inl (cB, bl, .inl bf)), (w7, .inl (cB, bl, .inl bf))] := hD.sub [0, 1] (by decide) rfl
    exact W.aret (v := .ref w7) (rt := .array .byte) hx hb hr (Or.inr ⟨_, rfl⟩) (Or.inr ⟨_, rfl⟩) (kWr_ret (q := w7) (u := (bl, bf, bl, bf)) (w1 := fun (u : Nat × (Nat → Int32) × Nat × (Nat → Int32)) (q : Nat) => [(h0, .inl (cB, (u.1), .inl (u.2.1))), (q, .inl (cB, (u.2.2.1), .inl (u.2.2.2)))]) (by exact hv) hP hD hS) hS.2.2 dJ7_copyOf_9075b_13
set_option maxHeartbeats 4000000 in
set_option maxRecDepth 100000 in
theorem kJ5_ensureCapacityInternal_d00dfW (l : Launch) (D : va_G) (cI cB : ClassId) (dO dT : Nat → Int32) (adK adV : Nat → Nat) (h0 : Nat) (h1 : Nat) (cn : Int32) (bl : Nat) (bf : Nat → Int32) (a1 : Int32) (sz : Nat) (post : Int32 → Nat → (Nat → Int32) → Prop) (hv : qJ5_ensureCapacityInternal_d00dfW cn bl bf a1 post) : Met l yJ5_ensureCapacityInternal_d00df wsJ5_ensureCapacityInternal_d00df ({ frames := 3, cells := 1, slots := 300, locals := 69 }) (va_Pc [.ref h0, .int a1] (kBWJ D cI cB dO dT adK adV sz [(h0, .inr (1, [.ref h1, .int (0 : Int32), .int (0 : Int32), .int cn])), (h1, .inl (cB, bl, .inl bf))])) (va_Qv (fun (u : Nat × Int32 × Nat × (Nat → Int32)) => post u.2.1 u.2.2.1 u.2.2.2) (fun (u : Nat × Int32 × Nat × (Nat → Int32)) (t : State) => kE D (va_A [(h0, .inr (1, [.ref h1, .int (0 : Int32), .int (0 : Int32), .int cn])), (h1, .inl (cB, bl, .inl bf))] sz) [(h0, .inr (1, [.ref (u.1), .int (0 : Int32), .int (0 : Int32), .int (u.2.1)])), ((u.1), .inl (cB, (u.2.2.1), .inl (u.2.2.2)))] t) (va_A [(h0, .inr (1, [.ref h1, .int (0 : Int32), .int (0 : Int32), .int cn])), (h1, .inl (cB, bl, .inl bf))] sz)) 1 300 (va_A [(h0, .inr (1, [.ref h1, .int (0 : Int32), .int (0 : Int32), .int cn])), (h1, .inl (cB, bl, .inl bf))] sz) := by
  refine Met.ofW (cc := cJ5_ensureCapacityInternal_d00df) (maxL := 3) (ret := none) (by decide) rfl ?_
  intro p e s m args below meth c s₁ B hml hv0
  obtain ⟨rfl, ⟨hsz, ⟨hP, hK, hN⟩, hD0⟩, hSt⟩ := hv0
  have hx := B.exec
  have hb := B.bytes
  have hr := B.returns
  have hts := atoms_spec (ws := wsJ5_ensureCapacityInternal_d00df) B.pre
  have hown : s.vm.findClass RJ5 = some m.cls := findClass_of_methodNamed B.named
  have hlocks := B.notSynchronized
  have hi_J4 : ∀ w ∈ wsJ40, w ∈ wsJ5_ensureCapacityInternal_d00df := by decide +kernel
  have hF15 := hts (.fieldLink RJ5 15 "java/lang/AbstractStringBuilder" "value" "[B") (by decide +kernel)
  have hF22 := hts (.fieldLink RJ5 22 "java/lang/AbstractStringBuilder" "coder" "B") (by decide +kernel)
  subst hsz
  have hD := hD0.self (sz := s.heap.size)
  generalize hAe : va_A [(h0, .inr (1, [.ref h1, .int (0 : Int32), .int (0 : Int32), .int cn])), (h1, .inl (cB, bl, .inl bf))] s.heap.size = A at hD hSt ⊢
  have hA : ∀ q : Nat, s.heap.size ≤ q → A q := fun q h => by rw [← hAe]; exact Or.inr h
  have hS : va_S A s.heap s.heap [] := va_S.rf
  have hl := lv_entry ([.ref h0, .int a1]) (n := 3) (Nat.le_of_ble_eq_true rfl)
  rw [lg_entry_eq]
  generalize (lg_sl ([.ref h0, .int a1]) ++ List.replicate (3 - (lg_sl ([.ref h0, .int a1])).length) Slot.unset).toArray = ls at hl ⊢
  have hl : lv_has ls 3 [(0, .ref h0), (1, .int a1)] := hl
  refine lv_aload_n hx hb dJ5_ensureCapacityInternal_d00df_0 rfl (lv_at hl 0 rfl) ?_
  refine va_get (D := D) (ci := 1) (v := .ref h1) (C := RJ4) (T := TJ4) (N := 4) hx hb hts hi_J4 hown hK hP 0 rfl rfl 0 (by decide) hF15 (fun _ h9 => h9) rfl dJ5_ensureCapacityInternal_d00df_1 ?_
  refine va_alen (v := (Int32.ofNat bl)) hx hb hK hP 1 1 rfl rfl (by first | rfl | decide) dJ5_ensureCapacityInternal_d00df_4 ?_
  refine lv_aload_n hx hb dJ5_ensureCapacityInternal_d00df_5 rfl (lv_at hl 0 rfl) ?_
  refine va_get (D := D) (ci := 1) (v := .int (0 : Int32)) (C := RJ4) (T := TJ4) (N := 4) hx hb hts hi_J4 hown hK hP 0 rfl rfl 1 (by decide) hF22 (fun _ h9 => h9) rfl dJ5_ensureCapacityInternal_d00df_6 ?_
  refine lv_ishr hx hb dJ5_ensureCapacityInternal_d00df_9 ?_
  refine lv_istore_n (lv' := [(2, .int ((Int32.ofNat bl) >>> ((0 : Int32) &&& (31 : Int32)))), (0, .ref h0), (1, .int a1)]) hx hb dJ5_ensureCapacityInternal_d00df_10 rfl hl (by decide) rfl (fun ls hl => ?_)
  refine lv_iload_n hx hb dJ5_ensureCapacityInternal_d00df_11 rfl (lv_at hl 2 rfl) ?_
  refine lv_iload_n hx hb dJ5_ensureCapacityInternal_d00df_12 rfl (lv_at hl 0 rfl) ?_
  refine lv_isub hx hb dJ5_ensureCapacityInternal_d00df_13 ?_
  refine lv_if_le (tgt := 38) hx hb dJ5_ensureCapacityInternal_d00df_14 (by decide) (fun hc => ?_) (fun hc => ?_)
  · have hv := hv.1 hc
    refine W.widen (k := 1) (n := 300) (Nat.le_of_ble_eq_true rfl) (Nat.le_of_ble_eq_true rfl) ?_
    have hP : va_P D vwCl [(h0, .inr (1, [.ref h1, .int (0 : Int32), .int (0 : Int32), .int cn])), (h1, .inl (cB, bl, .inl bf))] _ := hP.sub [0, 1] rfl
    have hD : va_D A [(h0, .inr (1, [.ref h1, .int (0 : Int32), .int (0 : Int32), .int cn])), (h1, .inl (cB, bl, .inl bf))] := hD.sub [0, 1] (by decide) rfl
    exact W.vret hx hb hr (kWv_ret (u := (h1, cn, bl, bf)) (w1 := fun (u : Nat × Int32 × Nat × (Nat → Int32)) => [(h0, .inr (1, [.ref (u.1), .int (0 : Int32), .int (0 : Int32), .int (u.2.1)])), ((u.1), .inl (cB, (u.2.2.1), .inl (u.2.2.2)))]) (by exact hv) hP hD hS) hS.2.2 dJ5_ensureCapacityInternal_d00df_38
  · have hv := hv.2 hc
    refine lv_aload_n hx hb dJ5_ensureCapacityInternal_d00df_17 rfl (lv_at hl 1 rfl) ?_
    refine lv_aload_n hx hb dJ5_ensureCapacityInternal_d00df_18 rfl (lv_at hl 1 rfl) ?_
    refine va_get (D := D) (ci := 1) (v := .ref h1) (C := RJ4) (T := TJ4) (N := 4) hx hb hts hi_J4 hown hK hP 0 rfl rfl 0 (by decide) hF15 (fun _ h9 => h9) rfl dJ5_ensureCapacityInternal_d00df_19 ?_
    refine lv_aload_n hx hb dJ5_ensureCapacityInternal_d00df_22 rfl (lv_at hl 1 rfl) ?_
    refine lv_iload_n hx hb dJ5_ensureCapacityInternal_d00df_23 rfl (lv_at hl 2 rfl) ?_
    refine vp_callSi (kRun_call (va_runU (As := [.int a1]) (rest := [.ref h1, .ref h0]) ⟨hx, hb, hml, hown, hts⟩ (kJ5_newCapacity_0f7a4 l D cI cB dO dT adK adV h0 h1 cn bl bf a1 _ hv) (va_cwU 1 hts gJ5_ensureCapacityInternal_d00df_J5_newCapacity_0f7a4_u104J4 rfl rfl rfl rfl (by decide +kernel) ⟨Nat.le_of_ble_eq_true rfl, Nat.le_of_ble_eq_true rfl⟩) ⟨(kPreJ (As := [.ref h0, .int a1]) (hP.sub (ws' := [(h0, .inr (1, [.ref h1, .int (0 : Int32), .int (0 : Int32), .int cn])), (h1, .inl (cB, bl, .inl bf))]) [0, 1] rfl) hK hN hSt hS).1, (kRecv (hP.sub (ws' := [(h0, .inr (1, [.ref h1, .int (0 : Int32), .int (0 : Int32), .int cn]))]) [0] rfl) hK 1 rfl rfl rfl), (kPreJ (As := [.ref h0, .int a1]) (hP.sub (ws' := [(h0, .inr (1, [.ref h1, .int (0 : Int32), .int (0 : Int32), .int cn])), (h1, .inl (cB, bl, .inl bf))]) [0, 1] rfl) hK hN hSt hS).2⟩ rfl rfl hl.1 rfl (lv_room (Nat.le_of_ble_eq_true rfl)) dJ5_ensureCapacityInternal_d00df_24 ⟨Nat.le_of_ble_eq_true rfl, Nat.le_of_ble_eq_true rfl⟩)) (fun r24 hv => ?_)
    refine lv_aload_n hx hb dJ5_ensureCapacityInternal_d00df_27 rfl (lv_at hl 1 rfl) ?_
    refine va_get (D := D) (ci := 1) (v := .int (0 : Int32)) (C := RJ4) (T := TJ4) (N := 4) hx hb hts hi_J4 hown hK hP 0 rfl rfl 1 (by decide) hF22 (fun _ h9 => h9) rfl dJ5_ensureCapacityInternal_d00df_28 ?_
    refine lv_ishl hx hb dJ5_ensureCapacityInternal_d00df_31 ?_
    refine kw_r (wr := [(h0, .inr (1, [.ref h1, .int (0 : Int32), .int (0 : Int32), .int cn]))]) (va_runS (As := [.ref h1, .int (r24 <<< ((0 : Int32) &&& (31 : Int32)))]) (rest := [.ref h0]) ⟨hx, hb, hml, hown, hts⟩ (kJ7_copyOf_9075bW l D cI cB dO dT adK adV h1 bl bf (r24 <<< ((0 : Int32) &&& (31 : Int32))) _ _ hv) (va_cwS 2 hts gJ5_ensureCapacityInternal_d00df_J7_copyOf_9075b rfl rfl rfl (by decide +kernel) ⟨Nat.le_of_ble_eq_true rfl, Nat.le_of_ble_eq_true rfl⟩) (kPreWJ (As := [.ref h1, .int (r24 <<< ((0 : Int32) &&& (31 : Int32)))]) (hP.sub (ws' := [(h1, .inl (cB, bl, .inl bf))]) [1] rfl) (hD.sub (ws' := [(h1, .inl (cB, bl, .inl bf))]) [1] (by decide) rfl) hK hN hSt hS (va_free (wc := [(h1, .inl (cB, bl, .inl bf))]) hD hS hA [1] rfl)) rfl rfl hl.1 rfl (lv_room (Nat.le_of_ble_eq_true rfl)) dJ5_ensureCapacityInternal_d00df_32 ⟨Nat.le_of_ble_eq_true rfl, Nat.le_of_ble_eq_true rfl⟩) hP hD hS hA [1] [0] rfl rfl (by decide) (by decide) (fun u q32n H locs hv hP hD hS => ?_)
    obtain ⟨x32_ul0, x32_uf0, x32_ul1, x32_uf1⟩ := u
    have hP : va_P D vwCl [(h0, .inr (1, [.ref h1, .int (0 : Int32), .int (0 : Int32), .int cn])), (h1, .inl (cB, x32_ul0, .inl x32_uf0)), (q32n, .inl (cB, x32_ul1, .inl x32_uf1))] H := hP.sub [0, 1, 2] rfl
    have hD : va_D A [(h0, .inr (1, [.ref h1, .int (0 : Int32), .int (0 : Int32), .int cn])), (h1, .inl (cB, x32_ul0, .inl x32_uf0)), (q32n, .inl (cB, x32_ul1, .inl x32_uf1))] := hD.sub [0, 1, 2] (by decide) rfl
    refine W.widen (k := 1) (n := 300) (Nat.le_of_ble_eq_true rfl) (Nat.le_of_ble_eq_true rfl) ?_
    refine va_put (D := D) (ci := 1) (v := .ref q32n) (ty := .array .byte) (C := RJ4) (T := TJ4) (N := 4) hx hb hts hi_J4 tyJ4 tyJ4_ok nmJ4 hown hK hP hD hS 0 rfl rfl 0 (by decide) hF15 (fun _ h9 => h9) rfl (by decide +kernel) rfl rfl (Nat.le_of_ble_eq_true rfl) dJ5_ensureCapacityInternal_d00df_35 (fun H locs hP hD hS => ?_)
    have hP : va_P D vwCl [(h0, .inr (1, [.ref q32n, .int (0 : Int32), .int (0 : Int32), .int cn])), (h1, .inl (cB, x32_ul0, .inl x32_uf0)), (q32n, .inl (cB, x32_ul1, .inl x32_uf1))] H := hP
    have hD : va_D A [(h0, .inr (1, [.ref q32n, .int (0 : Int32), .int (0 : Int32), .int cn])), (h1, .inl (cB, x32_ul0, .inl x32_uf0)), (q32n, .inl (cB, x32_ul1, .inl x32_uf1))] := hD
    refine W.widen (k := 1) (n := 300) (Nat.le_of_ble_eq_true rfl) (Nat.le_of_ble_eq_true rfl) ?_
    have hP : va_P D vwCl [(h0, .inr (1, [.ref q32n, .int (0 : Int32), .int (0 : Int32), .int cn])), (q32n, .inl (cB, x32_ul1, .inl x32_uf1))] _ := hP.sub [0, 2] rfl
    have hD : va_D A [(h0, .inr (1, [.ref q32n, .int (0 : Int32), .int (0 : Int32), .int cn])), (q32n, .inl (cB, x32_ul1, .inl x32_uf1))] := hD.sub [0, 2] (by decide) rfl
    exact W.vret hx hb hr (kWv_ret (u := (q32n, cn, x32_ul1, x32_uf1)) (w1 := fun (u : Nat × Int32 × Nat × (Nat → Int32)) => [(h0, .inr (1, [.ref (u.1), .int (0 : Int32), .int (0 : Int32), .int (u.2.1)])), ((u.1), .inl (cB, (u.2.2.1), .inl (u.2.2.2)))]) (by exact hv) hP hD hS) hS.2.2 dJ5_ensureCapacityInternal_d00df_38
set_option maxHeartbeats 4000000 in
set_option maxRecDepth 100000 in
theorem kJ5_init_d00dfW (l : Launch) (D : va_G) (cI cB : ClassId) (dO dT : Nat → Int32) (adK adV : Nat → Nat) (h0 : Nat) (cn : Int32) (a1 : Int32) (sz : Nat) (post : Int32 → Nat → (Nat → Int32) → Prop) (hv : qJ5_init_d00dfW cn a1 post) : Met l yJ5_init_d00df wsJ5_init_d00df ({ frames := 1, cells := 1, slots := 300, locals := 12 }) (va_Pc [.ref h0, .int a1] (kBWJ D cI cB dO dT adK adV sz [(h0, .inr (1, [.null, .int (0 : Int32), .int (0 : Int32), .int cn]))])) (va_Qv (fun (u : Nat × Int32 × Nat × (Nat → Int32)) => post u.2.1 u.2.2.1 u.2.2.2) (fun (u : Nat × Int32 × Nat × (Nat → Int32)) (t : State) => kE D (va_A [(h0, .inr (1, [.null, .int (0 : Int32), .int (0 : Int32), .int cn]))] sz) [(h0, .inr (1, [.ref (u.1), .int (0 : Int32), .int (0 : Int32), .int (u.2.1)])), ((u.1), .inl (cB, (u.2.2.1), .inl (u.2.2.2)))] t) (va_A [(h0, .inr (1, [.null, .int (0 : Int32), .int (0 : Int32), .int cn]))] sz)) 1 300 (va_A [(h0, .inr (1, [.null, .int (0 : Int32), .int (0 : Int32), .int cn]))] sz) := by
  refine Met.ofW (cc := cJ5_init_d00df) (maxL := 2) (ret := none) (by decide) rfl ?_
  intro p e s m args below meth c s₁ B hml hv0
  obtain ⟨rfl, ⟨hsz, ⟨hP, hK, hN⟩, hD0⟩, hSt⟩ := hv0
  have hx := B.exec
  have hb := B.bytes
  have hr := B.returns
  have hts := atoms_spec (ws := wsJ5_init_d00df) B.pre
  have hown : s.vm.findClass RJ5 = some m.cls := findClass_of_methodNamed B.named
  have hlocks := B.notSynchronized
  have hin : meth.name = "<init>" := (name_of_methodNamed B.named B.method).1
  have hi_J4 : ∀ w ∈ wsJ40, w ∈ wsJ5_init_d00df := by decide +kernel
  have hF15 := hts (.fieldLink RJ5 15 "java/lang/AbstractStringBuilder" "value" "[B") (by decide +kernel)
  have hF18 := hts (.fieldLink RJ5 18 "java/lang/String" "COMPACT_STRINGS" "Z") (by decide +kernel)
  have hF22 := hts (.fieldLink RJ5 22 "java/lang/AbstractStringBuilder" "coder" "B") (by decide +kernel)
  subst hsz
  have hD := hD0.self (sz := s.heap.size)
  generalize hAe : va_A [(h0, .inr (1, [.null, .int (0 : Int32), .int (0 : Int32), .int cn]))] s.heap.size = A at hD hSt ⊢
  have hA : ∀ q : Nat, s.heap.size ≤ q → A q := fun q h => by rw [← hAe]; exact Or.inr h
  have hS : va_S A s.heap s.heap [] := va_S.rf
  have hl := lv_entry ([.ref h0, .int a1]) (n := 2) (Nat.le_of_ble_eq_true rfl)
  rw [lg_entry_eq]
  generalize (lg_sl ([.ref h0, .int a1]) ++ List.replicate (2 - (lg_sl ([.ref h0, .int a1])).length) Slot.unset).toArray = ls at hl ⊢
  have hl : lv_has ls 2 [(0, .ref h0), (1, .int a1)] := hl
  refine lv_aload_n hx hb dJ5_init_d00df_0 rfl (lv_at hl 0 rfl) ?_
  refine W.objInit hx hb hown (hts (.methodLink RJ5 3 objectInit) (by decide +kernel)) (hts (.instanceMethod objectInit) (by decide +kernel)) (hts (.code objectInit ⟨#[0xb1]⟩ 1 none) (by decide +kernel)) rfl (by rw [hml]; exact hl.1) rfl dJ5_init_d00df_1 (Nat.le_of_ble_eq_true rfl) (Nat.le_of_ble_eq_true rfl) ?_
  refine W.eq (g2 := F0 m 4 ls _) rfl ?_
  refine va_gets (C := "java/lang/String") (n := "COMPACT_STRINGS") (d := "Z") (v := .int 1) hx hb hSt.1 hS hown hF18 (fun _ h9 => h9) dJ5_init_d00df_4 ?_
  refine lv_if_eq (tgt := 25) hx hb dJ5_init_d00df_7 (by decide) (fun hc => absurd hc (by decide)) (fun hc => ?_)
  refine lv_aload_n hx hb dJ5_init_d00df_10 rfl (lv_at hl 0 rfl) ?_
  refine lv_iload_n hx hb dJ5_init_d00df_11 rfl (lv_at hl 1 rfl) ?_
  obtain ⟨hq0, hq1, hv⟩ := hv
  refine va_newa (atype := .byte) (ty := .byte) (N' := a1.toNatClampNeg) (a0 := (a1.toNatClampNeg, .inl (fun _ => (0 : Int32)))) hx hb (hts (.arrayClass .byte) (by decide +kernel)) rfl hK hP hD hS hA (fun _ => rfl) hq0 rfl (by show _ * 1 ≤ _; omega) (Nat.le_of_ble_eq_true rfl) (by show _ ≤ _; exact Nat.le_trans (Nat.add_le_add_left hq1 _) (Nat.le_of_ble_eq_true rfl)) dJ5_init_d00df_12 (fun w12 cA H hK2 hP hD hS => ?_)
  have hcA := kSameB hK hK2
  subst hcA
  have hP : va_P D vwCl [(h0, .inr (1, [.null, .int (0 : Int32), .int (0 : Int32), .int cn])), (w12, .inl (cB, (a1.toNatClampNeg), .inl (fun _ => (0 : Int32))))] H := hP
  have hD : va_D A [(h0, .inr (1, [.null, .int (0 : Int32), .int (0 : Int32), .int cn])), (w12, .inl (cB, (a1.toNatClampNeg), .inl (fun _ => (0 : Int32))))] := hD
  refine W.widen (k := 1) (n := 300) (Nat.le_of_ble_eq_true rfl) (by omega) ?_
  refine va_put (D := D) (ci := 1) (v := .ref w12) (ty := .array .byte) (C := RJ4) (T := TJ4) (N := 4) hx hb hts hi_J4 tyJ4 tyJ4_ok nmJ4 hown hK hP hD hS 0 rfl rfl 0 (by decide) hF15 (fun _ h9 => h9) rfl (by decide +kernel) rfl rfl (Nat.le_of_ble_eq_true rfl) dJ5_init_d00df_14 (fun H locs hP hD hS => ?_)
  have hP : va_P D vwCl [(h0, .inr (1, [.ref w12, .int (0 : Int32), .int (0 : Int32), .int cn])), (w12, .inl (cB, (a1.toNatClampNeg), .inl (fun _ => (0 : Int32))))] H := hP
  have hD : va_D A [(h0, .inr (1, [.ref w12, .int (0 : Int32), .int (0 : Int32), .int cn])), (w12, .inl (cB, (a1.toNatClampNeg), .inl (fun _ => (0 : Int32))))] := hD
  refine lv_aload_n hx hb dJ5_init_d00df_17 rfl (lv_at hl 0 rfl) ?_
  refine lv_iconst (v := (0 : Int32)) hx hb dJ5_init_d00df_18 (by decide) ?_
  refine va_put (D := D) (ci := 1) (v := .int (0 : Int32)) (ty := .byte) (C := RJ4) (T := TJ4) (N := 4) hx hb hts hi_J4 tyJ4 tyJ4_ok nmJ4 hown hK hP hD hS 0 rfl rfl 1 (by decide) hF22 (fun _ h9 => h9) rfl (by decide +kernel) rfl rfl (Nat.le_of_ble_eq_true rfl) dJ5_init_d00df_19 (fun H locs hP hD hS => ?_)
  have hP : va_P D vwCl [(h0, .inr (1, [.ref w12, .int (0 : Int32), .int (0 : Int32), .int cn])), (w12, .inl (cB, (a1.toNatClampNeg), .inl (fun _ => (0 : Int32))))] H := hP
  have hD : va_D A [(h0, .inr (1, [.ref w12, .int (0 : Int32), .int (0 : Int32), .int cn])), (w12, .inl (cB, (a1.toNatClampNeg), .inl (fun _ => (0 : Int32))))] := hD
  refine lv_goto (tgt := 38) hx hb dJ5_init_d00df_22 (by decide) ?_
  refine W.widen (k := 1) (n := 300) (Nat.le_of_ble_eq_true rfl) (Nat.le_of_ble_eq_true rfl) ?_
  have hP : va_P D vwCl [(h0, .inr (1, [.ref w12, .int (0 : Int32), .int (0 : Int32), .int cn])), (w12, .inl (cB, (a1.toNatClampNeg), .inl (fun _ => (0 : Int32))))] _ := hP.sub [0, 1] rfl
  have hD : va_D A [(h0, .inr (1, [.ref w12, .int (0 : Int32), .int (0 : Int32), .int cn])), (w12, .inl (cB, (a1.toNatClampNeg), .inl (fun _ => (0 : Int32))))] := hD.sub [0, 1] (by decide) rfl
  exact W.vret hx hb hr (kWv_ret (u := (w12, cn, (a1.toNatClampNeg), (fun _ => (0 : Int32)))) (w1 := fun (u : Nat × Int32 × Nat × (Nat → Int32)) => [(h0, .inr (1, [.ref (u.1), .int (0 : Int32), .int (0 : Int32), .int (u.2.1)])), ((u.1), .inl (cB, (u.2.2.1), .inl (u.2.2.2)))]) (by exact hv) hP hD hS) hS.2.2 dJ5_init_d00df_38
set_option maxHeartbeats 4000000 in
set_option maxRecDepth 100000 in
theorem kJ4_init_da8c8W (l : Launch) (D : va_G) (cI cB : ClassId) (dO dT : Nat → Int32) (adK adV : Nat → Nat) (h0 : Nat) (cn : Int32)  (sz : Nat) (post : Int32 → Nat → (Nat → Int32) → Prop) (hv : qJ4_init_da8c8W cn post) : Met l yJ4_init_da8c8 wsJ4_init_da8c8 ({ frames := 2, cells := 1, slots := 300, locals := 33 }) (va_Pc [.ref h0] (kBWJ D cI cB dO dT adK adV sz [(h0, .inr (1, [.null, .int (0 : Int32), .int (0 : Int32), .int cn]))])) (va_Qv (fun (u : Nat × Int32 × Nat × (Nat → Int32)) => post u.2.1 u.2.2.1 u.2.2.2) (fun (u : Nat × Int32 × Nat × (Nat → Int32)) (t : State) => kE D (va_A [(h0, .inr (1, [.null, .int (0 : Int32), .int (0 : Int32), .int cn]))] sz) [(h0, .inr (1, [.ref (u.1), .int (0 : Int32), .int (0 : Int32), .int (u.2.1)])), ((u.1), .inl (cB, (u.2.2.1), .inl (u.2.2.2)))] t) (va_A [(h0, .inr (1, [.null, .int (0 : Int32), .int (0 : Int32), .int cn]))] sz)) 1 300 (va_A [(h0, .inr (1, [.null, .int (0 : Int32), .int (0 : Int32), .int cn]))] sz) := by
  refine Met.ofW (cc := cJ4_init_da8c8) (maxL := 1) (ret := none) (by decide) rfl ?_
  intro p e s m args below meth c s₁ B hml hv0
  obtain ⟨rfl, ⟨hsz, ⟨hP, hK, hN⟩, hD0⟩, hSt⟩ := hv0
  have hx := B.exec
  have hb := B.bytes
  have hr := B.returns
  have hts := atoms_spec (ws := wsJ4_init_da8c8) B.pre
  have hown : s.vm.findClass RJ4 = some m.cls := findClass_of_methodNamed B.named
  have hlocks := B.notSynchronized
  have hin : meth.name = "<init>" := (name_of_methodNamed B.named B.method).1
  subst hsz
  have hD := hD0.self (sz := s.heap.size)
  generalize hAe : va_A [(h0, .inr (1, [.null, .int (0 : Int32), .int (0 : Int32), .int cn]))] s.heap.size = A at hD hSt ⊢
  have hA : ∀ q : Nat, s.heap.size ≤ q → A q := fun q h => by rw [← hAe]; exact Or.inr h
  have hS : va_S A s.heap s.heap [] := va_S.rf
  have hl := lv_entry ([.ref h0]) (n := 1) (Nat.le_of_ble_eq_true rfl)
  rw [lg_entry_eq]
  generalize (lg_sl ([.ref h0]) ++ List.replicate (1 - (lg_sl ([.ref h0])).length) Slot.unset).toArray = ls at hl ⊢
  have hl : lv_has ls 1 [(0, .ref h0)] := hl
  refine lv_aload_n hx hb dJ4_init_da8c8_0 rfl (lv_at hl 0 rfl) ?_
  refine lv_bipush (v := (16 : Int32)) hx hb dJ4_init_da8c8_1 (by decide) ?_
  refine kw_v (wr := []) (va_runI (As := [.int (16 : Int32)]) (rest := []) ⟨hx, hb, hml, hown, hts⟩ (kJ5_init_d00dfW l D cI cB dO dT adK adV h0 cn (16 : Int32) _ _ hv) (cwI 1 hts gJ4_init_da8c8_J5_init_d00df rfl rfl rfl (hts (.initialized RJ5) (by decide +kernel)) (hts (.methodLink RJ4 1 yJ5_init_d00df) (by decide +kernel)) (hts (.instanceMethod yJ5_init_d00df) (by decide +kernel)) rfl (by decide +kernel) ⟨Nat.le_of_ble_eq_true rfl, Nat.le_of_ble_eq_true rfl⟩) (kPreWJ (As := [.ref h0, .int (16 : Int32)]) (hP.sub (ws' := [(h0, .inr (1, [.null, .int (0 : Int32), .int (0 : Int32), .int cn]))]) [0] rfl) (hD.sub (ws' := [(h0, .inr (1, [.null, .int (0 : Int32), .int (0 : Int32), .int cn]))]) [0] (by decide) rfl) hK hN hSt hS (va_free (wc := [(h0, .inr (1, [.null, .int (0 : Int32), .int (0 : Int32), .int cn]))]) hD hS hA [0] rfl)) rfl rfl hl.1 rfl (lv_room (Nat.le_of_ble_eq_true rfl)) dJ4_init_da8c8_3 ⟨Nat.le_of_ble_eq_true rfl, Nat.le_of_ble_eq_true rfl⟩) hP hD hS hA [0] [] rfl rfl (by decide) (by decide) (fun u H locs hv hP hD hS => ?_)
  obtain ⟨x3_uq1, x3_uv03, x3_ul1, x3_uf1⟩ := u
  have hP : va_P D vwCl [(h0, .inr (1, [.ref x3_uq1, .int (0 : Int32), .int (0 : Int32), .int x3_uv03])), (x3_uq1, .inl (cB, x3_ul1, .inl x3_uf1))] H := hP.sub [0, 1] rfl
  have hD : va_D A [(h0, .inr (1, [.ref x3_uq1, .int (0 : Int32), .int (0 : Int32), .int x3_uv03])), (x3_uq1, .inl (cB, x3_ul1, .inl x3_uf1))] := hD.sub [0, 1] (by decide) rfl
  refine W.widen (k := 1) (n := 300) (Nat.le_of_ble_eq_true rfl) (Nat.le_of_ble_eq_true rfl) ?_
  refine W.widen (k := 1) (n := 300) (Nat.le_of_ble_eq_true rfl) (Nat.le_of_ble_eq_true rfl) ?_
  have hP : va_P D vwCl [(h0, .inr (1, [.ref x3_uq1, .int (0 : Int32), .int (0 : Int32), .int x3_uv03])), (x3_uq1, .inl (cB, x3_ul1, .inl x3_uf1))] _ := hP.sub [0, 1] rfl
  have hD : va_D A [(h0, .inr (1, [.ref x3_uq1, .int (0 : Int32), .int (0 : Int32), .int x3_uv03])), (x3_uq1, .inl (cB, x3_ul1, .inl x3_uf1))] := hD.sub [0, 1] (by decide) rfl
  exact W.vret hx hb hr (kWv_ret (u := (x3_uq1, x3_uv03, x3_ul1, x3_uf1)) (w1 := fun (u : Nat × Int32 × Nat × (Nat → Int32)) => [(h0, .inr (1, [.ref (u.1), .int (0 : Int32), .int (0 : Int32), .int (u.2.1)])), ((u.1), .inl (cB, (u.2.2.1), .inl (u.2.2.2)))]) (by exact hv) hP hD hS) hS.2.2 dJ4_init_da8c8_6
set_option maxHeartbeats 4000000 in
set_option maxRecDepth 100000 in
theorem kJ5_append_3fe6fW (l : Launch) (D : va_G) (cI cB : ClassId) (dO dT : Nat → Int32) (adK adV : Nat → Nat) (h0 : Nat) (h1 : Nat) (cn : Int32) (bl : Nat) (bf : Nat → Int32) (a1 : Int32) (sz : Nat) (post : Int32 → Nat → (Nat → Int32) → Prop) (hv : qJ5_append_3fe6fW cn bl bf a1 post) : Met l yJ5_append_3fe6f wsJ5_append_3fe6f ({ frames := 4, cells := 1, slots := 300, locals := 91 }) (va_Pc [.ref h0, .int a1] (kBWJ D cI cB dO dT adK adV sz [(h0, .inr (1, [.ref h1, .int (0 : Int32), .int (0 : Int32), .int cn])), (h1, .inl (cB, bl, .inl bf))])) (va_Qr (fun (u : Nat × Int32 × Nat × (Nat → Int32)) => post u.2.1 u.2.2.1 u.2.2.2) (fun (u : Nat × Int32 × Nat × (Nat → Int32)) (q : Nat) (t : State) => q = h0 ∧ kE D (va_A [(h0, .inr (1, [.ref h1, .int (0 : Int32), .int (0 : Int32), .int cn])), (h1, .inl (cB, bl, .inl bf))] sz) [(h0, .inr (1, [.ref (u.1), .int (0 : Int32), .int (0 : Int32), .int (u.2.1)])), ((u.1), .inl (cB, (u.2.2.1), .inl (u.2.2.2)))] t) (va_A [(h0, .inr (1, [.ref h1, .int (0 : Int32), .int (0 : Int32), .int cn])), (h1, .inl (cB, bl, .inl bf))] sz)) 1 300 (va_A [(h0, .inr (1, [.ref h1, .int (0 : Int32), .int (0 : Int32), .int cn])), (h1, .inl (cB, bl, .inl bf))] sz) := by
  refine Met.ofW (cc := cJ5_append_3fe6f) (maxL := 2) (ret := (some (.object "java/lang/AbstractStringBuilder"))) (by decide) rfl ?_
  intro p e s m args below meth c s₁ B hml hv0
  obtain ⟨rfl, ⟨hsz, ⟨hP, hK, hN⟩, hD0⟩, hSt⟩ := hv0
  have hx := B.exec
  have hb := B.bytes
  have hr := B.returns
  have hts := atoms_spec (ws := wsJ5_append_3fe6f) B.pre
  have hown : s.vm.findClass RJ5 = some m.cls := findClass_of_methodNamed B.named
  have hlocks := B.notSynchronized
  have hi_J4 : ∀ w ∈ wsJ40, w ∈ wsJ5_append_3fe6f := by decide +kernel
  have hF15 := hts (.fieldLink RJ5 15 "java/lang/AbstractStringBuilder" "value" "[B") (by decide +kernel)
  have hF79 := hts (.fieldLink RJ5 79 "java/lang/AbstractStringBuilder" "count" "I") (by decide +kernel)
  subst hsz
  have hD := hD0.self (sz := s.heap.size)
  generalize hAe : va_A [(h0, .inr (1, [.ref h1, .int (0 : Int32), .int (0 : Int32), .int cn])), (h1, .inl (cB, bl, .inl bf))] s.heap.size = A at hD hSt ⊢
  have hA : ∀ q : Nat, s.heap.size ≤ q → A q := fun q h => by rw [← hAe]; exact Or.inr h
  have hS : va_S A s.heap s.heap [] := va_S.rf
  have hl := lv_entry ([.ref h0, .int a1]) (n := 2) (Nat.le_of_ble_eq_true rfl)
  rw [lg_entry_eq]
  generalize (lg_sl ([.ref h0, .int a1]) ++ List.replicate (2 - (lg_sl ([.ref h0, .int a1])).length) Slot.unset).toArray = ls at hl ⊢
  have hl : lv_has ls 2 [(0, .ref h0), (1, .int a1)] := hl
  refine lv_aload_n hx hb dJ5_append_3fe6f_0 rfl (lv_at hl 0 rfl) ?_
  refine lv_aload_n hx hb dJ5_append_3fe6f_1 rfl (lv_at hl 0 rfl) ?_
  refine va_get (D := D) (ci := 1) (v := .int cn) (C := RJ4) (T := TJ4) (N := 4) hx hb hts hi_J4 hown hK hP 0 rfl rfl 3 (by decide) hF79 (fun _ h9 => h9) rfl dJ5_append_3fe6f_2 ?_
  refine lv_iconst (v := (1 : Int32)) hx hb dJ5_append_3fe6f_5 (by decide) ?_
  refine lv_iadd hx hb dJ5_append_3fe6f_6 ?_
  refine kw_v (wr := []) (va_runU (As := [.int (cn + (1 : Int32))]) (rest := []) ⟨hx, hb, hml, hown, hts⟩ (kJ5_ensureCapacityInternal_d00dfW l D cI cB dO dT adK adV h0 h1 cn bl bf (cn + (1 : Int32)) _ _ hv) (va_cwU 1 hts gJ5_append_3fe6f_J5_ensureCapacityInternal_d00df_u100J4 rfl rfl rfl rfl (by decide +kernel) ⟨Nat.le_of_ble_eq_true rfl, Nat.le_of_ble_eq_true rfl⟩) ⟨(kPreWJ (As := [.ref h0, .int (cn + (1 : Int32))]) (hP.sub (ws' := [(h0, .inr (1, [.ref h1, .int (0 : Int32), .int (0 : Int32), .int cn])), (h1, .inl (cB, bl, .inl bf))]) [0, 1] rfl) (hD.sub (ws' := [(h0, .inr (1, [.ref h1, .int (0 : Int32), .int (0 : Int32), .int cn])), (h1, .inl (cB, bl, .inl bf))]) [0, 1] (by decide) rfl) hK hN hSt hS (va_free (wc := [(h0, .inr (1, [.ref h1, .int (0 : Int32), .int (0 : Int32), .int cn])), (h1, .inl (cB, bl, .inl bf))]) hD hS hA [0, 1] rfl)).1, (kRecv (hP.sub (ws' := [(h0, .inr (1, [.ref h1, .int (0 : Int32), .int (0 : Int32), .int cn]))]) [0] rfl) hK 1 rfl rfl rfl), (kPreWJ (As := [.ref h0, .int (cn + (1 : Int32))]) (hP.sub (ws' := [(h0, .inr (1, [.ref h1, .int (0 : Int32), .int (0 : Int32), .int cn])), (h1, .inl (cB, bl, .inl bf))]) [0, 1] rfl) (hD.sub (ws' := [(h0, .inr (1, [.ref h1, .int (0 : Int32), .int (0 : Int32), .int cn])), (h1, .inl (cB, bl, .inl bf))]) [0, 1] (by decide) rfl) hK hN hSt hS (va_free (wc := [(h0, .inr (1, [.ref h1, .int (0 : Int32), .int (0 : Int32), .int cn])), (h1, .inl (cB, bl, .inl bf))]) hD hS hA [0, 1] rfl)).2⟩ rfl rfl hl.1 rfl (lv_room (Nat.le_of_ble_eq_true rfl)) dJ5_append_3fe6f_7 ⟨Nat.le_of_ble_eq_true rfl, Nat.le_of_ble_eq_true rfl⟩) hP hD hS hA [0, 1] [] rfl rfl (by decide) (by decide) (fun u H locs hv hP hD hS => ?_)
  obtain ⟨x7_uq1, x7_uv03, x7_ul1, x7_uf1⟩ := u
  have hP : va_P D vwCl [(h0, .inr (1, [.ref x7_uq1, .int (0 : Int32), .int (0 : Int32), .int x7_uv03])), (x7_uq1, .inl (cB, x7_ul1, .inl x7_uf1))] H := hP.sub [0, 1] rfl
  have hD : va_D A [(h0, .inr (1, [.ref x7_uq1, .int (0 : Int32), .int (0 : Int32), .int x7_uv03])), (x7_uq1, .inl (cB, x7_ul1, .inl x7_uf1))] := hD.sub [0, 1] (by decide) rfl
  refine W.widen (k := 1) (n := 300) (Nat.le_of_ble_eq_true rfl) (Nat.le_of_ble_eq_true rfl) ?_
  refine lv_aload_n hx hb dJ5_append_3fe6f_10 rfl (lv_at hl 0 rfl) ?_
  refine vp_callSi (kRun_call (va_runU (As := []) (rest := []) ⟨hx, hb, hml, hown, hts⟩ (kJ5_isLatin1_aae02 l D cI cB dO dT adK adV h0 x7_uq1 x7_uv03 x7_ul1 x7_uf1 _ hv) (va_cwU 0 hts gJ5_append_3fe6f_J5_isLatin1_aae02_u83J4 rfl rfl rfl rfl (by decide +kernel) ⟨Nat.le_of_ble_eq_true rfl, Nat.le_of_ble_eq_true rfl⟩) ⟨(kPreJ (As := [.ref h0]) (hP.sub (ws' := [(h0, .inr (1, [.ref x7_uq1, .int (0 : Int32), .int (0 : Int32), .int x7_uv03])), (x7_uq1, .inl (cB, x7_ul1, .inl x7_uf1))]) [0, 1] rfl) hK hN hSt hS).1, (kRecv (hP.sub (ws' := [(h0, .inr (1, [.ref x7_uq1, .int (0 : Int32), .int (0 : Int32), .int x7_uv03]))]) [0] rfl) hK 1 rfl rfl rfl), (kPreJ (As := [.ref h0]) (hP.sub (ws' := [(h0, .inr (1, [.ref x7_uq1, .int (0 : Int32), .int (0 : Int32), .int x7_uv03])), (x7_uq1, .inl (cB, x7_ul1, .inl x7_uf1))]) [0, 1] rfl) hK hN hSt hS).2⟩ rfl rfl hl.1 rfl (lv_room (Nat.le_of_ble_eq_true rfl)) dJ5_append_3fe6f_11 ⟨Nat.le_of_ble_eq_true rfl, Nat.le_of_ble_eq_true rfl⟩)) (fun r11 hv => ?_)
  have J45 : ∀ (z0_3_j45 : Int32) (z1_0_j45 : Nat → Int32) (H : Heap) (locs : List Loc) (ls : Array Slot), va_P D vwCl [(h0, .inr (1, [.ref x7_uq1, .int (0 : Int32), .int (0 : Int32), .int z0_3_j45])), (x7_uq1, .inl (cB, x7_ul1, .inl z1_0_j45))] H → va_D A [(h0, .inr (1, [.ref x7_uq1, .int (0 : Int32), .int (0 : Int32), .int z0_3_j45])), (x7_uq1, .inl (cB, x7_ul1, .inl z1_0_j45))] → va_S A s.heap H locs → qJ5_append_3fe6fW_j45 z0_3_j45 z1_0_j45 → lv_has ls 2 [(0, .ref h0), (1, .int a1)] → W p l e (headSpec wsJ5_append_3fe6f ({ frames := 4, cells := 1, slots := 300, locals := 91 })).room s m ([.ref h0, .int a1] : List Value).toArray below meth c H locs 1 300 (MQ below (va_Qr (fun (u : Nat × Int32 × Nat × (Nat → Int32)) => post u.2.1 u.2.2.1 u.2.2.2) (fun (u : Nat × Int32 × Nat × (Nat → Int32)) (q : Nat) (t : State) => q = h0 ∧ kE D A [(h0, .inr (1, [.ref (u.1), .int (0 : Int32), .int (0 : Int32), .int (u.2.1)])), ((u.1), .inl (cB, (u.2.2.1), .inl (u.2.2.2)))] t) A) ([.ref h0, .int a1] : List Value).toArray s 1 300 A) (F0 m 45 ls []) := by
    intro z0_3_j45 z1_0_j45 H locs ls hP hD hS hv hl
    refine lv_aload_n hx hb dJ5_append_3fe6f_45 rfl (lv_at hl 0 rfl) ?_
    refine vp_callSi (kRun_call (va_runU (As := []) (rest := []) ⟨hx, hb, hml, hown, hts⟩ (kJ5_isLatin1_aae02 l D cI cB dO dT adK adV h0 x7_uq1 z0_3_j45 x7_ul1 z1_0_j45 _ hv) (va_cwU 0 hts gJ5_append_3fe6f_J5_isLatin1_aae02_u83J4 rfl rfl rfl rfl (by decide +kernel) ⟨Nat.le_of_ble_eq_true rfl, Nat.le_of_ble_eq_true rfl⟩) ⟨(kPreJ (As := [.ref h0]) (hP.sub (ws' := [(h0, .inr (1, [.ref x7_uq1, .int (0 : Int32), .int (0 : Int32), .int z0_3_j45])), (x7_uq1, .inl (cB, x7_ul1, .inl z1_0_j45))]) [0, 1] rfl) hK hN hSt hS).1, (kRecv (hP.sub (ws' := [(h0, .inr (1, [.ref x7_uq1, .int (0 : Int32), .int (0 : Int32), .int z0_3_j45]))]) [0] rfl) hK 1 rfl rfl rfl), (kPreJ (As := [.ref h0]) (hP.sub (ws' := [(h0, .inr (1, [.ref x7_uq1, .int (0 : Int32), .int (0 : Int32), .int z0_3_j45])), (x7_uq1, .inl (cB, x7_ul1, .inl z1_0_j45))]) [0, 1] rfl) hK hN hSt hS).2⟩ rfl rfl hl.1 rfl (lv_room (Nat.le_of_ble_eq_true rfl)) dJ5_append_3fe6f_46 ⟨Nat.le_of_ble_eq_true rfl, Nat.le_of_ble_eq_true rfl⟩)) (fun r46 hv => ?_)
    have J56 : ∀  (H : Heap) (locs : List Loc) (ls : Array Slot), va_P D vwCl [(h0, .inr (1, [.ref x7_uq1, .int (0 : Int32), .int (0 : Int32), .int z0_3_j45])), (x7_uq1, .inl (cB, x7_ul1, .inl z1_0_j45))] H → va_D A [(h0, .inr (1, [.ref x7_uq1, .int (0 : Int32), .int (0 : Int32), .int z0_3_j45])), (x7_uq1, .inl (cB, x7_ul1, .inl z1_0_j45))] → va_S A s.heap H locs → qJ5_append_3fe6fW_j56 → lv_has ls 2 [(0, .ref h0), (1, .int a1)] → W p l e (headSpec wsJ5_append_3fe6f ({ frames := 4, cells := 1, slots := 300, locals := 91 })).room s m ([.ref h0, .int a1] : List Value).toArray below meth c H locs 1 300 (MQ below (va_Qr (fun (u : Nat × Int32 × Nat × (Nat → Int32)) => post u.2.1 u.2.2.1 u.2.2.2) (fun (u : Nat × Int32 × Nat × (Nat → Int32)) (q : Nat) (t : State) => q = h0 ∧ kE D A [(h0, .inr (1, [.ref (u.1), .int (0 : Int32), .int (0 : Int32), .int (u.2.1)])), ((u.1), .inl (cB, (u.2.2.1), .inl (u.2.2.2)))] t) A) ([.ref h0, .int a1] : List Value).toArray s 1 300 A) (F0 m 56 ls []) := by
      intro  H locs ls hP hD hS hv hl
      refine lv_aload_n hx hb dJ5_append_3fe6f_56 rfl (lv_at hl 0 rfl) ?_
      refine va_get (D := D) (ci := 1) (v := .ref x7_uq1) (C := RJ4) (T := TJ4) (N := 4) hx hb hts hi_J4 hown hK hP 0 rfl rfl 0 (by decide) hF15 (fun _ h9 => h9) rfl dJ5_append_3fe6f_57 ?_
      refine lv_aload_n hx hb dJ5_append_3fe6f_60 rfl (lv_at hl 0 rfl) ?_
      refine lv_dup hx hb dJ5_append_3fe6f_61 rfl ?_
      refine va_get (D := D) (ci := 1) (v := .int z0_3_j45) (C := RJ4) (T := TJ4) (N := 4) hx hb hts hi_J4 hown hK hP 0 rfl rfl 3 (by decide) hF79 (fun _ h9 => h9) rfl dJ5_append_3fe6f_62 ?_
      refine lv_dup_x1 hx hb dJ5_append_3fe6f_65 rfl rfl ?_
      refine lv_iconst (v := (1 : Int32)) hx hb dJ5_append_3fe6f_66 (by decide) ?_
      refine lv_iadd hx hb dJ5_append_3fe6f_67 ?_
      refine va_put (D := D) (ci := 1) (v := .int (z0_3_j45 + (1 : Int32))) (ty := .int) (C := RJ4) (T := TJ4) (N := 4) hx hb hts hi_J4 tyJ4 tyJ4_ok nmJ4 hown hK hP hD hS 0 rfl rfl 3 (by decide) hF79 (fun _ h9 => h9) rfl (by decide +kernel) rfl rfl (Nat.le_of_ble_eq_true rfl) dJ5_append_3fe6f_68 (fun H locs hP hD hS => ?_)
      have hP : va_P D vwCl [(h0, .inr (1, [.ref x7_uq1, .int (0 : Int32), .int (0 : Int32), .int (z0_3_j45 + (1 : Int32))])), (x7_uq1, .inl (cB, x7_ul1, .inl z1_0_j45))] H := hP
      have hD : va_D A [(h0, .inr (1, [.ref x7_uq1, .int (0 : Int32), .int (0 : Int32), .int (z0_3_j45 + (1 : Int32))])), (x7_uq1, .inl (cB, x7_ul1, .inl z1_0_j45))] := hD
      refine lv_iload_n hx hb dJ5_append_3fe6f_71 rfl (lv_at hl 1 rfl) ?_
      exact hv.elim
    refine lv_if_eq (tgt := 56) hx hb dJ5_append_3fe6f_49 (by decide) (fun hc => ?_) (fun hc => ?_)
    · have hv := hv.1 hc
      refine W.widen (k := 1) (n := 300) (Nat.le_of_ble_eq_true rfl) (Nat.le_of_ble_eq_true rfl) ?_
      exact J56  _ _ _ hP hD hS hv (lv_sub hl [0, 1] rfl)
    · have hv := hv.2 hc
      refine lv_aload_n hx hb dJ5_append_3fe6f_52 rfl (lv_at hl 0 rfl) ?_
      exact hv.elim
  refine lv_if_eq (tgt := 45) hx hb dJ5_append_3fe6f_14 (by decide) (fun hc => ?_) (fun hc => ?_)
  · have hv := hv.1 hc
    refine W.widen (k := 1) (n := 300) (Nat.le_of_ble_eq_true rfl) (Nat.le_of_ble_eq_true rfl) ?_
    exact J45 _ _ _ _ _ hP hD hS hv (lv_sub hl [0, 1] rfl)
  · have hv := hv.2 hc
    refine lv_iload_n hx hb dJ5_append_3fe6f_17 rfl (lv_at hl 1 rfl) ?_
    refine vp_callSi (kRun_call (va_runS (As := [.int a1]) (rest := []) ⟨hx, hb, hml, hown, hts⟩ (kJ1_canEncode_fc78d l D cI cB dO dT adK adV a1 _ hv) (va_cwS 1 hts gJ5_append_3fe6f_J1_canEncode_fc78d rfl rfl rfl (by decide +kernel) ⟨Nat.le_of_ble_eq_true rfl, Nat.le_of_ble_eq_true rfl⟩) (kPreJ (As := [.int a1]) (hP.sub (ws' := []) [] rfl) hK hN hSt hS) rfl rfl hl.1 rfl (lv_room (Nat.le_of_ble_eq_true rfl)) dJ5_append_3fe6f_18 ⟨Nat.le_of_ble_eq_true rfl, Nat.le_of_ble_eq_true rfl⟩)) (fun r18 hv => ?_)
    refine lv_if_eq (tgt := 45) hx hb dJ5_append_3fe6f_21 (by decide) (fun hc => ?_) (fun hc => ?_)
    · have hv := hv.1 hc
      refine W.widen (k := 1) (n := 300) (Nat.le_of_ble_eq_true rfl) (Nat.le_of_ble_eq_true rfl) ?_
      exact J45 _ _ _ _ _ hP hD hS hv (lv_sub hl [0, 1] rfl)
    · have hv := hv.2 hc
      refine lv_aload_n hx hb dJ5_append_3fe6f_24 rfl (lv_at hl 0 rfl) ?_
      refine va_get (D := D) (ci := 1) (v := .ref x7_uq1) (C := RJ4) (T := TJ4) (N := 4) hx hb hts hi_J4 hown hK hP 0 rfl rfl 0 (by decide) hF15 (fun _ h9 => h9) rfl dJ5_append_3fe6f_25 ?_
      refine lv_aload_n hx hb dJ5_append_3fe6f_28 rfl (lv_at hl 0 rfl) ?_
      refine lv_dup hx hb dJ5_append_3fe6f_29 rfl ?_
      refine va_get (D := D) (ci := 1) (v := .int x7_uv03) (C := RJ4) (T := TJ4) (N := 4) hx hb hts hi_J4 hown hK hP 0 rfl rfl 3 (by decide) hF79 (fun _ h9 => h9) rfl dJ5_append_3fe6f_30 ?_
      refine lv_dup_x1 hx hb dJ5_append_3fe6f_33 rfl rfl ?_
      refine lv_iconst (v := (1 : Int32)) hx hb dJ5_append_3fe6f_34 (by decide) ?_
      refine lv_iadd hx hb dJ5_append_3fe6f_35 ?_
      refine va_put (D := D) (ci := 1) (v := .int (x7_uv03 + (1 : Int32))) (ty := .int) (C := RJ4) (T := TJ4) (N := 4) hx hb hts hi_J4 tyJ4 tyJ4_ok nmJ4 hown hK hP hD hS 0 rfl rfl 3 (by decide) hF79 (fun _ h9 => h9) rfl (by decide +kernel) rfl rfl (Nat.le_of_ble_eq_true rfl) dJ5_append_3fe6f_36 (fun H locs hP hD hS => ?_)
      have hP : va_P D vwCl [(h0, .inr (1, [.ref x7_uq1, .int (0 : Int32), .int (0 : Int32), .int (x7_uv03 + (1 : Int32))])), (x7_uq1, .inl (cB, x7_ul1, .inl x7_uf1))] H := hP
      have hD : va_D A [(h0, .inr (1, [.ref x7_uq1, .int (0 : Int32), .int (0 : Int32), .int (x7_uv03 + (1 : Int32))])), (x7_uq1, .inl (cB, x7_ul1, .inl x7_uf1))] := hD
      refine lv_iload_n hx hb dJ5_append_3fe6f_39 rfl (lv_at hl 1 rfl) ?_
      refine lv_i2b hx hb dJ5_append_3fe6f_40 rfl ?_
      obtain ⟨hq, hv⟩ := hv
      refine va_bast hx hb hK hP hD hS 1 1 rfl rfl hq dJ5_append_3fe6f_41 (fun H locs hP hD hS => ?_)
      have hP : va_P D vwCl [(h0, .inr (1, [.ref x7_uq1, .int (0 : Int32), .int (0 : Int32), .int (x7_uv03 + (1 : Int32))])), (x7_uq1, .inl (cB, x7_ul1, .inl (upd x7_uf1 x7_uv03.toNatClampNeg (vp_nar .byte (a1.toInt8.toInt32)))))] H := hP
      have hD : va_D A [(h0, .inr (1, [.ref x7_uq1, .int (0 : Int32), .int (0 : Int32), .int (x7_uv03 + (1 : Int32))])), (x7_uq1, .inl (cB, x7_ul1, .inl (upd x7_uf1 x7_uv03.toNatClampNeg (vp_nar .byte (a1.toInt8.toInt32)))))] := hD
      refine lv_goto (tgt := 75) hx hb dJ5_append_3fe6f_42 (by decide) ?_
      refine lv_aload_n hx hb dJ5_append_3fe6f_75 rfl (lv_at hl 0 rfl) ?_
      refine W.widen (k := 1) (n := 300) (Nat.le_of_ble_eq_true rfl) (Nat.le_of_ble_eq_true rfl) ?_
      have hP : va_P D vwCl [(h0, .inr (1, [.ref x7_uq1, .int (0 : Int32), .int (0 : Int32), .int (x7_uv03 + (1 : Int32))])), (x7_uq1, .inl (cB, x7_ul1, .inl (upd x7_uf1 x7_uv03.toNatClampNeg (vp_nar .byte (a1.toInt8.toInt32)))))] _ := hP.sub [0, 1] rfl
      have hD : va_D A [(h0, .inr (1, [.ref x7_uq1, .int (0 : Int32), .int (0 : Int32), .int (x7_uv03 + (1 : Int32))])), (x7_uq1, .inl (cB, x7_ul1, .inl (upd x7_uf1 x7_uv03.toNatClampNeg (vp_nar .byte (a1.toInt8.toInt32)))))] := hD.sub [0, 1] (by decide) rfl
      exact W.aret (v := .ref h0) (rt := .object "java/lang/AbstractStringBuilder") hx hb hr (Or.inl ⟨_, rfl⟩) (Or.inr ⟨_, rfl⟩) (kWrt_ret (b0 := h0) (u := (x7_uq1, (x7_uv03 + (1 : Int32)), x7_ul1, (upd x7_uf1 x7_uv03.toNatClampNeg (vp_nar .byte (a1.toInt8.toInt32))))) (w1 := fun (u : Nat × Int32 × Nat × (Nat → Int32)) => [(h0, .inr (1, [.ref (u.1), .int (0 : Int32), .int (0 : Int32), .int (u.2.1)])), ((u.1), .inl (cB, (u.2.2.1), .inl (u.2.2.2)))]) (by exact hv) hP hD hS) hS.2.2 dJ5_append_3fe6f_76
set_option maxHeartbeats 4000000 in
set_option maxRecDepth 100000 in
theorem kJ4_append_cf468W (l : Launch) (D : va_G) (cI cB : ClassId) (dO dT : Nat → Int32) (adK adV : Nat → Nat) (h0 : Nat) (h1 : Nat) (cn : Int32) (bl : Nat) (bf : Nat → Int32) (a1 : Int32) (sz : Nat) (post : Int32 → Nat → (Nat → Int32) → Prop) (hv : qJ4_append_cf468W cn bl bf a1 post) : Met l yJ4_append_cf468 wsJ4_append_cf468 ({ frames := 5, cells := 1, slots := 300, locals := 112 }) (va_Pc [.ref h0, .int a1] (kBWJ D cI cB dO dT adK adV sz [(h0, .inr (1, [.ref h1, .int (0 : Int32), .int (0 : Int32), .int cn])), (h1, .inl (cB, bl, .inl bf))])) (va_Qr (fun (u : Nat × Int32 × Nat × (Nat → Int32)) => post u.2.1 u.2.2.1 u.2.2.2) (fun (u : Nat × Int32 × Nat × (Nat → Int32)) (q : Nat) (t : State) => q = h0 ∧ kE D (va_A [(h0, .inr (1, [.ref h1, .int (0 : Int32), .int (0 : Int32), .int cn])), (h1, .inl (cB, bl, .inl bf))] sz) [(h0, .inr (1, [.ref (u.1), .int (0 : Int32), .int (0 : Int32), .int (u.2.1)])), ((u.1), .inl (cB, (u.2.2.1), .inl (u.2.2.2)))] t) (va_A [(h0, .inr (1, [.ref h1, .int (0 : Int32), .int (0 : Int32), .int cn])), (h1, .inl (cB, bl, .inl bf))] sz)) 1 300 (va_A [(h0, .inr (1, [.ref h1, .int (0 : Int32), .int (0 : Int32), .int cn])), (h1, .inl (cB, bl, .inl bf))] sz) := by
  refine Met.ofW (cc := cJ4_append_cf468) (maxL := 2) (ret := (some (.object "java/lang/StringBuilder"))) (by decide) rfl ?_
  intro p e s m args below meth c s₁ B hml hv0
  obtain ⟨rfl, ⟨hsz, ⟨hP, hK, hN⟩, hD0⟩, hSt⟩ := hv0
  have hx := B.exec
  have hb := B.bytes
  have hr := B.returns
  have hts := atoms_spec (ws := wsJ4_append_cf468) B.pre
  have hown : s.vm.findClass RJ4 = some m.cls := findClass_of_methodNamed B.named
  have hlocks := B.notSynchronized
  subst hsz
  have hD := hD0.self (sz := s.heap.size)
  generalize hAe : va_A [(h0, .inr (1, [.ref h1, .int (0 : Int32), .int (0 : Int32), .int cn])), (h1, .inl (cB, bl, .inl bf))] s.heap.size = A at hD hSt ⊢
  have hA : ∀ q : Nat, s.heap.size ≤ q → A q := fun q h => by rw [← hAe]; exact Or.inr h
  have hS : va_S A s.heap s.heap [] := va_S.rf
  have hl := lv_entry ([.ref h0, .int a1]) (n := 2) (Nat.le_of_ble_eq_true rfl)
  rw [lg_entry_eq]
  generalize (lg_sl ([.ref h0, .int a1]) ++ List.replicate (2 - (lg_sl ([.ref h0, .int a1])).length) Slot.unset).toArray = ls at hl ⊢
  have hl : lv_has ls 2 [(0, .ref h0), (1, .int a1)] := hl
  refine lv_aload_n hx hb dJ4_append_cf468_0 rfl (lv_at hl 0 rfl) ?_
  refine lv_iload_n hx hb dJ4_append_cf468_1 rfl (lv_at hl 1 rfl) ?_
  refine kw_rt (wr := []) (va_runSU (As := [.int a1]) (rest := []) (hK.1 1 (RJ4, TJ4, 4) rfl).2 ⟨hx, hb, hml, hown, hts⟩ (kJ5_append_3fe6fW l D cI cB dO dT adK adV h0 h1 cn bl bf a1 _ _ hv) (va_cwSU 1 hts gJ4_append_cf468_J5_append_3fe6f_s50 rfl rfl rfl (by decide +kernel) ⟨Nat.le_of_ble_eq_true rfl, Nat.le_of_ble_eq_true rfl⟩) ⟨(kPreWJ (As := [.ref h0, .int a1]) (hP.sub (ws' := [(h0, .inr (1, [.ref h1, .int (0 : Int32), .int (0 : Int32), .int cn])), (h1, .inl (cB, bl, .inl bf))]) [0, 1] rfl) (hD.sub (ws' := [(h0, .inr (1, [.ref h1, .int (0 : Int32), .int (0 : Int32), .int cn])), (h1, .inl (cB, bl, .inl bf))]) [0, 1] (by decide) rfl) hK hN hSt hS (va_free (wc := [(h0, .inr (1, [.ref h1, .int (0 : Int32), .int (0 : Int32), .int cn])), (h1, .inl (cB, bl, .inl bf))]) hD hS hA [0, 1] rfl)).1, (kRecv (hP.sub (ws' := [(h0, .inr (1, [.ref h1, .int (0 : Int32), .int (0 : Int32), .int cn]))]) [0] rfl) hK 1 rfl rfl rfl), (kPreWJ (As := [.ref h0, .int a1]) (hP.sub (ws' := [(h0, .inr (1, [.ref h1, .int (0 : Int32), .int (0 : Int32), .int cn])), (h1, .inl (cB, bl, .inl bf))]) [0, 1] rfl) (hD.sub (ws' := [(h0, .inr (1, [.ref h1, .int (0 : Int32), .int (0 : Int32), .int cn])), (h1, .inl (cB, bl, .inl bf))]) [0, 1] (by decide) rfl) hK hN hSt hS (va_free (wc := [(h0, .inr (1, [.ref h1, .int (0 : Int32), .int (0 : Int32), .int cn])), (h1, .inl (cB, bl, .inl bf))]) hD hS hA [0, 1] rfl)).2⟩ rfl rfl hl.1 rfl (lv_room (Nat.le_of_ble_eq_true rfl)) dJ4_append_cf468_2 ⟨Nat.le_of_ble_eq_true rfl, Nat.le_of_ble_eq_true rfl⟩) hP hD hS hA [0, 1] [] rfl rfl (by decide) (by decide) (fun u H locs hv hP hD hS => ?_)
  obtain ⟨x2_uq1, x2_uv03, x2_ul1, x2_uf1⟩ := u
  have hP : va_P D vwCl [(h0, .inr (1, [.ref x2_uq1, .int (0 : Int32), .int (0 : Int32), .int x2_uv03])), (x2_uq1, .inl (cB, x2_ul1, .inl x2_uf1))] H := hP.sub [0, 1] rfl
  have hD : va_D A [(h0, .inr (1, [.ref x2_uq1, .int (0 : Int32), .int (0 : Int32), .int x2_uv03])), (x2_uq1, .inl (cB, x2_ul1, .inl x2_uf1))] := hD.sub [0, 1] (by decide) rfl
  refine W.widen (k := 1) (n := 300) (Nat.le_of_ble_eq_true rfl) (Nat.le_of_ble_eq_true rfl) ?_
  refine lv_pop hx hb dJ4_append_cf468_5 rfl ?_
  refine lv_aload_n hx hb dJ4_append_cf468_6 rfl (lv_at hl 0 rfl) ?_
  refine W.widen (k := 1) (n := 300) (Nat.le_of_ble_eq_true rfl) (Nat.le_of_ble_eq_true rfl) ?_
  have hP : va_P D vwCl [(h0, .inr (1, [.ref x2_uq1, .int (0 : Int32), .int (0 : Int32), .int x2_uv03])), (x2_uq1, .inl (cB, x2_ul1, .inl x2_uf1))] _ := hP.sub [0, 1] rfl
  have hD : va_D A [(h0, .inr (1, [.ref x2_uq1, .int (0 : Int32), .int (0 : Int32), .int x2_uv03])), (x2_uq1, .inl (cB, x2_ul1, .inl x2_uf1))] := hD.sub [0, 1] (by decide) rfl
  exact W.aret (v := .ref h0) (rt := .object "java/lang/StringBuilder") hx hb hr (Or.inl ⟨_, rfl⟩) (Or.inr ⟨_, rfl⟩) (kWrt_ret (b0 := h0) (u := (x2_uq1, x2_uv03, x2_ul1, x2_uf1)) (w1 := fun (u : Nat × Int32 × Nat × (Nat → Int32)) => [(h0, .inr (1, [.ref (u.1), .int (0 : Int32), .int (0 : Int32), .int (u.2.1)])), ((u.1), .inl (cB, (u.2.2.1), .inl (u.2.2.2)))]) (by exact hv) hP hD hS) hS.2.2 dJ4_append_cf468_7
set_option maxHeartbeats 4000000 in
set_option maxRecDepth 100000 in
theorem kJ6_getChars_ba4f3W (l : Launch) (D : va_G) (cI cB : ClassId) (dO dT : Nat → Int32) (adK adV : Nat → Nat) (h0 : Nat) (bl : Nat) (bf : Nat → Int32) (a0 : Int32) (a1 : Int32) (sz : Nat) (post : Int32 → Nat → (Nat → Int32) → Prop) (hv : qJ6_getChars_ba4f3W bl bf dO dT a0 a1 post) : Met l yJ6_getChars_ba4f3 wsJ6_getChars_ba4f3 ({ frames := 0, cells := 0, slots := 0, locals := 0 }) (va_Pc [.int a0, .int a1, .ref h0] (kBWJ D cI cB dO dT adK adV sz [(h0, .inl (cB, bl, .inl bf))])) (va_Qi (fun (r : Int32) (u : Nat × (Nat → Int32)) => post r u.1 u.2) (fun (u : Nat × (Nat → Int32)) (t : State) => kE D (va_A [(h0, .inl (cB, bl, .inl bf))] sz) [(h0, .inl (cB, (u.1), .inl (u.2)))] t) (va_A [(h0, .inl (cB, bl, .inl bf))] sz)) 0 0 (va_A [(h0, .inl (cB, bl, .inl bf))] sz) := by
  refine Met.ofW (cc := cJ6_getChars_ba4f3) (maxL := 7) (ret := (some .int)) (by decide) rfl ?_
  intro p e s m args below meth c s₁ B hml hv0
  obtain ⟨rfl, ⟨hsz, ⟨hP, hK, hN⟩, hD0⟩, hSt⟩ := hv0
  have hx := B.exec
  have hb := B.bytes
  have hr := B.returns
  have hts := atoms_spec (ws := wsJ6_getChars_ba4f3) B.pre
  have hown : s.vm.findClass RJ6 = some m.cls := findClass_of_methodNamed B.named
  have hlocks := B.notSynchronized
  have hF83 := hts (.fieldLink RJ6 83 "java/lang/Integer" "DigitOnes" "[B") (by decide +kernel)
  have hF87 := hts (.fieldLink RJ6 87 "java/lang/Integer" "DigitTens" "[B") (by decide +kernel)
  subst hsz
  have hD := hD0.self (sz := s.heap.size)
  generalize hAe : va_A [(h0, .inl (cB, bl, .inl bf))] s.heap.size = A at hD hSt ⊢
  have hA : ∀ q : Nat, s.heap.size ≤ q → A q := fun q h => by rw [← hAe]; exact Or.inr h
  have hS : va_S A s.heap s.heap [] := va_S.rf
  have hl := lv_entry ([.int a0, .int a1, .ref h0]) (n := 7) (Nat.le_of_ble_eq_true rfl)
  rw [lg_entry_eq]
  generalize (lg_sl ([.int a0, .int a1, .ref h0]) ++ List.replicate (7 - (lg_sl ([.int a0, .int a1, .ref h0])).length) Slot.unset).toArray = ls at hl ⊢
  have hl : lv_has ls 7 [(0, .int a0), (1, .int a1), (2, .ref h0)] := hl
  refine lv_iload_n hx hb dJ6_getChars_ba4f3_0 rfl (lv_at hl 1 rfl) ?_
  refine lv_istore (lv' := [(5, .int a1), (0, .int a0), (1, .int a1), (2, .ref h0)]) hx hb dJ6_getChars_ba4f3_1 hl (by decide) rfl (fun ls hl => ?_)
  refine lv_iload_n hx hb dJ6_getChars_ba4f3_3 rfl (lv_at hl 1 rfl) ?_
  have J12 : ∀ (s0_j12 : Int32) (H : Heap) (locs : List Loc) (ls : Array Slot), va_P D vwCl [(h0, .inl (cB, bl, .inl bf))] H → va_D A [(h0, .inl (cB, bl, .inl bf))] → va_S A s.heap H locs → qJ6_getChars_ba4f3W_j12 bl bf dO dT a0 a1 s0_j12 post → lv_has ls 7 [(0, .int a0), (1, .int a1), (2, .ref h0), (5, .int a1)] → W p l e (headSpec wsJ6_getChars_ba4f3 ({ frames := 0, cells := 0, slots := 0, locals := 0 })).room s m ([.int a0, .int a1, .ref h0] : List Value).toArray below meth c H locs 0 0 (MQ below (va_Qi (fun (r : Int32) (u : Nat × (Nat → Int32)) => post r u.1 u.2) (fun (u : Nat × (Nat → Int32)) (t : State) => kE D A [(h0, .inl (cB, (u.1), .inl (u.2)))] t) A) ([.int a0, .int a1, .ref h0] : List Value).toArray s 0 0 A) (F0 m 12 ls [.int s0_j12]) := by
    intro s0_j12 H locs ls hP hD hS hv hl
    refine lv_istore (lv' := [(6, .int s0_j12), (0, .int a0), (1, .int a1), (2, .ref h0), (5, .int a1)]) hx hb dJ6_getChars_ba4f3_12 hl (by decide) rfl (fun ls hl => ?_)
    refine lv_iload hx hb dJ6_getChars_ba4f3_14 (lv_at hl 0 rfl) ?_
    refine lv_if_ne (tgt := 22) hx hb dJ6_getChars_ba4f3_16 (by decide) (fun hc => ?_) (fun hc => ?_)
    · have hv := hv.1 hc
      have L22 : ∀ (K22_72 : Int32 → Int32 → (Nat → Int32) → Prop), (∀ (v0_22 : Int32) (v5_22 : Int32) (z0_0_22 : Nat → Int32) (H : Heap) (locs : List Loc) (ls : Array Slot), va_P D vwCl [(h0, .inl (cB, bl, .inl z0_0_22))] H → va_D A [(h0, .inl (cB, bl, .inl z0_0_22))] → va_S A s.heap H locs → K22_72 v0_22 v5_22 z0_0_22 → lv_has ls 7 [(0, .int v0_22), (1, .int a1), (2, .ref h0), (5, .int v5_22), (6, .int s0_j12)] → W p l e (headSpec wsJ6_getChars_ba4f3 ({ frames := 0, cells := 0, slots := 0, locals := 0 })).room s m ([.int a0, .int a1, .ref h0] : List Value).toArray below meth c H locs 0 0 (MQ below (va_Qi (fun (r : Int32) (u : Nat × (Nat → Int32)) => post r u.1 u.2) (fun (u : Nat × (Nat → Int32)) (t : State) => kE D A [(h0, .inl (cB, (u.1), .inl (u.2)))] t) A) ([.int a0, .int a1, .ref h0] : List Value).toArray s 0 0 A) (F0 m 72 ls [])) → ∀ (n22 : Nat) (v0_22 : Int32) (v5_22 : Int32) (z0_0_22 : Nat → Int32) (H : Heap) (locs : List Loc) (ls : Array Slot), va_P D vwCl [(h0, .inl (cB, bl, .inl z0_0_22))] H → va_D A [(h0, .inl (cB, bl, .inl z0_0_22))] → va_S A s.heap H locs → qJ6_getChars_ba4f3_W22 bl dO dT K22_72 n22 v0_22 v5_22 z0_0_22 → lv_has ls 7 [(0, .int v0_22), (1, .int a1), (2, .ref h0), (5, .int v5_22), (6, .int s0_j12)] → W p l e (headSpec wsJ6_getChars_ba4f3 ({ frames := 0, cells := 0, slots := 0, locals := 0 })).room s m ([.int a0, .int a1, .ref h0] : List Value).toArray below meth c H locs 0 0 (MQ below (va_Qi (fun (r : Int32) (u : Nat × (Nat → Int32)) => post r u.1 u.2) (fun (u : Nat × (Nat → Int32)) (t : State) => kE D A [(h0, .inl (cB, (u.1), .inl (u.2)))] t) A) ([.int a0, .int a1, .ref h0] : List Value).toArray s 0 0 A) (F0 m 22 ls []) := by
        intro K22_72 hk22_72
        intro n22
        induction n22 with
        | zero => intro v0_22 v5_22 z0_0_22 H locs ls hP hD hS hv hl; exact hv.elim
        | succ n22 ih22 =>
          intro v0_22 v5_22 z0_0_22 H locs ls hP hD hS hv hl
          refine lv_iload_n hx hb dJ6_getChars_ba4f3_22 rfl (lv_at hl 0 rfl) ?_
          refine lv_bipush (v := (-100 : Int32)) hx hb dJ6_getChars_ba4f3_23 (by decide) ?_
          refine lv_icmp_gt (tgt := 72) hx hb dJ6_getChars_ba4f3_25 (by decide) (fun hc => ?_) (fun hc => ?_)
          · have hv := hv.1 hc
            exact hk22_72 _ _ _ _ _ _ hP hD hS hv (lv_sub hl [0, 1, 2, 3, 4] rfl)
          · have hv := hv.2 hc
            refine lv_iload_n hx hb dJ6_getChars_ba4f3_28 rfl (lv_at hl 0 rfl) ?_
            refine lv_bipush (v := (100 : Int32)) hx hb dJ6_getChars_ba4f3_29 (by decide) ?_
            refine lv_idiv hx hb dJ6_getChars_ba4f3_31 (by decide) ?_
            refine lv_istore_n (lv' := [(3, .int (v0_22 / (100 : Int32))), (0, .int v0_22), (1, .int a1), (2, .ref h0), (5, .int v5_22), (6, .int s0_j12)]) hx hb dJ6_getChars_ba4f3_32 rfl hl (by decide) rfl (fun ls hl => ?_)
            refine lv_iload_n hx hb dJ6_getChars_ba4f3_33 rfl (lv_at hl 0 rfl) ?_
            refine lv_bipush (v := (100 : Int32)) hx hb dJ6_getChars_ba4f3_34 (by decide) ?_
            refine lv_imul hx hb dJ6_getChars_ba4f3_36 ?_
            refine lv_iload_n hx hb dJ6_getChars_ba4f3_37 rfl (lv_at hl 1 rfl) ?_
            refine lv_isub hx hb dJ6_getChars_ba4f3_38 ?_
            refine lv_istore (lv' := [(4, .int (((v0_22 / (100 : Int32)) * (100 : Int32)) - v0_22)), (3, .int (v0_22 / (100 : Int32))), (0, .int v0_22), (1, .int a1), (2, .ref h0), (5, .int v5_22), (6, .int s0_j12)]) hx hb dJ6_getChars_ba4f3_39 hl (by decide) rfl (fun ls hl => ?_)
            refine lv_iload_n hx hb dJ6_getChars_ba4f3_41 rfl (lv_at hl 1 rfl) ?_
            refine lv_istore_n (lv' := [(0, .int (v0_22 / (100 : Int32))), (4, .int (((v0_22 / (100 : Int32)) * (100 : Int32)) - v0_22)), (3, .int (v0_22 / (100 : Int32))), (1, .int a1), (2, .ref h0), (5, .int v5_22), (6, .int s0_j12)]) hx hb dJ6_getChars_ba4f3_42 rfl hl (by decide) rfl (fun ls hl => ?_)
            refine lv_aload_n hx hb dJ6_getChars_ba4f3_43 rfl (lv_at hl 4 rfl) ?_
            refine lv_iinc (v := (v5_22 + (-1 : Int32))) (lv' := [(5, .int (v5_22 + (-1 : Int32))), (0, .int (v0_22 / (100 : Int32))), (4, .int (((v0_22 / (100 : Int32)) * (100 : Int32)) - v0_22)), (3, .int (v0_22 / (100 : Int32))), (1, .int a1), (2, .ref h0), (6, .int s0_j12)]) hx hb dJ6_getChars_ba4f3_44 hl (k := 5) rfl rfl (by decide) rfl (fun ls hl => ?_)
            refine lv_iload hx hb dJ6_getChars_ba4f3_47 (lv_at hl 0 rfl) ?_
            obtain ⟨tO, hztO, httO⟩ := hSt.2.1
            refine va_gets (C := "java/lang/Integer") (n := "DigitOnes") (d := "[B") (v := .ref tO) hx hb hztO hS hown hF83 (fun _ h9 => h9) dJ6_getChars_ba4f3_49 ?_
            refine lv_iload hx hb dJ6_getChars_ba4f3_52 (lv_at hl 2 rfl) ?_
            obtain ⟨hq, hv⟩ := hv
            refine va_tb hx hb httO hS hq (v := .int (dO (((v0_22 / (100 : Int32)) * (100 : Int32)) - v0_22).toNatClampNeg)) rfl dJ6_getChars_ba4f3_54 ?_
            obtain ⟨hq, hv⟩ := hv
            refine va_bast hx hb hK hP hD hS 0 1 rfl rfl hq dJ6_getChars_ba4f3_55 (fun H locs hP hD hS => ?_)
            have hP : va_P D vwCl [(h0, .inl (cB, bl, .inl (upd z0_0_22 (v5_22 + (-1 : Int32)).toNatClampNeg (vp_nar .byte (dO (((v0_22 / (100 : Int32)) * (100 : Int32)) - v0_22).toNatClampNeg)))))] H := hP
            have hD : va_D A [(h0, .inl (cB, bl, .inl (upd z0_0_22 (v5_22 + (-1 : Int32)).toNatClampNeg (vp_nar .byte (dO (((v0_22 / (100 : Int32)) * (100 : Int32)) - v0_22).toNatClampNeg)))))] := hD
            refine lv_aload_n hx hb dJ6_getChars_ba4f3_56 rfl (lv_at hl 5 rfl) ?_
            refine lv_iinc (v := ((v5_22 + (-1 : Int32)) + (-1 : Int32))) (lv' := [(5, .int ((v5_22 + (-1 : Int32)) + (-1 : Int32))), (0, .int (v0_22 / (100 : Int32))), (4, .int (((v0_22 / (100 : Int32)) * (100 : Int32)) - v0_22)), (3, .int (v0_22 / (100 : Int32))), (1, .int a1), (2, .ref h0), (6, .int s0_j12)]) hx hb dJ6_getChars_ba4f3_57 hl (k := 0) rfl rfl (by decide) rfl (fun ls hl => ?_)
            refine lv_iload hx hb dJ6_getChars_ba4f3_60 (lv_at hl 0 rfl) ?_
            obtain ⟨tT, hztT, httT⟩ := hSt.2.2.1
            refine va_gets (C := "java/lang/Integer") (n := "DigitTens") (d := "[B") (v := .ref tT) hx hb hztT hS hown hF87 (fun _ h9 => h9) dJ6_getChars_ba4f3_62 ?_
            refine lv_iload hx hb dJ6_getChars_ba4f3_65 (lv_at hl 2 rfl) ?_
            obtain ⟨hq, hv⟩ := hv
            refine va_tb hx hb httT hS hq (v := .int (dT (((v0_22 / (100 : Int32)) * (100 : Int32)) - v0_22).toNatClampNeg)) rfl dJ6_getChars_ba4f3_67 ?_
            obtain ⟨hq, hv⟩ := hv
            refine va_bast hx hb hK hP hD hS 0 1 rfl rfl hq dJ6_getChars_ba4f3_68 (fun H locs hP hD hS => ?_)
            have hP : va_P D vwCl [(h0, .inl (cB, bl, .inl (upd (upd z0_0_22 (v5_22 + (-1 : Int32)).toNatClampNeg (vp_nar .byte (dO (((v0_22 / (100 : Int32)) * (100 : Int32)) - v0_22).toNatClampNeg))) ((v5_22 + (-1 : Int32)) + (-1 : Int32)).toNatClampNeg (vp_nar .byte (dT (((v0_22 / (100 : Int32)) * (100 : Int32)) - v0_22).toNatClampNeg)))))] H := hP
            have hD : va_D A [(h0, .inl (cB, bl, .inl (upd (upd z0_0_22 (v5_22 + (-1 : Int32)).toNatClampNeg (vp_nar .byte (dO (((v0_22 / (100 : Int32)) * (100 : Int32)) - v0_22).toNatClampNeg))) ((v5_22 + (-1 : Int32)) + (-1 : Int32)).toNatClampNeg (vp_nar .byte (dT (((v0_22 / (100 : Int32)) * (100 : Int32)) - v0_22).toNatClampNeg)))))] := hD
            refine lv_goto (tgt := 22) hx hb dJ6_getChars_ba4f3_69 (by decide) ?_
            exact ih22 _ _ _ _ _ _ hP hD hS hv (lv_sub hl [1, 4, 5, 0, 6] rfl)
      obtain ⟨n22, hv⟩ := hv
      refine L22 _ (fun v0_22x v5_22x z0_0_22x H locs ls hP hD hS hv hl => ?_) n22 _ _ _ _ _ _ hP hD hS hv (lv_sub hl [1, 2, 3, 4, 0] rfl)
      refine lv_aload_n hx hb dJ6_getChars_ba4f3_72 rfl (lv_at hl 2 rfl) ?_
      refine lv_iinc (v := (v5_22x + (-1 : Int32))) (lv' := [(5, .int (v5_22x + (-1 : Int32))), (0, .int v0_22x), (1, .int a1), (2, .ref h0), (6, .int s0_j12)]) hx hb dJ6_getChars_ba4f3_73 hl (k := 3) rfl rfl (by decide) rfl (fun ls hl => ?_)
      refine lv_iload hx hb dJ6_getChars_ba4f3_76 (lv_at hl 0 rfl) ?_
      obtain ⟨tO, hztO, httO⟩ := hSt.2.1
      refine va_gets (C := "java/lang/Integer") (n := "DigitOnes") (d := "[B") (v := .ref tO) hx hb hztO hS hown hF83 (fun _ h9 => h9) dJ6_getChars_ba4f3_78 ?_
      refine lv_iload_n hx hb dJ6_getChars_ba4f3_81 rfl (lv_at hl 1 rfl) ?_
      refine lv_ineg hx hb dJ6_getChars_ba4f3_82 ?_
      obtain ⟨hq, hv⟩ := hv
      refine va_tb hx hb httO hS hq (v := .int (dO (-v0_22x).toNatClampNeg)) rfl dJ6_getChars_ba4f3_83 ?_
      obtain ⟨hq, hv⟩ := hv
      refine va_bast hx hb hK hP hD hS 0 1 rfl rfl hq dJ6_getChars_ba4f3_84 (fun H locs hP hD hS => ?_)
      have hP : va_P D vwCl [(h0, .inl (cB, bl, .inl (upd z0_0_22x (v5_22x + (-1 : Int32)).toNatClampNeg (vp_nar .byte (dO (-v0_22x).toNatClampNeg)))))] H := hP
      have hD : va_D A [(h0, .inl (cB, bl, .inl (upd z0_0_22x (v5_22x + (-1 : Int32)).toNatClampNeg (vp_nar .byte (dO (-v0_22x).toNatClampNeg)))))] := hD
      refine lv_iload_n hx hb dJ6_getChars_ba4f3_85 rfl (lv_at hl 1 rfl) ?_
      refine lv_bipush (v := (-9 : Int32)) hx hb dJ6_getChars_ba4f3_86 (by decide) ?_
      have J104 : ∀ (v5_j104 : Int32) (z0_0_j104 : Nat → Int32) (H : Heap) (locs : List Loc) (ls : Array Slot), va_P D vwCl [(h0, .inl (cB, bl, .inl z0_0_j104))] H → va_D A [(h0, .inl (cB, bl, .inl z0_0_j104))] → va_S A s.heap H locs → qJ6_getChars_ba4f3W_j104 bl s0_j12 v5_j104 z0_0_j104 post → lv_has ls 7 [(0, .int v0_22x), (1, .int a1), (2, .ref h0), (5, .int v5_j104), (6, .int s0_j12)] → W p l e (headSpec wsJ6_getChars_ba4f3 ({ frames := 0, cells := 0, slots := 0, locals := 0 })).room s m ([.int a0, .int a1, .ref h0] : List Value).toArray below meth c H locs 0 0 (MQ below (va_Qi (fun (r : Int32) (u : Nat × (Nat → Int32)) => post r u.1 u.2) (fun (u : Nat × (Nat → Int32)) (t : State) => kE D A [(h0, .inl (cB, (u.1), .inl (u.2)))] t) A) ([.int a0, .int a1, .ref h0] : List Value).toArray s 0 0 A) (F0 m 104 ls []) := by
        intro v5_j104 z0_0_j104 H locs ls hP hD hS hv hl
        refine lv_iload hx hb dJ6_getChars_ba4f3_104 (lv_at hl 4 rfl) ?_
        refine lv_if_eq (tgt := 118) hx hb dJ6_getChars_ba4f3_106 (by decide) (fun hc => ?_) (fun hc => ?_)
        · have hv := hv.1 hc
          refine lv_iload hx hb dJ6_getChars_ba4f3_118 (lv_at hl 3 rfl) ?_
          refine W.widen (k := 0) (n := 0) (Nat.le_of_ble_eq_true rfl) (Nat.le_of_ble_eq_true rfl) ?_
          have hP : va_P D vwCl [(h0, .inl (cB, bl, .inl z0_0_j104))] _ := hP.sub [0] rfl
          have hD : va_D A [(h0, .inl (cB, bl, .inl z0_0_j104))] := hD.sub [0] (by decide) rfl
          exact W.iret (v := v5_j104) hx hb hr (kWi_ret (u := (bl, z0_0_j104)) (w1 := fun (u : Nat × (Nat → Int32)) => [(h0, .inl (cB, (u.1), .inl (u.2)))]) (by exact hv) hP hD hS) hS.2.2 dJ6_getChars_ba4f3_120
        · have hv := hv.2 hc
          refine lv_aload_n hx hb dJ6_getChars_ba4f3_109 rfl (lv_at hl 2 rfl) ?_
          refine lv_iinc (v := (v5_j104 + (-1 : Int32))) (lv' := [(5, .int (v5_j104 + (-1 : Int32))), (0, .int v0_22x), (1, .int a1), (2, .ref h0), (6, .int s0_j12)]) hx hb dJ6_getChars_ba4f3_110 hl (k := 3) rfl rfl (by decide) rfl (fun ls hl => ?_)
          refine lv_iload hx hb dJ6_getChars_ba4f3_113 (lv_at hl 0 rfl) ?_
          refine lv_bipush (v := (45 : Int32)) hx hb dJ6_getChars_ba4f3_115 (by decide) ?_
          obtain ⟨hq, hv⟩ := hv
          refine va_bast hx hb hK hP hD hS 0 1 rfl rfl hq dJ6_getChars_ba4f3_117 (fun H locs hP hD hS => ?_)
          have hP : va_P D vwCl [(h0, .inl (cB, bl, .inl (upd z0_0_j104 (v5_j104 + (-1 : Int32)).toNatClampNeg (vp_nar .byte (45 : Int32)))))] H := hP
          have hD : va_D A [(h0, .inl (cB, bl, .inl (upd z0_0_j104 (v5_j104 + (-1 : Int32)).toNatClampNeg (vp_nar .byte (45 : Int32)))))] := hD
          refine lv_iload hx hb dJ6_getChars_ba4f3_118 (lv_at hl 0 rfl) ?_
          refine W.widen (k := 0) (n := 0) (Nat.le_of_ble_eq_true rfl) (Nat.le_of_ble_eq_true rfl) ?_
          have hP : va_P D vwCl [(h0, .inl (cB, bl, .inl (upd z0_0_j104 (v5_j104 + (-1 : Int32)).toNatClampNeg (vp_nar .byte (45 : Int32)))))] _ := hP.sub [0] rfl
          have hD : va_D A [(h0, .inl (cB, bl, .inl (upd z0_0_j104 (v5_j104 + (-1 : Int32)).toNatClampNeg (vp_nar .byte (45 : Int32)))))] := hD.sub [0] (by decide) rfl
          exact W.iret (v := (v5_j104 + (-1 : Int32))) hx hb hr (kWi_ret (u := (bl, (upd z0_0_j104 (v5_j104 + (-1 : Int32)).toNatClampNeg (vp_nar .byte (45 : Int32))))) (w1 := fun (u : Nat × (Nat → Int32)) => [(h0, .inl (cB, (u.1), .inl (u.2)))]) (by exact hv) hP hD hS) hS.2.2 dJ6_getChars_ba4f3_120
      refine lv_icmp_ge (tgt := 104) hx hb dJ6_getChars_ba4f3_88 (by decide) (fun hc => ?_) (fun hc => ?_)
      · have hv := hv.1 hc
        refine W.widen (k := 0) (n := 0) (Nat.le_of_ble_eq_true rfl) (Nat.le_of_ble_eq_true rfl) ?_
        exact J104 _ _ _ _ _ hP hD hS hv (lv_sub hl [1, 2, 3, 0, 4] rfl)
      · have hv := hv.2 hc
        refine lv_aload_n hx hb dJ6_getChars_ba4f3_91 rfl (lv_at hl 3 rfl) ?_
        refine lv_iinc (v := ((v5_22x + (-1 : Int32)) + (-1 : Int32))) (lv' := [(5, .int ((v5_22x + (-1 : Int32)) + (-1 : Int32))), (0, .int v0_22x), (1, .int a1), (2, .ref h0), (6, .int s0_j12)]) hx hb dJ6_getChars_ba4f3_92 hl (k := 0) rfl rfl (by decide) rfl (fun ls hl => ?_)
        refine lv_iload hx hb dJ6_getChars_ba4f3_95 (lv_at hl 0 rfl) ?_
        obtain ⟨tT, hztT, httT⟩ := hSt.2.2.1
        refine va_gets (C := "java/lang/Integer") (n := "DigitTens") (d := "[B") (v := .ref tT) hx hb hztT hS hown hF87 (fun _ h9 => h9) dJ6_getChars_ba4f3_97 ?_
        refine lv_iload_n hx hb dJ6_getChars_ba4f3_100 rfl (lv_at hl 1 rfl) ?_
        refine lv_ineg hx hb dJ6_getChars_ba4f3_101 ?_
        obtain ⟨hq, hv⟩ := hv
        refine va_tb hx hb httT hS hq (v := .int (dT (-v0_22x).toNatClampNeg)) rfl dJ6_getChars_ba4f3_102 ?_
        obtain ⟨hq, hv⟩ := hv
        refine va_bast hx hb hK hP hD hS 0 1 rfl rfl hq dJ6_getChars_ba4f3_103 (fun H locs hP hD hS => ?_)
        have hP : va_P D vwCl [(h0, .inl (cB, bl, .inl (upd (upd z0_0_22x (v5_22x + (-1 : Int32)).toNatClampNeg (vp_nar .byte (dO (-v0_22x).toNatClampNeg))) ((v5_22x + (-1 : Int32)) + (-1 : Int32)).toNatClampNeg (vp_nar .byte (dT (-v0_22x).toNatClampNeg)))))] H := hP
        have hD : va_D A [(h0, .inl (cB, bl, .inl (upd (upd z0_0_22x (v5_22x + (-1 : Int32)).toNatClampNeg (vp_nar .byte (dO (-v0_22x).toNatClampNeg))) ((v5_22x + (-1 : Int32)) + (-1 : Int32)).toNatClampNeg (vp_nar .byte (dT (-v0_22x).toNatClampNeg)))))] := hD
        refine W.widen (k := 0) (n := 0) (Nat.le_of_ble_eq_true rfl) (Nat.le_of_ble_eq_true rfl) ?_
        exact J104 _ _ _ _ _ hP hD hS hv (lv_sub hl [1, 2, 3, 0, 4] rfl)
    · have hv := hv.2 hc
      refine lv_iload_n hx hb dJ6_getChars_ba4f3_19 rfl (lv_at hl 1 rfl) ?_
      refine lv_ineg hx hb dJ6_getChars_ba4f3_20 ?_
      refine lv_istore_n (lv' := [(0, .int (-a0)), (6, .int s0_j12), (1, .int a1), (2, .ref h0), (5, .int a1)]) hx hb dJ6_getChars_ba4f3_21 rfl hl (by decide) rfl (fun ls hl => ?_)
      have L2022 : ∀ (K2022_72 : Int32 → Int32 → (Nat → Int32) → Prop), (∀ (v0_2022 : Int32) (v5_2022 : Int32) (z0_0_2022 : Nat → Int32) (H : Heap) (locs : List Loc) (ls : Array Slot), va_P D vwCl [(h0, .inl (cB, bl, .inl z0_0_2022))] H → va_D A [(h0, .inl (cB, bl, .inl z0_0_2022))] → va_S A s.heap H locs → K2022_72 v0_2022 v5_2022 z0_0_2022 → lv_has ls 7 [(0, .int v0_2022), (1, .int a1), (2, .ref h0), (5, .int v5_2022), (6, .int s0_j12)] → W p l e (headSpec wsJ6_getChars_ba4f3 ({ frames := 0, cells := 0, slots := 0, locals := 0 })).room s m ([.int a0, .int a1, .ref h0] : List Value).toArray below meth c H locs 0 0 (MQ below (va_Qi (fun (r : Int32) (u : Nat × (Nat → Int32)) => post r u.1 u.2) (fun (u : Nat × (Nat → Int32)) (t : State) => kE D A [(h0, .inl (cB, (u.1), .inl (u.2)))] t) A) ([.int a0, .int a1, .ref h0] : List Value).toArray s 0 0 A) (F0 m 72 ls [])) → ∀ (n2022 : Nat) (v0_2022 : Int32) (v5_2022 : Int32) (z0_0_2022 : Nat → Int32) (H : Heap) (locs : List Loc) (ls : Array Slot), va_P D vwCl [(h0, .inl (cB, bl, .inl z0_0_2022))] H → va_D A [(h0, .inl (cB, bl, .inl z0_0_2022))] → va_S A s.heap H locs → qJ6_getChars_ba4f3_W2022 bl dO dT K2022_72 n2022 v0_2022 v5_2022 z0_0_2022 → lv_has ls 7 [(0, .int v0_2022), (1, .int a1), (2, .ref h0), (5, .int v5_2022), (6, .int s0_j12)] → W p l e (headSpec wsJ6_getChars_ba4f3 ({ frames := 0, cells := 0, slots := 0, locals := 0 })).room s m ([.int a0, .int a1, .ref h0] : List Value).toArray below meth c H locs 0 0 (MQ below (va_Qi (fun (r : Int32) (u : Nat × (Nat → Int32)) => post r u.1 u.2) (fun (u : Nat × (Nat → Int32)) (t : State) => kE D A [(h0, .inl (cB, (u.1), .inl (u.2)))] t) A) ([.int a0, .int a1, .ref h0] : List Value).toArray s 0 0 A) (F0 m 22 ls []) := by
        intro K2022_72 hk2022_72
        intro n2022
        induction n2022 with
        | zero => intro v0_2022 v5_2022 z0_0_2022 H locs ls hP hD hS hv hl; exact hv.elim
        | succ n2022 ih2022 =>
          intro v0_2022 v5_2022 z0_0_2022 H locs ls hP hD hS hv hl
          refine lv_iload_n hx hb dJ6_getChars_ba4f3_22 rfl (lv_at hl 0 rfl) ?_
          refine lv_bipush (v := (-100 : Int32)) hx hb dJ6_getChars_ba4f3_23 (by decide) ?_
          refine lv_icmp_gt (tgt := 72) hx hb dJ6_getChars_ba4f3_25 (by decide) (fun hc => ?_) (fun hc => ?_)
          · have hv := hv.1 hc
            exact hk2022_72 _ _ _ _ _ _ hP hD hS hv (lv_sub hl [0, 1, 2, 3, 4] rfl)
          · have hv := hv.2 hc
            refine lv_iload_n hx hb dJ6_getChars_ba4f3_28 rfl (lv_at hl 0 rfl) ?_
            refine lv_bipush (v := (100 : Int32)) hx hb dJ6_getChars_ba4f3_29 (by decide) ?_
            refine lv_idiv hx hb dJ6_getChars_ba4f3_31 (by decide) ?_
            refine lv_istore_n (lv' := [(3, .int (v0_2022 / (100 : Int32))), (0, .int v0_2022), (1, .int a1), (2, .ref h0), (5, .int v5_2022), (6, .int s0_j12)]) hx hb dJ6_getChars_ba4f3_32 rfl hl (by decide) rfl (fun ls hl => ?_)
            refine lv_iload_n hx hb dJ6_getChars_ba4f3_33 rfl (lv_at hl 0 rfl) ?_
            refine lv_bipush (v := (100 : Int32)) hx hb dJ6_getChars_ba4f3_34 (by decide) ?_
            refine lv_imul hx hb dJ6_getChars_ba4f3_36 ?_
            refine lv_iload_n hx hb dJ6_getChars_ba4f3_37 rfl (lv_at hl 1 rfl) ?_
            refine lv_isub hx hb dJ6_getChars_ba4f3_38 ?_
            refine lv_istore (lv' := [(4, .int (((v0_2022 / (100 : Int32)) * (100 : Int32)) - v0_2022)), (3, .int (v0_2022 / (100 : Int32))), (0, .int v0_2022), (1, .int a1), (2, .ref h0), (5, .int v5_2022), (6, .int s0_j12)]) hx hb dJ6_getChars_ba4f3_39 hl (by decide) rfl (fun ls hl => ?_)
            refine lv_iload_n hx hb dJ6_getChars_ba4f3_41 rfl (lv_at hl 1 rfl) ?_
            refine lv_istore_n (lv' := [(0, .int (v0_2022 / (100 : Int32))), (4, .int (((v0_2022 / (100 : Int32)) * (100 : Int32)) - v0_2022)), (3, .int (v0_2022 / (100 : Int32))), (1, .int a1), (2, .ref h0), (5, .int v5_2022), (6, .int s0_j12)]) hx hb dJ6_getChars_ba4f3_42 rfl hl (by decide) rfl (fun ls hl => ?_)
            refine lv_aload_n hx hb dJ6_getChars_ba4f3_43 rfl (lv_at hl 4 rfl) ?_
            refine lv_iinc (v := (v5_2022 + (-1 : Int32))) (lv' := [(5, .int (v5_2022 + (-1 : Int32))), (0, .int (v0_2022 / (100 : Int32))), (4, .int (((v0_2022 / (100 : Int32)) * (100 : Int32)) - v0_2022)), (3, .int (v0_2022 / (100 : Int32))), (1, .int a1), (2, .ref h0), (6, .int s0_j12)]) hx hb dJ6_getChars_ba4f3_44 hl (k := 5) rfl rfl (by decide) rfl (fun ls hl => ?_)
            refine lv_iload hx hb dJ6_getChars_ba4f3_47 (lv_at hl 0 rfl) ?_
            obtain ⟨tO, hztO, httO⟩ := hSt.2.1
            refine va_gets (C := "java/lang/Integer") (n := "DigitOnes") (d := "[B") (v := .ref tO) hx hb hztO hS hown hF83 (fun _ h9 => h9) dJ6_getChars_ba4f3_49 ?_
            refine lv_iload hx hb dJ6_getChars_ba4f3_52 (lv_at hl 2 rfl) ?_
            obtain ⟨hq, hv⟩ := hv
            refine va_tb hx hb httO hS hq (v := .int (dO (((v0_2022 / (100 : Int32)) * (100 : Int32)) - v0_2022).toNatClampNeg)) rfl dJ6_getChars_ba4f3_54 ?_
            obtain ⟨hq, hv⟩ := hv
            refine va_bast hx hb hK hP hD hS 0 1 rfl rfl hq dJ6_getChars_ba4f3_55 (fun H locs hP hD hS => ?_)
            have hP : va_P D vwCl [(h0, .inl (cB, bl, .inl (upd z0_0_2022 (v5_2022 + (-1 : Int32)).toNatClampNeg (vp_nar .byte (dO (((v0_2022 / (100 : Int32)) * (100 : Int32)) - v0_2022).toNatClampNeg)))))] H := hP
            have hD : va_D A [(h0, .inl (cB, bl, .inl (upd z0_0_2022 (v5_2022 + (-1 : Int32)).toNatClampNeg (vp_nar .byte (dO (((v0_2022 / (100 : Int32)) * (100 : Int32)) - v0_2022).toNatClampNeg)))))] := hD
            refine lv_aload_n hx hb dJ6_getChars_ba4f3_56 rfl (lv_at hl 5 rfl) ?_
            refine lv_iinc (v := ((v5_2022 + (-1 : Int32)) + (-1 : Int32))) (lv' := [(5, .int ((v5_2022 + (-1 : Int32)) + (-1 : Int32))), (0, .int (v0_2022 / (100 : Int32))), (4, .int (((v0_2022 / (100 : Int32)) * (100 : Int32)) - v0_2022)), (3, .int (v0_2022 / (100 : Int32))), (1, .int a1), (2, .ref h0), (6, .int s0_j12)]) hx hb dJ6_getChars_ba4f3_57 hl (k := 0) rfl rfl (by decide) rfl (fun ls hl => ?_)
            refine lv_iload hx hb dJ6_getChars_ba4f3_60 (lv_at hl 0 rfl) ?_
            obtain ⟨tT, hztT, httT⟩ := hSt.2.2.1
            refine va_gets (C := "java/lang/Integer") (n := "DigitTens") (d := "[B") (v := .ref tT) hx hb hztT hS hown hF87 (fun _ h9 => h9) dJ6_getChars_ba4f3_62 ?_
            refine lv_iload hx hb dJ6_getChars_ba4f3_65 (lv_at hl 2 rfl) ?_
            obtain ⟨hq, hv⟩ := hv
            refine va_tb hx hb httT hS hq (v := .int (dT (((v0_2022 / (100 : Int32)) * (100 : Int32)) - v0_2022).toNatClampNeg)) rfl dJ6_getChars_ba4f3_67 ?_
            obtain ⟨hq, hv⟩ := hv
            refine va_bast hx hb hK hP hD hS 0 1 rfl rfl hq dJ6_getChars_ba4f3_68 (fun H locs hP hD hS => ?_)
            have hP : va_P D vwCl [(h0, .inl (cB, bl, .inl (upd (upd z0_0_2022 (v5_2022 + (-1 : Int32)).toNatClampNeg (vp_nar .byte (dO (((v0_2022 / (100 : Int32)) * (100 : Int32)) - v0_2022).toNatClampNeg))) ((v5_2022 + (-1 : Int32)) + (-1 : Int32)).toNatClampNeg (vp_nar .byte (dT (((v0_2022 / (100 : Int32)) * (100 : Int32)) - v0_2022).toNatClampNeg)))))] H := hP
            have hD : va_D A [(h0, .inl (cB, bl, .inl (upd (upd z0_0_2022 (v5_2022 + (-1 : Int32)).toNatClampNeg (vp_nar .byte (dO (((v0_2022 / (100 : Int32)) * (100 : Int32)) - v0_2022).toNatClampNeg))) ((v5_2022 + (-1 : Int32)) + (-1 : Int32)).toNatClampNeg (vp_nar .byte (dT (((v0_2022 / (100 : Int32)) * (100 : Int32)) - v0_2022).toNatClampNeg)))))] := hD
            refine lv_goto (tgt := 22) hx hb dJ6_getChars_ba4f3_69 (by decide) ?_
            exact ih2022 _ _ _ _ _ _ hP hD hS hv (lv_sub hl [1, 4, 5, 0, 6] rfl)
      obtain ⟨n2022, hv⟩ := hv
      refine L2022 _ (fun v0_2022x v5_2022x z0_0_2022x H locs ls hP hD hS hv hl => ?_) n2022 _ _ _ _ _ _ hP hD hS hv (lv_sub hl [0, 2, 3, 4, 1] rfl)
      refine lv_aload_n hx hb dJ6_getChars_ba4f3_72 rfl (lv_at hl 2 rfl) ?_
      refine lv_iinc (v := (v5_2022x + (-1 : Int32))) (lv' := [(5, .int (v5_2022x + (-1 : Int32))), (0, .int v0_2022x), (1, .int a1), (2, .ref h0), (6, .int s0_j12)]) hx hb dJ6_getChars_ba4f3_73 hl (k := 3) rfl rfl (by decide) rfl (fun ls hl => ?_)
      refine lv_iload hx hb dJ6_getChars_ba4f3_76 (lv_at hl 0 rfl) ?_
      obtain ⟨tO, hztO, httO⟩ := hSt.2.1
      refine va_gets (C := "java/lang/Integer") (n := "DigitOnes") (d := "[B") (v := .ref tO) hx hb hztO hS hown hF83 (fun _ h9 => h9) dJ6_getChars_ba4f3_78 ?_
      refine lv_iload_n hx hb dJ6_getChars_ba4f3_81 rfl (lv_at hl 1 rfl) ?_
      refine lv_ineg hx hb dJ6_getChars_ba4f3_82 ?_
      obtain ⟨hq, hv⟩ := hv
      refine va_tb hx hb httO hS hq (v := .int (dO (-v0_2022x).toNatClampNeg)) rfl dJ6_getChars_ba4f3_83 ?_
      obtain ⟨hq, hv⟩ := hv
      refine va_bast hx hb hK hP hD hS 0 1 rfl rfl hq dJ6_getChars_ba4f3_84 (fun H locs hP hD hS => ?_)
      have hP : va_P D vwCl [(h0, .inl (cB, bl, .inl (upd z0_0_2022x (v5_2022x + (-1 : Int32)).toNatClampNeg (vp_nar .byte (dO (-v0_2022x).toNatClampNeg)))))] H := hP
      have hD : va_D A [(h0, .inl (cB, bl, .inl (upd z0_0_2022x (v5_2022x + (-1 : Int32)).toNatClampNeg (vp_nar .byte (dO (-v0_2022x).toNatClampNeg)))))] := hD
      refine lv_iload_n hx hb dJ6_getChars_ba4f3_85 rfl (lv_at hl 1 rfl) ?_
      refine lv_bipush (v := (-9 : Int32)) hx hb dJ6_getChars_ba4f3_86 (by decide) ?_
      have J1104 : ∀ (v5_j1104 : Int32) (z0_0_j1104 : Nat → Int32) (H : Heap) (locs : List Loc) (ls : Array Slot), va_P D vwCl [(h0, .inl (cB, bl, .inl z0_0_j1104))] H → va_D A [(h0, .inl (cB, bl, .inl z0_0_j1104))] → va_S A s.heap H locs → qJ6_getChars_ba4f3W_j1104 bl s0_j12 v5_j1104 z0_0_j1104 post → lv_has ls 7 [(0, .int v0_2022x), (1, .int a1), (2, .ref h0), (5, .int v5_j1104), (6, .int s0_j12)] → W p l e (headSpec wsJ6_getChars_ba4f3 ({ frames := 0, cells := 0, slots := 0, locals := 0 })).room s m ([.int a0, .int a1, .ref h0] : List Value).toArray below meth c H locs 0 0 (MQ below (va_Qi (fun (r : Int32) (u : Nat × (Nat → Int32)) => post r u.1 u.2) (fun (u : Nat × (Nat → Int32)) (t : State) => kE D A [(h0, .inl (cB, (u.1), .inl (u.2)))] t) A) ([.int a0, .int a1, .ref h0] : List Value).toArray s 0 0 A) (F0 m 104 ls []) := by
        intro v5_j1104 z0_0_j1104 H locs ls hP hD hS hv hl
        refine lv_iload hx hb dJ6_getChars_ba4f3_104 (lv_at hl 4 rfl) ?_
        refine lv_if_eq (tgt := 118) hx hb dJ6_getChars_ba4f3_106 (by decide) (fun hc => ?_) (fun hc => ?_)
        · have hv := hv.1 hc
          refine lv_iload hx hb dJ6_getChars_ba4f3_118 (lv_at hl 3 rfl) ?_
          refine W.widen (k := 0) (n := 0) (Nat.le_of_ble_eq_true rfl) (Nat.le_of_ble_eq_true rfl) ?_
          have hP : va_P D vwCl [(h0, .inl (cB, bl, .inl z0_0_j1104))] _ := hP.sub [0] rfl
          have hD : va_D A [(h0, .inl (cB, bl, .inl z0_0_j1104))] := hD.sub [0] (by decide) rfl
          exact W.iret (v := v5_j1104) hx hb hr (kWi_ret (u := (bl, z0_0_j1104)) (w1 := fun (u : Nat × (Nat → Int32)) => [(h0, .inl (cB, (u.1), .inl (u.2)))]) (by exact hv) hP hD hS) hS.2.2 dJ6_getChars_ba4f3_120
        · have hv := hv.2 hc
          refine lv_aload_n hx hb dJ6_getChars_ba4f3_109 rfl (lv_at hl 2 rfl) ?_
          refine lv_iinc (v := (v5_j1104 + (-1 : Int32))) (lv' := [(5, .int (v5_j1104 + (-1 : Int32))), (0, .int v0_2022x), (1, .int a1), (2, .ref h0), (6, .int s0_j12)]) hx hb dJ6_getChars_ba4f3_110 hl (k := 3) rfl rfl (by decide) rfl (fun ls hl => ?_)
          refine lv_iload hx hb dJ6_getChars_ba4f3_113 (lv_at hl 0 rfl) ?_
          refine lv_bipush (v := (45 : Int32)) hx hb dJ6_getChars_ba4f3_115 (by decide) ?_
          obtain ⟨hq, hv⟩ := hv
          refine va_bast hx hb hK hP hD hS 0 1 rfl rfl hq dJ6_getChars_ba4f3_117 (fun H locs hP hD hS => ?_)
          have hP : va_P D vwCl [(h0, .inl (cB, bl, .inl (upd z0_0_j1104 (v5_j1104 + (-1 : Int32)).toNatClampNeg (vp_nar .byte (45 : Int32)))))] H := hP
          have hD : va_D A [(h0, .inl (cB, bl, .inl (upd z0_0_j1104 (v5_j1104 + (-1 : Int32)).toNatClampNeg (vp_nar .byte (45 : Int32)))))] := hD
          refine lv_iload hx hb dJ6_getChars_ba4f3_118 (lv_at hl 0 rfl) ?_
          refine W.widen (k := 0) (n := 0) (Nat.le_of_ble_eq_true rfl) (Nat.le_of_ble_eq_true rfl) ?_
          have hP : va_P D vwCl [(h0, .inl (cB, bl, .inl (upd z0_0_j1104 (v5_j1104 + (-1 : Int32)).toNatClampNeg (vp_nar .byte (45 : Int32)))))] _ := hP.sub [0] rfl
          have hD : va_D A [(h0, .inl (cB, bl, .inl (upd z0_0_j1104 (v5_j1104 + (-1 : Int32)).toNatClampNeg (vp_nar .byte (45 : Int32)))))] := hD.sub [0] (by decide) rfl
          exact W.iret (v := (v5_j1104 + (-1 : Int32))) hx hb hr (kWi_ret (u := (bl, (upd z0_0_j1104 (v5_j1104 + (-1 : Int32)).toNatClampNeg (vp_nar .byte (45 : Int32))))) (w1 := fun (u : Nat × (Nat → Int32)) => [(h0, .inl (cB, (u.1), .inl (u.2)))]) (by exact hv) hP hD hS) hS.2.2 dJ6_getChars_ba4f3_120
      refine lv_icmp_ge (tgt := 104) hx hb dJ6_getChars_ba4f3_88 (by decide) (fun hc => ?_) (fun hc => ?_)
      · have hv := hv.1 hc
        refine W.widen (k := 0) (n := 0) (Nat.le_of_ble_eq_true rfl) (Nat.le_of_ble_eq_true rfl) ?_
        exact J1104 _ _ _ _ _ hP hD hS hv (lv_sub hl [1, 2, 3, 0, 4] rfl)
      · have hv := hv.2 hc
        refine lv_aload_n hx hb dJ6_getChars_ba4f3_91 rfl (lv_at hl 3 rfl) ?_
        refine lv_iinc (v := ((v5_2022x + (-1 : Int32)) + (-1 : Int32))) (lv' := [(5, .int ((v5_2022x + (-1 : Int32)) + (-1 : Int32))), (0, .int v0_2022x), (1, .int a1), (2, .ref h0), (6, .int s0_j12)]) hx hb dJ6_getChars_ba4f3_92 hl (k := 0) rfl rfl (by decide) rfl (fun ls hl => ?_)
        refine lv_iload hx hb dJ6_getChars_ba4f3_95 (lv_at hl 0 rfl) ?_
        obtain ⟨tT, hztT, httT⟩ := hSt.2.2.1
        refine va_gets (C := "java/lang/Integer") (n := "DigitTens") (d := "[B") (v := .ref tT) hx hb hztT hS hown hF87 (fun _ h9 => h9) dJ6_getChars_ba4f3_97 ?_
        refine lv_iload_n hx hb dJ6_getChars_ba4f3_100 rfl (lv_at hl 1 rfl) ?_
        refine lv_ineg hx hb dJ6_getChars_ba4f3_101 ?_
        obtain ⟨hq, hv⟩ := hv
        refine va_tb hx hb httT hS hq (v := .int (dT (-v0_2022x).toNatClampNeg)) rfl dJ6_getChars_ba4f3_102 ?_
        obtain ⟨hq, hv⟩ := hv
        refine va_bast hx hb hK hP hD hS 0 1 rfl rfl hq dJ6_getChars_ba4f3_103 (fun H locs hP hD hS => ?_)
        have hP : va_P D vwCl [(h0, .inl (cB, bl, .inl (upd (upd z0_0_2022x (v5_2022x + (-1 : Int32)).toNatClampNeg (vp_nar .byte (dO (-v0_2022x).toNatClampNeg))) ((v5_2022x + (-1 : Int32)) + (-1 : Int32)).toNatClampNeg (vp_nar .byte (dT (-v0_2022x).toNatClampNeg)))))] H := hP
        have hD : va_D A [(h0, .inl (cB, bl, .inl (upd (upd z0_0_2022x (v5_2022x + (-1 : Int32)).toNatClampNeg (vp_nar .byte (dO (-v0_2022x).toNatClampNeg))) ((v5_2022x + (-1 : Int32)) + (-1 : Int32)).toNatClampNeg (vp_nar .byte (dT (-v0_2022x).toNatClampNeg)))))] := hD
        refine W.widen (k := 0) (n := 0) (Nat.le_of_ble_eq_true rfl) (Nat.le_of_ble_eq_true rfl) ?_
        exact J1104 _ _ _ _ _ hP hD hS hv (lv_sub hl [1, 2, 3, 0, 4] rfl)
  refine lv_if_ge (tgt := 11) hx hb dJ6_getChars_ba4f3_4 (by decide) (fun hc => ?_) (fun hc => ?_)
  · have hv := hv.1 hc
    refine lv_iconst (v := (0 : Int32)) hx hb dJ6_getChars_ba4f3_11 (by decide) ?_
    refine W.widen (k := 0) (n := 0) (Nat.le_of_ble_eq_true rfl) (Nat.le_of_ble_eq_true rfl) ?_
    exact J12 _ _ _ _ hP hD hS hv (lv_sub hl [1, 2, 3, 0] rfl)
  · have hv := hv.2 hc
    refine lv_iconst (v := (1 : Int32)) hx hb dJ6_getChars_ba4f3_7 (by decide) ?_
    refine lv_goto (tgt := 12) hx hb dJ6_getChars_ba4f3_8 (by decide) ?_
    refine W.widen (k := 0) (n := 0) (Nat.le_of_ble_eq_true rfl) (Nat.le_of_ble_eq_true rfl) ?_
    exact J12 _ _ _ _ hP hD hS hv (lv_sub hl [1, 2, 3, 0] rfl)
set_option maxHeartbeats 4000000 in
set_option maxRecDepth 100000 in
theorem kJ5_append_c97b9W (l : Launch) (D : va_G) (cI cB : ClassId) (dO dT : Nat → Int32) (adK adV : Nat → Nat) (h0 : Nat) (h1 : Nat) (cn : Int32) (bl : Nat) (bf : Nat → Int32) (a1 : Int32) (sz : Nat) (post : Int32 → Nat → (Nat → Int32) → Prop) (hv : qJ5_append_c97b9W cn bl bf dO dT a1 post) : Met l yJ5_append_c97b9 wsJ5_append_c97b9 ({ frames := 4, cells := 1, slots := 300, locals := 91 }) (va_Pc [.ref h0, .int a1] (kBWJ D cI cB dO dT adK adV sz [(h0, .inr (1, [.ref h1, .int (0 : Int32), .int (0 : Int32), .int cn])), (h1, .inl (cB, bl, .inl bf))])) (va_Qr (fun (u : Nat × Int32 × Nat × (Nat → Int32)) => post u.2.1 u.2.2.1 u.2.2.2) (fun (u : Nat × Int32 × Nat × (Nat → Int32)) (q : Nat) (t : State) => q = h0 ∧ kE D (va_A [(h0, .inr (1, [.ref h1, .int (0 : Int32), .int (0 : Int32), .int cn])), (h1, .inl (cB, bl, .inl bf))] sz) [(h0, .inr (1, [.ref (u.1), .int (0 : Int32), .int (0 : Int32), .int (u.2.1)])), ((u.1), .inl (cB, (u.2.2.1), .inl (u.2.2.2)))] t) (va_A [(h0, .inr (1, [.ref h1, .int (0 : Int32), .int (0 : Int32), .int cn])), (h1, .inl (cB, bl, .inl bf))] sz)) 1 300 (va_A [(h0, .inr (1, [.ref h1, .int (0 : Int32), .int (0 : Int32), .int cn])), (h1, .inl (cB, bl, .inl bf))] sz) := by
  refine Met.ofW (cc := cJ5_append_c97b9) (maxL := 4) (ret := (some (.object "java/lang/AbstractStringBuilder"))) (by decide) rfl ?_
  intro p e s m args below meth c s₁ B hml hv0
  obtain ⟨rfl, ⟨hsz, ⟨hP, hK, hN⟩, hD0⟩, hSt⟩ := hv0
  have hx := B.exec
  have hb := B.bytes
  have hr := B.returns
  have hts := atoms_spec (ws := wsJ5_append_c97b9) B.pre
  have hown : s.vm.findClass RJ5 = some m.cls := findClass_of_methodNamed B.named
  have hlocks := B.notSynchronized
  have hi_J4 : ∀ w ∈ wsJ40, w ∈ wsJ5_append_c97b9 := by decide +kernel
  have hF15 := hts (.fieldLink RJ5 15 "java/lang/AbstractStringBuilder" "value" "[B") (by decide +kernel)
  have hF79 := hts (.fieldLink RJ5 79 "java/lang/AbstractStringBuilder" "count" "I") (by decide +kernel)
  subst hsz
  have hD := hD0.self (sz := s.heap.size)
  generalize hAe : va_A [(h0, .inr (1, [.ref h1, .int (0 : Int32), .int (0 : Int32), .int cn])), (h1, .inl (cB, bl, .inl bf))] s.heap.size = A at hD hSt ⊢
  have hA : ∀ q : Nat, s.heap.size ≤ q → A q := fun q h => by rw [← hAe]; exact Or.inr h
  have hS : va_S A s.heap s.heap [] := va_S.rf
  have hl := lv_entry ([.ref h0, .int a1]) (n := 4) (Nat.le_of_ble_eq_true rfl)
  rw [lg_entry_eq]
  generalize (lg_sl ([.ref h0, .int a1]) ++ List.replicate (4 - (lg_sl ([.ref h0, .int a1])).length) Slot.unset).toArray = ls at hl ⊢
  have hl : lv_has ls 4 [(0, .ref h0), (1, .int a1)] := hl
  refine lv_aload_n hx hb dJ5_append_c97b9_0 rfl (lv_at hl 0 rfl) ?_
  refine va_get (D := D) (ci := 1) (v := .int cn) (C := RJ4) (T := TJ4) (N := 4) hx hb hts hi_J4 hown hK hP 0 rfl rfl 3 (by decide) hF79 (fun _ h9 => h9) rfl dJ5_append_c97b9_1 ?_
  refine lv_istore_n (lv' := [(2, .int cn), (0, .ref h0), (1, .int a1)]) hx hb dJ5_append_c97b9_4 rfl hl (by decide) rfl (fun ls hl => ?_)
  refine lv_iload_n hx hb dJ5_append_c97b9_5 rfl (lv_at hl 0 rfl) ?_
  refine lv_iload_n hx hb dJ5_append_c97b9_6 rfl (lv_at hl 2 rfl) ?_
  refine vp_callSi (kRun_call (va_runS (As := [.int a1]) (rest := [.int cn]) ⟨hx, hb, hml, hown, hts⟩ (kJ6_stringSize_0f7a4 l D cI cB dO dT adK adV a1 _ hv) (va_cwS 1 hts gJ5_append_c97b9_J6_stringSize_0f7a4 rfl rfl rfl (by decide +kernel) ⟨Nat.le_of_ble_eq_true rfl, Nat.le_of_ble_eq_true rfl⟩) (kPreJ (As := [.int a1]) (hP.sub (ws' := []) [] rfl) hK hN hSt hS) rfl rfl hl.1 rfl (lv_room (Nat.le_of_ble_eq_true rfl)) dJ5_append_c97b9_7 ⟨Nat.le_of_ble_eq_true rfl, Nat.le_of_ble_eq_true rfl⟩)) (fun r7 hv => ?_)
  refine lv_iadd hx hb dJ5_append_c97b9_10 ?_
  refine lv_istore_n (lv' := [(3, .int (cn + r7)), (2, .int cn), (0, .ref h0), (1, .int a1)]) hx hb dJ5_append_c97b9_11 rfl hl (by decide) rfl (fun ls hl => ?_)
  refine lv_aload_n hx hb dJ5_append_c97b9_12 rfl (lv_at hl 2 rfl) ?_
  refine lv_iload_n hx hb dJ5_append_c97b9_13 rfl (lv_at hl 0 rfl) ?_
  refine kw_v (wr := []) (va_runU (As := [.int (cn + r7)]) (rest := []) ⟨hx, hb, hml, hown, hts⟩ (kJ5_ensureCapacityInternal_d00dfW l D cI cB dO dT adK adV h0 h1 cn bl bf (cn + r7) _ _ hv) (va_cwU 1 hts gJ5_append_c97b9_J5_ensureCapacityInternal_d00df_u100J4 rfl rfl rfl rfl (by decide +kernel) ⟨Nat.le_of_ble_eq_true rfl, Nat.le_of_ble_eq_true rfl⟩) ⟨(kPreWJ (As := [.ref h0, .int (cn + r7)]) (hP.sub (ws' := [(h0, .inr (1, [.ref h1, .int (0 : Int32), .int (0 : Int32), .int cn])), (h1, .inl (cB, bl, .inl bf))]) [0, 1] rfl) (hD.sub (ws' := [(h0, .inr (1, [.ref h1, .int (0 : Int32), .int (0 : Int32), .int cn])), (h1, .inl (cB, bl, .inl bf))]) [0, 1] (by decide) rfl) hK hN hSt hS (va_free (wc := [(h0, .inr (1, [.ref h1, .int (0 : Int32), .int (0 : Int32), .int cn])), (h1, .inl (cB, bl, .inl bf))]) hD hS hA [0, 1] rfl)).1, (kRecv (hP.sub (ws' := [(h0, .inr (1, [.ref h1, .int (0 : Int32), .int (0 : Int32), .int cn]))]) [0] rfl) hK 1 rfl rfl rfl), (kPreWJ (As := [.ref h0, .int (cn + r7)]) (hP.sub (ws' := [(h0, .inr (1, [.ref h1, .int (0 : Int32), .int (0 : Int32), .int cn])), (h1, .inl (cB, bl, .inl bf))]) [0, 1] rfl) (hD.sub (ws' := [(h0, .inr (1, [.ref h1, .int (0 : Int32), .int (0 : Int32), .int cn])), (h1, .inl (cB, bl, .inl bf))]) [0, 1] (by decide) rfl) hK hN hSt hS (va_free (wc := [(h0, .inr (1, [.ref h1, .int (0 : Int32), .int (0 : Int32), .int cn])), (h1, .inl (cB, bl, .inl bf))]) hD hS hA [0, 1] rfl)).2⟩ rfl rfl hl.1 rfl (lv_room (Nat.le_of_ble_eq_true rfl)) dJ5_append_c97b9_14 ⟨Nat.le_of_ble_eq_true rfl, Nat.le_of_ble_eq_true rfl⟩) hP hD hS hA [0, 1] [] rfl rfl (by decide) (by decide) (fun u H locs hv hP hD hS => ?_)
  obtain ⟨x14_uq1, x14_uv03, x14_ul1, x14_uf1⟩ := u
  have hP : va_P D vwCl [(h0, .inr (1, [.ref x14_uq1, .int (0 : Int32), .int (0 : Int32), .int x14_uv03])), (x14_uq1, .inl (cB, x14_ul1, .inl x14_uf1))] H := hP.sub [0, 1] rfl
  have hD : va_D A [(h0, .inr (1, [.ref x14_uq1, .int (0 : Int32), .int (0 : Int32), .int x14_uv03])), (x14_uq1, .inl (cB, x14_ul1, .inl x14_uf1))] := hD.sub [0, 1] (by decide) rfl
  refine W.widen (k := 1) (n := 300) (Nat.le_of_ble_eq_true rfl) (Nat.le_of_ble_eq_true rfl) ?_
  refine lv_aload_n hx hb dJ5_append_c97b9_17 rfl (lv_at hl 2 rfl) ?_
  refine vp_callSi (kRun_call (va_runU (As := []) (rest := []) ⟨hx, hb, hml, hown, hts⟩ (kJ5_isLatin1_aae02 l D cI cB dO dT adK adV h0 x14_uq1 x14_uv03 x14_ul1 x14_uf1 _ hv) (va_cwU 0 hts gJ5_append_c97b9_J5_isLatin1_aae02_u83J4 rfl rfl rfl rfl (by decide +kernel) ⟨Nat.le_of_ble_eq_true rfl, Nat.le_of_ble_eq_true rfl⟩) ⟨(kPreJ (As := [.ref h0]) (hP.sub (ws' := [(h0, .inr (1, [.ref x14_uq1, .int (0 : Int32), .int (0 : Int32), .int x14_uv03])), (x14_uq1, .inl (cB, x14_ul1, .inl x14_uf1))]) [0, 1] rfl) hK hN hSt hS).1, (kRecv (hP.sub (ws' := [(h0, .inr (1, [.ref x14_uq1, .int (0 : Int32), .int (0 : Int32), .int x14_uv03]))]) [0] rfl) hK 1 rfl rfl rfl), (kPreJ (As := [.ref h0]) (hP.sub (ws' := [(h0, .inr (1, [.ref x14_uq1, .int (0 : Int32), .int (0 : Int32), .int x14_uv03])), (x14_uq1, .inl (cB, x14_ul1, .inl x14_uf1))]) [0, 1] rfl) hK hN hSt hS).2⟩ rfl rfl hl.1 rfl (lv_room (Nat.le_of_ble_eq_true rfl)) dJ5_append_c97b9_18 ⟨Nat.le_of_ble_eq_true rfl, Nat.le_of_ble_eq_true rfl⟩)) (fun r18 hv => ?_)
  refine lv_if_eq (tgt := 37) hx hb dJ5_append_c97b9_21 (by decide) (fun hc => ?_) (fun hc => ?_)
  · have hv := hv.1 hc
    refine lv_iload_n hx hb dJ5_append_c97b9_37 rfl (lv_at hl 3 rfl) ?_
    refine lv_iload_n hx hb dJ5_append_c97b9_38 rfl (lv_at hl 1 rfl) ?_
    refine lv_iload_n hx hb dJ5_append_c97b9_39 rfl (lv_at hl 0 rfl) ?_
    refine lv_aload_n hx hb dJ5_append_c97b9_40 rfl (lv_at hl 2 rfl) ?_
    refine va_get (D := D) (ci := 1) (v := .ref x14_uq1) (C := RJ4) (T := TJ4) (N := 4) hx hb hts hi_J4 hown hK hP 0 rfl rfl 0 (by decide) hF15 (fun _ h9 => h9) rfl dJ5_append_c97b9_41 ?_
    exact hv.elim
  · have hv := hv.2 hc
    refine lv_iload_n hx hb dJ5_append_c97b9_24 rfl (lv_at hl 3 rfl) ?_
    refine lv_iload_n hx hb dJ5_append_c97b9_25 rfl (lv_at hl 0 rfl) ?_
    refine lv_aload_n hx hb dJ5_append_c97b9_26 rfl (lv_at hl 2 rfl) ?_
    refine va_get (D := D) (ci := 1) (v := .ref x14_uq1) (C := RJ4) (T := TJ4) (N := 4) hx hb hts hi_J4 hown hK hP 0 rfl rfl 0 (by decide) hF15 (fun _ h9 => h9) rfl dJ5_append_c97b9_27 ?_
    refine kw_i (wr := [(h0, .inr (1, [.ref x14_uq1, .int (0 : Int32), .int (0 : Int32), .int x14_uv03]))]) (va_runS (As := [.int a1, .int (cn + r7), .ref x14_uq1]) (rest := []) ⟨hx, hb, hml, hown, hts⟩ (kJ6_getChars_ba4f3W l D cI cB dO dT adK adV x14_uq1 x14_ul1 x14_uf1 a1 (cn + r7) _ _ hv) (va_cwS 3 hts gJ5_append_c97b9_J6_getChars_ba4f3 rfl rfl rfl (by decide +kernel) ⟨Nat.le_of_ble_eq_true rfl, Nat.le_of_ble_eq_true rfl⟩) (kPreWJ (As := [.int a1, .int (cn + r7), .ref x14_uq1]) (hP.sub (ws' := [(x14_uq1, .inl (cB, x14_ul1, .inl x14_uf1))]) [1] rfl) (hD.sub (ws' := [(x14_uq1, .inl (cB, x14_ul1, .inl x14_uf1))]) [1] (by decide) rfl) hK hN hSt hS (va_free (wc := [(x14_uq1, .inl (cB, x14_ul1, .inl x14_uf1))]) hD hS hA [1] rfl)) rfl rfl hl.1 rfl (lv_room (Nat.le_of_ble_eq_true rfl)) dJ5_append_c97b9_30 ⟨Nat.le_of_ble_eq_true rfl, Nat.le_of_ble_eq_true rfl⟩) hP hD hS hA [1] [0] rfl rfl (by decide) (by decide) (fun r30 u H locs hv hP hD hS => ?_)
    obtain ⟨x30_ul0, x30_uf0⟩ := u
    have hP : va_P D vwCl [(h0, .inr (1, [.ref x14_uq1, .int (0 : Int32), .int (0 : Int32), .int x14_uv03])), (x14_uq1, .inl (cB, x30_ul0, .inl x30_uf0))] H := hP.sub [0, 1] rfl
    have hD : va_D A [(h0, .inr (1, [.ref x14_uq1, .int (0 : Int32), .int (0 : Int32), .int x14_uv03])), (x14_uq1, .inl (cB, x30_ul0, .inl x30_uf0))] := hD.sub [0, 1] (by decide) rfl
    refine lv_pop hx hb dJ5_append_c97b9_33 rfl ?_
    refine lv_goto (tgt := 48) hx hb dJ5_append_c97b9_34 (by decide) ?_
    refine lv_aload_n hx hb dJ5_append_c97b9_48 rfl (lv_at hl 2 rfl) ?_
    refine lv_iload_n hx hb dJ5_append_c97b9_49 rfl (lv_at hl 0 rfl) ?_
    refine va_put (D := D) (ci := 1) (v := .int (cn + r7)) (ty := .int) (C := RJ4) (T := TJ4) (N := 4) hx hb hts hi_J4 tyJ4 tyJ4_ok nmJ4 hown hK hP hD hS 0 rfl rfl 3 (by decide) hF79 (fun _ h9 => h9) rfl (by decide +kernel) rfl rfl (Nat.le_of_ble_eq_true rfl) dJ5_append_c97b9_50 (fun H locs hP hD hS => ?_)
    have hP : va_P D vwCl [(h0, .inr (1, [.ref x14_uq1, .int (0 : Int32), .int (0 : Int32), .int (cn + r7)])), (x14_uq1, .inl (cB, x30_ul0, .inl x30_uf0))] H := hP
    have hD : va_D A [(h0, .inr (1, [.ref x14_uq1, .int (0 : Int32), .int (0 : Int32), .int (cn + r7)])), (x14_uq1, .inl (cB, x30_ul0, .inl x30_uf0))] := hD
    refine lv_aload_n hx hb dJ5_append_c97b9_53 rfl (lv_at hl 2 rfl) ?_
    refine W.widen (k := 1) (n := 300) (Nat.le_of_ble_eq_true rfl) (Nat.le_of_ble_eq_true rfl) ?_
    have hP : va_P D vwCl [(h0, .inr (1, [.ref x14_uq1, .int (0 : Int32), .int (0 : Int32), .int (cn + r7)])), (x14_uq1, .inl (cB, x30_ul0, .inl x30_uf0))] _ := hP.sub [0, 1] rfl
    have hD : va_D A [(h0, .inr (1, [.ref x14_uq1, .int (0 : Int32), .int (0 : Int32), .int (cn + r7)])), (x14_uq1, .inl (cB, x30_ul0, .inl x30_uf0))] := hD.sub [0, 1] (by decide) rfl
    exact W.aret (v := .ref h0) (rt := .object "java/lang/AbstractStringBuilder") hx hb hr (Or.inl ⟨_, rfl⟩) (Or.inr ⟨_, rfl⟩) (kWrt_ret (b0 := h0) (u := (x14_uq1, (cn + r7), x30_ul0, x30_uf0)) (w1 := fun (u : Nat × Int32 × Nat × (Nat → Int32)) => [(h0, .inr (1, [.ref (u.1), .int (0 : Int32), .int (0 : Int32), .int (u.2.1)])), ((u.1), .inl (cB, (u.2.2.1), .inl (u.2.2.2)))]) (by exact hv) hP hD hS) hS.2.2 dJ5_append_c97b9_54
set_option maxHeartbeats 4000000 in
set_option maxRecDepth 100000 in
theorem kJ4_append_bf812W (l : Launch) (D : va_G) (cI cB : ClassId) (dO dT : Nat → Int32) (adK adV : Nat → Nat) (h0 : Nat) (h1 : Nat) (cn : Int32) (bl : Nat) (bf : Nat → Int32) (a1 : Int32) (sz : Nat) (post : Int32 → Nat → (Nat → Int32) → Prop) (hv : qJ4_append_bf812W cn bl bf dO dT a1 post) : Met l yJ4_append_bf812 wsJ4_append_bf812 ({ frames := 5, cells := 1, slots := 300, locals := 114 }) (va_Pc [.ref h0, .int a1] (kBWJ D cI cB dO dT adK adV sz [(h0, .inr (1, [.ref h1, .int (0 : Int32), .int (0 : Int32), .int cn])), (h1, .inl (cB, bl, .inl bf))])) (va_Qr (fun (u : Nat × Int32 × Nat × (Nat → Int32)) => post u.2.1 u.2.2.1 u.2.2.2) (fun (u : Nat × Int32 × Nat × (Nat → Int32)) (q : Nat) (t : State) => q = h0 ∧ kE D (va_A [(h0, .inr (1, [.ref h1, .int (0 : Int32), .int (0 : Int32), .int cn])), (h1, .inl (cB, bl, .inl bf))] sz) [(h0, .inr (1, [.ref (u.1), .int (0 : Int32), .int (0 : Int32), .int (u.2.1)])), ((u.1), .inl (cB, (u.2.2.1), .inl (u.2.2.2)))] t) (va_A [(h0, .inr (1, [.ref h1, .int (0 : Int32), .int (0 : Int32), .int cn])), (h1, .inl (cB, bl, .inl bf))] sz)) 1 300 (va_A [(h0, .inr (1, [.ref h1, .int (0 : Int32), .int (0 : Int32), .int cn])), (h1, .inl (cB, bl, .inl bf))] sz) := by
  refine Met.ofW (cc := cJ4_append_bf812) (maxL := 2) (ret := (some (.object "java/lang/StringBuilder"))) (by decide) rfl ?_
  intro p e s m args below meth c s₁ B hml hv0
  obtain ⟨rfl, ⟨hsz, ⟨hP, hK, hN⟩, hD0⟩, hSt⟩ := hv0
  have hx := B.exec
  have hb := B.bytes
  have hr := B.returns
  have hts := atoms_spec (ws := wsJ4_append_bf812) B.pre
  have hown : s.vm.findClass RJ4 = some m.cls := findClass_of_methodNamed B.named
  have hlocks := B.notSynchronized
  subst hsz
  have hD := hD0.self (sz := s.heap.size)
  generalize hAe : va_A [(h0, .inr (1, [.ref h1, .int (0 : Int32), .int (0 : Int32), .int cn])), (h1, .inl (cB, bl, .inl bf))] s.heap.size = A at hD hSt ⊢
  have hA : ∀ q : Nat, s.heap.size ≤ q → A q := fun q h => by rw [← hAe]; exact Or.inr h
  have hS : va_S A s.heap s.heap [] := va_S.rf
  have hl := lv_entry ([.ref h0, .int a1]) (n := 2) (Nat.le_of_ble_eq_true rfl)
  rw [lg_entry_eq]
  generalize (lg_sl ([.ref h0, .int a1]) ++ List.replicate (2 - (lg_sl ([.ref h0, .int a1])).length) Slot.unset).toArray = ls at hl ⊢
  have hl : lv_has ls 2 [(0, .ref h0), (1, .int a1)] := hl
  refine lv_aload_n hx hb dJ4_append_bf812_0 rfl (lv_at hl 0 rfl) ?_
  refine lv_iload_n hx hb dJ4_append_bf812_1 rfl (lv_at hl 1 rfl) ?_
  refine kw_rt (wr := []) (va_runSU (As := [.int a1]) (rest := []) (hK.1 1 (RJ4, TJ4, 4) rfl).2 ⟨hx, hb, hml, hown, hts⟩ (kJ5_append_c97b9W l D cI cB dO dT adK adV h0 h1 cn bl bf a1 _ _ hv) (va_cwSU 1 hts gJ4_append_bf812_J5_append_c97b9_s53 rfl rfl rfl (by decide +kernel) ⟨Nat.le_of_ble_eq_true rfl, Nat.le_of_ble_eq_true rfl⟩) ⟨(kPreWJ (As := [.ref h0, .int a1]) (hP.sub (ws' := [(h0, .inr (1, [.ref h1, .int (0 : Int32), .int (0 : Int32), .int cn])), (h1, .inl (cB, bl, .inl bf))]) [0, 1] rfl) (hD.sub (ws' := [(h0, .inr (1, [.ref h1, .int (0 : Int32), .int (0 : Int32), .int cn])), (h1, .inl (cB, bl, .inl bf))]) [0, 1] (by decide) rfl) hK hN hSt hS (va_free (wc := [(h0, .inr (1, [.ref h1, .int (0 : Int32), .int (0 : Int32), .int cn])), (h1, .inl (cB, bl, .inl bf))]) hD hS hA [0, 1] rfl)).1, (kRecv (hP.sub (ws' := [(h0, .inr (1, [.ref h1, .int (0 : Int32), .int (0 : Int32), .int cn]))]) [0] rfl) hK 1 rfl rfl rfl), (kPreWJ (As := [.ref h0, .int a1]) (hP.sub (ws' := [(h0, .inr (1, [.ref h1, .int (0 : Int32), .int (0 : Int32), .int cn])), (h1, .inl (cB, bl, .inl bf))]) [0, 1] rfl) (hD.sub (ws' := [(h0, .inr (1, [.ref h1, .int (0 : Int32), .int (0 : Int32), .int cn])), (h1, .inl (cB, bl, .inl bf))]) [0, 1] (by decide) rfl) hK hN hSt hS (va_free (wc := [(h0, .inr (1, [.ref h1, .int (0 : Int32), .int (0 : Int32), .int cn])), (h1, .inl (cB, bl, .inl bf))]) hD hS hA [0, 1] rfl)).2⟩ rfl rfl hl.1 rfl (lv_room (Nat.le_of_ble_eq_true rfl)) dJ4_append_bf812_2 ⟨Nat.le_of_ble_eq_true rfl, Nat.le_of_ble_eq_true rfl⟩) hP hD hS hA [0, 1] [] rfl rfl (by decide) (by decide) (fun u H locs hv hP hD hS => ?_)
  obtain ⟨x2_uq1, x2_uv03, x2_ul1, x2_uf1⟩ := u
  have hP : va_P D vwCl [(h0, .inr (1, [.ref x2_uq1, .int (0 : Int32), .int (0 : Int32), .int x2_uv03])), (x2_uq1, .inl (cB, x2_ul1, .inl x2_uf1))] H := hP.sub [0, 1] rfl
  have hD : va_D A [(h0, .inr (1, [.ref x2_uq1, .int (0 : Int32), .int (0 : Int32), .int x2_uv03])), (x2_uq1, .inl (cB, x2_ul1, .inl x2_uf1))] := hD.sub [0, 1] (by decide) rfl
  refine W.widen (k := 1) (n := 300) (Nat.le_of_ble_eq_true rfl) (Nat.le_of_ble_eq_true rfl) ?_
  refine lv_pop hx hb dJ4_append_bf812_5 rfl ?_
  refine lv_aload_n hx hb dJ4_append_bf812_6 rfl (lv_at hl 0 rfl) ?_
  refine W.widen (k := 1) (n := 300) (Nat.le_of_ble_eq_true rfl) (Nat.le_of_ble_eq_true rfl) ?_
  have hP : va_P D vwCl [(h0, .inr (1, [.ref x2_uq1, .int (0 : Int32), .int (0 : Int32), .int x2_uv03])), (x2_uq1, .inl (cB, x2_ul1, .inl x2_uf1))] _ := hP.sub [0, 1] rfl
  have hD : va_D A [(h0, .inr (1, [.ref x2_uq1, .int (0 : Int32), .int (0 : Int32), .int x2_uv03])), (x2_uq1, .inl (cB, x2_ul1, .inl x2_uf1))] := hD.sub [0, 1] (by decide) rfl
  exact W.aret (v := .ref h0) (rt := .object "java/lang/StringBuilder") hx hb hr (Or.inl ⟨_, rfl⟩) (Or.inr ⟨_, rfl⟩) (kWrt_ret (b0 := h0) (u := (x2_uq1, x2_uv03, x2_ul1, x2_uf1)) (w1 := fun (u : Nat × Int32 × Nat × (Nat → Int32)) => [(h0, .inr (1, [.ref (u.1), .int (0 : Int32), .int (0 : Int32), .int (u.2.1)])), ((u.1), .inl (cB, (u.2.2.1), .inl (u.2.2.2)))]) (by exact hv) hP hD hS) hS.2.2 dJ4_append_bf812_7
