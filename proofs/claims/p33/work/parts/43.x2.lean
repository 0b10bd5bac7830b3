def qX2_initW (zn : Int64) (post : Int64 → Prop) : Prop := post zn
def qX3_thrown (oth : Int32) (post : Int32 → Prop) : Prop := post oth
/-! the constructor of the law's own class, by program -/
set_option maxHeartbeats 4000000 in
set_option maxRecDepth 100000 in
theorem kX2_initW (l : Launch) (D : va_G) (cI cB : ClassId) (h0 : Nat) (zn : Int64)  (sz : Nat) (post : Int64 → Prop) (hv : qX2_initW zn post) : Met l yX2_init wsX2_init ({ frames := 1, cells := 0, slots := 0, locals := 12 }) (va_Pc [.ref h0] (kBW D cI cB sz [(h0, .inr (4, [.long zn, .null]))])) (va_Qv (fun (u : Int64) => post u) (fun (u : Int64) (t : State) => kE D (va_A [(h0, .inr (4, [.long zn, .null]))] sz) [(h0, .inr (4, [.long (u), .null]))] t) (va_A [(h0, .inr (4, [.long zn, .null]))] sz)) 0 0 (va_A [(h0, .inr (4, [.long zn, .null]))] sz) := by
  refine Met.ofW (cc := cX2_init) (maxL := 1) (ret := none) (by decide) rfl ?_
  intro p e s m args below meth c s₁ B hml hv0
  obtain ⟨rfl, hsz, ⟨hP, hK, hN⟩, hD0⟩ := hv0
  have hx := B.exec
  have hb := B.bytes
  have hr := B.returns
  have hts := atoms_spec (ws := wsX2_init) B.pre
  have hown : s.vm.findClass RX2 = some m.cls := findClass_of_methodNamed B.named
  have hlocks := B.notSynchronized
  have hin : meth.name = "<init>" := (name_of_methodNamed B.named B.method).1
  subst hsz
  have hD := hD0.self (sz := s.heap.size)
  generalize hAe : va_A [(h0, .inr (4, [.long zn, .null]))] s.heap.size = A at hD ⊢
  have hA : ∀ q : Nat, s.heap.size ≤ q → A q := fun q h => by rw [← hAe]; exact Or.inr h
  have hS : va_S A s.heap s.heap [] := va_S.rf
  have hl := lv_entry ([.ref h0]) (n := 1) (Nat.le_of_ble_eq_true rfl)
  rw [lg_entry_eq]
  generalize (lg_sl ([.ref h0]) ++ List.replicate (1 - (lg_sl ([.ref h0])).length) Slot.unset).toArray = ls at hl ⊢
  have hl : lv_has ls 1 [(0, .ref h0)] := hl
  refine lv_aload_n hx hb dX2_init_0 rfl (lv_at hl 0 rfl) ?_
  refine W.objInit hx hb hown (hts (.methodLink RX2 1 objectInit) (by decide +kernel)) (hts (.instanceMethod objectInit) (by decide +kernel)) (hts (.code objectInit ⟨#[0xb1]⟩ 1 none) (by decide +kernel)) rfl (by rw [hml]; exact hl.1) rfl dX2_init_1 (Nat.le_of_ble_eq_true rfl) (Nat.le_of_ble_eq_true rfl) ?_
  refine W.eq (g2 := F0 m 4 ls _) rfl ?_
  refine W.widen (k := 0) (n := 0) (Nat.le_of_ble_eq_true rfl) (Nat.le_of_ble_eq_true rfl) ?_
  have hP : va_P D vwCl [(h0, .inr (4, [.long zn, .null]))] _ := hP.sub [0] rfl
  have hD : va_D A [(h0, .inr (4, [.long zn, .null]))] := hD.sub [0] (by decide) rfl
  exact W.vret hx hb hr (kWv_ret (u := zn) (w1 := fun (u : Int64) => [(h0, .inr (4, [.long (u), .null]))]) (by exact hv) hP hD hS) hS.2.2 dX2_init_4
set_option maxHeartbeats 4000000 in
set_option maxRecDepth 100000 in
theorem kX3_thrown (l : Launch) (D : va_G) (cI cB : ClassId) (h0 : Nat) (h1 : Nat) (h2 : Nat) (on : Int32) (oo : Int32) (og : Int32) (orl : Nat) (ork : Nat → Int32) (owl : Nat) (oww : Nat → Int32) (ost : Int32) (ord : Int32) (oac : Int32) (ore : Int32) (okn : Int32) (oth : Int32)  (post : Int32 → Prop) (hv : qX3_thrown oth post) : Met l yX3_thrown wsX3_thrown ({ frames := 0, cells := 0, slots := 0, locals := 0 }) (va_Pc [.ref h0] (kB D cI cB [(h0, .inr (5, [.int on, .int oo, .int og, .ref h1, .ref h2, .int ost, .int ord, .int oac, .int ore, .int okn, .int oth])), (h1, .inl (cI, orl, .inl ork)), (h2, .inl (cI, owl, .inl oww))])) (vp_Si post) 0 0 (fun _ => False) := by
  refine Met.ofW (cc := cX3_thrown) (maxL := 1) (ret := (some .int)) (by decide) rfl ?_
  intro p e s m args below meth c s₁ B hml hv0
  obtain ⟨rfl, hP, hK, hN⟩ := hv0
  have hx := B.exec
  have hb := B.bytes
  have hr := B.returns
  have hts := atoms_spec (ws := wsX3_thrown) B.pre
  have hown : s.vm.findClass RX3 = some m.cls := findClass_of_methodNamed B.named
  have hlocks := B.notSynchronized
  have hi_X3 : ∀ w ∈ wsX30, w ∈ wsX3_thrown := by decide +kernel
  have hF13 := hts (.fieldLink RX3 13 "RoadgameModel" "thrown" "I") (by decide +kernel)
  have hl := lv_entry ([.ref h0]) (n := 1) (Nat.le_of_ble_eq_true rfl)
  rw [lg_entry_eq]
  generalize (lg_sl ([.ref h0]) ++ List.replicate (1 - (lg_sl ([.ref h0])).length) Slot.unset).toArray = ls at hl ⊢
  have hl : lv_has ls 1 [(0, .ref h0)] := hl
  refine lv_aload_n hx hb dX3_thrown_0 rfl (lv_at hl 0 rfl) ?_
  refine va_get (D := D) (ci := 5) (v := .int oth) (C := RX3) (T := TX3) (N := 11) hx hb hts hi_X3 hown hK hP 0 rfl rfl 10 (by decide) hF13 (fun _ h9 => h9) rfl dX3_thrown_1 ?_
  exact W.iret (v := oth) hx hb hr (kSi_ret rfl hv) (fun _ h => by cases h) dX3_thrown_4
