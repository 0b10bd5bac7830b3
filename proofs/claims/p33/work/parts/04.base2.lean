/-! Writers and throwers: their worlds, calls, the throws of the class. -/
abbrev kIA : String := "java/lang/IllegalArgumentException"
abbrev kIO : String := "java/lang/IndexOutOfBoundsException"
abbrev kNm : List String := ["java/lang/RuntimeException", "java/lang/Exception"]
/-- what a writer finds -/
def kBW (D : va_G) (cI cB : ClassId) (sz : Nat) (ws : va_W) (U : State) : Prop := U.heap.size = sz ∧ kB D cI cB ws U ∧ va_D (fun _ => True) ws
/-- what a writer leaves -/
def kE (D : va_G) (A : Nat → Prop) (ws : va_W) (t : State) : Prop := va_P D vwCl ws t.heap ∧ va_D A ws
theorem kBW_blind {D : va_G} {cI cB : ClassId} {sz : Nat} {ws : va_W} {av : List Value} : FrameBlind (va_Pc av (kBW D cI cB sz ws)) := fun a U g mk q =>
  ⟨q.1, q.2.1, ⟨q.2.2.1.1, va_K.moved (u := U) (U := U.calling g mk a) (Vm.Alike.refl U.vm) q.2.2.1.2.1, kN_blind q.2.2.1.2.2⟩, q.2.2.2⟩
/-- words on the tables that a throw needs beside the good ones -/
def kXl : List Cond := [.castable kIA kIA, .castable kIO kIO, .declares (Bundle.initS "java/lang/RuntimeException"), .declares (Bundle.initS "java/lang/Exception"), .declares (Bundle.initS "java/lang/Throwable")]
theorem kXl_tab : ∀ w ∈ kXl, w.onTables = true := by decide +kernel
theorem kXl_ia : ∀ w ∈ (vx_atS RX1 230 kIA kNm).filter (fun w => !goodWord w), w ∈ kXl := by decide +kernel
theorem kXl_io : ∀ w ∈ (vx_atS RX1 223 kIO kNm).filter (fun w => !goodWord w), w ∈ kXl := by decide +kernel
theorem kXg_ia : ∀ w ∈ Cond.classLink RX1 226 kIA :: Cond.initialized kIA :: vx_atS RX1 230 kIA kNm, vx_ot w = true := by decide +kernel
theorem kXg_io : ∀ w ∈ Cond.classLink RX1 219 kIO :: Cond.initialized kIO :: vx_atS RX1 223 kIO kNm, vx_ot w = true := by decide +kernel
theorem kDecl_warm {x : MethodName} {s U : State} (hW : s.WarmedH U.vm) (hZ : va_Nw (.declares x) s) : va_Nw (.declares x) U := va_tabs rfl (rfl : (s.setVm U.vm).vm = U.vm) (by rw [Cond.declares_setVm hW.alike]; exact hZ)
theorem kXl_warm {s U : State} (hW : s.WarmedH U.vm) (h : ∀ w ∈ kXl, va_Nw w s) : ∀ w ∈ kXl, va_Nw w U := by
  have h0 := h _ (List.mem_of_getElem? (i := 0) rfl)
  have h1 := h _ (List.mem_of_getElem? (i := 1) rfl)
  have h2 := h _ (List.mem_of_getElem? (i := 2) rfl)
  have h3 := h _ (List.mem_of_getElem? (i := 3) rfl)
  have h4 := h _ (List.mem_of_getElem? (i := 4) rfl)
  exact List.forall_mem_cons.mpr ⟨va_Nw.warmC hW h0, List.forall_mem_cons.mpr ⟨va_Nw.warmC hW h1, List.forall_mem_cons.mpr ⟨kDecl_warm hW h2, List.forall_mem_cons.mpr ⟨kDecl_warm hW h3, List.forall_mem_cons.mpr ⟨kDecl_warm hW h4, fun _ h => absurd h List.not_mem_nil⟩⟩⟩⟩⟩
/-- what a thrower finds beside its world -/
def kX (A : Nat → Prop) (U : State) : Prop := vx_Zq Bundle.tN "UNASSIGNED_STACK" Bundle.steD A U U.heap ∧ vx_Zq Bundle.tN "SUPPRESSED_SENTINEL" Bundle.listD A U U.heap ∧
  (∃ a, vk_R RX1 228 "out of what is let" a U) ∧ (∃ a, vk_R RX1 221 "no such place" a U) ∧ ∀ w ∈ kXl, va_Nw w U
theorem kX_blind {A : Nat → Prop} {U : State} {g : JFrame} {mk : MethodId} {a : Array Value} (h : kX A U) : kX A (U.calling g mk a) :=
  ⟨vx_Zq.moved (u := U) (U := U.calling g mk a) (Vm.Alike.refl U.vm) h.1, vx_Zq.moved (u := U) (U := U.calling g mk a) (Vm.Alike.refl U.vm) h.2.1,
   h.2.2.1.elim fun x hx => ⟨x, vk_R.same (u := U) (U := U.calling g mk a) rfl hx⟩, h.2.2.2.1.elim fun x hx => ⟨x, vk_R.same (u := U) (U := U.calling g mk a) rfl hx⟩,
   fun w hw => va_Nw.same (u := U) (U := U.calling g mk a) (kXl_tab w hw) rfl (h.2.2.2.2 w hw)⟩
theorem kX_at {A B : Nat → Prop} {s U : State} {H : Heap} {locs : List Loc} (h : kX A s) (hS : va_S A s.heap H locs) (hB : ∀ q, B q → A q) (hU : U.heap = H) (hW : s.WarmedH U.vm) : kX B U :=
  ⟨by rw [hU]; exact vx_Zq.moved hW.alike ((h.1.kept hS.2.1).narrow hB), by rw [hU]; exact vx_Zq.moved hW.alike ((h.2.1.kept hS.2.1).narrow hB),
   h.2.2.1.elim fun x hx => ⟨x, vk_R.warm hW hx⟩, h.2.2.2.1.elim fun x hx => ⟨x, vk_R.warm hW hx⟩, kXl_warm hW h.2.2.2.2⟩
def kBX (D : va_G) (cI cB : ClassId) (sz : Nat) (ws : va_W) (U : State) : Prop := kBW D cI cB sz ws U ∧ kX (va_A ws sz) U
theorem kBX_blind {D : va_G} {cI cB : ClassId} {sz : Nat} {ws : va_W} {av : List Value} : FrameBlind (va_Pc av (kBX D cI cB sz ws)) := fun a U g mk q =>
  ⟨q.1, (kBW_blind a U g mk ⟨q.1, q.2.1⟩).2, kX_blind q.2.2⟩
/-- where the class's own exception leaves: its name, and the world as it was -/
abbrev kXC (D : va_G) (ws : va_W) (A : Nat → Prop) (px : String → Prop) : String → State → State → Prop := vx_X (fun _ : Unit => True) (fun E _ t => px E ∧ kE D A ws t) A
section KW
variable {p : Program} {l : Launch} {e : Env} {R : Room} {s : State} {m : MethodId} {args : Array Value} {below : List Frame} {meth : Method} {c : Code} {H H0 : Heap} {locs : List Loc} {cells slots mc ms : Nat} {Q : State → Prop}
variable {D : va_G} {cI cB : ClassId} {wc ws wr : va_W} {rest st0 As : List Value} {pc : Nat} {ls : Array Slot} {A0 : Nat → Prop} {a : Array Value} {b : Nat} {C : String}
/-- a writer's start at a call -/
theorem kPreW (hP : va_P D vwCl wc H) (hD : va_D A0 wc) (hK : va_K D vwCl (kT cI cB) s) (hN : kN s) : FrameBlind (va_Pc As (kBW D cI cB H.size wc)) ∧ ∀ U : State, U.heap = H → s.WarmedH U.vm → va_Pc As (kBW D cI cB H.size wc) As.toArray U :=
  ⟨kBW_blind, fun U hU hW => ⟨rfl, by rw [hU], ⟨by rw [hU]; exact hP, va_K.moved hW.alike hK, kN_warm hW hN⟩, hD.weaken (fun _ _ _ _ => trivial)⟩⟩
theorem kPreX (hP : va_P D vwCl wc H) (hD : va_D A0 wc) (hK : va_K D vwCl (kT cI cB) s) (hN : kN s) (hX : kX A0 s) (hS : va_S A0 s.heap H locs) (hF : ∀ q, va_A wc H.size q → A0 q) : FrameBlind (va_Pc As (kBX D cI cB H.size wc)) ∧ ∀ U : State, U.heap = H → s.WarmedH U.vm → va_Pc As (kBX D cI cB H.size wc) As.toArray U :=
  ⟨kBX_blind, fun U hU hW => ⟨rfl, ⟨by rw [hU], ⟨by rw [hU]; exact hP, va_K.moved hW.alike hK, kN_warm hW hN⟩, hD.weaken (fun _ _ _ _ => trivial)⟩, kX_at hX hS hF hU hW⟩⟩
theorem kRecv (hP : va_P D vwCl wc H) (hK : va_K D vwCl (kT cI cB) s) (ci : Nat) {q : vw_C} {fs : List Value} (hc : vwCl[ci]? = some q) (hq : q.1 = C) (he : wc[0]? = some (b, .inr (ci, fs))) : ∃ cellB : Cell, H[b]? = some cellB ∧ cellB.vm.isStatics = false ∧ s.vm.findClass C = some cellB.cls := by
  obtain ⟨cell, h1, h2, h3⟩ := va_recv hK hP hc he
  exact ⟨cell, h1, h2, hq ▸ h3⟩
theorem kw_i {S : Type} {post : Int32 → S → Prop} {w1 : S → va_W} (hr : va_Run p l e R s m args below meth c H locs cells slots mc ms (F0 m pc ls st0) rest (va_Qi post (fun u t => kE D (va_A wc H.size) (w1 u) t) (va_A wc H.size) a) (va_A wc H.size))
    (hP : va_P D vwCl ws H) (hD : va_D A0 ws) (hS : va_S A0 H0 H locs) (hA : ∀ q, H0.size ≤ q → A0 q) (isC isR : List Nat) (hC : isC.map (fun i => ws[i]?) = wc.map some) (hR : isR.map (fun i => ws[i]?) = wr.map some) (hn : va_nd isR = true) (hdis : ∀ i ∈ isR, i ∉ isC)
    (kk : ∀ (r : Int32) (u : S) (H1 : Heap) (locs1 : List Loc), post r u → va_P D vwCl (wr ++ w1 u) H1 → va_D A0 (wr ++ w1 u) → va_S A0 H0 H1 locs1 → W p l e R s m args below meth c H1 locs1 (cells + mc) (slots + ms) Q (F0 m (pc + 3) ls (.int r :: rest))) : W p l e R s m args below meth c H locs cells slots Q (F0 m pc ls st0) := by
  have hF := va_free hD hS hA isC hC
  refine va_calli hr hS (fun q _ h => hF q h) hF (fun r u t H1 locs1 ht hvm hp hB hz hk hS1 => ?_)
  obtain ⟨hP1, hD1⟩ := hB
  rw [ht] at hP1
  obtain ⟨hP2, hD2⟩ := va_join hP hD isC isR hC hR hn hdis hk hF hP1 hD1
  exact kk r u H1 locs1 hp hP2 hD2 hS1
theorem kw_l {S : Type} {post : Int64 → S → Prop} {w1 : S → va_W} (hr : va_Run p l e R s m args below meth c H locs cells slots mc ms (F0 m pc ls st0) rest (va_Ql post (fun u t => kE D (va_A wc H.size) (w1 u) t) (va_A wc H.size) a) (va_A wc H.size))
    (hP : va_P D vwCl ws H) (hD : va_D A0 ws) (hS : va_S A0 H0 H locs) (hA : ∀ q, H0.size ≤ q → A0 q) (isC isR : List Nat) (hC : isC.map (fun i => ws[i]?) = wc.map some) (hR : isR.map (fun i => ws[i]?) = wr.map some) (hn : va_nd isR = true) (hdis : ∀ i ∈ isR, i ∉ isC)
    (kk : ∀ (r : Int64) (u : S) (H1 : Heap) (locs1 : List Loc), post r u → va_P D vwCl (wr ++ w1 u) H1 → va_D A0 (wr ++ w1 u) → va_S A0 H0 H1 locs1 → W p l e R s m args below meth c H1 locs1 (cells + mc) (slots + ms) Q (F0 m (pc + 3) ls (.long r :: rest))) : W p l e R s m args below meth c H locs cells slots Q (F0 m pc ls st0) := by
  have hF := va_free hD hS hA isC hC
  refine va_calll hr hS (fun q _ h => hF q h) hF (fun r u t H1 locs1 ht hvm hp hB hz hk hS1 => ?_)
  obtain ⟨hP1, hD1⟩ := hB
  rw [ht] at hP1
  obtain ⟨hP2, hD2⟩ := va_join hP hD isC isR hC hR hn hdis hk hF hP1 hD1
  exact kk r u H1 locs1 hp hP2 hD2 hS1
theorem kw_v {S : Type} {post : S → Prop} {w1 : S → va_W} (hr : va_Run p l e R s m args below meth c H locs cells slots mc ms (F0 m pc ls st0) rest (va_Qv post (fun u t => kE D (va_A wc H.size) (w1 u) t) (va_A wc H.size) a) (va_A wc H.size))
    (hP : va_P D vwCl ws H) (hD : va_D A0 ws) (hS : va_S A0 H0 H locs) (hA : ∀ q, H0.size ≤ q → A0 q) (isC isR : List Nat) (hC : isC.map (fun i => ws[i]?) = wc.map some) (hR : isR.map (fun i => ws[i]?) = wr.map some) (hn : va_nd isR = true) (hdis : ∀ i ∈ isR, i ∉ isC)
    (kk : ∀ (u : S) (H1 : Heap) (locs1 : List Loc), post u → va_P D vwCl (wr ++ w1 u) H1 → va_D A0 (wr ++ w1 u) → va_S A0 H0 H1 locs1 → W p l e R s m args below meth c H1 locs1 (cells + mc) (slots + ms) Q (F0 m (pc + 3) ls rest)) : W p l e R s m args below meth c H locs cells slots Q (F0 m pc ls st0) := by
  have hF := va_free hD hS hA isC hC
  refine va_callv hr hS (fun q _ h => hF q h) hF (fun u t H1 locs1 ht hvm hp hB hz hk hS1 => ?_)
  obtain ⟨hP1, hD1⟩ := hB
  rw [ht] at hP1
  obtain ⟨hP2, hD2⟩ := va_join hP hD isC isR hC hR hn hdis hk hF hP1 hD1
  exact kk u H1 locs1 hp hP2 hD2 hS1
theorem kt_i {S : Type} {post : Int32 → S → Prop} {px : String → Prop} {w1 : S → va_W} (hr : vx_Run p l e R s m args below meth c H locs cells slots mc ms (F0 m pc ls st0) rest (va_Qi post (fun u t => kE D (va_A wc H.size) (w1 u) t) (va_A wc H.size) a) (kXC D wc (va_A wc H.size) px) (va_A wc H.size))
    (hP : va_P D vwCl ws H) (hD : va_D A0 ws) (hS : va_S A0 H0 H locs) (hA : ∀ q, H0.size ≤ q → A0 q) (isC isR : List Nat) (hC : isC.map (fun i => ws[i]?) = wc.map some) (hR : isR.map (fun i => ws[i]?) = wr.map some) (hn : va_nd isR = true) (hdis : ∀ i ∈ isR, i ∉ isC)
    (kx : ∀ (E : String) (ce : Cell) (q9 : Addr) (H1 : Heap) (locs1 : List Loc), px E → va_P D vwCl (wr ++ wc) H1 → va_D A0 (wr ++ wc) → va_S A0 H0 H1 locs1 → H1[q9]? = some ce → ce.vm = .none → s.vm.findClass E = some ce.cls → vx_W p l e R s m args below meth c H1 locs1 (cells + mc) (slots + ms) Q (F0 m pc ls rest) q9)
    (kk : ∀ (r : Int32) (u : S) (H1 : Heap) (locs1 : List Loc), post r u → va_P D vwCl (wr ++ w1 u) H1 → va_D A0 (wr ++ w1 u) → va_S A0 H0 H1 locs1 → W p l e R s m args below meth c H1 locs1 (cells + mc) (slots + ms) Q (F0 m (pc + 3) ls (.int r :: rest))) : W p l e R s m args below meth c H locs cells slots Q (F0 m pc ls st0) := by
  have hF := va_free hD hS hA isC hC
  refine vx_calli hr hS (fun q _ h => hF q h) hF (fun q _ h => hF q h) (fun E ce q9 u t H1 locs1 ht hvm hp hB hz hk hS1 h1 h2 h3 => ?_) (fun r u t H1 locs1 ht hvm hp hB hz hk hS1 => ?_)
  · obtain ⟨hpx, hP1, hD1⟩ := hB
    rw [ht] at hP1
    obtain ⟨hP2, hD2⟩ := va_join hP hD isC isR hC hR hn hdis hk hF hP1 hD1
    exact kx E ce q9 H1 locs1 hpx hP2 hD2 hS1 h1 h2 h3
  · obtain ⟨hP1, hD1⟩ := hB
    rw [ht] at hP1
    obtain ⟨hP2, hD2⟩ := va_join hP hD isC isR hC hR hn hdis hk hF hP1 hD1
    exact kk r u H1 locs1 hp hP2 hD2 hS1
theorem kt_v {S : Type} {post : S → Prop} {px : String → Prop} {w1 : S → va_W} (hr : vx_Run p l e R s m args below meth c H locs cells slots mc ms (F0 m pc ls st0) rest (va_Qv post (fun u t => kE D (va_A wc H.size) (w1 u) t) (va_A wc H.size) a) (kXC D wc (va_A wc H.size) px) (va_A wc H.size))
    (hP : va_P D vwCl ws H) (hD : va_D A0 ws) (hS : va_S A0 H0 H locs) (hA : ∀ q, H0.size ≤ q → A0 q) (isC isR : List Nat) (hC : isC.map (fun i => ws[i]?) = wc.map some) (hR : isR.map (fun i => ws[i]?) = wr.map some) (hn : va_nd isR = true) (hdis : ∀ i ∈ isR, i ∉ isC)
    (kx : ∀ (E : String) (ce : Cell) (q9 : Addr) (H1 : Heap) (locs1 : List Loc), px E → va_P D vwCl (wr ++ wc) H1 → va_D A0 (wr ++ wc) → va_S A0 H0 H1 locs1 → H1[q9]? = some ce → ce.vm = .none → s.vm.findClass E = some ce.cls → vx_W p l e R s m args below meth c H1 locs1 (cells + mc) (slots + ms) Q (F0 m pc ls rest) q9)
    (kk : ∀ (u : S) (H1 : Heap) (locs1 : List Loc), post u → va_P D vwCl (wr ++ w1 u) H1 → va_D A0 (wr ++ w1 u) → va_S A0 H0 H1 locs1 → W p l e R s m args below meth c H1 locs1 (cells + mc) (slots + ms) Q (F0 m (pc + 3) ls rest)) : W p l e R s m args below meth c H locs cells slots Q (F0 m pc ls st0) := by
  have hF := va_free hD hS hA isC hC
  refine vx_callv hr hS (fun q _ h => hF q h) hF (fun q _ h => hF q h) (fun E ce q9 u t H1 locs1 ht hvm hp hB hz hk hS1 h1 h2 h3 => ?_) (fun u t H1 locs1 ht hvm hp hB hz hk hS1 => ?_)
  · obtain ⟨hpx, hP1, hD1⟩ := hB
    rw [ht] at hP1
    obtain ⟨hP2, hD2⟩ := va_join hP hD isC isR hC hR hn hdis hk hF hP1 hD1
    exact kx E ce q9 H1 locs1 hpx hP2 hD2 hS1 h1 h2 h3
  · obtain ⟨hP1, hD1⟩ := hB
    rw [ht] at hP1
    obtain ⟨hP2, hD2⟩ := va_join hP hD isC isR hC hR hn hdis hk hF hP1 hD1
    exact kk u H1 locs1 hp hP2 hD2 hS1
/-- on its way out -/
theorem kx_out {E : String} {ce : Cell} {q9 : Nat} {px : String → Prop} {A : Nat → Prop} {MC MS : Nat} {Qc : Array Value → State → Outcome → State → Prop} {w0 : va_W} (hT : ∀ x ∈ c.exceptionTable.toList, False) (hlocks : meth.locks = false) (hpx : px E) (hP : va_P D vwCl w0 H) (hD : va_D A w0) (hS : va_S A s.heap H locs) (h1 : H[q9]? = some ce) (h2 : ce.vm = .none) (h3 : s.vm.findClass E = some ce.cls) (hc : cells ≤ MC) (hs : slots ≤ MS) :
    vx_W p l e R s m args below meth c H locs cells slots (vx_MQ below Qc (kXC D w0 A px) args s MC MS A) (F0 m pc ls rest) q9 :=
  vx_out (fun x hx => (hT x hx).elim) hlocks h1 h2 h3 (fun t ht hvm => ⟨(), trivial, ⟨hpx, by rw [ht]; exact hP, hD⟩, hS.F ht⟩) hS.2.2 hc hs
/-- a writer's end -/
theorem kWi_ret {S : Type} {v : Int32} {u : S} {post : Int32 → S → Prop} {w1 : S → va_W} {A : Nat → Prop} (hv : post v u) (hP : va_P D vwCl (w1 u) H) (hD : va_D A (w1 u)) (hS : va_S A s.heap H locs) : ∀ t : State, t.heap = H → s.WarmedH t.vm → va_Qi post (fun u t => kE D A (w1 u) t) A a s (.returned (some (.int v))) t :=
  fun t ht _ => ⟨⟨v, u, rfl, hv, by rw [ht]; exact hP, hD⟩, hS.F ht⟩
theorem kWl_ret {S : Type} {v : Int64} {u : S} {post : Int64 → S → Prop} {w1 : S → va_W} {A : Nat → Prop} (hv : post v u) (hP : va_P D vwCl (w1 u) H) (hD : va_D A (w1 u)) (hS : va_S A s.heap H locs) : ∀ t : State, t.heap = H → s.WarmedH t.vm → va_Ql post (fun u t => kE D A (w1 u) t) A a s (.returned (some (.long v))) t :=
  fun t ht _ => ⟨⟨v, u, rfl, hv, by rw [ht]; exact hP, hD⟩, hS.F ht⟩
theorem kWv_ret {S : Type} {u : S} {post : S → Prop} {w1 : S → va_W} {A : Nat → Prop} (hv : post u) (hP : va_P D vwCl (w1 u) H) (hD : va_D A (w1 u)) (hS : va_S A s.heap H locs) : ∀ t : State, t.heap = H → s.WarmedH t.vm → va_Qv post (fun u t => kE D A (w1 u) t) A a s (.returned none) t :=
  fun t ht _ => ⟨⟨u, rfl, hv, by rw [ht]; exact hP, hD⟩, hS.F ht⟩
end KW
/-- two int rows are of one class -/
theorem kSameI {D : va_G} {cI cB cA : ClassId} {s : State} (h1 : va_K D vwCl (kT cI cB) s) (h2 : va_K D vwCl (kT cI cB ++ [(cA, .int)]) s) : cI = cA :=
  Option.some.inj (((h1.2 0 (cI, .int) rfl).2 : s.vm.findClass _ = some cI).symm.trans ((h2.2 2 (cA, .int) rfl).2 : s.vm.findClass _ = some cA))
theorem kSameB {D : va_G} {cI cB cA : ClassId} {s : State} (h1 : va_K D vwCl (kT cI cB) s) (h2 : va_K D vwCl (kT cI cB ++ [(cA, .byte)]) s) : cB = cA :=
  Option.some.inj (((h1.2 1 (cB, .byte) rfl).2 : s.vm.findClass _ = some cB).symm.trans ((h2.2 2 (cA, .byte) rfl).2 : s.vm.findClass _ = some cA))
