/-! The base of all contracts: the nest words, a world's start, calls of readers. -/
/-- the words of private members of nest mates -/
def kN (U : State) : Prop := va_Nw (.fieldLinkNest RX1 23 "Roadgame$Chart" "size" "I" "Roadgame") U ∧ va_Nw (.fieldLinkNest RX1 96 "Roadgame$Chart" "second" "I" "Roadgame") U ∧ va_Nw (.fieldLinkNest RX1 63 "Roadgame$Chart" "goal" "I" "Roadgame") U ∧ va_Nw (.methodLinkNest RX0 39 yX1_has "Roadgame") U ∧ va_Nw (.methodLinkNest RX0 81 yX1_least "Roadgame") U
theorem kN_blind {U : State} {g : JFrame} {mk : MethodId} {a : Array Value} (h : kN U) : kN (U.calling g mk a) :=
  ⟨h.1.same rfl rfl, h.2.1.same rfl rfl, h.2.2.1.same rfl rfl, h.2.2.2.1.same rfl rfl, h.2.2.2.2.same rfl rfl⟩
theorem kN_warm {s U : State} (hW : s.WarmedH U.vm) (h : kN s) : kN U :=
  ⟨h.1.warmF hW, h.2.1.warmF hW, h.2.2.1.warmF hW, h.2.2.2.1.warmM hW, h.2.2.2.2.warmM hW⟩
/-- the arrays' kinds -/
abbrev kT (cI cB : ClassId) : List (ClassId × FieldType) := [(cI, .int), (cB, .byte)]
/-- what a method finds: its cells, the tables, the nest's words -/
def kB (D : va_G) (cI cB : ClassId) (ws : va_W) (U : State) : Prop := va_P D vwCl ws U.heap ∧ va_K D vwCl (kT cI cB) U ∧ kN U
theorem kB_blind {D : va_G} {cI cB : ClassId} {ws : va_W} {av : List Value} : FrameBlind (va_Pc av (kB D cI cB ws)) := fun a U g mk q =>
  ⟨q.1, q.2.1, va_K.moved (u := U) (U := U.calling g mk a) (Vm.Alike.refl U.vm) q.2.2.1, kN_blind q.2.2.2⟩
section KC
variable {p : Program} {l : Launch} {e : Env} {R : Room} {s : State} {m : MethodId} {args : Array Value} {below : List Frame} {meth : Method} {c : Code} {H : Heap} {locs : List Loc} {cells slots : Nat} {Q : State → Prop}
variable {cc bytes : ByteArray} {nL maxL index n : Nat} {own C host : String} {y : MethodName} {ret : Option FieldType} {Ts wsy : List Cond} {rm : Room} {D : va_G} {cI cB : ClassId} {wc : va_W} {b : Nat} {As rest st0 : List Value} {post : Int32 → Prop} {pc : Nat} {ls : Array Slot}
theorem kRun_call {mc ms : Nat} {g : JFrame} {Qa : State → Outcome → State → Prop} {free : Addr → Prop} (h : va_Run p l e R s m args below meth c H locs cells slots mc ms g rest Qa free) : CallRun p l e R s m args below meth c H locs cells slots mc ms g rest Qa free := by
  intro T hT X
  obtain ⟨v, st₀, t, T', L, h0, X', hL, e1, -, hq, st⟩ := h T hT X
  exact ⟨v, st₀, t, T', L, h0, X', hL, e1, hq, st⟩
/-- a reader of an object -/
theorem kc_V (S : CallFix p m c cc nL s args Ts own) (hM : Met l y wsy rm (va_Pc (.ref b :: As) (kB D cI cB wc)) (vp_Si post) 0 0 (fun _ => False)) (cw : CallW R s args own C index y bytes maxL ret wsy rm 0 0 n)
    (hP : va_P D vwCl wc H) (hK : va_K D vwCl (kT cI cB) s) (hN : kN s) (ci : Nat) {q : vw_C} {fs : List Value} (hc : vwCl[ci]? = some q) (hq : q.1 = C) (he : wc[0]? = some (b, .inr (ci, fs)))
    (hn : As.length = n) (hsize : ls.size = nL) (hst : st0 = As.reverse ++ .ref b :: rest) (hrest : (rest.map fun v => v.category).sum ≤ 8) (hdg : decode cc pc = .ok (.invokevirtual index, 3)) (hf : cells + 0 ≤ R.cells ∧ slots + 0 ≤ R.slots)
    (kk : ∀ r : Int32, post r → W p l e R s m args below meth c H locs cells slots Q (F0 m (pc + 3) ls (.int r :: rest))) : W p l e R s m args below meth c H locs cells slots Q (F0 m pc ls st0) := by
  obtain ⟨cell, h1, h2, h3⟩ := va_recv hK hP hc he
  exact vp_callSi (W.runV S hM cw ⟨kB_blind, ⟨cell, h1, h2, hq ▸ h3⟩, fun U hU hW => ⟨rfl, by rw [hU]; exact hP, va_K.moved hW.alike hK, kN_warm hW hN⟩⟩ rfl hn hsize hst (lv_room hrest) hdg hf) kk
/-- a static reader -/
theorem kc_S (S : CallFix p m c cc nL s args Ts own) (hM : Met l y wsy rm (va_Pc As (kB D cI cB wc)) (vp_Si post) 0 0 (fun _ => False)) (cw : CallB R s args own index y bytes maxL ret wsy rm 0 0 n ∧ (Cond.static y).before args s = true)
    (hP : va_P D vwCl wc H) (hK : va_K D vwCl (kT cI cB) s) (hN : kN s)
    (hn : As.length = n) (hsize : ls.size = nL) (hst : st0 = As.reverse ++ rest) (hrest : (rest.map fun v => v.category).sum ≤ 8) (hdg : decode cc pc = .ok (.invokestatic index, 3)) (hf : cells + 0 ≤ R.cells ∧ slots + 0 ≤ R.slots)
    (kk : ∀ r : Int32, post r → W p l e R s m args below meth c H locs cells slots Q (F0 m (pc + 3) ls (.int r :: rest))) : W p l e R s m args below meth c H locs cells slots Q (F0 m pc ls st0) :=
  vp_callSi (W.runS S hM cw ⟨kB_blind, fun U hU hW => ⟨rfl, by rw [hU]; exact hP, va_K.moved hW.alike hK, kN_warm hW hN⟩⟩ rfl hn hsize hst (lv_room hrest) hdg hf) kk
/-- a static reader of a nest mate -/
theorem kc_SN (S : CallFix p m c cc nL s args Ts own) (hM : Met l y wsy rm (va_Pc As (kB D cI cB wc)) (vp_Si post) 0 0 (fun _ => False)) (cw : va_CN R s args own index y host bytes maxL ret wsy rm 0 0 n ∧ (Cond.static y).before args s = true ∧ True)
    (hP : va_P D vwCl wc H) (hK : va_K D vwCl (kT cI cB) s) (hN : kN s)
    (hn : As.length = n) (hsize : ls.size = nL) (hst : st0 = As.reverse ++ rest) (hrest : (rest.map fun v => v.category).sum ≤ 8) (hdg : decode cc pc = .ok (.invokestatic index, 3)) (hf : cells + 0 ≤ R.cells ∧ slots + 0 ≤ R.slots)
    (kk : ∀ r : Int32, post r → W p l e R s m args below meth c H locs cells slots Q (F0 m (pc + 3) ls (.int r :: rest))) : W p l e R s m args below meth c H locs cells slots Q (F0 m pc ls st0) :=
  vp_callSi (kRun_call (va_runSN S hM cw ⟨kB_blind, fun U hU hW => ⟨rfl, by rw [hU]; exact hP, va_K.moved hW.alike hK, kN_warm hW hN⟩⟩ rfl hn hsize hst (lv_room hrest) hdg hf)) kk
/-- a static reader that answers a long -/
theorem kc_Sl {postl : Int64 → Prop} (S : CallFix p m c cc nL s args Ts own) (hM : Met l y wsy rm (va_Pc As (kB D cI cB wc)) (vp_Sl postl) 0 0 (fun _ => False)) (cw : CallB R s args own index y bytes maxL ret wsy rm 0 0 n ∧ (Cond.static y).before args s = true)
    (hP : va_P D vwCl wc H) (hK : va_K D vwCl (kT cI cB) s) (hN : kN s)
    (hn : As.length = n) (hsize : ls.size = nL) (hst : st0 = As.reverse ++ rest) (hrest : (rest.map fun v => v.category).sum ≤ 8) (hdg : decode cc pc = .ok (.invokestatic index, 3)) (hf : cells + 0 ≤ R.cells ∧ slots + 0 ≤ R.slots)
    (kk : ∀ r : Int64, postl r → W p l e R s m args below meth c H locs cells slots Q (F0 m (pc + 3) ls (.long r :: rest))) : W p l e R s m args below meth c H locs cells slots Q (F0 m pc ls st0) :=
  vp_callSl (W.runS S hM cw ⟨kB_blind, fun U hU hW => ⟨rfl, by rw [hU]; exact hP, va_K.moved hW.alike hK, kN_warm hW hN⟩⟩ rfl hn hsize hst (lv_room hrest) hdg hf) kk
theorem kcall_Sv {postv : Unit → Prop} {a : Array Value} (hr : CallRun p l e R s m args below meth c H locs cells slots 0 0 (F0 m pc ls st0) rest (va_Sv postv a) (fun _ => False))
    (kk : postv () → W p l e R s m args below meth c H locs cells slots Q (F0 m (pc + 3) ls rest)) : W p l e R s m args below meth c H locs cells slots Q (F0 m pc ls st0) := by
  intro T hT X
  obtain ⟨v, st₀, t, T', L, h0, X', hL, e1, ⟨hv, hp, hh⟩, st⟩ := hr T hT X
  cases hv
  obtain ⟨t2, a1, b1⟩ := kk hp T' (by rw [e1, hh, h0]) (Stand.forget X' (fun q h => (hL q h).elim))
  exact ⟨t2, st t2 a1, b1⟩
/-- readers that answer nothing -/
theorem kc_Vv {postv : Unit → Prop} (S : CallFix p m c cc nL s args Ts own) (hM : Met l y wsy rm (va_Pc (.ref b :: As) (kB D cI cB wc)) (va_Sv postv) 0 0 (fun _ => False)) (cw : CallW R s args own C index y bytes maxL ret wsy rm 0 0 n)
    (hP : va_P D vwCl wc H) (hK : va_K D vwCl (kT cI cB) s) (hN : kN s) (ci : Nat) {q : vw_C} {fs : List Value} (hc : vwCl[ci]? = some q) (hq : q.1 = C) (he : wc[0]? = some (b, .inr (ci, fs)))
    (hn : As.length = n) (hsize : ls.size = nL) (hst : st0 = As.reverse ++ .ref b :: rest) (hrest : (rest.map fun v => v.category).sum ≤ 8) (hdg : decode cc pc = .ok (.invokevirtual index, 3)) (hf : cells + 0 ≤ R.cells ∧ slots + 0 ≤ R.slots)
    (kk : postv () → W p l e R s m args below meth c H locs cells slots Q (F0 m (pc + 3) ls rest)) : W p l e R s m args below meth c H locs cells slots Q (F0 m pc ls st0) := by
  obtain ⟨cell, h1, h2, h3⟩ := va_recv hK hP hc he
  exact kcall_Sv (W.runV S hM cw ⟨kB_blind, ⟨cell, h1, h2, hq ▸ h3⟩, fun U hU hW => ⟨rfl, by rw [hU]; exact hP, va_K.moved hW.alike hK, kN_warm hW hN⟩⟩ rfl hn hsize hst (lv_room hrest) hdg hf) kk
theorem kc_Sv {postv : Unit → Prop} (S : CallFix p m c cc nL s args Ts own) (hM : Met l y wsy rm (va_Pc As (kB D cI cB wc)) (va_Sv postv) 0 0 (fun _ => False)) (cw : CallB R s args own index y bytes maxL ret wsy rm 0 0 n ∧ (Cond.static y).before args s = true)
    (hP : va_P D vwCl wc H) (hK : va_K D vwCl (kT cI cB) s) (hN : kN s)
    (hn : As.length = n) (hsize : ls.size = nL) (hst : st0 = As.reverse ++ rest) (hrest : (rest.map fun v => v.category).sum ≤ 8) (hdg : decode cc pc = .ok (.invokestatic index, 3)) (hf : cells + 0 ≤ R.cells ∧ slots + 0 ≤ R.slots)
    (kk : postv () → W p l e R s m args below meth c H locs cells slots Q (F0 m (pc + 3) ls rest)) : W p l e R s m args below meth c H locs cells slots Q (F0 m pc ls st0) :=
  kcall_Sv (W.runS S hM cw ⟨kB_blind, fun U hU hW => ⟨rfl, by rw [hU]; exact hP, va_K.moved hW.alike hK, kN_warm hW hN⟩⟩ rfl hn hsize hst (lv_room hrest) hdg hf) kk
/-- a reader whose answer is given: int, and a truth value -/
theorem kSi_ret {v : Int32} {post : Int32 → Prop} {a : Array Value} {H : Heap} (hH : H = s.heap) (hv : post v) : ∀ t : State, t.heap = H → s.WarmedH t.vm → vp_Si post a s (.returned (some (.int v))) t := fun t ht _ => ⟨v, rfl, hv, by rw [ht, hH]⟩
theorem kSl_ret {v : Int64} {post : Int64 → Prop} {a : Array Value} {H : Heap} (hH : H = s.heap) (hv : post v) : ∀ t : State, t.heap = H → s.WarmedH t.vm → vp_Sl post a s (.returned (some (.long v))) t := fun t ht _ => ⟨v, rfl, hv, by rw [ht, hH]⟩
end KC
