/-! Text: what its walks find: the JDK's statics, the digits' tables, the text constants. -/
def kSt (dO dT : Nat → Int32) (adK adV : Nat → Nat) (A : Nat → Prop) (U : State) : Prop :=
  va_Z "java/lang/String" "COMPACT_STRINGS" "Z" (.int 1) A U U.heap ∧
  (∃ t : Nat, va_Z "java/lang/Integer" "DigitOnes" "[B" (.ref t) A U U.heap ∧ va_T .byte t 100 (fun j => .int (dO j)) A U U.heap) ∧
  (∃ t : Nat, va_Z "java/lang/Integer" "DigitTens" "[B" (.ref t) A U U.heap ∧ va_T .byte t 100 (fun j => .int (dT j)) A U U.heap) ∧
  vk_S 3 [0, 1, 1] [[], [32], [45]] adK adV A U U.heap ∧ vk_R RX3 129 "" (adK 0) U ∧ vk_R RX3 137 " " (adK 1) U ∧ vk_R RX3 156 "-" (adK 2) U ∧
  va_Nw (.castable "[B" "java/lang/Cloneable") U
section ST
variable {dO dT : Nat → Int32} {adK adV : Nat → Nat} {A B : Nat → Prop}
theorem kSt_blind {U : State} {g : JFrame} {mk : MethodId} {a : Array Value} (h : kSt dO dT adK adV A U) : kSt dO dT adK adV A (U.calling g mk a) := by
  obtain ⟨h1, ⟨t2, h2, h2'⟩, ⟨t3, h3, h3'⟩, h4, h5, h6, h7, h8⟩ := h
  have hv : U.vm.Alike (U.calling g mk a).vm := Vm.Alike.refl U.vm
  exact ⟨va_Z.moved (u := U) (U := U.calling g mk a) hv h1, ⟨t2, va_Z.moved (u := U) (U := U.calling g mk a) hv h2, va_T.moved (u := U) (U := U.calling g mk a) hv h2'⟩, ⟨t3, va_Z.moved (u := U) (U := U.calling g mk a) hv h3, va_T.moved (u := U) (U := U.calling g mk a) hv h3'⟩,
    vk_S.moved (u := U) (U := U.calling g mk a) hv h4, vk_R.same (u := U) (U := U.calling g mk a) rfl h5, vk_R.same (u := U) (U := U.calling g mk a) rfl h6, vk_R.same (u := U) (U := U.calling g mk a) rfl h7, va_Nw.same (u := U) (U := U.calling g mk a) rfl rfl h8⟩
theorem kSt_at {s U : State} {H : Heap} {locs : List Loc} (h : kSt dO dT adK adV A s) (hS : va_S A s.heap H locs) (hB : ∀ q, B q → A q) (hU : U.heap = H) (hW : s.WarmedH U.vm) : kSt dO dT adK adV B U := by
  obtain ⟨h1, ⟨t2, h2, h2'⟩, ⟨t3, h3, h3'⟩, h4, h5, h6, h7, h8⟩ := h
  refine ⟨?_, ⟨t2, ?_, ?_⟩, ⟨t3, ?_, ?_⟩, ?_, vk_R.warm hW h5, vk_R.warm hW h6, vk_R.warm hW h7, va_Nw.warmC hW h8⟩
  · rw [hU]; exact va_Z.moved hW.alike ((h1.kept hS.2.1).narrow hB)
  · rw [hU]; exact va_Z.moved hW.alike ((h2.kept hS.2.1).narrow hB)
  · rw [hU]; exact va_T.moved hW.alike ((h2'.kept hS.2.1).narrow hB)
  · rw [hU]; exact va_Z.moved hW.alike ((h3.kept hS.2.1).narrow hB)
  · rw [hU]; exact va_T.moved hW.alike ((h3'.kept hS.2.1).narrow hB)
  · rw [hU]; exact vk_S.moved hW.alike ((h4.kept hS.2.1).narrow hB)
/-- a text reader's start, a text writer's -/
def kBJ (D : va_G) (cI cB : ClassId) (dO dT : Nat → Int32) (adK adV : Nat → Nat) (ws : va_W) (U : State) : Prop := kB D cI cB ws U ∧ kSt dO dT adK adV (fun _ => False) U
def kBWJ (D : va_G) (cI cB : ClassId) (dO dT : Nat → Int32) (adK adV : Nat → Nat) (sz : Nat) (ws : va_W) (U : State) : Prop := kBW D cI cB sz ws U ∧ kSt dO dT adK adV (va_A ws sz) U
def kBXJ (D : va_G) (cI cB : ClassId) (dO dT : Nat → Int32) (adK adV : Nat → Nat) (sz : Nat) (ws : va_W) (U : State) : Prop := kBX D cI cB sz ws U ∧ kSt dO dT adK adV (va_A ws sz) U
variable {D : va_G} {cI cB : ClassId} {sz : Nat} {ws wc : va_W} {av As : List Value}
theorem kBJ_blind : FrameBlind (va_Pc av (kBJ D cI cB dO dT adK adV ws)) := fun a U g mk q => ⟨q.1, (kB_blind a U g mk ⟨q.1, q.2.1⟩).2, kSt_blind q.2.2⟩
theorem kBWJ_blind : FrameBlind (va_Pc av (kBWJ D cI cB dO dT adK adV sz ws)) := fun a U g mk q => ⟨q.1, (kBW_blind a U g mk ⟨q.1, q.2.1⟩).2, kSt_blind q.2.2⟩
theorem kBXJ_blind : FrameBlind (va_Pc av (kBXJ D cI cB dO dT adK adV sz ws)) := fun a U g mk q => ⟨q.1, (kBX_blind a U g mk ⟨q.1, q.2.1⟩).2, kSt_blind q.2.2⟩
theorem kPreJ {s : State} {H : Heap} {locs : List Loc} (hP : va_P D vwCl wc H) (hK : va_K D vwCl (kT cI cB) s) (hN : kN s) (hT : kSt dO dT adK adV A s) (hS : va_S A s.heap H locs) : FrameBlind (va_Pc As (kBJ D cI cB dO dT adK adV wc)) ∧ ∀ U : State, U.heap = H → s.WarmedH U.vm → va_Pc As (kBJ D cI cB dO dT adK adV wc) As.toArray U :=
  ⟨kBJ_blind, fun U hU hW => ⟨rfl, ⟨by rw [hU]; exact hP, va_K.moved hW.alike hK, kN_warm hW hN⟩, kSt_at hT hS (fun _ h => h.elim) hU hW⟩⟩
theorem kPreWJ {s : State} {H : Heap} {locs : List Loc} {A0 : Nat → Prop} (hP : va_P D vwCl wc H) (hD : va_D A0 wc) (hK : va_K D vwCl (kT cI cB) s) (hN : kN s) (hT : kSt dO dT adK adV A0 s) (hS : va_S A0 s.heap H locs) (hF : ∀ q, va_A wc H.size q → A0 q) : FrameBlind (va_Pc As (kBWJ D cI cB dO dT adK adV H.size wc)) ∧ ∀ U : State, U.heap = H → s.WarmedH U.vm → va_Pc As (kBWJ D cI cB dO dT adK adV H.size wc) As.toArray U :=
  ⟨kBWJ_blind, fun U hU hW => ⟨rfl, ⟨by rw [hU], ⟨by rw [hU]; exact hP, va_K.moved hW.alike hK, kN_warm hW hN⟩, hD.weaken (fun _ _ _ _ => trivial)⟩, kSt_at hT hS hF hU hW⟩⟩
theorem kPreXJ {s : State} {H : Heap} {locs : List Loc} {A0 : Nat → Prop} (hP : va_P D vwCl wc H) (hD : va_D A0 wc) (hK : va_K D vwCl (kT cI cB) s) (hN : kN s) (hX : kX A0 s) (hT : kSt dO dT adK adV A0 s) (hS : va_S A0 s.heap H locs) (hF : ∀ q, va_A wc H.size q → A0 q) : FrameBlind (va_Pc As (kBXJ D cI cB dO dT adK adV H.size wc)) ∧ ∀ U : State, U.heap = H → s.WarmedH U.vm → va_Pc As (kBXJ D cI cB dO dT adK adV H.size wc) As.toArray U :=
  ⟨kBXJ_blind, fun U hU hW => ⟨rfl, ⟨⟨by rw [hU], ⟨by rw [hU]; exact hP, va_K.moved hW.alike hK, kN_warm hW hN⟩, hD.weaken (fun _ _ _ _ => trivial)⟩, kX_at hX hS hF hU hW⟩, kSt_at hT hS hF hU hW⟩⟩
end ST
/-- a reader that answers a cell -/
def kSr (post : Prop) (q : Nat) : Array Value → State → Outcome → State → Prop := fun _ st o t => o = .returned (some (.ref q)) ∧ post ∧ t.heap = st.heap
section KR
variable {p : Program} {l : Launch} {e : Env} {R : Room} {s : State} {m : MethodId} {args : Array Value} {below : List Frame} {meth : Method} {c : Code} {H H0 : Heap} {locs : List Loc} {cells slots mc ms : Nat} {Q : State → Prop}
variable {D : va_G} {cI cB : ClassId} {wc ws wr : va_W} {rest st0 As : List Value} {pc : Nat} {ls : Array Slot} {A0 : Nat → Prop} {a : Array Value}
theorem kcall_Sr {post : Prop} {q : Nat} (hr : CallRun p l e R s m args below meth c H locs cells slots 0 0 (F0 m pc ls st0) rest (kSr post q a) (fun _ => False))
    (kk : post → W p l e R s m args below meth c H locs cells slots Q (F0 m (pc + 3) ls (.ref q :: rest))) : W p l e R s m args below meth c H locs cells slots Q (F0 m pc ls st0) := by
  intro T hT X
  obtain ⟨v, st₀, t, T', L, h0, X', hL, e1, ⟨hv, hp, hh⟩, st⟩ := hr T hT X
  cases hv
  obtain ⟨t2, a1, b1⟩ := kk hp T' (by rw [e1, hh, h0]) (Stand.forget X' (fun q h => (hL q h).elim))
  exact ⟨t2, st t2 a1, b1⟩
theorem kw_r {S : Type} {post : S → Prop} {w1 : S → Nat → va_W} (hr : va_Run p l e R s m args below meth c H locs cells slots mc ms (F0 m pc ls st0) rest (va_Qr post (fun u q t => kE D (va_A wc H.size) (w1 u q) t) (va_A wc H.size) a) (va_A wc H.size))
    (hP : va_P D vwCl ws H) (hD : va_D A0 ws) (hS : va_S A0 H0 H locs) (hA : ∀ q, H0.size ≤ q → A0 q) (isC isR : List Nat) (hC : isC.map (fun i => ws[i]?) = wc.map some) (hR : isR.map (fun i => ws[i]?) = wr.map some) (hn : va_nd isR = true) (hdis : ∀ i ∈ isR, i ∉ isC)
    (kk : ∀ (u : S) (q : Nat) (H1 : Heap) (locs1 : List Loc), post u → va_P D vwCl (wr ++ w1 u q) H1 → va_D A0 (wr ++ w1 u q) → va_S A0 H0 H1 locs1 → W p l e R s m args below meth c H1 locs1 (cells + mc) (slots + ms) Q (F0 m (pc + 3) ls (.ref q :: rest))) : W p l e R s m args below meth c H locs cells slots Q (F0 m pc ls st0) := by
  have hF := va_free hD hS hA isC hC
  refine va_callr hr hS (fun q _ h => hF q h) hF (fun u q t H1 locs1 ht hvm hp hB hz hk hS1 => ?_)
  obtain ⟨hP1, hD1⟩ := hB
  rw [ht] at hP1
  obtain ⟨hP2, hD2⟩ := va_join hP hD isC isR hC hR hn hdis hk hF hP1 hD1
  exact kk u q H1 locs1 hp hP2 hD2 hS1
theorem kWr_ret {S : Type} {q : Nat} {u : S} {post : S → Prop} {w1 : S → Nat → va_W} {A : Nat → Prop} (hv : post u) (hP : va_P D vwCl (w1 u q) H) (hD : va_D A (w1 u q)) (hS : va_S A s.heap H locs) : ∀ t : State, t.heap = H → s.WarmedH t.vm → va_Qr post (fun u q t => kE D A (w1 u q) t) A a s (.returned (some (.ref q))) t :=
  fun t ht _ => ⟨⟨u, q, rfl, hv, by rw [ht]; exact hP, hD⟩, hS.F ht⟩
end KR
section KRT
variable {p : Program} {l : Launch} {e : Env} {R : Room} {s : State} {m : MethodId} {args : Array Value} {below : List Frame} {meth : Method} {c : Code} {H H0 : Heap} {locs : List Loc} {cells slots mc ms : Nat} {Q : State → Prop}
variable {D : va_G} {cI cB : ClassId} {wc ws wr : va_W} {rest st0 As : List Value} {pc : Nat} {ls : Array Slot} {A0 : Nat → Prop} {a : Array Value} {b0 : Nat}
theorem kw_rt {S : Type} {post : S → Prop} {w1 : S → va_W} (hr : va_Run p l e R s m args below meth c H locs cells slots mc ms (F0 m pc ls st0) rest (va_Qr post (fun u q t => q = b0 ∧ kE D (va_A wc H.size) (w1 u) t) (va_A wc H.size) a) (va_A wc H.size))
    (hP : va_P D vwCl ws H) (hD : va_D A0 ws) (hS : va_S A0 H0 H locs) (hA : ∀ q, H0.size ≤ q → A0 q) (isC isR : List Nat) (hC : isC.map (fun i => ws[i]?) = wc.map some) (hR : isR.map (fun i => ws[i]?) = wr.map some) (hn : va_nd isR = true) (hdis : ∀ i ∈ isR, i ∉ isC)
    (kk : ∀ (u : S) (H1 : Heap) (locs1 : List Loc), post u → va_P D vwCl (wr ++ w1 u) H1 → va_D A0 (wr ++ w1 u) → va_S A0 H0 H1 locs1 → W p l e R s m args below meth c H1 locs1 (cells + mc) (slots + ms) Q (F0 m (pc + 3) ls (.ref b0 :: rest))) : W p l e R s m args below meth c H locs cells slots Q (F0 m pc ls st0) := by
  have hF := va_free hD hS hA isC hC
  refine va_callr hr hS (fun q _ h => hF q h) hF (fun u q t H1 locs1 ht hvm hp hB hz hk hS1 => ?_)
  obtain ⟨rfl, hP1, hD1⟩ := hB
  rw [ht] at hP1
  obtain ⟨hP2, hD2⟩ := va_join hP hD isC isR hC hR hn hdis hk hF hP1 hD1
  exact kk u H1 locs1 hp hP2 hD2 hS1
theorem kWrt_ret {S : Type} {u : S} {post : S → Prop} {w1 : S → va_W} {A : Nat → Prop} (hv : post u) (hP : va_P D vwCl (w1 u) H) (hD : va_D A (w1 u)) (hS : va_S A s.heap H locs) : ∀ t : State, t.heap = H → s.WarmedH t.vm → va_Qr post (fun u q t => q = b0 ∧ kE D A (w1 u) t) A a s (.returned (some (.ref b0))) t :=
  fun t ht _ => ⟨⟨u, b0, rfl, hv, rfl, by rw [ht]; exact hP, hD⟩, hS.F ht⟩
theorem kFitB {cA : ClassId} {n : Nat} {f : Nat → Int32} (h : ∀ i : Nat, i < n → fits .byte (.int (f i)) = true) : ∀ (i : Nat) (v : Value), (vp_cell cA (n, .inl f)).slots[i]? = some v → fits .byte v = true := by
  intro i v hv
  rw [vp_cell_i] at hv
  have hi : i < n := by
    rcases Nat.lt_or_ge i n with q | q
    · exact q
    · rw [Array.getElem?_eq_none (by rw [arrV_size]; exact q)] at hv; cases hv
  rw [arrV_read _ _ hi] at hv
  cases hv
  exact h i hi
end KRT
