/-! The law's base: its nest words, exceptions that aren't castable, the words of its wrappers. -/
def kLw (U : State) : Prop := va_Nw (.methodLinkNest RL 130 yX2_init "RoadgameLaw") U ∧ va_Nw (.fieldLinkNest RL 13 "RoadgameLaw$Out" "n" "J" "RoadgameLaw") U ∧ va_Nw (.fieldLinkNest RL 68 "RoadgameLaw$Out" "s" "Ljava/lang/String;" "RoadgameLaw") U ∧ va_Nc kIA kIO U
theorem kLw_blind {U : State} {g : JFrame} {mk : MethodId} {a : Array Value} (h : kLw U) : kLw (U.calling g mk a) :=
  ⟨h.1.same rfl rfl, h.2.1.same rfl rfl, h.2.2.1.same rfl rfl, va_Nc.moved (u := U) (U := U.calling g mk a) (Vm.Alike.refl U.vm) h.2.2.2⟩
theorem kLw_warm {s U : State} (hW : s.WarmedH U.vm) (h : kLw s) : kLw U :=
  ⟨h.1.warmM hW, h.2.1.warmF hW, h.2.2.1.warmF hW, h.2.2.2.moved hW.alike⟩
def kBL (D : va_G) (cI cB : ClassId) (sz : Nat) (ws : va_W) (U : State) : Prop := kBX D cI cB sz ws U ∧ kLw U
theorem kBL_blind {D : va_G} {cI cB : ClassId} {sz : Nat} {ws : va_W} {av : List Value} : FrameBlind (va_Pc av (kBL D cI cB sz ws)) := fun a U g mk q =>
  ⟨q.1, (kBX_blind a U g mk ⟨q.1, q.2.1⟩).2, kLw_blind q.2.2⟩
section KL
variable {p : Program} {l : Launch} {e : Env} {R : Room} {s : State} {m : MethodId} {args : Array Value} {below : List Frame} {meth : Method} {c : Code} {H H0 : Heap} {locs : List Loc} {cells slots mc ms : Nat} {Q : State → Prop}
variable {D : va_G} {cI cB : ClassId} {wc ws wr : va_W} {rest st0 As : List Value} {pc : Nat} {ls : Array Slot} {A0 : Nat → Prop} {a : Array Value}
theorem kPreL (hP : va_P D vwCl wc H) (hD : va_D A0 wc) (hK : va_K D vwCl (kT cI cB) s) (hN : kN s) (hX : kX A0 s) (hL : kLw s) (hS : va_S A0 s.heap H locs) (hF : ∀ q, va_A wc H.size q → A0 q) : FrameBlind (va_Pc As (kBL D cI cB H.size wc)) ∧ ∀ U : State, U.heap = H → s.WarmedH U.vm → va_Pc As (kBL D cI cB H.size wc) As.toArray U :=
  ⟨kBL_blind, fun U hU hW => ⟨rfl, ⟨⟨by rw [hU], ⟨by rw [hU]; exact hP, va_K.moved hW.alike hK, kN_warm hW hN⟩, hD.weaken (fun _ _ _ _ => trivial)⟩, kX_at hX hS hF hU hW⟩, kLw_warm hW hL⟩⟩
end KL
