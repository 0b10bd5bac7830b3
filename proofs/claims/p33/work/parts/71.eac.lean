/-! The class's acts, exactly. -/
theorem fX0_clearE_27 {K : Int32 → (Nat → Int32) → Prop} (hK : ∀ a f, (∀ p, p < 12 → f p = 0) → K a f) : ∀ (d p : Nat) (z : Nat → Int32), p + d = 12 → (∀ q, q < p → z q = 0) → qX0_clear_W27 K (d + 1) (nI p) z
  | 0, p, z, hp, hz => by
    have : p = 12 := by omega
    subst this
    exact ⟨fun _ => hK _ _ hz, fun hc => absurd (nI_le (Nat.le_refl 12) (by omega)) hc⟩
  | d + 1, p, z, hp, hz => by
    have ih := fun (z : Nat → Int32) hz => fX0_clearE_27 hK d (p + 1) z (by omega) hz
    simp only [← nI_1] at ih
    refine ⟨fun hc => absurd hc (nI_ge (b := 12) (by omega) (by decide)), fun _ => ⟨vp_in_nI (by omega) (by omega), ih _ (fun q hq => ?_)⟩⟩
    rw [nI_clamp (by omega)]
    by_cases e : q = p
    · rw [e, upd_eq]
    · rw [upd_ne e]; exact hz q (by omega)
theorem fX0_clearE {f : Nat → Int32} {x : Int32} {post : Int32 → Int32 → Int32 → Int32 → Int32 → (Nat → Int32) → Prop} (h : ∀ g, (∀ p, p < 12 → g p = 0) → post x 0 0 0 0 g) : qX0_clearW f x post :=
  ⟨13, fX0_clearE_27 (fun _ g hg => h g hg) 12 0 _ rfl (fun q hq => by omega)⟩
theorem fX0_copyE_47 {f : Nat → Int32} {K : Int32 → (Nat → Int32) → Prop} (hK : ∀ a g, (∀ p, p < 12 → g p = f p) → K a g) : ∀ (d p : Nat) (z : Nat → Int32), p + d = 12 → (∀ q, q < p → z q = f q) → qX0_copyFrom_W47 f K (d + 1) (nI p) z
  | 0, p, z, hp, hz => by
    have : p = 12 := by omega
    subst this
    exact ⟨fun _ => hK _ _ hz, fun hc => absurd (nI_le (Nat.le_refl 12) (by omega)) hc⟩
  | d + 1, p, z, hp, hz => by
    have ih := fun (z : Nat → Int32) hz => fX0_copyE_47 hK d (p + 1) z (by omega) hz
    simp only [← nI_1] at ih
    refine ⟨fun hc => absurd hc (nI_ge (b := 12) (by omega) (by decide)), fun _ => fX0_waysFrom (by omega) ⟨vp_in_nI (by omega) (by omega), ih _ (fun q hq => ?_)⟩⟩
    rw [nI_clamp (by omega)]
    by_cases e : q = p
    · rw [e, upd_eq]
    · rw [upd_ne e]; exact hz q (by omega)
theorem fX0_copyE {f g : Nat → Int32} {x b c d e : Int32} {post : Int32 → Int32 → Int32 → Int32 → Int32 → (Nat → Int32) → Prop} (h : ∀ z, (∀ p, p < 12 → z p = g p) → post x b c d e z) : qX0_copyFromW f g x b c d e post :=
  ⟨13, fX0_copyE_47 (fun _ z hz => h z hz) 12 0 _ rfl (fun q hq => by omega)⟩
theorem fX0_setWaysE {f : Nat → Int32} {p : Nat} {y : Int32} {post : (Nat → Int32) → Prop} (hp : p < 12) (h : post (upd f p y)) : qX0_setWaysW f (nI p) y post :=
  ⟨fun hc => absurd hc (nI_pos (by omega)), fun _ => ⟨fun hc => absurd hc (nI_ge (b := 12) hp (by decide)), fun _ => ⟨vp_in_nI hp (by decide), by rw [nI_clamp (by omega)]; exact h⟩⟩⟩
theorem fX0_putE {f : Nat → Int32} {p : Nat} {y : Int32} {post : (Nat → Int32) → Prop} (hp : p < 12) (h : post (upd f p (f p ||| ((1 : Int32) <<< (y &&& (31 : Int32)))))) : qX0_putWayW f (nI p) y post := fX0_waysFrom hp (fX0_setWaysE hp h)
theorem fX0_takeE {f : Nat → Int32} {p : Nat} {y : Int32} {post : (Nat → Int32) → Prop} (hp : p < 12) (h : post (upd f p (f p &&& (((1 : Int32) <<< (y &&& (31 : Int32))) ^^^ (-1 : Int32))))) : qX0_takeWayW f (nI p) y post := fX0_waysFrom hp (fX0_setWaysE hp h)
/-! ranks -/
def rkR (N : Nat) (k0 k1 : Int32) (rk : Nat → Int32) : Prop := ∀ p, p < N → rk p = (if bt k0 p = true then 0 else if bt k1 p = true then 1 else 2) ∧ ¬ (bt k0 p = true ∧ bt k1 p = true)
def rk0 (k0 y a : Int32) : Int32 := if a = 0 then k0 ||| ((1 : Int32) <<< (y &&& (31 : Int32))) else k0 &&& (((1 : Int32) <<< (y &&& (31 : Int32))) ^^^ (-1 : Int32))
def rk1 (k1 y a : Int32) : Int32 := if a = 1 then k1 ||| ((1 : Int32) <<< (y &&& (31 : Int32))) else k1 &&& (((1 : Int32) <<< (y &&& (31 : Int32))) ^^^ (-1 : Int32))
theorem rk0_0 (k y : Int32) : rk0 k y 0 = k ||| ((1 : Int32) <<< (y &&& (31 : Int32))) := if_pos rfl
theorem rk0_1 (k y : Int32) : rk0 k y 1 = k &&& (((1 : Int32) <<< (y &&& (31 : Int32))) ^^^ (-1 : Int32)) := if_neg (by decide)
theorem rk0_2 (k y : Int32) : rk0 k y 2 = k &&& (((1 : Int32) <<< (y &&& (31 : Int32))) ^^^ (-1 : Int32)) := if_neg (by decide)
theorem rk1_0 (k y : Int32) : rk1 k y 0 = k &&& (((1 : Int32) <<< (y &&& (31 : Int32))) ^^^ (-1 : Int32)) := if_neg (by decide)
theorem rk1_1 (k y : Int32) : rk1 k y 1 = k ||| ((1 : Int32) <<< (y &&& (31 : Int32))) := if_pos rfl
theorem rk1_2 (k y : Int32) : rk1 k y 2 = k &&& (((1 : Int32) <<< (y &&& (31 : Int32))) ^^^ (-1 : Int32)) := if_neg (by decide)
theorem fX0_setRankE {k0 k1 y a : Int32} {post : Int32 → Int32 → Prop} (h : post (rk0 k0 y a) (rk1 k1 y a)) : qX0_setRankW k0 k1 y a post := by
  unfold rk0 rk1 at h
  refine ⟨fun ha => ⟨fun hb => ?_, fun hb => ?_⟩, fun ha => ⟨fun hb => ?_, fun hb => ?_⟩⟩
  · rw [if_neg ha, if_neg hb] at h; exact h
  · rw [if_neg ha, if_pos hb] at h; exact h
  · rw [if_pos ha, if_neg hb] at h; exact h
  · rw [if_pos ha, if_pos hb] at h; exact h
theorem fX0_rankOfE {N p : Nat} {k0 k1 : Int32} {rk : Nat → Int32} {post : Int32 → Prop} (hN : N < 13) (hp : p < N) (hr : rkR N k0 k1 rk) (h : post (rk p)) : qX0_rankOf k0 k1 (nI p) post := by
  rw [(hr p hp).1] at h
  refine fX1_has (by omega) (fun h0 => ⟨fun _ => fX1_has (by omega) (fun h1 => ⟨fun _ => ?_, fun e => absurd rfl e⟩) (fun h1 => ⟨fun e => absurd e (by decide), fun _ => ?_⟩), fun e => absurd rfl e⟩) (fun h0 => ⟨fun e => absurd e (by decide), fun _ => ?_⟩)
  · rw [if_neg (by rw [h0]; decide), if_neg (by rw [h1]; decide)] at h; exact h
  · rw [if_neg (by rw [h0]; decide), if_pos h1] at h; exact h
  · rw [if_pos h0] at h; exact h
theorem bt_bit {p q : Nat} (hp : p < 32) (hq : q < 32) : bt ((1 : Int32) <<< (nI p &&& (31 : Int32))) q = decide (q = p) := bt_sBit hp hq
theorem bt_put (x : Int32) {p q : Nat} (hp : p < 32) (hq : q < 32) : bt (x ||| ((1 : Int32) <<< (nI p &&& (31 : Int32)))) q = if q = p then true else bt x q := by
  rw [b_or, bt_bit hp hq]
  by_cases e : q = p <;> simp [e]
theorem bt_take (x : Int32) {p q : Nat} (hp : p < 32) (hq : q < 32) : bt (x &&& (((1 : Int32) <<< (nI p &&& (31 : Int32))) ^^^ (-1 : Int32))) q = if q = p then false else bt x q := by
  rw [b_and, bt_not _ hq, bt_bit hp hq]
  by_cases e : q = p <;> simp [e]
theorem rkR_set {N p : Nat} {k0 k1 a : Int32} {rk : Nat → Int32} (hN : N < 13) (hp : p < N) (hr : rkR N k0 k1 rk) (ha : a = 0 ∨ a = 1 ∨ a = 2) : rkR N (rk0 k0 (nI p) a) (rk1 k1 (nI p) a) (upd rk p a) := by
  intro q hq
  obtain ⟨h1, h2⟩ := hr q hq
  rcases ha with rfl | rfl | rfl
  · rw [rk0_0, rk1_0, bt_put _ (by omega) (by omega), bt_take _ (by omega) (by omega)]
    by_cases e : q = p
    · subst e; rw [upd_eq]; simp
    · rw [upd_ne e]; simp [e]; exact ⟨h1, fun k => by simpa [k] using h2⟩
  · rw [rk0_1, rk1_1, bt_put _ (by omega) (by omega), bt_take _ (by omega) (by omega)]
    by_cases e : q = p
    · subst e; rw [upd_eq]; simp
    · rw [upd_ne e]; simp [e]; exact ⟨h1, fun k => by simpa [k] using h2⟩
  · rw [rk0_2, rk1_2, bt_take _ (by omega) (by omega), bt_take _ (by omega) (by omega)]
    by_cases e : q = p
    · subst e; rw [upd_eq]; simp
    · rw [upd_ne e]; simp [e]; exact ⟨h1, fun k => by simpa [k] using h2⟩
/-! places, give, rank, goal -/
theorem aN_places {mf : Nat → Int32} {mz ms mg m0 m1 xst xgo xdo a1 : Int32} {zn : Int64} {post : Int32 → Int32 → Int32 → Int32 → Int32 → Int32 → Int32 → Int32 → Int32 → (Nat → Int32) → Int64 → Prop} (c : ¬ kBt a1 2 12) (h : post 1 xst xgo xdo mz ms mg m0 m1 mf zn) : qL_places mf mz ms mg m0 m1 xst xgo xdo zn a1 post :=
  uL_places (uX1_placesT (fCkB (fun _ => ⟨rfl, h⟩) (fun k => absurd k c)))
theorem aE_places {mf : Nat → Int32} {mz ms mg m0 m1 xst xgo xdo a1 : Int32} {zn : Int64} {post : Int32 → Int32 → Int32 → Int32 → Int32 → Int32 → Int32 → Int32 → Int32 → (Nat → Int32) → Int64 → Prop} (c : kBt a1 2 12) (h : ∀ f, (∀ p, p < 12 → f p = 0) → post 0 0 0 (xdo + 1) a1 0 0 0 0 f mz.toInt64) : qL_places mf mz ms mg m0 m1 xst xgo xdo zn a1 post :=
  uL_places (uX1_placesT (fCkB (fun k => absurd c k) (fun _ => fX0_clearE (fun g hg => h g hg))))
theorem aP_give {N : Nat} {ms xdo a1 a2 : Int32} {zn : Int64} {post : Int32 → Int32 → Int32 → Int64 → Prop} (hN : N < 13) (c : ¬ isPl N a1) (h : post 1 xdo ms zn) : qL_give (nI N) ms xdo zn a1 a2 post :=
  uL_give (uX1_giveT (fCkP hN (fun _ => Or.inl ⟨rfl, h⟩) (fun k => absurd k c)))
theorem aN_give {N : Nat} {ms xdo a1 a2 : Int32} {zn : Int64} {post : Int32 → Int32 → Int32 → Int64 → Prop} (hN : N < 13) (c : isPl N a1) (c2 : ¬ kSd a2) (h : post 2 xdo ms zn) : qL_give (nI N) ms xdo zn a1 a2 post :=
  uL_give (uX1_giveT (fCkP hN (fun k => absurd c k) (fun _ => fCkS (fun _ => Or.inr ⟨rfl, h⟩) (fun k => absurd k c2))))
theorem aE_give {N : Nat} {ms xdo a1 a2 : Int32} {zn : Int64} {post : Int32 → Int32 → Int32 → Int64 → Prop} (hN : N < 13) (c : isPl N a1) (c2 : kSd a2) (h : post 0 (xdo + 1) ((ms &&& (((1 : Int32) <<< (a1 &&& (31 : Int32))) ^^^ (-1 : Int32))) ||| (a2 <<< (a1 &&& (31 : Int32)))) ((ms >>> (a1 &&& (31 : Int32))) &&& (1 : Int32)).toInt64) : qL_give (nI N) ms xdo zn a1 a2 post :=
  uL_give (uX1_giveT (fCkP hN (fun k => absurd c k) (fun _ => fCkS (fun k => absurd c2 k) (fun _ => uX0_sideOf (uX0_setSideW h)))))
theorem aP_rank {N : Nat} {m0 m1 xdo a1 a2 : Int32} {zn : Int64} {post : Int32 → Int32 → Int32 → Int32 → Int64 → Prop} (hN : N < 13) (c : ¬ isPl N a1) (h : post 1 xdo m0 m1 zn) : qL_rank (nI N) m0 m1 xdo zn a1 a2 post :=
  uL_rank (uX1_rankT (fCkP hN (fun _ => Or.inl ⟨rfl, h⟩) (fun k => absurd k c)))
theorem aN_rank {N : Nat} {m0 m1 xdo a1 a2 : Int32} {zn : Int64} {post : Int32 → Int32 → Int32 → Int32 → Int64 → Prop} (hN : N < 13) (c : isPl N a1) (c2 : ¬ kBt a2 0 2) (h : post 2 xdo m0 m1 zn) : qL_rank (nI N) m0 m1 xdo zn a1 a2 post :=
  uL_rank (uX1_rankT (fCkP hN (fun k => absurd c k) (fun _ => fCkB (fun _ => Or.inr ⟨rfl, h⟩) (fun k => absurd k c2))))
theorem aE_rank {N p : Nat} {m0 m1 xdo a2 : Int32} {rk : Nat → Int32} {zn : Int64} {post : Int32 → Int32 → Int32 → Int32 → Int64 → Prop} (hN : N < 13) (hp : p < N) (c2 : kBt a2 0 2) (hr : rkR N m0 m1 rk) (h : post 0 (xdo + 1) (rk0 m0 (nI p) a2) (rk1 m1 (nI p) a2) (rk p).toInt64) : qL_rank (nI N) m0 m1 xdo zn (nI p) a2 post :=
  uL_rank (uX1_rankT (fCkP hN (fun k => absurd ⟨p, hp, rfl⟩ k) (fun _ => fCkB (fun k => absurd c2 k) (fun _ => fX0_rankOfE hN hp hr (fX0_setRankE h)))))
theorem aN_goal {N : Nat} {mg xdo a1 : Int32} {zn : Int64} {post : Int32 → Int32 → Int32 → Int64 → Prop} (c : ¬ kSet N a1) (h : post 1 xdo mg zn) : qL_goal (nI N) mg xdo zn a1 post :=
  uL_goal (uX1_goalT (fCkSet (fun _ => ⟨rfl, h⟩) (fun k => absurd k c)))
theorem aE_goal {N : Nat} {mg xdo a1 : Int32} {zn : Int64} {post : Int32 → Int32 → Int32 → Int64 → Prop} (c : kSet N a1) (h : post 0 (xdo + 1) a1 mg.toInt64) : qL_goal (nI N) mg xdo zn a1 post :=
  uL_goal (uX1_goalT (fCkSet (fun k => absurd c k) (fun _ => h)))
/-! way, lose -/
theorem fCkP2 {N : Nat} {a b : Int32} {post : Prop} {px : String → Prop} (hN : N < 13) (h0 : ¬ (isPl N a ∧ isPl N b) → px kIO) (h1 : isPl N a ∧ isPl N b → post) : qX1_checkPlaceT (nI N) a (qX1_checkPlaceT (nI N) b post px) px :=
  fCkP hN (fun c => h0 (fun k => c k.1)) (fun c => fCkP hN (fun c2 => h0 (fun k => c2 k.2)) (fun c2 => h1 ⟨c, c2⟩))
theorem aN_way {N : Nat} {mf : Nat → Int32} {xdo xre a1 a2 : Int32} {zn : Int64} {post : Int32 → Int32 → Int32 → (Nat → Int32) → Int64 → Prop} (hN : N < 13) (c : ¬ (isPl N a1 ∧ isPl N a2)) (h : post 1 xdo xre mf zn) : qL_way mf (nI N) xdo xre zn a1 a2 post :=
  uL_way (uX1_wayT (fCkP2 hN (fun _ => ⟨rfl, h⟩) (fun k => absurd k c)))
theorem aT_way {N p q : Nat} {mf w : Nat → Int32} {xdo xre : Int32} {zn : Int64} {post : Int32 → Int32 → Int32 → (Nat → Int32) → Int64 → Prop} (hN : N < 13) (hp : p < N) (hq : q < N) (hf : ∀ p, p < N → mf p = w p) (hb : bt (w p) q = true) (h : post 0 (xdo + 1) xre (upd mf p (mf p ||| ((1 : Int32) <<< (nI q &&& (31 : Int32))))) (0 : Int32).toInt64) : qL_way mf (nI N) xdo xre zn (nI p) (nI q) post := by
  refine uL_way (uX1_wayT (fCkP2 hN (fun k => absurd ⟨⟨p, hp, rfl⟩, ⟨q, hq, rfl⟩⟩ k) (fun _ => fX0_waysFrom (by omega) ?_)))
  refine fX1_has (by omega) (fun h0 => absurd hb (by rw [← hf p hp, h0]; decide)) (fun _ => ⟨fun _ => uX1_wayT_j44 (fX0_putE (by omega) ⟨fun e => absurd e (by decide), fun _ => h⟩), fun e => absurd e (by decide)⟩)
theorem aF_way {N p q : Nat} {mf w : Nat → Int32} {xdo xre : Int32} {zn : Int64} {post : Int32 → Int32 → Int32 → (Nat → Int32) → Int64 → Prop} (hN : N < 13) (hp : p < N) (hq : q < N) (hw : sMW N w) (hf : ∀ p, p < N → mf p = w p) (hb : ¬ bt (w p) q = true) (hc : cWn w N < 30) (h : post 0 (xdo + 1) xre (upd mf p (mf p ||| ((1 : Int32) <<< (nI q &&& (31 : Int32))))) (1 : Int32).toInt64) : qL_way mf (nI N) xdo xre zn (nI p) (nI q) post := by
  refine uL_way (uX1_wayT (fCkP2 hN (fun k => absurd ⟨⟨p, hp, rfl⟩, ⟨q, hq, rfl⟩⟩ k) (fun _ => fX0_waysFrom (by omega) ?_)))
  refine fX1_has (by omega) (fun _ => ⟨fun e => absurd rfl e, fun _ => fX0_countWaysE hN hw hf ⟨fun _ => uX1_wayT_j44 (fX0_putE (by omega) ⟨fun _ => h, fun e => absurd rfl e⟩), fun e => absurd (nI_lt (b := 30) hc (by omega)) e⟩⟩) (fun h1 => absurd (by rw [← hf p hp]; exact h1) hb)
theorem aR_way {N p q : Nat} {mf w : Nat → Int32} {xdo xre : Int32} {zn : Int64} {post : Int32 → Int32 → Int32 → (Nat → Int32) → Int64 → Prop} (hN : N < 13) (hp : p < N) (hq : q < N) (hw : sMW N w) (hf : ∀ p, p < N → mf p = w p) (hb : ¬ bt (w p) q = true) (hc : ¬ cWn w N < 30) (h : post 0 xdo (xre + 1) mf (-9 : Int32).toInt64) : qL_way mf (nI N) xdo xre zn (nI p) (nI q) post := by
  have hle := cWn_le hN hw N (Nat.le_refl N)
  refine uL_way (uX1_wayT (fCkP2 hN (fun k => absurd ⟨⟨p, hp, rfl⟩, ⟨q, hq, rfl⟩⟩ k) (fun _ => fX0_waysFrom (by omega) ?_)))
  refine fX1_has (by omega) (fun _ => ⟨fun e => absurd rfl e, fun _ => fX0_countWaysE hN hw hf ⟨fun e => absurd e (nI_nlt (b := 30) (by omega) (by omega)), fun _ => uX1_refuseW h⟩⟩) (fun h1 => absurd (by rw [← hf p hp]; exact h1) hb)
theorem aN_lose {N : Nat} {mf : Nat → Int32} {xdo a1 a2 : Int32} {zn : Int64} {post : Int32 → Int32 → (Nat → Int32) → Int64 → Prop} (hN : N < 13) (c : ¬ (isPl N a1 ∧ isPl N a2)) (h : post 1 xdo mf zn) : qL_lose mf (nI N) xdo zn a1 a2 post :=
  uL_lose (uX1_loseT (fCkP2 hN (fun _ => ⟨rfl, h⟩) (fun k => absurd k c)))
theorem aE_lose {N p q : Nat} {mf w : Nat → Int32} {xdo : Int32} {zn : Int64} {post : Int32 → Int32 → (Nat → Int32) → Int64 → Prop} (hN : N < 13) (hp : p < N) (hq : q < N) (hf : ∀ p, p < N → mf p = w p) (h : post 0 (xdo + 1) (upd mf p (mf p &&& (((1 : Int32) <<< (nI q &&& (31 : Int32))) ^^^ (-1 : Int32)))) (if bt (w p) q = true then (1 : Int32) else 0).toInt64) : qL_lose mf (nI N) xdo zn (nI p) (nI q) post := by
  refine uL_lose (uX1_loseT (fCkP2 hN (fun k => absurd ⟨⟨p, hp, rfl⟩, ⟨q, hq, rfl⟩⟩ k) (fun _ => fX0_waysFrom (by omega) ?_)))
  refine fX1_has (by omega) (fun h0 => fX0_takeE (by omega) ⟨fun _ => ?_, fun e => absurd rfl e⟩) (fun h1 => fX0_takeE (by omega) ⟨fun e => absurd e (by decide), fun _ => ?_⟩)
  · rw [if_neg (by rw [← hf p hp, h0]; decide)] at h; exact h
  · rw [if_pos (by rw [← hf p hp]; exact h1)] at h; exact h
/-! circle -/
def cirW (w : Nat → Int32) (N s p : Nat) : Int32 := w p ||| ((1 : Int32) <<< (nI ((p + s) % N) &&& (31 : Int32)))
theorem fX0_wrappedE {N x : Nat} {post : Int32 → Prop} (h0 : 0 < N) (hN : N < 13) (hx : x < 2 ^ 31) (h : post (nI (x % N))) : qX0_wrapped (nI N) (nI x) post :=
  ⟨fun e => absurd e (nI_nle h0 (by omega)), fun _ => ⟨nI_ne0 h0 (by omega), by rw [pk_rem hx h0 (by omega)]; exact h⟩⟩
theorem fX1_circleE_28 {N s : Nat} {w : Nat → Int32} {K : Int32 → (Nat → Int32) → Prop} (h0 : 0 < N) (hN : N < 13) (hs : s < 13) (hK : ∀ a f, (∀ p, p < N → f p = cirW w N s p) → K a f) : ∀ (d p : Nat) (z : Nat → Int32), p + d = N → (∀ q, q < N → z q = if q < p then cirW w N s q else w q) → qX1_circle_T28 (nI s) (nI N) K (d + 1) (nI p) z
  | 0, p, z, hp, hz => by
    have : p = N := by omega
    subst this
    exact ⟨fun _ => hK _ _ (fun q hq => by rw [hz q hq, if_pos hq]), fun hc => absurd (nI_le (Nat.le_refl _) (by omega)) hc⟩
  | d + 1, p, z, hp, hz => by
    have ih := fun (z : Nat → Int32) hz => fX1_circleE_28 h0 hN hs hK d (p + 1) z (by omega) hz
    simp only [← nI_1] at ih
    refine ⟨fun hc => absurd hc (nI_ge (by omega) (by omega)), fun _ => ?_⟩
    rw [nI_add]
    refine fX0_wrappedE h0 hN (by omega) (fX0_putE (by omega) (ih _ (fun q hq => ?_)))
    have hzp := hz p (by omega)
    rw [if_neg (by omega)] at hzp
    by_cases e : q = p
    · rw [e, upd_eq, if_pos (by omega), hzp]; rfl
    · have hq2 := hz q hq
      rw [upd_ne e, hq2]
      by_cases e2 : q < p
      · rw [if_pos e2, if_pos (by omega)]
      · rw [if_neg e2, if_neg (by omega)]
theorem cir_MW {N s : Nat} {w : Nat → Int32} (h0 : 0 < N) (hN : N < 13) (hw : sMW N w) : sMW N (cirW w N s) := fun p hp => sSub_or.mpr ⟨hw p hp, sBit_all hN (Nat.mod_lt _ h0)⟩
theorem aN_circle {N : Nat} {mf tf : Nat → Int32} {ms mg m0 m1 tz ts tg t0 t1 xdo xre a1 : Int32} {zn : Int64} {post : Int32 → Int32 → Int32 → Int32 → Int32 → Int32 → Int32 → Int32 → (Nat → Int32) → Int32 → Int32 → Int32 → Int32 → Int32 → (Nat → Int32) → Int64 → Prop} (c : ¬ kBt a1 0 11) (h : post 1 xdo xre (nI N) ms mg m0 m1 mf tz ts tg t0 t1 tf zn) : qL_circle mf (nI N) ms mg m0 m1 tf tz ts tg t0 t1 xdo xre zn a1 post :=
  uL_circle (uX1_circleT (fCkB (fun _ => ⟨rfl, h⟩) (fun k => absurd k c)))
theorem aE_circle {N s : Nat} {mf tf w : Nat → Int32} {ms mg m0 m1 tz ts tg t0 t1 xdo xre : Int32} {zn : Int64} {post : Int32 → Int32 → Int32 → Int32 → Int32 → Int32 → Int32 → Int32 → (Nat → Int32) → Int32 → Int32 → Int32 → Int32 → Int32 → (Nat → Int32) → Int64 → Prop} (g2 : 2 ≤ N) (hN : N < 13) (hs : s < 13) (c : kBt (nI s) 0 11) (hw : sMW N w) (hf : ∀ p, p < N → mf p = w p) (hc : cWn (cirW w N s) N ≤ 30) (h : ∀ f t1 t2 t3 t4 t5 g, (∀ p, p < N → f p = cirW w N s p) → post 0 (xdo + 1) xre (nI N) ms mg m0 m1 f t1 t2 t3 t4 t5 g (nI (cWn (cirW w N s) N) - nI (cWn w N)).toInt64) : qL_circle mf (nI N) ms mg m0 m1 tf tz ts tg t0 t1 xdo xre zn (nI s) post := by
  have hw' := cir_MW (s := s) (w := w) (by omega) hN hw
  refine uL_circle (uX1_circleT (fCkB (fun k => absurd c k) (fun _ => fX0_countWaysE hN hw hf (fX0_copyE (fun z hz => ⟨N + 1, ?_⟩)))))
  refine fX1_circleE_28 (by omega) hN hs (fun _ f hfE => ?_) N 0 z (by omega) (fun q hq => by rw [hz q (by omega), hf q hq, if_neg (by omega)])
  refine fX0_countWaysE hN hw' hfE ⟨fun _ => fX0_copyE (fun z2 hz2 => ?_), fun e => absurd (nI_le (b := 30) hc (by omega)) e⟩
  exact h _ _ _ _ _ _ _ (fun p hp => by rw [hz2 p (by omega)]; exact hfE p hp)
theorem aR_circle {N s : Nat} {mf tf w : Nat → Int32} {ms mg m0 m1 tz ts tg t0 t1 xdo xre : Int32} {zn : Int64} {post : Int32 → Int32 → Int32 → Int32 → Int32 → Int32 → Int32 → Int32 → (Nat → Int32) → Int32 → Int32 → Int32 → Int32 → Int32 → (Nat → Int32) → Int64 → Prop} (g2 : 2 ≤ N) (hN : N < 13) (hs : s < 13) (c : kBt (nI s) 0 11) (hw : sMW N w) (hf : ∀ p, p < N → mf p = w p) (hc : ¬ cWn (cirW w N s) N ≤ 30) (h : ∀ t1 t2 t3 t4 t5 g, post 0 xdo (xre + 1) (nI N) ms mg m0 m1 mf t1 t2 t3 t4 t5 g (-9 : Int32).toInt64) : qL_circle mf (nI N) ms mg m0 m1 tf tz ts tg t0 t1 xdo xre zn (nI s) post := by
  have hw' := cir_MW (s := s) (w := w) (by omega) hN hw
  have hle := cWn_le hN hw' N (Nat.le_refl N)
  refine uL_circle (uX1_circleT (fCkB (fun k => absurd c k) (fun _ => fX0_countWaysE hN hw hf (fX0_copyE (fun z hz => ⟨N + 1, ?_⟩)))))
  refine fX1_circleE_28 (by omega) hN hs (fun _ f hfE => ?_) N 0 z (by omega) (fun q hq => by rw [hz q (by omega), hf q hq, if_neg (by omega)])
  exact fX0_countWaysE hN hw' hfE ⟨fun e => absurd e (nI_ge (a := 30) (by omega) (by omega)), fun _ => uX1_refuseW (h _ _ _ _ _ _)⟩
/-! strew: the numbers that it makes -/
def strN (s p : Nat) : Nat := s + 7 * p + p * p
def strO (s : Nat) : Nat → Int32
  | 0 => 0
  | p + 1 => strO s p ||| (nI (strN s p % 2) <<< (nI p &&& (31 : Int32)))
def strG (s : Nat) : Nat → Int32
  | 0 => 0
  | p + 1 => if strN s p % 5 = 0 then strG s p ||| ((1 : Int32) <<< (nI p &&& (31 : Int32))) else strG s p
def strW (s N p : Nat) : Int32 := ((1 : Int32) <<< (nI (strN s p % N) &&& (31 : Int32))) ||| ((1 : Int32) <<< (nI ((3 * strN s p + p) % N) &&& (31 : Int32)))
theorem bt_sh01 {a p q : Nat} (ha : a < 2) (hp : p < 32) (hq : q < 32) : bt (nI a <<< (nI p &&& (31 : Int32))) q = (decide (q = p) && decide (a = 1)) := by
  rcases a with _ | _ | a
  · rw [b_shl p hp _ hq]
    have : bt (nI 0) (q - p) = false := b_0 _
    rw [this]; simp
  · have := bt_bit hp hq
    rw [show nI 1 = (1 : Int32) from by decide, this]; simp
  · omega
theorem strO_lo {s : Nat} : ∀ p, p < 13 → sSub (strO s p) (sAll p)
  | 0, _ => sSub_0
  | p + 1, h => by
    have ih := strO_lo (s := s) p (by omega)
    rw [strO]
    refine sSub_or.mpr ⟨fun q hq hb => ?_, fun q hq hb => ?_⟩
    · have := ih q hq hb
      rw [bt_sAll p (by omega) q hq, decide_eq_true_eq] at this
      rw [bt_sAll (p + 1) h q hq, decide_eq_true_eq]; omega
    · rw [bt_sh01 (Nat.mod_lt _ (by omega)) (by omega) hq] at hb
      simp at hb
      rw [bt_sAll (p + 1) h q hq, decide_eq_true_eq]; omega
theorem take_lo {x : Int32} {p : Nat} (hp : p < 13) (h : sSub x (sAll p)) : x &&& (((1 : Int32) <<< (nI p &&& (31 : Int32))) ^^^ (-1 : Int32)) = x := b_ext fun i hi => by
  rw [bt_take _ (by omega) hi]
  by_cases e : i = p
  · rw [if_pos e]
    cases hb : bt x i
    · rfl
    · have := h i hi hb
      rw [bt_sAll p hp i hi, decide_eq_true_eq] at this
      omega
  · rw [if_neg e]
theorem nI_mod3 {a : Nat} : nI (a % 3) = 0 ∨ nI (a % 3) = 1 ∨ nI (a % 3) = 2 := by
  have : a % 3 < 3 := Nat.mod_lt _ (by omega)
  rcases h : a % 3 with _ | _ | _ | b
  · exact Or.inl (by decide)
  · exact Or.inr (Or.inl (by decide))
  · exact Or.inr (Or.inr (by decide))
  · omega
theorem fX1_strewE_24 {N s : Nat} {K : Int32 → Int32 → Int32 → Int32 → Int32 → (Nat → Int32) → Prop} (h0 : 0 < N) (hN : N < 13) (hs : s < 10000) (hK : ∀ a k0 k1 f, rkR N k0 k1 (fun p => nI (strN s p % 3)) → (∀ p, p < N → f p = strW s N p) → K a (strO s N) (strG s N) k0 k1 f) : ∀ (d p : Nat) (k0 k1 : Int32) (z : Nat → Int32), p + d = N → rkR p k0 k1 (fun p => nI (strN s p % 3)) → (∀ q, q < N → z q = if q < p then strW s N q else 0) → qX1_strew_T24 (nI s) (nI N) K (d + 1) (nI p) (strO s p) (strG s p) k0 k1 z
  | 0, p, k0, k1, z, hp, hr, hz => by
    have : p = N := by omega
    subst this
    exact ⟨fun _ => hK _ _ _ _ hr (fun q hq => by rw [hz q hq, if_pos hq]), fun hc => absurd (nI_le (Nat.le_refl _) (by omega)) hc⟩
  | d + 1, p, k0, k1, z, hp, hr, hz => by
    have ih := fun (k0 k1 : Int32) (z : Nat → Int32) hr hz => fX1_strewE_24 h0 hN hs hK d (p + 1) k0 k1 z (by omega) hr hz
    have hpp : p * p ≤ 12 * 12 := Nat.mul_le_mul (by omega) (by omega)
    have hx : strN s p < 2 ^ 31 := by unfold strN; omega
    have hX : ((nI s + ((7 : Int32) * nI p)) + (nI p * nI p)) = nI (strN s p) := strX
    have hY : (((3 : Int32) * nI (strN s p)) + nI p) = nI (3 * strN s p + p) := by rw [show (3 : Int32) = nI 3 from by decide, pk_mul, nI_add]
    have e2 : nI (strN s p) - nI (strN s p) / (2 : Int32) * (2 : Int32) = nI (strN s p % 2) := pk_rem (d := 2) hx (by omega) (by omega)
    have e3 : nI (strN s p) - nI (strN s p) / (3 : Int32) * (3 : Int32) = nI (strN s p % 3) := pk_rem (d := 3) hx (by omega) (by omega)
    have e5 : nI (strN s p) - nI (strN s p) / (5 : Int32) * (5 : Int32) = nI (strN s p % 5) := pk_rem (d := 5) hx (by omega) (by omega)
    have hzp := hz p (by omega)
    rw [if_neg (by omega)] at hzp
    have hr' : rkR (p + 1) (rk0 k0 (nI p) (nI (strN s p % 3))) (rk1 k1 (nI p) (nI (strN s p % 3))) (fun p => nI (strN s p % 3)) := by
      intro q hq
      have hrp : rkR (p + 1) (rk0 k0 (nI p) (nI (strN s p % 3))) (rk1 k1 (nI p) (nI (strN s p % 3))) (upd (fun q => if q < p then nI (strN s q % 3) else (if bt k0 q = true then 0 else if bt k1 q = true then 1 else 2)) p (nI (strN s p % 3))) ∨ True := Or.inr trivial
      clear hrp
      have key : ∀ k, k = nI (strN s p % 3) → (k = 0 ∨ k = 1 ∨ k = 2) → nI (strN s q % 3) = (if bt (rk0 k0 (nI p) k) q = true then 0 else if bt (rk1 k1 (nI p) k) q = true then 1 else 2) ∧ ¬ (bt (rk0 k0 (nI p) k) q = true ∧ bt (rk1 k1 (nI p) k) q = true) := by
        intro k hk hk3
        rcases hk3 with rfl | rfl | rfl
        · rw [rk0_0, rk1_0, bt_put _ (by omega) (by omega), bt_take _ (by omega) (by omega)]
          by_cases e : q = p
          · subst e; rw [← hk]; simp
          · obtain ⟨h1, h2⟩ := hr q (by omega)
            simp [e]; exact ⟨h1, fun k => by simpa [k] using h2⟩
        · rw [rk0_1, rk1_1, bt_put _ (by omega) (by omega), bt_take _ (by omega) (by omega)]
          by_cases e : q = p
          · subst e; rw [← hk]; simp
          · obtain ⟨h1, h2⟩ := hr q (by omega)
            simp [e]; exact ⟨h1, fun k => by simpa [k] using h2⟩
        · rw [rk0_2, rk1_2, bt_take _ (by omega) (by omega), bt_take _ (by omega) (by omega)]
          by_cases e : q = p
          · subst e; rw [← hk]; simp
          · obtain ⟨h1, h2⟩ := hr q (by omega)
            simp [e]; exact ⟨h1, fun k => by simpa [k] using h2⟩
      exact key _ rfl nI_mod3
    have hz' : ∀ q, q < N → (upd (upd z p (z p ||| ((1 : Int32) <<< (nI (strN s p % N) &&& (31 : Int32))))) p ((upd z p (z p ||| ((1 : Int32) <<< (nI (strN s p % N) &&& (31 : Int32))))) p ||| ((1 : Int32) <<< (nI ((3 * strN s p + p) % N) &&& (31 : Int32))))) q = if q < p + 1 then strW s N q else 0 := by
      intro q hq
      by_cases e : q = p
      · rw [e, upd_eq, upd_eq, if_pos (by omega), hzp]
        have : ((0 : Int32) ||| ((1 : Int32) <<< (nI (strN s p % N) &&& (31 : Int32)))) = ((1 : Int32) <<< (nI (strN s p % N) &&& (31 : Int32))) := by
          rw [Int32.or_comm]; exact or0 _
        rw [this]; rfl
      · rw [upd_ne e, upd_ne e, hz q hq]
        by_cases e2 : q < p
        · rw [if_pos e2, if_pos (by omega)]
        · rw [if_neg e2, if_neg (by omega)]
    refine ⟨fun hc => absurd hc (nI_ge (by omega) (by omega)), fun _ => ?_⟩
    rw [hX, hY, e2, e3, e5]
    refine uX0_setSideW (fX0_setRankE ?_)
    rw [take_lo (by omega) (strO_lo p (by omega))]
    have go : ∀ g, g = strG s (p + 1) → qX0_wrapped (nI N) (nI (strN s p)) (fun r99 => qX0_putWayW z (nI p) r99 (fun x102_0 => qX0_wrapped (nI N) (nI (3 * strN s p + p)) (fun r119 => qX0_putWayW x102_0 (nI p) r119 (fun x122_0 => qX1_strew_T24 (nI s) (nI N) K (d + 1) (nI p + 1) (strO s p ||| (nI (strN s p % 2) <<< (nI p &&& (31 : Int32)))) g (rk0 k0 (nI p) (nI (strN s p % 3))) (rk1 k1 (nI p) (nI (strN s p % 3))) x122_0)))) := by
      intro g hg
      refine fX0_wrappedE h0 hN hx (fX0_putE (by omega) (fX0_wrappedE h0 hN (by unfold strN; omega) (fX0_putE (by omega) ?_)))
      rw [nI_1, hg]
      exact ih _ _ _ hr' hz'
    refine ⟨fun h5 => go _ ?_, fun h5 => go _ ?_⟩
    · rw [strG, if_neg (fun e => h5 (by rw [e]; decide))]
    · rw [strG, if_pos ((nI_eq (b := 0) (by omega) (by omega)).mp h5)]
theorem aN_strew {N : Nat} {mf : Nat → Int32} {ms mg m0 m1 xdo a1 : Int32} {zn : Int64} {post : Int32 → Int32 → Int32 → Int32 → Int32 → Int32 → Int32 → (Nat → Int32) → Int64 → Prop} (c : ¬ kBt a1 0 9999) (h : post 1 xdo (nI N) ms mg m0 m1 mf zn) : qL_strew mf (nI N) ms mg m0 m1 xdo zn a1 post :=
  uL_strew (uX1_strewT (fCkB (fun _ => ⟨rfl, h⟩) (fun k => absurd k c)))
theorem str_MW {N s : Nat} (h0 : 0 < N) (hN : N < 13) : sMW N (strW s N) := fun p hp => sSub_or.mpr ⟨sBit_all hN (Nat.mod_lt _ h0), sBit_all hN (Nat.mod_lt _ h0)⟩
theorem aE_strew {N s : Nat} {mf : Nat → Int32} {ms mg m0 m1 xdo : Int32} {zn : Int64} {post : Int32 → Int32 → Int32 → Int32 → Int32 → Int32 → Int32 → (Nat → Int32) → Int64 → Prop} (g2 : 2 ≤ N) (hN : N < 13) (hs : s < 10000) (c : kBt (nI s) 0 9999) (h : ∀ k0 k1 f, rkR N k0 k1 (fun p => nI (strN s p % 3)) → (∀ p, p < N → f p = strW s N p) → post 0 (xdo + 1) (nI N) (strO s N) (strG s N) k0 k1 f (nI (cWn (strW s N) N)).toInt64) : qL_strew mf (nI N) ms mg m0 m1 xdo zn (nI s) post := by
  refine uL_strew (uX1_strewT (fCkB (fun k => absurd c k) (fun _ => fX0_clearE (fun z hz => ⟨N + 1, ?_⟩))))
  have := fX1_strewE_24 (K := fun v2_24x z1_2_24x z1_3_24x z1_4_24x z1_5_24x z2_0_24x => qX0_countWays z2_0_24x (nI N) (fun r145 => post 0 (xdo + 1) (nI N) z1_2_24x z1_3_24x z1_4_24x z1_5_24x z2_0_24x r145.toInt64)) (by omega) hN hs (fun _ k0 k1 f hr hf => fX0_countWaysE hN (str_MW (by omega) hN) hf (h k0 k1 f hr hf)) N 0 0 0 z (by omega) (fun q hq => by omega) (fun q hq => by rw [hz q (by omega), if_neg (by omega)])
  exact this
/-! change -/
theorem aE_change {N : Nat} {ms xdo : Int32} {post : Int32 → Int32 → Int32 → Prop} (h : post (pcf (sAll N &&& ((sAll N &&& (ms ^^^ (-1 : Int32))) ^^^ (-1 : Int32)))) (xdo + 1) (sAll N &&& (ms ^^^ (-1 : Int32)))) : qX1_changeW (nI N) ms xdo post :=
  uX1_changeW (uX0_all ⟨fun _ => h, fun e => absurd e (by decide)⟩)
