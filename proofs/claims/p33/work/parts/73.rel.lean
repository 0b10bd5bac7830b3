/-! What holds between the class's map and the reference's. -/
def kR (N : Nat) (mf : Nat → Int32) (ms mg m0 m1 oo og : Int32) (rk w : Nat → Int32) : Prop := ms = oo ∧ mg = og ∧ (∀ p, p < N → mf p = w p) ∧ rkR N m0 m1 rk ∧ sMW N w ∧ sSub oo (sAll N) ∧ sSub og (sAll N) ∧ cWn w N ≤ 30
def kRelA (mf : Nat → Int32) (mz ms mg m0 m1 on oo og ost : Int32) (orl : Nat) (ork : Nat → Int32) (owl : Nat) (oww : Nat → Int32) : Prop := ∃ N, 2 ≤ N ∧ N < 13 ∧ mz = nI N ∧ on = nI N ∧ orl = N ∧ owl = N ∧ isPl N ost ∧ kR N mf ms mg m0 m1 oo og ork oww
theorem kRelA_mk {N : Nat} {mf : Nat → Int32} {ms mg m0 m1 oo og ost : Int32} {rk w : Nat → Int32} (g2 : 2 ≤ N) (hN : N < 13) (hs : isPl N ost) (h : kR N mf ms mg m0 m1 oo og rk w) : kRelA mf (nI N) ms mg m0 m1 (nI N) oo og ost N rk N w := ⟨N, g2, hN, rfl, rfl, rfl, rfl, hs, h⟩
theorem cWn_0 : ∀ N, cWn (fun _ => 0) N = 0
  | 0 => rfl
  | p + 1 => by rw [cWn, cWn_0 p, sCnt_0.mpr rfl]
theorem R_places {n : Nat} {f g : Nat → Int32} (hn : n < 13) (hf : ∀ p, p < 12 → f p = 0) (hg : ∀ p, p < n → g p = 2) : kR n f 0 0 0 0 0 0 g (fun _ => 0) := by
  refine ⟨rfl, rfl, fun p hp => hf p (by omega), fun p hp => ?_, sMW_0, sSub_0, sSub_0, by rw [cWn_0]; omega⟩
  rw [hg p hp, b_0]
  exact ⟨rfl, fun k => by cases k.1⟩
theorem sMW_upd {N p : Nat} {x : Int32} {w : Nat → Int32} (h : sMW N w) (hx : sSub x (sAll N)) : sMW N (upd w p x) := sMW_ups h hx
theorem upd_same {N p : Nat} {f g x : Nat → Int32} {F : Int32 → Int32} (hp : p < N) (h : ∀ q, q < N → f q = g q) : ∀ q, q < N → upd f p (F (f p)) q = upd g p (F (g p)) q := by
  intro q hq
  by_cases e : q = p
  · rw [e, upd_eq, upd_eq, h p hp]
  · rw [upd_ne e, upd_ne e, h q hq]
theorem R_give {N p : Nat} {mf : Nat → Int32} {m0 m1 oo og a : Int32} {rk w : Nat → Int32} (hN : N < 13) (hp : p < N) (ha : kSd a) (h : kR N mf oo og m0 m1 oo og rk w) : kR N mf ((oo &&& (((1 : Int32) <<< (nI p &&& (31 : Int32))) ^^^ (-1 : Int32))) ||| (a <<< (nI p &&& (31 : Int32)))) og m0 m1 ((oo &&& (((1 : Int32) <<< (nI p &&& (31 : Int32))) ^^^ (-1 : Int32))) ||| (a <<< (nI p &&& (31 : Int32)))) og rk w := by
  obtain ⟨-, -, h3, h4, h5, h6, h7, h8⟩ := h
  refine ⟨rfl, rfl, h3, h4, h5, sSub_or.mpr ⟨sSub_andl.trans h6, fun q hq hb => ?_⟩, h7, h8⟩
  obtain ⟨j, hj, rfl⟩ : ∃ j, j < 2 ∧ a = nI j := by
    rcases ha with rfl | rfl
    · exact ⟨0, by omega, by decide⟩
    · exact ⟨1, by omega, by decide⟩
  rw [bt_sh01 hj (by omega) hq] at hb
  simp at hb
  rw [bt_sAll N hN q hq, decide_eq_true_eq]; omega
theorem R_rank {N p : Nat} {mf : Nat → Int32} {m0 m1 oo og a : Int32} {rk w : Nat → Int32} (hN : N < 13) (hp : p < N) (ha : kBt a 0 2) (h : kR N mf oo og m0 m1 oo og rk w) : kR N mf oo og (rk0 m0 (nI p) a) (rk1 m1 (nI p) a) oo og (upd rk p a) w := by
  obtain ⟨h1, h2, h3, h4, h5, h6, h7, h8⟩ := h
  exact ⟨h1, h2, h3, rkR_set hN hp h4 (i3_of (kBt_l ha) ha.2), h5, h6, h7, h8⟩
theorem R_goal {N : Nat} {mf : Nat → Int32} {m0 m1 oo og a : Int32} {rk w : Nat → Int32} (hN : N < 13) (ha : kSet N a) (h : kR N mf oo og m0 m1 oo og rk w) : kR N mf oo a m0 m1 oo a rk w := by
  obtain ⟨h1, h2, h3, h4, h5, h6, h7, h8⟩ := h
  exact ⟨h1, rfl, h3, h4, h5, h6, sSub_kSet hN ha, h8⟩
theorem R_wayT {N p q : Nat} {mf : Nat → Int32} {m0 m1 oo og : Int32} {rk w : Nat → Int32} (hN : N < 13) (hp : p < N) (hq : q < N) (hb : bt (w p) q = true) (h : kR N mf oo og m0 m1 oo og rk w) : kR N (upd mf p (mf p ||| ((1 : Int32) <<< (nI q &&& (31 : Int32))))) oo og m0 m1 oo og rk w := by
  obtain ⟨h1, h2, h3, h4, h5, h6, h7, h8⟩ := h
  refine ⟨h1, h2, fun r hr => ?_, h4, h5, h6, h7, h8⟩
  by_cases e : r = p
  · rw [e, upd_eq, h3 p hp]; exact or_bit_t (by omega) hb
  · rw [upd_ne e]; exact h3 r hr
theorem R_wayF {N p q : Nat} {mf : Nat → Int32} {m0 m1 oo og : Int32} {rk w : Nat → Int32} (hN : N < 13) (hp : p < N) (hq : q < N) (hb : ¬ bt (w p) q = true) (hc : cWn w N < 30) (h : kR N mf oo og m0 m1 oo og rk w) : kR N (upd mf p (mf p ||| ((1 : Int32) <<< (nI q &&& (31 : Int32))))) oo og m0 m1 oo og rk (upd w p (w p ||| ((1 : Int32) <<< (nI q &&& (31 : Int32))))) := by
  obtain ⟨h1, h2, h3, h4, h5, h6, h7, h8⟩ := h
  refine ⟨h1, h2, upd_same (x := w) (F := fun x => x ||| ((1 : Int32) <<< (nI q &&& (31 : Int32)))) hp h3, h4, sMW_upd h5 (sSub_or.mpr ⟨h5 p hp, sBit_all hN hq⟩), h6, h7, ?_⟩
  have e := cWn_upd (w := w) (k := p) (x := w p ||| sBit q) N
  rw [if_pos hp, if_pos hp, sCnt_ob (by omega), if_neg hb] at e
  have e2 : cWn (upd w p (w p ||| ((1 : Int32) <<< (nI q &&& (31 : Int32))))) N = cWn (upd w p (w p ||| sBit q)) N := rfl
  rw [e2]; omega
theorem R_lose {N p : Nat} {mf : Nat → Int32} {m0 m1 oo og x : Int32} {rk w : Nat → Int32} (hp : p < N) (h : kR N mf oo og m0 m1 oo og rk w) : kR N (upd mf p (mf p &&& x)) oo og m0 m1 oo og rk (upd w p (w p &&& x)) := by
  obtain ⟨h1, h2, h3, h4, h5, h6, h7, h8⟩ := h
  refine ⟨h1, h2, upd_same (x := w) (F := fun y => y &&& x) hp h3, h4, sMW_upd h5 (sSub_andl.trans (h5 p hp)), h6, h7, ?_⟩
  have e := cWn_upd (w := w) (k := p) (x := w p &&& x) N
  rw [if_pos hp, if_pos hp] at e
  have := sCnt_mono (x := w p &&& x) (y := w p) sSub_andl
  omega
theorem R_circle {N s : Nat} {f mf w' : Nat → Int32} {m0 m1 oo og : Int32} {rk w : Nat → Int32} (g2 : 2 ≤ N) (hN : N < 13) (hc : cWn (cirW w N s) N ≤ 30) (hf : ∀ p, p < N → f p = cirW w N s p) (hf' : ∀ p, p < N → w' p = cirW w N s p) (h : kR N mf oo og m0 m1 oo og rk w) : kR N f oo og m0 m1 oo og rk w' := by
  obtain ⟨h1, h2, h3, h4, h5, h6, h7, h8⟩ := h
  exact ⟨h1, h2, fun p hp => by rw [hf p hp, hf' p hp], h4, fun p hp => by rw [hf' p hp]; exact cir_MW (by omega) hN h5 p hp, h6, h7, by rw [cWn_congr N hf']; exact hc⟩
theorem sCnt_2 {a b : Nat} (ha : a < 32) (hb : b < 32) : sCnt (sBit a ||| sBit b) ≤ 2 := by
  have := sCnt_oa (sBit a) (sBit b)
  rw [sCnt_bit1 a ha, sCnt_bit1 b hb] at this
  omega
theorem cWn_str {N s : Nat} (h0 : 0 < N) (hN : N < 13) : ∀ M, cWn (strW s N) M ≤ 2 * M
  | 0 => Nat.le_refl _
  | p + 1 => by
    have ih := cWn_str (s := s) h0 hN p
    have h1 : strN s p % N < N := Nat.mod_lt _ h0
    have h2 : (3 * strN s p + p) % N < N := Nat.mod_lt _ h0
    have : sCnt (strW s N p) ≤ 2 := sCnt_2 (a := strN s p % N) (b := (3 * strN s p + p) % N) (by omega) (by omega)
    rw [cWn]; omega
theorem strG_all {s : Nat} : ∀ p, p < 13 → sSub (strG s p) (sAll p)
  | 0, _ => sSub_0
  | p + 1, h => by
    have ih := strG_all (s := s) p (by omega)
    have up : sSub (strG s p) (sAll (p + 1)) := fun q hq hb => by
      have := ih q hq hb
      rw [bt_sAll p (by omega) q hq, decide_eq_true_eq] at this
      rw [bt_sAll (p + 1) h q hq, decide_eq_true_eq]; omega
    rw [strG]
    by_cases e : strN s p % 5 = 0
    · rw [if_pos e]; exact sSub_or.mpr ⟨up, sBit_all h (by omega)⟩
    · rw [if_neg e]; exact up
theorem R_strew {N s : Nat} {f w' rk' : Nat → Int32} {k0 k1 : Int32} (g2 : 2 ≤ N) (hN : N < 13) (hr : rkR N k0 k1 (fun p => nI (strN s p % 3))) (hf : ∀ p, p < N → f p = strW s N p) (hr' : ∀ p, p < N → rk' p = nI (strN s p % 3)) (hf' : ∀ p, p < N → w' p = strW s N p) : kR N f (strO s N) (strG s N) k0 k1 (strO s N) (strG s N) rk' w' :=
  ⟨rfl, rfl, fun p hp => by rw [hf p hp, hf' p hp], fun p hp => by rw [hr' p hp]; exact hr p hp, fun p hp => by rw [hf' p hp]; exact str_MW (by omega) hN p hp, strO_lo N hN, strG_all N hN, by rw [cWn_congr N hf']; have := cWn_str (s := s) (by omega) hN N; omega⟩
theorem R_change {N : Nat} {mf : Nat → Int32} {m0 m1 oo og : Int32} {rk w : Nat → Int32} (h : kR N mf oo og m0 m1 oo og rk w) : kR N mf (sAll N &&& (oo ^^^ (-1 : Int32))) og m0 m1 (sAll N &&& (oo ^^^ (-1 : Int32))) og rk w := by
  obtain ⟨h1, h2, h3, h4, h5, h6, h7, h8⟩ := h
  exact ⟨rfl, h2, h3, h4, h5, sSub_andl, h7, h8⟩
/-! acts that give back what they took -/
theorem upd_back {w : Nat → Int32} {k : Nat} {x : Int32} : upd (upd w k x) k (w k) = w := by
  funext p
  by_cases e : p = k
  · rw [e, upd_eq]
  · rw [upd_ne e, upd_ne e]
theorem lg_self (x : Int64) : lg_cmp x x = 0 := by simp [lg_cmp]
