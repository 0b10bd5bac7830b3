/-! Exact answers: conditions and counts. -/
def kBt (a l u : Int32) : Prop := l ≤ a ∧ a ≤ u
def kSd (a : Int32) : Prop := a = 0 ∨ a = 1
theorem kSd_bt {a : Int32} : kBt a 0 1 ↔ kSd a := by
  constructor
  · rintro ⟨h0, h1⟩
    obtain ⟨j, hj, rfl⟩ := nI_of2 (M := 1) (n := 1) (by decide) (Int32.not_lt.mpr h0) h1
    rcases j with _ | _ | j
    · exact Or.inl (by decide)
    · exact Or.inr (by decide)
    · omega
  · rintro (rfl | rfl)
    · exact ⟨by decide, by decide⟩
    · exact ⟨by decide, by decide⟩
theorem fCkB {a l u : Int32} {post : Prop} {px : String → Prop} (h0 : ¬ kBt a l u → px kIA) (h1 : kBt a l u → post) : qX1_checkBetweenT a l u post px :=
  ⟨fun hc => h0 (fun k => absurd hc (Int32.not_lt.mpr k.1)), fun hc => ⟨fun h2 => h1 ⟨Int32.not_lt.mp hc, h2⟩, fun h2 => h0 (fun k => h2 k.2)⟩⟩
theorem fCkS {a : Int32} {post : Prop} {px : String → Prop} (h0 : ¬ kSd a → px kIA) (h1 : kSd a → post) : qX1_checkSideT a post px :=
  uX1_checkSideT (fCkB (fun c => h0 (fun k => c (kSd_bt.mpr k))) (fun c => h1 (kSd_bt.mp c)))
theorem fCkP {N : Nat} {a : Int32} {post : Prop} {px : String → Prop} (hN : N < 13) (h0 : ¬ isPl N a → px kIO) (h1 : isPl N a → post) : qX1_checkPlaceT (nI N) a post px :=
  ⟨fun hc => h0 (fun hp => by obtain ⟨p, hp, rfl⟩ := hp; exact absurd hc (nI_pos (by omega))), fun hc => ⟨fun h2 => h1 (isPl_ck hN hc h2), fun h2 => h0 (fun hp => by obtain ⟨p, hp, rfl⟩ := hp; exact h2 (nI_lt hp (by omega)))⟩⟩
theorem sAll_nI : ∀ N, N < 13 → sAll N = nI (2 ^ N - 1) := by decide +kernel
def kSet (N : Nat) (a : Int32) : Prop := kBt a 0 (sAll N)
theorem fCkSet {N : Nat} {a : Int32} {post : Prop} {px : String → Prop} (h0 : ¬ kSet N a → px kIA) (h1 : kSet N a → post) : qX1_checkSetT (nI N) a post px :=
  uX1_checkSetT (uX0_all (fCkB h0 h1))
theorem bt_nI {j q : Nat} (hq : q < 32) : bt (nI j) q = j.testBit q := by
  show (BitVec.ofNat 32 j).getLsbD q = _
  rw [BitVec.getLsbD_ofNat]; simp [hq]
theorem pow12 {N : Nat} (hN : N < 13) : 2 ^ N ≤ 4096 := show 2 ^ N ≤ 2 ^ 12 from Nat.pow_le_pow_right (by omega) (by omega)
theorem sSub_kSet {N : Nat} {a : Int32} (hN : N < 13) (h : kSet N a) : sSub a (sAll N) := by
  have h12 := pow12 hN
  have hM : (sAll N).toInt = ((2 ^ N - 1 : Nat) : Int) := by rw [sAll_nI N hN, nI_toInt (by omega)]
  obtain ⟨j, hj, rfl⟩ := nI_of2 hM (Int32.not_lt.mpr h.1) h.2
  intro q hq hb
  rw [bt_nI hq] at hb
  rw [bt_sAll N hN q hq, decide_eq_true_eq]
  apply Classical.byContradiction
  intro hn
  have h0 : 0 < 2 ^ N := Nat.pos_of_ne_zero (by simp)
  have hlt : j < 2 ^ q := Nat.lt_of_lt_of_le (m := 2 ^ N) (by omega) (Nat.pow_le_pow_right (by omega) (by omega))
  rw [Nat.testBit_lt_two_pow hlt] at hb
  cases hb
/-- how many bits, as the machine counts them -/
def pcf (x : Int32) : Int32 := (((((((x - ((x.toUInt32 >>> ((1 : Int32).toUInt32 &&& Int32.toUInt32 31)).toInt32 &&& (1431655765 : Int32))) &&& (858993459 : Int32)) + (((x - ((x.toUInt32 >>> ((1 : Int32).toUInt32 &&& Int32.toUInt32 31)).toInt32 &&& (1431655765 : Int32))).toUInt32 >>> ((2 : Int32).toUInt32 &&& Int32.toUInt32 31)).toInt32 &&& (858993459 : Int32))) + ((((x - ((x.toUInt32 >>> ((1 : Int32).toUInt32 &&& Int32.toUInt32 31)).toInt32 &&& (1431655765 : Int32))) &&& (858993459 : Int32)) + (((x - ((x.toUInt32 >>> ((1 : Int32).toUInt32 &&& Int32.toUInt32 31)).toInt32 &&& (1431655765 : Int32))).toUInt32 >>> ((2 : Int32).toUInt32 &&& Int32.toUInt32 31)).toInt32 &&& (858993459 : Int32))).toUInt32 >>> ((4 : Int32).toUInt32 &&& Int32.toUInt32 31)).toInt32) &&& (252645135 : Int32)) + ((((((x - ((x.toUInt32 >>> ((1 : Int32).toUInt32 &&& Int32.toUInt32 31)).toInt32 &&& (1431655765 : Int32))) &&& (858993459 : Int32)) + (((x - ((x.toUInt32 >>> ((1 : Int32).toUInt32 &&& Int32.toUInt32 31)).toInt32 &&& (1431655765 : Int32))).toUInt32 >>> ((2 : Int32).toUInt32 &&& Int32.toUInt32 31)).toInt32 &&& (858993459 : Int32))) + ((((x - ((x.toUInt32 >>> ((1 : Int32).toUInt32 &&& Int32.toUInt32 31)).toInt32 &&& (1431655765 : Int32))) &&& (858993459 : Int32)) + (((x - ((x.toUInt32 >>> ((1 : Int32).toUInt32 &&& Int32.toUInt32 31)).toInt32 &&& (1431655765 : Int32))).toUInt32 >>> ((2 : Int32).toUInt32 &&& Int32.toUInt32 31)).toInt32 &&& (858993459 : Int32))).toUInt32 >>> ((4 : Int32).toUInt32 &&& Int32.toUInt32 31)).toInt32) &&& (252645135 : Int32)).toUInt32 >>> ((8 : Int32).toUInt32 &&& Int32.toUInt32 31)).toInt32) + (((((((x - ((x.toUInt32 >>> ((1 : Int32).toUInt32 &&& Int32.toUInt32 31)).toInt32 &&& (1431655765 : Int32))) &&& (858993459 : Int32)) + (((x - ((x.toUInt32 >>> ((1 : Int32).toUInt32 &&& Int32.toUInt32 31)).toInt32 &&& (1431655765 : Int32))).toUInt32 >>> ((2 : Int32).toUInt32 &&& Int32.toUInt32 31)).toInt32 &&& (858993459 : Int32))) + ((((x - ((x.toUInt32 >>> ((1 : Int32).toUInt32 &&& Int32.toUInt32 31)).toInt32 &&& (1431655765 : Int32))) &&& (858993459 : Int32)) + (((x - ((x.toUInt32 >>> ((1 : Int32).toUInt32 &&& Int32.toUInt32 31)).toInt32 &&& (1431655765 : Int32))).toUInt32 >>> ((2 : Int32).toUInt32 &&& Int32.toUInt32 31)).toInt32 &&& (858993459 : Int32))).toUInt32 >>> ((4 : Int32).toUInt32 &&& Int32.toUInt32 31)).toInt32) &&& (252645135 : Int32)) + ((((((x - ((x.toUInt32 >>> ((1 : Int32).toUInt32 &&& Int32.toUInt32 31)).toInt32 &&& (1431655765 : Int32))) &&& (858993459 : Int32)) + (((x - ((x.toUInt32 >>> ((1 : Int32).toUInt32 &&& Int32.toUInt32 31)).toInt32 &&& (1431655765 : Int32))).toUInt32 >>> ((2 : Int32).toUInt32 &&& Int32.toUInt32 31)).toInt32 &&& (858993459 : Int32))) + ((((x - ((x.toUInt32 >>> ((1 : Int32).toUInt32 &&& Int32.toUInt32 31)).toInt32 &&& (1431655765 : Int32))) &&& (858993459 : Int32)) + (((x - ((x.toUInt32 >>> ((1 : Int32).toUInt32 &&& Int32.toUInt32 31)).toInt32 &&& (1431655765 : Int32))).toUInt32 >>> ((2 : Int32).toUInt32 &&& Int32.toUInt32 31)).toInt32 &&& (858993459 : Int32))).toUInt32 >>> ((4 : Int32).toUInt32 &&& Int32.toUInt32 31)).toInt32) &&& (252645135 : Int32)).toUInt32 >>> ((8 : Int32).toUInt32 &&& Int32.toUInt32 31)).toInt32).toUInt32 >>> ((16 : Int32).toUInt32 &&& Int32.toUInt32 31)).toInt32) &&& (63 : Int32)
theorem pcf_tab : ∀ a, a < 64 → ∀ b, b < 64 → pcf (nI (64 * a + b)) = nI (sCnt (nI (64 * a + b))) := by decide +kernel
theorem n12_of {x : Int32} (hx : sSub x 4095) : ∃ k, k < 4096 ∧ x = nI k := by
  have e := pk_and x (m := 4095) 12 (by decide)
  rw [and_of_sub hx] at e
  exact ⟨_, Nat.mod_lt _ (by decide), e⟩
theorem pcf_eq {x : Int32} (hx : sSub x 4095) : pcf x = nI (sCnt x) := by
  obtain ⟨k, hk, rfl⟩ := n12_of hx
  have := pcf_tab (k / 64) (by omega) (k % 64) (by omega)
  rw [show 64 * (k / 64) + k % 64 = k from by omega] at this
  exact this
theorem sSub_12 {N : Nat} {x : Int32} (hN : N < 13) (h : sSub x (sAll N)) : sSub x 4095 := h.trans (ntz_all hN)
theorem sCnt_N {N : Nat} {x : Int32} (hN : N < 13) (h : sSub x (sAll N)) : sCnt x ≤ N := by
  have := sCnt_mono h
  rw [sCnt_all N hN] at this
  exact this
theorem sCnt_0 {x : Int32} : sCnt x = 0 ↔ x = 0 := by
  constructor
  · intro h
    apply Classical.byContradiction
    intro hn
    have := sCnt_lt (x := 0) (y := x) sSub_0 (fun e => hn e.symm)
    omega
  · rintro rfl
    decide +kernel
theorem filt_oa (f g : Nat → Bool) : ∀ l : List Nat, (l.filter (fun i => f i || g i)).length + (l.filter (fun i => f i && g i)).length = (l.filter f).length + (l.filter g).length
  | [] => rfl
  | a :: l => by
    have ih := filt_oa f g l
    simp only [List.filter_cons]
    cases f a <;> cases g a <;> simp <;> omega
theorem sCnt_oa (x y : Int32) : sCnt (x ||| y) + sCnt (x &&& y) = sCnt x + sCnt y := by
  have := filt_oa (bt x) (bt y) (List.range 32)
  unfold sCnt
  simp only [b_or, b_and]
  exact this
theorem sCnt_bit1 : ∀ p, p < 32 → sCnt (sBit p) = 1 := by decide +kernel
theorem or_bit_t {x : Int32} {p : Nat} (hp : p < 32) (h : bt x p = true) : x ||| sBit p = x := or_eq_left.mpr (fun q hq hb => by
  rw [bt_sBit hp hq, decide_eq_true_eq] at hb
  rw [hb]; exact h)
theorem and_bit_f {x : Int32} {p : Nat} (hp : p < 32) (h : bt x p = false) : x &&& sBit p = 0 := b_ext fun i hi => by
  rw [b_and, bt_sBit hp hi, b_0]
  by_cases e : i = p
  · rw [e, h]; rfl
  · simp [e]
theorem sCnt_ob {x : Int32} {p : Nat} (hp : p < 32) : sCnt (x ||| sBit p) = sCnt x + (if bt x p = true then 0 else 1) := by
  cases h : bt x p
  · have := sCnt_oa x (sBit p)
    rw [and_bit_f hp h, sCnt_0.mpr rfl, sCnt_bit1 p hp] at this
    simp; omega
  · rw [or_bit_t hp h]; simp
/-- all the ways, counted -/
def cWn (w : Nat → Int32) : Nat → Nat
  | 0 => 0
  | p + 1 => cWn w p + sCnt (w p)
theorem cWn_congr {w w' : Nat → Int32} : ∀ N, (∀ p, p < N → w p = w' p) → cWn w N = cWn w' N
  | 0, _ => rfl
  | p + 1, h => by rw [cWn, cWn, cWn_congr p (fun q hq => h q (by omega)), h p (by omega)]
theorem upd_eq (w : Nat → Int32) (k : Nat) (x : Int32) : upd w k x k = x := by unfold upd; simp
theorem upd_ne {w : Nat → Int32} {k p : Nat} {x : Int32} (h : ¬ p = k) : upd w k x p = w p := by unfold upd; simp [h]
theorem cWn_upd {w : Nat → Int32} {k : Nat} {x : Int32} : ∀ N, cWn (upd w k x) N + (if k < N then sCnt (w k) else 0) = cWn w N + (if k < N then sCnt x else 0)
  | 0 => by simp [cWn]
  | p + 1 => by
    have ih := cWn_upd (w := w) (k := k) (x := x) p
    rw [cWn, cWn]
    by_cases e : p = k
    · subst e
      rw [upd_eq]
      simp at ih ⊢
      omega
    · rw [upd_ne e]
      by_cases e2 : k < p
      · rw [if_pos e2, if_pos e2] at ih
        rw [if_pos (by omega), if_pos (by omega)]; omega
      · rw [if_neg e2, if_neg e2] at ih
        rw [if_neg (by omega), if_neg (by omega)]; omega
theorem cWn_le {N : Nat} {w : Nat → Int32} (hN : N < 13) (hw : sMW N w) : ∀ M, M ≤ N → cWn w M ≤ 12 * M
  | 0, _ => Nat.le_refl _
  | p + 1, h => by
    have ih := cWn_le hN hw p (by omega)
    have := sCnt_N hN (hw p (by omega))
    rw [cWn]; omega
theorem fX0_countWaysE_4 {N : Nat} {w f : Nat → Int32} {K : Int32 → Int32 → Prop} (hN : N < 13) (hw : sMW N w) (hf : ∀ p, p < N → f p = w p) (hK : K (nI (cWn w N)) (nI N)) : ∀ (d p : Nat), p + d = N → qX0_countWays_4 f (nI N) K (d + 1) (nI (cWn w p)) (nI p)
  | 0, p, h => by
    have : p = N := by omega
    subst this
    exact ⟨fun _ => hK, fun hc => absurd (nI_le (Nat.le_refl p) (by omega)) hc⟩
  | d + 1, p, h => by
    have ih := fX0_countWaysE_4 hN hw hf hK d (p + 1) (by omega)
    rw [cWn, ← nI_add, ← pcf_eq (sSub_12 hN (hw p (by omega))), ← nI_1] at ih
    refine ⟨fun hc => absurd hc (nI_ge (by omega) (by omega)), fun _ => fX0_waysFrom (by omega) ?_⟩
    rw [hf p (by omega)]
    exact ih
theorem fX0_countWaysE {N : Nat} {w f : Nat → Int32} {post : Int32 → Prop} (hN : N < 13) (hw : sMW N w) (hf : ∀ p, p < N → f p = w p) (h : post (nI (cWn w N))) : qX0_countWays f (nI N) post := by
  have := fX0_countWaysE_4 (K := fun a _ => post a) hN hw hf h N 0 (by omega)
  exact ⟨N + 1, this⟩
theorem fX3_waysNowE_13 {N : Nat} {w : Nat → Int32} {K : Int32 → Int32 → Int32 → Prop} (hN : N < 13) (hw : sMW N w) (hK : ∀ a b, K (nI (cWn w N)) a b) : ∀ (d p : Nat), p + d = N → qX3_waysNow_13 N w K (d + 1) (nI (cWn w p)) (Int32.ofNat N) (nI p)
  | 0, p, h => by
    have : p = N := by omega
    subst this
    exact ⟨fun _ => hK _ _, fun hc => absurd (nI_le (Nat.le_refl p) (by omega)) hc⟩
  | d + 1, p, h => by
    have ih := fX3_waysNowE_13 hN hw hK d (p + 1) (by omega)
    rw [cWn, ← nI_add, ← pcf_eq (sSub_12 hN (hw p (by omega))), ← nI_1] at ih
    have hlt : ¬ (Int32.ofNat N) ≤ nI p := nI_ge (a := p) (b := N) (by omega) (by omega)
    refine ⟨fun hc => absurd hc hlt, fun _ => ⟨vp_in_nI (by omega) (by omega), ?_⟩⟩
    rw [nI_clamp (by omega)]
    exact ih
theorem fX3_waysNowE {N : Nat} {w : Nat → Int32} {post : Int32 → Prop} (hN : N < 13) (hw : sMW N w) (h : post (nI (cWn w N))) : qX3_waysNow N w post := by
  have := fX3_waysNowE_13 (K := fun a _ _ => post a) hN hw (fun _ _ => h) N 0 (by omega)
  exact ⟨N + 1, this⟩
/-- places with no way -/
def cSt (w : Nat → Int32) : Nat → Nat
  | 0 => 0
  | p + 1 => if w p = 0 then cSt w p + 1 else cSt w p
theorem fX0_withoutE_4 {N : Nat} {w f : Nat → Int32} {K : Int32 → Int32 → Prop} (hN : N < 13) (hf : ∀ p, p < N → f p = w p) (hK : K (nI (cSt w N)) (nI N)) : ∀ (d p : Nat), p + d = N → qX0_countWithoutWays_4 f (nI N) K (d + 1) (nI (cSt w p)) (nI p)
  | 0, p, h => by
    have : p = N := by omega
    subst this
    exact ⟨fun _ => hK, fun hc => absurd (nI_le (Nat.le_refl p) (by omega)) hc⟩
  | d + 1, p, h => by
    have ih := fX0_withoutE_4 hN hf hK d (p + 1) (by omega)
    rw [cSt] at ih
    refine ⟨fun hc => absurd hc (nI_ge (by omega) (by omega)), fun _ => fX0_waysFrom (by omega) ?_⟩
    rw [hf p (by omega)]
    refine ⟨fun hc => ?_, fun hc => ?_⟩
    · rw [if_neg hc] at ih; rw [nI_1]; exact ih
    · rw [if_pos hc] at ih; rw [nI_1, nI_1]; exact ih
theorem fX0_withoutE {N : Nat} {w f : Nat → Int32} {post : Int32 → Prop} (hN : N < 13) (hf : ∀ p, p < N → f p = w p) (h : post (nI (cSt w N))) : qX0_countWithoutWays f (nI N) post := by
  have := fX0_withoutE_4 (K := fun a _ => post a) hN hf h N 0 (by omega)
  exact ⟨N + 1, this⟩
theorem add0 (x : Int32) : x + 0 = x := Int32.add_zero x
theorem fX3_stuckE_13 {N : Nat} {w : Nat → Int32} {K : Int32 → Int32 → Int32 → Prop} (hN : N < 13) (hK : ∀ a b, K (nI (cSt w N)) a b) : ∀ (d p : Nat), p + d = N → qX3_stuck_13 N w K (d + 1) (nI (cSt w p)) (Int32.ofNat N) (nI p)
  | 0, p, h => by
    have : p = N := by omega
    subst this
    exact ⟨fun _ => hK _ _, fun hc => absurd (nI_le (Nat.le_refl p) (by omega)) hc⟩
  | d + 1, p, h => by
    have ih := fX3_stuckE_13 hN hK d (p + 1) (by omega)
    rw [cSt] at ih
    have hlt : ¬ (Int32.ofNat N) ≤ nI p := nI_ge (a := p) (b := N) (by omega) (by omega)
    refine ⟨fun hc => absurd hc hlt, fun _ => ⟨vp_in_nI (by omega) (by omega), ?_⟩⟩
    rw [nI_clamp (by omega)]
    refine ⟨fun hc => ?_, fun hc => ?_⟩
    · rw [if_neg hc] at ih; rw [add0, nI_1]; exact ih
    · rw [if_pos hc] at ih; rw [nI_1, nI_1]; exact ih
theorem fX3_stuckE {N : Nat} {w : Nat → Int32} {post : Int32 → Prop} (hN : N < 13) (h : post (nI (cSt w N))) : qX3_stuck N w post := by
  have := fX3_stuckE_13 (K := fun a _ _ => post a) hN (fun _ _ => h) N 0 (by omega)
  exact ⟨N + 1, this⟩
/-- the choices of a side, as a product -/
def chP (oo side : Int32) (w : Nat → Int32) : Nat → Int32
  | 0 => 1
  | p + 1 => if w p = 0 then chP oo side w p else if sOwn oo side p = true then chP oo side w p * pcf (w p) else chP oo side w p
theorem pcf_le0 {x : Int32} (hx : sSub x 4095) : pcf x ≤ 0 ↔ x = 0 := by
  have h32 := sCnt_le x
  rw [pcf_eq hx, ← nI_0, nI_leI (by omega) (by omega), Nat.le_zero, sCnt_0, nI_0]
theorem fX0_choicesE_4 {N : Nat} {w f : Nat → Int32} {oo a1 : Int32} {K : Int32 → Int32 → Prop} (hN : N < 13) (hw : sMW N w) (hf : ∀ p, p < N → f p = w p) (hK : K (chP oo a1 w N) (nI N)) : ∀ (d p : Nat), p + d = N → qX0_countChoices_4 f (nI N) oo a1 K (d + 1) (chP oo a1 w p) (nI p)
  | 0, p, h => by
    have : p = N := by omega
    subst this
    exact ⟨fun _ => hK, fun hc => absurd (nI_le (Nat.le_refl p) (by omega)) hc⟩
  | d + 1, p, h => by
    have ih := fX0_choicesE_4 hN hw hf hK d (p + 1) (by omega)
    rw [chP] at ih
    have hx := sSub_12 hN (hw p (by omega))
    refine ⟨fun hc => absurd hc (nI_ge (by omega) (by omega)), fun _ => fX0_waysFrom (by omega) ?_⟩
    rw [hf p (by omega), nI_1]
    refine ⟨fun hc => ?_, fun hc => ⟨fun hs => ?_, fun hs => ?_⟩⟩
    · rw [if_pos ((pcf_le0 hx).mp hc)] at ih; exact ih
    · have ho : ¬ sOwn oo a1 p = true := fun k => hs (of_decide_eq_true k)
      rw [if_neg (fun e => hc ((pcf_le0 hx).mpr e)), if_neg ho] at ih; exact ih
    · have ho : sOwn oo a1 p = true := decide_eq_true hs
      rw [if_neg (fun e => hc ((pcf_le0 hx).mpr e)), if_pos ho] at ih; exact ih
theorem fX0_choicesE {N : Nat} {w f : Nat → Int32} {oo a1 : Int32} {post : Int32 → Prop} (hN : N < 13) (hw : sMW N w) (hf : ∀ p, p < N → f p = w p) (h : post (chP oo a1 w N)) : qX0_countChoices f (nI N) oo a1 post := by
  have := fX0_choicesE_4 (K := fun a _ => post a) hN hw hf h N 0 (by omega)
  exact ⟨N + 1, this⟩
theorem fX3_choicesE_4 {N : Nat} {w : Nat → Int32} {oo a1 : Int32} {K : Int32 → Int32 → Prop} (hN : N < 13) (hK : K (chP oo a1 w N) (nI N)) : ∀ (d p : Nat), p + d = N → qX3_choicesOf_4 (nI N) oo N w a1 K (d + 1) (chP oo a1 w p) (nI p)
  | 0, p, h => by
    have : p = N := by omega
    subst this
    exact ⟨fun _ => hK, fun hc => absurd (nI_le (Nat.le_refl p) (by omega)) hc⟩
  | d + 1, p, h => by
    have ih := fX3_choicesE_4 hN hK d (p + 1) (by omega)
    rw [chP] at ih
    have hv : vp_in (nI p) N := vp_in_nI (by omega) (by omega)
    refine ⟨fun hc => absurd hc (nI_ge (by omega) (by omega)), fun _ => ⟨fun hs => ?_, fun hs => ⟨hv, ?_⟩⟩⟩
    · have ho : ¬ sOwn oo a1 p = true := fun k => hs (of_decide_eq_true k)
      rw [if_neg ho, ite_self] at ih; rw [nI_1]; exact ih
    · have ho : sOwn oo a1 p = true := decide_eq_true hs
      rw [nI_clamp (by omega), nI_1]
      refine ⟨fun hc => ?_, fun hc => ⟨hv, ?_⟩⟩
      · rw [if_pos hc] at ih; exact ih
      · rw [if_neg hc, if_pos ho] at ih; exact ih
theorem fX3_choicesE {N : Nat} {w : Nat → Int32} {oo a1 : Int32} {post : Int32 → Prop} (hN : N < 13) (h : post (chP oo a1 w N)) : qX3_choicesOf (nI N) oo N w a1 post := by
  have := fX3_choicesE_4 (K := fun a _ => post a) hN h N 0 (by omega)
  exact ⟨N + 1, this⟩
/-- the places with a way to a place -/
def wIn (w : Nat → Int32) (a : Nat) : Nat → Int32
  | 0 => 0
  | p + 1 => if bt (w p) a = true then wIn w a p ||| ((1 : Int32) <<< (nI p &&& (31 : Int32))) else wIn w a p
theorem fX0_intoE_4 {N a : Nat} {w f : Nat → Int32} {K : Int32 → Int32 → Prop} (hN : N < 13) (ha : a < 32) (hf : ∀ p, p < N → f p = w p) (hK : K (wIn w a N) (nI N)) : ∀ (d p : Nat), p + d = N → qX0_waysInto_4 f (nI N) (nI a) K (d + 1) (wIn w a p) (nI p)
  | 0, p, h => by
    have : p = N := by omega
    subst this
    exact ⟨fun _ => hK, fun hc => absurd (nI_le (Nat.le_refl p) (by omega)) hc⟩
  | d + 1, p, h => by
    have ih := fX0_intoE_4 hN ha hf hK d (p + 1) (by omega)
    rw [wIn] at ih
    refine ⟨fun hc => absurd hc (nI_ge (by omega) (by omega)), fun _ => fX0_waysFrom (by omega) ?_⟩
    rw [hf p (by omega), nI_1]
    refine fX1_has ha (fun hb => ⟨fun _ => ?_, fun e => absurd rfl e⟩) (fun hb => ⟨fun e => absurd e (by decide), fun _ => ?_⟩)
    · rw [if_neg (by rw [hb]; decide)] at ih; exact ih
    · rw [if_pos hb] at ih; exact ih
theorem fX0_intoE {N a : Nat} {w f : Nat → Int32} {post : Int32 → Prop} (hN : N < 13) (ha : a < 32) (hf : ∀ p, p < N → f p = w p) (h : post (wIn w a N)) : qX0_waysInto f (nI N) (nI a) post := by
  have := fX0_intoE_4 (K := fun x _ => post x) hN ha hf h N 0 (by omega)
  exact ⟨N + 1, this⟩
theorem or0 (x : Int32) : x ||| 0 = x := or_eq_left.mpr sSub_0
theorem fX3_intoE_66 {N a : Nat} {w : Nat → Int32} {K : Int32 → Int32 → Prop} (hN : N < 13) (ha : a < 32) (hK : K (wIn w a N) (nI N)) : ∀ (d p : Nat), p + d = N → qX3_ofPlaceNow_66 (nI N) N w (nI a) K (d + 1) (wIn w a p) (nI p)
  | 0, p, h => by
    have : p = N := by omega
    subst this
    exact ⟨fun _ => hK, fun hc => absurd (nI_le (Nat.le_refl p) (by omega)) hc⟩
  | d + 1, p, h => by
    have ih := fX3_intoE_66 hN ha hK d (p + 1) (by omega)
    rw [wIn] at ih
    refine ⟨fun hc => absurd hc (nI_ge (by omega) (by omega)), fun _ => ⟨vp_in_nI (by omega) (by omega), ?_⟩⟩
    rw [nI_clamp (by omega), nI_1, or0]
    refine fX3_isIn ha (fun hb => ⟨fun _ => ?_, fun e => absurd rfl e⟩) (fun hb => ⟨fun e => absurd e (by decide), fun _ => ?_⟩)
    · rw [if_neg (by rw [hb]; decide)] at ih; exact ih
    · rw [if_pos hb] at ih; exact ih
theorem sPre_congr {w w' : Nat → Int32} (sec set side : Int32) : ∀ N, (∀ p, p < N → w p = w' p) → sPre w sec set side N = sPre w' sec set side N
  | 0, _ => rfl
  | p + 1, h => by
    have e : sCond w sec set side p = sCond w' sec set side p := by unfold sCond; rw [h p (by omega)]
    rw [sPre, sPre, sPre_congr sec set side p (fun q hq => h q (by omega)), e]
