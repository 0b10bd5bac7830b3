/-! Sets of places as numbers: bits, the set of all, the set ahead. -/
def sBit (p : Nat) : Int32 := (1 : Int32) <<< (nI p &&& (31 : Int32))
def sAll (N : Nat) : Int32 := ((1 : Int32) <<< (nI N &&& (31 : Int32))) - (1 : Int32)
theorem b_1 : ∀ q, q < 32 → bt 1 q = decide (q = 0) := by decide +kernel
theorem bt_sBit {p q : Nat} (hp : p < 32) (hq : q < 32) : bt (sBit p) q = decide (q = p) := by
  unfold sBit
  rw [b_shl p hp 1 hq]
  by_cases h : p ≤ q
  · rw [b_1 (q - p) (by omega)]
    by_cases h2 : q = p
    · subst h2; simp
    · have : ¬ q - p = 0 := by omega
      simp [h, h2, this]
  · have : ¬ q = p := by omega
    simp [h, this]
theorem bt_sAll : ∀ N, N < 13 → ∀ q, q < 32 → bt (sAll N) q = decide (q < N) := by decide +kernel
theorem bt_not (x : Int32) {q : Nat} (hq : q < 32) : bt (x ^^^ (-1)) q = !bt x q := by rw [b_xor, b_m1 q hq]; cases bt x q <;> rfl
theorem has_val (x : Int32) {p : Nat} (hp : p < 32) : ((x >>> (nI p &&& (31 : Int32))) &&& (1 : Int32)) = if bt x p then 1 else 0 := by
  apply b_ext
  intro i hi
  rw [b_and, b_1 i hi, b_sshr p hp x hi]
  by_cases h0 : i = 0
  · subst h0
    rw [if_pos (by omega), Nat.add_zero]
    cases bt x p
    · simp [b_0]
    · simp [b_1 0 (by omega)]
  · simp only [h0, decide_false, Bool.and_false]
    cases bt x p
    · simp [b_0]
    · simp [b_1 i hi, h0]
theorem has_0 (x : Int32) {p : Nat} (hp : p < 32) : ((x >>> (nI p &&& (31 : Int32))) &&& (1 : Int32)) = 0 ↔ bt x p = false := by
  rw [has_val x hp]
  cases bt x p
  · simp
  · simp
theorem has_1 (x : Int32) {p : Nat} (hp : p < 32) : ((x >>> (nI p &&& (31 : Int32))) &&& (1 : Int32)) = 1 ↔ bt x p = true := by
  rw [has_val x hp]
  cases bt x p
  · simp
  · simp
theorem and_ne0 (x y : Int32) : ¬ (x &&& y) = 0 ↔ ∃ q, q < 32 ∧ bt x q = true ∧ bt y q = true := by
  constructor
  · intro h
    apply Classical.byContradiction
    intro hn
    apply h
    apply b_ext
    intro i hi
    rw [b_and, b_0]
    cases hx : bt x i
    · rfl
    · cases hy : bt y i
      · rfl
      · exact absurd ⟨i, hi, hx, hy⟩ hn
  · rintro ⟨q, hq, hx, hy⟩ h
    have := b_and x y q
    rw [h, b_0, hx, hy] at this
    cases this
theorem and_e0 (x y : Int32) : (x &&& y) = 0 ↔ ∀ q, q < 32 → bt x q = true → bt y q = false := by
  constructor
  · intro h q hq hx
    have := b_and x y q
    rw [h, b_0, hx, Bool.true_and] at this
    exact this.symm
  · intro h
    apply b_ext
    intro i hi
    rw [b_and, b_0]
    cases hx : bt x i
    · rfl
    · rw [h i hi hx]; rfl
/-- a set within another -/
def sSub (x y : Int32) : Prop := ∀ q, q < 32 → bt x q = true → bt y q = true
theorem sSub.rfl {x : Int32} : sSub x x := fun _ _ h => h
theorem sSub.trans {x y z : Int32} (h : sSub x y) (k : sSub y z) : sSub x z := fun q hq hx => k q hq (h q hq hx)
theorem sSub.antisymm {x y : Int32} (h : sSub x y) (k : sSub y x) : x = y := b_ext fun i hi => by
  cases hx : bt x i
  · cases hy : bt y i
    · rfl
    · rw [k i hi hy] at hx; cases hx
  · rw [h i hi hx]
theorem sSub_or {x y z : Int32} : sSub (x ||| y) z ↔ sSub x z ∧ sSub y z := by
  constructor
  · intro h
    exact ⟨fun q hq hx => h q hq (by rw [b_or, hx]; rfl), fun q hq hx => h q hq (by rw [b_or, hx, Bool.or_true])⟩
  · rintro ⟨h1, h2⟩ q hq hx
    rw [b_or, Bool.or_eq_true] at hx
    rcases hx with hx | hx
    · exact h1 q hq hx
    · exact h2 q hq hx
theorem sSub_orl {x y : Int32} : sSub x (x ||| y) := (sSub_or.mp sSub.rfl).1
theorem sSub_orr {x y : Int32} : sSub y (x ||| y) := (sSub_or.mp sSub.rfl).2
theorem sSub_and {x y z : Int32} : sSub z (x &&& y) ↔ sSub z x ∧ sSub z y := by
  constructor
  · intro h
    constructor
    · intro q hq hz
      have := h q hq hz
      rw [b_and, Bool.and_eq_true] at this
      exact this.1
    · intro q hq hz
      have := h q hq hz
      rw [b_and, Bool.and_eq_true] at this
      exact this.2
  · rintro ⟨h1, h2⟩ q hq hz
    rw [b_and, h1 q hq hz, h2 q hq hz]; rfl
theorem sSub_andl {x y : Int32} : sSub (x &&& y) x := (sSub_and.mp sSub.rfl).1
theorem sSub_andr {x y : Int32} : sSub (x &&& y) y := (sSub_and.mp sSub.rfl).2
theorem sSub_0 {x : Int32} : sSub 0 x := fun q _ h => by rw [b_0] at h; cases h
theorem or_eq_left {x y : Int32} : (x ||| y) = x ↔ sSub y x := by
  constructor
  · intro h
    have : sSub y (x ||| y) := sSub_orr
    rw [h] at this
    exact this
  · intro h
    exact sSub.antisymm (sSub_or.mpr ⟨sSub.rfl, h⟩) sSub_orl
/-- how many bits are set, below 32 -/
def sCnt (x : Int32) : Nat := ((List.range 32).filter (fun i => bt x i)).length
theorem sCnt_le (x : Int32) : sCnt x ≤ 32 := by
  have := List.length_filter_le (fun i => bt x i) (List.range 32)
  rw [List.length_range] at this
  exact this
theorem filt_le {f g : Nat → Bool} : ∀ (l : List Nat), (∀ i ∈ l, f i = true → g i = true) → (l.filter f).length ≤ (l.filter g).length
  | [], _ => Nat.le_refl _
  | a :: l, h => by
    have ih := filt_le (f := f) (g := g) l (fun i hi => h i (List.mem_cons_of_mem _ hi))
    cases hf : f a
    · cases hg : g a
      · simp [hf, hg, ih]
      · simp [hf, hg]; omega
    · have hg := h a List.mem_cons_self hf
      simp [hf, hg, ih]
theorem filt_lt {f g : Nat → Bool} : ∀ (l : List Nat), (∀ i ∈ l, f i = true → g i = true) → (∃ i ∈ l, f i = false ∧ g i = true) → (l.filter f).length < (l.filter g).length
  | [], _, h => by obtain ⟨i, hi, _⟩ := h; cases hi
  | a :: l, h, h2 => by
    have hl := fun i hi => h i (List.mem_cons_of_mem a hi)
    have le := filt_le (f := f) (g := g) l hl
    obtain ⟨i, hi, h3, h4⟩ := h2
    rcases List.mem_cons.mp hi with rfl | hi
    · simp [h3, h4]; omega
    · have lt := filt_lt (f := f) (g := g) l hl ⟨i, hi, h3, h4⟩
      cases hf : f a
      · cases hg : g a
        · simp [hf, hg, lt]
        · simp [hf, hg]; omega
      · have hg := h a List.mem_cons_self hf
        simp [hf, hg, lt]
theorem sCnt_mono {x y : Int32} (h : sSub x y) : sCnt x ≤ sCnt y := filt_le _ (fun i hi => h i (List.mem_range.mp hi))
theorem sCnt_lt {x y : Int32} (h : sSub x y) (hne : ¬ x = y) : sCnt x < sCnt y := by
  apply filt_lt _ (fun i hi => h i (List.mem_range.mp hi))
  apply Classical.byContradiction
  intro hn
  apply hne
  apply b_ext
  intro i hi
  cases hx : bt x i
  · cases hy : bt y i
    · rfl
    · exact absurd ⟨i, List.mem_range.mpr hi, hx, hy⟩ hn
  · rw [h i hi hx]
/-- from where a side sees to it that the next place is in a set: a place p, and all below N -/
def sOwn (sec side : Int32) (p : Nat) : Bool := decide (((sec >>> (nI p &&& (31 : Int32))) &&& (1 : Int32)) = side)
def sCond (w : Nat → Int32) (sec set side : Int32) (p : Nat) : Bool := if sOwn sec side p then decide (¬ (w p &&& set) = 0) else decide ((w p &&& (set ^^^ (-1))) = 0)
def sPre (w : Nat → Int32) (sec set side : Int32) : Nat → Int32
  | 0 => 0
  | p + 1 => if sCond w sec set side p then sPre w sec set side p ||| sBit p else sPre w sec set side p
theorem bt_sPre (w : Nat → Int32) (sec set side : Int32) : ∀ N, N ≤ 32 → ∀ q, q < 32 → bt (sPre w sec set side N) q = (decide (q < N) && sCond w sec set side q)
  | 0, _, q, _ => by rw [sPre, b_0]; simp
  | p + 1, hp, q, hq => by
    have ih := bt_sPre w sec set side p (by omega) q hq
    rw [sPre]
    by_cases hqp : q = p
    · subst hqp
      cases hc : sCond w sec set side q
      · rw [if_neg (by simp), ih]; simp
      · rw [if_pos rfl, b_or, ih, bt_sBit (by omega) hq]; simp
    · have e : decide (q < p + 1) = decide (q < p) := by
        apply decide_eq_decide.mpr; omega
      rw [e]
      cases hc : sCond w sec set side p
      · rw [if_neg (by simp), ih]
      · rw [if_pos rfl, b_or, ih, bt_sBit (by omega) hq]; simp [hqp]
theorem sCond_mono (w : Nat → Int32) (sec side : Int32) {x y : Int32} (h : sSub x y) (p : Nat) (hc : sCond w sec x side p = true) : sCond w sec y side p = true := by
  unfold sCond at hc ⊢
  cases ho : sOwn sec side p
  · rw [ho] at hc
    simp only [Bool.false_eq_true, if_false, decide_eq_true_eq] at hc ⊢
    rw [and_e0] at hc ⊢
    intro q hq hw
    have := hc q hq hw
    rw [bt_not _ hq] at this ⊢
    cases hx : bt x q
    · rw [hx] at this; cases this
    · rw [h q hq hx]; rfl
  · rw [ho] at hc
    simp only [if_true, decide_eq_true_eq] at hc ⊢
    rw [and_ne0] at hc ⊢
    obtain ⟨q, hq, h1, h2⟩ := hc
    exact ⟨q, hq, h1, h q hq h2⟩
theorem sPre_mono (w : Nat → Int32) (sec side : Int32) {N : Nat} (hN : N ≤ 32) {x y : Int32} (h : sSub x y) : sSub (sPre w sec x side N) (sPre w sec y side N) := by
  intro q hq hb
  rw [bt_sPre w sec _ side N hN q hq, Bool.and_eq_true] at hb ⊢
  exact ⟨hb.1, sCond_mono w sec side h q hb.2⟩
theorem sPre_all (w : Nat → Int32) (sec side x : Int32) {N : Nat} (hN : N < 13) : sSub (sPre w sec x side N) (sAll N) := by
  intro q hq hb
  rw [bt_sPre w sec _ side N (by omega) q hq, Bool.and_eq_true] at hb
  rw [bt_sAll N hN q hq]
  exact hb.1
