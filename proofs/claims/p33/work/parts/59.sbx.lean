/-! The text: it fits, whatever is put to it. -/
def sbI (c bl : Nat) (bf : Nat → Int32) : Prop := c ≤ bl ∧ 16 ≤ bl ∧ bl ≤ 2 * c + 16 ∧ sb_Fit bf
theorem sh0l (x : Int32) : x <<< ((0 : Int32) &&& (31 : Int32)) = x := b_ext fun i hi => by
  have e := b_shl 0 (by omega) x hi
  rw [nI_0] at e
  rw [e]; simp
theorem sh0r (x : Int32) : x >>> ((0 : Int32) &&& (31 : Int32)) = x := b_ext fun i hi => by
  have e := b_sshr 0 (by omega) x hi
  rw [nI_0] at e
  rw [e, if_pos (by omega), Nat.zero_add]
theorem nI_sub {a b : Nat} (h : b ≤ a) : nI a - nI b = nI (a - b) := by
  have e : nI (a - b) + nI b = nI a := by rw [nI_add, Nat.sub_add_cancel h]
  rw [← e]; exact Int32.add_sub_cancel _ _
theorem nI_subn {a b : Nat} (h : a ≤ b) : nI a - nI b = -nI (b - a) := by
  rw [← nI_sub h]; exact Int32.neg_sub.symm
theorem nI_sub0 {a b : Nat} (h : a ≤ b) (hb : b < 2 ^ 31) : nI a - nI b ≤ 0 := by
  rw [nI_subn h]
  have e : (0 : Int32) = -nI 0 := by decide
  rw [e]
  exact (sb_nle (by omega) (by omega)).mpr (by omega)
theorem clamp0 : (0 : Int32).toNatClampNeg = 0 := by decide
theorem fJ5_newCapacity {bl m : Nat} {post : Int32 → Prop} (hb : bl ≤ 240) (hm : m ≤ 240) (hlt : bl < m) (h : post (nI (bl + max (m - bl) (bl + 2)))) : qJ5_newCapacity_0f7a4 bl (nI m) post := by
  have e : (Int32.ofNat bl) + (if ((nI m <<< ((0 : Int32) &&& (31 : Int32))) - (Int32.ofNat bl)) < ((Int32.ofNat bl) + ((2 : Int32) <<< ((0 : Int32) &&& (31 : Int32)))) then ((Int32.ofNat bl) + ((2 : Int32) <<< ((0 : Int32) &&& (31 : Int32)))) else ((nI m <<< ((0 : Int32) &&& (31 : Int32))) - (Int32.ofNat bl))) = nI (bl + max (m - bl) (bl + 2)) := by
    have e2 : (2 : Int32) = nI 2 := by decide
    have e3 : Int32.ofNat bl = nI bl := rfl
    rw [sh0l, sh0l, e3, e2, nI_sub (by omega), nI_add]
    split
    · next hc =>
      rw [nI_ltI (by omega) (by omega)] at hc
      rw [nI_add, Nat.max_eq_right (by omega)]
    · next hc =>
      rw [nI_ltI (by omega) (by omega)] at hc
      rw [nI_add, Nat.max_eq_left (by omega)]
  refine uJ5_newCapacity_0f7a4 (uJ8_newLength_cabcc ?_)
  rw [e]
  refine ⟨fun hc => absurd hc (nI_nle (by omega) (by omega)), fun _ => ⟨fun hc => absurd hc (nI_nlt (a := 2147483639) (by omega) (by omega)), fun _ => ⟨fun _ => ?_, fun hc => absurd ((nI_eq (b := 2147483647) (by omega) (by omega)).mp hc) (by omega)⟩⟩⟩
  rw [sh0r]; exact h
theorem fJ7_copyOf {bl R : Nat} {bf : Nat → Int32} {post : Nat → (Nat → Int32) → Nat → (Nat → Int32) → Prop} (hf : sb_Fit bf) (hR : R ≤ 300) (hlt : bl < R) (h : ∀ g, sb_Fit g → post bl bf R g) : qJ7_copyOf_9075bW bl bf (nI R) post := by
  have e3 : Int32.ofNat bl = nI bl := rfl
  have e : (if (nI R) < (Int32.ofNat bl) then (nI R) else (Int32.ofNat bl)) = nI bl := by
    rw [e3, if_neg (nI_nlt (by omega) (by omega))]
  refine uJ7_copyOf_9075bW ?_
  rw [e, e3, clamp0, nI_clamp (by omega), nI_clamp (by omega)]
  refine ⟨fun _ => ⟨nI_pos (by omega), by omega, by decide, by decide, nI_pos (by omega), by omega, by omega, fun i _ => hf _, h _ (sb_fitC hf sb_fit0)⟩, fun hc => absurd ((nI_eq (by omega) (by omega)).mp hc) (by omega)⟩
theorem fJ5_ensure {c m bl : Nat} {bf : Nat → Int32} {post : Int32 → Nat → (Nat → Int32) → Prop} (hs : sbI c bl bf) (hc100 : c ≤ 100) (hm : m ≤ c + 2) (hm2 : m ≤ 110) (h : ∀ bl' bf', m ≤ bl' → sbI c bl' bf' ∨ (16 ≤ bl' ∧ bl' ≤ 2 * m ∧ c ≤ bl' ∧ sb_Fit bf') → post (nI c) bl' bf') : qJ5_ensureCapacityInternal_d00dfW (nI c) bl bf (nI m) post := by
  have hs0 := hs
  obtain ⟨h1, h2, h3, h4⟩ := hs
  have e3 : Int32.ofNat bl = nI bl := rfl
  refine uJ5_ensureCapacityInternal_d00dfW ?_
  rw [e3, sh0r]
  by_cases hle : m ≤ bl
  · exact ⟨fun _ => h _ _ hle (Or.inl hs0), fun hc => absurd (nI_sub0 hle (by omega)) hc⟩
  · refine ⟨fun hc => ?_, fun _ => ?_⟩
    · rw [nI_sub (by omega)] at hc
      exact absurd hc (nI_nle (by omega) (by omega))
    · refine fJ5_newCapacity (by omega) (by omega) (by omega) ?_
      rw [sh0l]
      refine fJ7_copyOf h4 (by omega) (by omega) (fun g hg => h _ _ (by omega) (Or.inr ⟨by omega, by omega, by omega, hg⟩))
theorem sb_of {c m bl bl' : Nat} {bf' : Nat → Int32} (hs : 16 ≤ bl) (hb : bl ≤ 2 * c + 16) (hcm : c ≤ m) (hm : m ≤ bl') (h : sbI c bl' bf' ∨ (16 ≤ bl' ∧ bl' ≤ 2 * m ∧ c ≤ bl' ∧ sb_Fit bf')) : sbI m bl' bf' := by
  rcases h with ⟨h1, h2, h3, h4⟩ | ⟨h1, h2, h3, h4⟩
  · exact ⟨hm, h2, by omega, h4⟩
  · exact ⟨hm, h1, by omega, h4⟩
theorem sb_fitN {a : Nat → Int32} {k : Nat} {x : Int32} (h : sb_Fit a) : sb_Fit (upd a k (vp_nar .byte x)) := sb_fitU h (by rw [vp_nar_byte]; exact pk_fb _)
theorem sbChar {c bl : Nat} {bf : Nat → Int32} {a1 : Int32} {post : Int32 → Nat → (Nat → Int32) → Prop} (hs : sbI c bl bf) (hc : c ≤ 90) (ha : ¬ (255 : Int32) < a1) (h : ∀ bl' bf', sbI (c + 1) bl' bf' → post (nI (c + 1)) bl' bf') : qJ4_append_cf468W (nI c) bl bf a1 post := by
  refine uJ4_append_cf468W (uJ5_append_3fe6fW ?_)
  rw [nI_1]
  refine fJ5_ensure hs (by omega) (by omega) (by omega) (fun bl' bf' hm hs' => ?_)
  have hk := sb_of (m := c + 1) hs.2.1 hs.2.2.1 (by omega) hm hs'
  refine uJ5_isLatin1_aae02 ⟨fun e => absurd e (by decide), fun _ => uJ1_canEncode_fc78d ⟨fun e => absurd e ha, fun _ => ⟨fun e => absurd e (by decide), fun _ => ⟨vp_in_nI (by omega) (by have := hk.2.2.1; omega), ?_⟩⟩⟩⟩
  rw [nI_1]
  exact h _ _ ⟨hk.1, hk.2.1, hk.2.2.1, sb_fitN hk.2.2.2⟩
theorem stz1 : ∀ p, p < 10 → ¬ (-nI p) ≤ (-10 : Int32) := by decide +kernel
theorem stz2 : ∀ p, p < 12 → ¬ (-nI p) ≤ (10 : Int32) * (-10 : Int32) := by decide +kernel
theorem stz3 : ∀ p, p < 12 → 10 ≤ p → (-nI p) ≤ (-10 : Int32) := by decide +kernel
theorem fJ6_stringSize {p : Nat} {post : Int32 → Prop} (hp : p < 12) (h : ∀ k, 1 ≤ k → k ≤ 2 → (9 < p → k = 2) → post (nI k)) : qJ6_stringSize_0f7a4 (nI p) post := by
  refine uJ6_stringSize_0f7a4 ⟨fun hc => absurd hc (nI_pos (by omega)), fun _ => uJ6_stringSize_0f7a4_j11 ⟨3, ?_⟩⟩
  refine ⟨fun hc => absurd hc (by decide), fun _ => ⟨fun hc => ?_, fun hc => ?_⟩⟩
  · refine ⟨fun hc => absurd hc (by decide), fun _ => ⟨fun hc => absurd hc (stz2 p hp), fun hc => h 2 (by omega) (by omega) (fun _ => rfl)⟩⟩
  · refine h 1 (by omega) (by omega) (fun h9 => absurd (stz3 p hp (by omega)) hc)
theorem neg_neg32 (x : Int32) : - -x = x := by
  first | exact Int32.neg_neg x | (apply Int32.toBitVec_inj.mp; simp)
theorem stz4 : ∀ p, p < 12 → (-100 : Int32) < (-nI p) := by decide +kernel
theorem stz5 : ∀ p, p < 12 → 10 ≤ p → ¬ (-9 : Int32) ≤ (-nI p) := by decide +kernel
theorem stz6 : ∀ p, p < 12 → p < 10 → (-9 : Int32) ≤ (-nI p) := by decide +kernel
theorem nI_m1 (a : Nat) : nI (a + 1) + (-1 : Int32) = nI a := by
  have := nI_pred a
  rw [← this]
  apply Int32.toBitVec_inj.mp; simp [Int32.toBitVec_add, Int32.toBitVec_sub, BitVec.sub_eq_add_neg]
theorem fJ6_getChars {c k p bl : Nat} {bf dO dT : Nat → Int32} {post : Int32 → Nat → (Nat → Int32) → Prop} (hf : sb_Fit bf) (hp : p < 12) (hk : 1 ≤ k) (hk2 : 9 < p → 2 ≤ k) (hc : c + k ≤ bl) (hb : bl ≤ 300) (h : ∀ r g, sb_Fit g → post r bl g) : qJ6_getChars_ba4f3W bl bf dO dT (nI p) (nI (c + k)) post := by
  refine uJ6_getChars_ba4f3W ⟨fun _ => ?_, fun e => absurd (nI_pos' (by omega)) e⟩
  refine uJ6_getChars_ba4f3W_j12 ⟨fun e => absurd rfl e, fun _ => ⟨1, ?_⟩⟩
  refine ⟨fun _ => ?_, fun e => absurd (stz4 p hp) e⟩
  obtain ⟨k, rfl⟩ : ∃ j, k = j + 1 := ⟨k - 1, by omega⟩
  have e1 : c + (k + 1) = (c + k) + 1 := by omega
  rw [neg_neg32, e1, nI_m1]
  refine ⟨vp_in_nI (by omega) (by omega), vp_in_nI (by omega) (by omega), fun h9 => ?_, fun h9 => ?_⟩
  · exact uJ6_getChars_ba4f3W_j1104 ⟨fun _ => h _ _ (sb_fitN hf), fun e => absurd rfl e⟩
  · have : 9 < p := by
      apply Classical.byContradiction
      intro hn
      exact h9 (stz6 p hp (by omega))
    obtain ⟨k, rfl⟩ : ∃ j, k = j + 1 := ⟨k - 1, by have := hk2 this; omega⟩
    have e2 : c + (k + 1) = (c + k) + 1 := by omega
    rw [e2, nI_m1]
    exact ⟨vp_in_nI (by omega) (by omega), vp_in_nI (by omega) (by omega), uJ6_getChars_ba4f3W_j1104 ⟨fun _ => h _ _ (sb_fitN (sb_fitN hf)), fun e => absurd rfl e⟩⟩
theorem sbInt {c bl p : Nat} {bf dO dT : Nat → Int32} {post : Int32 → Nat → (Nat → Int32) → Prop} (hs : sbI c bl bf) (hc : c ≤ 90) (hp : p < 12) (h : ∀ c' bl' bf', c' ≤ c + 2 → sbI c' bl' bf' → post (nI c') bl' bf') : qJ4_append_bf812W (nI c) bl bf dO dT (nI p) post := by
  refine uJ4_append_bf812W (uJ5_append_c97b9W (fJ6_stringSize hp (fun k hk hk2 hk9 => ?_)))
  rw [nI_add]
  refine fJ5_ensure hs (by omega) (by omega) (by omega) (fun bl' bf' hm hs' => ?_)
  have hkk := sb_of (m := c + k) hs.2.1 hs.2.2.1 (by omega) hm hs'
  refine uJ5_isLatin1_aae02 ⟨fun e => absurd e (by decide), fun _ => ?_⟩
  exact fJ6_getChars hkk.2.2.2 hp hk (fun h9 => by have := hk9 h9; omega) hkk.1 (by have := hkk.2.2.1; omega) (fun r g hg => h _ _ _ (by omega) ⟨hkk.1, hkk.2.1, hkk.2.2.1, hg⟩)
theorem litF : ∀ ix, ix < 3 → ∀ i, i < 1 → fits .byte (.int ((([[], [32], [45]] : List (List Int32)).getD ix []).getD (0 + i) 0)) = true := by decide +kernel
theorem litL : ∀ ix, ix < 3 → ([0, 1, 1] : List Nat).getD ix 0 ≤ 1 := by decide +kernel
theorem sbStr {c bl ix : Nat} {bf : Nat → Int32} {post : Int32 → Nat → (Nat → Int32) → Prop} (hs : sbI c bl bf) (hc : c ≤ 90) (hix : ix < 3) (h : ∀ c' bl' bf', c' ≤ c + 1 → sbI c' bl' bf' → post (nI c') bl' bf') : qJ4_append_15ec4W (nI c) bl bf ix post := by
  refine uJ4_append_15ec4W (uJ5_append_cf1ceW (uJ0_length_8abf5 (uJ0_coder_7d493 ?_)))
  have hl := litL ix hix
  have hF := litF ix hix
  generalize hg : ([0, 1, 1] : List Nat).getD ix 0 = l at hl ⊢
  have e3 : Int32.ofNat l = nI l := rfl
  rw [sh0r, e3, nI_add]
  refine fJ5_ensure hs (by omega) (by omega) (by omega) (fun bl' bf' hm hs' => ?_)
  have hk := sb_of (m := c + l) hs.2.1 hs.2.2.1 (by omega) hm hs'
  refine uJ5_putStringAt_47b60W (uJ5_inflateIfNeededFor_a7421W (uJ0_coder_7d493 ⟨fun _ => ?_, fun e => absurd rfl e⟩))
  refine uJ0_getBytes_840e7W (uJ0_coder_7d493 ⟨fun e => absurd rfl e, fun _ => ?_⟩)
  rw [hg, e3, sh0l, clamp0, nI_clamp (by omega), nI_clamp (by have := hk.2.2.1; have := hk.1; omega)]
  refine ⟨by decide, nI_pos (by omega), nI_pos (by omega), by omega, by have := hk.1; omega, fun i hi => hF i (by omega), ?_⟩
  rw [nI_add]
  refine h _ _ _ (by omega) ⟨hk.1, hk.2.1, hk.2.2.1, ?_⟩
  intro i
  unfold va_cpy
  split
  · next hh => exact hF _ (by omega)
  · exact hk.2.2.2 i
theorem sbInit {post : Int32 → Nat → (Nat → Int32) → Prop} (h : ∀ bl bf, sbI 0 bl bf → post (nI 0) bl bf) : qJ4_init_da8c8W 0 post := by
  refine uJ4_init_da8c8W (uJ5_init_d00dfW ⟨by decide, by decide, ?_⟩)
  exact h _ _ ⟨by decide, by decide, by decide, sb_fit0⟩
theorem sbEnd {c bl : Nat} {bf : Nat → Int32} {post : Int32 → Int32 → Int32 → Nat → (Nat → Int32) → Int32 → Nat → (Nat → Int32) → Prop} (hs : sbI c bl bf) (hc : c ≤ 100) (h : ∀ a b d e f g i j, post a b d e f g i j) : qJ4_toString_0e30dW (nI c) bl bf post := by
  obtain ⟨h1, h2, h3, h4⟩ := hs
  have e3 : Int32.ofNat bl = nI bl := rfl
  have e0 : nI c - (0 : Int32) = nI c := by
    have := nI_sub (a := c) (b := 0) (by omega)
    rw [nI_0] at this; exact this
  have e0b : nI bl - (0 : Int32) = nI bl := by
    have := nI_sub (a := bl) (b := 0) (by omega)
    rw [nI_0] at this; exact this
  refine uJ4_toString_0e30dW (uJ0_init_81219W (uJ0_init_db425W (uJ5_getValue_6d5f1 (uJ4_length_8abf5 (uJ5_length_8abf5 (uJ5_isLatin1_aae02 ⟨fun e => absurd e (by decide), fun _ => ?_⟩))))))
  refine uJ7_copyOfRange_39247W ⟨fun e => absurd rfl e, fun _ => ⟨fun _ => ⟨by omega, fun i _ => h4 i, h ..⟩, fun _ => ?_⟩⟩
  have e : (if ((nI c) - (0 : Int32)) < ((Int32.ofNat bl) - (0 : Int32)) then ((nI c) - (0 : Int32)) else ((Int32.ofNat bl) - (0 : Int32))) = nI c := by
    rw [e3, e0, e0b]
    split
    · rfl
    · next hn =>
      rw [nI_ltI (by omega) (by omega)] at hn
      rw [show bl = c from by omega]
  refine uJ7_copyOfRangeByte_39247W (uJ7_checkLength_df160 ⟨fun _ => ?_, fun e => absurd (nI_pos' (by omega)) e⟩)
  rw [e, e0, clamp0, nI_clamp (by omega)]
  exact ⟨nI_pos (by omega), by omega, by decide, by decide, nI_pos (by omega), by omega, by omega, fun i _ => h4 _, h ..⟩
