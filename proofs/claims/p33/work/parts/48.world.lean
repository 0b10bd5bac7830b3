/-! What the law's entry gives: the classes, the arrays' kinds, the statics, the text constants. -/
def kGv : Cond := Jvm.Cond.and given_1 narrow_1
abbrev kTs : Nat → Term := fun i => .string "RoadgameModel" ([129, 137, 156].getD i 0)
def kD1 (j : Nat) : Int32 := Int32.ofNat (48 + j % 10)
def kD2 (j : Nat) : Int32 := Int32.ofNat (48 + j / 10)
theorem kDig1 : ∀ j, j < 100 → (flatC kGv)[14 + j]? = some (Cond.eq (.elem (.static "java/lang/Integer" "DigitOnes" "[B") (.int (Int32.ofNat j))) (.int (kD1 j))) := by decide +kernel
theorem kDig2 : ∀ j, j < 100 → (flatC kGv)[117 + j]? = some (Cond.eq (.elem (.static "java/lang/Integer" "DigitTens" "[B") (.int (Int32.ofNat j))) (.int (kD2 j))) := by decide +kernel
section KWD
variable {s : State} {args : Array Value}
theorem kArr {ty : FieldType} (h : (Cond.arrayClass ty).before args s = true) : ∃ cA : ClassId, ArrOfT s cA ty ∧ s.vm.findClass ("[" ++ ty.toString) = some cA := by
  obtain ⟨cA, kA, comp, h1, h2, h3⟩ := Cond.arrayClass_spec (args := args) (first := s) (o := none) (s := s) (idx := []) h
  exact ⟨cA, fun n z => ⟨fun k h => (by cases h), kA, h2, comp, h3⟩, h1⟩
theorem kKn (hts : ∀ w ∈ lw_tbl, w.before args s = true) : ∃ (D : va_G) (cI cB : ClassId), va_K D vwCl (kT cI cB) s := by
  obtain ⟨c0, i0, h0⟩ := u_known (C := RJ0) (T := TJ0) (N := 4) (n := 4) hts inJ0 (hts (.instantiable RJ0 4) (by decide +kernel))
  obtain ⟨c1, i1, h1⟩ := u_known (C := RJ4) (T := TJ4) (N := 4) (n := 4) hts inJ4 (hts (.instantiable RJ4 4) (by decide +kernel))
  obtain ⟨c2, i2, h2⟩ := u_known (C := RX0) (T := TX0) (N := 6) (n := 6) hts inX0 (hts (.instantiable RX0 6) (by decide +kernel))
  obtain ⟨c3, i3, h3⟩ := u_known (C := RX1) (T := TX1) (N := 7) (n := 7) hts inX1 (hts (.instantiable RX1 7) (by decide +kernel))
  obtain ⟨c4, i4, h4⟩ := u_known (C := RX2) (T := TX2) (N := 2) (n := 2) hts inX2 (hts (.instantiable RX2 2) (by decide +kernel))
  obtain ⟨c5, i5, h5⟩ := u_known (C := RX3) (T := TX3) (N := 11) (n := 11) hts inX3 (hts (.instantiable RX3 11) (by decide +kernel))
  obtain ⟨cI, a1, a2⟩ := kArr (ty := .int) (hts (.arrayClass .int) (by decide +kernel))
  obtain ⟨cB, b1, b2⟩ := kArr (ty := .byte) (hts (.arrayClass .byte) (by decide +kernel))
  refine ⟨(fun k => match k with | 0 => c0 | 1 => c1 | 2 => c2 | 3 => c3 | 4 => c4 | _ => c5, fun k => match k with | 0 => i0 | 1 => i1 | 2 => i2 | 3 => i3 | 4 => i4 | _ => i5), cI, cB, fun k q hq => ?_, fun k q hq => ?_⟩
  · match k, hq with
    | 0, hq => cases hq; exact h0
    | 1, hq => cases hq; exact h1
    | 2, hq => cases hq; exact h2
    | 3, hq => cases hq; exact h3
    | 4, hq => cases hq; exact h4
    | 5, hq => cases hq; exact h5
    | k + 6, hq => simp [vwCl] at hq
  · match k, hq with
    | 0, hq => cases hq; exact ⟨a1, a2⟩
    | 1, hq => cases hq; exact ⟨b1, b2⟩
    | k + 2, hq => simp [kT] at hq
theorem kNo : ∀ a : Nat, a < s.heap.size → ¬ kLA s a := fun _ h => Nat.not_le.mpr h
theorem kN_of (hts : ∀ w ∈ lw_tbl, w.before args s = true) : kN s :=
  ⟨va_Nw.of rfl (hts (.fieldLinkNest RX1 23 "Roadgame$Chart" "size" "I" "Roadgame") (by decide +kernel)), va_Nw.of rfl (hts (.fieldLinkNest RX1 96 "Roadgame$Chart" "second" "I" "Roadgame") (by decide +kernel)), va_Nw.of rfl (hts (.fieldLinkNest RX1 63 "Roadgame$Chart" "goal" "I" "Roadgame") (by decide +kernel)), va_Nw.of rfl (hts (.methodLinkNest RX0 39 yX1_has "Roadgame") (by decide +kernel)), va_Nw.of rfl (hts (.methodLinkNest RX0 81 yX1_least "Roadgame") (by decide +kernel))⟩
theorem kLw_of (hts : ∀ w ∈ lw_tbl, w.before args s = true) (hs : ∀ w ∈ flatC kGv, w.before args s = true) : kLw s :=
  ⟨va_Nw.of rfl (hts (.methodLinkNest RL 130 yX2_init "RoadgameLaw") (by decide +kernel)), va_Nw.of rfl (hts (.fieldLinkNest RL 13 "RoadgameLaw$Out" "n" "J" "RoadgameLaw") (by decide +kernel)), va_Nw.of rfl (hts (.fieldLinkNest RL 68 "RoadgameLaw$Out" "s" "Ljava/lang/String;" "RoadgameLaw") (by decide +kernel)), va_Nc.of (hs (.not (.castable kIA kIO)) (by decide +kernel))⟩
theorem kXl_in : ∀ w ∈ kXl, w ∈ lw_tbl := by decide +kernel
theorem kRs {own tx : String} {k : Nat} (h1 : (Cond.stringRef own k tx).before args s = true) (h2 : (Cond.exactly (.string own k) "java/lang/String").before args s = true) : ∃ a, vk_R own k tx a s := by
  obtain ⟨a, c, cA, kA, q1, -⟩ := Cond.exactly_spec (args := args) (first := s) (o := none) (s := s) (idx := []) h2
  exact ⟨a, vk_R.of h1 q1⟩
theorem kX_of (hts : ∀ w ∈ lw_tbl, w.before args s = true) (hs : ∀ w ∈ flatC kGv, w.before args s = true) : kX (kLA s) s :=
  ⟨vx_Zqof (hts (.laysStatic Bundle.tN "UNASSIGNED_STACK" Bundle.steD) (by decide +kernel)) (hts (.initialized Bundle.tN) (by decide +kernel)) (hs (.isRef (.static Bundle.tN "UNASSIGNED_STACK" Bundle.steD)) (by decide +kernel)) kNo,
   vx_Zqof (hts (.laysStatic Bundle.tN "SUPPRESSED_SENTINEL" Bundle.listD) (by decide +kernel)) (hts (.initialized Bundle.tN) (by decide +kernel)) (hs (.isRef (.static Bundle.tN "SUPPRESSED_SENTINEL" Bundle.listD)) (by decide +kernel)) kNo,
   kRs (hts (.stringRef RX1 228 "out of what is let") (by decide +kernel)) (hs (.exactly (.string RX1 228) "java/lang/String") (by decide +kernel)),
   kRs (hts (.stringRef RX1 221 "no such place") (by decide +kernel)) (hs (.exactly (.string RX1 221) "java/lang/String") (by decide +kernel)),
   fun w hw => va_Nw.of (kXl_tab w hw) (hts w (kXl_in w hw))⟩
theorem kDg {n : String} {f : Nat → Int32} {o : Nat} (hts : ∀ w ∈ lw_tbl, w.before args s = true) (hs : ∀ w ∈ flatC kGv, w.before args s = true)
    (hd : ∀ j, j < 100 → (flatC kGv)[o + j]? = some (Cond.eq (.elem (.static "java/lang/Integer" n "[B") (.int (Int32.ofNat j))) (.int (f j))))
    (h1 : Cond.laysStatic "java/lang/Integer" n "[B" ∈ lw_tbl) (h2 : Cond.initialized "java/lang/Integer" ∈ lw_tbl) (h3 : Cond.arrayOf (.static "java/lang/Integer" n "[B") .byte ∈ flatC kGv) (h4 : Cond.eq (.length (.static "java/lang/Integer" n "[B")) (.int 100) ∈ flatC kGv) :
    ∃ t : Nat, va_Z "java/lang/Integer" n "[B" (.ref t) (kLA s) s s.heap ∧ va_T .byte t 100 (fun j => .int (f j)) (kLA s) s s.heap := by
  obtain ⟨t, ht, hT⟩ := va_Tof (A := kLA s) (N := 100) (f := fun j => .int (f j)) (by decide) (hs _ h3) (va_eqt (hs _ h4)) (fun j hj => va_eqt (hs _ (List.mem_of_getElem? (hd j hj)))) kNo
  exact ⟨t, va_Zof (hts _ h1) (hts _ h2) ht kNo, hT⟩
theorem kT3 {P : Nat → Prop} (h0 : P 0) (h1 : P 1) (h2 : P 2) : ∀ i, i < 3 → P i := fun i hi => match i, hi with
  | 0, _ => h0
  | 1, _ => h1
  | 2, _ => h2
  | _ + 3, h => absurd h (by omega)
theorem kSt_of (hts : ∀ w ∈ lw_tbl, w.before args s = true) (hs : ∀ w ∈ flatC kGv, w.before args s = true) : ∃ adK adV : Nat → Nat, kSt kD1 kD2 adK adV (kLA s) s := by
  obtain ⟨adK, adV, hS, hE⟩ := vk_Sof (args := args) (s := s) (A := kLA s) (N := 3) (tm := kTs) (len := [0, 1, 1]) (byt := [[], [32], [45]]) (kT3 (by decide) (by decide) (by decide))
    (kT3 (hs _ (by decide +kernel)) (hs _ (by decide +kernel)) (hs _ (by decide +kernel))) (kT3 (hs _ (by decide +kernel)) (hs _ (by decide +kernel)) (hs _ (by decide +kernel)))
    (kT3 (hs _ (by decide +kernel)) (hs _ (by decide +kernel)) (hs _ (by decide +kernel))) (kT3 (hs _ (by decide +kernel)) (hs _ (by decide +kernel)) (hs _ (by decide +kernel)))
    (kT3 (fun j hj => absurd hj (Nat.not_lt_zero j)) (fun j hj => by obtain rfl : j = 0 := Nat.lt_one_iff.mp hj; exact hs _ (by decide +kernel)) (fun j hj => by obtain rfl : j = 0 := Nat.lt_one_iff.mp hj; exact hs _ (by decide +kernel)))
    (fun i j hi hj => kT3 (P := fun i => i ≠ j → (Cond.not (Cond.eq (kTs i) (kTs j))).before args s = true ∨ (Cond.not (Cond.eq (kTs j) (kTs i))).before args s = true) (kT3 (P := fun j => 0 ≠ j → (Cond.not (Cond.eq (kTs 0) (kTs j))).before args s = true ∨ (Cond.not (Cond.eq (kTs j) (kTs 0))).before args s = true) (fun h => absurd rfl h) (fun _ => Or.inl (hs _ (by decide +kernel))) (fun _ => Or.inl (hs _ (by decide +kernel))) j hj)
      (kT3 (P := fun j => 1 ≠ j → (Cond.not (Cond.eq (kTs 1) (kTs j))).before args s = true ∨ (Cond.not (Cond.eq (kTs j) (kTs 1))).before args s = true) (fun _ => Or.inr (hs _ (by decide +kernel))) (fun h => absurd rfl h) (fun _ => Or.inl (hs _ (by decide +kernel))) j hj)
      (kT3 (P := fun j => 2 ≠ j → (Cond.not (Cond.eq (kTs 2) (kTs j))).before args s = true ∨ (Cond.not (Cond.eq (kTs j) (kTs 2))).before args s = true) (fun _ => Or.inr (hs _ (by decide +kernel))) (fun _ => Or.inr (hs _ (by decide +kernel))) (fun h => absurd rfl h) j hj) i hi) kNo
  refine ⟨adK, adV, va_Zof (hts (.laysStatic "java/lang/String" "COMPACT_STRINGS" "Z") (by decide +kernel)) (hts (.initialized "java/lang/String") (by decide +kernel)) (va_eqi (hs _ (by decide +kernel))) kNo,
    kDg hts hs kDig1 (by decide +kernel) (by decide +kernel) (by decide +kernel) (by decide +kernel), kDg hts hs kDig2 (by decide +kernel) (by decide +kernel) (by decide +kernel) (by decide +kernel), hS,
    vk_R.of (hts (.stringRef RX3 129 "") (by decide +kernel)) (hE 0 (by decide)), vk_R.of (hts (.stringRef RX3 137 " ") (by decide +kernel)) (hE 1 (by decide)), vk_R.of (hts (.stringRef RX3 156 "-") (by decide +kernel)) (hE 2 (by decide)),
    va_Nw.of rfl (hts (.castable "[B" "java/lang/Cloneable") (by decide +kernel))⟩
end KWD
theorem kF_of {p : Program} {s : State} {m : MethodId} {meth : Method} {c : Code} {b L : Nat} {xs : Nat → Int32} (l : Launch) (hflags : l.flags = flags0) (C0 : lw_At p s m meth c b L xs) : ∃ (D : va_G) (cI cB : ClassId) (adK adV : Nat → Nat), kLF p l s m meth c b L xs D cI cB kD1 kD2 adK adV := by
  obtain ⟨hx, hb, hr, hml, hown, hts, hX, hbl, hlocks, hgv⟩ := C0
  have hs : ∀ w ∈ flatC kGv, w.before #[Value.ref b] s = true := flat_of_before _ hgv
  obtain ⟨D, cI, cB, hK⟩ := kKn hts
  obtain ⟨adK, adV, hT⟩ := kSt_of hts hs
  exact ⟨D, cI, cB, adK, adV, hx, hb, hr, hml, hown, fun w hw => hts w (wsL_law_in w hw), hlocks, by rw [Launch.stackTraces, hflags]; decide +kernel, hK, kN_of hts, kX_of hts hs, kLw_of hts hs, hT, hX, hbl⟩
