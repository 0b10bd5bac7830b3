/-! words of one list among another's, by blocks of 32 -/
def chn (l : List Cond) : Nat → List Cond
  | 0 => l
  | k + 1 => (chn l k).drop 32
theorem chn_in {l : List Cond} {w : Cond} : ∀ k, w ∈ chn l k → w ∈ l
  | 0, h => h
  | k + 1, h => chn_in k (List.mem_of_mem_drop h)
theorem goodIn_rc {big : List Cond} (ws : List Cond) (ps : List (Nat × Nat)) (hp : ws = ps.filterMap (fun q => (chn big q.1)[q.2]?)) (h : ws.all goodWord = true) : GoodIn big ws := by
  intro w hw
  have h1 := List.all_eq_true.mp h w hw
  rw [hp] at hw
  obtain ⟨q, -, hq⟩ := List.mem_filterMap.mp hw
  have m2 : w ∈ chn big q.1 := by first | exact List.mem_of_getElem? hq | exact List.getElem?_mem hq
  exact ⟨chn_in _ m2, good_of_word h1⟩
