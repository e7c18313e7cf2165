/-- one part of a loading, on both sides -/
theorem minI {a b : Nat} (ha : a < 2 ^ 31) (hb : b < 2 ^ 31) : (if nI a < nI b then nI a else nI b) = nI (min a b) := by
  by_cases h : a < b
  · rw [if_pos (nI_lt h hb), Nat.min_eq_left (by omega)]
  · rw [if_neg (fun z => h (nI_lt' z ha hb)), Nat.min_eq_right (by omega)]
theorem minI2 {a b : Nat} (ha : a < 2 ^ 31) (hb : b < 2 ^ 31) : (if nI a ≤ nI b then nI a else nI b) = nI (min a b) := by
  by_cases h : a ≤ b
  · rw [if_pos (nI_le h hb), Nat.min_eq_left h]
  · rw [if_neg (fun z => h (nI_le' z ha hb)), Nat.min_eq_right (by omega)]
theorem part_x {un wn tn t : Nat} (h1 : un ≤ wn) (h2 : un ≤ tn) (hw : wn ≤ 900) (ht : tn ≤ 60) (h5 : t ≤ 5000) : (if nI t < nI (min wn tn) - nI un then nI t else nI (min wn tn) - nI un) = nI (min t (min wn tn - un)) := by
  rw [pk_sub (by omega), minI (by omega) (by omega)]
theorem part_m {un wn tn t : Nat} (h1 : un ≤ wn) (h2 : un ≤ tn) (hw : wn ≤ 900) (ht : tn ≤ 60) (h5 : t ≤ 5000) : (if (if nI tn - nI un ≤ nI (wn - un) then nI tn - nI un else nI (wn - un)) ≤ nI t then (if nI tn - nI un ≤ nI (wn - un) then nI tn - nI un else nI (wn - un)) else nI t) = nI (min t (min wn tn - un)) := by
  rw [pk_sub h2, minI2 (by omega) (by omega), minI2 (by omega) (by omega)]
  congr 1
  omega
theorem taF_n (sw : Int32) (pl : Nat) : ∃ tn, tn ≤ 60 ∧ taF sw pl = nI tn := by
  rw [taF]
  split
  · exact ⟨60, by decide, rfl⟩
  · split
    · exact ⟨0, by decide, rfl⟩
    · exact ⟨15, by decide, rfl⟩
