/-- one part of a loading, on both sides -/
theorem minI {a b : Nat} (ha : a < 2 ^ 31) (hb : b < 2 ^ 31) : (if nI a < nI b then nI a else nI b) = nI (min a b) := by
  by_cases h : a < b
  · rw [if_pos (nI_lt h hb), Nat.min_eq_left (by omega)]
  · rw [if_neg (fun z => h (nI_lt' z ha hb)), Nat.min_eq_right (by omega)]
theorem minI2 {a b : Nat} (ha : a < 2 ^ 31) (hb : b < 2 ^ 31) : (if nI a ≤ nI b then nI a else nI b) = nI (min a b) := by
  by_cases h : a ≤ b
  · rw [if_pos (nI_le h hb), Nat.min_eq_left h]
  · rw [if_neg (fun z => h (nI_le' z ha hb)), Nat.min_eq_right (by omega)]
theorem part_x {un wn tn t : Nat} (h1 : un ≤ wn) (h2 : un ≤ tn) (hw : wn ≤ 900) (ht : tn ≤ 60) (h5 : t ≤ 5000) : (if nI t < nI (min wn tn) - nI un then nI t else nI (min wn tn) - nI un) = nI (min t (min wn tn - un)) := by
  rw [pk_sub (by omega), minI (by omega) (by omega)]
theorem part_m {un wn tn t : Nat} (h1 : un ≤ wn) (h2 : un ≤ tn) (hw : wn ≤ 900) (ht : tn ≤ 60) (h5 : t ≤ 5000) : (if (if nI tn - nI un ≤ nI (wn - un) then nI tn - nI un else nI (wn - un)) ≤ nI t then (if nI tn - nI un ≤ nI (wn - un) then nI tn - nI un else nI (wn - un)) else nI t) = nI (min t (min wn tn - un)) := by
  rw [pk_sub h2, minI2 (by omega) (by omega), minI2 (by omega) (by omega)]
  congr 1
  omega
theorem taF_n (sw : Int32) (pl : Nat) : ∃ tn, tn ≤ 60 ∧ taF sw pl = nI tn := by
  rw [taF]
  split
  · exact ⟨60, by decide, rfl⟩
  · split
    · exact ⟨0, by decide, rfl⟩
    · exact ⟨15, by decide, rfl⟩
/-- the digging of the class and the loading of the reference go alike, layer by layer -/
theorem dg_ms {s q : wS} {x ly wn tn : Nat} (hw : wn ≤ 900) (ht : tn ≤ 60) (hq20 : q.1 20 x = nI wn) (t : Nat → Nat) (ht3 : ∀ k, k < ly → s.1 3 k = nI (t k) ∧ q.1 16 k = nI (t k) ∧ t k ≤ 5000) (hc : ∀ k, k < ly → s.1 (33 + 4 * x) k = q.1 23 (6 * x + k)) : ∀ k, k ≤ ly → ∃ (un : Nat) (t2 : Nat → Nat), un ≤ wn ∧ un ≤ tn ∧ (dgS s x (nI (min wn tn)) k).2 = nI un ∧ (mS q x (nI tn) k).2 = nI un ∧ (mS q x (nI tn) k).1.1 20 x = nI (wn - un) ∧ (∀ j, j < ly → (dgS s x (nI (min wn tn)) k).1.1 3 j = nI (t2 j) ∧ (mS q x (nI tn) k).1.1 16 j = nI (t2 j) ∧ t2 j ≤ 5000) ∧ (∀ j, j < ly → (dgS s x (nI (min wn tn)) k).1.1 (33 + 4 * x) j = (mS q x (nI tn) k).1.1 23 (6 * x + j))
  | 0, _ => ⟨0, t, Nat.zero_le _, Nat.zero_le _, rfl, rfl, hq20, ht3, hc⟩
  | k + 1, hk => by
    obtain ⟨un, t2, h1, h2, hu, hm, h20, h3, h4⟩ := dg_ms hw ht hq20 t ht3 hc k (by omega)
    obtain ⟨a3, a16, a5⟩ := h3 k (by omega)
    have hX : dgP (dgS s x (nI (min wn tn)) k).1 (dgS s x (nI (min wn tn)) k).2 (nI (min wn tn)) k = nI (min (t2 k) (min wn tn - un)) := by
      rw [dgP, a3, hu]; exact part_x h1 h2 hw ht a5
    have hM : mP (mS q x (nI tn) k).1 x (mS q x (nI tn) k).2 (nI tn) k = nI (min (t2 k) (min wn tn - un)) := by
      rw [mP, a16, hm, h20]; exact part_m h1 h2 hw ht a5
    refine ⟨un + min (t2 k) (min wn tn - un), fun j => if j = k then t2 k - min (t2 k) (min wn tn - un) else t2 j, by omega, by omega, ?_, ?_, ?_, ?_, ?_⟩
    · rw [dgS, hX, hu]; exact nI_add _ _
    · rw [mS, hM, hm]; exact nI_add _ _
    · rw [mS, hM]
      refine wu_s.trans ?_
      rw [h20, pk_sub (by omega)]
      congr 1
      omega
    · intro j hj
      obtain ⟨b3, b16, b5⟩ := h3 j hj
      rw [dgS, mS, hX, hM]
      by_cases e : j = k
      · subst e
        refine ⟨(wu_o (by omega)).trans (wu_s.trans ?_), (wu_o (by decide)).trans ((wu_o (by decide)).trans (wu_s.trans ?_)), ?_⟩
        · rw [b3, pk_sub (by omega)]; dsimp only; rw [if_pos rfl]
        · rw [b16, pk_sub (by omega)]; dsimp only; rw [if_pos rfl]
        · dsimp only; rw [if_pos rfl]; omega
      · refine ⟨(wu_o (by omega)).trans ((wu_d e).trans ?_), (wu_o (by decide)).trans ((wu_o (by decide)).trans ((wu_d e).trans ?_)), ?_⟩
        · rw [b3]; dsimp only; rw [if_neg e]
        · rw [b16]; dsimp only; rw [if_neg e]
        · dsimp only; rw [if_neg e]; exact b5
    · intro j hj
      rw [dgS, mS, hX, hM]
      by_cases e : j = k
      · subst e
        refine (wu_s).trans (Eq.symm ((wu_o (by decide)).trans (wu_s.trans ?_)))
        rw [h4 j hj]
      · refine ((wu_d e).trans (wu_o (by omega))).trans (Eq.symm ((wu_o (by decide)).trans ((wu_d (by omega)).trans ((wu_o (by decide)).trans ?_))))
        exact (h4 j hj).symm
