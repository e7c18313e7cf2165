/-- the choice: the first of the least turns among those not yet met -/
theorem slO_none {σ : wS} {d : Nat} : ∀ {k : Nat}, slO σ d k = none → ∀ i, i < k → ¬ σ.1 31 i = 0
  | 0, _, i, hi => by omega
  | k + 1, h, i, hi => by
    rw [slO] at h
    cases hs : slO σ d k with
    | none =>
      rw [hs] at h
      simp only at h
      split at h
      · cases h
      · next hk =>
        rcases Nat.lt_or_ge i k with q | q
        · exact slO_none hs i q
        · obtain rfl : i = k := by omega
          exact hk
    | some j =>
      rw [hs] at h
      simp only at h
      split at h <;> cases h
theorem slO_some {σ : wS} {d : Nat} : ∀ {k x : Nat}, slO σ d k = some x → σ.1 31 x = 0 ∧ ∀ i, i < k → σ.1 31 i = 0 → (tM σ d x < tM σ d i ∨ (tM σ d x = tM σ d i ∧ x ≤ i))
  | 0, x, h => by simp [slO] at h
  | k + 1, x, h => by
    rw [slO] at h
    cases hs : slO σ d k with
    | none =>
      rw [hs] at h
      simp only at h
      split at h
      · next hk =>
        cases h
        refine ⟨hk, fun i hi h0 => ?_⟩
        rcases Nat.lt_or_ge i k with q | q
        · exact absurd h0 (slO_none hs i q)
        · obtain rfl : i = k := by omega
          exact Or.inr ⟨rfl, Nat.le_refl _⟩
      · cases h
    | some j =>
      rw [hs] at h
      simp only at h
      obtain ⟨h1, h2⟩ := slO_some hs
      have hjk := slO_lt hs
      split at h
      · next hk =>
        cases h
        refine ⟨hk.1, fun i hi h0 => ?_⟩
        rcases Nat.lt_or_ge i k with q | q
        · rcases h2 i q h0 with z | z
          · exact Or.inl (Int32.lt_trans hk.2 z)
          · exact Or.inl (by rw [← z.1]; exact hk.2)
        · obtain rfl : i = k := by omega
          exact Or.inr ⟨rfl, Nat.le_refl _⟩
      · next hk =>
        cases h
        refine ⟨h1, fun i hi h0 => ?_⟩
        rcases Nat.lt_or_ge i k with q | q
        · exact h2 i q h0
        · obtain rfl : i = k := by omega
          rcases Int32_lt_or (fun z => hk ⟨h0, z⟩) with y | y
          · exact Or.inl y
          · exact Or.inr ⟨y, by omega⟩
/-- the line's order is the choice's: when those not met are f j .. f (z - 1) -/
theorem slO_line {σ : wS} {d n z j : Nat} {f : Nat → Nat} (hm : ∀ k, k < n → (σ.1 31 k = 0 ↔ ∃ q, j ≤ q ∧ q < z ∧ f q = k)) (hf : ∀ q, q < z → f q < n) (ho : ∀ a b, a < b → b < z → (tM σ d (f a) < tM σ d (f b) ∨ (tM σ d (f a) = tM σ d (f b) ∧ f a < f b))) : (j < z → slO σ d n = some (f j)) ∧ (z ≤ j → slO σ d n = none) := by
  refine ⟨fun hj => ?_, fun hj => ?_⟩
  · cases hs : slO σ d n with
    | none => exact absurd ((hm (f j) (hf j hj)).mpr ⟨j, Nat.le_refl _, hj, rfl⟩) (slO_none hs (f j) (hf j hj))
    | some x =>
      obtain ⟨h1, h2⟩ := slO_some hs
      obtain ⟨q, hq1, hq2, rfl⟩ := (hm x (slO_lt hs)).mp h1
      rcases Nat.lt_or_ge j q with y | y
      · have a := ho j q y hq2
        have b := h2 (f j) (hf j hj) ((hm (f j) (hf j hj)).mpr ⟨j, Nat.le_refl _, hj, rfl⟩)
        exfalso
        rcases a with a | a <;> rcases b with b | b
        · exact Int32.lt_irrefl (Int32.lt_trans a b)
        · rw [b.1] at a; exact Int32.lt_irrefl a
        · rw [a.1] at b; exact Int32.lt_irrefl b
        · omega
      · obtain rfl : q = j := by omega
        rfl
  · cases hs : slO σ d n with
    | none => rfl
    | some x =>
      obtain ⟨q, hq1, hq2, -⟩ := (hm x (slO_lt hs)).mp (slO_some hs).1
      omega
