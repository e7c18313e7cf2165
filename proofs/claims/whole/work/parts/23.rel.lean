theorem upd_cong {f h : Nat → Int32} {B k : Nat} {x : Int32} (hh : ∀ j, j < B → f j = h j) : ∀ j, j < B → upd f k x j = upd h k x j := fun j hj => by
  by_cases e : j = k
  · subst e; rw [show upd f j x j = x from if_pos rfl, show upd h j x j = x from if_pos rfl]
  · rw [show upd f k x j = f j from if_neg e, show upd h k x j = h j from if_neg e, hh j hj]
/-- the reading of a charter goes by the bytes alone -/
theorem xP_cong {bs bs2 : Nat → Int32} {dr : Nat} (hb : ∀ j, j < dr → bs j = bs2 j) : ∀ (m o : Nat) (b : Bool) (tr tr2 : Nat → Int32), m ≤ dr → (∀ j, j < 6 → tr j = tr2 j) → (xP bs dr m o b tr).1 = (xP bs2 dr m o b tr2).1 ∧ ∀ j, j < 6 → (xP bs dr m o b tr).2 j = (xP bs2 dr m o b tr2).2 j
  | 0, o, b, tr, tr2, _, ht => ⟨rfl, ht⟩
  | m + 1, o, b, tr, tr2, hm, ht => by
    have hk : bs (dr - (m + 1)) = bs2 (dr - (m + 1)) := hb _ (by omega)
    by_cases hd : dgC (bs (dr - (m + 1)))
    · have hd2 : dgC (bs2 (dr - (m + 1))) := hk ▸ hd
      by_cases ho : o ≤ 2
      · have eo : tr o = tr2 o := ht o (by omega)
        by_cases h9 : 999 < 10 * tr o + (bs (dr - (m + 1)) - 48)
        · have h92 : 999 < 10 * tr2 o + (bs2 (dr - (m + 1)) - 48) := by rw [← eo, ← hk]; exact h9
          rw [xP_big hd ho h9, xP_big hd2 ho h92]
          exact ⟨rfl, by rw [eo, hk]; exact upd_cong ht⟩
        · have h92 : ¬ 999 < 10 * tr2 o + (bs2 (dr - (m + 1)) - 48) := by rw [← eo, ← hk]; exact h9
          rw [xP_dig hd ho h9, xP_dig hd2 ho h92, eo, hk]
          exact xP_cong hb m o false _ _ (by omega) (upd_cong ht)
      · rw [xP_op hd ho, xP_op hd2 ho]
        exact ⟨rfl, ht⟩
    · have hd2 : ¬ dgC (bs2 (dr - (m + 1))) := hk ▸ hd
      by_cases hx : b = true ∨ itm (bs (dr - (m + 1))) = 6
      · rw [xP_bad hd hx, xP_bad hd2 (hk ▸ hx)]
        exact ⟨rfl, ht⟩
      · obtain rfl : b = false := by
          cases b
          · rfl
          · exact absurd (Or.inl rfl) hx
        have h6 : ¬ itm (bs (dr - (m + 1))) = 6 := fun z => hx (Or.inr z)
        rw [xP_let hd h6, xP_let hd2 (hk ▸ h6), hk]
        exact xP_cong hb m _ _ _ _ (by omega) (upd_cong ht)
