theorem upd_cong {f h : Nat → Int32} {B k : Nat} {x : Int32} (hh : ∀ j, j < B → f j = h j) : ∀ j, j < B → upd f k x j = upd h k x j := fun j hj => by
  by_cases e : j = k
  · subst e; rw [show upd f j x j = x from if_pos rfl, show upd h j x j = x from if_pos rfl]
  · rw [show upd f k x j = f j from if_neg e, show upd h k x j = h j from if_neg e, hh j hj]
/-- the reading of a charter goes by the bytes alone -/
theorem xP_cong {bs bs2 : Nat → Int32} {dr : Nat} (hb : ∀ j, j < dr → bs j = bs2 j) : ∀ (m o : Nat) (b : Bool) (tr tr2 : Nat → Int32), m ≤ dr → (∀ j, j < 6 → tr j = tr2 j) → (xP bs dr m o b tr).1 = (xP bs2 dr m o b tr2).1 ∧ ∀ j, j < 6 → (xP bs dr m o b tr).2 j = (xP bs2 dr m o b tr2).2 j
  | 0, o, b, tr, tr2, _, ht => ⟨rfl, ht⟩
  | m + 1, o, b, tr, tr2, hm, ht => by
    have hk : bs (dr - (m + 1)) = bs2 (dr - (m + 1)) := hb _ (by omega)
    by_cases hd : dgC (bs (dr - (m + 1)))
    · have hd2 : dgC (bs2 (dr - (m + 1))) := hk ▸ hd
      by_cases ho : o ≤ 2
      · have eo : tr o = tr2 o := ht o (by omega)
        by_cases h9 : 999 < 10 * tr o + (bs (dr - (m + 1)) - 48)
        · have h92 : 999 < 10 * tr2 o + (bs2 (dr - (m + 1)) - 48) := by rw [← eo, ← hk]; exact h9
          rw [xP_big hd ho h9, xP_big hd2 ho h92]
          exact ⟨rfl, by rw [eo, hk]; exact upd_cong ht⟩
        · have h92 : ¬ 999 < 10 * tr2 o + (bs2 (dr - (m + 1)) - 48) := by rw [← eo, ← hk]; exact h9
          rw [xP_dig hd ho h9, xP_dig hd2 ho h92, eo, hk]
          exact xP_cong hb m o false _ _ (by omega) (upd_cong ht)
      · rw [xP_op hd ho, xP_op hd2 ho]
        exact ⟨rfl, ht⟩
    · have hd2 : ¬ dgC (bs2 (dr - (m + 1))) := hk ▸ hd
      by_cases hx : b = true ∨ itm (bs (dr - (m + 1))) = 6
      · rw [xP_bad hd hx, xP_bad hd2 (hk ▸ hx)]
        exact ⟨rfl, ht⟩
      · obtain rfl : b = false := by
          cases b
          · rfl
          · exact absurd (Or.inl rfl) hx
        have h6 : ¬ itm (bs (dr - (m + 1))) = 6 := fun z => hx (Or.inr z)
        rw [xP_let hd h6, xP_let hd2 (hk ▸ h6), hk]
        exact xP_cong hb m _ _ _ _ (by omega) (upd_cong ht)
/-- what the queries answer goes by the rows where they are read -/
theorem smN_cong {c c2 : Nat → Int32} {k : Int32} {j : Nat} (h : ∀ i, i ≤ j → c i = c2 i) : smN c k j = smN c2 k j := by
  rw [smN, smN, smI_cong (fun i hi => h i (by omega)), h j (Nat.le_refl j)]
theorem smpF_cong {c c2 w w2 : Nat → Int32} {k : Int32} {ly : Nat} (h : ∀ i, i < ly → c i = c2 i) (hw : ∀ i, i < ly → w i = w2 i) : smpF c w k ly = smpF c2 w2 k ly := by
  have h1 : smI (smN c k) ly = smI (smN c2 k) ly := smI_cong (fun j hj => smN_cong (fun i hi => h i (by omega)))
  have h2 : smI (fun j => smN c k j * w j) ly = smI (fun j => smN c2 k j * w2 j) ly := smI_cong (fun j hj => by rw [smN_cong (fun i hi => h i (by omega)), hw j hj])
  rw [smpF, smpF, h1, h2]
theorem cnP_cong {tr tr2 sw sw2 lg lg2 : Nat → Int32} {j : Nat} (ht : ∀ i, i < 6 → tr i = tr2 i) (hs : sw j = sw2 j) (hl : lg j = lg2 j) : cnP tr sw lg j ↔ cnP tr2 sw2 lg2 j := by
  simp only [cnP, ht 3 (by decide), ht 4 (by decide), ht 5 (by decide), hs, hl]
theorem inF_cong {tr tr2 sw sw2 lg lg2 : Nat → Int32} {a t : Nat} (ht : ∀ i, i < 6 → tr i = tr2 i) (hs : sw (a + t) = sw2 (a + t)) (hl : lg (a + t) = lg2 (a + t)) : inF tr sw lg a t = inF tr2 sw2 lg2 a t := by
  simp only [inF, cnP_cong ht hs hl]
theorem usF_cong {tr tr2 sw sw2 lg lg2 : Nat → Int32} {a e : Nat} (ht : ∀ i, i < 6 → tr i = tr2 i) (hs : ∀ j, j < e → sw j = sw2 j) (hl : ∀ j, j < e → lg j = lg2 j) : usF tr sw lg a e = usF tr2 sw2 lg2 a e :=
  smI_cong (fun t h => inF_cong ht (hs _ (by omega)) (hl _ (by omega)))
theorem shF_cong {sw sw2 lg lg2 : Nat → Int32} {j : Nat} (hs : sw j = sw2 j) (hl : lg j = lg2 j) : shF sw lg j = shF sw2 lg2 j := by rw [shF, shF, hs, hl]
theorem shG_cong {tr tr2 sw sw2 lg lg2 : Nat → Int32} {w : Int32} {a e : Nat} (ht : ∀ i, i < 6 → tr i = tr2 i) (hs : ∀ j, j < e → sw j = sw2 j) (hl : ∀ j, j < e → lg j = lg2 j) : smI (shG tr sw lg w a) (e - a) = smI (shG tr2 sw2 lg2 w a) (e - a) :=
  smI_cong (fun t h => by
    have h1 : smI (inF tr sw lg a) (t + 1) = smI (inF tr2 sw2 lg2 a) (t + 1) := smI_cong (fun i hi => inF_cong ht (hs _ (by omega)) (hl _ (by omega)))
    simp only [shG, cnP_cong ht (hs (a + t) (by omega)) (hl (a + t) (by omega)), h1, ht 0 (by decide), shF_cong (hs (a + t) (by omega)) (hl (a + t) (by omega))])
theorem lcO_cong {cm cm2 : Nat → Int32} {td : Int32} : ∀ {n : Nat}, (∀ j, j < n → cm j = cm2 j) → lcO cm td n = lcO cm2 td n
  | 0, _ => rfl
  | n + 1, h => by rw [lcO, lcO, h n (by omega), lcO_cong (fun j hj => h j (by omega))]
theorem fgO_cong {q q2 dg dg2 cm cm2 : Nat → Int32} {td : Int32} {n : Nat} (hq : ∀ j, j < n → q j = q2 j) (hd : ∀ j, j < n → dg j = dg2 j) (hc : ∀ j, j < n → cm j = cm2 j) : fgO q dg (lcO cm td n) = fgO q2 dg2 (lcO cm2 td n) := by
  rw [lcO_cong hc]
  cases e : lcO cm2 td n with
  | none => rfl
  | some j =>
    have hj := lcO_lt e
    have h1 : smI (fun t => dg (j - 6 + t)) (j + 1 - (j - 6)) = smI (fun t => dg2 (j - 6 + t)) (j + 1 - (j - 6)) := smI_cong (fun t ht => hd _ (by omega))
    show fgF q dg j = fgF q2 dg2 j
    rw [fgF, fgF, h1, hq j hj]
theorem ltF_cong {q q2 dg dg2 cm cm2 : Nat → Int32} {d : Nat} {a b : Int32} (hd31 : d < 2 ^ 31) (hq : ∀ j, j < d → q j = q2 j) (hd : ∀ j, j < d → dg j = dg2 j) (hc : ∀ j, j < d → cm j = cm2 j) : ltF q dg cm d a b = ltF q2 dg2 cm2 d a b := by
  rw [ltF, ltF, spq_cong hd31 (fun k hk => by rw [hq k hk, hd k hk, hc k hk])]
