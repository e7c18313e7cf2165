/-! rows that the walks use: another word for a number on the stack; reads behind writes -/
section WB5
variable {p : Program} {l : Launch} {e : Env} {R : Room} {s : State} {m : MethodId} {args : Array Value} {below : List Frame} {meth : Method} {c : Code} {H : Heap} {locs : List Loc} {cells slots : Nat} {Q : State → Prop} {pc : Nat} {ls : Array Slot} {rest : List Value}
theorem w_eqi {x y : Int32} (h : x = y) (k : W p l e R s m args below meth c H locs cells slots Q (F0 m pc ls (.int y :: rest))) : W p l e R s m args below meth c H locs cells slots Q (F0 m pc ls (.int x :: rest)) := by rw [h]; exact k
theorem w_eqv {x y : Value} (h : x = y) (k : W p l e R s m args below meth c H locs cells slots Q (F0 m pc ls (y :: rest))) : W p l e R s m args below meth c H locs cells slots Q (F0 m pc ls (x :: rest)) := by rw [h]; exact k
end WB5
theorem wu_o {σ : wS} {i k j k' : Nat} {x : Int32} (h : j ≠ i) : (wu σ i k x).1 j k' = σ.1 j k' := by show va_up σ.1 i _ j k' = _; rw [va_up_ne _ _ h]
theorem wu_s {σ : wS} {i k : Nat} {x : Int32} : (wu σ i k x).1 i k = x := by show va_up σ.1 i _ i k = _; rw [va_up_self]; exact if_pos rfl
theorem wu_d {σ : wS} {i k k' : Nat} {x : Int32} (h : k' ≠ k) : (wu σ i k x).1 i k' = σ.1 i k' := by show va_up σ.1 i _ i k' = _; rw [va_up_self]; exact if_neg h
theorem wu_or {σ : wS} {i k j : Nat} {x : Int32} (h : j ≠ i) : (wu σ i k x).1 j = σ.1 j := by show va_up σ.1 i _ j = _; rw [va_up_ne _ _ h]
theorem wu_sr {σ : wS} {i k : Nat} {x : Int32} : (wu σ i k x).1 i = upd (σ.1 i) k x := by show va_up σ.1 i _ i = _; rw [va_up_self]
theorem wu_eq {σ : wS} {i k j k' : Nat} {x : Int32} : (wu σ i k x).1 j k' = if j = i ∧ k' = k then x else σ.1 j k' := by
  by_cases h : j = i
  · subst h
    by_cases h2 : k' = k
    · subst h2; rw [wu_s, if_pos ⟨rfl, rfl⟩]
    · rw [wu_d h2, if_neg (fun z => h2 z.2)]
  · rw [wu_o h, if_neg (fun z => h z.1)]
theorem wuR_o {σ : wS} {i k j k' : Nat} {x : Option Nat} (h : j ≠ i) : (wuR σ i k x).2.2 j k' = σ.2.2 j k' := by show va_up σ.2.2 i _ j k' = _; rw [va_up_ne _ _ h]
theorem wuR_s {σ : wS} {i k : Nat} {x : Option Nat} : (wuR σ i k x).2.2 i k = x := by show va_up σ.2.2 i _ i k = _; rw [va_up_self, va_up_self]
theorem wuR_d {σ : wS} {i k k' : Nat} {x : Option Nat} (h : k' ≠ k) : (wuR σ i k x).2.2 i k' = σ.2.2 i k' := by show va_up σ.2.2 i _ i k' = _; rw [va_up_self, va_up_ne _ _ h]
theorem wuR_eq {σ : wS} {i k j k' : Nat} {x : Option Nat} : (wuR σ i k x).2.2 j k' = if j = i ∧ k' = k then x else σ.2.2 j k' := by
  by_cases h : j = i
  · subst h
    by_cases h2 : k' = k
    · subst h2; rw [wuR_s, if_pos ⟨rfl, rfl⟩]
    · rw [wuR_d h2, if_neg (fun z => h2 z.2)]
  · rw [wuR_o h, if_neg (fun z => h z.1)]
theorem nI_le' {a b : Nat} (h : nI a ≤ nI b) (ha : a < 2 ^ 31) (hb : b < 2 ^ 31) : a ≤ b := (nI_leI ha hb).mp h
theorem nI_lt' {a b : Nat} (h : nI a < nI b) (ha : a < 2 ^ 31) (hb : b < 2 ^ 31) : a < b := (nI_ltI ha hb).mp h
/-- between 0 and n - 1: it is a place -/
theorem nI_btw {x : Int32} {n : Nat} (h1 : ¬ x < 0) (h2 : ¬ nI n < x) (hn : n < 2 ^ 31) : ∃ k, k ≤ n ∧ x = nI k := by
  obtain ⟨j, hj, rfl⟩ := nI_of h1
  exact ⟨j, Nat.le_of_not_lt (fun h => h2 (nI_lt h hj)), rfl⟩
/-- sums in the machine's numbers -/
def smI (f : Nat → Int32) : Nat → Int32
  | 0 => 0
  | n + 1 => smI f n + f n
theorem smI_cong {f h : Nat → Int32} : ∀ {n : Nat}, (∀ k, k < n → f k = h k) → smI f n = smI h n
  | 0, _ => rfl
  | n + 1, hh => by rw [smI, smI, smI_cong (fun k hk => hh k (by omega)), hh n (by omega)]
theorem ix2 (x : Int32) {n : Nat} (hn : n < 2 ^ 31) : (x < 0 ∨ nI n ≤ x) ∨ ∃ k, k < n ∧ x = nI k := by
  rcases pk_ix x hn with h | h | h
  · exact Or.inl (Or.inl h)
  · exact Or.inl (Or.inr h)
  · exact Or.inr h
theorem nbad {k n : Nat} (h : k < n) (hn : n < 2 ^ 31) : ¬ (nI k < 0 ∨ nI n ≤ nI k) := fun z => by
  rcases z with z | z
  · exact nI_pos (by omega) z
  · exact nI_ge h hn z
theorem nI_ti {n : Nat} (h : n < 2 ^ 30) : (nI n - 1).toInt = (n : Int) - 1 := pk_sub_toInt (b := 1) h (by decide)
theorem m1_lt {e j : Nat} (he : e < 2 ^ 30) (hj : j < 2 ^ 30) : nI e - 1 < nI j ↔ e ≤ j := by
  rw [Int32.lt_iff_toInt_lt, nI_ti he, nI_toInt (by omega)]
  omega
theorem m1_bad {x : Int32} {n : Nat} (hn : n < 2 ^ 30) (h : ¬ (¬ x < 0 ∧ ¬ nI n - 1 < x)) : x < 0 ∨ nI n ≤ x := by
  rcases ix2 x (n := n) (by omega) with z | ⟨k, hk, rfl⟩
  · exact z
  · exact absurd ⟨nI_pos (by omega), fun z => by rw [m1_lt hn (by omega)] at z; omega⟩ h
theorem m1_ok {x : Int32} {n : Nat} (hn : n < 2 ^ 30) (h : ¬ x < 0 ∧ ¬ nI n - 1 < x) : ∃ k, k < n ∧ x = nI k := by
  rcases ix2 x (n := n) (by omega) with z | z
  · rcases z with z | z
    · exact absurd z h.1
    · refine absurd ?_ h.2
      rw [Int32.lt_iff_toInt_lt, nI_ti hn]
      rw [Int32.le_iff_toInt_le, nI_toInt (by omega)] at z
      omega
  · exact z
theorem bt_ok {x : Int32} {n : Nat} (hn : n < 2 ^ 31) (h : ¬ x < 0 ∧ ¬ nI n ≤ x) : ∃ k, k < n ∧ x = nI k := by
  rcases ix2 x hn with z | z
  · exact absurd z (fun z => z.elim h.1 h.2)
  · exact z
theorem bt_bad {x : Int32} {n : Nat} (h : ¬ (¬ x < 0 ∧ ¬ nI n ≤ x)) : x < 0 ∨ nI n ≤ x := by
  by_cases h1 : x < 0
  · exact Or.inl h1
  · by_cases h2 : nI n ≤ x
    · exact Or.inr h2
    · exact absurd ⟨h1, h2⟩ h
/-- a place, or a refusal -/
def spq (n : Nat) (a bad : Int32) (F : Nat → Int32) : Int32 := if a < 0 ∨ nI n ≤ a then bad else F a.toNatClampNeg
theorem spq_bad {n : Nat} {a bad : Int32} {F : Nat → Int32} (h : a < 0 ∨ nI n ≤ a) : spq n a bad F = bad := if_pos h
theorem spq_ok {n k : Nat} {bad : Int32} {F : Nat → Int32} (h : k < n) (hn : n < 2 ^ 31) : spq n (nI k) bad F = F k := by
  rw [spq, if_neg (nbad h hn), nI_clamp (by omega)]
theorem spq_cong {n : Nat} {a bad : Int32} {F G : Nat → Int32} (hn : n < 2 ^ 31) (h : ∀ k, k < n → F k = G k) : spq n a bad F = spq n a bad G := by
  rcases ix2 a hn with z | ⟨k, hk, rfl⟩
  · rw [spq_bad z, spq_bad z]
  · rw [spq_ok hk hn, spq_ok hk hn, h k hk]
theorem sw7 (w : Int32) : w = 0 ∨ w = 1 ∨ w = 2 ∨ w = 3 ∨ w = 4 ∨ w = 5 ∨ w = 6 ∨ ((w.toInt < 0 ∨ 6 < w.toInt) ∧ w ≠ 0 ∧ w ≠ 1 ∧ w ≠ 2 ∧ w ≠ 3 ∧ w ≠ 4 ∧ w ≠ 5 ∧ w ≠ 6) := by
  rcases ix2 w (n := 7) (by decide) with z | ⟨k, hk, rfl⟩
  · refine Or.inr (Or.inr (Or.inr (Or.inr (Or.inr (Or.inr (Or.inr ⟨?_, ?_⟩))))))
    · rcases z with z | z
      · left; rw [Int32.lt_iff_toInt_lt] at z; exact z
      · right
        rw [Int32.le_iff_toInt_le, nI_toInt (by decide)] at z
        omega
    · refine ⟨?_, ?_, ?_, ?_, ?_, ?_, ?_⟩ <;> (rintro rfl; revert z; decide)
  · rcases (show k = 0 ∨ k = 1 ∨ k = 2 ∨ k = 3 ∨ k = 4 ∨ k = 5 ∨ k = 6 by omega) with rfl | rfl | rfl | rfl | rfl | rfl | rfl <;> decide
theorem sw3 {w : Int32} (h : ¬ w < 0 ∧ ¬ 2 < w) : w = 0 ∨ w = 1 ∨ w = 2 := by
  obtain ⟨k, hk, rfl⟩ := nI_btw (n := 2) h.1 h.2 (by decide)
  rcases (show k = 0 ∨ k = 1 ∨ k = 2 by omega) with rfl | rfl | rfl <;> decide
theorem sw2 {w : Int32} (h : ¬ w < 0 ∧ ¬ 1 < w) : w = 0 ∨ w = 1 := by
  obtain ⟨k, hk, rfl⟩ := nI_btw (n := 1) h.1 h.2 (by decide)
  rcases (show k = 0 ∨ k = 1 by omega) with rfl | rfl <;> decide
/-- what the queries answer, of rows -/
def smN (cg : Nat → Int32) (k : Int32) (j : Nat) : Int32 := (smI cg j + cg j) / k - smI cg j / k
def smpF (cg w : Nat → Int32) (k : Int32) (ly : Nat) : Int32 := if smI (smN cg k) ly = 0 then (-9) else smI (fun j => smN cg k j * w j) ly / smI (smN cg k) ly
abbrev cnP (tr sw lg : Nat → Int32) (j : Nat) : Prop := ¬ (tr 3 = 1 ∧ 4 < sw j) ∧ ¬ (tr 4 = 1 ∧ nI j - nI j / 7 * 7 = 6) ∧ ¬ (tr 5 = 1 ∧ lg j = (-1))
abbrev inF (tr sw lg : Nat → Int32) (a : Nat) (t : Nat) : Int32 := if cnP tr sw lg (a + t) then 1 else 0
def usF (tr sw lg : Nat → Int32) (a e : Nat) : Int32 := smI (inF tr sw lg a) (e - a)
def shF (sw lg : Nat → Int32) (j : Nat) : Int32 := if 7 < sw j then 0 else if lg j = 0 then 1 else 2
abbrev shG (tr sw lg : Nat → Int32) (w : Int32) (a : Nat) (t : Nat) : Int32 := if cnP tr sw lg (a + t) ∧ tr 0 < smI (inF tr sw lg a) (t + 1) ∧ shF sw lg (a + t) = w then 1 else 0
def lcO (cm : Nat → Int32) (td : Int32) : Nat → Option Nat
  | 0 => none
  | j + 1 => if cm j ≤ td then some j else lcO cm td j
def fgF (q dg : Nat → Int32) (j : Nat) : Int32 := if smI (fun t => dg (j - 6 + t)) (j + 1 - (j - 6)) = 0 then (-9) else (q j * nI (j + 1 - (j - 6)) + smI (fun t => dg (j - 6 + t)) (j + 1 - (j - 6)) - 1) / smI (fun t => dg (j - 6 + t)) (j + 1 - (j - 6))
def fgO (q dg : Nat → Int32) (o : Option Nat) : Int32 := match o with
  | none => (-9)
  | some j => fgF q dg j
theorem lcO_lt {cm : Nat → Int32} {td : Int32} : ∀ {n j : Nat}, lcO cm td n = some j → j < n
  | 0, j, h => by simp [lcO] at h
  | n + 1, j, h => by
    rw [lcO] at h
    split at h
    · cases h; omega
    · have := lcO_lt h; omega
