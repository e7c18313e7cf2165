/-- the reading of a charter: an item's number, 6 for none -/
def itm (c : Int32) : Nat := if c = 108 then 0 else if c = 100 then 1 else if c = 98 then 2 else if c = 120 then 3 else if c = 104 then 4 else if c = 119 then 5 else 6
theorem itm_le (c : Int32) : itm c ≤ 6 := by
  unfold itm
  repeat' split
  all_goals omega
def opI (o : Nat) : Int32 := if o = 6 then (-1) else nI o
theorem opI_eq {o : Nat} (h : o < 6) : opI o = nI o := if_neg (by omega)
theorem opI_6 : opI 6 = (-1) := rfl
theorem tk_iff {o : Nat} (h : o ≤ 6) : (¬ opI o < 0 ∧ ¬ 2 < opI o) ↔ o ≤ 2 := by
  rcases (show o = 0 ∨ o = 1 ∨ o = 2 ∨ o = 3 ∨ o = 4 ∨ o = 5 ∨ o = 6 by omega) with rfl | rfl | rfl | rfl | rfl | rfl | rfl <;> decide
theorem op_iff {o : Nat} (h : o ≤ 6) : opI o = (-1) ↔ o = 6 := by
  rcases (show o = 0 ∨ o = 1 ∨ o = 2 ∨ o = 3 ∨ o = 4 ∨ o = 5 ∨ o = 6 by omega) with rfl | rfl | rfl | rfl | rfl | rfl | rfl <;> decide
abbrev dgC (c : Int32) : Prop := ¬ c < 48 ∧ ¬ 57 < c
def xP (bs : Nat → Int32) (dr : Nat) : Nat → Nat → Bool → (Nat → Int32) → Option Nat × (Nat → Int32)
  | 0, _, b, tr => (if b = true then some dr else none, tr)
  | m + 1, o, b, tr =>
    if dgC (bs (dr - (m + 1))) then
      (if o ≤ 2 then (if 999 < 10 * tr o + (bs (dr - (m + 1)) - 48) then (some (dr - (m + 1)), upd tr o (10 * tr o + (bs (dr - (m + 1)) - 48))) else xP bs dr m o false (upd tr o (10 * tr o + (bs (dr - (m + 1)) - 48)))) else (some (dr - (m + 1)), tr))
    else (if b = true ∨ itm (bs (dr - (m + 1))) = 6 then (some (dr - (m + 1)), tr) else xP bs dr m (itm (bs (dr - (m + 1)))) (decide (itm (bs (dr - (m + 1))) ≤ 2)) (upd tr (itm (bs (dr - (m + 1)))) (if itm (bs (dr - (m + 1))) ≤ 2 then 0 else 1)))
def fcI (q : Option Nat) (no : Int32) : Int32 := match q with
  | none => no
  | some k => nI k
def w9 (σ : wS) (tr : Nat → Int32) : wS := (va_up σ.1 9 tr, σ.2)
def w30 (σ : wS) (tr : Nat → Int32) : wS := (va_up σ.1 30 tr, σ.2)
theorem w9_u (σ : wS) (tr : Nat → Int32) (k : Nat) (x : Int32) : wu (w9 σ tr) 9 k x = w9 σ (upd tr k x) := by
  show (va_up (va_up σ.1 9 tr) 9 (upd (va_up σ.1 9 tr 9) k x), σ.2) = _
  rw [bx_uu, va_up_self]; rfl
theorem w30_u (σ : wS) (tr : Nat → Int32) (k : Nat) (x : Int32) : wu (w30 σ tr) 30 k x = w30 σ (upd tr k x) := by
  show (va_up (va_up σ.1 30 tr) 30 (upd (va_up σ.1 30 tr 30) k x), σ.2) = _
  rw [bx_uu, va_up_self]; rfl
theorem w9_self (σ : wS) : σ = w9 σ (σ.1 9) := by
  show σ = (va_up σ.1 9 (σ.1 9), σ.2)
  rw [show va_up σ.1 9 (σ.1 9) = σ.1 from funext (fun j => by by_cases h : j = 9 <;> simp [va_up, h])]
theorem w30_self (σ : wS) : σ = w30 σ (σ.1 30) := by
  show σ = (va_up σ.1 30 (σ.1 30), σ.2)
  rw [show va_up σ.1 30 (σ.1 30) = σ.1 from funext (fun j => by by_cases h : j = 30 <;> simp [va_up, h])]
theorem w9_9 (σ : wS) (tr : Nat → Int32) (k : Nat) : (w9 σ tr).1 9 k = tr k := by show va_up σ.1 9 tr 9 k = _; rw [va_up_self]
theorem w30_30 (σ : wS) (tr : Nat → Int32) (k : Nat) : (w30 σ tr).1 30 k = tr k := by show va_up σ.1 30 tr 30 k = _; rw [va_up_self]
theorem upd_z {tr : Nat → Int32} {k : Nat} (h : ∀ j, j < k → tr j = 0) : ∀ j, j < k + 1 → upd tr k 0 j = 0 := fun j hj => by
  by_cases e : j = k
  · subst e; exact if_pos rfl
  · exact (if_neg e).trans (h j (by omega))
theorem xP_bad {bs : Nat → Int32} {dr m o : Nat} {b : Bool} {tr : Nat → Int32} (hd : ¬ dgC (bs (dr - (m + 1)))) (h : b = true ∨ itm (bs (dr - (m + 1))) = 6) : xP bs dr (m + 1) o b tr = (some (dr - (m + 1)), tr) := by
  rw [xP, if_neg hd, if_pos h]
theorem xP_op {bs : Nat → Int32} {dr m o : Nat} {b : Bool} {tr : Nat → Int32} (hd : dgC (bs (dr - (m + 1)))) (h : ¬ o ≤ 2) : xP bs dr (m + 1) o b tr = (some (dr - (m + 1)), tr) := by
  rw [xP, if_pos hd, if_neg h]
theorem xP_big {bs : Nat → Int32} {dr m o : Nat} {b : Bool} {tr : Nat → Int32} (hd : dgC (bs (dr - (m + 1)))) (h : o ≤ 2) (h9 : 999 < 10 * tr o + (bs (dr - (m + 1)) - 48)) : xP bs dr (m + 1) o b tr = (some (dr - (m + 1)), upd tr o (10 * tr o + (bs (dr - (m + 1)) - 48))) := by
  rw [xP, if_pos hd, if_pos h, if_pos h9]
theorem xP_dig {bs : Nat → Int32} {dr m o : Nat} {b : Bool} {tr : Nat → Int32} (hd : dgC (bs (dr - (m + 1)))) (h : o ≤ 2) (h9 : ¬ 999 < 10 * tr o + (bs (dr - (m + 1)) - 48)) : xP bs dr (m + 1) o b tr = xP bs dr m o false (upd tr o (10 * tr o + (bs (dr - (m + 1)) - 48))) := by
  rw [xP, if_pos hd, if_pos h, if_neg h9]
theorem xP_let {bs : Nat → Int32} {dr m o : Nat} {tr : Nat → Int32} (hd : ¬ dgC (bs (dr - (m + 1)))) (h : ¬ itm (bs (dr - (m + 1))) = 6) : xP bs dr (m + 1) o false tr = xP bs dr m (itm (bs (dr - (m + 1)))) (decide (itm (bs (dr - (m + 1))) ≤ 2)) (upd tr (itm (bs (dr - (m + 1)))) (if itm (bs (dr - (m + 1))) ≤ 2 then 0 else 1)) := by
  rw [xP, if_neg hd, if_neg (fun z => z.elim (fun q => by cases q) h)]
theorem itm_nd {c : Int32} (h : ¬ itm c = 6) : ¬ dgC c := by
  intro z
  apply h
  have : ∀ k : Nat, k < 48 ∨ 57 < k → k < 200 → ¬ c = nI k := fun k hk hk2 e => by
    subst e
    rcases hk with q | q
    · exact z.1 (nI_lt (b := 48) q (by decide))
    · exact z.2 (nI_lt (a := 57) q (by omega))
  rw [itm, if_neg (show ¬ c = 108 from this 108 (by omega) (by omega)), if_neg (show ¬ c = 100 from this 100 (by omega) (by omega)), if_neg (show ¬ c = 98 from this 98 (by omega) (by omega)), if_neg (show ¬ c = 120 from this 120 (by omega) (by omega)), if_neg (show ¬ c = 104 from this 104 (by omega) (by omega)), if_neg (show ¬ c = 119 from this 119 (by omega) (by omega))]
theorem upd_uu (f : Nat → Int32) (i : Nat) (x y : Int32) : upd (upd f i x) i y = upd f i y := by
  funext j
  by_cases h : j = i <;> simp [upd, h]
theorem sub48 (v c : Int32) : 10 * v + c - 48 = 10 * v + (c - 48) := by rw [Int32.sub_eq_add_neg, Int32.sub_eq_add_neg, Int32.add_assoc]
