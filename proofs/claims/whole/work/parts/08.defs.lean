theorem m1e (x : Int32) : x + Int32.ofInt (-1) = x - 1 := by rw [Int32.sub_eq_add_neg]; rfl
theorem m1_neg {j : Nat} (h : j < 2 ^ 30) : nI j - 1 < 0 ↔ j = 0 := by
  rw [Int32.lt_iff_toInt_lt, nI_ti h]
  show (j : Int) - 1 < 0 ↔ j = 0
  omega
theorem nI_neN {j : Nat} (h : j < 2 ^ 31) {x : Int32} (hx : x < 0) : ¬ nI j = x := fun z => nI_pos h (by rw [z]; exact hx)
theorem max6 {j : Nat} (h : j < 2 ^ 29) : (if 0 < nI j - 7 + 1 then nI j - 7 + 1 else 0) = nI (j - 6) := by
  have e : nI j - 7 + 1 = nI j - nI 6 := by
    apply Int32.toInt_inj.mp
    rw [Int32.toInt_add, Int32.toInt_sub, Int32.toInt_sub, nI_toInt (by omega)]
    simp [Int32.toInt_ofNat, nI]
    rw [show (j : Int) - 7 + 1 = j - 6 by omega]
  rw [e]
  by_cases h6 : 6 < j
  · have h0 : 0 < nI j - nI 6 := by rw [pk_sub (by omega)]; exact nI_lt (a := 0) (by omega) (by omega)
    rw [if_pos h0, pk_sub (by omega)]
  · have h0 : ¬ 0 < nI j - nI 6 := by
      rw [Int32.lt_iff_toInt_lt, pk_sub_toInt (by omega) (by decide)]
      show ¬ (0 : Int) < _
      omega
    rw [if_neg h0, show j - 6 = 0 by omega]
    rfl
theorem fgN {j : Nat} : nI j - nI (j - 6) + 1 = nI (j + 1 - (j - 6)) := by
  rw [pk_sub (by omega), nI_1]
  congr 1
  omega
def lcI (o : Option Nat) : Int32 := match o with
  | none => (-9)
  | some j => nI j
def spQ {β : Type} (n : Nat) (a : Int32) (bad : β) (F : Nat → β) : β := if a < 0 ∨ nI n ≤ a then bad else F a.toNatClampNeg
theorem spQ_bad {β : Type} {n : Nat} {a : Int32} {bad : β} {F : Nat → β} (h : a < 0 ∨ nI n ≤ a) : spQ n a bad F = bad := if_pos h
theorem spQ_ok {β : Type} {n k : Nat} {bad : β} {F : Nat → β} (h : k < n) (hn : n < 2 ^ 31) : spQ n (nI k) bad F = F k := by
  rw [spQ, if_neg (nbad h hn), nI_clamp (by omega)]
theorem sw_k {a : Int32} {d : Nat} (hd : d ≤ 200) (h : ¬ a < nI d ∧ ¬ 200 < a) : ∃ k, d ≤ k ∧ k ≤ 200 ∧ a = nI k := by
  obtain ⟨k, hk, rfl⟩ := nI_btw (x := a) (n := 200) (fun z => h.1 (by
    rw [Int32.lt_iff_toInt_lt] at z ⊢
    rw [nI_toInt (by omega)]
    have : (0 : Int32).toInt = 0 := rfl
    omega)) h.2 (by decide)
  exact ⟨k, Nat.le_of_not_lt (fun z => h.1 (nI_lt z (by omega))), hk, rfl⟩
def ltF (q dg cm : Nat → Int32) (d : Nat) (a b : Int32) : Int32 := if ¬ a < 0 ∧ ¬ 200 < a then (if ¬ b < 0 ∧ ¬ 2 < b then spq d a (-9) (fun k => if cm k ≤ nI d then (if b = 0 then q k else if b = 1 then dg k else cm k) else (-9)) else (-1)) else (-1)
/-- what the writing methods do -/
def laS (σ : wS) (ly : Nat) (t w : Int32) : wS := wu (wu (wu σ 3 ly t) 4 ly w) 2 2 (nI (ly + 1))
def laF (σ : wS) (ly : Nat) (t w : Int32) : Int32 × wS := if ¬ t < 1 ∧ ¬ 5000 < t then (if ¬ w < 1 ∧ ¬ 100 < w then (if nI ly < 6 then (nI ly, laS σ ly t w) else ((-3), σ)) else ((-1), σ)) else ((-1), σ)
def swF (σ : wS) (d : Nat) (a v : Int32) : Int32 × wS := if ¬ a < nI d ∧ ¬ 200 < a then (if ¬ v < 0 ∧ ¬ 9 < v then (σ.1 1 a.toNatClampNeg, wu σ 1 a.toNatClampNeg v) else ((-1), σ)) else ((-1), σ)
def boF (σ : wS) (k : Nat) (b : Int32) : Int32 × wS := if ¬ b < 1 ∧ ¬ 90 < b then (if ¬ σ.1 (32 + 4 * k) 9 = (-9) then ((-2), σ) else ((if σ.1 (32 + 4 * k) 8 + b < 90 then σ.1 (32 + 4 * k) 8 + b else 90), wu σ (32 + 4 * k) 8 (if σ.1 (32 + 4 * k) 8 + b < 90 then σ.1 (32 + 4 * k) 8 + b else 90))) else ((-1), σ)
def byF (v : Int64) (i : Nat) : Int32 := ((v.toUInt64 >>> ((8 * nI i).toInt64.toUInt64 &&& Int64.toUInt64 63)).toInt64).toInt32 &&& 255
def apS (σ : wS) (v : Int64) (m dr : Nat) : Nat → wS
  | 0 => σ
  | t + 1 => wu (wu (apS σ v m dr t) 8 (dr + t) (byF v (m - 1 - t))) 7 2 (nI (dr + t + 1))
def tyF (σ : wS) (dr : Nat) (v : Int64) (b : Int32) : Int32 × wS := if ¬ b < 1 ∧ ¬ 8 < b then (if nI dr + b ≤ 30 then (nI (dr + b.toNatClampNeg), apS σ v b.toNatClampNeg dr b.toNatClampNeg) else ((-3), σ)) else ((-1), σ)
def drF (σ : wS) (i k : Nat) : wS := if ¬ σ.1 (32 + 4 * i) 9 = (-9) then σ else (if (if 0 < σ.1 (32 + 4 * i) 8 - 1 then σ.1 (32 + 4 * i) 8 - 1 else 0) = 0 then wu (wu σ (32 + 4 * i) 8 (if 0 < σ.1 (32 + 4 * i) 8 - 1 then σ.1 (32 + 4 * i) 8 - 1 else 0)) (35 + 4 * i) k (-1) else wu σ (32 + 4 * i) 8 (if 0 < σ.1 (32 + 4 * i) 8 - 1 then σ.1 (32 + 4 * i) 8 - 1 else 0))
def tkF (σ : wS) (i : Nat) (t : Int32) (k : Nat) : wS := if σ.1 (32 + 4 * i) 6 - t = 0 then wu (wu (wu (wu σ (32 + 4 * i) 6 (σ.1 (32 + 4 * i) 6 - t)) (32 + 4 * i) 7 (σ.1 (32 + 4 * i) 7 + t)) (35 + 4 * i) k t) (32 + 4 * i) 9 (nI k) else wu (wu (wu σ (32 + 4 * i) 6 (σ.1 (32 + 4 * i) 6 - t)) (32 + 4 * i) 7 (σ.1 (32 + 4 * i) 7 + t)) (35 + 4 * i) k t
def dgP (s : wS) (u mo : Int32) (k : Nat) : Int32 := if s.1 3 k < mo - u then s.1 3 k else mo - u
def dgS (σ : wS) (i : Nat) (mo : Int32) : Nat → wS × Int32
  | 0 => (σ, 0)
  | k + 1 => (wu (wu (dgS σ i mo k).1 3 k ((dgS σ i mo k).1.1 3 k - dgP (dgS σ i mo k).1 (dgS σ i mo k).2 mo k)) (33 + 4 * i) k ((dgS σ i mo k).1.1 (33 + 4 * i) k + dgP (dgS σ i mo k).1 (dgS σ i mo k).2 mo k), (dgS σ i mo k).2 + dgP (dgS σ i mo k).1 (dgS σ i mo k).2 mo k)
def taF (sw : Int32) (pl : Nat) : Int32 := if ¬ 2 ≤ nI pl ∧ ¬ 4 < sw then 60 else if 7 < sw then 0 else 15
theorem dgS_2 (σ : wS) (i : Nat) (mo : Int32) : ∀ k, (dgS σ i mo k).1.2 = σ.2
  | 0 => rfl
  | k + 1 => (dgS_2 σ i mo k)
theorem dgS_o (σ : wS) (i : Nat) (mo : Int32) {j q : Nat} (h : j ≠ 3) (h2 : j ≠ 33 + 4 * i) : ∀ k, (dgS σ i mo k).1.1 j q = σ.1 j q
  | 0 => rfl
  | k + 1 => by rw [dgS]; exact (wu_o h2).trans ((wu_o h).trans (dgS_o σ i mo h h2 k))
theorem apS_2 (σ : wS) (v : Int64) (m dr : Nat) : ∀ k, (apS σ v m dr k).2 = σ.2
  | 0 => rfl
  | k + 1 => (apS_2 σ v m dr k)
theorem apS_o (σ : wS) (v : Int64) (m dr : Nat) {j q : Nat} (h : j ≠ 7) (h2 : j ≠ 8) : ∀ k, (apS σ v m dr k).1 j q = σ.1 j q
  | 0 => rfl
  | k + 1 => by rw [apS]; exact (wu_o h).trans ((wu_o h2).trans (apS_o σ v m dr h h2 k))
