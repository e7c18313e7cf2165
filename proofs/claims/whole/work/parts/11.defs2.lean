/-- what the reference's writing methods do -/
def mLaF (σ : wS) (ly : Nat) (t w : Int32) : Int32 × wS := if ¬ t < 1 ∧ ¬ 5000 < t then (if ¬ w < 1 ∧ ¬ 100 < w then (if nI ly < 6 then (nI ly, wu (wu (wu (wu σ 14 0 0) 16 ly t) 17 ly w) 14 4 (nI (ly + 1))) else ((-3), wu σ 14 0 0)) else ((-1), wu σ 14 0 0)) else ((-1), wu σ 14 0 0)
def mSwF (σ : wS) (d : Nat) (a v : Int32) : Int32 × wS := if ¬ a < nI d ∧ ¬ 200 < a then (if ¬ v < 0 ∧ ¬ 9 < v then (σ.1 15 a.toNatClampNeg, wu (wu σ 14 0 0) 15 a.toNatClampNeg v) else ((-1), wu σ 14 0 0)) else ((-1), wu σ 14 0 0)
def mBoF (σ : wS) (k : Nat) (b : Int32) : Int32 × wS := if ¬ b < 1 ∧ ¬ 90 < b then (if ¬ σ.1 22 k = (-9) then ((-2), wu σ 14 0 0) else ((if σ.1 21 k + b ≤ 90 then σ.1 21 k + b else 90), wu (wu σ 14 0 0) 21 k (if σ.1 21 k + b ≤ 90 then σ.1 21 k + b else 90))) else ((-1), wu σ 14 0 0)
def byM (v : Int64) (i : Nat) : Int32 := ((v >>> ((8 * nI i).toInt64 &&& 63)) &&& 255).toInt32
def maS (σ : wS) (v : Int64) (m dr : Nat) : Nat → wS
  | 0 => σ
  | t + 1 => wu (wu (maS σ v m dr t) 28 (dr + t) (byM v (m - 1 - t))) 14 21 (nI (dr + t + 1))
def mTyF (σ : wS) (dr : Nat) (v : Int64) (b : Int32) : Int32 × wS := if ¬ b < 1 ∧ ¬ 8 < b then (if nI dr + b ≤ 30 then (nI (dr + b.toNatClampNeg), maS (wu σ 14 0 0) v b.toNatClampNeg dr b.toNatClampNeg) else ((-3), wu σ 14 0 0)) else ((-1), wu σ 14 0 0)
def trK (ki : Int32) : Int64 := if ki = 0 then 1 else if ki = 1 then 11 else 111
def mShS (σ : wS) (n d : Nat) (k w wa : Int32) : wS := wu (wu (wu (wu (wu (wu (wu σ 14 0 0) 18 n k) 19 n (nI d)) 20 n w) 21 n wa) 22 n (-9)) 14 7 (nI (n + 1))
def mShF (σ : wS) (n d : Nat) (k w wa : Int32) : Int32 × wS := if ¬ k < 0 ∧ ¬ 2 < k then (if ¬ w < 1 ∧ ¬ 900 < w then (if ¬ wa < 1 ∧ ¬ 90 < wa then (if nI n < 10 then (nI n, mShS σ n d k w wa) else ((-3), wu σ 14 0 0)) else ((-1), wu σ 14 0 0)) else ((-1), wu σ 14 0 0)) else ((-1), wu σ 14 0 0)
def mP (s : wS) (i : Nat) (u mo : Int32) (k : Nat) : Int32 := if (if mo - u ≤ s.1 20 i then mo - u else s.1 20 i) ≤ s.1 16 k then (if mo - u ≤ s.1 20 i then mo - u else s.1 20 i) else s.1 16 k
def mS (σ : wS) (i : Nat) (mo : Int32) : Nat → wS × Int32
  | 0 => (σ, 0)
  | k + 1 => (wu (wu (wu (mS σ i mo k).1 16 k ((mS σ i mo k).1.1 16 k - mP (mS σ i mo k).1 i (mS σ i mo k).2 mo k)) 23 (6 * i + k) ((mS σ i mo k).1.1 23 (6 * i + k) + mP (mS σ i mo k).1 i (mS σ i mo k).2 mo k)) 20 i ((mS σ i mo k).1.1 20 i - mP (mS σ i mo k).1 i (mS σ i mo k).2 mo k), (mS σ i mo k).2 + mP (mS σ i mo k).1 i (mS σ i mo k).2 mo k)
theorem mS_2 (σ : wS) (i : Nat) (mo : Int32) : ∀ k, (mS σ i mo k).1.2 = σ.2
  | 0 => rfl
  | k + 1 => mS_2 σ i mo k
theorem mS_o (σ : wS) (i : Nat) (mo : Int32) {j q : Nat} (h : j ≠ 16) (h2 : j ≠ 23) (h3 : j ≠ 20) : ∀ k, (mS σ i mo k).1.1 j q = σ.1 j q
  | 0 => rfl
  | k + 1 => by rw [mS]; exact (wu_o h3).trans ((wu_o h2).trans ((wu_o h).trans (mS_o σ i mo h h2 h3 k)))
theorem lt_six {ly : Nat} (h : ly ≤ 6) : nI ly < 6 ↔ ¬ nI ly = 6 := by
  rcases Nat.lt_or_ge ly 6 with q | q
  · exact ⟨fun _ z => by have := (nI_eq (b := 6) (by omega) (by decide)).mp z; omega, fun _ => nI_lt (b := 6) q (by decide)⟩
  · obtain rfl : ly = 6 := by omega
    decide
theorem lt_ten {n : Nat} (h : n ≤ 10) : nI n < 10 ↔ ¬ nI n = 10 := by
  rcases Nat.lt_or_ge n 10 with q | q
  · exact ⟨fun _ z => by have := (nI_eq (b := 10) (by omega) (by decide)).mp z; omega, fun _ => nI_lt (b := 10) q (by decide)⟩
  · obtain rfl : n = 10 := by omega
    decide
/-- one day of the reference: drinking; the choice; the loading -/
def mdF (σ : wS) (s d : Nat) : wS := if ¬ σ.1 22 s = (-9) then wu (wu σ 24 (201 * s + d) 0) 31 s 1 else
  if σ.1 21 s - (if σ.1 21 s ≤ 0 then 0 else 1) = 0 then wu (wu (wu (wu σ 24 (201 * s + d) 0) 21 s (σ.1 21 s - (if σ.1 21 s ≤ 0 then 0 else 1))) 24 (201 * s + d) (-1)) 31 s 1
  else wu (wu (wu (wu σ 24 (201 * s + d) 0) 21 s (σ.1 21 s - (if σ.1 21 s ≤ 0 then 0 else 1))) 24 (201 * s + d) 0) 31 s 0
def mdS (σ : wS) (d : Nat) : Nat → wS
  | 0 => σ
  | k + 1 => mdF (mdS σ d k) k d
theorem mdF_2 (σ : wS) (s d : Nat) : (mdF σ s d).2 = σ.2 := by rw [mdF]; split; rfl; split <;> split <;> rfl
theorem mdS_2 (σ : wS) (d : Nat) : ∀ k, (mdS σ d k).2 = σ.2
  | 0 => rfl
  | k + 1 => (mdF_2 _ _ _).trans (mdS_2 σ d k)
theorem mdF_o (σ : wS) (s d : Nat) {j q : Nat} (h : j ≠ 24) (h2 : j ≠ 21) (h3 : j ≠ 31) : (mdF σ s d).1 j q = σ.1 j q := by
  rw [mdF]
  split
  · exact (wu_o h3).trans (wu_o h)
  · split <;> split <;> exact (wu_o h3).trans ((wu_o h).trans ((wu_o h2).trans (wu_o h)))
theorem mdS_o (σ : wS) (d : Nat) {j q : Nat} (h : j ≠ 24) (h2 : j ≠ 21) (h3 : j ≠ 31) : ∀ k, (mdS σ d k).1 j q = σ.1 j q
  | 0 => rfl
  | k + 1 => (mdF_o _ _ _ h h2 h3).trans (mdS_o σ d h h2 h3 k)
abbrev tM (σ : wS) (d i : Nat) : Int32 := tnF (σ.1 19 i) (nI i) (σ.1 18 i) (nI d)
def slO (σ : wS) (d : Nat) : Nat → Option Nat
  | 0 => none
  | k + 1 => match slO σ d k with
    | none => if σ.1 31 k = 0 then some k else none
    | some j => if σ.1 31 k = 0 ∧ tM σ d k < tM σ d j then some k else some j
theorem slO_lt {σ : wS} {d : Nat} : ∀ {k j : Nat}, slO σ d k = some j → j < k
  | 0, j, h => by simp [slO] at h
  | k + 1, j, h => by
    rw [slO] at h
    cases hs : slO σ d k with
    | none =>
      rw [hs] at h
      simp only at h
      split at h
      · cases h; omega
      · cases h
    | some i =>
      rw [hs] at h
      simp only at h
      have := slO_lt hs
      split at h
      · cases h; omega
      · cases h; omega
/-- the reference's loading of ship x at the place j -/
def glF (s : wS) (x : Nat) (mo : Int32) (d ly : Nat) : wS × Int32 := (wu (wu (mS (wu s 31 x 1) x mo ly).1 24 (201 * x + d) (mS (wu s 31 x 1) x mo ly).2) 22 x (if (mS (wu s 31 x 1) x mo ly).1.1 20 x = 0 then nI d else (-9)), (mS (wu s 31 x 1) x mo ly).2)
def gF (σ : wS) (f : Nat → Nat) (sw : Int32) (d ly : Nat) : Nat → wS × Int32
  | 0 => (σ, 0)
  | j + 1 => ((glF (gF σ f sw d ly j).1 (f j) (taF sw j) d ly).1, (gF σ f sw d ly j).2 + (glF (gF σ f sw d ly j).1 (f j) (taF sw j) d ly).2)
theorem glF_o (s : wS) (x : Nat) (mo : Int32) (d ly : Nat) {j q : Nat} (h : j ≠ 16) (h2 : j ≠ 23) (h3 : j ≠ 20) (h4 : j ≠ 24) (h5 : j ≠ 22) (h6 : j ≠ 31) : (glF s x mo d ly).1.1 j q = s.1 j q :=
  (wu_o h5).trans ((wu_o h4).trans ((mS_o _ _ _ h h2 h3 _).trans (wu_o h6)))
theorem glF_2 (s : wS) (x : Nat) (mo : Int32) (d ly : Nat) : (glF s x mo d ly).1.2 = s.2 := mS_2 _ _ _ _
theorem gF_o (σ : wS) (f : Nat → Nat) (sw : Int32) (d ly : Nat) {j q : Nat} (h : j ≠ 16) (h2 : j ≠ 23) (h3 : j ≠ 20) (h4 : j ≠ 24) (h5 : j ≠ 22) (h6 : j ≠ 31) : ∀ k, (gF σ f sw d ly k).1.1 j q = σ.1 j q
  | 0 => rfl
  | k + 1 => (glF_o _ _ _ _ _ h h2 h3 h4 h5 h6).trans (gF_o σ f sw d ly h h2 h3 h4 h5 h6 k)
theorem gF_2 (σ : wS) (f : Nat → Nat) (sw : Int32) (d ly : Nat) : ∀ k, (gF σ f sw d ly k).1.2 = σ.2
  | 0 => rfl
  | k + 1 => (glF_2 _ _ _ _ _).trans (gF_2 σ f sw d ly k)
def quF (τ : wS) (n : Nat) : Int32 := smI (fun i => if ¬ τ.1 22 i = (-9) then 0 else τ.1 20 i) n
/-- a day of the reference, whole -/
def dyM (σ : wS) (f : Nat → Nat) (z n d ly : Nat) : wS :=
  wu (wu (wu (wu (wu (gF (mdS σ d n) f (σ.1 15 d) d ly z).1 25 d (quF (gF (mdS σ d n) f (σ.1 15 d) d ly z).1 n)) 26 d (gF (mdS σ d n) f (σ.1 15 d) d ly z).2) 27 d (nI d + σ.1 14 18)) 14 19 (σ.1 14 19 + (gF (mdS σ d n) f (σ.1 15 d) d ly z).2)) 14 2 (nI (d + 1))
