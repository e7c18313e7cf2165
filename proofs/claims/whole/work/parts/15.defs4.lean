theorem wuR_b {σ : wS} {k j B : Nat} (h : ∀ q x, σ.2.2 6 q = some x → x < B) (hj : j < B) : ∀ q x, (wuR σ 6 k (some j)).2.2 6 q = some x → x < B := fun q x e => by
  by_cases hq : q = k
  · subst hq; rw [wuR_s] at e; cases e; exact hj
  · rw [wuR_d hq] at e; exact h q x e
theorem wuR_or {σ : wS} {i k j : Nat} {x : Option Nat} (h : j ≠ i) : (wuR σ i k x).2.2 j = σ.2.2 j := by show va_up σ.2.2 i _ j = _; rw [va_up_ne _ _ h]
abbrev tX (σ : wS) (d i : Nat) : Int32 := tnF (σ.1 (32 + 4 * i) 2) (σ.1 (32 + 4 * i) 0) (σ.1 (32 + 4 * i) 1) (nI d)
def insF (f : Nat → Nat) (x p : Nat) : Nat → Nat := fun k => if k < p then f k else if k = p then x else f (k - 1)
theorem insF_lo {f : Nat → Nat} {x p k : Nat} (h : k < p) : insF f x p k = f k := if_pos h
theorem insF_at {f : Nat → Nat} {x p : Nat} : insF f x p p = x := (if_neg (by omega)).trans (if_pos rfl)
theorem insF_hi {f : Nat → Nat} {x p k : Nat} (h : p < k) : insF f x p k = f (k - 1) := (if_neg (by omega)).trans (if_neg (by omega))
abbrev okX (σ : wS) (j : Nat) : Prop := σ.1 (32 + 4 * j) 9 = (-9) ∧ ¬ σ.1 (32 + 4 * j) 8 = 0
abbrev lxX (σ : wS) (d a b : Nat) : Prop := tX σ d a < tX σ d b ∨ (tX σ d a = tX σ d b ∧ a < b)
abbrev LSo (σ : wS) (d : Nat) (f : Nat → Nat) (z i : Nat) : Prop := (∀ k, k < z → f k < i ∧ okX σ (f k)) ∧ (∀ j, j < i → okX σ j → ∃ k, k < z ∧ f k = j) ∧ (∀ k k2, k < k2 → k2 < z → lxX σ d (f k) (f k2))
theorem LSo_0 (σ : wS) (d : Nat) (f : Nat → Nat) : LSo σ d f 0 0 := ⟨fun k h => by omega, fun j h => by omega, fun k k2 _ h => by omega⟩
theorem LSo_skip {σ : wS} {d : Nat} {f : Nat → Nat} {z i : Nat} (h : LSo σ d f z i) (hn : ¬ okX σ i) : LSo σ d f z (i + 1) :=
  ⟨fun k hk => ⟨by have := (h.1 k hk).1; omega, (h.1 k hk).2⟩, fun j hj ho => by
    rcases Nat.lt_or_ge j i with q | q
    · exact h.2.1 j q ho
    · obtain rfl : j = i := by omega
      exact absurd ho hn, h.2.2⟩
theorem Int32_lt_or {a b : Int32} (h : ¬ a < b) : b < a ∨ b = a := by
  rcases Int32.lt_or_eq_of_le (Int32.not_lt.mp h) with q | q
  · exact Or.inl q
  · exact Or.inr q
theorem LSo_ins {σ : wS} {d : Nat} {f : Nat → Nat} {z i p : Nat} (h : LSo σ d f z i) (ho : okX σ i) (hp : p ≤ z) (hg : ∀ k, p ≤ k → k < z → tX σ d i < tX σ d (f k)) (hl : ∀ k, k + 1 = p → ¬ tX σ d i < tX σ d (f k)) : LSo σ d (insF f i p) (z + 1) (i + 1) := by
  have hlow : ∀ k, k < p → lxX σ d (f k) i := by
    intro k hk
    have hlast : ∀ q, q + 1 = p → lxX σ d (f q) i := fun q hq => by
      have hfi := (h.1 q (by omega)).1
      rcases Int32_lt_or (hl q hq) with z1 | z1
      · exact Or.inl z1
      · exact Or.inr ⟨z1, hfi⟩
    rcases Nat.lt_or_ge (k + 1) p with q | q
    · have h1 := h.2.2 k (p - 1) (by omega) (by omega)
      have h2 := hlast (p - 1) (by omega)
      have hfi := (h.1 k (by omega)).1
      rcases h1 with a | a <;> rcases h2 with b | b
      · exact Or.inl (Int32.lt_trans a b)
      · exact Or.inl (by rw [← b.1]; exact a)
      · exact Or.inl (by rw [a.1]; exact b)
      · exact Or.inr ⟨a.1.trans b.1, hfi⟩
    · exact hlast k (by omega)
  refine ⟨fun k hk => ?_, fun j hj hoj => ?_, fun k k2 h1 h2 => ?_⟩
  · rcases Nat.lt_trichotomy k p with q | q | q
    · rw [insF_lo q]; exact ⟨by have := (h.1 k (by omega)).1; omega, (h.1 k (by omega)).2⟩
    · subst q; rw [insF_at]; exact ⟨by omega, ho⟩
    · rw [insF_hi q]; exact ⟨by have := (h.1 (k - 1) (by omega)).1; omega, (h.1 (k - 1) (by omega)).2⟩
  · rcases Nat.lt_or_ge j i with q | q
    · obtain ⟨k, hk, e⟩ := h.2.1 j q hoj
      rcases Nat.lt_or_ge k p with r | r
      · exact ⟨k, by omega, by rw [insF_lo r]; exact e⟩
      · exact ⟨k + 1, by omega, by rw [insF_hi (by omega)]; exact e⟩
    · obtain rfl : j = i := by omega
      exact ⟨p, by omega, insF_at⟩
  · rcases Nat.lt_trichotomy k p with q | q | q
    · rw [insF_lo q]
      rcases Nat.lt_trichotomy k2 p with r | r | r
      · rw [insF_lo r]; exact h.2.2 k k2 h1 (by omega)
      · subst r; rw [insF_at]; exact hlow k q
      · rw [insF_hi r]
        rcases Nat.lt_or_ge k (k2 - 1) with t | t
        · exact h.2.2 k (k2 - 1) t (by omega)
        · omega
    · subst q
      rw [insF_at, insF_hi h1]
      exact Or.inl (hg (k2 - 1) (by omega) (by omega))
    · rw [insF_hi q, insF_hi (by omega)]
      exact h.2.2 (k - 1) (k2 - 1) (by omega) (by omega)
/-- a day of the class: drinking, the line, loading -/
def drS (σ : wS) (d : Nat) : Nat → wS
  | 0 => σ
  | k + 1 => drF (drS σ d k) k d
theorem drF_2 (σ : wS) (i k : Nat) : (drF σ i k).2 = σ.2 := by unfold drF; generalize (if 0 < σ.1 (32 + 4 * i) 8 - 1 then σ.1 (32 + 4 * i) 8 - 1 else 0) = w; split; rfl; split <;> rfl
theorem drF_o (σ : wS) (i k : Nat) {j q : Nat} (h : j ≠ 32 + 4 * i) (h2 : j ≠ 35 + 4 * i) : (drF σ i k).1 j q = σ.1 j q := by
  unfold drF
  generalize (if 0 < σ.1 (32 + 4 * i) 8 - 1 then σ.1 (32 + 4 * i) 8 - 1 else 0) = w
  split
  · rfl
  · split
    · exact (wu_o h2).trans (wu_o h)
    · exact wu_o h
theorem drS_2 (σ : wS) (d : Nat) : ∀ k, (drS σ d k).2 = σ.2
  | 0 => rfl
  | k + 1 => (drF_2 _ _ _).trans (drS_2 σ d k)
theorem drS_o (σ : wS) (d : Nat) {j q : Nat} (h : j < 32) : ∀ k, (drS σ d k).1 j q = σ.1 j q
  | 0 => rfl
  | k + 1 => (drF_o _ _ _ (by omega) (by omega)).trans (drS_o σ d h k)
def mnW (s : wS) (i : Nat) (ta : Int32) : Int32 := if s.1 (32 + 4 * i) 6 < ta then s.1 (32 + 4 * i) 6 else ta
theorem tkF_2 (σ : wS) (i : Nat) (t : Int32) (k : Nat) : (tkF σ i t k).2 = σ.2 := by rw [tkF]; split <;> rfl
theorem tkF_o (σ : wS) (i : Nat) (t : Int32) (k : Nat) {j q : Nat} (h : j ≠ 32 + 4 * i) (h2 : j ≠ 35 + 4 * i) : (tkF σ i t k).1 j q = σ.1 j q := by
  rw [tkF]
  split
  · exact (wu_o h).trans ((wu_o h2).trans ((wu_o h).trans (wu_o h)))
  · exact (wu_o h2).trans ((wu_o h).trans (wu_o h))
def ldF (s : wS) (x : Nat) (ta : Int32) (d ly : Nat) : wS × Int32 := (tkF (dgS s x (mnW s x ta) ly).1 x (dgS s x (mnW s x ta) ly).2 d, (dgS s x (mnW s x ta) ly).2)
def ldS (σ : wS) (f : Nat → Nat) (sw : Int32) (d ly : Nat) : Nat → wS × Int32
  | 0 => (σ, 0)
  | k + 1 => ((ldF (ldS σ f sw d ly k).1 (f k) (taF sw k) d ly).1, (ldS σ f sw d ly k).2 + (ldF (ldS σ f sw d ly k).1 (f k) (taF sw k) d ly).2)
theorem ldF_2 (s : wS) (x : Nat) (ta : Int32) (d ly : Nat) : (ldF s x ta d ly).1.2 = s.2 := (tkF_2 _ _ _ _).trans (dgS_2 _ _ _ _)
theorem ldF_o (s : wS) (x : Nat) (ta : Int32) (d ly : Nat) {j q : Nat} (h : j < 32) (h2 : j ≠ 3) : (ldF s x ta d ly).1.1 j q = s.1 j q := (tkF_o _ _ _ _ (by omega) (by omega)).trans (dgS_o _ _ _ h2 (by omega) _)
theorem ldS_2 (σ : wS) (f : Nat → Nat) (sw : Int32) (d ly : Nat) : ∀ k, (ldS σ f sw d ly k).1.2 = σ.2
  | 0 => rfl
  | k + 1 => (ldF_2 _ _ _ _ _).trans (ldS_2 σ f sw d ly k)
theorem ldS_o (σ : wS) (f : Nat → Nat) (sw : Int32) (d ly : Nat) {j q : Nat} (h : j < 32) (h2 : j ≠ 3) : ∀ k, (ldS σ f sw d ly k).1.1 j q = σ.1 j q
  | 0 => rfl
  | k + 1 => (ldF_o _ _ _ _ _ h h2).trans (ldS_o σ f sw d ly h h2 k)
abbrev lnS (σ : wS) (rr : Nat → Nat → Option Nat) (n d : Nat) : wS := ((drS σ d n).1, (drS σ d n).2.1, rr)
abbrev lnL (σ : wS) (f : Nat → Nat) (z : Nat) (rr : Nat → Nat → Option Nat) (n d ly : Nat) : wS × Int32 := ldS (lnS σ rr n d) f ((drS σ d n).1 1 d) d ly z
def dyX (σ : wS) (f : Nat → Nat) (z : Nat) (rr : Nat → Nat → Option Nat) (n d ly : Nat) : wS :=
  wu (wu (wu (wu (lnL σ f z rr n d ly).1 11 d (smI (fun i => (lnL σ f z rr n d ly).1.1 (32 + 4 * i) 6) n)) 12 d (lnL σ f z rr n d ly).2) 13 d (nI d + σ.1 0 8)) 0 6 (nI (d + 1))
def dX (σ τ : wS) (n d ly : Nat) : Prop := ∃ (f : Nat → Nat) (z : Nat) (rr : Nat → Nat → Option Nat), LSo (drS σ d n) d f z n ∧ (∀ j, j ≠ 6 → rr j = σ.2.2 j) ∧ (∀ k x, rr 6 k = some x → x < 32 + 4 * n) ∧ z ≤ n ∧ τ = dyX σ f z rr n d ly
def chX (σ : wS) (n d ly : Nat) : Nat → wS → Prop
  | 0, τ => τ = σ
  | j + 1, τ => ∃ τ0, chX σ n d ly j τ0 ∧ dX τ0 τ n (d + j) ly
theorem dyX_o (σ : wS) (f : Nat → Nat) (z : Nat) (rr : Nat → Nat → Option Nat) (n d ly : Nat) {j q : Nat} (h : j < 32) (h2 : j ≠ 3) (h3 : j ≠ 11) (h4 : j ≠ 12) (h5 : j ≠ 13) (h6 : j ≠ 0 ∨ q ≠ 6) : (dyX σ f z rr n d ly).1 j q = σ.1 j q := by
  have h0 : (wu (wu (wu (wu (lnL σ f z rr n d ly).1 11 d (smI (fun i => (lnL σ f z rr n d ly).1.1 (32 + 4 * i) 6) n)) 12 d (lnL σ f z rr n d ly).2) 13 d (nI d + σ.1 0 8)) 0 6 (nI (d + 1))).1 j q = (wu (wu (wu (lnL σ f z rr n d ly).1 11 d (smI (fun i => (lnL σ f z rr n d ly).1.1 (32 + 4 * i) 6) n)) 12 d (lnL σ f z rr n d ly).2) 13 d (nI d + σ.1 0 8)).1 j q := by
    rw [wu_eq, if_neg (fun z => by omega)]
  exact h0.trans ((wu_o h5).trans ((wu_o h4).trans ((wu_o h3).trans ((ldS_o _ _ _ _ _ h h2 z).trans (drS_o σ d h n)))))
theorem dX_keep {σ τ : wS} {n d ly : Nat} (h : dX σ τ n d ly) : τ.1 0 6 = nI (d + 1) ∧ τ.1 0 7 = σ.1 0 7 ∧ τ.1 2 2 = σ.1 2 2 ∧ τ.2.2 5 = σ.2.2 5 ∧ (∀ k x, τ.2.2 6 k = some x → x < 32 + 4 * n) := by
  obtain ⟨f, z, rr, h1, h2, hb, h3, rfl⟩ := h
  refine ⟨wu_s, dyX_o _ _ _ _ _ _ _ (by decide) (by decide) (by decide) (by decide) (by decide) (Or.inr (by decide)), dyX_o _ _ _ _ _ _ _ (by decide) (by decide) (by decide) (by decide) (by decide) (Or.inl (by decide)), ?_, ?_⟩
  · show (lnL σ f z rr n d ly).1.2.2 5 = _
    rw [show (lnL σ f z rr n d ly).1.2 = (lnS σ rr n d).2 from ldS_2 _ _ _ _ _ _]
    exact h2 5 (by decide)
  · show ∀ k x, (lnL σ f z rr n d ly).1.2.2 6 k = some x → _
    rw [show (lnL σ f z rr n d ly).1.2 = (lnS σ rr n d).2 from ldS_2 _ _ _ _ _ _]
    exact hb
theorem lnL_o (σ : wS) (f : Nat → Nat) (z : Nat) (rr : Nat → Nat → Option Nat) (n d ly : Nat) {j q : Nat} (h : j < 32) (h2 : j ≠ 3) : (lnL σ f z rr n d ly).1.1 j q = σ.1 j q := (ldS_o (lnS σ rr n d) f _ d ly h h2 z).trans (drS_o σ d h n)
theorem lnL_2 (σ : wS) (f : Nat → Nat) (z : Nat) (rr : Nat → Nat → Option Nat) (n d ly : Nat) : (lnL σ f z rr n d ly).1.2 = ((drS σ d n).2.1, rr) := ldS_2 (lnS σ rr n d) f _ d ly z
