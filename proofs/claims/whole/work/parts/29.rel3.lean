/-! the two sides alike, whole -/
def Rel (x m : wS) (n d ly dr : Nat) : Prop :=
  (d ≤ 200 ∧ n ≤ 10 ∧ ly ≤ 6 ∧ dr ≤ 30) ∧
  (x.1 0 6 = nI d ∧ x.1 0 7 = nI n ∧ x.1 2 2 = nI ly ∧ x.1 7 2 = nI dr) ∧
  (m.1 14 2 = nI d ∧ m.1 14 7 = nI n ∧ m.1 14 4 = nI ly ∧ m.1 14 21 = nI dr) ∧
  (x.1 0 8 = m.1 14 18 ∧ x.2.1 0 = m.2.1 14 ∧ m.1 14 19 = smI (x.1 12) d) ∧
  ((∀ j, x.1 1 j = m.1 15 j) ∧ (∀ j, j < ly → x.1 4 j = m.1 17 j) ∧ (∀ j, j < dr → x.1 8 j = m.1 28 j)) ∧
  (∀ j, j < d → x.1 11 j = m.1 25 j ∧ x.1 12 j = m.1 26 j ∧ x.1 13 j = m.1 27 j) ∧
  RT x m ly ∧ (∀ i, i < n → RS x m i d d ly) ∧
  (∀ i, n ≤ i → i < 10 → (∀ l, l < 6 → m.1 23 (6 * i + l) = 0 ∧ m.1 29 (6 * i + l) = 0) ∧ ∀ j, j < 201 → m.1 24 (201 * i + j) = 0) ∧
  (∀ k, k < n → x.2.2 5 k = some (32 + 4 * k)) ∧ (∀ i j q, i = 5 ∨ i = 6 → x.2.2 i j = some q → q < 32 + 4 * n)
def KX (x x' : wS) : Prop := (∀ i k, i < 14 ∧ i ≠ 9 ∨ 32 ≤ i → x'.1 i k = x.1 i k) ∧ x'.2.1 0 = x.2.1 0 ∧ x'.2.2 = x.2.2
def KM (m m' : wS) : Prop := (∀ i k, 14 ≤ i → i < 30 → ¬ (i = 14 ∧ k = 0) → m'.1 i k = m.1 i k) ∧ m'.2.1 14 = m.2.1 14
theorem KX_rf {x : wS} : KX x x := ⟨fun _ _ _ => rfl, rfl, rfl⟩
theorem KM_rf {x : wS} : KM x x := ⟨fun _ _ _ _ _ => rfl, rfl⟩
theorem KX_wu {x y : wS} {i k : Nat} {v : Int32} (h : KX x y) (hi : 14 ≤ i) (h2 : i < 32) : KX x (wu y i k v) := ⟨fun j q hj => (wu_o (by omega)).trans (h.1 j q hj), h.2.1, h.2.2⟩
theorem KM_wu {x y : wS} {i k : Nat} {v : Int32} (h : KM x y) (hi : i < 14 ∨ 30 ≤ i) : KM x (wu y i k v) := ⟨fun j q hj hq hr => (wu_o (by omega)).trans (h.1 j q hj hq hr), h.2⟩
theorem KM_z {x y : wS} {v : Int32} (h : KM x y) : KM x (wu y 14 0 v) := ⟨fun j q hj hq hr => (wu_n (by omega)).trans (h.1 j q hj hq hr), h.2⟩
theorem KX_row {x x' : wS} (h : KX x x') {i : Nat} (hi : i < 14 ∧ i ≠ 9 ∨ 32 ≤ i) : x'.1 i = x.1 i := funext (fun k => h.1 i k hi)
theorem KM_MA {m m' : wS} (h : KM m m') (i : Nat) : MA m m' i := ⟨⟨h.1 _ _ (by omega) (by omega) (by omega), h.1 _ _ (by omega) (by omega) (by omega), h.1 _ _ (by omega) (by omega) (by omega), h.1 _ _ (by omega) (by omega) (by omega), h.1 _ _ (by omega) (by omega) (by omega)⟩, fun _ _ => h.1 _ _ (by decide) (by decide) (fun z => absurd z.1 (by decide)), fun _ _ => h.1 _ _ (by decide) (by decide) (fun z => absurd z.1 (by decide)), fun _ _ => h.1 _ _ (by decide) (by decide) (fun z => absurd z.1 (by decide))⟩
theorem KX_XA {x x' : wS} (h : KX x x') (i : Nat) : XA x x' i := ⟨KX_row h (by omega), KX_row h (by omega), KX_row h (by omega), KX_row h (by omega)⟩
theorem Rel_K {x m x' m' : wS} {n d ly dr : Nat} (h : Rel x m n d ly dr) (hx : KX x x') (hm : KM m m') : Rel x' m' n d ly dr := by
  obtain ⟨h1, ⟨a1, a2, a3, a4⟩, ⟨b1, b2, b3, b4⟩, ⟨c1, c2, c3⟩, ⟨d1, d2, d3⟩, e1, e2, e3, e4, e5, e6⟩ := h
  have hX : ∀ i k, i < 14 ∧ i ≠ 9 ∨ 32 ≤ i → x'.1 i k = x.1 i k := hx.1
  have hM : ∀ i k, 14 ≤ i → i < 30 → ¬ (i = 14 ∧ k = 0) → m'.1 i k = m.1 i k := hm.1
  refine ⟨h1, ⟨(hX _ _ (by omega)).trans a1, (hX _ _ (by omega)).trans a2, (hX _ _ (by omega)).trans a3, (hX _ _ (by omega)).trans a4⟩, ⟨(hM _ _ (by omega) (by omega) (by omega)).trans b1, (hM _ _ (by omega) (by omega) (by omega)).trans b2, (hM _ _ (by omega) (by omega) (by omega)).trans b3, (hM _ _ (by omega) (by omega) (by omega)).trans b4⟩, ⟨?_, ?_, ?_⟩, ⟨fun j => ?_, fun j hj => ?_, fun j hj => ?_⟩, fun j hj => ?_, RT_fr e2 (fun q => hX _ _ (by omega)) (fun q => hM _ _ (by omega) (by omega) (by omega)), fun i hi => RS_fr (e3 i hi) (by omega) (KX_XA hx i) (KM_MA hm i), fun i h0 hi => ?_, ?_, ?_⟩
  · rw [hX _ _ (by omega), hM _ _ (by omega) (by omega) (by omega)]; exact c1
  · rw [hx.2.1, hm.2]; exact c2
  · rw [hM _ _ (by omega) (by omega) (by omega), KX_row hx (by omega)]; exact c3
  · rw [hX _ _ (by omega), hM _ _ (by omega) (by omega) (by omega)]; exact d1 j
  · rw [hX _ _ (by omega), hM _ _ (by omega) (by omega) (by omega)]; exact d2 j hj
  · rw [hX _ _ (by omega), hM _ _ (by omega) (by omega) (by omega)]; exact d3 j hj
  · rw [hX _ _ (by omega), hM _ _ (by omega) (by omega) (by omega), hX _ _ (by omega), hM _ _ (by omega) (by omega) (by omega), hX _ _ (by omega), hM _ _ (by omega) (by omega) (by omega)]; exact e1 j hj
  · refine ⟨fun l hl => ⟨(hM _ _ (by omega) (by omega) (by omega)).trans ((e4 i h0 hi).1 l hl).1, (hM _ _ (by omega) (by omega) (by omega)).trans ((e4 i h0 hi).1 l hl).2⟩, fun j hj => (hM _ _ (by omega) (by omega) (by omega)).trans ((e4 i h0 hi).2 j hj)⟩
  · rw [hx.2.2]; exact e5
  · rw [hx.2.2]; exact e6
theorem tXM {x m : wS} {i c d ly d2 : Nat} (h : RS x m i c d ly) : tX x d2 i = tM m d2 i := by
  obtain ⟨⟨h1, h2, h3⟩, ⟨a, ha, ha1, ha2, ha3⟩, -⟩ := h
  rw [tX, tM, h1, h2, ha1, ha2]
/-- a day of both -/
theorem day_all {x m τ : wS} {n d ly dr : Nat} (h : Rel x m n d ly dr) (hd : d < 200) (hday : dX x τ n d ly) : ∃ (f : Nat → Nat) (z : Nat), GO m f z n d ly ∧ Rel τ (dyM m f z n d ly) n (d + 1) ly dr := by
  obtain ⟨⟨h1, h1b, h1c, h1d⟩, ⟨a1, a2, a3, a4⟩, ⟨b1, b2, b3, b4⟩, ⟨c1, c2, c3⟩, ⟨d1, d2, d3⟩, e1, e2, e3, e4, e5, e6⟩ := h
  obtain ⟨f, z, rr, ⟨l1, l2, l3⟩, r2, r3, hzn, rfl⟩ := hday
  obtain ⟨p1, p2⟩ := dr_all hd e3 n (Nat.le_refl n)
  have hX1 : ∀ j q, j < 32 → (drS x d n).1 j q = x.1 j q := fun j q hj => drS_o x d hj n
  have hM1 : ∀ j q, j ≠ 24 → j ≠ 21 → j ≠ 31 → (mdS m d n).1 j q = m.1 j q := fun j q a b c => mdS_o m d a b c n
  have hsw : (drS x d n).1 1 d = m.1 15 d := (hX1 _ _ (by omega)).trans (d1 d)
  have hin : ∀ a b, a < b → b < z → f a ≠ f b := fun a b hab hb e => by
    rcases l3 a b hab hb with q | q
    · rw [e] at q; exact Int32.lt_irrefl q
    · have := q.2; omega
  have hLD := ld_all (X := lnS x rr n d) (M := mdS m d n) (n := n) (d := d) (ly := ly) (z := z) (f := f) (sw := m.1 15 d) hd h1c (fun i hi => (p1 i hi).1) (RT_fr e2 (fun q => hX1 _ _ (by omega)) (fun q => hM1 _ _ (by decide) (by decide) (by decide))) (fun k hk => (l1 k hk).1) hin (fun k hk => (l1 k hk).2.1)
  have htM : ∀ k i, i < n → tM (gF (mdS m d n) f (m.1 15 d) d ly k).1 d i = tX (drS x d n) d i := fun k i hi => by
    rw [tXM (p1 i hi).1, tM, tM, gF_o _ _ _ _ _ (by decide) (by decide) (by decide) (by decide) (by decide) (by decide), gF_o _ _ _ _ _ (by decide) (by decide) (by decide) (by decide) (by decide) (by decide)]
  have hsl : ∀ j, j ≤ z → (j < z → slO (gF (mdS m d n) f (m.1 15 d) d ly j).1 d n = some (f j)) ∧ (z ≤ j → slO (gF (mdS m d n) f (m.1 15 d) d ly j).1 d n = none) := fun j hj => by
    obtain ⟨-, -, -, -, q5, -⟩ := hLD j hj
    refine slO_line (fun k hk => ?_) (fun q hq => (l1 q hq).1) (fun a b hab hb => ?_)
    · rw [q5 k, (p1 k hk).2]
      refine ⟨fun y => ?_, fun y => ?_⟩
      · obtain ⟨q, hq, e⟩ := l2 k hk y.1
        refine ⟨q, Nat.le_of_not_lt (fun w => y.2 q w e), hq, e⟩
      · obtain ⟨q, hq1, hq2, e⟩ := y
        subst e
        refine ⟨(l1 q hq2).2, fun q2 h2 e2 => hin q2 q (by omega) hq2 e2⟩
    · rw [htM j (f a) (l1 a (by omega)).1, htM j (f b) (l1 b hb).1]
      exact l3 a b hab hb
  refine ⟨f, z, ⟨b2, b1, b3, fun i hi => (e3 i hi).1.2.2, fun j hj => (hsl j (by omega)).1 hj, (hsl z (Nat.le_refl z)).2 (Nat.le_refl z), by omega⟩, ?_⟩
  obtain ⟨q1, q2, q3, -, -, q6⟩ := hLD z (Nat.le_refl z)
  have hXo : ∀ j q, j < 32 → j ≠ 3 → (lnL x f z rr n d ly).1.1 j q = x.1 j q := fun j q a b => lnL_o x f z rr n d ly a b
  have hMo : ∀ j q, j ≠ 16 → j ≠ 23 → j ≠ 20 → j ≠ 24 → j ≠ 22 → j ≠ 31 → j ≠ 21 → (gF (mdS m d n) f (m.1 15 d) d ly z).1.1 j q = m.1 j q := fun j q a b c e g i k => (gF_o _ _ _ _ _ a b c e g i z).trans (hM1 j q e k i)
  have hX2 : (lnL x f z rr n d ly).1.2 = (x.2.1, rr) := by rw [lnL_2, drS_2]
  have hM2 : (gF (mdS m d n) f (m.1 15 d) d ly z).1.2 = m.2 := by rw [gF_2, mdS_2]
  have q1' : ∀ i, i < n → RS (lnL x f z rr n d ly).1 (gF (mdS m d n) f (m.1 15 d) d ly z).1 i d (d + 1) ly := by rw [lnL, hsw]; exact q1
  have q2' : RT (lnL x f z rr n d ly).1 (gF (mdS m d n) f (m.1 15 d) d ly z).1 ly := by rw [lnL, hsw]; exact q2
  have q3' : (lnL x f z rr n d ly).2 = (gF (mdS m d n) f (m.1 15 d) d ly z).2 := by rw [lnL, hsw]; exact q3
  have q6' : ∀ i, n ≤ i → MA m (gF (mdS m d n) f (m.1 15 d) d ly z).1 i := fun i hi => MA_tr (p2 i hi).2 (q6 i hi)
  rw [dyX, dyM]
  generalize lnL x f z rr n d ly = X at *
  generalize gF (mdS m d n) f (m.1 15 d) d ly z = M at *
  obtain ⟨X, xt⟩ := X
  obtain ⟨M, mt⟩ := M
  dsimp only at *
  subst q3'
  have hq : quF M n = smI (fun i => X.1 (32 + 4 * i) 6) n := by
    rw [quF]
    refine smI_cong (fun i hi => ?_)
    obtain ⟨-, ⟨a, ha, ha1, ha2, ha3⟩, ⟨w, hw, hw1, hw2⟩, -, k5, -⟩ := q1' i hi
    rw [← k5, hw2, hw1]
    rcases ha3 with y | ⟨e, -, -, -, y⟩
    · rw [if_neg (fun w => w y)]
    · rw [hw1] at y
      rw [y]
      exact ite_self _
  rw [hq]
  generalize smI (fun i => X.1 (32 + 4 * i) 6) n = qq
  have fM : ∀ i, MA M (wu (wu (wu (wu (wu M 25 d qq) 26 d xt) 27 d (nI d + m.1 14 18)) 14 19 (m.1 14 19 + xt)) 14 2 (nI (d + 1))) i := fun i => MA_wu (MA_wu (MA_wu (MA_wu (MA_wu MA_rf (by omega)) (by omega)) (by omega)) (by omega)) (by omega)
  have fX : ∀ i, XA X (wu (wu (wu (wu X 11 d qq) 12 d xt) 13 d (nI d + x.1 0 8)) 0 6 (nI (d + 1))) i := fun i => XA_wu (XA_wu (XA_wu (XA_wu XA_rf (by omega)) (by omega)) (by omega)) (by omega)
  refine ⟨⟨by omega, h1b, h1c, h1d⟩, ⟨wu_s, ?_, ?_, ?_⟩, ⟨wu_s, ?_, ?_, ?_⟩, ⟨?_, ?_, ?_⟩, ⟨fun j => ?_, fun j hj => ?_, fun j hj => ?_⟩, fun j hj => ?_, ?_, fun i hi => ?_, fun i h0 hi => ?_, ?_, ?_⟩
  · rw [wu_d (by decide), wu_o (by decide), wu_o (by decide), wu_o (by decide), hXo _ _ (by decide) (by decide)]; exact a2
  · rw [wu_o (by decide), wu_o (by decide), wu_o (by decide), wu_o (by decide), hXo _ _ (by decide) (by decide)]; exact a3
  · rw [wu_o (by decide), wu_o (by decide), wu_o (by decide), wu_o (by decide), hXo _ _ (by decide) (by decide)]; exact a4
  · rw [wu_d (by decide), wu_d (by decide), wu_o (by decide), wu_o (by decide), wu_o (by decide), hMo _ _ (by decide) (by decide) (by decide) (by decide) (by decide) (by decide) (by decide)]; exact b2
  · rw [wu_d (by decide), wu_d (by decide), wu_o (by decide), wu_o (by decide), wu_o (by decide), hMo _ _ (by decide) (by decide) (by decide) (by decide) (by decide) (by decide) (by decide)]; exact b3
  · rw [wu_d (by decide), wu_d (by decide), wu_o (by decide), wu_o (by decide), wu_o (by decide), hMo _ _ (by decide) (by decide) (by decide) (by decide) (by decide) (by decide) (by decide)]; exact b4
  · rw [wu_d (by decide), wu_o (by decide), wu_o (by decide), wu_o (by decide), hXo _ _ (by decide) (by decide), wu_d (by decide), wu_d (by decide), wu_o (by decide), wu_o (by decide), wu_o (by decide), hMo _ _ (by decide) (by decide) (by decide) (by decide) (by decide) (by decide) (by decide)]; exact c1
  · show X.2.1 0 = M.2.1 14
    rw [hX2, hM2]; exact c2
  · rw [wu_d (by decide), wu_s, wu_or (by decide), wu_or (by decide), smI, wu_s, c3]
    congr 1
    refine smI_cong (fun j hj => ?_)
    rw [wu_d (by omega), wu_o (by decide), hXo _ _ (by decide) (by decide)]
  · rw [wu_o (by decide), wu_o (by decide), wu_o (by decide), wu_o (by decide), hXo _ _ (by decide) (by decide), wu_o (by decide), wu_o (by decide), wu_o (by decide), wu_o (by decide), wu_o (by decide), hMo _ _ (by decide) (by decide) (by decide) (by decide) (by decide) (by decide) (by decide)]; exact d1 j
  · rw [wu_o (by decide), wu_o (by decide), wu_o (by decide), wu_o (by decide), hXo _ _ (by decide) (by decide), wu_o (by decide), wu_o (by decide), wu_o (by decide), wu_o (by decide), wu_o (by decide), hMo _ _ (by decide) (by decide) (by decide) (by decide) (by decide) (by decide) (by decide)]; exact d2 j hj
  · rw [wu_o (by decide), wu_o (by decide), wu_o (by decide), wu_o (by decide), hXo _ _ (by decide) (by decide), wu_o (by decide), wu_o (by decide), wu_o (by decide), wu_o (by decide), wu_o (by decide), hMo _ _ (by decide) (by decide) (by decide) (by decide) (by decide) (by decide) (by decide)]; exact d3 j hj
  · by_cases e : j = d
    · subst e
      refine ⟨?_, ?_, ?_⟩
      · rw [wu_o (by decide), wu_o (by decide), wu_o (by decide), wu_s, wu_o (by decide), wu_o (by decide), wu_o (by decide), wu_o (by decide), wu_s]
      · rw [wu_o (by decide), wu_o (by decide), wu_s, wu_o (by decide), wu_o (by decide), wu_o (by decide), wu_s]
      · rw [wu_o (by decide), wu_s, wu_o (by decide), wu_o (by decide), wu_s, c1]
    · obtain ⟨y1, y2, y3⟩ := e1 j (by omega)
      refine ⟨?_, ?_, ?_⟩
      · rw [wu_o (by decide), wu_o (by decide), wu_o (by decide), wu_d e, hXo _ _ (by decide) (by decide), wu_o (by decide), wu_o (by decide), wu_o (by decide), wu_o (by decide), wu_d e, hMo _ _ (by decide) (by decide) (by decide) (by decide) (by decide) (by decide) (by decide)]; exact y1
      · rw [wu_o (by decide), wu_o (by decide), wu_d e, wu_o (by decide), hXo _ _ (by decide) (by decide), wu_o (by decide), wu_o (by decide), wu_o (by decide), wu_d e, wu_o (by decide), hMo _ _ (by decide) (by decide) (by decide) (by decide) (by decide) (by decide) (by decide)]; exact y2
      · rw [wu_o (by decide), wu_d e, wu_o (by decide), wu_o (by decide), hXo _ _ (by decide) (by decide), wu_o (by decide), wu_o (by decide), wu_d e, wu_o (by decide), wu_o (by decide), hMo _ _ (by decide) (by decide) (by decide) (by decide) (by decide) (by decide) (by decide)]; exact y3
  · refine RT_fr q2' (fun q => ?_) (fun q => ?_)
    · rw [wu_o (by decide), wu_o (by decide), wu_o (by decide), wu_o (by decide)]
    · rw [wu_o (by decide), wu_o (by decide), wu_o (by decide), wu_o (by decide), wu_o (by decide)]
  · exact RS_mono (RS_fr (q1' i hi) (by omega) (fX i) (fM i)) (by omega)
  · obtain ⟨-, y1, y2, y3⟩ := MA_tr (q6' i h0) (fM i)
    exact ⟨fun l hl => ⟨(y1 l hl).trans ((e4 i h0 hi).1 l hl).1, (y2 l hl).trans ((e4 i h0 hi).1 l hl).2⟩, fun j hj => (y3 j hj).trans ((e4 i h0 hi).2 j hj)⟩
  · show ∀ k, k < n → X.2.2 5 k = some (32 + 4 * k)
    rw [hX2]
    intro k hk
    show rr 5 k = _
    rw [r2 5 (by decide)]; exact e5 k hk
  · show ∀ i j q, i = 5 ∨ i = 6 → X.2.2 i j = some q → q < 32 + 4 * n
    rw [hX2]
    intro i j q hi hq
    rcases hi with rfl | rfl
    · have hq : rr 5 j = some q := hq
      rw [r2 5 (by decide)] at hq; exact e6 5 j q (Or.inl rfl) hq
    · exact r3 j q hq
theorem days_all {x m : wS} {n d ly dr : Nat} (h : Rel x m n d ly dr) : ∀ (j : Nat) (τ : wS), d + j ≤ 200 → chX x n d ly j τ → ∃ (ms : Nat → wS) (fs : Nat → Nat → Nat) (zs : Nat → Nat), ms 0 = m ∧ (∀ i, i < j → GO (ms i) (fs i) (zs i) n (d + i) ly ∧ ms (i + 1) = dyM (ms i) (fs i) (zs i) n (d + i) ly) ∧ Rel τ (ms j) n (d + j) ly dr
  | 0, τ, _, hc => ⟨fun _ => m, fun _ _ => 0, fun _ => 0, rfl, fun i hi => by omega, by
      have hc : τ = x := hc
      subst hc; exact h⟩
  | j + 1, τ, hj, hc => by
    obtain ⟨τ0, hc0, hd0⟩ := hc
    obtain ⟨ms, fs, zs, g1, g2, g3⟩ := days_all h j τ0 (by omega) hc0
    obtain ⟨f, z, k1, k2⟩ := day_all g3 (by omega) hd0
    refine ⟨fun i => if i ≤ j then ms i else dyM (ms j) f z n (d + j) ly, fun i => if i < j then fs i else f, fun i => if i < j then zs i else z, ?_, fun i hi => ?_, ?_⟩
    · dsimp only; rw [if_pos (Nat.zero_le _)]; exact g1
    · dsimp only
      rcases Nat.lt_or_ge i j with q | q
      · rw [if_pos (by omega), if_pos q, if_pos q, if_pos (by omega)]; exact g2 i q
      · obtain rfl : i = j := by omega
        rw [if_pos (by omega), if_neg (by omega), if_neg (by omega), if_neg (by omega)]
        exact ⟨k1, rfl⟩
    · dsimp only; rw [if_neg (by omega)]; exact k2
