section RC2
variable {x m σ : wS} {n d ly dr : Nat}
theorem s_byte {y : Int32} (h : Rel x m n d ly dr) (hd : dr < 30) : Rel (wu (wu x 8 dr y) 7 2 (nI (dr + 1))) (wu (wu m 28 dr y) 14 21 (nI (dr + 1))) n d ly (dr + 1) := by
  obtain ⟨⟨h1, h1b, h1c, h1d⟩, ⟨a1, a2, a3, a4⟩, ⟨b1, b2, b3, b4⟩, ⟨c1, c2, c3⟩, ⟨d1, d2, d3⟩, e1, e2, e3, e4, e5, e6⟩ := h
  exact ⟨⟨by omega, by omega, by omega, by omega⟩, ⟨by simp [wu_eq, a1], by simp [wu_eq, a2], by simp [wu_eq, a3], wu_s⟩, ⟨by simp [wu_eq, b1], by simp [wu_eq, b2], by simp [wu_eq, b3], wu_s⟩, ⟨by simp [wu_eq, c1], c2, by simp [wu_or, wu_eq, c3]⟩, ⟨fun j => by simp [wu_eq, d1 j], fun j hj => by simp [wu_eq, d2 j hj], fun j hj => by (by_cases e : j = dr); (· subst e; simp [wu_eq]); (· simp [wu_eq, e, d3 j (by omega)])⟩, fun j hj => by obtain ⟨y1, y2, y3⟩ := e1 j hj; simp [wu_eq, y1, y2, y3], RT_fr e2 (fun q => by simp [wu_eq]) (fun q => by simp [wu_eq]), fun i hi => RS_fr (e3 i hi) (by omega) (XA_wu (XA_wu XA_rf (by omega)) (by omega)) (MA_wu (MA_wu MA_rf (by omega)) (by omega)), fun i h0 hi => RZ_fr (e4 i h0 hi) (MA_wu (MA_wu MA_rf (by omega)) (by omega)), e5, e6⟩
theorem s_bytes {v : Int64} {k : Nat} (h : Rel x m n d ly dr) (hk : k ≤ 8) (hd : dr + k ≤ 30) : ∀ t, t ≤ k → Rel (apS x v k dr t) (maS m v k dr t) n d ly (dr + t)
  | 0, _ => h
  | t + 1, ht => by
    rw [apS, maS, by_eq v (k - 1 - t) (by omega)]
    exact s_byte (s_bytes h hk hd t (by omega)) (by omega)
theorem s_type {v : Int64} {b : Int32} (h : Rel x m n d ly dr) : (tyF x dr v b).1 = (mTyF m dr v b).1 ∧ ∃ dr2, Rel (tyF x dr v b).2 (mTyF m dr v b).2 n d ly dr2 := by
  have h0 := Rel_z h
  have hdr : dr ≤ 30 := h.1.2.2.2
  rw [tyF, mTyF]
  by_cases p1 : ¬ b < 1 ∧ ¬ 8 < b
  · rw [if_pos p1, if_pos p1]
    by_cases p2 : nI dr + b ≤ 30
    · rw [if_pos p2, if_pos p2]
      obtain ⟨k, hk, rfl⟩ := nI_btw (n := 8) (fun z => p1.1 (Int32.lt_trans z (by decide))) p1.2 (by decide)
      rw [nI_add] at p2
      have h2 : dr + k ≤ 30 := nI_le' (b := 30) p2 (by omega) (by decide)
      rw [nI_clamp (by omega)]
      exact ⟨rfl, dr + k, s_bytes h0 hk h2 k (Nat.le_refl k)⟩
    · rw [if_neg p2, if_neg p2]; exact ⟨rfl, dr, h0⟩
  · rw [if_neg p1, if_neg p1]; exact ⟨rfl, dr, h0⟩
theorem kM_ap {v : Int64} {k dr : Nat} : ∀ t, KM σ (apS σ v k dr t)
  | 0 => KM_rf
  | t + 1 => KM_wu (KM_wu (kM_ap t) (by omega)) (by omega)
theorem kX_ma {y : wS} {v : Int64} {k dr : Nat} (h : KX σ y) : ∀ t, KX σ (maS y v k dr t)
  | 0 => h
  | t + 1 => KX_wu (KX_wu (kX_ma h t) (by omega) (by omega)) (by omega) (by omega)
theorem kM_type {v : Int64} {b : Int32} : KM σ (tyF σ dr v b).2 := by
  rw [tyF]; (repeat' split) <;> first | exact KM_rf | exact kM_ap _
theorem kX_type {v : Int64} {b : Int32} : KX σ (mTyF σ dr v b).2 := by
  rw [mTyF]; (repeat' split) <;> first | exact KX_wu KX_rf (by omega) (by omega) | exact kX_ma (KX_wu KX_rf (by omega) (by omega)) _
abbrev CX (σ : wS) (a : Int32) (n dr : Nat) (r : Int32) (τ : wS) : Prop := ((a < 0 ∨ nI n ≤ a) ∧ r = (-1) ∧ τ = σ) ∨ (∃ k, k < n ∧ a = nI k ∧ ((dr = 0 ∧ r = (-2) ∧ τ = σ) ∨ (dr ≠ 0 ∧ ∃ tr0 tr1 : Nat → Int32, (∀ j, j < 6 → tr0 j = 0) ∧ ((∃ q, (xP (σ.1 8) dr dr 6 false tr0).1 = some q ∧ r = (-100) - nI q ∧ τ = w9 σ tr1) ∨ ((xP (σ.1 8) dr dr 6 false tr0).1 = none ∧ r = 1 ∧ (xP (σ.1 8) dr dr 6 false tr0).2 = tr1 ∧ τ = wu (wrow (w9 σ tr1) (34 + 4 * k) (va_cpy ((w9 σ tr1).1 9) ((w9 σ tr1).1 (34 + 4 * k)) 0 0 6)) 7 2 0)))))
abbrev CM (σ : wS) (a : Int32) (n dr : Nat) (r : Int32) (τ : wS) : Prop := ((a < 0 ∨ nI n ≤ a) ∧ r = (-1) ∧ τ = wu σ 14 0 0) ∨ (∃ k, k < n ∧ a = nI k ∧ ((dr = 0 ∧ r = (-2) ∧ τ = wu σ 14 0 0) ∨ (dr ≠ 0 ∧ ∃ tr0 tr1 : Nat → Int32, (∀ j, j < 6 → tr0 j = 0) ∧ ((∃ q, (xP (σ.1 28) dr dr 6 false tr0).1 = some q ∧ r = (-100) - nI q ∧ τ = w30 (wu σ 14 0 0) tr1) ∨ ((xP (σ.1 28) dr dr 6 false tr0).1 = none ∧ r = 1 ∧ (xP (σ.1 28) dr dr 6 false tr0).2 = tr1 ∧ τ = wu (cpM (w30 (wu σ 14 0 0) tr1) k 6) 14 21 0)))))
theorem w9_o {tr : Nat → Int32} {i : Nat} (h : i ≠ 9) : (w9 σ tr).1 i = σ.1 i := by show va_up σ.1 9 tr i = _; rw [va_up_ne _ _ h]
theorem w30_o {tr : Nat → Int32} {i : Nat} (h : i ≠ 30) : (w30 σ tr).1 i = σ.1 i := by show va_up σ.1 30 tr i = _; rw [va_up_ne _ _ h]
theorem KX_w9 {tr : Nat → Int32} : KX σ (w9 σ tr) := ⟨fun i k hi => by rw [w9_o (by omega)], rfl, rfl⟩
theorem KM_w9 {tr : Nat → Int32} : KM σ (w9 σ tr) := ⟨fun i k hi h2 _ => by rw [w9_o (by omega)], rfl⟩
theorem KM_w30 {y : wS} {tr : Nat → Int32} (h : KM σ y) : KM σ (w30 y tr) := ⟨fun i k hi h2 h3 => by rw [w30_o (by omega)]; exact h.1 i k hi h2 h3, h.2⟩
theorem KX_w30 {y : wS} {tr : Nat → Int32} (h : KX σ y) : KX σ (w30 y tr) := ⟨fun i k hi => by rw [w30_o (by omega)]; exact h.1 i k hi, h.2.1, h.2.2⟩
theorem wrow_or {i j : Nat} {f : Nat → Int32} (h : i ≠ j) : (wrow σ j f).1 i = σ.1 i := funext (fun k => wrow_o h)
theorem cp_rd {k : Nat} : ∀ {l : Nat} (j : Nat), l < j → (cpM σ k j).1 29 (6 * k + l) = σ.1 30 l
  | l, 0, h => by omega
  | l, j + 1, h => by
    rw [cpM]
    by_cases e : l = j
    · subst e; exact wu_s
    · exact (wu_d (by omega)).trans (cp_rd j (by omega))
theorem cp_29 {k p : Nat} : ∀ (j : Nat), (∀ l, l < j → p ≠ 6 * k + l) → (cpM σ k j).1 29 p = σ.1 29 p
  | 0, _ => rfl
  | j + 1, h => (wu_d (h j (by omega))).trans (cp_29 j (fun l hl => h l (by omega)))
theorem RS_tm {x' m' : wS} {i c : Nat} (h : RS x m i c d ly) (hd : d ≤ 200) (x0 : x'.1 (32 + 4 * i) = x.1 (32 + 4 * i)) (x1 : x'.1 (33 + 4 * i) = x.1 (33 + 4 * i)) (x3 : x'.1 (35 + 4 * i) = x.1 (35 + 4 * i)) (hm : ∀ j q, j ≠ 29 → j ≠ 14 → m'.1 j q = m.1 j q) (hn : ∀ k, k < 6 → x'.1 (34 + 4 * i) k = m'.1 29 (6 * i + k)) : RS x' m' i c d ly := by
  obtain ⟨⟨h1, h2, h3⟩, ⟨a, ha, ha1, ha2, ha3⟩, ⟨w, hw, hw1, hw2⟩, ⟨v, hv, hv1, hv2⟩, h5, h6, h7, h8, h9, h10, h11⟩ := h
  exact ⟨⟨by rw [x0]; exact h1, by rw [x0, hm _ _ (by decide) (by decide)]; exact h2, by rw [hm _ _ (by decide) (by decide)]; exact h3⟩, ⟨a, ha, by rw [x0]; exact ha1, by rw [hm _ _ (by decide) (by decide)]; exact ha2, by rw [x0]; exact ha3⟩, ⟨w, hw, by rw [x0]; exact hw1, by rw [hm _ _ (by decide) (by decide)]; exact hw2⟩, ⟨v, hv, by rw [x0]; exact hv1, by rw [hm _ _ (by decide) (by decide)]; exact hv2⟩, by rw [x0, hm _ _ (by decide) (by decide)]; exact h5, by rw [x0, x1]; exact h6, fun l hl => by rw [x1, hm _ _ (by decide) (by decide)]; exact h7 l hl, fun l h0 hl => by rw [x1]; exact h8 l h0 hl, hn, fun j hj => by rw [x3, hm _ _ (by decide) (by decide)]; exact h10 j hj, fun j h0 hj => by rw [x3]; exact h11 j h0 hj⟩
theorem s_chart {k : Nat} {f : Nat → Int32} (h : Rel x m n d ly dr) (hk : k < n) (hf : ∀ l, l < 6 → f l = m.1 30 l) : Rel (wu (wrow x (34 + 4 * k) f) 7 2 0) (wu (cpM m k 6) 14 21 0) n d ly 0 := by
  obtain ⟨⟨h1, h1b, h1c, h1d⟩, ⟨a1, a2, a3, a4⟩, ⟨b1, b2, b3, b4⟩, ⟨c1, c2, c3⟩, ⟨d1, d2, d3⟩, e1, e2, e3, e4, e5, e6⟩ := h
  have hX : ∀ i q, i ≠ 7 → i ≠ 34 + 4 * k → (wu (wrow x (34 + 4 * k) f) 7 2 0).1 i q = x.1 i q := fun i q a b => (wu_o a).trans (wrow_o b)
  have hXr : ∀ i, i ≠ 7 → i ≠ 34 + 4 * k → (wu (wrow x (34 + 4 * k) f) 7 2 0).1 i = x.1 i := fun i a b => funext (fun q => hX i q a b)
  have hM : ∀ i q, i ≠ 29 → i ≠ 14 → (wu (cpM m k 6) 14 21 0).1 i q = m.1 i q := fun i q a b => (wu_o b).trans (cpM_o m k a 6)
  have hM14 : ∀ q, q ≠ 21 → (wu (cpM m k 6) 14 21 0).1 14 q = m.1 14 q := fun q a => (wu_d a).trans (cpM_o m k (by decide) 6)
  have hM29 : ∀ i, i ≠ k → ∀ l, l < 6 → (wu (cpM m k 6) 14 21 0).1 29 (6 * i + l) = m.1 29 (6 * i + l) := fun i a l hl => (wu_o (by decide)).trans (cp_29 6 (fun q hq => by omega))
  refine ⟨⟨h1, h1b, h1c, by omega⟩, ⟨(hX _ _ (by decide) (by omega)).trans a1, (hX _ _ (by decide) (by omega)).trans a2, (hX _ _ (by decide) (by omega)).trans a3, wu_s⟩, ⟨(hM14 _ (by decide)).trans b1, (hM14 _ (by decide)).trans b2, (hM14 _ (by decide)).trans b3, wu_s⟩, ⟨?_, ?_, ?_⟩, ⟨fun j => ?_, fun j hj => ?_, fun j hj => absurd hj (Nat.not_lt_zero j)⟩, fun j hj => ?_, RT_fr e2 (fun q => hX _ _ (by decide) (by omega)) (fun q => hM _ _ (by decide) (by decide)), fun i hi => ?_, fun i h0 hi => ?_, e5, e6⟩
  · rw [hX _ _ (by decide) (by omega), hM14 _ (by decide)]; exact c1
  · refine c2.trans ?_
    show m.2.1 14 = (cpM m k 6).2.1 14
    rw [cpM_2]
  · rw [hM14 _ (by decide), hXr _ (by decide) (by omega)]; exact c3
  · rw [hX _ _ (by decide) (by omega), hM _ _ (by decide) (by decide)]; exact d1 j
  · rw [hX _ _ (by decide) (by omega), hM _ _ (by decide) (by decide)]; exact d2 j hj
  · rw [hX _ _ (by decide) (by omega), hM _ _ (by decide) (by decide), hX _ _ (by decide) (by omega), hM _ _ (by decide) (by decide), hX _ _ (by decide) (by omega), hM _ _ (by decide) (by decide)]; exact e1 j hj
  · refine RS_tm (e3 i hi) h1 (hXr _ (by omega) (by omega)) (hXr _ (by omega) (by omega)) (hXr _ (by omega) (by omega)) hM (fun l hl => ?_)
    by_cases e : i = k
    · subst e
      rw [wu_o (by omega), wrow_s, wu_o (by decide), cp_rd 6 hl]; exact hf l hl
    · rw [hX _ _ (by omega) (by omega), hM29 i e l hl]
      exact (e3 i hi).2.2.2.2.2.2.2.2.1 l hl
  · obtain ⟨y1, y2⟩ := e4 i h0 hi
    exact ⟨fun l hl => ⟨(hM _ _ (by decide) (by decide)).trans (y1 l hl).1, (hM29 i (by omega) l hl).trans (y1 l hl).2⟩, fun j hj => (hM _ _ (by decide) (by decide)).trans (y2 j hj)⟩
theorem s_charter {a r1 r2 : Int32} {τ τ2 : wS} (h : Rel x m n d ly dr) (p1 : CX x a n dr r1 τ) (p2 : CM m a n dr r2 τ2) : r1 = r2 ∧ ∃ dr2, Rel τ τ2 n d ly dr2 := by
  have h0 := Rel_z h
  have hn10 : n ≤ 10 := h.1.2.1
  rcases p1 with ⟨z1, rfl, rfl⟩ | ⟨k, hk, rfl, p1⟩
  · rcases p2 with ⟨-, rfl, rfl⟩ | ⟨k, hk, rfl, -⟩
    · exact ⟨rfl, dr, h0⟩
    · exact absurd z1 (nbad hk (by omega))
  · rcases p2 with ⟨z2, -⟩ | ⟨k2, hk2, ek, p2⟩
    · exact absurd z2 (nbad hk (by omega))
    · have ek : k = k2 := (nI_eq (by omega) (by omega)).mp ek
      subst ek
      rcases p1 with ⟨hd0, rfl, rfl⟩ | ⟨hd0, t0, t1, ht, p1⟩
      · rcases p2 with ⟨-, rfl, rfl⟩ | ⟨hd1, -⟩
        · exact ⟨rfl, dr, h0⟩
        · exact absurd hd0 hd1
      · rcases p2 with ⟨hd1, -⟩ | ⟨-, u0, u1, hu, p2⟩
        · exact absurd hd1 hd0
        · obtain ⟨g1, g2⟩ := xP_cong (bs := x.1 8) (bs2 := m.1 28) (dr := dr) h.2.2.2.2.1.2.2 dr 6 false t0 u0 (Nat.le_refl dr) (fun j hj => (ht j hj).trans (hu j hj).symm)
          rcases p1 with ⟨q, f1, rfl, rfl⟩ | ⟨f1, rfl, f2, rfl⟩
          · rcases p2 with ⟨q2, f3, rfl, rfl⟩ | ⟨f3, -⟩
            · rw [f1, f3] at g1
              cases g1
              exact ⟨rfl, dr, Rel_K h KX_w9 (KM_w30 (KM_z KM_rf))⟩
            · rw [f1, f3] at g1; cases g1
          · rcases p2 with ⟨q2, f3, -⟩ | ⟨f3, rfl, f4, rfl⟩
            · rw [f1, f3] at g1; cases g1
            · refine ⟨rfl, 0, s_chart (Rel_K h KX_w9 (KM_w30 (KM_z KM_rf))) hk (fun l hl => ?_)⟩
              rw [w30_30, ← f4, ← g2 l hl, f2]
              show (if 0 ≤ l ∧ l < 0 + 6 then (w9 x t1).1 9 (0 + (l - 0)) else _) = _
              rw [if_pos ⟨Nat.zero_le _, by omega⟩, w9_9]
              congr 1
              omega
theorem kM_charter {a r1 : Int32} {τ : wS} (p1 : CX σ a n dr r1 τ) : KM σ τ := by
  rcases p1 with ⟨-, -, rfl⟩ | ⟨k, hk, -, p1⟩
  · exact KM_rf
  · rcases p1 with ⟨-, -, rfl⟩ | ⟨-, t0, t1, -, p1⟩
    · exact KM_rf
    · rcases p1 with ⟨q, -, -, rfl⟩ | ⟨-, -, -, rfl⟩
      · exact KM_w9
      · exact ⟨fun i k hi h2 h3 => (wu_o (by omega)).trans ((wrow_o (by omega)).trans (KM_w9.1 i k hi h2 h3)), rfl⟩
theorem kX_charter {a r1 : Int32} {τ : wS} (p1 : CM σ a n dr r1 τ) : KX σ τ := by
  rcases p1 with ⟨-, -, rfl⟩ | ⟨k, hk, -, p1⟩
  · exact KX_wu KX_rf (by omega) (by omega)
  · rcases p1 with ⟨-, -, rfl⟩ | ⟨-, t0, t1, -, p1⟩
    · exact KX_wu KX_rf (by omega) (by omega)
    · rcases p1 with ⟨q, -, -, rfl⟩ | ⟨-, -, -, rfl⟩
      · exact KX_w30 (KX_wu KX_rf (by omega) (by omega))
      · have := KX_w30 (tr := t1) (KX_wu (i := 14) (k := 0) (v := 0) (KX_rf (x := σ)) (by omega) (by omega))
        refine ⟨fun i q hi => (wu_o (by omega)).trans ((cpM_o _ _ (by omega) 6).trans (this.1 i q hi)), ?_, ?_⟩
        · show (cpM (w30 (wu σ 14 0 0) t1) k 6).2.1 0 = _
          rw [cpM_2]; exact this.2.1
        · show (cpM (w30 (wu σ 14 0 0) t1) k 6).2.2 = _
          rw [cpM_2]; exact this.2.2
theorem shp_1 {k w wa : Int32} : (mShF x n d k w wa).1 = (mShF m n d k w wa).1 := by
  rw [mShF, mShF]
  repeat' (first | rfl | split)
theorem shp_ok {k w wa : Int32} (h : (¬ k < 0 ∧ ¬ 2 < k) ∧ (¬ w < 1 ∧ ¬ 900 < w) ∧ (¬ wa < 1 ∧ ¬ 90 < wa) ∧ nI n < 10) : mShF m n d k w wa = (nI n, mShS m n d k w wa) := by
  rw [mShF, if_pos h.1, if_pos h.2.1, if_pos h.2.2.1, if_pos h.2.2.2]
theorem shp_no {k w wa : Int32} (h : ¬ ((¬ k < 0 ∧ ¬ 2 < k) ∧ (¬ w < 1 ∧ ¬ 900 < w) ∧ (¬ wa < 1 ∧ ¬ 90 < wa) ∧ nI n < 10)) : (mShF m n d k w wa).2 = wu m 14 0 0 := by
  rw [mShF]
  by_cases p1 : ¬ k < 0 ∧ ¬ 2 < k
  · rw [if_pos p1]
    by_cases p2 : ¬ w < 1 ∧ ¬ 900 < w
    · rw [if_pos p2]
      by_cases p3 : ¬ wa < 1 ∧ ¬ 90 < wa
      · rw [if_pos p3]
        by_cases p4 : nI n < 10
        · exact absurd ⟨p1, p2, p3, p4⟩ h
        · rw [if_neg p4]
      · rw [if_neg p3]
    · rw [if_neg p2]
  · rw [if_neg p1]
theorem shB_lo {k w wa : Int32} {i : Nat} (h : i < 32 + 4 * n) : (shB σ n k d w wa).1 i = σ.1 i := by
  show (if i = 32 + 4 * n then shRow n k d w wa else if 32 + 4 * n < i then (fun _ => 0) else σ.1 i) = _
  rw [if_neg (by omega), if_neg (by omega)]
theorem shB_at {k w wa : Int32} : (shB σ n k d w wa).1 (32 + 4 * n) = shRow n k d w wa := if_pos rfl
theorem shB_hi {k w wa : Int32} {i : Nat} (h : 32 + 4 * n < i) : (shB σ n k d w wa).1 i = fun _ => 0 := by
  show (if i = 32 + 4 * n then shRow n k d w wa else if 32 + 4 * n < i then (fun _ => 0) else σ.1 i) = _
  rw [if_neg (by omega), if_pos h]
theorem sh_lo {k w wa : Int32} {i : Nat} (h : i < 32 + 4 * n) (h0 : i ≠ 0) : (shS σ n k d w wa).1 i = σ.1 i := (wu_or h0).trans (shB_lo h)
theorem sh_0 {k w wa : Int32} {q : Nat} (h : q ≠ 7) : (shS σ n k d w wa).1 0 q = σ.1 0 q := (wu_d h).trans (congrFun (shB_lo (by omega)) q)
theorem sh_at {k w wa : Int32} : (shS σ n k d w wa).1 (32 + 4 * n) = shRow n k d w wa := (wu_or (by omega)).trans shB_at
theorem sh_hi {k w wa : Int32} {i : Nat} (h : 32 + 4 * n < i) : (shS σ n k d w wa).1 i = fun _ => 0 := (wu_or (by omega)).trans (shB_hi h)
theorem smI_z : ∀ k, smI (fun _ => (0 : Int32)) k = 0
  | 0 => rfl
  | k + 1 => by rw [smI, smI_z k]; rfl
theorem ms_ne {k w wa : Int32} {j q : Nat} (h : q ≠ n) (h0 : j ≠ 14) : (mShS σ n d k w wa).1 j q = σ.1 j q := by
  rw [mShS, wu_o h0, wu_n (fun z => h z.2), wu_n (fun z => h z.2), wu_n (fun z => h z.2), wu_n (fun z => h z.2), wu_n (fun z => h z.2), wu_o h0]
theorem ms_oo {k w wa : Int32} {j q : Nat} (h : j < 18 ∨ 22 < j) (h0 : j ≠ 14) : (mShS σ n d k w wa).1 j q = σ.1 j q := by
  rw [mShS, wu_o h0, wu_o (by omega), wu_o (by omega), wu_o (by omega), wu_o (by omega), wu_o (by omega), wu_o h0]
theorem ms_14 {k w wa : Int32} {q : Nat} (h : q ≠ 7) (h0 : q ≠ 0) : (mShS σ n d k w wa).1 14 q = σ.1 14 q := by
  rw [mShS, wu_d h, wu_o (by decide), wu_o (by decide), wu_o (by decide), wu_o (by decide), wu_o (by decide), wu_d h0]
theorem s_ship {k w wa : Int32} (h : Rel x m n d ly dr) (ok : (¬ k < 0 ∧ ¬ 2 < k) ∧ (¬ w < 1 ∧ ¬ 900 < w) ∧ (¬ wa < 1 ∧ ¬ 90 < wa) ∧ nI n < 10) : Rel (shS x n k d w wa) (mShS m n d k w wa) (n + 1) d ly dr := by
  obtain ⟨⟨h1, h1b, h1c, h1d⟩, ⟨a1, a2, a3, a4⟩, ⟨b1, b2, b3, b4⟩, ⟨c1, c2, c3⟩, ⟨d1, d2, d3⟩, e1, e2, e3, e4, e5, e6⟩ := h
  obtain ⟨o1, o2, o3, o4⟩ := ok
  have hn : n < 10 := nI_lt' (b := 10) o4 (by omega) (by decide)
  obtain ⟨wn, hwn, rfl⟩ := nI_btw (n := 900) (fun z => o2.1 (Int32.lt_trans z (by decide))) o2.2 (by decide)
  obtain ⟨vn, hvn, rfl⟩ := nI_btw (n := 90) (fun z => o3.1 (Int32.lt_trans z (by decide))) o3.2 (by decide)
  have hZ := e4 n (Nat.le_refl n) hn
  refine ⟨⟨h1, by omega, h1c, h1d⟩, ⟨(sh_0 (by decide)).trans a1, wu_s, by rw [sh_lo (by omega) (by decide)]; exact a3, by rw [sh_lo (by omega) (by decide)]; exact a4⟩, ⟨(ms_14 (by decide) (by decide)).trans b1, wu_s, (ms_14 (by decide) (by decide)).trans b3, (ms_14 (by decide) (by decide)).trans b4⟩, ⟨?_, c2, ?_⟩, ⟨fun j => ?_, fun j hj => ?_, fun j hj => ?_⟩, fun j hj => ?_, RT_fr e2 (fun q => by rw [sh_lo (by omega) (by decide)]) (fun q => ms_oo (by decide) (by decide)), fun i hi => ?_, fun i h0 hi => ?_, fun q hq => ?_, fun i j q hi hq => ?_⟩
  · rw [sh_0 (by decide), ms_14 (by decide) (by decide)]; exact c1
  · rw [ms_14 (by decide) (by decide), sh_lo (by omega) (by decide)]; exact c3
  · rw [sh_lo (by omega) (by decide), ms_oo (by decide) (by decide)]; exact d1 j
  · rw [sh_lo (by omega) (by decide), ms_oo (by decide) (by decide)]; exact d2 j hj
  · rw [sh_lo (by omega) (by decide), ms_oo (by decide) (by decide)]; exact d3 j hj
  · rw [sh_lo (by omega) (by decide), sh_lo (by omega) (by decide), sh_lo (by omega) (by decide), ms_oo (by decide) (by decide), ms_oo (by decide) (by decide), ms_oo (by decide) (by decide)]; exact e1 j hj
  · by_cases e : i = n
    · subst e
      rw [RS, sh_at, sh_hi (show 32 + 4 * i < 33 + 4 * i by omega), sh_hi (show 32 + 4 * i < 34 + 4 * i by omega), sh_hi (show 32 + 4 * i < 35 + 4 * i by omega)]
      have m18 : (mShS m i d k (nI wn) (nI vn)).1 18 i = k := by simp [mShS, wu_eq]
      have m19 : (mShS m i d k (nI wn) (nI vn)).1 19 i = nI d := by simp [mShS, wu_eq]
      have m20 : (mShS m i d k (nI wn) (nI vn)).1 20 i = nI wn := by simp [mShS, wu_eq]
      have m21 : (mShS m i d k (nI wn) (nI vn)).1 21 i = nI vn := by simp [mShS, wu_eq]
      have m22 : (mShS m i d k (nI wn) (nI vn)).1 22 i = (-9) := by simp [mShS, wu_eq]
      refine ⟨⟨rfl, m18.symm, by rw [m18]; exact sw3 o1⟩, ⟨d, Nat.le_refl d, rfl, m19, Or.inl rfl⟩, ⟨wn, hwn, rfl, m20⟩, ⟨vn, hvn, rfl, m21⟩, m22.symm, ?_, fun l hl => ?_, fun l _ _ => rfl, fun l hl => ?_, fun j hj => ⟨?_, Or.inr (show ¬ (0 : Int32) < 0 by decide)⟩, fun j _ _ => rfl⟩
      · rw [smI_z]; rfl
      · rw [ms_oo (by decide) (by decide)]; exact (hZ.1 l hl).1.symm
      · rw [ms_oo (by decide) (by decide)]; exact (hZ.1 l hl).2.symm
      · rw [ms_oo (by decide) (by decide)]; exact (hZ.2 j (by omega)).symm
    · exact RS_fr (e3 i (by omega)) (by omega) ⟨sh_lo (by omega) (by omega), sh_lo (by omega) (by omega), sh_lo (by omega) (by omega), sh_lo (by omega) (by omega)⟩ ⟨⟨ms_ne e (by decide), ms_ne e (by decide), ms_ne e (by decide), ms_ne e (by decide), ms_ne e (by decide)⟩, fun _ _ => ms_oo (by decide) (by decide), fun _ _ => ms_oo (by decide) (by decide), fun _ _ => ms_oo (by decide) (by decide)⟩
  · obtain ⟨y1, y2⟩ := e4 i (by omega) hi
    exact ⟨fun l hl => ⟨(ms_oo (by decide) (by decide)).trans (y1 l hl).1, (ms_oo (by decide) (by decide)).trans (y1 l hl).2⟩, fun j hj => (ms_oo (by decide) (by decide)).trans (y2 j hj)⟩
  · show (wuR (shB x n k d (nI wn) (nI vn)) 5 n (some (32 + 4 * n))).2.2 5 q = _
    by_cases e : q = n
    · subst e; exact wuR_s
    · exact (wuR_d e).trans (e5 q (by omega))
  · have hq : (wuR (shB x n k d (nI wn) (nI vn)) 5 n (some (32 + 4 * n))).2.2 i j = some q := hq
    rw [wuR_eq] at hq
    split at hq
    · cases hq; omega
    · have := e6 i j q hi hq; omega
theorem kM_ship {k w wa : Int32} : KM σ (shS σ n k d w wa) := ⟨fun i q hi h2 _ => by rw [sh_lo (by omega) (by omega)], rfl⟩
theorem kX_ship {k w wa : Int32} : KX σ (mShF σ n d k w wa).2 := by
  rw [mShF]; (repeat' split) <;> first | exact KX_wu KX_rf (by omega) (by omega) | exact KX_wu (KX_wu (KX_wu (KX_wu (KX_wu (KX_wu (KX_wu KX_rf (by omega) (by omega)) (by omega) (by omega)) (by omega) (by omega)) (by omega) (by omega)) (by omega) (by omega)) (by omega) (by omega)) (by omega) (by omega)
theorem kM_day {τ : wS} (h : dX σ τ n d ly) : KM σ τ := by
  obtain ⟨f, z, rr, -, -, -, -, rfl⟩ := h
  refine ⟨fun i q hi h2 h3 => dyX_o _ _ _ _ _ _ _ (by omega) (by omega) (by omega) (by omega) (by omega) (Or.inl (by omega)), ?_⟩
  show (lnL σ f z rr n d ly).1.2.1 14 = _
  rw [lnL_2, drS_2]
theorem KM_tr {y z : wS} (h : KM σ y) (h2 : KM y z) : KM σ z := ⟨fun i k a b c => (h2.1 i k a b c).trans (h.1 i k a b c), h2.2.trans h.2⟩
theorem KX_tr {y z : wS} (h : KX σ y) (h2 : KX y z) : KX σ z := ⟨fun i k a => (h2.1 i k a).trans (h.1 i k a), h2.2.1.trans h.2.1, h2.2.2.trans h.2.2⟩
theorem kM_days : ∀ (j : Nat) (τ : wS), chX σ n d ly j τ → KM σ τ
  | 0, τ, h => by
    have h : τ = σ := h
    subst h; exact KM_rf
  | j + 1, τ, h => by
    obtain ⟨τ0, h0, h1⟩ := h
    exact KM_tr (kM_days j τ0 h0) (kM_day h1)
theorem kX_day {f : Nat → Nat} {z : Nat} : KX σ (dyM σ f z n d ly) := by
  refine ⟨fun i q hi => ?_, ?_, ?_⟩
  · rw [dyM, wu_o (by omega), wu_o (by omega), wu_o (by omega), wu_o (by omega), wu_o (by omega), gF_o _ _ _ _ _ (by omega) (by omega) (by omega) (by omega) (by omega) (by omega), mdS_o _ _ (by omega) (by omega) (by omega)]
  · show (gF (mdS σ d n) f (σ.1 15 d) d ly z).1.2.1 0 = _
    rw [gF_2, mdS_2]
  · show (gF (mdS σ d n) f (σ.1 15 d) d ly z).1.2.2 = _
    rw [gF_2, mdS_2]
theorem kX_days {ms : Nat → wS} {fs : Nat → Nat → Nat} {zs : Nat → Nat} : ∀ {j : Nat}, (∀ i, i < j → GO (ms i) (fs i) (zs i) n (d + i) ly ∧ ms (i + 1) = dyM (ms i) (fs i) (zs i) n (d + i) ly) → KX (ms 0) (ms j)
  | 0, _ => KX_rf
  | j + 1, h => by
    rw [(h j (by omega)).2]
    exact KX_tr (kX_days (fun i hi => h i (by omega))) kX_day
end RC2
