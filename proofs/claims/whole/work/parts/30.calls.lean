/-! each call keeps the two sides alike -/
theorem RZ_fr {m m' : wS} {i : Nat} (h : (∀ l, l < 6 → m.1 23 (6 * i + l) = 0 ∧ m.1 29 (6 * i + l) = 0) ∧ ∀ j, j < 201 → m.1 24 (201 * i + j) = 0) (hm : MA m m' i) : (∀ l, l < 6 → m'.1 23 (6 * i + l) = 0 ∧ m'.1 29 (6 * i + l) = 0) ∧ ∀ j, j < 201 → m'.1 24 (201 * i + j) = 0 :=
  ⟨fun l hl => ⟨(hm.2.1 l hl).trans (h.1 l hl).1, (hm.2.2.1 l hl).trans (h.1 l hl).2⟩, fun j hj => (hm.2.2.2 j hj).trans (h.2 j hj)⟩
theorem Rel_z {x m : wS} {n d ly dr : Nat} (h : Rel x m n d ly dr) : Rel x (wu m 14 0 0) n d ly dr := Rel_K h KX_rf (KM_z KM_rf)
theorem RS_ly {x m : wS} {i c d ly : Nat} (h : RS x m i c d ly) (hl : ly < 6) : RS x m i c d (ly + 1) := by
  obtain ⟨h1, h2, h3, h4, h5, h6, h7, h8, h9⟩ := h
  exact ⟨h1, h2, h3, h4, h5, by rw [smI, h8 ly (Nat.le_refl ly) hl, Int32.add_zero]; exact h6, h7, fun l q hl6 => h8 l (by omega) hl6, h9⟩
theorem wuL_s {σ : wS} {i : Nat} {v : Int64} : (wuL σ i v).2.1 i = v := by show va_up σ.2.1 i v i = v; rw [va_up_self]
theorem wuL_o {σ : wS} {i j : Nat} {v : Int64} (h : j ≠ i) : (wuL σ i v).2.1 j = σ.2.1 j := by show va_up σ.2.1 i v j = _; rw [va_up_ne _ _ h]
section RC
variable {x m σ : wS} {n d ly dr : Nat}
theorem s_layer {t w : Int32} (h : Rel x m n d ly dr) : (laF x ly t w).1 = (mLaF m ly t w).1 ∧ ∃ ly2, Rel (laF x ly t w).2 (mLaF m ly t w).2 n d ly2 dr := by
  have h0 := Rel_z h
  rw [laF, mLaF]
  by_cases p1 : ¬ t < 1 ∧ ¬ 5000 < t
  · rw [if_pos p1, if_pos p1]
    by_cases p2 : ¬ w < 1 ∧ ¬ 100 < w
    · rw [if_pos p2, if_pos p2]
      by_cases p3 : nI ly < 6
      · rw [if_pos p3, if_pos p3]
        refine ⟨rfl, ly + 1, ?_⟩
        obtain ⟨⟨h1, h1b, h1c, h1d⟩, ⟨a1, a2, a3, a4⟩, ⟨b1, b2, b3, b4⟩, ⟨c1, c2, c3⟩, ⟨d1, d2, d3⟩, e1, e2, e3, e4, e5, e6⟩ := h
        have hl6 : ly < 6 := nI_lt' (b := 6) p3 (by omega) (by decide)
        obtain ⟨tn, ht, rfl⟩ := nI_btw (n := 5000) (fun z => p1.1 (Int32.lt_trans z (by decide))) p1.2 (by decide)
        rw [laS]
        exact ⟨⟨by omega, by omega, by omega, by omega⟩, ⟨by simp [wu_eq, a1], by simp [wu_eq, a2], by simp [wu_eq, a3], by simp [wu_eq, a4]⟩, ⟨by simp [wu_eq, b1], by simp [wu_eq, b2], by simp [wu_eq, b3], by simp [wu_eq, b4]⟩, ⟨by simp [wu_eq, c1], c2, by simp [wu_or, wu_eq, c3]⟩, ⟨fun j => by simp [wu_eq, d1 j], fun j hj => by (by_cases e : j = ly); (· subst e; simp [wu_eq]); (· simp [wu_eq, e, d2 j (by omega)]), fun j hj => by simp [wu_eq, d3 j hj]⟩, fun j hj => by obtain ⟨y1, y2, y3⟩ := e1 j hj; simp [wu_eq, y1, y2, y3], by
          obtain ⟨f, hf⟩ := e2
          refine ⟨fun k => if k = ly then tn else f k, fun k hk => ?_⟩
          by_cases e : k = ly
          · subst e; simp [wu_eq, ht]
          · simp [wu_eq, e, hf k (by omega)], fun i hi => RS_ly (RS_fr (e3 i hi) (by omega) (XA_wu (XA_wu (XA_wu XA_rf (by omega)) (by omega)) (by omega)) (MA_wu (MA_wu (MA_wu (MA_wu MA_rf (by omega)) (by omega)) (by omega)) (by omega))) hl6, fun i h0 hi => RZ_fr (e4 i h0 hi) (MA_wu (MA_wu (MA_wu (MA_wu MA_rf (by omega)) (by omega)) (by omega)) (by omega)), e5, e6⟩
      · rw [if_neg p3, if_neg p3]; exact ⟨rfl, ly, h0⟩
    · rw [if_neg p2, if_neg p2]; exact ⟨rfl, ly, h0⟩
  · rw [if_neg p1, if_neg p1]; exact ⟨rfl, ly, h0⟩
theorem kM_layer {t w : Int32} : KM σ (laF σ ly t w).2 := by
  rw [laF]; (repeat' split) <;> first | exact KM_rf | exact KM_wu (KM_wu (KM_wu KM_rf (by omega)) (by omega)) (by omega)
theorem kX_layer {t w : Int32} : KX σ (mLaF σ ly t w).2 := by
  rw [mLaF]; (repeat' split) <;> first | exact KX_wu KX_rf (by omega) (by omega) | exact KX_wu (KX_wu (KX_wu (KX_wu KX_rf (by omega) (by omega)) (by omega) (by omega)) (by omega) (by omega)) (by omega) (by omega)
theorem s_swell {a v : Int32} (h : Rel x m n d ly dr) : (swF x d a v).1 = (mSwF m d a v).1 ∧ Rel (swF x d a v).2 (mSwF m d a v).2 n d ly dr := by
  have h0 := Rel_z h
  rw [swF, mSwF]
  by_cases p1 : ¬ a < nI d ∧ ¬ 200 < a
  · rw [if_pos p1, if_pos p1]
    by_cases p2 : ¬ v < 0 ∧ ¬ 9 < v
    · rw [if_pos p2, if_pos p2]
      obtain ⟨⟨h1, h1b, h1c, h1d⟩, ⟨a1, a2, a3, a4⟩, ⟨b1, b2, b3, b4⟩, ⟨c1, c2, c3⟩, ⟨d1, d2, d3⟩, e1, e2, e3, e4, e5, e6⟩ := h
      refine ⟨d1 _, ?_⟩
      exact ⟨⟨by omega, by omega, by omega, by omega⟩, ⟨by simp [wu_eq, a1], by simp [wu_eq, a2], by simp [wu_eq, a3], by simp [wu_eq, a4]⟩, ⟨by simp [wu_eq, b1], by simp [wu_eq, b2], by simp [wu_eq, b3], by simp [wu_eq, b4]⟩, ⟨by simp [wu_eq, c1], c2, by simp [wu_or, wu_eq, c3]⟩, ⟨fun j => by (by_cases e : j = a.toNatClampNeg); (· subst e; simp [wu_eq]); (· simp [wu_eq, e, d1 j]), fun j hj => by simp [wu_eq, d2 j hj], fun j hj => by simp [wu_eq, d3 j hj]⟩, fun j hj => by obtain ⟨y1, y2, y3⟩ := e1 j hj; simp [wu_eq, y1, y2, y3], RT_fr e2 (fun q => by simp [wu_eq]) (fun q => by simp [wu_eq]), fun i hi => RS_fr (e3 i hi) (by omega) (XA_wu XA_rf (by omega)) (MA_wu (MA_wu MA_rf (by omega)) (by omega)), fun i h0 hi => RZ_fr (e4 i h0 hi) (MA_wu (MA_wu MA_rf (by omega)) (by omega)), e5, e6⟩
    · rw [if_neg p2, if_neg p2]; exact ⟨rfl, h0⟩
  · rw [if_neg p1, if_neg p1]; exact ⟨rfl, h0⟩
theorem kM_swell {a v : Int32} : KM σ (swF σ d a v).2 := by
  rw [swF]; (repeat' split) <;> first | exact KM_rf | exact KM_wu KM_rf (by omega)
theorem kX_swell {a v : Int32} : KX σ (mSwF σ d a v).2 := by
  rw [mSwF]; (repeat' split) <;> first | exact KX_wu KX_rf (by omega) (by omega) | exact KX_wu (KX_wu KX_rf (by omega) (by omega)) (by omega) (by omega)
def dlF (σ : wS) (a : Int32) : Int32 × wS := if ¬ a < 0 ∧ ¬ 60 < a then (σ.1 0 8, wu σ 0 8 a) else ((-1), σ)
def mDlF (σ : wS) (a : Int32) : Int32 × wS := if ¬ a < 0 ∧ ¬ 60 < a then (σ.1 14 18, wu (wu σ 14 0 0) 14 18 a) else ((-1), wu σ 14 0 0)
theorem s_delay {a : Int32} (h : Rel x m n d ly dr) : (dlF x a).1 = (mDlF m a).1 ∧ Rel (dlF x a).2 (mDlF m a).2 n d ly dr := by
  have h0 := Rel_z h
  rw [dlF, mDlF]
  by_cases p1 : ¬ a < 0 ∧ ¬ 60 < a
  · rw [if_pos p1, if_pos p1]
    obtain ⟨⟨h1, h1b, h1c, h1d⟩, ⟨a1, a2, a3, a4⟩, ⟨b1, b2, b3, b4⟩, ⟨c1, c2, c3⟩, ⟨d1, d2, d3⟩, e1, e2, e3, e4, e5, e6⟩ := h
    refine ⟨c1, ?_⟩
    exact ⟨⟨by omega, by omega, by omega, by omega⟩, ⟨by simp [wu_eq, a1], by simp [wu_eq, a2], by simp [wu_eq, a3], by simp [wu_eq, a4]⟩, ⟨by simp [wu_eq, b1], by simp [wu_eq, b2], by simp [wu_eq, b3], by simp [wu_eq, b4]⟩, ⟨by simp [wu_eq], c2, by simp [wu_or, wu_eq, c3]⟩, ⟨fun j => by simp [wu_eq, d1 j], fun j hj => by simp [wu_eq, d2 j hj], fun j hj => by simp [wu_eq, d3 j hj]⟩, fun j hj => by obtain ⟨y1, y2, y3⟩ := e1 j hj; simp [wu_eq, y1, y2, y3], RT_fr e2 (fun q => by simp [wu_eq]) (fun q => by simp [wu_eq]), fun i hi => RS_fr (e3 i hi) (by omega) (XA_wu XA_rf (by omega)) (MA_wu (MA_wu MA_rf (by omega)) (by omega)), fun i h0 hi => RZ_fr (e4 i h0 hi) (MA_wu (MA_wu MA_rf (by omega)) (by omega)), e5, e6⟩
  · rw [if_neg p1, if_neg p1]; exact ⟨rfl, h0⟩
theorem kM_delay {a : Int32} : KM σ (dlF σ a).2 := by
  rw [dlF]; split <;> first | exact KM_rf | exact KM_wu KM_rf (by omega)
theorem kX_delay {a : Int32} : KX σ (mDlF σ a).2 := by
  rw [mDlF]; split <;> first | exact KX_wu KX_rf (by omega) (by omega) | exact KX_wu (KX_wu KX_rf (by omega) (by omega)) (by omega) (by omega)
theorem s_clear (h : Rel x m n d ly dr) : Rel (wu x 7 2 0) (wu (wu m 14 0 0) 14 21 0) n d ly 0 := by
  obtain ⟨⟨h1, h1b, h1c, h1d⟩, ⟨a1, a2, a3, a4⟩, ⟨b1, b2, b3, b4⟩, ⟨c1, c2, c3⟩, ⟨d1, d2, d3⟩, e1, e2, e3, e4, e5, e6⟩ := h
  exact ⟨⟨by omega, by omega, by omega, by omega⟩, ⟨by simp [wu_eq, a1], by simp [wu_eq, a2], by simp [wu_eq, a3], wu_s⟩, ⟨by simp [wu_eq, b1], by simp [wu_eq, b2], by simp [wu_eq, b3], wu_s⟩, ⟨by simp [wu_eq, c1], c2, by simp [wu_or, wu_eq, c3]⟩, ⟨fun j => by simp [wu_eq, d1 j], fun j hj => by simp [wu_eq, d2 j hj], fun j hj => absurd hj (Nat.not_lt_zero j)⟩, fun j hj => by obtain ⟨y1, y2, y3⟩ := e1 j hj; simp [wu_eq, y1, y2, y3], RT_fr e2 (fun q => by simp [wu_eq]) (fun q => by simp [wu_eq]), fun i hi => RS_fr (e3 i hi) (by omega) (XA_wu XA_rf (by omega)) (MA_wu (MA_wu MA_rf (by omega)) (by omega)), fun i h0 hi => RZ_fr (e4 i h0 hi) (MA_wu (MA_wu MA_rf (by omega)) (by omega)), e5, e6⟩
theorem bo_eq {v b : Int32} {w : Nat} (hv : v = nI w) (hw : w ≤ 90) (hb : ¬ b < 1 ∧ ¬ 90 < b) : ∃ r, r ≤ 90 ∧ (if v + b < 90 then v + b else 90) = nI r ∧ (if v + b ≤ 90 then v + b else 90) = nI r := by
  obtain ⟨k, hk, rfl⟩ := nI_btw (n := 90) (fun z => hb.1 (Int32.lt_trans z (by decide))) hb.2 (by decide)
  subst hv
  refine ⟨min (w + k) 90, by omega, ?_, ?_⟩
  · rw [nI_add]; exact minI (b := 90) (by omega) (by decide)
  · rw [nI_add]; exact minI2 (b := 90) (by omega) (by decide)
theorem RS_bo {i c r : Nat} (h : RS x m i c d ly) (hd : d ≤ 200) (hr : r ≤ 90) : RS (wu x (32 + 4 * i) 8 (nI r)) (wu (wu m 14 0 0) 21 i (nI r)) i c d ly := by
  obtain ⟨⟨h1, h2, h3⟩, ⟨a, ha, ha1, ha2, ha3⟩, ⟨w, hw, hw1, hw2⟩, -, h5, h6, h7, h8, h9, h10, h11⟩ := h
  have hx : ∀ q, q ≠ 8 → (wu x (32 + 4 * i) 8 (nI r)).1 (32 + 4 * i) q = x.1 (32 + 4 * i) q := fun q hq => wu_d hq
  have x1 : (wu x (32 + 4 * i) 8 (nI r)).1 (33 + 4 * i) = x.1 (33 + 4 * i) := wu_or (by omega)
  have x2 : (wu x (32 + 4 * i) 8 (nI r)).1 (34 + 4 * i) = x.1 (34 + 4 * i) := wu_or (by omega)
  have x3 : (wu x (32 + 4 * i) 8 (nI r)).1 (35 + 4 * i) = x.1 (35 + 4 * i) := wu_or (by omega)
  have hm : ∀ j q, j ≠ 21 → j ≠ 14 → (wu (wu m 14 0 0) 21 i (nI r)).1 j q = m.1 j q := fun j q a b => (wu_o a).trans (wu_o b)
  refine ⟨⟨by rw [hx 0 (by decide)]; exact h1, by rw [hx 1 (by decide), hm _ _ (by decide) (by decide)]; exact h2, by rw [hm _ _ (by decide) (by decide)]; exact h3⟩, ⟨a, ha, by rw [hx 2 (by decide)]; exact ha1, by rw [hm _ _ (by decide) (by decide)]; exact ha2, by rw [hx 9 (by decide), hx 6 (by decide)]; exact ha3⟩, ⟨w, hw, by rw [hx 6 (by decide)]; exact hw1, by rw [hm _ _ (by decide) (by decide)]; exact hw2⟩, ⟨r, hr, wu_s, wu_s⟩, by rw [hx 9 (by decide), hm _ _ (by decide) (by decide)]; exact h5, by rw [hx 7 (by decide), x1]; exact h6, fun l hl => by rw [x1, hm _ _ (by decide) (by decide)]; exact h7 l hl, fun l h0 hl => by rw [x1]; exact h8 l h0 hl, fun k hk => by rw [x2, hm _ _ (by decide) (by decide)]; exact h9 k hk, fun j hj => by rw [x3, hm _ _ (by decide) (by decide)]; exact h10 j hj, fun j h0 hj => by rw [x3]; exact h11 j h0 hj⟩
theorem s_boat {a b : Int32} (h : Rel x m n d ly dr) : (spQ n a ((-1), x) (fun k => boF x k b)).1 = (spQ n a ((-1), wu m 14 0 0) (fun k => mBoF m k b)).1 ∧ Rel (spQ n a ((-1), x) (fun k => boF x k b)).2 (spQ n a ((-1), wu m 14 0 0) (fun k => mBoF m k b)).2 n d ly dr := by
  have h0 := Rel_z h
  have hn10 : n ≤ 10 := h.1.2.1
  rcases ix2 a (n := n) (by omega) with z | ⟨k, hk, rfl⟩
  · rw [spQ_bad z, spQ_bad z]; exact ⟨rfl, h0⟩
  · rw [spQ_ok hk (by omega), spQ_ok hk (by omega), boF, mBoF]
    by_cases p1 : ¬ b < 1 ∧ ¬ 90 < b
    · rw [if_pos p1, if_pos p1]
      obtain ⟨⟨h1, h1b, h1c, h1d⟩, ⟨a1, a2, a3, a4⟩, ⟨b1, b2, b3, b4⟩, ⟨c1, c2, c3⟩, ⟨d1, d2, d3⟩, e1, e2, e3, e4, e5, e6⟩ := h
      have hk5 : x.1 (32 + 4 * k) 9 = m.1 22 k := (e3 k hk).2.2.2.2.1
      obtain ⟨v, hv, hv1, hv2⟩ := (e3 k hk).2.2.2.1
      rw [hk5]
      by_cases p2 : ¬ m.1 22 k = (-9)
      · rw [if_pos p2, if_pos p2]; exact ⟨rfl, h0⟩
      · rw [if_neg p2, if_neg p2]
        obtain ⟨r, hr, q1, q2⟩ := bo_eq hv1 hv p1
        rw [q1, hv2, ← hv1, q2]
        refine ⟨rfl, ?_⟩
        exact ⟨⟨by omega, by omega, by omega, by omega⟩, ⟨(wu_o (by omega)).trans a1, (wu_o (by omega)).trans a2, (wu_o (by omega)).trans a3, (wu_o (by omega)).trans a4⟩, ⟨by simp [wu_eq, b1], by simp [wu_eq, b2], by simp [wu_eq, b3], by simp [wu_eq, b4]⟩, ⟨((wu_o (by omega)).trans c1).trans (by simp [wu_eq]), c2, by rw [wu_or (show 12 ≠ 32 + 4 * k by omega)]; simp [wu_eq, c3]⟩, ⟨fun j => ((wu_o (by omega)).trans (d1 j)).trans (by simp [wu_eq]), fun j hj => ((wu_o (by omega)).trans (d2 j hj)).trans (by simp [wu_eq]), fun j hj => ((wu_o (by omega)).trans (d3 j hj)).trans (by simp [wu_eq])⟩, fun j hj => ⟨((wu_o (by omega)).trans (e1 j hj).1).trans (by simp [wu_eq]), ((wu_o (by omega)).trans (e1 j hj).2.1).trans (by simp [wu_eq]), ((wu_o (by omega)).trans (e1 j hj).2.2).trans (by simp [wu_eq])⟩, RT_fr e2 (fun q => wu_o (by omega)) (fun q => by simp [wu_eq]), fun i hi => by
          by_cases e : i = k
          · subst e; exact RS_bo (e3 i hi) (by omega) hr
          · exact RS_fr (e3 i hi) (by omega) (XA_wu XA_rf (by omega)) (MA_wi (MA_wu MA_rf (by omega)) (by omega) e), fun i h0 hi => RZ_fr (e4 i h0 hi) (MA_wi (MA_wu MA_rf (by omega)) (by omega) (by omega)), e5, e6⟩
    · rw [if_neg p1, if_neg p1]; exact ⟨rfl, h0⟩
theorem kM_boat {a b : Int32} (hn : n ≤ 10) : KM σ (spQ n a ((-1), σ) (fun k => boF σ k b)).2 := by
  rcases ix2 a (n := n) (by omega) with z | ⟨k, hk, rfl⟩
  · rw [spQ_bad z]; exact KM_rf
  · rw [spQ_ok hk (by omega), boF]
    generalize (if σ.1 (32 + 4 * k) 8 + b < 90 then σ.1 (32 + 4 * k) 8 + b else 90) = y
    (repeat' split) <;> first | exact KM_rf | exact KM_wu KM_rf (by omega)
theorem kX_boat {a b : Int32} (hn : n ≤ 10) : KX σ (spQ n a ((-1), wu σ 14 0 0) (fun k => mBoF σ k b)).2 := by
  rcases ix2 a (n := n) (by omega) with z | ⟨k, hk, rfl⟩
  · rw [spQ_bad z]; exact KX_wu KX_rf (by omega) (by omega)
  · rw [spQ_ok hk (by omega), mBoF]
    generalize (if σ.1 21 k + b ≤ 90 then σ.1 21 k + b else 90) = y
    (repeat' split) <;> first | exact KX_wu KX_rf (by omega) (by omega) | exact KX_wu (KX_wu KX_rf (by omega) (by omega)) (by omega) (by omega)
def tuF (σ : wS) (n d : Nat) (a : Int32) : Int32 × wS := spQ n a ((-1), σ) (fun k => (tX σ d k, wuL σ 0 (σ.2.1 0 + trK (σ.1 (32 + 4 * k) 1))))
def mTuF (σ : wS) (n d : Nat) (a : Int32) : Int32 × wS := spQ n a ((-1), wu σ 14 0 0) (fun k => (tM σ d k, wuL (wu σ 14 0 0) 14 (σ.2.1 14 + trK (σ.1 18 k))))
theorem s_turn {a : Int32} (h : Rel x m n d ly dr) : (tuF x n d a).1 = (mTuF m n d a).1 ∧ Rel (tuF x n d a).2 (mTuF m n d a).2 n d ly dr := by
  have h0 := Rel_z h
  have hn10 : n ≤ 10 := h.1.2.1
  rw [tuF, mTuF]
  rcases ix2 a (n := n) (by omega) with z | ⟨k, hk, rfl⟩
  · rw [spQ_bad z, spQ_bad z]; exact ⟨rfl, h0⟩
  · rw [spQ_ok hk (by omega), spQ_ok hk (by omega)]
    obtain ⟨⟨h1, h1b, h1c, h1d⟩, ⟨a1, a2, a3, a4⟩, ⟨b1, b2, b3, b4⟩, ⟨c1, c2, c3⟩, ⟨d1, d2, d3⟩, e1, e2, e3, e4, e5, e6⟩ := h0
    refine ⟨tXM (h.2.2.2.2.2.2.2.1 k hk), ⟨⟨h1, h1b, h1c, h1d⟩, ⟨a1, a2, a3, a4⟩, ⟨b1, b2, b3, b4⟩, ⟨c1, ?_, c3⟩, ⟨d1, d2, d3⟩, e1, e2, e3, e4, e5, e6⟩⟩
    refine wuL_s.trans (Eq.trans ?_ wuL_s.symm)
    rw [(h.2.2.2.2.2.2.2.1 k hk).1.2.1, h.2.2.2.1.2.1]
theorem kM_turn {a : Int32} (hn : n ≤ 10) : KM σ (tuF σ n d a).2 := by
  rw [tuF]
  rcases ix2 a (n := n) (by omega) with z | ⟨k, hk, rfl⟩
  · rw [spQ_bad z]; exact KM_rf
  · rw [spQ_ok hk (by omega)]
    exact ⟨fun _ _ _ _ _ => rfl, wuL_o (by decide)⟩
theorem kX_turn {a : Int32} (hn : n ≤ 10) : KX σ (mTuF σ n d a).2 := by
  rw [mTuF]
  rcases ix2 a (n := n) (by omega) with z | ⟨k, hk, rfl⟩
  · rw [spQ_bad z]; exact KX_wu KX_rf (by omega) (by omega)
  · rw [spQ_ok hk (by omega)]
    exact ⟨fun i k hi => wu_o (by omega), wuL_o (by decide), rfl⟩
end RC
