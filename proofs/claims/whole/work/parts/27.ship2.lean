/-! the two sides alike, ship by ship: x for the class, m for the reference -/
def RS (x m : wS) (i c d ly : Nat) : Prop :=
  (x.1 (32 + 4 * i) 0 = nI i ∧ x.1 (32 + 4 * i) 1 = m.1 18 i ∧ (m.1 18 i = 0 ∨ m.1 18 i = 1 ∨ m.1 18 i = 2)) ∧
  (∃ a, a ≤ c ∧ x.1 (32 + 4 * i) 2 = nI a ∧ m.1 19 i = nI a ∧ (x.1 (32 + 4 * i) 9 = (-9) ∨ ∃ e, a ≤ e ∧ e < d ∧ x.1 (32 + 4 * i) 9 = nI e ∧ x.1 (32 + 4 * i) 6 = 0)) ∧
  (∃ w, w ≤ 900 ∧ x.1 (32 + 4 * i) 6 = nI w ∧ m.1 20 i = nI w) ∧
  (∃ w, w ≤ 90 ∧ x.1 (32 + 4 * i) 8 = nI w ∧ m.1 21 i = nI w) ∧
  x.1 (32 + 4 * i) 9 = m.1 22 i ∧
  x.1 (32 + 4 * i) 7 = smI (x.1 (33 + 4 * i)) ly ∧
  (∀ l, l < 6 → x.1 (33 + 4 * i) l = m.1 23 (6 * i + l)) ∧ (∀ l, ly ≤ l → l < 6 → x.1 (33 + 4 * i) l = 0) ∧
  (∀ k, k < 6 → x.1 (34 + 4 * i) k = m.1 29 (6 * i + k)) ∧
  (∀ j, j < d → x.1 (35 + 4 * i) j = m.1 24 (201 * i + j) ∧ (x.1 (35 + 4 * i) j = (-1) ∨ ¬ x.1 (35 + 4 * i) j < 0)) ∧ (∀ j, d ≤ j → j < 200 → x.1 (35 + 4 * i) j = 0)
def RT (x m : wS) (ly : Nat) : Prop := ∃ t : Nat → Nat, ∀ k, k < ly → x.1 3 k = nI (t k) ∧ m.1 16 k = nI (t k) ∧ t k ≤ 5000
def XA (x x' : wS) (i : Nat) : Prop := x'.1 (32 + 4 * i) = x.1 (32 + 4 * i) ∧ x'.1 (33 + 4 * i) = x.1 (33 + 4 * i) ∧ x'.1 (34 + 4 * i) = x.1 (34 + 4 * i) ∧ x'.1 (35 + 4 * i) = x.1 (35 + 4 * i)
def MA (m m' : wS) (i : Nat) : Prop := (m'.1 18 i = m.1 18 i ∧ m'.1 19 i = m.1 19 i ∧ m'.1 20 i = m.1 20 i ∧ m'.1 21 i = m.1 21 i ∧ m'.1 22 i = m.1 22 i) ∧ (∀ l, l < 6 → m'.1 23 (6 * i + l) = m.1 23 (6 * i + l)) ∧ (∀ l, l < 6 → m'.1 29 (6 * i + l) = m.1 29 (6 * i + l)) ∧ (∀ j, j < 201 → m'.1 24 (201 * i + j) = m.1 24 (201 * i + j))
theorem XA_rf {x : wS} {i : Nat} : XA x x i := ⟨rfl, rfl, rfl, rfl⟩
theorem MA_rf {x : wS} {i : Nat} : MA x x i := ⟨⟨rfl, rfl, rfl, rfl, rfl⟩, fun _ _ => rfl, fun _ _ => rfl, fun _ _ => rfl⟩
theorem XA_tr {x y z : wS} {i : Nat} (h : XA x y i) (h2 : XA y z i) : XA x z i := ⟨h2.1.trans h.1, h2.2.1.trans h.2.1, h2.2.2.1.trans h.2.2.1, h2.2.2.2.trans h.2.2.2⟩
theorem MA_tr {x y z : wS} {i : Nat} (h : MA x y i) (h2 : MA y z i) : MA x z i := ⟨⟨h2.1.1.trans h.1.1, h2.1.2.1.trans h.1.2.1, h2.1.2.2.1.trans h.1.2.2.1, h2.1.2.2.2.1.trans h.1.2.2.2.1, h2.1.2.2.2.2.trans h.1.2.2.2.2⟩, fun l hl => (h2.2.1 l hl).trans (h.2.1 l hl), fun l hl => (h2.2.2.1 l hl).trans (h.2.2.1 l hl), fun l hl => (h2.2.2.2 l hl).trans (h.2.2.2 l hl)⟩
theorem XA_wu {x y : wS} {i j k : Nat} {v : Int32} (h : XA x y i) (h2 : j < 32 ∨ 36 + 4 * i ≤ j ∨ j < 32 + 4 * i) : XA x (wu y j k v) i := XA_tr h ⟨wu_or (by omega), wu_or (by omega), wu_or (by omega), wu_or (by omega)⟩
theorem MA_wu {x y : wS} {i j k : Nat} {v : Int32} (h : MA x y i) (h2 : j < 18 ∨ 24 < j ∧ j ≠ 29) : MA x (wu y j k v) i := MA_tr h ⟨⟨wu_o (by omega), wu_o (by omega), wu_o (by omega), wu_o (by omega), wu_o (by omega)⟩, fun _ _ => wu_o (by omega), fun _ _ => wu_o (by omega), fun _ _ => wu_o (by omega)⟩
theorem wu_n {σ : wS} {i k j k' : Nat} {v : Int32} (h : ¬ (j = i ∧ k' = k)) : (wu σ i k v).1 j k' = σ.1 j k' := wu_eq.trans (if_neg h)
theorem MA_wi {x y : wS} {i j k : Nat} {v : Int32} (h : MA x y i) (h1 : j = 18 ∨ j = 19 ∨ j = 20 ∨ j = 21 ∨ j = 22) (h2 : i ≠ k) : MA x (wu y j k v) i := MA_tr h ⟨⟨wu_n (by omega), wu_n (by omega), wu_n (by omega), wu_n (by omega), wu_n (by omega)⟩, fun _ _ => wu_o (by omega), fun _ _ => wu_o (by omega), fun _ _ => wu_o (by omega)⟩
theorem MA_w24 {x y : wS} {i s d : Nat} {v : Int32} (h : MA x y i) (h1 : i ≠ s) (h2 : d < 201) : MA x (wu y 24 (201 * s + d) v) i := MA_tr h ⟨⟨wu_o (by decide), wu_o (by decide), wu_o (by decide), wu_o (by decide), wu_o (by decide)⟩, fun _ _ => wu_o (by decide), fun _ _ => wu_o (by decide), fun _ _ => wu_n (by omega)⟩
theorem MA_w23 {x y : wS} {i s d : Nat} {v : Int32} (h : MA x y i) (h1 : i ≠ s) (h2 : d < 6) : MA x (wu y 23 (6 * s + d) v) i := MA_tr h ⟨⟨wu_o (by decide), wu_o (by decide), wu_o (by decide), wu_o (by decide), wu_o (by decide)⟩, fun _ _ => wu_n (by omega), fun _ _ => wu_o (by decide), fun _ _ => wu_o (by decide)⟩
theorem MA_w29 {x y : wS} {i s d : Nat} {v : Int32} (h : MA x y i) (h1 : i ≠ s) (h2 : d < 6) : MA x (wu y 29 (6 * s + d) v) i := MA_tr h ⟨⟨wu_o (by decide), wu_o (by decide), wu_o (by decide), wu_o (by decide), wu_o (by decide)⟩, fun _ _ => wu_o (by decide), fun _ _ => wu_n (by omega), fun _ _ => wu_o (by decide)⟩
theorem RS_fr {x m x' m' : wS} {i c d ly : Nat} (h : RS x m i c d ly) (hd : d ≤ 200) (hx : XA x x' i) (hm : MA m m' i) : RS x' m' i c d ly := by
  obtain ⟨⟨h1, h2, h3⟩, ⟨a, ha, ha1, ha2, ha3⟩, ⟨w, hw, hw1, hw2⟩, ⟨v, hv, hv1, hv2⟩, h5, h6, h7, h8, h9, h10, h11⟩ := h
  obtain ⟨x0, x1, x2, x3⟩ := hx
  obtain ⟨⟨m18, m19, m20, m21, m22⟩, m23, m29, m24⟩ := hm
  exact ⟨⟨by rw [x0]; exact h1, by rw [x0, m18]; exact h2, by rw [m18]; exact h3⟩, ⟨a, ha, by rw [x0]; exact ha1, by rw [m19]; exact ha2, by rw [x0]; exact ha3⟩, ⟨w, hw, by rw [x0]; exact hw1, by rw [m20]; exact hw2⟩, ⟨v, hv, by rw [x0]; exact hv1, by rw [m21]; exact hv2⟩, by rw [x0, m22]; exact h5, by rw [x0, x1]; exact h6, fun l hl => by rw [x1, m23 l hl]; exact h7 l hl, fun l h0 hl => by rw [x1]; exact h8 l h0 hl, fun k hk => by rw [x2, m29 k hk]; exact h9 k hk, fun j hj => by rw [x3, m24 j (by omega)]; exact h10 j hj, fun j h0 hj => by rw [x3]; exact h11 j h0 hj⟩
theorem RS_mono {x m : wS} {i c c' d ly : Nat} (h : RS x m i c d ly) (hc : c ≤ c') : RS x m i c' d ly := by
  obtain ⟨h1, ⟨a, ha, h2⟩, h3⟩ := h
  exact ⟨h1, ⟨a, by omega, h2⟩, h3⟩
/-- a day's drinking of one ship -/
theorem RS_up {x m x' m' : wS} {i c d ly v : Nat} (h : RS x m i c d ly) (hd : d < 200) (hx : ∀ q, q ≠ 8 → x'.1 (32 + 4 * i) q = x.1 (32 + 4 * i) q) (x1 : x'.1 (33 + 4 * i) = x.1 (33 + 4 * i)) (x2 : x'.1 (34 + 4 * i) = x.1 (34 + 4 * i)) (hv : v ≤ 90) (hv1 : x'.1 (32 + 4 * i) 8 = nI v) (hv2 : m'.1 21 i = nI v) (m18 : m'.1 18 i = m.1 18 i) (m19 : m'.1 19 i = m.1 19 i) (m20 : m'.1 20 i = m.1 20 i) (m22 : m'.1 22 i = m.1 22 i) (m23 : ∀ l, l < 6 → m'.1 23 (6 * i + l) = m.1 23 (6 * i + l)) (m29 : ∀ l, l < 6 → m'.1 29 (6 * i + l) = m.1 29 (6 * i + l)) (x3 : ∀ j, j ≠ d → x'.1 (35 + 4 * i) j = x.1 (35 + 4 * i) j) (m24 : ∀ j, j < 201 → j ≠ d → m'.1 24 (201 * i + j) = m.1 24 (201 * i + j)) (hn : x'.1 (35 + 4 * i) d = m'.1 24 (201 * i + d) ∧ (x'.1 (35 + 4 * i) d = (-1) ∨ ¬ x'.1 (35 + 4 * i) d < 0)) : RS x' m' i c (d + 1) ly := by
  obtain ⟨⟨h1, h2, h3⟩, ⟨a, ha, ha1, ha2, ha3⟩, ⟨w, hw, hw1, hw2⟩, -, h5, h6, h7, h8, h9, h10, h11⟩ := h
  refine ⟨⟨by rw [hx 0 (by decide)]; exact h1, by rw [hx 1 (by decide), m18]; exact h2, by rw [m18]; exact h3⟩, ⟨a, ha, by rw [hx 2 (by decide)]; exact ha1, by rw [m19]; exact ha2, ?_⟩, ⟨w, hw, by rw [hx 6 (by decide)]; exact hw1, by rw [m20]; exact hw2⟩, ⟨v, hv, hv1, hv2⟩, by rw [hx 9 (by decide), m22]; exact h5, by rw [hx 7 (by decide), x1]; exact h6, fun l hl => by rw [x1, m23 l hl]; exact h7 l hl, fun l h0 hl => by rw [x1]; exact h8 l h0 hl, fun k hk => by rw [x2, m29 k hk]; exact h9 k hk, fun j hj => ?_, fun j h0 hj => by rw [x3 j (by omega)]; exact h11 j (by omega) hj⟩
  · rw [hx 9 (by decide), hx 6 (by decide)]
    rcases ha3 with q | ⟨e, he1, he2, q⟩
    · exact Or.inl q
    · exact Or.inr ⟨e, he1, by omega, q⟩
  · by_cases e : j = d
    · subst e; exact hn
    · rw [x3 j e, m24 j (by omega) e]; exact h10 j (by omega)
theorem wm_x {v : Nat} (h : v ≤ 90) : (if 0 < nI v - 1 then nI v - 1 else 0) = nI (v - 1) := by
  rcases Nat.eq_zero_or_pos v with rfl | q
  · decide
  · rw [show nI v - 1 = nI (v - 1) from pk_sub (b := 1) q]
    by_cases e : v - 1 = 0
    · rw [e]; decide
    · rw [if_pos (show (0 : Int32) < nI (v - 1) from nI_lt (a := 0) (by omega) (by omega))]
theorem wm_m {v : Nat} (h : v ≤ 90) : nI v - (if nI v ≤ 0 then 0 else 1) = nI (v - 1) := by
  rcases Nat.eq_zero_or_pos v with rfl | q
  · decide
  · rw [if_neg (fun z => by have := nI_le' (b := 0) z (by omega) (by decide); omega)]
    exact pk_sub (b := 1) q
theorem nI_z {v : Nat} (h : v < 2 ^ 31) : nI v = 0 ↔ v = 0 := nI_eq (b := 0) h (by decide)
theorem dr_ship {x m : wS} {i c d ly : Nat} (h : RS x m i c d ly) (hd : d < 200) : RS (drF x i d) (mdF m i d) i c (d + 1) ly ∧ ((mdF m i d).1 31 i = 0 ↔ okX (drF x i d) i) := by
  have h0 := h
  obtain ⟨-, -, -, ⟨v, hv, hv1, hv2⟩, h5, -, -, -, -, h10, h11⟩ := h0
  have e35 : ¬ (35 + 4 * i = 32 + 4 * i) := by omega
  by_cases hl : ¬ x.1 (32 + 4 * i) 9 = (-9)
  · have hl2 : ¬ m.1 22 i = (-9) := by rw [← h5]; exact hl
    rw [drF, if_pos hl, mdF, if_pos hl2]
    refine ⟨RS_up h hd (fun _ _ => rfl) rfl rfl hv hv1 ((wu_o (by decide)).trans ((wu_o (by decide)).trans hv2)) ((wu_o (by decide)).trans (wu_o (by decide))) ((wu_o (by decide)).trans (wu_o (by decide))) ((wu_o (by decide)).trans (wu_o (by decide))) ((wu_o (by decide)).trans (wu_o (by decide))) (fun _ _ => (wu_o (by decide)).trans (wu_o (by decide))) (fun _ _ => (wu_o (by decide)).trans (wu_o (by decide))) (fun _ _ => rfl) (fun j _ hj => (wu_o (by decide)).trans (wu_d (by omega))) ⟨(h11 d (Nat.le_refl d) hd).trans ((wu_o (by decide)).trans wu_s).symm, Or.inr (by rw [h11 d (Nat.le_refl d) hd]; decide)⟩, ?_⟩
    rw [wu_s]
    exact ⟨fun z => absurd z (by decide), fun z => absurd z.1 hl⟩
  · have hl2 : ¬ ¬ m.1 22 i = (-9) := by rw [← h5]; exact hl
    rw [drF, if_neg hl, mdF, if_neg hl2, hv1, hv2, wm_x hv, wm_m hv]
    by_cases hz : nI (v - 1) = 0
    · rw [if_pos hz, if_pos hz]
      refine ⟨RS_up (v := v - 1) h hd (fun q hq => (wu_o (by omega)).trans (wu_d hq)) ((wu_or (by omega)).trans (wu_or (by omega))) ((wu_or (by omega)).trans (wu_or (by omega))) (by omega) ((wu_o (by omega)).trans wu_s) ((wu_o (by decide)).trans ((wu_o (by decide)).trans wu_s)) ((wu_o (by decide)).trans ((wu_o (by decide)).trans ((wu_o (by decide)).trans (wu_o (by decide))))) ((wu_o (by decide)).trans ((wu_o (by decide)).trans ((wu_o (by decide)).trans (wu_o (by decide))))) ((wu_o (by decide)).trans ((wu_o (by decide)).trans ((wu_o (by decide)).trans (wu_o (by decide))))) ((wu_o (by decide)).trans ((wu_o (by decide)).trans ((wu_o (by decide)).trans (wu_o (by decide))))) (fun _ _ => (wu_o (by decide)).trans ((wu_o (by decide)).trans ((wu_o (by decide)).trans (wu_o (by decide))))) (fun _ _ => (wu_o (by decide)).trans ((wu_o (by decide)).trans ((wu_o (by decide)).trans (wu_o (by decide))))) (fun j hj => (wu_d hj).trans (wu_o (by omega))) (fun j _ hj => (wu_o (by decide)).trans ((wu_d (by omega)).trans ((wu_o (by decide)).trans (wu_d (by omega))))) ⟨wu_s.trans ((wu_o (by decide)).trans wu_s).symm, Or.inl wu_s⟩, ?_⟩
      rw [wu_s]
      refine ⟨fun z => absurd z (by decide), fun z => absurd ?_ z.2⟩
      exact (wu_o (by omega)).trans (wu_s.trans hz)
    · rw [if_neg hz, if_neg hz]
      refine ⟨RS_up (v := v - 1) h hd (fun q hq => wu_d hq) (wu_or (by omega)) (wu_or (by omega)) (by omega) wu_s ((wu_o (by decide)).trans ((wu_o (by decide)).trans wu_s)) ((wu_o (by decide)).trans ((wu_o (by decide)).trans ((wu_o (by decide)).trans (wu_o (by decide))))) ((wu_o (by decide)).trans ((wu_o (by decide)).trans ((wu_o (by decide)).trans (wu_o (by decide))))) ((wu_o (by decide)).trans ((wu_o (by decide)).trans ((wu_o (by decide)).trans (wu_o (by decide))))) ((wu_o (by decide)).trans ((wu_o (by decide)).trans ((wu_o (by decide)).trans (wu_o (by decide))))) (fun _ _ => (wu_o (by decide)).trans ((wu_o (by decide)).trans ((wu_o (by decide)).trans (wu_o (by decide))))) (fun _ _ => (wu_o (by decide)).trans ((wu_o (by decide)).trans ((wu_o (by decide)).trans (wu_o (by decide))))) (fun j hj => wu_o (by omega)) (fun j _ hj => (wu_o (by decide)).trans ((wu_d (by omega)).trans ((wu_o (by decide)).trans (wu_d (by omega))))) ⟨((wu_o (by omega)).trans (h11 d (Nat.le_refl d) hd)).trans ((wu_o (by decide)).trans wu_s).symm, Or.inr (by rw [wu_o (by omega), h11 d (Nat.le_refl d) hd]; decide)⟩, ?_⟩
      rw [wu_s]
      refine ⟨fun _ => ⟨(wu_d (by decide)).trans (Classical.not_not.mp hl), fun z => hz (wu_s.symm.trans z)⟩, fun _ => rfl⟩
theorem dr_XA {x : wS} {i s d : Nat} (h : i ≠ s) : XA x (drF x s d) i := ⟨funext (fun q => drF_o _ _ _ (by omega) (by omega)), funext (fun q => drF_o _ _ _ (by omega) (by omega)), funext (fun q => drF_o _ _ _ (by omega) (by omega)), funext (fun q => drF_o _ _ _ (by omega) (by omega))⟩
theorem md_MA {m : wS} {i s d : Nat} (h : i ≠ s) (hd : d < 201) : MA m (mdF m s d) i ∧ (mdF m s d).1 31 i = m.1 31 i := by
  rw [mdF]
  generalize m.1 21 s - (if m.1 21 s ≤ 0 then 0 else 1) = w
  split
  · exact ⟨MA_wu (MA_w24 MA_rf h hd) (by omega), (wu_d h).trans (wu_o (by decide))⟩
  · split
    · exact ⟨MA_wu (MA_w24 (MA_wi (MA_w24 MA_rf h hd) (by omega) h) h hd) (by omega), (wu_d h).trans ((wu_o (by decide)).trans ((wu_o (by decide)).trans (wu_o (by decide))))⟩
    · exact ⟨MA_wu (MA_w24 (MA_wi (MA_w24 MA_rf h hd) (by omega) h) h hd) (by omega), (wu_d h).trans ((wu_o (by decide)).trans ((wu_o (by decide)).trans (wu_o (by decide))))⟩
theorem okX_XA {x y : wS} {i : Nat} (h : XA x y i) : okX y i ↔ okX x i := by rw [okX, okX, h.1]
theorem dr_all {x m : wS} {n d ly : Nat} (hd : d < 200) (h : ∀ i, i < n → RS x m i d d ly) : ∀ k, k ≤ n → (∀ i, i < k → RS (drS x d k) (mdS m d k) i d (d + 1) ly ∧ ((mdS m d k).1 31 i = 0 ↔ okX (drS x d k) i)) ∧ (∀ i, k ≤ i → XA x (drS x d k) i ∧ MA m (mdS m d k) i)
  | 0, _ => ⟨fun i hi => by omega, fun i _ => ⟨XA_rf, MA_rf⟩⟩
  | k + 1, hk => by
    obtain ⟨h1, h2⟩ := dr_all hd h k (by omega)
    refine ⟨fun i hi => ?_, fun i hi => ?_⟩
    · rw [drS, mdS]
      by_cases e : i = k
      · subst e
        obtain ⟨a1, a2⟩ := h2 i (Nat.le_refl i)
        exact dr_ship (RS_fr (h i (by omega)) (by omega) a1 a2) hd
      · obtain ⟨a1, a2⟩ := h1 i (by omega)
        obtain ⟨b1, b2⟩ := md_MA (m := mdS m d k) (d := d) e (by omega)
        refine ⟨RS_fr a1 (by omega) (dr_XA e) b1, ?_⟩
        rw [b2, okX_XA (dr_XA e)]
        exact a2
    · obtain ⟨a1, a2⟩ := h2 i (by omega)
      exact ⟨XA_tr a1 (dr_XA (by omega)), MA_tr a2 (md_MA (by omega) (by omega)).1⟩
