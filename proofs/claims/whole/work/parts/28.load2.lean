/-! loading alike -/
theorem smI_add {f h : Nat → Int32} {k : Nat} {p : Int32} (hk : h k = f k + p) (ho : ∀ j, j ≠ k → h j = f j) : ∀ n, k < n → smI h n = smI f n + p
  | 0, hn => by omega
  | n + 1, hn => by
    rw [smI, smI]
    by_cases e : k = n
    · subst e
      rw [smI_cong (f := h) (h := f) (fun j hj => ho j (by omega)), hk, Int32.add_assoc]
    · rw [smI_add hk ho n (by omega), ho n (by omega), Int32.add_assoc, Int32.add_assoc, Int32.add_comm p]
theorem dg_sum (s : wS) (i : Nat) (mo : Int32) (ly : Nat) : ∀ k, k ≤ ly → smI ((dgS s i mo k).1.1 (33 + 4 * i)) ly = smI (s.1 (33 + 4 * i)) ly + (dgS s i mo k).2
  | 0, _ => (Int32.add_zero _).symm
  | k + 1, hk => by
    rw [dgS]
    refine (smI_add (f := (dgS s i mo k).1.1 (33 + 4 * i)) (k := k) (p := dgP (dgS s i mo k).1 (dgS s i mo k).2 mo k) wu_s (fun j hj => (wu_d hj).trans (wu_o (by omega))) ly (by omega)).trans ?_
    rw [dg_sum s i mo ly k (by omega), Int32.add_assoc]
theorem dg_hi (s : wS) (i : Nat) (mo : Int32) {l : Nat} : ∀ k, k ≤ l → (dgS s i mo k).1.1 (33 + 4 * i) l = s.1 (33 + 4 * i) l
  | 0, _ => rfl
  | k + 1, hk => by rw [dgS]; exact (wu_d (by omega)).trans ((wu_o (by omega)).trans (dg_hi s i mo k (by omega)))
theorem ms_hi (s : wS) (i : Nat) (mo : Int32) {p : Nat} : ∀ k, (∀ l, l < k → p ≠ 6 * i + l) → (mS s i mo k).1.1 23 p = s.1 23 p
  | 0, _ => rfl
  | k + 1, hk => by rw [mS]; exact (wu_o (by decide)).trans ((wu_d (hk k (by omega))).trans ((wu_o (by decide)).trans (ms_hi s i mo k (fun l hl => hk l (by omega)))))
theorem ms_20 (s : wS) (i : Nat) (mo : Int32) {p : Nat} (h : p ≠ i) : ∀ k, (mS s i mo k).1.1 20 p = s.1 20 p
  | 0 => rfl
  | k + 1 => by rw [mS]; exact (wu_d h).trans ((wu_o (by decide)).trans ((wu_o (by decide)).trans (ms_20 s i mo h k)))
theorem ms_MA {s : wS} {i x : Nat} {mo : Int32} {k : Nat} (h : i ≠ x) (hk : k ≤ 6) : MA s (mS s x mo k).1 i :=
  ⟨⟨mS_o _ _ _ (by decide) (by decide) (by decide) _, mS_o _ _ _ (by decide) (by decide) (by decide) _, ms_20 _ _ _ h _, mS_o _ _ _ (by decide) (by decide) (by decide) _, mS_o _ _ _ (by decide) (by decide) (by decide) _⟩, fun l hl => ms_hi _ _ _ _ (fun q hq => by omega), fun _ _ => mS_o _ _ _ (by decide) (by decide) (by decide) _, fun _ _ => mS_o _ _ _ (by decide) (by decide) (by decide) _⟩
theorem gl_MA {s : wS} {i x : Nat} {mo : Int32} {d ly : Nat} (h : i ≠ x) (hl : ly ≤ 6) (hd : d < 201) : MA s (glF s x mo d ly).1 i ∧ (glF s x mo d ly).1.1 31 i = s.1 31 i :=
  ⟨MA_wi (MA_w24 (MA_tr (MA_wu MA_rf (by omega)) (ms_MA h hl)) h hd) (by omega) h, (wu_o (by decide)).trans ((wu_o (by decide)).trans ((mS_o _ _ _ (by decide) (by decide) (by decide) _).trans (wu_d h)))⟩
theorem gl_31 {s : wS} {x : Nat} {mo : Int32} {d ly : Nat} : (glF s x mo d ly).1.1 31 x = 1 := (wu_o (by decide)).trans ((wu_o (by decide)).trans ((mS_o _ _ _ (by decide) (by decide) (by decide) _).trans wu_s))
theorem ld_XA {s : wS} {i x : Nat} {ta : Int32} {d ly : Nat} (h : i ≠ x) : XA s (ldF s x ta d ly).1 i :=
  ⟨funext (fun q => (tkF_o _ _ _ _ (by omega) (by omega)).trans (dgS_o _ _ _ (by omega) (by omega) _)), funext (fun q => (tkF_o _ _ _ _ (by omega) (by omega)).trans (dgS_o _ _ _ (by omega) (by omega) _)), funext (fun q => (tkF_o _ _ _ _ (by omega) (by omega)).trans (dgS_o _ _ _ (by omega) (by omega) _)), funext (fun q => (tkF_o _ _ _ _ (by omega) (by omega)).trans (dgS_o _ _ _ (by omega) (by omega) _))⟩
theorem tk_rd (σ : wS) (i : Nat) (t : Int32) (k : Nat) : (∀ q, q ≠ 6 → q ≠ 7 → q ≠ 9 → (tkF σ i t k).1 (32 + 4 * i) q = σ.1 (32 + 4 * i) q) ∧ (tkF σ i t k).1 (32 + 4 * i) 6 = σ.1 (32 + 4 * i) 6 - t ∧ (tkF σ i t k).1 (32 + 4 * i) 7 = σ.1 (32 + 4 * i) 7 + t ∧ (tkF σ i t k).1 (32 + 4 * i) 9 = (if σ.1 (32 + 4 * i) 6 - t = 0 then nI k else σ.1 (32 + 4 * i) 9) ∧ (tkF σ i t k).1 (35 + 4 * i) k = t ∧ (∀ j, j ≠ k → (tkF σ i t k).1 (35 + 4 * i) j = σ.1 (35 + 4 * i) j) := by
  rw [tkF]
  split
  · next h =>
    refine ⟨fun q h1 h2 h3 => (wu_d h3).trans ((wu_o (by omega)).trans ((wu_d h2).trans (wu_d h1))), (wu_d (by decide)).trans ((wu_o (by omega)).trans ((wu_d (by decide)).trans wu_s)), (wu_d (by decide)).trans ((wu_o (by omega)).trans wu_s), wu_s, (wu_o (by omega)).trans wu_s, fun j hj => (wu_o (by omega)).trans ((wu_d hj).trans ((wu_o (by omega)).trans (wu_o (by omega))))⟩
  · next h =>
    refine ⟨fun q h1 h2 h3 => (wu_o (by omega)).trans ((wu_d h2).trans (wu_d h1)), (wu_o (by omega)).trans ((wu_d (by decide)).trans wu_s), (wu_o (by omega)).trans wu_s, (wu_o (by omega)).trans ((wu_d (by decide)).trans (wu_d (by decide))), wu_s, fun j hj => (wu_d hj).trans ((wu_o (by omega)).trans (wu_o (by omega)))⟩
theorem ld_ship {x m : wS} {i d ly : Nat} {ta : Int32} (h : RS x m i d (d + 1) ly) (h9 : x.1 (32 + 4 * i) 9 = (-9)) (hta : ∃ tn, tn ≤ 60 ∧ ta = nI tn) (hly : ly ≤ 6) (hd : d < 200) (hT : RT x m ly) : RS (ldF x i ta d ly).1 (glF m i ta d ly).1 i d (d + 1) ly ∧ RT (ldF x i ta d ly).1 (glF m i ta d ly).1 ly ∧ (ldF x i ta d ly).2 = (glF m i ta d ly).2 := by
  obtain ⟨tn, htn, rfl⟩ := hta
  obtain ⟨t, ht⟩ := hT
  obtain ⟨⟨h1, h2, h3⟩, ⟨a, ha, ha1, ha2, ha3⟩, ⟨w, hw, hw1, hw2⟩, ⟨v, hv, hv1, hv2⟩, h5, h6, h7, h8, h9', h10, h11⟩ := h
  have hmn : mnW x i (nI tn) = nI (min w tn) := by rw [mnW, hw1]; exact minI (by omega) (by omega)
  obtain ⟨un, t2, u1, u2, e1, e2, e3, e4, e5⟩ := dg_ms (s := x) (q := wu m 31 i 1) (x := i) (ly := ly) (wn := w) (tn := tn) hw htn ((wu_o (by decide)).trans hw2) t (fun k hk => ⟨(ht k hk).1, (wu_o (by decide)).trans (ht k hk).2.1, (ht k hk).2.2⟩) (fun k hk => (h7 k (by omega)).trans (wu_o (by decide)).symm) ly (Nat.le_refl ly)
  have hsum := dg_sum x i (nI (min w tn)) ly ly (Nat.le_refl ly)
  have hhi : ∀ l, ly ≤ l → (dgS x i (nI (min w tn)) ly).1.1 (33 + 4 * i) l = x.1 (33 + 4 * i) l := fun l hl => dg_hi x i _ ly hl
  have hmh : ∀ l, ly ≤ l → l < 6 → (mS (wu m 31 i 1) i (nI tn) ly).1.1 23 (6 * i + l) = m.1 23 (6 * i + l) := fun l hl hl2 => (ms_hi _ _ _ _ (fun q hq => by omega)).trans (wu_o (by decide))
  have hmo : ∀ j q, j ≠ 16 → j ≠ 23 → j ≠ 20 → j ≠ 31 → (mS (wu m 31 i 1) i (nI tn) ly).1.1 j q = m.1 j q := fun j q a b c e => (mS_o _ _ _ a b c _).trans (wu_o e)
  have hdo : ∀ j q, j ≠ 3 → j ≠ 33 + 4 * i → (dgS x i (nI (min w tn)) ly).1.1 j q = x.1 j q := fun j q a b => dgS_o _ _ _ a b _
  have eL : ldF x i (nI tn) d ly = (tkF (dgS x i (nI (min w tn)) ly).1 i (dgS x i (nI (min w tn)) ly).2 d, (dgS x i (nI (min w tn)) ly).2) := by rw [ldF, hmn]
  rw [eL, glF]
  generalize dgS x i (nI (min w tn)) ly = D at *
  generalize mS (wu m 31 i 1) i (nI tn) ly = M at *
  obtain ⟨D, dt⟩ := D
  obtain ⟨M, mt⟩ := M
  dsimp only at *
  subst e1 e2
  obtain ⟨k0, k6, k7, k9, kl, ko⟩ := tk_rd D i (nI un) d
  have hw6 : D.1 (32 + 4 * i) 6 - nI un = nI (w - un) := by rw [hdo _ _ (by omega) (by omega), hw1, pk_sub u1]
  have r33 : (tkF D i (nI un) d).1 (33 + 4 * i) = D.1 (33 + 4 * i) := funext (fun q => tkF_o _ _ _ _ (by omega) (by omega))
  refine ⟨⟨⟨?_, ?_, ?_⟩, ⟨a, ha, ?_, ?_, ?_⟩, ⟨w - un, by omega, ?_, ?_⟩, ⟨v, hv, ?_, ?_⟩, ?_, ?_, ?_, ?_, ?_, ?_, ?_⟩, ⟨t2, fun k hk => ⟨?_, ?_, (e4 k hk).2.2⟩⟩, rfl⟩
  · rw [k0 0 (by decide) (by decide) (by decide), hdo _ _ (by omega) (by omega)]; exact h1
  · rw [k0 1 (by decide) (by decide) (by decide), hdo _ _ (by omega) (by omega)]; exact h2.trans ((wu_o (by decide)).trans ((wu_o (by decide)).trans (hmo _ _ (by decide) (by decide) (by decide) (by decide)))).symm
  · rw [wu_o (by decide), wu_o (by decide), hmo _ _ (by decide) (by decide) (by decide) (by decide)]; exact h3
  · rw [k0 2 (by decide) (by decide) (by decide), hdo _ _ (by omega) (by omega)]; exact ha1
  · rw [wu_o (by decide), wu_o (by decide), hmo _ _ (by decide) (by decide) (by decide) (by decide)]; exact ha2
  · rw [k9, k6, hw6]
    by_cases hz : nI (w - un) = 0
    · rw [if_pos hz]
      exact Or.inr ⟨d, ha, by omega, rfl, hz⟩
    · rw [if_neg hz, hdo _ _ (by omega) (by omega)]
      exact Or.inl h9
  · rw [k6, hw6]
  · rw [wu_o (by decide), wu_o (by decide)]; exact e3
  · rw [k0 8 (by decide) (by decide) (by decide), hdo _ _ (by omega) (by omega)]; exact hv1
  · rw [wu_o (by decide), wu_o (by decide), hmo _ _ (by decide) (by decide) (by decide) (by decide)]; exact hv2
  · rw [k9, hw6, wu_s, e3, hdo _ _ (by omega) (by omega), h9]
  · rw [k7, r33, hsum, hdo _ _ (by omega) (by omega), h6]
  · intro l hl
    rw [r33, wu_o (by decide), wu_o (by decide)]
    rcases Nat.lt_or_ge l ly with q | q
    · exact e5 l q
    · rw [hhi l q, hmh l q hl]; exact h7 l hl
  · intro l hq hl
    rw [r33, hhi l hq]; exact h8 l hq hl
  · intro l hl
    rw [tkF_o _ _ _ _ (by omega) (by omega), hdo _ _ (by omega) (by omega), wu_o (by decide), wu_o (by decide), hmo _ _ (by decide) (by decide) (by decide) (by decide)]
    exact h9' l hl
  · intro j hj
    by_cases e : j = d
    · subst e
      rw [kl, wu_o (by decide), wu_s]
      exact ⟨rfl, Or.inr (nI_pos (by omega))⟩
    · rw [ko j e, hdo _ _ (by omega) (by omega), wu_o (by decide), wu_d (by omega), hmo _ _ (by decide) (by decide) (by decide) (by decide)]
      exact h10 j hj
  · intro j h0 hj
    rw [ko j (by omega), hdo _ _ (by omega) (by omega)]
    exact h11 j h0 hj
  · rw [tkF_o _ _ _ _ (by omega) (by omega)]; exact (e4 k hk).1
  · rw [wu_o (by decide), wu_o (by decide)]; exact (e4 k hk).2.1
theorem RT_fr {x m x' m' : wS} {ly : Nat} (h : RT x m ly) (hx : ∀ q, x'.1 3 q = x.1 3 q) (hm : ∀ q, m'.1 16 q = m.1 16 q) : RT x' m' ly := by
  obtain ⟨t, ht⟩ := h
  exact ⟨t, fun k hk => ⟨(hx k).trans (ht k hk).1, (hm k).trans (ht k hk).2.1, (ht k hk).2.2⟩⟩
theorem ld_all {X M : wS} {n d ly z : Nat} {f : Nat → Nat} {sw : Int32} (hd : d < 200) (hly : ly ≤ 6) (hRS : ∀ i, i < n → RS X M i d (d + 1) ly) (hT : RT X M ly) (hf : ∀ k, k < z → f k < n) (hin : ∀ a b, a < b → b < z → f a ≠ f b) (h9 : ∀ k, k < z → X.1 (32 + 4 * f k) 9 = (-9)) : ∀ k, k ≤ z → (∀ i, i < n → RS (ldS X f sw d ly k).1 (gF M f sw d ly k).1 i d (d + 1) ly) ∧ RT (ldS X f sw d ly k).1 (gF M f sw d ly k).1 ly ∧ (ldS X f sw d ly k).2 = (gF M f sw d ly k).2 ∧ (∀ q, k ≤ q → q < z → (ldS X f sw d ly k).1.1 (32 + 4 * f q) 9 = (-9)) ∧ (∀ i, (gF M f sw d ly k).1.1 31 i = 0 ↔ M.1 31 i = 0 ∧ ∀ q, q < k → f q ≠ i) ∧ (∀ i, n ≤ i → MA M (gF M f sw d ly k).1 i)
  | 0, _ => ⟨hRS, hT, rfl, fun q _ hq => h9 q hq, fun i => ⟨fun h => ⟨h, fun q hq => by omega⟩, fun h => h.1⟩, fun i _ => MA_rf⟩
  | k + 1, hk => by
    obtain ⟨a1, a2, a3, a4, a5, a6⟩ := ld_all hd hly hRS hT hf hin h9 k (by omega)
    obtain ⟨b1, b2, b3⟩ := ld_ship (ta := taF sw k) (a1 (f k) (hf k (by omega))) (a4 k (Nat.le_refl k) (by omega)) (taF_n sw k) hly hd a2
    rw [ldS, gF]
    refine ⟨fun i hi => ?_, b2, by rw [a3, b3], fun q h1 h2 => ?_, fun i => ?_, fun i hi => ?_⟩
    · by_cases e : i = f k
      · subst e; exact b1
      · exact RS_fr (a1 i hi) (by omega) (ld_XA e) (gl_MA e hly (by omega)).1
    · have e : f q ≠ f k := fun z => hin k q (by omega) h2 z.symm
      exact (congrFun (ld_XA e).1 9).trans (a4 q (by omega) h2)
    · by_cases e : i = f k
      · subst e
        rw [gl_31]
        exact ⟨fun z => absurd z (by decide), fun z => absurd rfl (z.2 k (by omega))⟩
      · rw [(gl_MA e hly (show d < 201 by omega)).2, a5 i]
        refine and_congr_right (fun _ => ⟨fun z q hq => ?_, fun z q hq => z q (by omega)⟩)
        rcases Nat.lt_or_ge q k with y | y
        · exact z q y
        · obtain rfl : q = k := by omega
          exact fun z => e z.symm
    · exact MA_tr (a6 i hi) (gl_MA (fun z => by have := hf k (by omega); omega) hly (by omega)).1
