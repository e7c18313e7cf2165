/-! the answers are alike -/
section RQ
variable {x m : wS} {n d ly dr : Nat}
theorem q_left {a : Int32} (h : Rel x m n d ly dr) : spq ly a (-1) (x.1 3) = spq ly a (-1) (m.1 16) := by
  obtain ⟨t, ht⟩ := h.2.2.2.2.2.2.1
  have h6 : ly ≤ 6 := h.1.2.2.1
  exact spq_cong (by omega) (fun k hk => (ht k hk).1.trans (ht k hk).2.1.symm)
theorem q_cargo {a b : Int32} (h : Rel x m n d ly dr) : spq n a (-1) (fun i => spq ly b (-1) (x.1 (33 + 4 * i))) = spq n a (-1) (fun i => spq ly b (-1) (fun l => m.1 23 (6 * i + l))) := by
  have h6 : ly ≤ 6 := h.1.2.2.1
  have hn : n ≤ 10 := h.1.2.1
  refine spq_cong (by omega) (fun k hk => spq_cong (by omega) (fun l hl => ?_))
  exact (h.2.2.2.2.2.2.2.1 k hk).2.2.2.2.2.2.1 l (by omega)
theorem q_loaded {a b : Int32} (h : Rel x m n d ly dr) : spq n a (-2) (fun i => spq d b (-2) (x.1 (35 + 4 * i))) = spq n a (-2) (fun i => spq d b (-2) (fun l => m.1 24 (201 * i + l))) := by
  have hd : d ≤ 200 := h.1.1
  have hn : n ≤ 10 := h.1.2.1
  refine spq_cong (by omega) (fun k hk => spq_cong (by omega) (fun l hl => ?_))
  exact ((h.2.2.2.2.2.2.2.1 k hk).2.2.2.2.2.2.2.2.2.1 l hl).1
theorem q_term {a b : Int32} (h : Rel x m n d ly dr) : spq n a (-1) (fun i => spq 6 b (-1) (x.1 (34 + 4 * i))) = spq n a (-1) (fun i => spq 6 b (-1) (fun l => m.1 29 (6 * i + l))) := by
  have hn : n ≤ 10 := h.1.2.1
  refine spq_cong (by omega) (fun k hk => spq_cong (by omega) (fun l hl => ?_))
  exact (h.2.2.2.2.2.2.2.1 k hk).2.2.2.2.2.2.2.2.1 l hl
theorem q_sample {a b : Int32} (h : Rel x m n d ly dr) : spq n a (-1) (fun i => if ¬ b < 1 ∧ ¬ 9 < b then smpF (x.1 (33 + 4 * i)) (x.1 4) b ly else (-1)) = spq n a (-1) (fun k => if ¬ b < 1 ∧ ¬ 9 < b then smpF (fun l => m.1 23 (6 * k + l)) (m.1 17) b ly else (-1)) := by
  have h6 : ly ≤ 6 := h.1.2.2.1
  have hn : n ≤ 10 := h.1.2.1
  refine spq_cong (by omega) (fun k hk => ?_)
  rw [smpF_cong (c2 := fun l => m.1 23 (6 * k + l)) (w2 := m.1 17) (fun l hl => (h.2.2.2.2.2.2.2.1 k hk).2.2.2.2.2.2.1 l (by omega)) (fun l hl => h.2.2.2.2.1.2.1 l hl)]
theorem q_about {a b : Int32} (h : Rel x m n d ly dr) : spq n a (-1) (fun i => abF (x.1 (32 + 4 * i) 1) (x.1 (32 + 4 * i) 2) (x.1 (32 + 4 * i) 6) (x.1 (32 + 4 * i) 7) (x.1 (32 + 4 * i) 8) (x.1 (32 + 4 * i) 9) (smI (fun k => x.1 (33 + 4 * i) k * x.1 4 k) ly) b) = spq n a (-1) (fun i => abF (m.1 18 i) (m.1 19 i) (m.1 20 i) (smI (fun k => m.1 23 (6 * i + k)) ly) (m.1 21 i) (m.1 22 i) (smI (fun k => m.1 23 (6 * i + k) * m.1 17 k) ly) b) := by
  have h6 : ly ≤ 6 := h.1.2.2.1
  have hn : n ≤ 10 := h.1.2.1
  refine spq_cong (by omega) (fun i hi => ?_)
  obtain ⟨⟨h1, h2, h3⟩, ⟨a, ha, ha1, ha2, ha3⟩, ⟨w, hw, hw1, hw2⟩, ⟨v, hv, hv1, hv2⟩, k5, k6, k7, -⟩ := h.2.2.2.2.2.2.2.1 i hi
  rw [h2, ha1, ha2, hw1, hw2, hv1, hv2, k5, k6, smI_cong (h := fun k => m.1 23 (6 * i + k)) (fun l hl => k7 l (by omega)), smI_cong (f := fun k => x.1 (33 + 4 * i) k * x.1 4 k) (h := fun k => m.1 23 (6 * i + k) * m.1 17 k) (fun l hl => by rw [k7 l (by omega), h.2.2.2.2.1.2.1 l hl])]
theorem q_ends (h : Rel x m n d ly dr) : ∃ ar en : Nat → Nat, (∀ k, k < n → ar k ≤ en k) ∧ (∀ k, k < n → en k ≤ d) ∧ (∀ k, k < n → x.1 (32 + 4 * k) 2 = nI (ar k)) ∧ (∀ k, k < n → (if ¬ x.1 (32 + 4 * k) 9 = (-9) then x.1 (32 + 4 * k) 9 else nI d - 1) = nI (en k) - 1) ∧ (∀ k, k < n → m.1 19 k = nI (ar k)) ∧ (∀ k, k < n → (if ¬ m.1 22 k = (-9) then m.1 22 k else nI d - 1) = nI (en k) - 1) ∧ (∀ k, k < n → ∀ j, j < d → (m.1 24 (201 * k + j) = (-1) ∨ ¬ m.1 24 (201 * k + j) < 0)) := by
  have hd : d ≤ 200 := h.1.1
  have key : ∀ k, ∃ q : Nat × Nat, k < n → q.1 ≤ q.2 ∧ q.2 ≤ d ∧ x.1 (32 + 4 * k) 2 = nI q.1 ∧ m.1 19 k = nI q.1 ∧ (if ¬ x.1 (32 + 4 * k) 9 = (-9) then x.1 (32 + 4 * k) 9 else nI d - 1) = nI q.2 - 1 := by
    intro k
    rcases Nat.lt_or_ge k n with hk | hk
    · obtain ⟨-, ⟨a, ha, ha1, ha2, ha3⟩, -⟩ := h.2.2.2.2.2.2.2.1 k hk
      rcases ha3 with q | ⟨e, q1, q2, q3, -⟩
      · exact ⟨(a, d), fun _ => ⟨ha, Nat.le_refl d, ha1, ha2, by rw [if_neg (fun z => z q)]⟩⟩
      · refine ⟨(a, e + 1), fun _ => ⟨Nat.le_succ_of_le q1, q2, ha1, ha2, ?_⟩⟩
        have hne : ¬ x.1 (32 + 4 * k) 9 = (-9) := fun z => nI_neN (j := e) (by omega) (x := -9) (by decide) (q3.symm.trans z)
        rw [if_pos hne, q3]
        exact (pk_sub (a := e + 1) (b := 1) (by omega)).symm
    · exact ⟨(0, 0), fun z => absurd z (by omega)⟩
  obtain ⟨f, hf⟩ := Classical.axiomOfChoice key
  refine ⟨fun k => (f k).1, fun k => (f k).2, fun k hk => (hf k hk).1, fun k hk => (hf k hk).2.1, fun k hk => (hf k hk).2.2.1, fun k hk => (hf k hk).2.2.2.2, fun k hk => (hf k hk).2.2.2.1, fun k hk => ?_, fun k hk j hj => ?_⟩
  · rw [← (h.2.2.2.2.2.2.2.1 k hk).2.2.2.2.1]; exact (hf k hk).2.2.2.2
  · have := (h.2.2.2.2.2.2.2.1 k hk).2.2.2.2.2.2.2.2.2.1 j hj
    rw [← this.1]; exact this.2
theorem q_owed {a b : Int32} {ar en : Nat → Nat} (h : Rel x m n d ly dr) (hed : ∀ k, k < n → en k ≤ d) : spq n a (-1000000) (fun k => if ¬ b < 0 ∧ ¬ 1 < b then (if b = 0 then usF (x.1 (34 + 4 * k)) (x.1 1) (x.1 (35 + 4 * k)) (ar k) (en k) else owF (usF (x.1 (34 + 4 * k)) (x.1 1) (x.1 (35 + 4 * k)) (ar k) (en k)) (x.1 (34 + 4 * k)) (¬ x.1 (32 + 4 * k) 9 = (-9))) else (-1000000)) = spq n a (-1000000) (fun k => if ¬ b < 0 ∧ ¬ 1 < b then (if b = 0 then usF (fun l => m.1 29 (6 * k + l)) (m.1 15) (fun l => m.1 24 (201 * k + l)) (ar k) (en k) else owF (usF (fun l => m.1 29 (6 * k + l)) (m.1 15) (fun l => m.1 24 (201 * k + l)) (ar k) (en k)) (fun l => m.1 29 (6 * k + l)) (¬ m.1 22 k = (-9))) else (-1000000)) := by
  have hn : n ≤ 10 := h.1.2.1
  refine spq_cong (by omega) (fun k hk => ?_)
  obtain ⟨-, -, -, -, k5, -, -, -, k9, k10, -⟩ := h.2.2.2.2.2.2.2.1 k hk
  have hu : usF (x.1 (34 + 4 * k)) (x.1 1) (x.1 (35 + 4 * k)) (ar k) (en k) = usF (fun l => m.1 29 (6 * k + l)) (m.1 15) (fun l => m.1 24 (201 * k + l)) (ar k) (en k) := usF_cong k9 (fun j _ => h.2.2.2.2.1.1 j) (fun j hj => (k10 j (by have := hed k hk; omega)).1)
  rw [hu, owF, owF, k5, k9 0 (by decide), k9 1 (by decide), k9 2 (by decide)]
theorem q_shared {a b : Int32} {ar en : Nat → Nat} (h : Rel x m n d ly dr) (hed : ∀ k, k < n → en k ≤ d) : spq n a (-1) (fun k => if ¬ b < 0 ∧ ¬ 2 < b then smI (shG (x.1 (34 + 4 * k)) (x.1 1) (x.1 (35 + 4 * k)) b (ar k)) (en k - ar k) else (-1)) = spq n a (-1) (fun k => if ¬ b < 0 ∧ ¬ 2 < b then smI (shG (fun l => m.1 29 (6 * k + l)) (m.1 15) (fun l => m.1 24 (201 * k + l)) b (ar k)) (en k - ar k) else (-1)) := by
  have hn : n ≤ 10 := h.1.2.1
  refine spq_cong (by omega) (fun k hk => ?_)
  obtain ⟨-, -, -, -, k5, -, -, -, k9, k10, -⟩ := h.2.2.2.2.2.2.2.1 k hk
  rw [shG_cong (tr2 := fun l => m.1 29 (6 * k + l)) (sw2 := m.1 15) (lg2 := fun l => m.1 24 (201 * k + l)) k9 (fun j _ => h.2.2.2.2.1.1 j) (fun j hj => (k10 j (by have := hed k hk; omega)).1)]
theorem q_letter {a b : Int32} (h : Rel x m n d ly dr) : ltF (x.1 11) (x.1 12) (x.1 13) d a b = ltF (m.1 25) (m.1 26) (m.1 27) d a b := by
  have hd : d ≤ 200 := h.1.1
  have e1 := h.2.2.2.2.2.1
  exact ltF_cong (by omega) (fun j hj => (e1 j hj).1) (fun j hj => (e1 j hj).2.1) (fun j hj => (e1 j hj).2.2)
theorem q_foretold (h : Rel x m n d ly dr) : fgO (x.1 11) (x.1 12) (lcO (x.1 13) (nI d) d) = fgO (m.1 25) (m.1 26) (lcO (m.1 27) (nI d) d) := by
  have e1 := h.2.2.2.2.2.1
  exact fgO_cong (fun j hj => (e1 j hj).1) (fun j hj => (e1 j hj).2.1) (fun j hj => (e1 j hj).2.2)
theorem q_count {a : Int32} (h : Rel x m n d ly dr) : abF (nI d) (nI n) (nI ly) (smI (fun i => if ¬ x.1 (32 + 4 * i) 9 = (-9) then 1 else 0) n) (smI (fun t => x.1 12 (0 + t)) (d - 0)) (nI dr) (smI (fun i => if x.1 (32 + 4 * i) 9 = (-9) ∧ x.1 (32 + 4 * i) 8 = 0 then 1 else 0) n) a = abF (nI d) (nI n) (nI ly) (smI (fun i => if ¬ m.1 22 i = (-9) then 1 else 0) n) (m.1 14 19) (nI dr) (smI (fun i => if m.1 22 i = (-9) ∧ m.1 21 i = 0 then 1 else 0) n) a := by
  have hz : ∀ i, i < n → x.1 (32 + 4 * i) 9 = m.1 22 i ∧ x.1 (32 + 4 * i) 8 = m.1 21 i := fun i hi => by
    obtain ⟨-, -, -, ⟨v, hv, hv1, hv2⟩, k5, -⟩ := h.2.2.2.2.2.2.2.1 i hi
    exact ⟨k5, hv1.trans hv2.symm⟩
  rw [smI_cong (f := fun i => if ¬ x.1 (32 + 4 * i) 9 = (-9) then (1 : Int32) else 0) (h := fun i => if ¬ m.1 22 i = (-9) then (1 : Int32) else 0) (fun i hi => by rw [(hz i hi).1]), smI_cong (f := fun i => if x.1 (32 + 4 * i) 9 = (-9) ∧ x.1 (32 + 4 * i) 8 = 0 then (1 : Int32) else 0) (h := fun i => if m.1 22 i = (-9) ∧ m.1 21 i = 0 then (1 : Int32) else 0) (fun i hi => by rw [(hz i hi).1, (hz i hi).2]), h.2.2.2.1.2.2, Nat.sub_zero, smI_cong (f := fun t => x.1 12 (0 + t)) (h := x.1 12) (fun i _ => by rw [Nat.zero_add])]
end RQ
