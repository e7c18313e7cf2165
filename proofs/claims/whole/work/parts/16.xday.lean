section
variable {l : Launch} {g : wG} {α : Nat → Nat} {N : Nat} {σ : wS} {p : Program} {e : Env} {s : State} {m : MethodId} {args : Array Value} {below : List Frame} {meth : Method} {c : Code}
set_option maxHeartbeats 1000000 in
set_option maxRecDepth 100000 in
theorem lpX4_standInLine_2 {sz : Nat} (x z n d : Nat) (f : Nat → Nat) (X : wX p s m args c cX4_standInLine 4 RX4 g) (hsz : s.heap.size = sz) (hr : meth.sig.returnType = (none : Option FieldType)) (hlk : meth.locks = false) (hN : 32 + 4 * n ≤ N) (hd : σ.1 0 6 = nI d) (hx2 : x < n) (hz : z < 10) (hf : ∀ k, k < z → f k < n ∧ σ.2.2 6 k = some (32 + 4 * f k)) (hB : ∀ k x, σ.2.2 6 k = some x → x < 32 + 4 * n) : ∀ (fu : Nat) (pp : Nat) (rr : Nat → Nat → Option Nat), (pp + 1 ≤ fu) → (pp ≤ z) → ((∀ j, j ≠ 6 → rr j = σ.2.2 j)) → ((∀ k x, rr 6 k = some x → x < 32 + 4 * n)) → ((∀ k, k < pp → rr 6 k = some (32 + 4 * f k))) → ((∀ k, pp < k → k ≤ z → rr 6 k = some (32 + 4 * f (k - 1)))) → ((∀ k, pp ≤ k → k < z → tX σ d x < tX σ d (f k))) → ∀ (H : Heap) (locs : List Loc), wI g α N (wA α N sz) s.heap H locs (σ.1, σ.2.1, rr) → ∀ ls : Array Slot, lv_has ls 4 [(0, .ref (α 0)), (1, .ref (α (32 + 4 * x))), (3, .int (nI pp))] → W p l e ({ frames := 1, cells := 0, slots := 0, locals := 23 } : Room) s m args below meth c H locs 0 0 (MQ below (va_Qv (fun τ => ∃ (pp : Nat) (rr : Nat → Nat → Option Nat), τ = (σ.1, σ.2.1, rr) ∧ pp ≤ z ∧ (∀ k, pp ≤ k → k < z → tX σ d x < tX σ d (f k)) ∧ (∀ k, k + 1 = pp → ¬ tX σ d x < tX σ d (f k)) ∧ (∀ k, k < z + 1 → rr 6 k = some (32 + 4 * insF f x pp k)) ∧ (∀ j, j ≠ 6 → rr j = σ.2.2 j) ∧ (∀ k x, rr 6 k = some x → x < 32 + 4 * n)) (wB g α N) (wA α N sz)) args s 0 0 (wA α N sz)) (F0 m 2 ls []) := by
  have hA : ∀ q, s.heap.size ≤ q → wA α N sz q := fun q h => Or.inr (by omega)
  have hx := X.1.1
  have hb := X.1.2.1
  intro fu
  induction fu with
  | zero =>
    intro pp rr hfu hp hro hB2 hlo hhi hgt
    exact absurd hfu (by omega)
  | succ fu ih =>
    intro pp rr hfu hp hro hB2 hlo hhi hgt H locs I ls hl
    refine lv_iload_n hx hb dX4_standInLine_2 rfl (lv_at hl 2 rfl) ?_
    refine lv_if_le (tgt := 52) hx hb dX4_standInLine_3 (by decide) (fun c_3 => ?_) (fun c_3 => ?_)
    ·
      have e : pp = 0 := by rcases Nat.eq_zero_or_pos pp with q | q; exact q; exact absurd c_3 (nI_nle q (by omega))
      refine lv_aload_n hx hb dX4_standInLine_52 rfl (lv_at hl 0 rfl) ?_
      refine fg4_3 X I (by omega) kfX4_26 dX4_standInLine_53 ?_
      refine lv_iload_n hx hb dX4_standInLine_56 rfl (lv_at hl 2 rfl) ?_
      refine lv_aload_n hx hb dX4_standInLine_57 rfl (lv_at hl 1 rfl) ?_
      refine w_stq X I 6 (by omega) (n := 10) (k := pp) (fun _ _ _ => rfl) rfl (by omega) (by decide) (by omega) (wc_ship g α x _ _ _) dX4_standInLine_58 (fun H locs I => ?_)
      exact w_vret X I hr hlk (⟨pp, (wuR (σ.1, σ.2.1, rr) 6 pp (some (32 + 4 * x))).2.2, rfl, by omega, hgt, fun k hk => absurd hk (by omega), fun k hk => by rcases Nat.lt_trichotomy k pp with q | q | q; exact (wuR_d (by omega)).trans ((hlo k q).trans (by rw [insF_lo q])); (subst q; exact wuR_s.trans (by rw [insF_at])); exact (wuR_d (by omega)).trans ((hhi k q (by omega)).trans (by rw [insF_hi q])), fun j hj => (wuR_or hj).trans (hro j hj), wuR_b hB2 (by omega)⟩) dX4_standInLine_59
    ·
      obtain ⟨pq, rfl⟩ : ∃ pq, pp = pq + 1 := ⟨pp - 1, by rcases Nat.eq_zero_or_pos pp with q | q; exact absurd (by rw [q]; decide) c_3; omega⟩
      have hfp := (hf pq (by omega)).1
      refine lv_aload_n hx hb dX4_standInLine_6 rfl (lv_at hl 0 rfl) ?_
      refine fg4_3 X I (by omega) kfX4_26 dX4_standInLine_7 ?_
      refine lv_iload_n hx hb dX4_standInLine_10 rfl (lv_at hl 2 rfl) ?_
      refine lv_iconst (v := 1) hx hb dX4_standInLine_11 (by decide) ?_
      refine lv_isub hx hb dX4_standInLine_12 ?_
      refine w_eqi (y := nI pq) (nI_pred _) ?_
      refine w_ldq X I 6 (by omega) (n := 10) (k := pq) (fun _ _ _ => rfl) rfl (by omega) (by decide) (hlo pq (by omega)) dX4_standInLine_13 ?_
      refine lv_aload_n hx hb dX4_standInLine_14 rfl (lv_at hl 0 rfl) ?_
      refine fg4_6 X I (by omega) kfX4_43 dX4_standInLine_15 ?_
      refine w_eqi (y := nI d) hd ?_
      refine w_vSi X I (32 + 4 * (f pq)) (by omega) (wc_ship g α (f pq) _ _ _) rfl (As := [.int (nI d)]) (rest := []) (ctX3_turnOn l g α N (σ.1, σ.2.1, rr) (f pq) (nI d) (by omega)) (wM_V kmX4_88 ki_X3_turnOn ks_X3_turnOn kn_X3 kc_X3_turnOn) rfl rfl (n := 1) (by decide +kernel) rfl ⟨by decide, by decide⟩ hl.1 rfl (Nat.le_of_ble_eq_true rfl) ⟨Nat.zero_le _, Nat.zero_le _⟩ dX4_standInLine_18 (fun r_18 q_18 => ?_)
      replace q_18 : r_18 = tX σ d (f pq) := q_18
      subst q_18
      refine lv_aload_n hx hb dX4_standInLine_21 rfl (lv_at hl 1 rfl) ?_
      refine lv_aload_n hx hb dX4_standInLine_22 rfl (lv_at hl 0 rfl) ?_
      refine fg4_6 X I (by omega) kfX4_43 dX4_standInLine_23 ?_
      refine w_eqi (y := nI d) hd ?_
      refine w_vSi X I (32 + 4 * x) (by omega) (wc_ship g α x _ _ _) rfl (As := [.int (nI d)]) (rest := [.int (tX σ d (f pq))]) (ctX3_turnOn l g α N (σ.1, σ.2.1, rr) x (nI d) (by omega)) (wM_V kmX4_88 ki_X3_turnOn ks_X3_turnOn kn_X3 kc_X3_turnOn) rfl rfl (n := 1) (by decide +kernel) rfl ⟨by decide, by decide⟩ hl.1 rfl (Nat.le_of_ble_eq_true rfl) ⟨Nat.zero_le _, Nat.zero_le _⟩ dX4_standInLine_26 (fun r_26 q_26 => ?_)
      replace q_26 : r_26 = tX σ d x := q_26
      subst q_26
      refine lv_icmp_le (tgt := 52) hx hb dX4_standInLine_29 (by decide) (fun c_29 => ?_) (fun c_29 => ?_)
      ·
        refine lv_aload_n hx hb dX4_standInLine_52 rfl (lv_at hl 0 rfl) ?_
        refine fg4_3 X I (by omega) kfX4_26 dX4_standInLine_53 ?_
        refine lv_iload_n hx hb dX4_standInLine_56 rfl (lv_at hl 2 rfl) ?_
        refine lv_aload_n hx hb dX4_standInLine_57 rfl (lv_at hl 1 rfl) ?_
        refine w_stq X I 6 (by omega) (n := 10) (k := pq + 1) (fun _ _ _ => rfl) rfl (by omega) (by decide) (by omega) (wc_ship g α x _ _ _) dX4_standInLine_58 (fun H locs I => ?_)
        exact w_vret X I hr hlk (⟨(pq + 1), (wuR (σ.1, σ.2.1, rr) 6 (pq + 1) (some (32 + 4 * x))).2.2, rfl, by omega, hgt, fun k hk => by (obtain rfl : k = pq := by omega); exact Int32.not_lt.mpr c_29, fun k hk => by rcases Nat.lt_trichotomy k (pq + 1) with q | q | q; exact (wuR_d (by omega)).trans ((hlo k q).trans (by rw [insF_lo q])); (subst q; exact wuR_s.trans (by rw [insF_at])); exact (wuR_d (by omega)).trans ((hhi k q (by omega)).trans (by rw [insF_hi q])), fun j hj => (wuR_or hj).trans (hro j hj), wuR_b hB2 (by omega)⟩) dX4_standInLine_59
      ·
        refine lv_aload_n hx hb dX4_standInLine_32 rfl (lv_at hl 0 rfl) ?_
        refine fg4_3 X I (by omega) kfX4_26 dX4_standInLine_33 ?_
        refine lv_iload_n hx hb dX4_standInLine_36 rfl (lv_at hl 2 rfl) ?_
        refine lv_aload_n hx hb dX4_standInLine_37 rfl (lv_at hl 0 rfl) ?_
        refine fg4_3 X I (by omega) kfX4_26 dX4_standInLine_38 ?_
        refine lv_iload_n hx hb dX4_standInLine_41 rfl (lv_at hl 2 rfl) ?_
        refine lv_iconst (v := 1) hx hb dX4_standInLine_42 (by decide) ?_
        refine lv_isub hx hb dX4_standInLine_43 ?_
        refine w_eqi (y := nI pq) (nI_pred _) ?_
        refine w_ldq X I 6 (by omega) (n := 10) (k := pq) (fun _ _ _ => rfl) rfl (by omega) (by decide) (hlo pq (by omega)) dX4_standInLine_44 ?_
        refine w_stq X I 6 (by omega) (n := 10) (k := pq + 1) (fun _ _ _ => rfl) rfl (by omega) (by decide) (by omega) (wc_ship g α (f pq) _ _ _) dX4_standInLine_45 (fun H locs I => ?_)
        refine lv_iinc (v := nI pq) (lv' := [(3, .int (nI pq)), (0, .ref (α 0)), (1, .ref (α (32 + 4 * x)))]) hx hb dX4_standInLine_46 hl (k := 2) rfl (by rw [m1e]; exact nI_pred _) (by decide) rfl (fun ls hl => ?_)
        refine lv_goto (tgt := 2) hx hb dX4_standInLine_49 (by decide) ?_
        exact ih pq ((wuR (σ.1, σ.2.1, rr) 6 (pq + 1) (some (32 + 4 * f pq))).2.2) (by omega) (by omega) (fun j hj => (wuR_or hj).trans (hro j hj)) (wuR_b hB2 (by omega)) (fun k hk => (wuR_d (by omega)).trans (hlo k (by omega))) (fun k h1 h2 => by rcases Nat.lt_or_ge (pq + 1) k with q | q; exact (wuR_d (by omega)).trans (hhi k q h2); (obtain rfl : k = pq + 1 := by omega); exact wuR_s) (fun k h1 h2 => by rcases Nat.lt_or_ge pq k with q | q; exact hgt k q h2; (obtain rfl : k = pq := by omega); exact Int32.not_le.mp c_29) _ _ I ls (lv_sub hl [1, 2, 0] rfl)
set_option maxHeartbeats 1000000 in
set_option maxRecDepth 100000 in
theorem ctX4_standInLine (l : Launch) (g : wG) (α : Nat → Nat) (N : Nat) (σ : wS) (sz : Nat) (x z n d : Nat) (f : Nat → Nat) (hN : 32 + 4 * n ≤ N) (hd : σ.1 0 6 = nI d) (hx2 : x < n) (hz : z < 10) (hf : ∀ k, k < z → f k < n ∧ σ.2.2 6 k = some (32 + 4 * f k)) (hB : ∀ k x, σ.2.2 6 k = some x → x < 32 + 4 * n) : Met l yX4_standInLine (wM yX4_standInLine cX4_standInLine 4 (none : Option FieldType)) ({ frames := 1, cells := 0, slots := 0, locals := 23 } : Room) (wPs g α N sz σ [.ref (α 0), .ref (α (32 + 4 * x)), .int (nI z)]) (va_Qv (fun τ => ∃ (pp : Nat) (rr : Nat → Nat → Option Nat), τ = (σ.1, σ.2.1, rr) ∧ pp ≤ z ∧ (∀ k, pp ≤ k → k < z → tX σ d x < tX σ d (f k)) ∧ (∀ k, k + 1 = pp → ¬ tX σ d x < tX σ d (f k)) ∧ (∀ k, k < z + 1 → rr 6 k = some (32 + 4 * insF f x pp k)) ∧ (∀ j, j ≠ 6 → rr j = σ.2.2 j) ∧ (∀ k x, rr 6 k = some x → x < 32 + 4 * n)) (wB g α N) (wA α N sz)) 0 0 (wA α N sz) := by
  refine w_enter (by decide) (Nat.le_of_ble_eq_true rfl) (fun p e s m args below meth c hsz X I hr hlk ls hl => ?_)
  have hA : ∀ q, s.heap.size ≤ q → wA α N sz q := fun q h => Or.inr (by omega)
  have hx := X.1.1
  have hb := X.1.2.1
  have hl : lv_has ls 4 [(0, .ref (α 0)), (1, .ref (α (32 + 4 * x))), (2, .int (nI z))] := hl
  refine lv_iload_n hx hb dX4_standInLine_0 rfl (lv_at hl 2 rfl) ?_
  refine lv_istore_n (lv' := [(3, .int (nI z)), (0, .ref (α 0)), (1, .ref (α (32 + 4 * x))), (2, .int (nI z))]) hx hb dX4_standInLine_1 rfl hl (by decide) rfl (fun ls hl => ?_)
  exact lpX4_standInLine_2 x z n d f X hsz hr hlk hN hd hx2 hz hf hB  (z + 1) z σ.2.2 (by omega) (by omega) (fun _ _ => rfl) hB (fun k hk => (hf k hk).2) (fun k h1 h2 => absurd h1 (by omega)) (fun k h1 h2 => absurd h1 (by omega)) _ _ I ls (lv_sub hl [1, 2, 0] rfl)
end
section
variable {l : Launch} {g : wG} {α : Nat → Nat} {N : Nat} {σ : wS} {p : Program} {e : Env} {s : State} {m : MethodId} {args : Array Value} {below : List Frame} {meth : Method} {c : Code}
set_option maxHeartbeats 1000000 in
set_option maxRecDepth 100000 in
theorem lpX4_lineUp_4 {sz : Nat} (n d : Nat) (X : wX p s m args c cX4_lineUp 3 RX4 g) (hsz : s.heap.size = sz) (hr : meth.sig.returnType = (some FieldType.int)) (hlk : meth.locks = false) (hn : σ.1 0 7 = nI n) (hn10 : n ≤ 10) (hN : 32 + 4 * n ≤ N) (hd : σ.1 0 6 = nI d) (hR : ∀ k, k < n → σ.2.2 5 k = some (32 + 4 * k)) (hB : ∀ k x, σ.2.2 6 k = some x → x < 32 + 4 * n) : ∀ (fu : Nat) (i : Nat) (z : Nat) (f : Nat → Nat) (rr : Nat → Nat → Option Nat), (n + 1 ≤ i + fu) → (i ≤ n) → (z ≤ i) → ((∀ j, j ≠ 6 → rr j = σ.2.2 j)) → ((∀ k, k < z → rr 6 k = some (32 + 4 * f k))) → (LSo σ d f z i) → ((∀ k x, rr 6 k = some x → x < 32 + 4 * n)) → ∀ (H : Heap) (locs : List Loc), wI g α N (wA α N sz) s.heap H locs (σ.1, σ.2.1, rr) → ∀ ls : Array Slot, lv_has ls 3 [(0, .ref (α 0)), (1, .int (nI z)), (2, .int (nI i))] → W p l e ({ frames := 2, cells := 0, slots := 0, locals := 46 } : Room) s m args below meth c H locs 0 0 (MQ below (va_Qi (fun r τ => ∃ (f : Nat → Nat) (z : Nat) (rr : Nat → Nat → Option Nat), r = nI z ∧ τ = (σ.1, σ.2.1, rr) ∧ z ≤ n ∧ (∀ j, j ≠ 6 → rr j = σ.2.2 j) ∧ (∀ k, k < z → rr 6 k = some (32 + 4 * f k)) ∧ LSo σ d f z n ∧ (∀ k x, rr 6 k = some x → x < 32 + 4 * n)) (wB g α N) (wA α N sz)) args s 0 0 (wA α N sz)) (F0 m 4 ls []) := by
  have hA : ∀ q, s.heap.size ≤ q → wA α N sz q := fun q h => Or.inr (by omega)
  have hx := X.1.1
  have hb := X.1.2.1
  intro fu
  induction fu with
  | zero =>
    intro i z f rr hfu hi hzi hro hln hls hB2
    exact absurd hfu (by omega)
  | succ fu ih =>
    intro i z f rr hfu hi hzi hro hln hls hB2 H locs I ls hl
    refine lv_iload_n hx hb dX4_lineUp_4 rfl (lv_at hl 2 rfl) ?_
    refine lv_aload_n hx hb dX4_lineUp_5 rfl (lv_at hl 0 rfl) ?_
    refine fg4_7 X I (by omega) kfX4_47 dX4_lineUp_6 ?_
    refine w_eqi (y := nI n) hn ?_
    refine lv_icmp_ge (tgt := 56) hx hb dX4_lineUp_9 (by decide) (fun c_9 => ?_) (fun c_9 => ?_)
    ·
      have e : i = n := by have := nI_le' c_9 (by omega) (by omega); omega
      refine lv_iload_n hx hb dX4_lineUp_56 rfl (lv_at hl 1 rfl) ?_
      exact w_iret X I hr hlk (⟨f, z, rr, rfl, rfl, by omega, hro, hln, e ▸ hls, hB2⟩) dX4_lineUp_57
    ·
      have hlt : i < n := by
        rcases Nat.lt_or_ge i n with q | q
        · exact q
        · exact absurd (nI_le q (by omega)) c_9
      refine lv_aload_n hx hb dX4_lineUp_12 rfl (lv_at hl 0 rfl) ?_
      refine fg4_2 X I (by omega) kfX4_22 dX4_lineUp_13 ?_
      refine lv_iload_n hx hb dX4_lineUp_16 rfl (lv_at hl 2 rfl) ?_
      refine w_ldq X I 5 (by omega) (n := 10) (k := i) (fun _ _ _ => rfl) rfl (by omega) (by decide) ((congrFun (hro 5 (by decide)) i).trans (hR i hlt)) dX4_lineUp_17 ?_
      refine w_vSi X I (32 + 4 * i) (by omega) (wc_ship g α i _ _ _) rfl (As := []) (rest := []) (ctX3_isLoaded l g α N (σ.1, σ.2.1, rr) i (by omega)) (wM_V kmX4_119 ki_X3_isLoaded ks_X3_isLoaded kn_X3 kc_X3_isLoaded) rfl rfl (n := 0) (by decide +kernel) rfl ⟨by decide, by decide⟩ hl.1 rfl (Nat.le_of_ble_eq_true rfl) ⟨Nat.zero_le _, Nat.zero_le _⟩ dX4_lineUp_18 (fun r_18 q_18 => ?_)
      by_cases p_18 : ¬ σ.1 (32 + 4 * i) 9 = (-9)
      ·
        obtain rfl : r_18 = 1 := Eq.trans q_18 (if_pos p_18)
        refine lv_if_ne (tgt := 50) hx hb dX4_lineUp_21 (by decide) (fun _ => ?_) (fun cc => absurd cc (by decide))
        refine lv_iinc (v := nI (i + 1)) (lv' := [(2, .int (nI (i + 1))), (0, .ref (α 0)), (1, .int (nI z))]) hx hb dX4_lineUp_50 hl (k := 2) rfl (nI_1 _) (by decide) rfl (fun ls hl => ?_)
        refine lv_goto (tgt := 4) hx hb dX4_lineUp_53 (by decide) ?_
        exact ih (i + 1) z f rr (by omega) (by omega) (by omega) hro hln (LSo_skip hls (fun q => p_18 q.1)) hB2 _ _ I ls (lv_sub hl [1, 2, 0] rfl)
      ·
        obtain rfl : r_18 = 0 := Eq.trans q_18 (if_neg p_18)
        refine lv_if_ne (tgt := 50) hx hb dX4_lineUp_21 (by decide) (fun cc => absurd cc (by decide)) (fun _ => ?_)
        refine lv_aload_n hx hb dX4_lineUp_24 rfl (lv_at hl 0 rfl) ?_
        refine fg4_2 X I (by omega) kfX4_22 dX4_lineUp_25 ?_
        refine lv_iload_n hx hb dX4_lineUp_28 rfl (lv_at hl 2 rfl) ?_
        refine w_ldq X I 5 (by omega) (n := 10) (k := i) (fun _ _ _ => rfl) rfl (by omega) (by decide) ((congrFun (hro 5 (by decide)) i).trans (hR i hlt)) dX4_lineUp_29 ?_
        refine w_vSi X I (32 + 4 * i) (by omega) (wc_ship g α i _ _ _) rfl (As := []) (rest := []) (ctX3_isDry l g α N (σ.1, σ.2.1, rr) i (by omega)) (wM_V kmX4_210 ki_X3_isDry ks_X3_isDry kn_X3 kc_X3_isDry) rfl rfl (n := 0) (by decide +kernel) rfl ⟨by decide, by decide⟩ hl.1 rfl (Nat.le_of_ble_eq_true rfl) ⟨Nat.zero_le _, Nat.zero_le _⟩ dX4_lineUp_30 (fun r_30 q_30 => ?_)
        by_cases p_30 : σ.1 (32 + 4 * i) 9 = (-9) ∧ σ.1 (32 + 4 * i) 8 = 0
        ·
          obtain rfl : r_30 = 1 := Eq.trans q_30 (if_pos p_30)
          refine lv_if_ne (tgt := 50) hx hb dX4_lineUp_33 (by decide) (fun _ => ?_) (fun cc => absurd cc (by decide))
          refine lv_iinc (v := nI (i + 1)) (lv' := [(2, .int (nI (i + 1))), (0, .ref (α 0)), (1, .int (nI z))]) hx hb dX4_lineUp_50 hl (k := 2) rfl (nI_1 _) (by decide) rfl (fun ls hl => ?_)
          refine lv_goto (tgt := 4) hx hb dX4_lineUp_53 (by decide) ?_
          exact ih (i + 1) z f rr (by omega) (by omega) (by omega) hro hln (LSo_skip hls (fun q => q.2 p_30.2)) hB2 _ _ I ls (lv_sub hl [1, 2, 0] rfl)
        ·
          obtain rfl : r_30 = 0 := Eq.trans q_30 (if_neg p_30)
          refine lv_if_ne (tgt := 50) hx hb dX4_lineUp_33 (by decide) (fun cc => absurd cc (by decide)) (fun _ => ?_)
          refine lv_aload_n hx hb dX4_lineUp_36 rfl (lv_at hl 0 rfl) ?_
          refine lv_aload_n hx hb dX4_lineUp_37 rfl (lv_at hl 0 rfl) ?_
          refine fg4_2 X I (by omega) kfX4_22 dX4_lineUp_38 ?_
          refine lv_iload_n hx hb dX4_lineUp_41 rfl (lv_at hl 2 rfl) ?_
          refine w_ldq X I 5 (by omega) (n := 10) (k := i) (fun _ _ _ => rfl) rfl (by omega) (by decide) ((congrFun (hro 5 (by decide)) i).trans (hR i hlt)) dX4_lineUp_42 ?_
          refine lv_iload_n hx hb dX4_lineUp_43 rfl (lv_at hl 1 rfl) ?_
          refine w_vv X I hA 0 (by omega) rfl rfl (As := [.ref (α (32 + 4 * i)), .int (nI z)]) (rest := []) (ctX4_standInLine l g α N (σ.1, σ.2.1, rr) _ i z n d f hN hd hlt (by omega) (fun k hk => ⟨by have := (hls.1 k hk).1; omega, hln k hk⟩) hB2) (wM_V kmX4_213 ki_X4_standInLine ks_X4_standInLine kn_X4 kc_X4_standInLine) rfl rfl (n := 2) (by decide +kernel) rfl ⟨by decide, by decide⟩ hl.1 rfl (Nat.le_of_ble_eq_true rfl) ⟨Nat.zero_le _, Nat.zero_le _⟩ dX4_lineUp_44 (fun τ_44 H locs q_44 I => ?_)
          obtain ⟨p, rr2, rfl, hp, hg1, hg2, hl2, hro2, hb2⟩ := q_44
          refine lv_iinc (v := nI (z + 1)) (lv' := [(1, .int (nI (z + 1))), (0, .ref (α 0)), (2, .int (nI i))]) hx hb dX4_lineUp_47 hl (k := 1) rfl (nI_1 _) (by decide) rfl (fun ls hl => ?_)
          refine lv_iinc (v := nI (i + 1)) (lv' := [(2, .int (nI (i + 1))), (1, .int (nI (z + 1))), (0, .ref (α 0))]) hx hb dX4_lineUp_50 hl (k := 2) rfl (nI_1 _) (by decide) rfl (fun ls hl => ?_)
          refine lv_goto (tgt := 4) hx hb dX4_lineUp_53 (by decide) ?_
          exact ih (i + 1) (z + 1) (insF f i p) rr2 (by omega) (by omega) (by omega) (fun j hj => (hro2 j hj).trans (hro j hj)) hl2 (LSo_ins hls ⟨Classical.not_not.mp p_18, fun q => p_30 ⟨Classical.not_not.mp p_18, q⟩⟩ hp hg1 hg2) hb2 _ _ I ls (lv_sub hl [2, 1, 0] rfl)
set_option maxHeartbeats 1000000 in
set_option maxRecDepth 100000 in
theorem ctX4_lineUp (l : Launch) (g : wG) (α : Nat → Nat) (N : Nat) (σ : wS) (sz : Nat) (n d : Nat) (hn : σ.1 0 7 = nI n) (hn10 : n ≤ 10) (hN : 32 + 4 * n ≤ N) (hd : σ.1 0 6 = nI d) (hR : ∀ k, k < n → σ.2.2 5 k = some (32 + 4 * k)) (hB : ∀ k x, σ.2.2 6 k = some x → x < 32 + 4 * n) : Met l yX4_lineUp (wM yX4_lineUp cX4_lineUp 3 (some FieldType.int)) ({ frames := 2, cells := 0, slots := 0, locals := 46 } : Room) (wPs g α N sz σ [.ref (α 0)]) (va_Qi (fun r τ => ∃ (f : Nat → Nat) (z : Nat) (rr : Nat → Nat → Option Nat), r = nI z ∧ τ = (σ.1, σ.2.1, rr) ∧ z ≤ n ∧ (∀ j, j ≠ 6 → rr j = σ.2.2 j) ∧ (∀ k, k < z → rr 6 k = some (32 + 4 * f k)) ∧ LSo σ d f z n ∧ (∀ k x, rr 6 k = some x → x < 32 + 4 * n)) (wB g α N) (wA α N sz)) 0 0 (wA α N sz) := by
  refine w_enter (by decide) (Nat.le_of_ble_eq_true rfl) (fun p e s m args below meth c hsz X I hr hlk ls hl => ?_)
  have hA : ∀ q, s.heap.size ≤ q → wA α N sz q := fun q h => Or.inr (by omega)
  have hx := X.1.1
  have hb := X.1.2.1
  have hl : lv_has ls 3 [(0, .ref (α 0))] := hl
  refine lv_iconst (v := 0) hx hb dX4_lineUp_0 (by decide) ?_
  refine lv_istore_n (lv' := [(1, .int 0), (0, .ref (α 0))]) hx hb dX4_lineUp_1 rfl hl (by decide) rfl (fun ls hl => ?_)
  refine lv_iconst (v := 0) hx hb dX4_lineUp_2 (by decide) ?_
  refine lv_istore_n (lv' := [(2, .int 0), (1, .int 0), (0, .ref (α 0))]) hx hb dX4_lineUp_3 rfl hl (by decide) rfl (fun ls hl => ?_)
  exact lpX4_lineUp_4 n d X hsz hr hlk hn hn10 hN hd hR hB  (n + 1) 0 0 (fun _ => 0) σ.2.2 (by omega) (by omega) (by omega) (fun _ _ => rfl) (fun k hk => absurd hk (by omega)) (LSo_0 _ _ _) hB _ _ I ls (lv_sub hl [2, 1, 0] rfl)
end
section
variable {l : Launch} {g : wG} {α : Nat → Nat} {N : Nat} {σ : wS} {p : Program} {e : Env} {s : State} {m : MethodId} {args : Array Value} {below : List Frame} {meth : Method} {c : Code}
set_option maxHeartbeats 1000000 in
set_option maxRecDepth 100000 in
theorem lpX4_loadLine_4 {sz : Nat} (z n d ly : Nat) (f : Nat → Nat) (X : wX p s m args c cX4_loadLine 6 RX4 g) (hsz : s.heap.size = sz) (hr : meth.sig.returnType = (some FieldType.int)) (hlk : meth.locks = false) (hN : 32 + 4 * n ≤ N) (hd : σ.1 0 6 = nI d) (hd200 : d < 200) (hz : σ.1 2 2 = nI ly) (hly : ly ≤ 6) (hz10 : z ≤ 10) (hln : ∀ k, k < z → f k < n ∧ σ.2.2 6 k = some (32 + 4 * f k)) : ∀ (fu : Nat) (k : Nat) (acc : Int32) (τ : wS), (z + 1 ≤ k + fu) → (k ≤ z) → (τ = (ldS σ f (σ.1 1 d) d ly k).1) → (acc = (ldS σ f (σ.1 1 d) d ly k).2) → ∀ (H : Heap) (locs : List Loc), wI g α N (wA α N sz) s.heap H locs τ → ∀ ls : Array Slot, lv_has ls 6 [(0, .ref (α 0)), (1, .int (nI z)), (2, .int acc), (3, .int (nI k))] → W p l e ({ frames := 2, cells := 0, slots := 0, locals := 55 } : Room) s m args below meth c H locs 0 0 (MQ below (va_Qi (fun r τ => r = (ldS σ f (σ.1 1 d) d ly z).2 ∧ τ = (ldS σ f (σ.1 1 d) d ly z).1) (wB g α N) (wA α N sz)) args s 0 0 (wA α N sz)) (F0 m 4 ls []) := by
  have hA : ∀ q, s.heap.size ≤ q → wA α N sz q := fun q h => Or.inr (by omega)
  have hx := X.1.1
  have hb := X.1.2.1
  intro fu
  induction fu with
  | zero =>
    intro k acc τ hfu hk hτ ha
    exact absurd hfu (by omega)
  | succ fu ih =>
    intro k acc τ hfu hk hτ ha H locs I ls hl
    have h06 : τ.1 0 6 = nI d := by rw [hτ]; exact (ldS_o σ f (σ.1 1 d) d ly (by decide) (by decide) k).trans hd
    have h1d : τ.1 1 d = σ.1 1 d := by rw [hτ]; exact ldS_o σ f (σ.1 1 d) d ly (by decide) (by decide) k
    have h22 : τ.1 2 2 = nI ly := by rw [hτ]; exact (ldS_o σ f (σ.1 1 d) d ly (by decide) (by decide) k).trans hz
    have hT2 : τ.2 = σ.2 := by rw [hτ]; exact ldS_2 σ f (σ.1 1 d) d ly k
    refine lv_iload_n hx hb dX4_loadLine_4 rfl (lv_at hl 3 rfl) ?_
    refine lv_iload_n hx hb dX4_loadLine_5 rfl (lv_at hl 1 rfl) ?_
    refine lv_icmp_ge (tgt := 66) hx hb dX4_loadLine_6 (by decide) (fun c_6 => ?_) (fun c_6 => ?_)
    ·
      have e : k = z := by have := nI_le' c_6 (by omega) (by omega); omega
      refine lv_iload_n hx hb dX4_loadLine_66 rfl (lv_at hl 2 rfl) ?_
      exact w_iret X I hr hlk (⟨by rw [ha, e], by rw [hτ, e]⟩) dX4_loadLine_67
    ·
      have hlt : k < z := by
        rcases Nat.lt_or_ge k z with q | q
        · exact q
        · exact absurd (nI_le q (by omega)) c_6
      have hfk := hln k hlt
      have hfn := hfk.1
      refine lv_aload_n hx hb dX4_loadLine_9 rfl (lv_at hl 0 rfl) ?_
      refine fg4_3 X I (by omega) kfX4_26 dX4_loadLine_10 ?_
      refine lv_iload_n hx hb dX4_loadLine_13 rfl (lv_at hl 3 rfl) ?_
      refine w_ldq X I 6 (by omega) (n := 10) (k := k) (fun _ _ _ => rfl) rfl (by omega) (by decide) (by rw [hT2]; exact hfk.2) dX4_loadLine_14 ?_
      refine lv_astore (lv' := [(4, .ref (α (32 + 4 * (f k)))), (0, .ref (α 0)), (1, .int (nI z)), (2, .int acc), (3, .int (nI k))]) hx hb dX4_loadLine_15 hl (by decide) rfl (fun ls hl => ?_)
      refine lv_aload_n hx hb dX4_loadLine_17 rfl (lv_at hl 1 rfl) ?_
      refine fg4_1 X I (by omega) kfX4_16 dX4_loadLine_18 ?_
      refine lv_aload_n hx hb dX4_loadLine_21 rfl (lv_at hl 1 rfl) ?_
      refine lv_iload_n hx hb dX4_loadLine_22 rfl (lv_at hl 4 rfl) ?_
      refine w_vSi X I 0 (by omega) rfl rfl (As := [.int (nI k)]) (rest := [.ref (α 2)]) (ctX4_tonsAt l g α N τ k d (by omega) h06 (by omega)) (wM_V kmX4_217 ki_X4_tonsAt ks_X4_tonsAt kn_X4 kc_X4_tonsAt) rfl rfl (n := 1) (by decide +kernel) rfl ⟨by decide, by decide⟩ hl.1 rfl (Nat.le_of_ble_eq_true rfl) ⟨Nat.zero_le _, Nat.zero_le _⟩ dX4_loadLine_23 (fun r_23 q_23 => ?_)
      replace q_23 : r_23 = taF (τ.1 1 d) k := q_23
      subst q_23
      refine w_eqi (y := taF (σ.1 1 d) k) (by rw [h1d]) ?_
      refine lv_aload hx hb dX4_loadLine_26 (lv_at hl 0 rfl) ?_
      refine fg3_6 X I (f k) (by omega) kfX4_98 dX4_loadLine_28 ?_
      refine va_mmin hx hb (X.1.2.2.1.trans hl.1.symm) X.1.2.2.2.1 (X.1.2.2.2.2 _ kmX4_123) (X.1.2.2.2.2 _ kt_Math_min) (X.1.2.2.2.2 _ kn_Math) (X.1.2.2.2.2 _ kc_Math_min) (by decide) (Nat.le_of_ble_eq_true rfl) (Nat.zero_le _) (Nat.zero_le _) dX4_loadLine_31 ?_
      refine w_eqi (y := mnW τ (f k) (taF (σ.1 1 d) k)) rfl ?_
      refine lv_aload hx hb dX4_loadLine_34 (lv_at hl 0 rfl) ?_
      refine fg3_3 X I (f k) (by omega) kfX4_109 dX4_loadLine_36 ?_
      refine w_vi X I hA 2 (by omega) rfl rfl (As := [.int (mnW τ (f k) (taF (σ.1 1 d) k)), .ref (α (33 + 4 * (f k)))]) (rest := []) (ctX1_dig l g α N τ _ (f k) ly _ (by omega) h22 hly) (wM_V kmX4_220 ki_X1_dig ks_X1_dig kn_X1 kc_X1_dig) rfl rfl (n := 2) (by decide +kernel) rfl ⟨by decide, by decide⟩ hl.1 rfl (Nat.le_of_ble_eq_true rfl) ⟨Nat.zero_le _, Nat.zero_le _⟩ dX4_loadLine_39 (fun r_39 τ_39 H locs q_39 I => ?_)
      obtain ⟨rfl, rfl⟩ := q_39
      refine lv_istore (lv' := [(5, .int ((dgS τ (f k) (mnW τ (f k) (taF (σ.1 1 d) k)) ly).2)), (4, .ref (α (32 + 4 * (f k)))), (0, .ref (α 0)), (1, .int (nI z)), (2, .int acc), (3, .int (nI k))]) hx hb dX4_loadLine_42 hl (by decide) rfl (fun ls hl => ?_)
      refine lv_aload hx hb dX4_loadLine_44 (lv_at hl 1 rfl) ?_
      refine lv_iload hx hb dX4_loadLine_46 (lv_at hl 0 rfl) ?_
      refine lv_aload_n hx hb dX4_loadLine_48 rfl (lv_at hl 2 rfl) ?_
      refine fg4_6 X I (by omega) kfX4_43 dX4_loadLine_49 ?_
      refine w_eqi (y := nI d) ((dgS_o _ _ _ (by decide) (by omega) _).trans h06) ?_
      refine w_vv X I hA (32 + 4 * (f k)) (by omega) (wc_ship g α (f k) _ _ _) rfl (As := [.int ((dgS τ (f k) (mnW τ (f k) (taF (σ.1 1 d) k)) ly).2), .int (nI d)]) (rest := []) (ctX3_take l g α N ((dgS τ (f k) (mnW τ (f k) (taF (σ.1 1 d) k)) ly).1) _ (f k) d _ (by omega) hd200) (wM_V kmX4_224 ki_X3_take ks_X3_take kn_X3 kc_X3_take) rfl rfl (n := 2) (by decide +kernel) rfl ⟨by decide, by decide⟩ hl.1 rfl (Nat.le_of_ble_eq_true rfl) ⟨Nat.zero_le _, Nat.zero_le _⟩ dX4_loadLine_52 (fun τ_52 H locs q_52 I => ?_)
      obtain rfl := q_52
      refine lv_iload_n hx hb dX4_loadLine_55 rfl (lv_at hl 4 rfl) ?_
      refine lv_iload hx hb dX4_loadLine_56 (lv_at hl 0 rfl) ?_
      refine lv_iadd hx hb dX4_loadLine_58 ?_
      refine lv_istore_n (lv' := [(2, .int (acc + ((dgS τ (f k) (mnW τ (f k) (taF (σ.1 1 d) k)) ly).2))), (5, .int ((dgS τ (f k) (mnW τ (f k) (taF (σ.1 1 d) k)) ly).2)), (4, .ref (α (32 + 4 * (f k)))), (0, .ref (α 0)), (1, .int (nI z)), (3, .int (nI k))]) hx hb dX4_loadLine_59 rfl hl (by decide) rfl (fun ls hl => ?_)
      refine lv_iinc (v := nI (k + 1)) (lv' := [(3, .int (nI (k + 1))), (2, .int (acc + ((dgS τ (f k) (mnW τ (f k) (taF (σ.1 1 d) k)) ly).2))), (5, .int ((dgS τ (f k) (mnW τ (f k) (taF (σ.1 1 d) k)) ly).2)), (4, .ref (α (32 + 4 * (f k)))), (0, .ref (α 0)), (1, .int (nI z))]) hx hb dX4_loadLine_60 hl (k := 5) rfl (nI_1 _) (by decide) rfl (fun ls hl => ?_)
      refine lv_goto (tgt := 4) hx hb dX4_loadLine_63 (by decide) ?_
      exact ih (k + 1) (acc + ((dgS τ (f k) (mnW τ (f k) (taF (σ.1 1 d) k)) ly).2)) (tkF (dgS τ (f k) (mnW τ (f k) (taF (σ.1 1 d) k)) ly).1 (f k) (dgS τ (f k) (mnW τ (f k) (taF (σ.1 1 d) k)) ly).2 d) (by omega) (by omega) (by rw [ldS, ← hτ]; rfl) (by rw [ldS, ← hτ, ← ha]; rfl) _ _ I ls (lv_sub hl [4, 5, 1, 0] rfl)
set_option maxHeartbeats 1000000 in
set_option maxRecDepth 100000 in
theorem ctX4_loadLine (l : Launch) (g : wG) (α : Nat → Nat) (N : Nat) (σ : wS) (sz : Nat) (z n d ly : Nat) (f : Nat → Nat) (hN : 32 + 4 * n ≤ N) (hd : σ.1 0 6 = nI d) (hd200 : d < 200) (hz : σ.1 2 2 = nI ly) (hly : ly ≤ 6) (hz10 : z ≤ 10) (hln : ∀ k, k < z → f k < n ∧ σ.2.2 6 k = some (32 + 4 * f k)) : Met l yX4_loadLine (wM yX4_loadLine cX4_loadLine 6 (some FieldType.int)) ({ frames := 2, cells := 0, slots := 0, locals := 55 } : Room) (wPs g α N sz σ [.ref (α 0), .int (nI z)]) (va_Qi (fun r τ => r = (ldS σ f (σ.1 1 d) d ly z).2 ∧ τ = (ldS σ f (σ.1 1 d) d ly z).1) (wB g α N) (wA α N sz)) 0 0 (wA α N sz) := by
  refine w_enter (by decide) (Nat.le_of_ble_eq_true rfl) (fun p e s m args below meth c hsz X I hr hlk ls hl => ?_)
  have hA : ∀ q, s.heap.size ≤ q → wA α N sz q := fun q h => Or.inr (by omega)
  have hx := X.1.1
  have hb := X.1.2.1
  have hl : lv_has ls 6 [(0, .ref (α 0)), (1, .int (nI z))] := hl
  refine lv_iconst (v := 0) hx hb dX4_loadLine_0 (by decide) ?_
  refine lv_istore_n (lv' := [(2, .int 0), (0, .ref (α 0)), (1, .int (nI z))]) hx hb dX4_loadLine_1 rfl hl (by decide) rfl (fun ls hl => ?_)
  refine lv_iconst (v := 0) hx hb dX4_loadLine_2 (by decide) ?_
  refine lv_istore_n (lv' := [(3, .int 0), (2, .int 0), (0, .ref (α 0)), (1, .int (nI z))]) hx hb dX4_loadLine_3 rfl hl (by decide) rfl (fun ls hl => ?_)
  exact lpX4_loadLine_4 z n d ly f X hsz hr hlk hN hd hd200 hz hly hz10 hln  (z + 1) 0 0 σ (by omega) (by omega) rfl rfl _ _ I ls (lv_sub hl [2, 3, 1, 0] rfl)
end
section
variable {l : Launch} {g : wG} {α : Nat → Nat} {N : Nat} {σ : wS} {p : Program} {e : Env} {s : State} {m : MethodId} {args : Array Value} {below : List Frame} {meth : Method} {c : Code}
set_option maxHeartbeats 1000000 in
set_option maxRecDepth 100000 in
theorem lpX4_letOneDayGo_2 {sz : Nat} (n d ly : Nat) (X : wX p s m args c cX4_letOneDayGo 2 RX4 g) (hsz : s.heap.size = sz) (hr : meth.sig.returnType = (none : Option FieldType)) (hlk : meth.locks = false) (hn : σ.1 0 7 = nI n) (hn10 : n ≤ 10) (hN : 32 + 4 * n ≤ N) (hd : σ.1 0 6 = nI d) (hd200 : d < 200) (hz : σ.1 2 2 = nI ly) (hly : ly ≤ 6) (hR : ∀ k, k < n → σ.2.2 5 k = some (32 + 4 * k)) (hB : ∀ k x, σ.2.2 6 k = some x → x < 32 + 4 * n) : ∀ (fu : Nat) (k : Nat) (τ : wS), (n + 1 ≤ k + fu) → (k ≤ n) → (τ = drS σ d k) → ∀ (H : Heap) (locs : List Loc), wI g α N (wA α N sz) s.heap H locs τ → ∀ ls : Array Slot, lv_has ls 2 [(0, .ref (α 0)), (1, .int (nI k))] → W p l e ({ frames := 3, cells := 0, slots := 0, locals := 80 } : Room) s m args below meth c H locs 0 0 (MQ below (va_Qv (fun τ => dX σ τ n d ly) (wB g α N) (wA α N sz)) args s 0 0 (wA α N sz)) (F0 m 2 ls []) := by
  have hA : ∀ q, s.heap.size ≤ q → wA α N sz q := fun q h => Or.inr (by omega)
  have hx := X.1.1
  have hb := X.1.2.1
  intro fu
  induction fu with
  | zero =>
    intro k τ hfu hk hτ
    exact absurd hfu (by omega)
  | succ fu ih =>
    intro k τ hfu hk hτ H locs I ls hl
    have h07 : τ.1 0 7 = nI n := by rw [hτ]; exact (drS_o σ d (by decide) k).trans hn
    have h06 : τ.1 0 6 = nI d := by rw [hτ]; exact (drS_o σ d (by decide) k).trans hd
    have hT2 : τ.2 = σ.2 := by rw [hτ]; exact drS_2 σ d k
    refine lv_iload_n hx hb dX4_letOneDayGo_2 rfl (lv_at hl 1 rfl) ?_
    refine lv_aload_n hx hb dX4_letOneDayGo_3 rfl (lv_at hl 0 rfl) ?_
    refine fg4_7 X I (by omega) kfX4_47 dX4_letOneDayGo_4 ?_
    refine w_eqi (y := nI n) h07 ?_
    refine lv_icmp_ge (tgt := 29) hx hb dX4_letOneDayGo_7 (by decide) (fun c_7 => ?_) (fun c_7 => ?_)
    ·
      have e : k = n := by have := nI_le' c_7 (by omega) (by omega); omega
      rw [e] at hτ
      subst hτ
      have hR1 : ∀ j, j < n → (drS σ d n).2.2 5 j = some (32 + 4 * j) := fun j hj => by rw [hT2]; exact hR j hj
      refine lv_aload_n hx hb dX4_letOneDayGo_29 rfl (lv_at hl 0 rfl) ?_
      refine lv_aload_n hx hb dX4_letOneDayGo_30 rfl (lv_at hl 0 rfl) ?_
      refine w_vi X I hA 0 (by omega) rfl rfl (As := []) (rest := [.ref (α 0)]) (ctX4_lineUp l g α N (drS σ d n) _ n d h07 hn10 hN h06 hR1 (by rw [hT2]; exact hB)) (wM_V kmX4_197 ki_X4_lineUp ks_X4_lineUp kn_X4 kc_X4_lineUp) rfl rfl (n := 0) (by decide +kernel) rfl ⟨by decide, by decide⟩ hl.1 rfl (Nat.le_of_ble_eq_true rfl) ⟨Nat.zero_le _, Nat.zero_le _⟩ dX4_letOneDayGo_31 (fun r_31 τ_31 H locs q_31 I => ?_)
      obtain ⟨f, z, rr, rfl, rfl, hzn, hro, hln, hls, hbb⟩ := q_31
      refine w_vi X I hA 0 (by omega) rfl rfl (As := [.int (nI z)]) (rest := []) (ctX4_loadLine l g α N ((drS σ d n).1, (drS σ d n).2.1, rr) _ z n d ly f hN h06 hd200 ((drS_o σ d (by decide) n).trans hz) hly (by omega) (fun j hj => ⟨(hls.1 j hj).1, hln j hj⟩)) (wM_V kmX4_200 ki_X4_loadLine ks_X4_loadLine kn_X4 kc_X4_loadLine) rfl rfl (n := 1) (by decide +kernel) rfl ⟨by decide, by decide⟩ hl.1 rfl (Nat.le_of_ble_eq_true rfl) ⟨Nat.zero_le _, Nat.zero_le _⟩ dX4_letOneDayGo_34 (fun r_34 τ_34 H locs q_34 I => ?_)
      obtain ⟨rfl, rfl⟩ := q_34
      refine lv_istore_n (lv' := [(1, .int ((lnL σ f z rr n d ly).2)), (0, .ref (α 0))]) hx hb dX4_letOneDayGo_37 rfl hl (by decide) rfl (fun ls hl => ?_)
      refine lv_aload_n hx hb dX4_letOneDayGo_38 rfl (lv_at hl 1 rfl) ?_
      refine fg4_5 X I (by omega) kfX4_39 dX4_letOneDayGo_39 ?_
      refine lv_aload_n hx hb dX4_letOneDayGo_42 rfl (lv_at hl 1 rfl) ?_
      refine fg4_6 X I (by omega) kfX4_43 dX4_letOneDayGo_43 ?_
      refine w_eqi (y := nI d) ((lnL_o σ f z rr n d ly (by decide) (by decide)).trans hd) ?_
      refine lv_aload_n hx hb dX4_letOneDayGo_46 rfl (lv_at hl 1 rfl) ?_
      refine w_vSi X I 0 (by omega) rfl rfl (As := []) (rest := [.int (nI d), .ref (α 10)]) (ctX4_tonsWanted l g α N ((lnL σ f z rr n d ly).1) n ((lnL_o σ f z rr n d ly (by decide) (by decide)).trans hn) hn10 hN (fun j hj => by rw [lnL_2]; exact (congrFun (hro 5 (by decide)) j).trans (hR1 j hj))) (wM_V kmX4_203 ki_X4_tonsWanted ks_X4_tonsWanted kn_X4 kc_X4_tonsWanted) rfl rfl (n := 0) (by decide +kernel) rfl ⟨by decide, by decide⟩ hl.1 rfl (Nat.le_of_ble_eq_true rfl) ⟨Nat.zero_le _, Nat.zero_le _⟩ dX4_letOneDayGo_47 (fun r_47 q_47 => ?_)
      replace q_47 : r_47 = smI (fun i => (lnL σ f z rr n d ly).1.1 (32 + 4 * i) 6) n := q_47
      subst q_47
      refine lv_iload_n hx hb dX4_letOneDayGo_50 rfl (lv_at hl 0 rfl) ?_
      refine lv_aload_n hx hb dX4_letOneDayGo_51 rfl (lv_at hl 1 rfl) ?_
      refine fg4_6 X I (by omega) kfX4_43 dX4_letOneDayGo_52 ?_
      refine w_eqi (y := nI d) ((lnL_o σ f z rr n d ly (by decide) (by decide)).trans hd) ?_
      refine lv_aload_n hx hb dX4_letOneDayGo_55 rfl (lv_at hl 1 rfl) ?_
      refine fg4_8 X I (by omega) kfX4_50 dX4_letOneDayGo_56 ?_
      refine w_eqi (y := σ.1 0 8) (lnL_o σ f z rr n d ly (by decide) (by decide)) ?_
      refine lv_iadd hx hb dX4_letOneDayGo_59 ?_
      refine w_vv X I hA 10 (by omega) rfl rfl (As := [.int (nI d), .int (smI (fun i => (lnL σ f z rr n d ly).1.1 (32 + 4 * i) 6) n), .int ((lnL σ f z rr n d ly).2), .int ((nI d) + (σ.1 0 8))]) (rest := []) (ctX2_tell l g α N ((lnL σ f z rr n d ly).1) _ d _ _ _ (by omega) hd200) (wM_V kmX4_206 ki_X2_tell ks_X2_tell kn_X2 kc_X2_tell) rfl rfl (n := 4) (by decide +kernel) rfl ⟨by decide, by decide⟩ hl.1 rfl (Nat.le_of_ble_eq_true rfl) ⟨Nat.zero_le _, Nat.zero_le _⟩ dX4_letOneDayGo_60 (fun τ_60 H locs q_60 I => ?_)
      obtain rfl := q_60
      refine lv_aload_n hx hb dX4_letOneDayGo_63 rfl (lv_at hl 1 rfl) ?_
      refine lv_dup hx hb dX4_letOneDayGo_64 rfl ?_
      refine fg4_6 X I (by omega) kfX4_43 dX4_letOneDayGo_65 ?_
      refine w_eqi (y := ((lnL σ f z rr n d ly).1).1 0 6) (((wu_o (by decide)).trans (wu_o (by decide))).trans (wu_o (by decide))) ?_
      refine w_eqi (y := nI d) ((lnL_o σ f z rr n d ly (by decide) (by decide)).trans hd) ?_
      refine lv_iconst (v := 1) hx hb dX4_letOneDayGo_68 (by decide) ?_
      refine lv_iadd hx hb dX4_letOneDayGo_69 ?_
      refine w_eqi (y := nI (d + 1)) (nI_1 _) ?_
      refine fp4_6 X I (by omega) kfX4_43 dX4_letOneDayGo_70 (fun H locs I => ?_)
      exact w_vret X I hr hlk (⟨f, z, rr, hls, fun j hj => (hro j hj).trans (by rw [hT2]), hbb, hzn, rfl⟩) dX4_letOneDayGo_73
    ·
      have hlt : k < n := by
        rcases Nat.lt_or_ge k n with q | q
        · exact q
        · exact absurd (nI_le q (by omega)) c_7
      refine lv_aload_n hx hb dX4_letOneDayGo_10 rfl (lv_at hl 0 rfl) ?_
      refine fg4_2 X I (by omega) kfX4_22 dX4_letOneDayGo_11 ?_
      refine lv_iload_n hx hb dX4_letOneDayGo_14 rfl (lv_at hl 1 rfl) ?_
      refine w_ldq X I 5 (by omega) (n := 10) (k := k) (fun _ _ _ => rfl) rfl (by omega) (by decide) (by rw [hT2]; exact hR k hlt) dX4_letOneDayGo_15 ?_
      refine lv_aload_n hx hb dX4_letOneDayGo_16 rfl (lv_at hl 0 rfl) ?_
      refine fg4_6 X I (by omega) kfX4_43 dX4_letOneDayGo_17 ?_
      refine w_eqi (y := nI d) h06 ?_
      refine w_vv X I hA (32 + 4 * k) (by omega) (wc_ship g α k _ _ _) rfl (As := [.int (nI d)]) (rest := []) (ctX3_drink l g α N τ _ k d (by omega) hd200) (wM_V kmX4_193 ki_X3_drink ks_X3_drink kn_X3 kc_X3_drink) rfl rfl (n := 1) (by decide +kernel) rfl ⟨by decide, by decide⟩ hl.1 rfl (Nat.le_of_ble_eq_true rfl) ⟨Nat.zero_le _, Nat.zero_le _⟩ dX4_letOneDayGo_20 (fun τ2 H locs q_20 I => ?_)
      replace q_20 : τ2 = drF τ k d := q_20
      refine lv_iinc (v := nI (k + 1)) (lv' := [(1, .int (nI (k + 1))), (0, .ref (α 0))]) hx hb dX4_letOneDayGo_23 hl (k := 1) rfl (nI_1 _) (by decide) rfl (fun ls hl => ?_)
      refine lv_goto (tgt := 2) hx hb dX4_letOneDayGo_26 (by decide) ?_
      exact ih (k + 1) τ2 (by omega) (by omega) (by rw [drS, ← hτ, q_20]) _ _ I ls (lv_sub hl [1, 0] rfl)
set_option maxHeartbeats 1000000 in
set_option maxRecDepth 100000 in
theorem ctX4_letOneDayGo (l : Launch) (g : wG) (α : Nat → Nat) (N : Nat) (σ : wS) (sz : Nat) (n d ly : Nat) (hn : σ.1 0 7 = nI n) (hn10 : n ≤ 10) (hN : 32 + 4 * n ≤ N) (hd : σ.1 0 6 = nI d) (hd200 : d < 200) (hz : σ.1 2 2 = nI ly) (hly : ly ≤ 6) (hR : ∀ k, k < n → σ.2.2 5 k = some (32 + 4 * k)) (hB : ∀ k x, σ.2.2 6 k = some x → x < 32 + 4 * n) : Met l yX4_letOneDayGo (wM yX4_letOneDayGo cX4_letOneDayGo 2 (none : Option FieldType)) ({ frames := 3, cells := 0, slots := 0, locals := 80 } : Room) (wPs g α N sz σ [.ref (α 0)]) (va_Qv (fun τ => dX σ τ n d ly) (wB g α N) (wA α N sz)) 0 0 (wA α N sz) := by
  refine w_enter (by decide) (Nat.le_of_ble_eq_true rfl) (fun p e s m args below meth c hsz X I hr hlk ls hl => ?_)
  have hA : ∀ q, s.heap.size ≤ q → wA α N sz q := fun q h => Or.inr (by omega)
  have hx := X.1.1
  have hb := X.1.2.1
  have hl : lv_has ls 2 [(0, .ref (α 0))] := hl
  refine lv_iconst (v := 0) hx hb dX4_letOneDayGo_0 (by decide) ?_
  refine lv_istore_n (lv' := [(1, .int 0), (0, .ref (α 0))]) hx hb dX4_letOneDayGo_1 rfl hl (by decide) rfl (fun ls hl => ?_)
  exact lpX4_letOneDayGo_2 n d ly X hsz hr hlk hn hn10 hN hd hd200 hz hly hR hB  (n + 1) 0 σ (by omega) (by omega) rfl _ _ I ls (lv_sub hl [1, 0] rfl)
end
