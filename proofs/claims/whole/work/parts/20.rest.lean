section
variable {l : Launch} {g : wG} {α : Nat → Nat} {N : Nat} {σ : wS} {p : Program} {e : Env} {s : State} {m : MethodId} {args : Array Value} {below : List Frame} {meth : Method} {c : Code}
theorem xP_lt {bs : Nat → Int32} {dr : Nat} : ∀ {m o : Nat} {b : Bool} {tr : Nat → Int32} {q : Nat}, m ≤ dr → (xP bs dr m o b tr).1 = some q → q ≤ dr
  | 0, o, b, tr, q, _, h => by
    cases b
    · cases h
    · cases h; exact Nat.le_refl _
  | m + 1, o, b, tr, q, hm, h => by
    rw [xP] at h
    split at h
    · split at h
      · split at h
        · cases h; omega
        · exact xP_lt (by omega) h
      · cases h; omega
    · split at h
      · cases h; omega
      · exact xP_lt (by omega) h
set_option maxHeartbeats 1000000 in
set_option maxRecDepth 100000 in
theorem ctX4_charter (l : Launch) (g : wG) (α : Nat → Nat) (N : Nat) (σ : wS) (sz : Nat) (a : Int32) (n dr : Nat) (hn : σ.1 0 7 = nI n) (hn10 : n ≤ 10) (hN : 32 + 4 * n ≤ N) (hR : ∀ k, k < n → σ.2.2 5 k = some (32 + 4 * k)) (hdr : σ.1 7 2 = nI dr) (hdr30 : dr ≤ 30) : Met l yX4_charter (wM yX4_charter cX4_charter 4 (some FieldType.int)) ({ frames := 2, cells := 0, slots := 0, locals := 46 } : Room) (wPs g α N sz σ [.ref (α 0), .int a]) (va_Qi (fun r τ => ((a < 0 ∨ nI n ≤ a) ∧ r = (-1) ∧ τ = σ) ∨ (∃ k, k < n ∧ a = nI k ∧ ((dr = 0 ∧ r = (-2) ∧ τ = σ) ∨ (dr ≠ 0 ∧ ∃ tr0 tr1 : Nat → Int32, (∀ j, j < 6 → tr0 j = 0) ∧ ((∃ q, (xP (σ.1 8) dr dr 6 false tr0).1 = some q ∧ r = (-100) - nI q ∧ τ = w9 σ tr1) ∨ ((xP (σ.1 8) dr dr 6 false tr0).1 = none ∧ r = 1 ∧ (xP (σ.1 8) dr dr 6 false tr0).2 = tr1 ∧ τ = wu (wrow (w9 σ tr1) (34 + 4 * k) (va_cpy ((w9 σ tr1).1 9) ((w9 σ tr1).1 (34 + 4 * k)) 0 0 6)) 7 2 0)))))) (wB g α N) (wA α N sz)) 0 0 (wA α N sz) := by
  refine w_enter (by decide) (Nat.le_of_ble_eq_true rfl) (fun p e s m args below meth c hsz X I hr hlk ls hl => ?_)
  have hA : ∀ q, s.heap.size ≤ q → wA α N sz q := fun q h => Or.inr (by omega)
  have hx := X.1.1
  have hb := X.1.2.1
  have hl : lv_has ls 4 [(0, .ref (α 0)), (1, .int a)] := hl
  refine lv_aload_n hx hb dX4_charter_0 rfl (lv_at hl 0 rfl) ?_
  refine lv_iload_n hx hb dX4_charter_1 rfl (lv_at hl 1 rfl) ?_
  refine w_vSq X I 0 (by omega) rfl rfl (As := [.int a]) (rest := []) (ctX4_shipNumbered l g α N σ a n hn hn10 hN hR) (wM_V kmX4_78 ki_X4_shipNumbered ks_X4_shipNumbered kn_X4 kc_X4_shipNumbered) rfl rfl (n := 1) (by decide +kernel) rfl ⟨by decide, by decide⟩ hl.1 rfl (Nat.le_of_ble_eq_true rfl) ⟨Nat.zero_le _, Nat.zero_le _⟩ dX4_charter_2 (fun r_2 q_2 => ?_)
  replace q_2 : (∀ k, k < n → a = nI k → r_2 = some (α (32 + 4 * k))) ∧ ((a < 0 ∨ nI n ≤ a) → r_2 = none) := q_2
  rcases ix2 a (n := n) (by omega) with hbad | ⟨k, hk, rfl⟩
  ·
    obtain rfl : r_2 = none := q_2.2 hbad
    refine w_eqv (y := .null) rfl ?_
    refine lv_astore_nN (lv' := [(2, .null), (0, .ref (α 0)), (1, .int a)]) hx hb dX4_charter_5 rfl hl (by decide) rfl (fun ls hl => ?_)
    refine lv_aload_nN hx hb dX4_charter_6 rfl (lv_at hl 0 rfl) ?_
    refine lv_ifnonnullN hx hb dX4_charter_7 ?_
    refine lv_iconst (v := (-1)) hx hb dX4_charter_10 (by decide) ?_
    exact w_iret X I hr hlk (Or.inl ⟨hbad, rfl, rfl⟩) dX4_charter_11
  ·
    obtain rfl : r_2 = some (α (32 + 4 * k)) := q_2.1 k hk rfl
    clear q_2
    refine w_eqv (y := .ref (α (32 + 4 * k))) rfl ?_
    refine lv_astore_n (lv' := [(2, .ref (α (32 + 4 * k))), (0, .ref (α 0)), (1, .int (nI k))]) hx hb dX4_charter_5 rfl hl (by decide) rfl (fun ls hl => ?_)
    refine lv_aload_n hx hb dX4_charter_6 rfl (lv_at hl 0 rfl) ?_
    refine lv_ifnonnull (tgt := 12) hx hb dX4_charter_7 (by decide) ?_
    refine lv_aload_n hx hb dX4_charter_12 rfl (lv_at hl 1 rfl) ?_
    refine fg4_4 X I (by omega) kfX4_32 dX4_charter_13 ?_
    refine fg0_2 X I (by omega) kfX4_132 dX4_charter_16 ?_
    refine w_eqi (y := nI dr) hdr ?_
    refine lv_if_ne (tgt := 25) hx hb dX4_charter_19 (by decide) (fun c_19 => ?_) (fun c_19 => ?_)
    ·
      have hdr0 : dr ≠ 0 := fun z => c_19 (by rw [z]; rfl)
      refine lv_aload_n hx hb dX4_charter_25 rfl (lv_at hl 1 rfl) ?_
      refine fg4_4 X I (by omega) kfX4_32 dX4_charter_26 ?_
      refine w_vi X I hA 7 (by omega) rfl rfl (As := []) (rest := []) (ctX0_read l g α N σ _ dr (by omega) hdr hdr30) (wM_V kmX4_139 ki_X0_read ks_X0_read kn_X0 kc_X0_read) rfl rfl (n := 0) (by decide +kernel) rfl ⟨by decide, by decide⟩ hl.1 rfl (Nat.le_of_ble_eq_true rfl) ⟨Nat.zero_le _, Nat.zero_le _⟩ dX4_charter_29 (fun r_29 τ2 H locs q_29 I => ?_)
      obtain ⟨tr0, tr1, hz0, rfl, hre, htr⟩ := q_29
      rcases hs : (xP (σ.1 8) dr dr 6 false tr0).1 with _ | q
      ·
        obtain rfl : r_29 = (-1) := by rw [hre, hs]; rfl
        refine lv_istore_n (lv' := [(3, .int (-1)), (2, .ref (α (32 + 4 * k))), (0, .ref (α 0)), (1, .int (nI k))]) hx hb dX4_charter_32 rfl hl (by decide) rfl (fun ls hl => ?_)
        refine lv_iload_n hx hb dX4_charter_33 rfl (lv_at hl 0 rfl) ?_
        refine lv_iconst (v := (-1)) hx hb dX4_charter_34 (by decide) ?_
        refine lv_icmp_eq (tgt := 43) hx hb dX4_charter_35 (by decide) (fun _ => ?_) (fun cc => absurd cc (by decide))
        refine lv_aload_n hx hb dX4_charter_43 rfl (lv_at hl 2 rfl) ?_
        refine fg4_4 X I (by omega) kfX4_32 dX4_charter_44 ?_
        refine fg0_1 X I (by omega) kfX4_143 dX4_charter_47 ?_
        refine lv_iconst (v := 0) hx hb dX4_charter_50 (by decide) ?_
        refine lv_aload_n hx hb dX4_charter_51 rfl (lv_at hl 1 rfl) ?_
        refine fg3_4 X I k (by omega) kfX4_146 dX4_charter_52 ?_
        refine lv_iconst (v := 0) hx hb dX4_charter_55 (by decide) ?_
        refine lv_bipush (v := 6) hx hb dX4_charter_56 (by decide) ?_
        refine w_copy X I 9 (34 + 4 * k) (by omega) (by omega) (fun _ _ _ => rfl) (fun _ _ _ => wc_terms g α k _ _ _) (by decide) (by decide) kmX4_147 hl.1 (by decide) (by decide) dX4_charter_58 (fun H locs I => ?_)
        refine lv_aload_n hx hb dX4_charter_61 rfl (lv_at hl 2 rfl) ?_
        refine fg4_4 X I (by omega) kfX4_32 dX4_charter_62 ?_
        refine lv_iconst (v := 0) hx hb dX4_charter_65 (by decide) ?_
        refine fp0_2 X I (by omega) kfX4_132 dX4_charter_66 (fun H locs I => ?_)
        refine lv_iconst (v := 1) hx hb dX4_charter_69 (by decide) ?_
        exact w_iret X I hr hlk (Or.inr ⟨k, hk, rfl, Or.inr ⟨hdr0, tr0, tr1, hz0, Or.inr ⟨hs, rfl, htr hs, rfl⟩⟩⟩) dX4_charter_70
      ·
        have hq := xP_lt (by omega) hs
        obtain rfl : r_29 = nI q := by rw [hre, hs]; rfl
        refine lv_istore_n (lv' := [(3, .int (nI q)), (2, .ref (α (32 + 4 * k))), (0, .ref (α 0)), (1, .int (nI k))]) hx hb dX4_charter_32 rfl hl (by decide) rfl (fun ls hl => ?_)
        refine lv_iload_n hx hb dX4_charter_33 rfl (lv_at hl 0 rfl) ?_
        refine lv_iconst (v := (-1)) hx hb dX4_charter_34 (by decide) ?_
        refine lv_icmp_eq (tgt := 43) hx hb dX4_charter_35 (by decide) (fun cc => absurd cc (nI_neN (by omega) (by decide))) (fun _ => ?_)
        refine lv_bipush (v := (-100)) hx hb dX4_charter_38 (by decide) ?_
        refine lv_iload_n hx hb dX4_charter_40 rfl (lv_at hl 0 rfl) ?_
        refine lv_isub hx hb dX4_charter_41 ?_
        exact w_iret X I hr hlk (Or.inr ⟨k, hk, rfl, Or.inr ⟨hdr0, tr0, tr1, hz0, Or.inl ⟨q, hs, rfl, rfl⟩⟩⟩) dX4_charter_42
    ·
      refine lv_bipush (v := (-2)) hx hb dX4_charter_22 (by decide) ?_
      exact w_iret X I hr hlk (Or.inr ⟨k, hk, rfl, Or.inl ⟨by rcases Nat.eq_zero_or_pos dr with q | q; exact q; exact absurd c_19 (nI_ne0 q (by omega)), rfl, rfl⟩⟩) dX4_charter_24
end
section
variable {l : Launch} {g : wG} {α : Nat → Nat} {N : Nat} {σ : wS} {p : Program} {e : Env} {s : State} {m : MethodId} {args : Array Value} {below : List Frame} {meth : Method} {c : Code}
set_option maxHeartbeats 1000000 in
set_option maxRecDepth 100000 in
theorem lpX5_charter_43 {sz : Nat} (a : Int32) (n dr : Nat) (X : wX p s m args c cX5_charter 4 RX5 g) (hsz : s.heap.size = sz) (hr : meth.sig.returnType = (some FieldType.int)) (hlk : meth.locks = false) (hn : σ.1 14 7 = nI n) (hn10 : n ≤ 10) (hN : 32 ≤ N) (hdr : σ.1 14 21 = nI dr) (hdr30 : dr ≤ 30) : ∀ (fu : Nat) (k : Nat) (tr0 : Nat → Int32) (tr1 : Nat → Int32) (j : Nat) (τ : wS), (6 + 1 ≤ j + fu) → (k < n) → (a = nI k) → (dr ≠ 0) → ((∀ j, j < 6 → tr0 j = 0)) → ((xP (σ.1 28) dr dr 6 false tr0).1 = none) → ((xP (σ.1 28) dr dr 6 false tr0).2 = tr1) → (j ≤ 6) → (τ = cpM (w30 (wu σ 14 0 0) tr1) k j) → ∀ (H : Heap) (locs : List Loc), wI g α N (wA α N sz) s.heap H locs τ → ∀ ls : Array Slot, lv_has ls 4 [(0, .ref (α 14)), (1, .int (nI k)), (3, .int (nI j))] → W p l e ({ frames := 3, cells := 0, slots := 0, locals := 67 } : Room) s m args below meth c H locs 0 0 (MQ below (va_Qi (fun r τ => ((a < 0 ∨ nI n ≤ a) ∧ r = (-1) ∧ τ = wu σ 14 0 0) ∨ (∃ k, k < n ∧ a = nI k ∧ ((dr = 0 ∧ r = (-2) ∧ τ = wu σ 14 0 0) ∨ (dr ≠ 0 ∧ ∃ tr0 tr1 : Nat → Int32, (∀ j, j < 6 → tr0 j = 0) ∧ ((∃ q, (xP (σ.1 28) dr dr 6 false tr0).1 = some q ∧ r = (-100) - nI q ∧ τ = w30 (wu σ 14 0 0) tr1) ∨ ((xP (σ.1 28) dr dr 6 false tr0).1 = none ∧ r = 1 ∧ (xP (σ.1 28) dr dr 6 false tr0).2 = tr1 ∧ τ = wu (cpM (w30 (wu σ 14 0 0) tr1) k 6) 14 21 0)))))) (wB g α N) (wA α N sz)) args s 0 0 (wA α N sz)) (F0 m 43 ls []) := by
  have hA : ∀ q, s.heap.size ≤ q → wA α N sz q := fun q h => Or.inr (by omega)
  have hx := X.1.1
  have hb := X.1.2.1
  intro fu
  induction fu with
  | zero =>
    intro k tr0 tr1 j τ hfu hk hka hdr0 hz0 hs htr hj hτ
    exact absurd hfu (by omega)
  | succ fu ih =>
    intro k tr0 tr1 j τ hfu hk hka hdr0 hz0 hs htr hj hτ H locs I ls hl
    have h30 : τ.1 30 j = (w30 (wu σ 14 0 0) tr1).1 30 j := by rw [hτ]; exact cpM_o _ _ (by decide) j
    refine lv_iload_n hx hb dX5_charter_43 rfl (lv_at hl 2 rfl) ?_
    refine lv_bipush (v := 6) hx hb dX5_charter_44 (by decide) ?_
    refine lv_icmp_ge (tgt := 72) hx hb dX5_charter_46 (by decide) (fun c_46 => ?_) (fun c_46 => ?_)
    ·
      have e : j = 6 := by have := nI_le' (a := 6) c_46 (by decide) (by omega); omega
      refine lv_aload_n hx hb dX5_charter_72 rfl (lv_at hl 0 rfl) ?_
      refine lv_iconst (v := 0) hx hb dX5_charter_73 (by decide) ?_
      refine fp5_21 X I (by omega) kfX5_117 dX5_charter_74 (fun H locs I => ?_)
      refine lv_iconst (v := 1) hx hb dX5_charter_77 (by decide) ?_
      exact w_iret X I hr hlk (Or.inr ⟨k, hk, hka, Or.inr ⟨hdr0, tr0, tr1, hz0, Or.inr ⟨hs, rfl, htr, by rw [hτ, e]⟩⟩⟩) dX5_charter_78
    ·
      have hlt : j < 6 := Nat.lt_of_not_le (fun z => c_46 (nI_le (a := 6) z (by omega)))
      refine lv_aload_n hx hb dX5_charter_49 rfl (lv_at hl 0 rfl) ?_
      refine fg5_22 X I (by omega) kfX5_56 dX5_charter_50 ?_
      refine lv_bipush (v := 6) hx hb dX5_charter_53 (by decide) ?_
      refine lv_iload_n hx hb dX5_charter_55 rfl (lv_at hl 1 rfl) ?_
      refine lv_imul hx hb dX5_charter_56 ?_
      refine w_eqi (y := nI (6 * k)) (pk_mul 6 _) ?_
      refine lv_iload_n hx hb dX5_charter_57 rfl (lv_at hl 2 rfl) ?_
      refine lv_iadd hx hb dX5_charter_58 ?_
      refine w_eqi (y := nI (6 * k + j)) (nI_add _ _) ?_
      refine lv_aload_n hx hb dX5_charter_59 rfl (lv_at hl 0 rfl) ?_
      refine fg5_23 X I (by omega) kfX5_59 dX5_charter_60 ?_
      refine lv_iload_n hx hb dX5_charter_63 rfl (lv_at hl 2 rfl) ?_
      refine w_ld X I 30 (by omega) (n := 6) (k := j) (fun _ _ _ => rfl) rfl (by omega) (by decide) dX5_charter_64 ?_
      refine w_eqi (y := (w30 (wu σ 14 0 0) tr1).1 30 j) h30 ?_
      refine w_st X I 29 (by omega) (n := 60) (k := 6 * k + j) (fun _ _ _ => rfl) rfl (by omega) (by decide) dX5_charter_65 (fun H locs I => ?_)
      refine lv_iinc (v := nI (j + 1)) (lv' := [(3, .int (nI (j + 1))), (0, .ref (α 14)), (1, .int (nI k))]) hx hb dX5_charter_66 hl (k := 2) rfl (nI_1 _) (by decide) rfl (fun ls hl => ?_)
      refine lv_goto (tgt := 43) hx hb dX5_charter_69 (by decide) ?_
      exact ih k tr0 tr1 (j + 1) (wu τ 29 (6 * k + j) ((w30 (wu σ 14 0 0) tr1).1 30 j)) (by omega) hk hka hdr0 hz0 hs htr (by omega) (by rw [cpM, ← hτ]) _ _ I ls (lv_sub hl [1, 2, 0] rfl)
set_option maxHeartbeats 1000000 in
set_option maxRecDepth 100000 in
theorem ctX5_charter (l : Launch) (g : wG) (α : Nat → Nat) (N : Nat) (σ : wS) (sz : Nat) (a : Int32) (n dr : Nat) (hn : σ.1 14 7 = nI n) (hn10 : n ≤ 10) (hN : 32 ≤ N) (hdr : σ.1 14 21 = nI dr) (hdr30 : dr ≤ 30) : Met l yX5_charter (wM yX5_charter cX5_charter 4 (some FieldType.int)) ({ frames := 3, cells := 0, slots := 0, locals := 67 } : Room) (wPs g α N sz σ [.ref (α 14), .int a]) (va_Qi (fun r τ => ((a < 0 ∨ nI n ≤ a) ∧ r = (-1) ∧ τ = wu σ 14 0 0) ∨ (∃ k, k < n ∧ a = nI k ∧ ((dr = 0 ∧ r = (-2) ∧ τ = wu σ 14 0 0) ∨ (dr ≠ 0 ∧ ∃ tr0 tr1 : Nat → Int32, (∀ j, j < 6 → tr0 j = 0) ∧ ((∃ q, (xP (σ.1 28) dr dr 6 false tr0).1 = some q ∧ r = (-100) - nI q ∧ τ = w30 (wu σ 14 0 0) tr1) ∨ ((xP (σ.1 28) dr dr 6 false tr0).1 = none ∧ r = 1 ∧ (xP (σ.1 28) dr dr 6 false tr0).2 = tr1 ∧ τ = wu (cpM (w30 (wu σ 14 0 0) tr1) k 6) 14 21 0)))))) (wB g α N) (wA α N sz)) 0 0 (wA α N sz) := by
  refine w_enter (by decide) (Nat.le_of_ble_eq_true rfl) (fun p e s m args below meth c hsz X I hr hlk ls hl => ?_)
  have hA : ∀ q, s.heap.size ≤ q → wA α N sz q := fun q h => Or.inr (by omega)
  have hx := X.1.1
  have hb := X.1.2.1
  have hl : lv_has ls 4 [(0, .ref (α 14)), (1, .int a)] := hl
  refine lv_aload_n hx hb dX5_charter_0 rfl (lv_at hl 0 rfl) ?_
  refine lv_iconst (v := 0) hx hb dX5_charter_1 (by decide) ?_
  refine fp5_0 X I (by omega) kfX5_66 dX5_charter_2 (fun H locs I => ?_)
  refine lv_aload_n hx hb dX5_charter_5 rfl (lv_at hl 0 rfl) ?_
  refine lv_iload_n hx hb dX5_charter_6 rfl (lv_at hl 1 rfl) ?_
  refine w_vSi X I 14 (by omega) rfl rfl (As := [.int a]) (rest := []) (ctX5_isShip l g α N (wu σ 14 0 0) a n hN hn) (wM_V kmX5_82 ki_X5_isShip ks_X5_isShip kn_X5 kc_X5_isShip) rfl rfl (n := 1) (by decide +kernel) rfl ⟨by decide, by decide⟩ hl.1 rfl (Nat.le_of_ble_eq_true rfl) ⟨Nat.zero_le _, Nat.zero_le _⟩ dX5_charter_7 (fun r_7 q_7 => ?_)
  by_cases p_7 : ¬ a < 0 ∧ ¬ nI n - 1 < a
  ·
    obtain rfl : r_7 = 1 := Eq.trans q_7 (if_pos p_7)
    obtain ⟨k, hk, rfl⟩ := m1_ok (n := n) (by omega) p_7
    refine lv_if_ne (tgt := 15) hx hb dX5_charter_10 (by decide) (fun _ => ?_) (fun cc => absurd cc (by decide))
    refine lv_aload_n hx hb dX5_charter_15 rfl (lv_at hl 0 rfl) ?_
    refine fg5_21 X I (by omega) kfX5_117 dX5_charter_16 ?_
    refine w_eqi (y := σ.1 14 21) (wu_d (by decide)) ?_
    refine w_eqi (y := nI dr) hdr ?_
    refine lv_if_ne (tgt := 25) hx hb dX5_charter_19 (by decide) (fun c_19 => ?_) (fun c_19 => ?_)
    ·
      have hdr0 : dr ≠ 0 := fun z => c_19 (by rw [z]; rfl)
      refine lv_aload_n hx hb dX5_charter_25 rfl (lv_at hl 0 rfl) ?_
      refine w_vi X I hA 14 (by omega) rfl rfl (As := []) (rest := []) (ctX5_faultOf l g α N (wu σ 14 0 0) _ dr (by omega) hdr hdr30) (wM_V kmX5_125 ki_X5_faultOf ks_X5_faultOf kn_X5 kc_X5_faultOf) rfl rfl (n := 0) (by decide +kernel) rfl ⟨by decide, by decide⟩ hl.1 rfl (Nat.le_of_ble_eq_true rfl) ⟨Nat.zero_le _, Nat.zero_le _⟩ dX5_charter_26 (fun r_26 τ2 H locs q_26 I => ?_)
      obtain ⟨tr0, tr1, hz0, rfl, hre, htr⟩ := q_26
      rcases hs : (xP (σ.1 28) dr dr 6 false tr0).1 with _ | q
      ·
        obtain rfl : r_26 = (-9) := by rw [hre]; show fcI (xP (σ.1 28) dr dr 6 false tr0).1 (-9) = _; rw [hs]; rfl
        refine lv_istore_n (lv' := [(2, .int (-9)), (0, .ref (α 14)), (1, .int (nI k))]) hx hb dX5_charter_29 rfl hl (by decide) rfl (fun ls hl => ?_)
        refine lv_iload_n hx hb dX5_charter_30 rfl (lv_at hl 0 rfl) ?_
        refine lv_bipush (v := (-9)) hx hb dX5_charter_31 (by decide) ?_
        refine lv_icmp_eq (tgt := 41) hx hb dX5_charter_33 (by decide) (fun _ => ?_) (fun cc => absurd cc (by decide))
        refine lv_iconst (v := 0) hx hb dX5_charter_41 (by decide) ?_
        refine lv_istore_n (lv' := [(3, .int 0), (2, .int (-9)), (0, .ref (α 14)), (1, .int (nI k))]) hx hb dX5_charter_42 rfl hl (by decide) rfl (fun ls hl => ?_)
        exact lpX5_charter_43 (nI k) n dr X hsz hr hlk hn hn10 hN hdr hdr30  7 k tr0 tr1 0 (w30 (wu σ 14 0 0) tr1) (by omega) hk rfl hdr0 hz0 hs (htr hs) (by omega) rfl _ _ I ls (lv_sub hl [2, 3, 0] rfl)
      ·
        have hq := xP_lt (by omega) hs
        obtain rfl : r_26 = nI q := by rw [hre]; show fcI (xP (σ.1 28) dr dr 6 false tr0).1 (-9) = _; rw [hs]; rfl
        refine lv_istore_n (lv' := [(2, .int (nI q)), (0, .ref (α 14)), (1, .int (nI k))]) hx hb dX5_charter_29 rfl hl (by decide) rfl (fun ls hl => ?_)
        refine lv_iload_n hx hb dX5_charter_30 rfl (lv_at hl 0 rfl) ?_
        refine lv_bipush (v := (-9)) hx hb dX5_charter_31 (by decide) ?_
        refine lv_icmp_eq (tgt := 41) hx hb dX5_charter_33 (by decide) (fun cc => absurd cc (nI_neN (by omega) (by decide))) (fun _ => ?_)
        refine lv_bipush (v := (-100)) hx hb dX5_charter_36 (by decide) ?_
        refine lv_iload_n hx hb dX5_charter_38 rfl (lv_at hl 0 rfl) ?_
        refine lv_isub hx hb dX5_charter_39 ?_
        exact w_iret X I hr hlk (Or.inr ⟨k, hk, rfl, Or.inr ⟨hdr0, tr0, tr1, hz0, Or.inl ⟨q, hs, rfl, rfl⟩⟩⟩) dX5_charter_40
    ·
      refine lv_bipush (v := (-2)) hx hb dX5_charter_22 (by decide) ?_
      exact w_iret X I hr hlk (Or.inr ⟨k, hk, rfl, Or.inl ⟨by rcases Nat.eq_zero_or_pos dr with q | q; exact q; exact absurd c_19 (nI_ne0 q (by omega)), rfl, rfl⟩⟩) dX5_charter_24
  ·
    obtain rfl : r_7 = 0 := Eq.trans q_7 (if_neg p_7)
    have hbad := m1_bad (n := n) (by omega) p_7
    refine lv_if_ne (tgt := 15) hx hb dX5_charter_10 (by decide) (fun cc => absurd cc (by decide)) (fun _ => ?_)
    refine lv_iconst (v := (-1)) hx hb dX5_charter_13 (by decide) ?_
    exact w_iret X I hr hlk (Or.inl ⟨hbad, rfl, rfl⟩) dX5_charter_14
end
section
variable {l : Launch} {g : wG} {α : Nat → Nat} {N : Nat} {σ : wS} {p : Program} {e : Env} {s : State} {m : MethodId} {args : Array Value} {below : List Frame} {meth : Method} {c : Code}
theorem trIn {x : Int32} (h : x = 0 ∨ x = 1 ∨ x = 2) : vp_in x 3 := by rcases h with rfl | rfl | rfl <;> (unfold vp_in; decide)
theorem trTK {x : Int32} (h : x = 0 ∨ x = 1 ∨ x = 2) : (trT x.toNatClampNeg).toInt64 = trK x := by rcases h with rfl | rfl | rfl <;> decide
set_option maxHeartbeats 1000000 in
set_option maxRecDepth 100000 in
theorem ctX4_turn (l : Launch) (g : wG) (α : Nat → Nat) (N : Nat) (σ : wS) (sz : Nat) (a : Int32) (n d : Nat) (hn : σ.1 0 7 = nI n) (hn10 : n ≤ 10) (hN : 32 + 4 * n ≤ N) (hd : σ.1 0 6 = nI d) (hd200 : d ≤ 200) (hR : ∀ k, k < n → σ.2.2 5 k = some (32 + 4 * k)) (hki : ∀ i, i < n → (σ.1 (32 + 4 * i) 1 = 0 ∨ σ.1 (32 + 4 * i) 1 = 1 ∨ σ.1 (32 + 4 * i) 1 = 2)) : Met l yX4_turn (wM yX4_turn cX4_turn 3 (some FieldType.int)) ({ frames := 1, cells := 0, slots := 0, locals := 23 } : Room) (wPe g α N sz σ (trE (wA α N sz)) [.ref (α 0), .int a]) (va_Qi (fun r τ => (r, τ) = spQ n a ((-1), σ) (fun k => (tX σ d k, wuL σ 0 (σ.2.1 0 + trK (σ.1 (32 + 4 * k) 1))))) (wB g α N) (wA α N sz)) 0 0 (wA α N sz) := by
  refine w_enterE (by decide) (Nat.le_of_ble_eq_true rfl) (fun p e s m args below meth c hE hsz X I hr hlk ls hl => ?_)
  obtain ⟨tt, hZ, hTt⟩ := hE
  have hA : ∀ q, s.heap.size ≤ q → wA α N sz q := fun q h => Or.inr (by omega)
  have hx := X.1.1
  have hb := X.1.2.1
  have hl : lv_has ls 3 [(0, .ref (α 0)), (1, .int a)] := hl
  refine lv_aload_n hx hb dX4_turn_0 rfl (lv_at hl 0 rfl) ?_
  refine lv_iload_n hx hb dX4_turn_1 rfl (lv_at hl 1 rfl) ?_
  refine w_vSq X I 0 (by omega) rfl rfl (As := [.int a]) (rest := []) (ctX4_shipNumbered l g α N σ a n hn hn10 hN hR) (wM_V kmX4_78 ki_X4_shipNumbered ks_X4_shipNumbered kn_X4 kc_X4_shipNumbered) rfl rfl (n := 1) (by decide +kernel) rfl ⟨by decide, by decide⟩ hl.1 rfl (Nat.le_of_ble_eq_true rfl) ⟨Nat.zero_le _, Nat.zero_le _⟩ dX4_turn_2 (fun r_2 q_2 => ?_)
  replace q_2 : (∀ k, k < n → a = nI k → r_2 = some (α (32 + 4 * k))) ∧ ((a < 0 ∨ nI n ≤ a) → r_2 = none) := q_2
  rcases ix2 a (n := n) (by omega) with hbad | ⟨k, hk, rfl⟩
  ·
    obtain rfl : r_2 = none := q_2.2 hbad
    refine w_eqv (y := .null) rfl ?_
    refine lv_astore_nN (lv' := [(2, .null), (0, .ref (α 0)), (1, .int a)]) hx hb dX4_turn_5 rfl hl (by decide) rfl (fun ls hl => ?_)
    refine lv_aload_nN hx hb dX4_turn_6 rfl (lv_at hl 0 rfl) ?_
    refine lv_ifnonnullN hx hb dX4_turn_7 ?_
    refine lv_iconst (v := (-1)) hx hb dX4_turn_10 (by decide) ?_
    exact w_iret X I hr hlk (by first | exact (spQ_bad hbad).symm | (rw [spQ_ok hk (by omega), ← trTK (hki k hk)])) dX4_turn_11
  ·
    obtain rfl : r_2 = some (α (32 + 4 * k)) := q_2.1 k hk rfl
    clear q_2
    refine w_eqv (y := .ref (α (32 + 4 * k))) rfl ?_
    refine lv_astore_n (lv' := [(2, .ref (α (32 + 4 * k))), (0, .ref (α 0)), (1, .int (nI k))]) hx hb dX4_turn_5 rfl hl (by decide) rfl (fun ls hl => ?_)
    refine lv_aload_n hx hb dX4_turn_6 rfl (lv_at hl 0 rfl) ?_
    refine lv_ifnonnull (tgt := 12) hx hb dX4_turn_7 (by decide) ?_
    refine lv_aload_n hx hb dX4_turn_12 rfl (lv_at hl 1 rfl) ?_
    refine lv_dup hx hb dX4_turn_13 rfl ?_
    refine fg4_9 X I (by omega) kfX4_53 dX4_turn_14 ?_
    refine va_gets (C := "RockRoad") hx hb hZ I.2.2 X.1.2.2.2.1 (X.1.2.2.2.2 _ kfX4_82) (fun _ h => h) dX4_turn_17 ?_
    refine lv_aload_n hx hb dX4_turn_20 rfl (lv_at hl 0 rfl) ?_
    refine fg3_1 X I k (by omega) kfX4_85 dX4_turn_21 ?_
    refine va_ti (v := .int (trT (σ.1 (32 + 4 * k) 1).toNatClampNeg)) hx hb hTt I.2.2 (trIn (hki k hk)) rfl dX4_turn_24 ?_
    refine lv_i2l hx hb dX4_turn_25 rfl ?_
    refine lv_ladd hx hb dX4_turn_26 ?_
    refine fp4_9 X I (by omega) kfX4_53 dX4_turn_27 (fun H locs I => ?_)
    refine lv_aload_n hx hb dX4_turn_30 rfl (lv_at hl 0 rfl) ?_
    refine lv_aload_n hx hb dX4_turn_31 rfl (lv_at hl 1 rfl) ?_
    refine fg4_6 X I (by omega) kfX4_43 dX4_turn_32 ?_
    refine w_eqi (y := nI d) hd ?_
    refine w_vSi X I (32 + 4 * k) (by omega) (wc_ship g α k _ _ _) rfl (As := [.int (nI d)]) (rest := []) (ctX3_turnOn l g α N (wuL σ 0 ((σ.2.1 0) + ((trT (σ.1 (32 + 4 * k) 1).toNatClampNeg).toInt64))) k _ (by omega)) (wM_V kmX4_88 ki_X3_turnOn ks_X3_turnOn kn_X3 kc_X3_turnOn) rfl rfl (n := 1) (by decide +kernel) rfl ⟨by decide, by decide⟩ hl.1 rfl (Nat.le_of_ble_eq_true rfl) ⟨Nat.zero_le _, Nat.zero_le _⟩ dX4_turn_35 (fun r_35 q_35 => ?_)
    replace q_35 : r_35 = tX σ d k := q_35
    subst q_35
    exact w_iret X I hr hlk (by first | exact (spQ_bad hbad).symm | (rw [spQ_ok hk (by omega), ← trTK (hki k hk)])) dX4_turn_38
end
