section
variable {l : Launch} {g : wG} {α : Nat → Nat} {N : Nat} {σ : wS} {p : Program} {e : Env} {s : State} {m : MethodId} {args : Array Value} {below : List Frame} {meth : Method} {c : Code}
set_option maxHeartbeats 4000000 in
set_option maxRecDepth 100000 in
theorem ctX5_isShip (l : Launch) (g : wG) (α : Nat → Nat) (N : Nat) (σ : wS) (a : Int32) (n : Nat) (hN : 32 ≤ N) (hn : σ.1 14 7 = nI n) : Met l yX5_isShip (wM yX5_isShip cX5_isShip 2 (some FieldType.boolean)) ({ frames := 1, cells := 0, slots := 0, locals := 22 } : Room) (wPc g α N σ [.ref (α 14), .int a]) (vp_Si (fun r => r = if ¬ a < 0 ∧ ¬ nI n - 1 < a then 1 else 0)) 0 0 (fun _ => False) := by
  refine w_enterS (by decide) (Nat.le_of_ble_eq_true rfl) (fun p e s m args below meth c X I hr hlk ls hl => ?_)
  have hx := X.1.1
  have hb := X.1.2.1
  have hl : lv_has ls 2 [(0, .ref (α 14)), (1, .int a)] := hl
  refine lv_iload_n hx hb dX5_isShip_0 rfl (lv_at hl 1 rfl) ?_
  refine lv_iconst (v := 0) hx hb dX5_isShip_1 (by decide) ?_
  refine lv_aload_n hx hb dX5_isShip_2 rfl (lv_at hl 0 rfl) ?_
  refine fg5_7 X I (by omega) kfX5_79 dX5_isShip_3 ?_
  refine w_eqi (y := nI n) hn ?_
  refine lv_iconst (v := 1) hx hb dX5_isShip_6 (by decide) ?_
  refine lv_isub hx hb dX5_isShip_7 ?_
  refine w_sSi X I (As := [.int a, .int 0, .int ((nI n) - 1)]) (rest := []) (ctX5_in l g α N σ _ _ _ ) (wM_S kmX5_69 kt_X5_in kn_X5 kc_X5_in) rfl rfl (n := 3) (by decide +kernel) rfl ⟨by decide, by decide⟩ hl.1 rfl (Nat.le_of_ble_eq_true rfl) ⟨Nat.zero_le _, Nat.zero_le _⟩ dX5_isShip_8 (fun r_8 q_8 => ?_)
  by_cases p_8 : ¬ a < 0 ∧ ¬ ((nI n) - 1) < a
  ·
    obtain rfl : r_8 = 1 := Eq.trans q_8 (if_pos p_8)
    exact w_zretS X hr hlk (Or.inr rfl) (by first | exact (if_pos p_8).symm | exact (if_neg p_8).symm) dX5_isShip_11
  ·
    obtain rfl : r_8 = 0 := Eq.trans q_8 (if_neg p_8)
    exact w_zretS X hr hlk (Or.inl rfl) (by first | exact (if_pos p_8).symm | exact (if_neg p_8).symm) dX5_isShip_11
end
section
variable {l : Launch} {g : wG} {α : Nat → Nat} {N : Nat} {σ : wS} {p : Program} {e : Env} {s : State} {m : MethodId} {args : Array Value} {below : List Frame} {meth : Method} {c : Code}
set_option maxHeartbeats 4000000 in
set_option maxRecDepth 100000 in
theorem ctX5_left (l : Launch) (g : wG) (α : Nat → Nat) (N : Nat) (σ : wS) (sz : Nat) (a : Int32) (ly : Nat) (hN : 32 ≤ N) (hz : σ.1 14 4 = nI ly) (hly : ly ≤ 6) : Met l yX5_left (wM yX5_left cX5_left 2 (some FieldType.int)) ({ frames := 1, cells := 0, slots := 0, locals := 22 } : Room) (wPs g α N sz σ [.ref (α 14), .int a]) (va_Qi (fun r τ => r = spq ly a (-1) (σ.1 16) ∧ τ = wu σ 14 0 0) (wB g α N) (wA α N sz)) 0 0 (wA α N sz) := by
  refine w_enter (by decide) (Nat.le_of_ble_eq_true rfl) (fun p e s m args below meth c hsz X I hr hlk ls hl => ?_)
  have hA : ∀ q, s.heap.size ≤ q → wA α N sz q := fun q h => Or.inr (by omega)
  have hx := X.1.1
  have hb := X.1.2.1
  have hl : lv_has ls 2 [(0, .ref (α 14)), (1, .int a)] := hl
  refine lv_aload_n hx hb dX5_left_0 rfl (lv_at hl 0 rfl) ?_
  refine lv_iconst (v := 0) hx hb dX5_left_1 (by decide) ?_
  refine fp5_0 X I (by omega) kfX5_66 dX5_left_2 (fun H locs I => ?_)
  refine lv_iload_n hx hb dX5_left_5 rfl (lv_at hl 1 rfl) ?_
  refine lv_iconst (v := 0) hx hb dX5_left_6 (by decide) ?_
  refine lv_aload_n hx hb dX5_left_7 rfl (lv_at hl 0 rfl) ?_
  refine fg5_4 X I (by omega) kfX5_73 dX5_left_8 ?_
  refine w_eqi (y := σ.1 14 4) (wu_d (by decide)) ?_
  refine w_eqi (y := nI ly) hz ?_
  refine lv_iconst (v := 1) hx hb dX5_left_11 (by decide) ?_
  refine lv_isub hx hb dX5_left_12 ?_
  refine w_sSi X I (As := [.int a, .int 0, .int ((nI ly) - 1)]) (rest := []) (ctX5_in l g α N (wu σ 14 0 0) _ _ _ ) (wM_S kmX5_69 kt_X5_in kn_X5 kc_X5_in) rfl rfl (n := 3) (by decide +kernel) rfl ⟨by decide, by decide⟩ hl.1 rfl (Nat.le_of_ble_eq_true rfl) ⟨Nat.zero_le _, Nat.zero_le _⟩ dX5_left_13 (fun r_13 q_13 => ?_)
  by_cases p_13 : ¬ a < 0 ∧ ¬ ((nI ly) - 1) < a
  ·
    obtain rfl : r_13 = 1 := Eq.trans q_13 (if_pos p_13)
    obtain ⟨k, hk, rfl⟩ := m1_ok (n := ly) (by omega) p_13
    refine lv_if_eq (tgt := 28) hx hb dX5_left_16 (by decide) (fun cc => absurd cc (by decide)) (fun _ => ?_)
    refine lv_aload_n hx hb dX5_left_19 rfl (lv_at hl 0 rfl) ?_
    refine fg5_5 X I (by omega) kfX5_13 dX5_left_20 ?_
    refine lv_iload_n hx hb dX5_left_23 rfl (lv_at hl 1 rfl) ?_
    refine w_ld X I 16 (by omega) (n := 6) (k := k) (fun _ _ _ => rfl) rfl (by omega) (by decide) dX5_left_24 ?_
    refine w_eqi (y := σ.1 16 k) (wu_o (by decide)) ?_
    refine lv_goto (tgt := 29) hx hb dX5_left_25 (by decide) ?_
    exact w_iret X I hr hlk (⟨by first | exact (spq_bad hbad).symm | exact (spq_ok hk (by omega)).symm, rfl⟩) dX5_left_29
  ·
    obtain rfl : r_13 = 0 := Eq.trans q_13 (if_neg p_13)
    have hbad := m1_bad (n := ly) (by omega) p_13
    refine lv_if_eq (tgt := 28) hx hb dX5_left_16 (by decide) (fun _ => ?_) (fun cc => absurd cc (by decide))
    refine lv_iconst (v := (-1)) hx hb dX5_left_28 (by decide) ?_
    exact w_iret X I hr hlk (⟨by first | exact (spq_bad hbad).symm | exact (spq_ok hk (by omega)).symm, rfl⟩) dX5_left_29
end
section
variable {l : Launch} {g : wG} {α : Nat → Nat} {N : Nat} {σ : wS} {p : Program} {e : Env} {s : State} {m : MethodId} {args : Array Value} {below : List Frame} {meth : Method} {c : Code}
set_option maxHeartbeats 4000000 in
set_option maxRecDepth 100000 in
theorem ctX5_cargo (l : Launch) (g : wG) (α : Nat → Nat) (N : Nat) (σ : wS) (sz : Nat) (a b : Int32) (n ly : Nat) (hn : σ.1 14 7 = nI n) (hn10 : n ≤ 10) (hN : 32 ≤ N) (hz : σ.1 14 4 = nI ly) (hly : ly ≤ 6) : Met l yX5_cargo (wM yX5_cargo cX5_cargo 3 (some FieldType.int)) ({ frames := 2, cells := 0, slots := 0, locals := 43 } : Room) (wPs g α N sz σ [.ref (α 14), .int a, .int b]) (va_Qi (fun r τ => r = spq n a (-1) (fun i => spq ly b (-1) (fun l => σ.1 23 (6 * i + l))) ∧ τ = wu σ 14 0 0) (wB g α N) (wA α N sz)) 0 0 (wA α N sz) := by
  refine w_enter (by decide) (Nat.le_of_ble_eq_true rfl) (fun p e s m args below meth c hsz X I hr hlk ls hl => ?_)
  have hA : ∀ q, s.heap.size ≤ q → wA α N sz q := fun q h => Or.inr (by omega)
  have hx := X.1.1
  have hb := X.1.2.1
  have hl : lv_has ls 3 [(0, .ref (α 14)), (1, .int a), (2, .int b)] := hl
  refine lv_aload_n hx hb dX5_cargo_0 rfl (lv_at hl 0 rfl) ?_
  refine lv_iconst (v := 0) hx hb dX5_cargo_1 (by decide) ?_
  refine fp5_0 X I (by omega) kfX5_66 dX5_cargo_2 (fun H locs I => ?_)
  refine lv_aload_n hx hb dX5_cargo_5 rfl (lv_at hl 0 rfl) ?_
  refine lv_iload_n hx hb dX5_cargo_6 rfl (lv_at hl 1 rfl) ?_
  refine w_vSi X I 14 (by omega) rfl rfl (As := [.int a]) (rest := []) (ctX5_isShip l g α N (wu σ 14 0 0) a n hN hn) (wM_V kmX5_82 ki_X5_isShip ks_X5_isShip kn_X5 kc_X5_isShip) rfl rfl (n := 1) (by decide +kernel) rfl ⟨by decide, by decide⟩ hl.1 rfl (Nat.le_of_ble_eq_true rfl) ⟨Nat.zero_le _, Nat.zero_le _⟩ dX5_cargo_7 (fun r_7 q_7 => ?_)
  by_cases p_7 : ¬ a < 0 ∧ ¬ nI n - 1 < a
  ·
    obtain rfl : r_7 = 1 := Eq.trans q_7 (if_pos p_7)
    obtain ⟨k, hk, rfl⟩ := m1_ok (n := n) (by omega) p_7
    refine lv_if_eq (tgt := 41) hx hb dX5_cargo_10 (by decide) (fun cc => absurd cc (by decide)) (fun _ => ?_)
    refine lv_iload_n hx hb dX5_cargo_13 rfl (lv_at hl 2 rfl) ?_
    refine lv_iconst (v := 0) hx hb dX5_cargo_14 (by decide) ?_
    refine lv_aload_n hx hb dX5_cargo_15 rfl (lv_at hl 0 rfl) ?_
    refine fg5_4 X I (by omega) kfX5_73 dX5_cargo_16 ?_
    refine w_eqi (y := σ.1 14 4) (wu_d (by decide)) ?_
    refine w_eqi (y := nI ly) hz ?_
    refine lv_iconst (v := 1) hx hb dX5_cargo_19 (by decide) ?_
    refine lv_isub hx hb dX5_cargo_20 ?_
    refine w_sSi X I (As := [.int b, .int 0, .int ((nI ly) - 1)]) (rest := []) (ctX5_in l g α N (wu σ 14 0 0) _ _ _ ) (wM_S kmX5_69 kt_X5_in kn_X5 kc_X5_in) rfl rfl (n := 3) (by decide +kernel) rfl ⟨by decide, by decide⟩ hl.1 rfl (Nat.le_of_ble_eq_true rfl) ⟨Nat.zero_le _, Nat.zero_le _⟩ dX5_cargo_21 (fun r_21 q_21 => ?_)
    by_cases p_21 : ¬ b < 0 ∧ ¬ ((nI ly) - 1) < b
    ·
      obtain rfl : r_21 = 1 := Eq.trans q_21 (if_pos p_21)
      obtain ⟨j, hj, rfl⟩ := m1_ok (n := ly) (by omega) p_21
      refine lv_if_eq (tgt := 41) hx hb dX5_cargo_24 (by decide) (fun cc => absurd cc (by decide)) (fun _ => ?_)
      refine lv_aload_n hx hb dX5_cargo_27 rfl (lv_at hl 0 rfl) ?_
      refine fg5_13 X I (by omega) kfX5_34 dX5_cargo_28 ?_
      refine lv_bipush (v := 6) hx hb dX5_cargo_31 (by decide) ?_
      refine lv_iload_n hx hb dX5_cargo_33 rfl (lv_at hl 1 rfl) ?_
      refine lv_imul hx hb dX5_cargo_34 ?_
      refine w_eqi (y := nI (6 * k)) (pk_mul 6 _) ?_
      refine lv_iload_n hx hb dX5_cargo_35 rfl (lv_at hl 2 rfl) ?_
      refine lv_iadd hx hb dX5_cargo_36 ?_
      refine w_eqi (y := nI (6 * k + j)) (nI_add _ _) ?_
      refine w_ld X I 23 (by omega) (n := 60) (k := 6 * k + j) (fun _ _ _ => rfl) rfl (by omega) (by decide) dX5_cargo_37 ?_
      refine w_eqi (y := σ.1 23 (6 * k + j)) (wu_o (by decide)) ?_
      refine lv_goto (tgt := 42) hx hb dX5_cargo_38 (by decide) ?_
      exact w_iret X I hr hlk (⟨by first | exact (spq_bad hbad).symm | exact ((spq_ok hk (by omega)).trans (spq_ok hj (by omega))).symm | exact ((spq_ok hk (by omega)).trans (spq_bad (m1_bad (by omega) p_21))).symm, rfl⟩) dX5_cargo_42
    ·
      obtain rfl : r_21 = 0 := Eq.trans q_21 (if_neg p_21)
      refine lv_if_eq (tgt := 41) hx hb dX5_cargo_24 (by decide) (fun _ => ?_) (fun cc => absurd cc (by decide))
      refine lv_iconst (v := (-1)) hx hb dX5_cargo_41 (by decide) ?_
      exact w_iret X I hr hlk (⟨by first | exact (spq_bad hbad).symm | exact ((spq_ok hk (by omega)).trans (spq_ok hj (by omega))).symm | exact ((spq_ok hk (by omega)).trans (spq_bad (m1_bad (by omega) p_21))).symm, rfl⟩) dX5_cargo_42
  ·
    obtain rfl : r_7 = 0 := Eq.trans q_7 (if_neg p_7)
    have hbad := m1_bad (n := n) (by omega) p_7
    refine lv_if_eq (tgt := 41) hx hb dX5_cargo_10 (by decide) (fun _ => ?_) (fun cc => absurd cc (by decide))
    refine lv_iconst (v := (-1)) hx hb dX5_cargo_41 (by decide) ?_
    exact w_iret X I hr hlk (⟨by first | exact (spq_bad hbad).symm | exact ((spq_ok hk (by omega)).trans (spq_ok hj (by omega))).symm | exact ((spq_ok hk (by omega)).trans (spq_bad (m1_bad (by omega) p_21))).symm, rfl⟩) dX5_cargo_42
end
section
variable {l : Launch} {g : wG} {α : Nat → Nat} {N : Nat} {σ : wS} {p : Program} {e : Env} {s : State} {m : MethodId} {args : Array Value} {below : List Frame} {meth : Method} {c : Code}
set_option maxHeartbeats 4000000 in
set_option maxRecDepth 100000 in
theorem ctX5_loaded (l : Launch) (g : wG) (α : Nat → Nat) (N : Nat) (σ : wS) (sz : Nat) (a b : Int32) (n d : Nat) (hn : σ.1 14 7 = nI n) (hn10 : n ≤ 10) (hN : 32 ≤ N) (hd : σ.1 14 2 = nI d) (hd200 : d ≤ 200) : Met l yX5_loaded (wM yX5_loaded cX5_loaded 3 (some FieldType.int)) ({ frames := 2, cells := 0, slots := 0, locals := 43 } : Room) (wPs g α N sz σ [.ref (α 14), .int a, .int b]) (va_Qi (fun r τ => r = spq n a (-2) (fun i => spq d b (-2) (fun l => σ.1 24 (201 * i + l))) ∧ τ = wu σ 14 0 0) (wB g α N) (wA α N sz)) 0 0 (wA α N sz) := by
  refine w_enter (by decide) (Nat.le_of_ble_eq_true rfl) (fun p e s m args below meth c hsz X I hr hlk ls hl => ?_)
  have hA : ∀ q, s.heap.size ≤ q → wA α N sz q := fun q h => Or.inr (by omega)
  have hx := X.1.1
  have hb := X.1.2.1
  have hl : lv_has ls 3 [(0, .ref (α 14)), (1, .int a), (2, .int b)] := hl
  refine lv_aload_n hx hb dX5_loaded_0 rfl (lv_at hl 0 rfl) ?_
  refine lv_iconst (v := 0) hx hb dX5_loaded_1 (by decide) ?_
  refine fp5_0 X I (by omega) kfX5_66 dX5_loaded_2 (fun H locs I => ?_)
  refine lv_aload_n hx hb dX5_loaded_5 rfl (lv_at hl 0 rfl) ?_
  refine lv_iload_n hx hb dX5_loaded_6 rfl (lv_at hl 1 rfl) ?_
  refine w_vSi X I 14 (by omega) rfl rfl (As := [.int a]) (rest := []) (ctX5_isShip l g α N (wu σ 14 0 0) a n hN hn) (wM_V kmX5_82 ki_X5_isShip ks_X5_isShip kn_X5 kc_X5_isShip) rfl rfl (n := 1) (by decide +kernel) rfl ⟨by decide, by decide⟩ hl.1 rfl (Nat.le_of_ble_eq_true rfl) ⟨Nat.zero_le _, Nat.zero_le _⟩ dX5_loaded_7 (fun r_7 q_7 => ?_)
  by_cases p_7 : ¬ a < 0 ∧ ¬ nI n - 1 < a
  ·
    obtain rfl : r_7 = 1 := Eq.trans q_7 (if_pos p_7)
    obtain ⟨k, hk, rfl⟩ := m1_ok (n := n) (by omega) p_7
    refine lv_if_eq (tgt := 42) hx hb dX5_loaded_10 (by decide) (fun cc => absurd cc (by decide)) (fun _ => ?_)
    refine lv_iload_n hx hb dX5_loaded_13 rfl (lv_at hl 2 rfl) ?_
    refine lv_iconst (v := 0) hx hb dX5_loaded_14 (by decide) ?_
    refine lv_aload_n hx hb dX5_loaded_15 rfl (lv_at hl 0 rfl) ?_
    refine fg5_2 X I (by omega) kfX5_76 dX5_loaded_16 ?_
    refine w_eqi (y := σ.1 14 2) (wu_d (by decide)) ?_
    refine w_eqi (y := nI d) hd ?_
    refine lv_iconst (v := 1) hx hb dX5_loaded_19 (by decide) ?_
    refine lv_isub hx hb dX5_loaded_20 ?_
    refine w_sSi X I (As := [.int b, .int 0, .int ((nI d) - 1)]) (rest := []) (ctX5_in l g α N (wu σ 14 0 0) _ _ _ ) (wM_S kmX5_69 kt_X5_in kn_X5 kc_X5_in) rfl rfl (n := 3) (by decide +kernel) rfl ⟨by decide, by decide⟩ hl.1 rfl (Nat.le_of_ble_eq_true rfl) ⟨Nat.zero_le _, Nat.zero_le _⟩ dX5_loaded_21 (fun r_21 q_21 => ?_)
    by_cases p_21 : ¬ b < 0 ∧ ¬ ((nI d) - 1) < b
    ·
      obtain rfl : r_21 = 1 := Eq.trans q_21 (if_pos p_21)
      obtain ⟨j, hj, rfl⟩ := m1_ok (n := d) (by omega) p_21
      refine lv_if_eq (tgt := 42) hx hb dX5_loaded_24 (by decide) (fun cc => absurd cc (by decide)) (fun _ => ?_)
      refine lv_aload_n hx hb dX5_loaded_27 rfl (lv_at hl 0 rfl) ?_
      refine fg5_14 X I (by omega) kfX5_37 dX5_loaded_28 ?_
      refine lv_sipush (v := 201) hx hb dX5_loaded_31 (by decide) ?_
      refine lv_iload_n hx hb dX5_loaded_34 rfl (lv_at hl 1 rfl) ?_
      refine lv_imul hx hb dX5_loaded_35 ?_
      refine w_eqi (y := nI (201 * k)) (pk_mul 201 _) ?_
      refine lv_iload_n hx hb dX5_loaded_36 rfl (lv_at hl 2 rfl) ?_
      refine lv_iadd hx hb dX5_loaded_37 ?_
      refine w_eqi (y := nI (201 * k + j)) (nI_add _ _) ?_
      refine w_ld X I 24 (by omega) (n := 2010) (k := 201 * k + j) (fun _ _ _ => rfl) rfl (by omega) (by decide) dX5_loaded_38 ?_
      refine w_eqi (y := σ.1 24 (201 * k + j)) (wu_o (by decide)) ?_
      refine lv_goto (tgt := 44) hx hb dX5_loaded_39 (by decide) ?_
      exact w_iret X I hr hlk (⟨by first | exact (spq_bad hbad).symm | exact ((spq_ok hk (by omega)).trans (spq_ok hj (by omega))).symm | exact ((spq_ok hk (by omega)).trans (spq_bad (m1_bad (by omega) p_21))).symm, rfl⟩) dX5_loaded_44
    ·
      obtain rfl : r_21 = 0 := Eq.trans q_21 (if_neg p_21)
      refine lv_if_eq (tgt := 42) hx hb dX5_loaded_24 (by decide) (fun _ => ?_) (fun cc => absurd cc (by decide))
      refine lv_bipush (v := (-2)) hx hb dX5_loaded_42 (by decide) ?_
      exact w_iret X I hr hlk (⟨by first | exact (spq_bad hbad).symm | exact ((spq_ok hk (by omega)).trans (spq_ok hj (by omega))).symm | exact ((spq_ok hk (by omega)).trans (spq_bad (m1_bad (by omega) p_21))).symm, rfl⟩) dX5_loaded_44
  ·
    obtain rfl : r_7 = 0 := Eq.trans q_7 (if_neg p_7)
    have hbad := m1_bad (n := n) (by omega) p_7
    refine lv_if_eq (tgt := 42) hx hb dX5_loaded_10 (by decide) (fun _ => ?_) (fun cc => absurd cc (by decide))
    refine lv_bipush (v := (-2)) hx hb dX5_loaded_42 (by decide) ?_
    exact w_iret X I hr hlk (⟨by first | exact (spq_bad hbad).symm | exact ((spq_ok hk (by omega)).trans (spq_ok hj (by omega))).symm | exact ((spq_ok hk (by omega)).trans (spq_bad (m1_bad (by omega) p_21))).symm, rfl⟩) dX5_loaded_44
end
section
variable {l : Launch} {g : wG} {α : Nat → Nat} {N : Nat} {σ : wS} {p : Program} {e : Env} {s : State} {m : MethodId} {args : Array Value} {below : List Frame} {meth : Method} {c : Code}
set_option maxHeartbeats 4000000 in
set_option maxRecDepth 100000 in
theorem ctX5_term (l : Launch) (g : wG) (α : Nat → Nat) (N : Nat) (σ : wS) (sz : Nat) (a b : Int32) (n : Nat) (hn : σ.1 14 7 = nI n) (hn10 : n ≤ 10) (hN : 32 ≤ N) : Met l yX5_term (wM yX5_term cX5_term 3 (some FieldType.int)) ({ frames := 2, cells := 0, slots := 0, locals := 43 } : Room) (wPs g α N sz σ [.ref (α 14), .int a, .int b]) (va_Qi (fun r τ => r = spq n a (-1) (fun i => spq 6 b (-1) (fun l => σ.1 29 (6 * i + l))) ∧ τ = wu σ 14 0 0) (wB g α N) (wA α N sz)) 0 0 (wA α N sz) := by
  refine w_enter (by decide) (Nat.le_of_ble_eq_true rfl) (fun p e s m args below meth c hsz X I hr hlk ls hl => ?_)
  have hA : ∀ q, s.heap.size ≤ q → wA α N sz q := fun q h => Or.inr (by omega)
  have hx := X.1.1
  have hb := X.1.2.1
  have hl : lv_has ls 3 [(0, .ref (α 14)), (1, .int a), (2, .int b)] := hl
  refine lv_aload_n hx hb dX5_term_0 rfl (lv_at hl 0 rfl) ?_
  refine lv_iconst (v := 0) hx hb dX5_term_1 (by decide) ?_
  refine fp5_0 X I (by omega) kfX5_66 dX5_term_2 (fun H locs I => ?_)
  refine lv_aload_n hx hb dX5_term_5 rfl (lv_at hl 0 rfl) ?_
  refine lv_iload_n hx hb dX5_term_6 rfl (lv_at hl 1 rfl) ?_
  refine w_vSi X I 14 (by omega) rfl rfl (As := [.int a]) (rest := []) (ctX5_isShip l g α N (wu σ 14 0 0) a n hN hn) (wM_V kmX5_82 ki_X5_isShip ks_X5_isShip kn_X5 kc_X5_isShip) rfl rfl (n := 1) (by decide +kernel) rfl ⟨by decide, by decide⟩ hl.1 rfl (Nat.le_of_ble_eq_true rfl) ⟨Nat.zero_le _, Nat.zero_le _⟩ dX5_term_7 (fun r_7 q_7 => ?_)
  by_cases p_7 : ¬ a < 0 ∧ ¬ nI n - 1 < a
  ·
    obtain rfl : r_7 = 1 := Eq.trans q_7 (if_pos p_7)
    obtain ⟨k, hk, rfl⟩ := m1_ok (n := n) (by omega) p_7
    refine lv_if_eq (tgt := 36) hx hb dX5_term_10 (by decide) (fun cc => absurd cc (by decide)) (fun _ => ?_)
    refine lv_iload_n hx hb dX5_term_13 rfl (lv_at hl 2 rfl) ?_
    refine lv_iconst (v := 0) hx hb dX5_term_14 (by decide) ?_
    refine lv_iconst (v := 5) hx hb dX5_term_15 (by decide) ?_
    refine w_sSi X I (As := [.int b, .int 0, .int 5]) (rest := []) (ctX5_in l g α N (wu σ 14 0 0) _ _ _ ) (wM_S kmX5_69 kt_X5_in kn_X5 kc_X5_in) rfl rfl (n := 3) (by decide +kernel) rfl ⟨by decide, by decide⟩ hl.1 rfl (Nat.le_of_ble_eq_true rfl) ⟨Nat.zero_le _, Nat.zero_le _⟩ dX5_term_16 (fun r_16 q_16 => ?_)
    by_cases p_16 : ¬ b < 0 ∧ ¬ 5 < b
    ·
      obtain rfl : r_16 = 1 := Eq.trans q_16 (if_pos p_16)
      obtain ⟨j, hj, rfl⟩ := m1_ok (n := 6) (by decide) p_16
      refine lv_if_eq (tgt := 36) hx hb dX5_term_19 (by decide) (fun cc => absurd cc (by decide)) (fun _ => ?_)
      refine lv_aload_n hx hb dX5_term_22 rfl (lv_at hl 0 rfl) ?_
      refine fg5_22 X I (by omega) kfX5_56 dX5_term_23 ?_
      refine lv_bipush (v := 6) hx hb dX5_term_26 (by decide) ?_
      refine lv_iload_n hx hb dX5_term_28 rfl (lv_at hl 1 rfl) ?_
      refine lv_imul hx hb dX5_term_29 ?_
      refine w_eqi (y := nI (6 * k)) (pk_mul 6 _) ?_
      refine lv_iload_n hx hb dX5_term_30 rfl (lv_at hl 2 rfl) ?_
      refine lv_iadd hx hb dX5_term_31 ?_
      refine w_eqi (y := nI (6 * k + j)) (nI_add _ _) ?_
      refine w_ld X I 29 (by omega) (n := 60) (k := 6 * k + j) (fun _ _ _ => rfl) rfl (by omega) (by decide) dX5_term_32 ?_
      refine w_eqi (y := σ.1 29 (6 * k + j)) (wu_o (by decide)) ?_
      refine lv_goto (tgt := 37) hx hb dX5_term_33 (by decide) ?_
      exact w_iret X I hr hlk (⟨by first | exact (spq_bad hbad).symm | exact ((spq_ok hk (by omega)).trans (spq_ok hj (by omega))).symm | exact ((spq_ok hk (by omega)).trans (spq_bad (m1_bad (n := 6) (by decide) p_16))).symm, rfl⟩) dX5_term_37
    ·
      obtain rfl : r_16 = 0 := Eq.trans q_16 (if_neg p_16)
      refine lv_if_eq (tgt := 36) hx hb dX5_term_19 (by decide) (fun _ => ?_) (fun cc => absurd cc (by decide))
      refine lv_iconst (v := (-1)) hx hb dX5_term_36 (by decide) ?_
      exact w_iret X I hr hlk (⟨by first | exact (spq_bad hbad).symm | exact ((spq_ok hk (by omega)).trans (spq_ok hj (by omega))).symm | exact ((spq_ok hk (by omega)).trans (spq_bad (m1_bad (n := 6) (by decide) p_16))).symm, rfl⟩) dX5_term_37
  ·
    obtain rfl : r_7 = 0 := Eq.trans q_7 (if_neg p_7)
    have hbad := m1_bad (n := n) (by omega) p_7
    refine lv_if_eq (tgt := 36) hx hb dX5_term_10 (by decide) (fun _ => ?_) (fun cc => absurd cc (by decide))
    refine lv_iconst (v := (-1)) hx hb dX5_term_36 (by decide) ?_
    exact w_iret X I hr hlk (⟨by first | exact (spq_bad hbad).symm | exact ((spq_ok hk (by omega)).trans (spq_ok hj (by omega))).symm | exact ((spq_ok hk (by omega)).trans (spq_bad (m1_bad (n := 6) (by decide) p_16))).symm, rfl⟩) dX5_term_37
end
section
variable {l : Launch} {g : wG} {α : Nat → Nat} {N : Nat} {σ : wS} {p : Program} {e : Env} {s : State} {m : MethodId} {args : Array Value} {below : List Frame} {meth : Method} {c : Code}
set_option maxHeartbeats 4000000 in
set_option maxRecDepth 100000 in
theorem lpX5_tonsOf_4 (i ly : Nat) (X : wX p s m args c cX5_tonsOf 4 RX5 g) (I : wI g α N (fun _ => True) s.heap s.heap [] σ) (hr : meth.sig.returnType = (some FieldType.int)) (hlk : meth.locks = false) (hN : 32 ≤ N) (hz : σ.1 14 4 = nI ly) (hly : ly ≤ 6) (hi : i < 10) : ∀ (fu : Nat) (k : Nat) (acc : Int32), ly + 1 ≤ k + fu → k ≤ ly → acc = smI (fun k => σ.1 23 (6 * i + k)) k → ∀ ls : Array Slot, lv_has ls 4 [(0, .ref (α 14)), (1, .int (nI i)), (2, .int acc), (3, .int (nI k))] → W p l e ({ frames := 0, cells := 0, slots := 0, locals := 0 } : Room) s m args below meth c s.heap [] 0 0 (MQ below (vp_Si (fun r => r = smI (fun k => σ.1 23 (6 * i + k)) ly)) args s 0 0 (fun _ => False)) (F0 m 4 ls []) := by
  have hx := X.1.1
  have hb := X.1.2.1
  intro fu
  induction fu with
  | zero =>
    intro k acc hfu hk ha
    exact absurd hfu (by omega)
  | succ fu ih =>
    intro k acc hfu hk ha ls hl
    refine lv_iload_n hx hb dX5_tonsOf_4 rfl (lv_at hl 3 rfl) ?_
    refine lv_aload_n hx hb dX5_tonsOf_5 rfl (lv_at hl 0 rfl) ?_
    refine fg5_4 X I (by omega) kfX5_73 dX5_tonsOf_6 ?_
    refine w_eqi (y := nI ly) hz ?_
    refine lv_icmp_ge (tgt := 32) hx hb dX5_tonsOf_9 (by decide) (fun c_9 => ?_) (fun c_9 => ?_)
    ·
      have e : k = ly := by have := nI_le' c_9 (by omega) (by omega); omega
      refine lv_iload_n hx hb dX5_tonsOf_32 rfl (lv_at hl 2 rfl) ?_
      exact w_iretS X hr hlk (by rw [ha, e]) dX5_tonsOf_33
    ·
      have hlt : k < ly := by
        rcases Nat.lt_or_ge k ly with q | q
        · exact q
        · exact absurd (nI_le q (by omega)) c_9
      refine lv_iload_n hx hb dX5_tonsOf_12 rfl (lv_at hl 2 rfl) ?_
      refine lv_aload_n hx hb dX5_tonsOf_13 rfl (lv_at hl 0 rfl) ?_
      refine fg5_13 X I (by omega) kfX5_34 dX5_tonsOf_14 ?_
      refine lv_bipush (v := 6) hx hb dX5_tonsOf_17 (by decide) ?_
      refine lv_iload_n hx hb dX5_tonsOf_19 rfl (lv_at hl 1 rfl) ?_
      refine lv_imul hx hb dX5_tonsOf_20 ?_
      refine w_eqi (y := nI (6 * i)) (pk_mul 6 _) ?_
      refine lv_iload_n hx hb dX5_tonsOf_21 rfl (lv_at hl 3 rfl) ?_
      refine lv_iadd hx hb dX5_tonsOf_22 ?_
      refine w_eqi (y := nI (6 * i + k)) (nI_add _ _) ?_
      refine w_ld X I 23 (by omega) (n := 60) (k := 6 * i + k) (fun _ _ _ => rfl) rfl (by omega) (by decide) dX5_tonsOf_23 ?_
      refine lv_iadd hx hb dX5_tonsOf_24 ?_
      refine lv_istore_n (lv' := [(2, .int (acc + (σ.1 23 (6 * i + k)))), (0, .ref (α 14)), (1, .int (nI i)), (3, .int (nI k))]) hx hb dX5_tonsOf_25 rfl hl (by decide) rfl (fun ls hl => ?_)
      refine lv_iinc (v := nI (k + 1)) (lv' := [(3, .int (nI (k + 1))), (2, .int (acc + (σ.1 23 (6 * i + k)))), (0, .ref (α 14)), (1, .int (nI i))]) hx hb dX5_tonsOf_26 hl (k := 3) rfl (nI_1 _) (by decide) rfl (fun ls hl => ?_)
      refine lv_goto (tgt := 4) hx hb dX5_tonsOf_29 (by decide) ?_
      exact ih (k + 1) (acc + (σ.1 23 (6 * i + k))) (by omega) (by omega) (by rw [ha]; rfl) ls (lv_sub hl [2, 3, 1, 0] rfl)
set_option maxHeartbeats 4000000 in
set_option maxRecDepth 100000 in
theorem ctX5_tonsOf (l : Launch) (g : wG) (α : Nat → Nat) (N : Nat) (σ : wS) (i ly : Nat) (hN : 32 ≤ N) (hz : σ.1 14 4 = nI ly) (hly : ly ≤ 6) (hi : i < 10) : Met l yX5_tonsOf (wM yX5_tonsOf cX5_tonsOf 4 (some FieldType.int)) ({ frames := 0, cells := 0, slots := 0, locals := 0 } : Room) (wPc g α N σ [.ref (α 14), .int (nI i)]) (vp_Si (fun r => r = smI (fun k => σ.1 23 (6 * i + k)) ly)) 0 0 (fun _ => False) := by
  refine w_enterS (by decide) (Nat.le_of_ble_eq_true rfl) (fun p e s m args below meth c X I hr hlk ls hl => ?_)
  have hx := X.1.1
  have hb := X.1.2.1
  have hl : lv_has ls 4 [(0, .ref (α 14)), (1, .int (nI i))] := hl
  refine lv_iconst (v := 0) hx hb dX5_tonsOf_0 (by decide) ?_
  refine lv_istore_n (lv' := [(2, .int 0), (0, .ref (α 14)), (1, .int (nI i))]) hx hb dX5_tonsOf_1 rfl hl (by decide) rfl (fun ls hl => ?_)
  refine lv_iconst (v := 0) hx hb dX5_tonsOf_2 (by decide) ?_
  refine lv_istore_n (lv' := [(3, .int 0), (2, .int 0), (0, .ref (α 14)), (1, .int (nI i))]) hx hb dX5_tonsOf_3 rfl hl (by decide) rfl (fun ls hl => ?_)
  exact lpX5_tonsOf_4 i ly X I hr hlk hN hz hly hi  (ly + 1) 0 0 (by omega) (by omega) rfl ls (lv_sub hl [2, 3, 1, 0] rfl)
end
section
variable {l : Launch} {g : wG} {α : Nat → Nat} {N : Nat} {σ : wS} {p : Program} {e : Env} {s : State} {m : MethodId} {args : Array Value} {below : List Frame} {meth : Method} {c : Code}
set_option maxHeartbeats 4000000 in
set_option maxRecDepth 100000 in
theorem lpX5_worthOf_4 (i ly : Nat) (X : wX p s m args c cX5_worthOf 4 RX5 g) (I : wI g α N (fun _ => True) s.heap s.heap [] σ) (hr : meth.sig.returnType = (some FieldType.int)) (hlk : meth.locks = false) (hN : 32 ≤ N) (hz : σ.1 14 4 = nI ly) (hly : ly ≤ 6) (hi : i < 10) : ∀ (fu : Nat) (k : Nat) (acc : Int32), ly + 1 ≤ k + fu → k ≤ ly → acc = smI (fun k => σ.1 23 (6 * i + k) * σ.1 17 k) k → ∀ ls : Array Slot, lv_has ls 4 [(0, .ref (α 14)), (1, .int (nI i)), (2, .int acc), (3, .int (nI k))] → W p l e ({ frames := 0, cells := 0, slots := 0, locals := 0 } : Room) s m args below meth c s.heap [] 0 0 (MQ below (vp_Si (fun r => r = smI (fun k => σ.1 23 (6 * i + k) * σ.1 17 k) ly)) args s 0 0 (fun _ => False)) (F0 m 4 ls []) := by
  have hx := X.1.1
  have hb := X.1.2.1
  intro fu
  induction fu with
  | zero =>
    intro k acc hfu hk ha
    exact absurd hfu (by omega)
  | succ fu ih =>
    intro k acc hfu hk ha ls hl
    refine lv_iload_n hx hb dX5_worthOf_4 rfl (lv_at hl 3 rfl) ?_
    refine lv_aload_n hx hb dX5_worthOf_5 rfl (lv_at hl 0 rfl) ?_
    refine fg5_4 X I (by omega) kfX5_73 dX5_worthOf_6 ?_
    refine w_eqi (y := nI ly) hz ?_
    refine lv_icmp_ge (tgt := 39) hx hb dX5_worthOf_9 (by decide) (fun c_9 => ?_) (fun c_9 => ?_)
    ·
      have e : k = ly := by have := nI_le' c_9 (by omega) (by omega); omega
      refine lv_iload_n hx hb dX5_worthOf_39 rfl (lv_at hl 2 rfl) ?_
      exact w_iretS X hr hlk (by rw [ha, e]) dX5_worthOf_40
    ·
      have hlt : k < ly := by
        rcases Nat.lt_or_ge k ly with q | q
        · exact q
        · exact absurd (nI_le q (by omega)) c_9
      refine lv_iload_n hx hb dX5_worthOf_12 rfl (lv_at hl 2 rfl) ?_
      refine lv_aload_n hx hb dX5_worthOf_13 rfl (lv_at hl 0 rfl) ?_
      refine fg5_13 X I (by omega) kfX5_34 dX5_worthOf_14 ?_
      refine lv_bipush (v := 6) hx hb dX5_worthOf_17 (by decide) ?_
      refine lv_iload_n hx hb dX5_worthOf_19 rfl (lv_at hl 1 rfl) ?_
      refine lv_imul hx hb dX5_worthOf_20 ?_
      refine w_eqi (y := nI (6 * i)) (pk_mul 6 _) ?_
      refine lv_iload_n hx hb dX5_worthOf_21 rfl (lv_at hl 3 rfl) ?_
      refine lv_iadd hx hb dX5_worthOf_22 ?_
      refine w_eqi (y := nI (6 * i + k)) (nI_add _ _) ?_
      refine w_ld X I 23 (by omega) (n := 60) (k := 6 * i + k) (fun _ _ _ => rfl) rfl (by omega) (by decide) dX5_worthOf_23 ?_
      refine lv_aload_n hx hb dX5_worthOf_24 rfl (lv_at hl 0 rfl) ?_
      refine fg5_6 X I (by omega) kfX5_16 dX5_worthOf_25 ?_
      refine lv_iload_n hx hb dX5_worthOf_28 rfl (lv_at hl 3 rfl) ?_
      refine w_ld X I 17 (by omega) (n := 6) (k := k) (fun _ _ _ => rfl) rfl (by omega) (by decide) dX5_worthOf_29 ?_
      refine lv_imul hx hb dX5_worthOf_30 ?_
      refine lv_iadd hx hb dX5_worthOf_31 ?_
      refine lv_istore_n (lv' := [(2, .int (acc + ((σ.1 23 (6 * i + k)) * (σ.1 17 k)))), (0, .ref (α 14)), (1, .int (nI i)), (3, .int (nI k))]) hx hb dX5_worthOf_32 rfl hl (by decide) rfl (fun ls hl => ?_)
      refine lv_iinc (v := nI (k + 1)) (lv' := [(3, .int (nI (k + 1))), (2, .int (acc + ((σ.1 23 (6 * i + k)) * (σ.1 17 k)))), (0, .ref (α 14)), (1, .int (nI i))]) hx hb dX5_worthOf_33 hl (k := 3) rfl (nI_1 _) (by decide) rfl (fun ls hl => ?_)
      refine lv_goto (tgt := 4) hx hb dX5_worthOf_36 (by decide) ?_
      exact ih (k + 1) (acc + ((σ.1 23 (6 * i + k)) * (σ.1 17 k))) (by omega) (by omega) (by rw [ha]; rfl) ls (lv_sub hl [2, 3, 1, 0] rfl)
set_option maxHeartbeats 4000000 in
set_option maxRecDepth 100000 in
theorem ctX5_worthOf (l : Launch) (g : wG) (α : Nat → Nat) (N : Nat) (σ : wS) (i ly : Nat) (hN : 32 ≤ N) (hz : σ.1 14 4 = nI ly) (hly : ly ≤ 6) (hi : i < 10) : Met l yX5_worthOf (wM yX5_worthOf cX5_worthOf 4 (some FieldType.int)) ({ frames := 0, cells := 0, slots := 0, locals := 0 } : Room) (wPc g α N σ [.ref (α 14), .int (nI i)]) (vp_Si (fun r => r = smI (fun k => σ.1 23 (6 * i + k) * σ.1 17 k) ly)) 0 0 (fun _ => False) := by
  refine w_enterS (by decide) (Nat.le_of_ble_eq_true rfl) (fun p e s m args below meth c X I hr hlk ls hl => ?_)
  have hx := X.1.1
  have hb := X.1.2.1
  have hl : lv_has ls 4 [(0, .ref (α 14)), (1, .int (nI i))] := hl
  refine lv_iconst (v := 0) hx hb dX5_worthOf_0 (by decide) ?_
  refine lv_istore_n (lv' := [(2, .int 0), (0, .ref (α 14)), (1, .int (nI i))]) hx hb dX5_worthOf_1 rfl hl (by decide) rfl (fun ls hl => ?_)
  refine lv_iconst (v := 0) hx hb dX5_worthOf_2 (by decide) ?_
  refine lv_istore_n (lv' := [(3, .int 0), (2, .int 0), (0, .ref (α 14)), (1, .int (nI i))]) hx hb dX5_worthOf_3 rfl hl (by decide) rfl (fun ls hl => ?_)
  exact lpX5_worthOf_4 i ly X I hr hlk hN hz hly hi  (ly + 1) 0 0 (by omega) (by omega) rfl ls (lv_sub hl [2, 3, 1, 0] rfl)
end
section
variable {l : Launch} {g : wG} {α : Nat → Nat} {N : Nat} {σ : wS} {p : Program} {e : Env} {s : State} {m : MethodId} {args : Array Value} {below : List Frame} {meth : Method} {c : Code}
set_option maxHeartbeats 4000000 in
set_option maxRecDepth 100000 in
theorem ctX5_about (l : Launch) (g : wG) (α : Nat → Nat) (N : Nat) (σ : wS) (sz : Nat) (a b : Int32) (n ly : Nat) (hn : σ.1 14 7 = nI n) (hn10 : n ≤ 10) (hN : 32 ≤ N) (hz : σ.1 14 4 = nI ly) (hly : ly ≤ 6) : Met l yX5_about (wM yX5_about cX5_about 3 (some FieldType.int)) ({ frames := 2, cells := 0, slots := 0, locals := 43 } : Room) (wPs g α N sz σ [.ref (α 14), .int a, .int b]) (va_Qi (fun r τ => r = spq n a (-1) (fun i => abF (σ.1 18 i) (σ.1 19 i) (σ.1 20 i) (smI (fun k => σ.1 23 (6 * i + k)) ly) (σ.1 21 i) (σ.1 22 i) (smI (fun k => σ.1 23 (6 * i + k) * σ.1 17 k) ly) b) ∧ τ = wu σ 14 0 0) (wB g α N) (wA α N sz)) 0 0 (wA α N sz) := by
  refine w_enter (by decide) (Nat.le_of_ble_eq_true rfl) (fun p e s m args below meth c hsz X I hr hlk ls hl => ?_)
  have hA : ∀ q, s.heap.size ≤ q → wA α N sz q := fun q h => Or.inr (by omega)
  have hx := X.1.1
  have hb := X.1.2.1
  have hl : lv_has ls 3 [(0, .ref (α 14)), (1, .int a), (2, .int b)] := hl
  refine lv_aload_n hx hb dX5_about_0 rfl (lv_at hl 0 rfl) ?_
  refine lv_iconst (v := 0) hx hb dX5_about_1 (by decide) ?_
  refine fp5_0 X I (by omega) kfX5_66 dX5_about_2 (fun H locs I => ?_)
  refine lv_aload_n hx hb dX5_about_5 rfl (lv_at hl 0 rfl) ?_
  refine lv_iload_n hx hb dX5_about_6 rfl (lv_at hl 1 rfl) ?_
  refine w_vSi X I 14 (by omega) rfl rfl (As := [.int a]) (rest := []) (ctX5_isShip l g α N (wu σ 14 0 0) a n hN hn) (wM_V kmX5_82 ki_X5_isShip ks_X5_isShip kn_X5 kc_X5_isShip) rfl rfl (n := 1) (by decide +kernel) rfl ⟨by decide, by decide⟩ hl.1 rfl (Nat.le_of_ble_eq_true rfl) ⟨Nat.zero_le _, Nat.zero_le _⟩ dX5_about_7 (fun r_7 q_7 => ?_)
  by_cases p_7 : ¬ a < 0 ∧ ¬ nI n - 1 < a
  ·
    obtain rfl : r_7 = 1 := Eq.trans q_7 (if_pos p_7)
    obtain ⟨k, hk, rfl⟩ := m1_ok (n := n) (by omega) p_7
    refine lv_if_ne (tgt := 15) hx hb dX5_about_10 (by decide) (fun _ => ?_) (fun cc => absurd cc (by decide))
    refine lv_iload_n hx hb dX5_about_15 rfl (lv_at hl 2 rfl) ?_
    rcases sw7 b with rfl | rfl | rfl | rfl | rfl | rfl | rfl | hsw
    ·
      refine lv_tableIn (tgt := 60) (off := 44) hx hb dX5_about_16 (by decide) (by decide) rfl (by decide) ?_
      refine lv_aload_n hx hb dX5_about_60 rfl (lv_at hl 0 rfl) ?_
      refine fg5_8 X I (by omega) kfX5_19 dX5_about_61 ?_
      refine lv_iload_n hx hb dX5_about_64 rfl (lv_at hl 1 rfl) ?_
      refine w_ld X I 18 (by omega) (n := 10) (k := k) (fun _ _ _ => rfl) rfl (by omega) (by decide) dX5_about_65 ?_
      refine w_eqi (y := σ.1 18 k) (wu_o (by decide)) ?_
      exact w_iret X I hr hlk (⟨by first | exact (spq_bad hbad).symm | (rw [spq_ok hk (by omega)]; simp [abF]; done) | (rw [spq_ok hk (by omega)]; simp [abF, hsw]; done), rfl⟩) dX5_about_66
    ·
      refine lv_tableIn (tgt := 67) (off := 51) hx hb dX5_about_16 (by decide) (by decide) rfl (by decide) ?_
      refine lv_aload_n hx hb dX5_about_67 rfl (lv_at hl 0 rfl) ?_
      refine fg5_9 X I (by omega) kfX5_22 dX5_about_68 ?_
      refine lv_iload_n hx hb dX5_about_71 rfl (lv_at hl 1 rfl) ?_
      refine w_ld X I 19 (by omega) (n := 10) (k := k) (fun _ _ _ => rfl) rfl (by omega) (by decide) dX5_about_72 ?_
      refine w_eqi (y := σ.1 19 k) (wu_o (by decide)) ?_
      exact w_iret X I hr hlk (⟨by first | exact (spq_bad hbad).symm | (rw [spq_ok hk (by omega)]; simp [abF]; done) | (rw [spq_ok hk (by omega)]; simp [abF, hsw]; done), rfl⟩) dX5_about_73
    ·
      refine lv_tableIn (tgt := 74) (off := 58) hx hb dX5_about_16 (by decide) (by decide) rfl (by decide) ?_
      refine lv_aload_n hx hb dX5_about_74 rfl (lv_at hl 0 rfl) ?_
      refine fg5_10 X I (by omega) kfX5_25 dX5_about_75 ?_
      refine lv_iload_n hx hb dX5_about_78 rfl (lv_at hl 1 rfl) ?_
      refine w_ld X I 20 (by omega) (n := 10) (k := k) (fun _ _ _ => rfl) rfl (by omega) (by decide) dX5_about_79 ?_
      refine w_eqi (y := σ.1 20 k) (wu_o (by decide)) ?_
      exact w_iret X I hr hlk (⟨by first | exact (spq_bad hbad).symm | (rw [spq_ok hk (by omega)]; simp [abF]; done) | (rw [spq_ok hk (by omega)]; simp [abF, hsw]; done), rfl⟩) dX5_about_80
    ·
      refine lv_tableIn (tgt := 81) (off := 65) hx hb dX5_about_16 (by decide) (by decide) rfl (by decide) ?_
      refine lv_aload_n hx hb dX5_about_81 rfl (lv_at hl 0 rfl) ?_
      refine lv_iload_n hx hb dX5_about_82 rfl (lv_at hl 1 rfl) ?_
      refine w_vSi X I 14 (by omega) rfl rfl (As := [.int (nI k)]) (rest := []) (ctX5_tonsOf l g α N (wu σ 14 0 0) k ly hN hz hly (by omega)) (wM_V kmX5_111 ki_X5_tonsOf ks_X5_tonsOf kn_X5 kc_X5_tonsOf) rfl rfl (n := 1) (by decide +kernel) rfl ⟨by decide, by decide⟩ hl.1 rfl (Nat.le_of_ble_eq_true rfl) ⟨Nat.zero_le _, Nat.zero_le _⟩ dX5_about_83 (fun r_83 q_83 => ?_)
      replace q_83 : r_83 = smI (fun j => σ.1 23 (6 * k + j)) ly := q_83
      subst q_83
      exact w_iret X I hr hlk (⟨by first | exact (spq_bad hbad).symm | (rw [spq_ok hk (by omega)]; simp [abF]; done) | (rw [spq_ok hk (by omega)]; simp [abF, hsw]; done), rfl⟩) dX5_about_86
    ·
      refine lv_tableIn (tgt := 87) (off := 71) hx hb dX5_about_16 (by decide) (by decide) rfl (by decide) ?_
      refine lv_aload_n hx hb dX5_about_87 rfl (lv_at hl 0 rfl) ?_
      refine fg5_11 X I (by omega) kfX5_28 dX5_about_88 ?_
      refine lv_iload_n hx hb dX5_about_91 rfl (lv_at hl 1 rfl) ?_
      refine w_ld X I 21 (by omega) (n := 10) (k := k) (fun _ _ _ => rfl) rfl (by omega) (by decide) dX5_about_92 ?_
      refine w_eqi (y := σ.1 21 k) (wu_o (by decide)) ?_
      exact w_iret X I hr hlk (⟨by first | exact (spq_bad hbad).symm | (rw [spq_ok hk (by omega)]; simp [abF]; done) | (rw [spq_ok hk (by omega)]; simp [abF, hsw]; done), rfl⟩) dX5_about_93
    ·
      refine lv_tableIn (tgt := 94) (off := 78) hx hb dX5_about_16 (by decide) (by decide) rfl (by decide) ?_
      refine lv_aload_n hx hb dX5_about_94 rfl (lv_at hl 0 rfl) ?_
      refine fg5_12 X I (by omega) kfX5_31 dX5_about_95 ?_
      refine lv_iload_n hx hb dX5_about_98 rfl (lv_at hl 1 rfl) ?_
      refine w_ld X I 22 (by omega) (n := 10) (k := k) (fun _ _ _ => rfl) rfl (by omega) (by decide) dX5_about_99 ?_
      refine w_eqi (y := σ.1 22 k) (wu_o (by decide)) ?_
      exact w_iret X I hr hlk (⟨by first | exact (spq_bad hbad).symm | (rw [spq_ok hk (by omega)]; simp [abF]; done) | (rw [spq_ok hk (by omega)]; simp [abF, hsw]; done), rfl⟩) dX5_about_100
    ·
      refine lv_tableIn (tgt := 101) (off := 85) hx hb dX5_about_16 (by decide) (by decide) rfl (by decide) ?_
      refine lv_aload_n hx hb dX5_about_101 rfl (lv_at hl 0 rfl) ?_
      refine lv_iload_n hx hb dX5_about_102 rfl (lv_at hl 1 rfl) ?_
      refine w_vSi X I 14 (by omega) rfl rfl (As := [.int (nI k)]) (rest := []) (ctX5_worthOf l g α N (wu σ 14 0 0) k ly hN hz hly (by omega)) (wM_V kmX5_114 ki_X5_worthOf ks_X5_worthOf kn_X5 kc_X5_worthOf) rfl rfl (n := 1) (by decide +kernel) rfl ⟨by decide, by decide⟩ hl.1 rfl (Nat.le_of_ble_eq_true rfl) ⟨Nat.zero_le _, Nat.zero_le _⟩ dX5_about_103 (fun r_103 q_103 => ?_)
      replace q_103 : r_103 = smI (fun j => σ.1 23 (6 * k + j) * σ.1 17 j) ly := q_103
      subst q_103
      exact w_iret X I hr hlk (⟨by first | exact (spq_bad hbad).symm | (rw [spq_ok hk (by omega)]; simp [abF]; done) | (rw [spq_ok hk (by omega)]; simp [abF, hsw]; done), rfl⟩) dX5_about_106
    ·
      refine lv_tableOut (tgt := 107) hx hb dX5_about_16 hsw.1 (by decide) ?_
      refine lv_iconst (v := (-1)) hx hb dX5_about_107 (by decide) ?_
      exact w_iret X I hr hlk (⟨by first | exact (spq_bad hbad).symm | (rw [spq_ok hk (by omega)]; simp [abF]; done) | (rw [spq_ok hk (by omega)]; simp [abF, hsw]; done), rfl⟩) dX5_about_108
  ·
    obtain rfl : r_7 = 0 := Eq.trans q_7 (if_neg p_7)
    have hbad := m1_bad (n := n) (by omega) p_7
    refine lv_if_ne (tgt := 15) hx hb dX5_about_10 (by decide) (fun cc => absurd cc (by decide)) (fun _ => ?_)
    refine lv_iconst (v := (-1)) hx hb dX5_about_13 (by decide) ?_
    exact w_iret X I hr hlk (⟨by first | exact (spq_bad hbad).symm | (rw [spq_ok hk (by omega)]; simp [abF]; done) | (rw [spq_ok hk (by omega)]; simp [abF, hsw]; done), rfl⟩) dX5_about_14
end
section
variable {l : Launch} {g : wG} {α : Nat → Nat} {N : Nat} {σ : wS} {p : Program} {e : Env} {s : State} {m : MethodId} {args : Array Value} {below : List Frame} {meth : Method} {c : Code}
set_option maxHeartbeats 4000000 in
set_option maxRecDepth 100000 in
theorem lpX5_sample_36 {sz : Nat} (a b : Int32) (n ly : Nat) (X : wX p s m args c cX5_sample 8 RX5 g) (hsz : s.heap.size = sz) (hr : meth.sig.returnType = (some FieldType.int)) (hlk : meth.locks = false) (hn : σ.1 14 7 = nI n) (hn10 : n ≤ 10) (hN : 32 ≤ N) (hz : σ.1 14 4 = nI ly) (hly : ly ≤ 6) : ∀ (fu : Nat) (k : Nat) (j : Nat) (ah : Int32) (su : Int32) (ta : Int32), ly + 1 ≤ j + fu → k < n → j ≤ ly → a = nI k → ¬ b < 1 ∧ ¬ 9 < b → ah = smI (fun l => σ.1 23 (6 * k + l)) j → su = smI (fun j => smN (fun l => σ.1 23 (6 * k + l)) b j * σ.1 17 j) j → ta = smI (smN (fun l => σ.1 23 (6 * k + l)) b) j → ∀ (H : Heap) (locs : List Loc), wI g α N (wA α N sz) s.heap H locs (wu σ 14 0 0) → ∀ ls : Array Slot, lv_has ls 8 [(0, .ref (α 14)), (1, .int (nI k)), (2, .int b), (3, .int ah), (4, .int su), (5, .int ta), (6, .int (nI j))] → W p l e ({ frames := 2, cells := 0, slots := 0, locals := 43 } : Room) s m args below meth c H locs 0 0 (MQ below (va_Qi (fun r τ => r = spq n a (-1) (fun k => if ¬ b < 1 ∧ ¬ 9 < b then smpF (fun l => σ.1 23 (6 * k + l)) (σ.1 17) b ly else (-1)) ∧ τ = wu σ 14 0 0) (wB g α N) (wA α N sz)) args s 0 0 (wA α N sz)) (F0 m 36 ls []) := by
  have hA : ∀ q, s.heap.size ≤ q → wA α N sz q := fun q h => Or.inr (by omega)
  have hx := X.1.1
  have hb := X.1.2.1
  intro fu
  induction fu with
  | zero =>
    intro k j ah su ta hfu hk hj hka hbb h1 h2 h3
    exact absurd hfu (by omega)
  | succ fu ih =>
    intro k j ah su ta hfu hk hj hka hbb h1 h2 h3 H locs I ls hl
    have hb0 : ¬ b = 0 := fun z => hbb.1 (by rw [z]; decide)
    refine lv_iload hx hb dX5_sample_36 (lv_at hl 6 rfl) ?_
    refine lv_aload_n hx hb dX5_sample_38 rfl (lv_at hl 0 rfl) ?_
    refine fg5_4 X I (by omega) kfX5_73 dX5_sample_39 ?_
    refine w_eqi (y := nI ly) hz ?_
    refine lv_icmp_ge (tgt := 110) hx hb dX5_sample_42 (by decide) (fun c_42 => ?_) (fun c_42 => ?_)
    ·
      have e : j = ly := by have := nI_le' c_42 (by omega) (by omega); omega
      refine lv_iload hx hb dX5_sample_110 (lv_at hl 5 rfl) ?_
      refine lv_if_ne (tgt := 120) hx hb dX5_sample_112 (by decide) (fun c_112 => ?_) (fun c_112 => ?_)
      ·
        refine lv_iload hx hb dX5_sample_120 (lv_at hl 4 rfl) ?_
        refine lv_iload hx hb dX5_sample_122 (lv_at hl 5 rfl) ?_
        refine lv_idiv hx hb dX5_sample_124 c_112 ?_
        exact w_iret X I hr hlk (⟨by first | exact (spq_bad hbad).symm | (rw [spq_ok hk (by omega), if_neg p_17]; done) | (subst e; subst h2; subst h3; rw [hka, spq_ok hk (by omega), if_pos hbb]; first | exact (if_pos c_112).symm | exact (if_neg c_112).symm), rfl⟩) dX5_sample_125
      ·
        refine lv_bipush (v := (-9)) hx hb dX5_sample_115 (by decide) ?_
        refine lv_goto (tgt := 125) hx hb dX5_sample_117 (by decide) ?_
        exact w_iret X I hr hlk (⟨by first | exact (spq_bad hbad).symm | (rw [spq_ok hk (by omega), if_neg p_17]; done) | (subst e; subst h2; subst h3; rw [hka, spq_ok hk (by omega), if_pos hbb]; first | exact (if_pos c_112).symm | exact (if_neg c_112).symm), rfl⟩) dX5_sample_125
    ·
      have hlt : j < ly := by
        rcases Nat.lt_or_ge j ly with q | q
        · exact q
        · exact absurd (nI_le q (by omega)) c_42
      refine lv_iload_n hx hb dX5_sample_45 rfl (lv_at hl 3 rfl) ?_
      refine lv_aload_n hx hb dX5_sample_46 rfl (lv_at hl 0 rfl) ?_
      refine fg5_13 X I (by omega) kfX5_34 dX5_sample_47 ?_
      refine lv_bipush (v := 6) hx hb dX5_sample_50 (by decide) ?_
      refine lv_iload_n hx hb dX5_sample_52 rfl (lv_at hl 1 rfl) ?_
      refine lv_imul hx hb dX5_sample_53 ?_
      refine w_eqi (y := nI (6 * k)) (pk_mul 6 _) ?_
      refine lv_iload hx hb dX5_sample_54 (lv_at hl 6 rfl) ?_
      refine lv_iadd hx hb dX5_sample_56 ?_
      refine w_eqi (y := nI (6 * k + j)) (nI_add _ _) ?_
      refine w_ld X I 23 (by omega) (n := 60) (k := 6 * k + j) (fun _ _ _ => rfl) rfl (by omega) (by decide) dX5_sample_57 ?_
      refine lv_iadd hx hb dX5_sample_58 ?_
      refine lv_iload_n hx hb dX5_sample_59 rfl (lv_at hl 2 rfl) ?_
      refine lv_idiv hx hb dX5_sample_60 hb0 ?_
      refine lv_iload_n hx hb dX5_sample_61 rfl (lv_at hl 3 rfl) ?_
      refine lv_iload_n hx hb dX5_sample_62 rfl (lv_at hl 2 rfl) ?_
      refine lv_idiv hx hb dX5_sample_63 hb0 ?_
      refine lv_isub hx hb dX5_sample_64 ?_
      refine lv_istore (lv' := [(7, .int (((ah + ((wu σ 14 0 0).1 23 (6 * k + j))) / b) - (ah / b))), (0, .ref (α 14)), (1, .int (nI k)), (2, .int b), (3, .int ah), (4, .int su), (5, .int ta), (6, .int (nI j))]) hx hb dX5_sample_65 hl (by decide) rfl (fun ls hl => ?_)
      refine lv_iload_n hx hb dX5_sample_67 rfl (lv_at hl 4 rfl) ?_
      refine lv_aload_n hx hb dX5_sample_68 rfl (lv_at hl 1 rfl) ?_
      refine fg5_13 X I (by omega) kfX5_34 dX5_sample_69 ?_
      refine lv_bipush (v := 6) hx hb dX5_sample_72 (by decide) ?_
      refine lv_iload_n hx hb dX5_sample_74 rfl (lv_at hl 2 rfl) ?_
      refine lv_imul hx hb dX5_sample_75 ?_
      refine w_eqi (y := nI (6 * k)) (pk_mul 6 _) ?_
      refine lv_iload hx hb dX5_sample_76 (lv_at hl 7 rfl) ?_
      refine lv_iadd hx hb dX5_sample_78 ?_
      refine w_eqi (y := nI (6 * k + j)) (nI_add _ _) ?_
      refine w_ld X I 23 (by omega) (n := 60) (k := 6 * k + j) (fun _ _ _ => rfl) rfl (by omega) (by decide) dX5_sample_79 ?_
      refine lv_iadd hx hb dX5_sample_80 ?_
      refine lv_istore_n (lv' := [(3, .int (ah + ((wu σ 14 0 0).1 23 (6 * k + j)))), (7, .int (((ah + ((wu σ 14 0 0).1 23 (6 * k + j))) / b) - (ah / b))), (0, .ref (α 14)), (1, .int (nI k)), (2, .int b), (4, .int su), (5, .int ta), (6, .int (nI j))]) hx hb dX5_sample_81 rfl hl (by decide) rfl (fun ls hl => ?_)
      refine lv_iload hx hb dX5_sample_82 (lv_at hl 5 rfl) ?_
      refine lv_iload hx hb dX5_sample_84 (lv_at hl 1 rfl) ?_
      refine lv_aload_n hx hb dX5_sample_86 rfl (lv_at hl 2 rfl) ?_
      refine fg5_6 X I (by omega) kfX5_16 dX5_sample_87 ?_
      refine lv_iload hx hb dX5_sample_90 (lv_at hl 7 rfl) ?_
      refine w_ld X I 17 (by omega) (n := 6) (k := j) (fun _ _ _ => rfl) rfl (by omega) (by decide) dX5_sample_92 ?_
      refine lv_imul hx hb dX5_sample_93 ?_
      refine lv_iadd hx hb dX5_sample_94 ?_
      refine lv_istore (lv' := [(4, .int (su + ((((ah + ((wu σ 14 0 0).1 23 (6 * k + j))) / b) - (ah / b)) * ((wu σ 14 0 0).1 17 j)))), (3, .int (ah + ((wu σ 14 0 0).1 23 (6 * k + j)))), (7, .int (((ah + ((wu σ 14 0 0).1 23 (6 * k + j))) / b) - (ah / b))), (0, .ref (α 14)), (1, .int (nI k)), (2, .int b), (5, .int ta), (6, .int (nI j))]) hx hb dX5_sample_95 hl (by decide) rfl (fun ls hl => ?_)
      refine lv_iload hx hb dX5_sample_97 (lv_at hl 6 rfl) ?_
      refine lv_iload hx hb dX5_sample_99 (lv_at hl 2 rfl) ?_
      refine lv_iadd hx hb dX5_sample_101 ?_
      refine lv_istore (lv' := [(5, .int (ta + (((ah + ((wu σ 14 0 0).1 23 (6 * k + j))) / b) - (ah / b)))), (4, .int (su + ((((ah + ((wu σ 14 0 0).1 23 (6 * k + j))) / b) - (ah / b)) * ((wu σ 14 0 0).1 17 j)))), (3, .int (ah + ((wu σ 14 0 0).1 23 (6 * k + j)))), (7, .int (((ah + ((wu σ 14 0 0).1 23 (6 * k + j))) / b) - (ah / b))), (0, .ref (α 14)), (1, .int (nI k)), (2, .int b), (6, .int (nI j))]) hx hb dX5_sample_102 hl (by decide) rfl (fun ls hl => ?_)
      refine lv_iinc (v := nI (j + 1)) (lv' := [(6, .int (nI (j + 1))), (5, .int (ta + (((ah + ((wu σ 14 0 0).1 23 (6 * k + j))) / b) - (ah / b)))), (4, .int (su + ((((ah + ((wu σ 14 0 0).1 23 (6 * k + j))) / b) - (ah / b)) * ((wu σ 14 0 0).1 17 j)))), (3, .int (ah + ((wu σ 14 0 0).1 23 (6 * k + j)))), (7, .int (((ah + ((wu σ 14 0 0).1 23 (6 * k + j))) / b) - (ah / b))), (0, .ref (α 14)), (1, .int (nI k)), (2, .int b)]) hx hb dX5_sample_104 hl (k := 7) rfl (nI_1 _) (by decide) rfl (fun ls hl => ?_)
      refine lv_goto (tgt := 36) hx hb dX5_sample_107 (by decide) ?_
      exact ih k (j + 1) (ah + ((wu σ 14 0 0).1 23 (6 * k + j))) (su + ((((ah + ((wu σ 14 0 0).1 23 (6 * k + j))) / b) - (ah / b)) * ((wu σ 14 0 0).1 17 j))) (ta + (((ah + ((wu σ 14 0 0).1 23 (6 * k + j))) / b) - (ah / b))) (by omega) hk (by omega) hka hbb (by rw [h1]; rfl) (by rw [h1, h2]; rfl) (by rw [h1, h3]; rfl) _ _ I ls (lv_sub hl [5, 6, 7, 3, 2, 1, 0] rfl)
set_option maxHeartbeats 4000000 in
set_option maxRecDepth 100000 in
theorem ctX5_sample (l : Launch) (g : wG) (α : Nat → Nat) (N : Nat) (σ : wS) (sz : Nat) (a b : Int32) (n ly : Nat) (hn : σ.1 14 7 = nI n) (hn10 : n ≤ 10) (hN : 32 ≤ N) (hz : σ.1 14 4 = nI ly) (hly : ly ≤ 6) : Met l yX5_sample (wM yX5_sample cX5_sample 8 (some FieldType.int)) ({ frames := 2, cells := 0, slots := 0, locals := 43 } : Room) (wPs g α N sz σ [.ref (α 14), .int a, .int b]) (va_Qi (fun r τ => r = spq n a (-1) (fun k => if ¬ b < 1 ∧ ¬ 9 < b then smpF (fun l => σ.1 23 (6 * k + l)) (σ.1 17) b ly else (-1)) ∧ τ = wu σ 14 0 0) (wB g α N) (wA α N sz)) 0 0 (wA α N sz) := by
  refine w_enter (by decide) (Nat.le_of_ble_eq_true rfl) (fun p e s m args below meth c hsz X I hr hlk ls hl => ?_)
  have hA : ∀ q, s.heap.size ≤ q → wA α N sz q := fun q h => Or.inr (by omega)
  have hx := X.1.1
  have hb := X.1.2.1
  have hl : lv_has ls 8 [(0, .ref (α 14)), (1, .int a), (2, .int b)] := hl
  refine lv_aload_n hx hb dX5_sample_0 rfl (lv_at hl 0 rfl) ?_
  refine lv_iconst (v := 0) hx hb dX5_sample_1 (by decide) ?_
  refine fp5_0 X I (by omega) kfX5_66 dX5_sample_2 (fun H locs I => ?_)
  refine lv_aload_n hx hb dX5_sample_5 rfl (lv_at hl 0 rfl) ?_
  refine lv_iload_n hx hb dX5_sample_6 rfl (lv_at hl 1 rfl) ?_
  refine w_vSi X I 14 (by omega) rfl rfl (As := [.int a]) (rest := []) (ctX5_isShip l g α N (wu σ 14 0 0) a n hN hn) (wM_V kmX5_82 ki_X5_isShip ks_X5_isShip kn_X5 kc_X5_isShip) rfl rfl (n := 1) (by decide +kernel) rfl ⟨by decide, by decide⟩ hl.1 rfl (Nat.le_of_ble_eq_true rfl) ⟨Nat.zero_le _, Nat.zero_le _⟩ dX5_sample_7 (fun r_7 q_7 => ?_)
  by_cases p_7 : ¬ a < 0 ∧ ¬ nI n - 1 < a
  ·
    obtain rfl : r_7 = 1 := Eq.trans q_7 (if_pos p_7)
    obtain ⟨k, hk, rfl⟩ := m1_ok (n := n) (by omega) p_7
    refine lv_if_eq (tgt := 23) hx hb dX5_sample_10 (by decide) (fun cc => absurd cc (by decide)) (fun _ => ?_)
    refine lv_iload_n hx hb dX5_sample_13 rfl (lv_at hl 2 rfl) ?_
    refine lv_iconst (v := 1) hx hb dX5_sample_14 (by decide) ?_
    refine lv_bipush (v := 9) hx hb dX5_sample_15 (by decide) ?_
    refine w_sSi X I (As := [.int b, .int 1, .int 9]) (rest := []) (ctX5_in l g α N (wu σ 14 0 0) _ _ _ ) (wM_S kmX5_69 kt_X5_in kn_X5 kc_X5_in) rfl rfl (n := 3) (by decide +kernel) rfl ⟨by decide, by decide⟩ hl.1 rfl (Nat.le_of_ble_eq_true rfl) ⟨Nat.zero_le _, Nat.zero_le _⟩ dX5_sample_17 (fun r_17 q_17 => ?_)
    by_cases p_17 : ¬ b < 1 ∧ ¬ 9 < b
    ·
      obtain rfl : r_17 = 1 := Eq.trans q_17 (if_pos p_17)
      refine lv_if_ne (tgt := 25) hx hb dX5_sample_20 (by decide) (fun _ => ?_) (fun cc => absurd cc (by decide))
      refine lv_iconst (v := 0) hx hb dX5_sample_25 (by decide) ?_
      refine lv_istore_n (lv' := [(3, .int 0), (0, .ref (α 14)), (1, .int (nI k)), (2, .int b)]) hx hb dX5_sample_26 rfl hl (by decide) rfl (fun ls hl => ?_)
      refine lv_iconst (v := 0) hx hb dX5_sample_27 (by decide) ?_
      refine lv_istore (lv' := [(4, .int 0), (3, .int 0), (0, .ref (α 14)), (1, .int (nI k)), (2, .int b)]) hx hb dX5_sample_28 hl (by decide) rfl (fun ls hl => ?_)
      refine lv_iconst (v := 0) hx hb dX5_sample_30 (by decide) ?_
      refine lv_istore (lv' := [(5, .int 0), (4, .int 0), (3, .int 0), (0, .ref (α 14)), (1, .int (nI k)), (2, .int b)]) hx hb dX5_sample_31 hl (by decide) rfl (fun ls hl => ?_)
      refine lv_iconst (v := 0) hx hb dX5_sample_33 (by decide) ?_
      refine lv_istore (lv' := [(6, .int 0), (5, .int 0), (4, .int 0), (3, .int 0), (0, .ref (α 14)), (1, .int (nI k)), (2, .int b)]) hx hb dX5_sample_34 hl (by decide) rfl (fun ls hl => ?_)
      exact lpX5_sample_36 (nI k) b n ly X hsz hr hlk hn hn10 hN hz hly  (ly + 1) k 0 0 0 0 (by omega) hk (by omega) rfl p_17 rfl rfl rfl _ _ I ls (lv_sub hl [4, 5, 6, 3, 2, 1, 0] rfl)
    ·
      obtain rfl : r_17 = 0 := Eq.trans q_17 (if_neg p_17)
      refine lv_if_ne (tgt := 25) hx hb dX5_sample_20 (by decide) (fun cc => absurd cc (by decide)) (fun _ => ?_)
      refine lv_iconst (v := (-1)) hx hb dX5_sample_23 (by decide) ?_
      exact w_iret X I hr hlk (⟨by first | exact (spq_bad hbad).symm | (rw [spq_ok hk (by omega), if_neg p_17]; done) | (subst e; subst h2; subst h3; rw [hka, spq_ok hk (by omega), if_pos hbb]; first | exact (if_pos c_112).symm | exact (if_neg c_112).symm), rfl⟩) dX5_sample_24
  ·
    obtain rfl : r_7 = 0 := Eq.trans q_7 (if_neg p_7)
    have hbad := m1_bad (n := n) (by omega) p_7
    refine lv_if_eq (tgt := 23) hx hb dX5_sample_10 (by decide) (fun _ => ?_) (fun cc => absurd cc (by decide))
    refine lv_iconst (v := (-1)) hx hb dX5_sample_23 (by decide) ?_
    exact w_iret X I hr hlk (⟨by first | exact (spq_bad hbad).symm | (rw [spq_ok hk (by omega), if_neg p_17]; done) | (subst e; subst h2; subst h3; rw [hka, spq_ok hk (by omega), if_pos hbb]; first | exact (if_pos c_112).symm | exact (if_neg c_112).symm), rfl⟩) dX5_sample_24
end
section
variable {l : Launch} {g : wG} {α : Nat → Nat} {N : Nat} {σ : wS} {p : Program} {e : Env} {s : State} {m : MethodId} {args : Array Value} {below : List Frame} {meth : Method} {c : Code}
set_option maxHeartbeats 4000000 in
set_option maxRecDepth 100000 in
theorem ctX5_counts (l : Launch) (g : wG) (α : Nat → Nat) (N : Nat) (σ : wS) (i j : Nat) (hN : 32 ≤ N) (hi : i < 10) (hj : j ≤ 200) (hge : σ.1 24 (201 * i + j) = (-1) ∨ ¬ σ.1 24 (201 * i + j) < 0) : Met l yX5_counts (wM yX5_counts cX5_counts 4 (some FieldType.boolean)) ({ frames := 0, cells := 0, slots := 0, locals := 0 } : Room) (wPc g α N σ [.ref (α 14), .int (nI i), .int (nI j)]) (vp_Si (fun r => r = if cnP (fun l => σ.1 29 (6 * i + l)) (σ.1 15) (fun l => σ.1 24 (201 * i + l)) j then 1 else 0)) 0 0 (fun _ => False) := by
  refine w_enterS (by decide) (Nat.le_of_ble_eq_true rfl) (fun p e s m args below meth c X I hr hlk ls hl => ?_)
  have hx := X.1.1
  have hb := X.1.2.1
  have hl : lv_has ls 4 [(0, .ref (α 14)), (1, .int (nI i)), (2, .int (nI j))] := hl
  have hlt0 : σ.1 24 (201 * i + j) < 0 ↔ σ.1 24 (201 * i + j) = (-1) := ⟨fun z => hge.elim id (fun w => absurd z w), fun z => by rw [z]; decide⟩
  refine lv_aload_n hx hb dX5_counts_0 rfl (lv_at hl 0 rfl) ?_
  refine fg5_22 X I (by omega) kfX5_56 dX5_counts_1 ?_
  refine lv_bipush (v := 6) hx hb dX5_counts_4 (by decide) ?_
  refine lv_iload_n hx hb dX5_counts_6 rfl (lv_at hl 1 rfl) ?_
  refine lv_imul hx hb dX5_counts_7 ?_
  refine w_eqi (y := nI (6 * i)) (pk_mul 6 _) ?_
  refine lv_iconst (v := 3) hx hb dX5_counts_8 (by decide) ?_
  refine lv_iadd hx hb dX5_counts_9 ?_
  refine w_eqi (y := nI (6 * i + 3)) (nI_add _ 3) ?_
  refine w_ld X I 29 (by omega) (n := 60) (k := 6 * i + 3) (fun _ _ _ => rfl) rfl (by omega) (by decide) dX5_counts_10 ?_
  refine lv_iconst (v := 1) hx hb dX5_counts_11 (by decide) ?_
  refine lv_icmp_ne (tgt := 25) hx hb dX5_counts_12 (by decide) (fun c_12 => ?_) (fun c_12 => ?_)
  ·
    refine lv_aload_n hx hb dX5_counts_25 rfl (lv_at hl 0 rfl) ?_
    refine fg5_22 X I (by omega) kfX5_56 dX5_counts_26 ?_
    refine lv_bipush (v := 6) hx hb dX5_counts_29 (by decide) ?_
    refine lv_iload_n hx hb dX5_counts_31 rfl (lv_at hl 1 rfl) ?_
    refine lv_imul hx hb dX5_counts_32 ?_
    refine w_eqi (y := nI (6 * i)) (pk_mul 6 _) ?_
    refine lv_iconst (v := 4) hx hb dX5_counts_33 (by decide) ?_
    refine lv_iadd hx hb dX5_counts_34 ?_
    refine w_eqi (y := nI (6 * i + 4)) (nI_add _ 4) ?_
    refine w_ld X I 29 (by omega) (n := 60) (k := 6 * i + 4) (fun _ _ _ => rfl) rfl (by omega) (by decide) dX5_counts_35 ?_
    refine lv_iconst (v := 1) hx hb dX5_counts_36 (by decide) ?_
    refine lv_icmp_ne (tgt := 49) hx hb dX5_counts_37 (by decide) (fun c_37 => ?_) (fun c_37 => ?_)
    ·
      refine lv_aload_n hx hb dX5_counts_49 rfl (lv_at hl 0 rfl) ?_
      refine fg5_22 X I (by omega) kfX5_56 dX5_counts_50 ?_
      refine lv_bipush (v := 6) hx hb dX5_counts_53 (by decide) ?_
      refine lv_iload_n hx hb dX5_counts_55 rfl (lv_at hl 1 rfl) ?_
      refine lv_imul hx hb dX5_counts_56 ?_
      refine w_eqi (y := nI (6 * i)) (pk_mul 6 _) ?_
      refine lv_iconst (v := 5) hx hb dX5_counts_57 (by decide) ?_
      refine lv_iadd hx hb dX5_counts_58 ?_
      refine w_eqi (y := nI (6 * i + 5)) (nI_add _ 5) ?_
      refine w_ld X I 29 (by omega) (n := 60) (k := 6 * i + 5) (fun _ _ _ => rfl) rfl (by omega) (by decide) dX5_counts_59 ?_
      refine lv_iconst (v := 1) hx hb dX5_counts_60 (by decide) ?_
      refine lv_icmp_ne (tgt := 83) hx hb dX5_counts_61 (by decide) (fun c_61 => ?_) (fun c_61 => ?_)
      ·
        refine lv_iconst (v := 0) hx hb dX5_counts_83 (by decide) ?_
        refine lv_istore_n (lv' := [(3, .int 0), (0, .ref (α 14)), (1, .int (nI i)), (2, .int (nI j))]) hx hb dX5_counts_84 rfl hl (by decide) rfl (fun ls hl => ?_)
        refine lv_iload_n hx hb dX5_counts_85 rfl (lv_at hl 0 rfl) ?_
        refine lv_if_ne (tgt := 93) hx hb dX5_counts_86 (by decide) (fun cc => absurd cc (by decide)) (fun _ => ?_)
        refine lv_iconst (v := 1) hx hb dX5_counts_89 (by decide) ?_
        refine lv_goto (tgt := 94) hx hb dX5_counts_90 (by decide) ?_
        exact w_zretS X hr hlk (Or.inr rfl) (by simp [cnP, c_12, c_37, c_61]) dX5_counts_94
      ·
        refine lv_aload_n hx hb dX5_counts_64 rfl (lv_at hl 0 rfl) ?_
        refine fg5_14 X I (by omega) kfX5_37 dX5_counts_65 ?_
        refine lv_sipush (v := 201) hx hb dX5_counts_68 (by decide) ?_
        refine lv_iload_n hx hb dX5_counts_71 rfl (lv_at hl 1 rfl) ?_
        refine lv_imul hx hb dX5_counts_72 ?_
        refine w_eqi (y := nI (201 * i)) (pk_mul 201 _) ?_
        refine lv_iload_n hx hb dX5_counts_73 rfl (lv_at hl 2 rfl) ?_
        refine lv_iadd hx hb dX5_counts_74 ?_
        refine w_eqi (y := nI (201 * i + j)) (nI_add _ _) ?_
        refine w_ld X I 24 (by omega) (n := 2010) (k := 201 * i + j) (fun _ _ _ => rfl) rfl (by omega) (by decide) dX5_counts_75 ?_
        refine lv_if_ge (tgt := 83) hx hb dX5_counts_76 (by decide) (fun c_76 => ?_) (fun c_76 => ?_)
        ·
          have c_76 : ¬ σ.1 24 (201 * i + j) = (-1) := fun z => absurd (hlt0.mpr z) (Int32.not_lt.mpr c_76)
          refine lv_iconst (v := 0) hx hb dX5_counts_83 (by decide) ?_
          refine lv_istore_n (lv' := [(3, .int 0), (0, .ref (α 14)), (1, .int (nI i)), (2, .int (nI j))]) hx hb dX5_counts_84 rfl hl (by decide) rfl (fun ls hl => ?_)
          refine lv_iload_n hx hb dX5_counts_85 rfl (lv_at hl 0 rfl) ?_
          refine lv_if_ne (tgt := 93) hx hb dX5_counts_86 (by decide) (fun cc => absurd cc (by decide)) (fun _ => ?_)
          refine lv_iconst (v := 1) hx hb dX5_counts_89 (by decide) ?_
          refine lv_goto (tgt := 94) hx hb dX5_counts_90 (by decide) ?_
          exact w_zretS X hr hlk (Or.inr rfl) (by simp [cnP, c_12, c_37, c_61, c_76]) dX5_counts_94
        ·
          have c_76 : σ.1 24 (201 * i + j) = (-1) := hlt0.mp (Int32.not_le.mp c_76)
          refine lv_iconst (v := 1) hx hb dX5_counts_79 (by decide) ?_
          refine lv_goto (tgt := 84) hx hb dX5_counts_80 (by decide) ?_
          refine lv_istore_n (lv' := [(3, .int 1), (0, .ref (α 14)), (1, .int (nI i)), (2, .int (nI j))]) hx hb dX5_counts_84 rfl hl (by decide) rfl (fun ls hl => ?_)
          refine lv_iload_n hx hb dX5_counts_85 rfl (lv_at hl 0 rfl) ?_
          refine lv_if_ne (tgt := 93) hx hb dX5_counts_86 (by decide) (fun _ => ?_) (fun cc => absurd cc (by decide))
          refine lv_iconst (v := 0) hx hb dX5_counts_93 (by decide) ?_
          exact w_zretS X hr hlk (Or.inl rfl) (by simp [cnP, c_12, c_37, c_61, c_76]) dX5_counts_94
    ·
      refine lv_iload_n hx hb dX5_counts_40 rfl (lv_at hl 2 rfl) ?_
      refine lv_bipush (v := 7) hx hb dX5_counts_41 (by decide) ?_
      refine lv_irem hx hb dX5_counts_43 (by decide) ?_
      refine lv_bipush (v := 6) hx hb dX5_counts_44 (by decide) ?_
      refine lv_icmp_eq (tgt := 79) hx hb dX5_counts_46 (by decide) (fun c_46 => ?_) (fun c_46 => ?_)
      ·
        refine lv_iconst (v := 1) hx hb dX5_counts_79 (by decide) ?_
        refine lv_goto (tgt := 84) hx hb dX5_counts_80 (by decide) ?_
        refine lv_istore_n (lv' := [(3, .int 1), (0, .ref (α 14)), (1, .int (nI i)), (2, .int (nI j))]) hx hb dX5_counts_84 rfl hl (by decide) rfl (fun ls hl => ?_)
        refine lv_iload_n hx hb dX5_counts_85 rfl (lv_at hl 0 rfl) ?_
        refine lv_if_ne (tgt := 93) hx hb dX5_counts_86 (by decide) (fun _ => ?_) (fun cc => absurd cc (by decide))
        refine lv_iconst (v := 0) hx hb dX5_counts_93 (by decide) ?_
        exact w_zretS X hr hlk (Or.inl rfl) (by simp [cnP, c_12, c_37, c_46]) dX5_counts_94
      ·
        refine lv_aload_n hx hb dX5_counts_49 rfl (lv_at hl 0 rfl) ?_
        refine fg5_22 X I (by omega) kfX5_56 dX5_counts_50 ?_
        refine lv_bipush (v := 6) hx hb dX5_counts_53 (by decide) ?_
        refine lv_iload_n hx hb dX5_counts_55 rfl (lv_at hl 1 rfl) ?_
        refine lv_imul hx hb dX5_counts_56 ?_
        refine w_eqi (y := nI (6 * i)) (pk_mul 6 _) ?_
        refine lv_iconst (v := 5) hx hb dX5_counts_57 (by decide) ?_
        refine lv_iadd hx hb dX5_counts_58 ?_
        refine w_eqi (y := nI (6 * i + 5)) (nI_add _ 5) ?_
        refine w_ld X I 29 (by omega) (n := 60) (k := 6 * i + 5) (fun _ _ _ => rfl) rfl (by omega) (by decide) dX5_counts_59 ?_
        refine lv_iconst (v := 1) hx hb dX5_counts_60 (by decide) ?_
        refine lv_icmp_ne (tgt := 83) hx hb dX5_counts_61 (by decide) (fun c_61 => ?_) (fun c_61 => ?_)
        ·
          refine lv_iconst (v := 0) hx hb dX5_counts_83 (by decide) ?_
          refine lv_istore_n (lv' := [(3, .int 0), (0, .ref (α 14)), (1, .int (nI i)), (2, .int (nI j))]) hx hb dX5_counts_84 rfl hl (by decide) rfl (fun ls hl => ?_)
          refine lv_iload_n hx hb dX5_counts_85 rfl (lv_at hl 0 rfl) ?_
          refine lv_if_ne (tgt := 93) hx hb dX5_counts_86 (by decide) (fun cc => absurd cc (by decide)) (fun _ => ?_)
          refine lv_iconst (v := 1) hx hb dX5_counts_89 (by decide) ?_
          refine lv_goto (tgt := 94) hx hb dX5_counts_90 (by decide) ?_
          exact w_zretS X hr hlk (Or.inr rfl) (by simp [cnP, c_12, c_37, c_46, c_61]) dX5_counts_94
        ·
          refine lv_aload_n hx hb dX5_counts_64 rfl (lv_at hl 0 rfl) ?_
          refine fg5_14 X I (by omega) kfX5_37 dX5_counts_65 ?_
          refine lv_sipush (v := 201) hx hb dX5_counts_68 (by decide) ?_
          refine lv_iload_n hx hb dX5_counts_71 rfl (lv_at hl 1 rfl) ?_
          refine lv_imul hx hb dX5_counts_72 ?_
          refine w_eqi (y := nI (201 * i)) (pk_mul 201 _) ?_
          refine lv_iload_n hx hb dX5_counts_73 rfl (lv_at hl 2 rfl) ?_
          refine lv_iadd hx hb dX5_counts_74 ?_
          refine w_eqi (y := nI (201 * i + j)) (nI_add _ _) ?_
          refine w_ld X I 24 (by omega) (n := 2010) (k := 201 * i + j) (fun _ _ _ => rfl) rfl (by omega) (by decide) dX5_counts_75 ?_
          refine lv_if_ge (tgt := 83) hx hb dX5_counts_76 (by decide) (fun c_76 => ?_) (fun c_76 => ?_)
          ·
            have c_76 : ¬ σ.1 24 (201 * i + j) = (-1) := fun z => absurd (hlt0.mpr z) (Int32.not_lt.mpr c_76)
            refine lv_iconst (v := 0) hx hb dX5_counts_83 (by decide) ?_
            refine lv_istore_n (lv' := [(3, .int 0), (0, .ref (α 14)), (1, .int (nI i)), (2, .int (nI j))]) hx hb dX5_counts_84 rfl hl (by decide) rfl (fun ls hl => ?_)
            refine lv_iload_n hx hb dX5_counts_85 rfl (lv_at hl 0 rfl) ?_
            refine lv_if_ne (tgt := 93) hx hb dX5_counts_86 (by decide) (fun cc => absurd cc (by decide)) (fun _ => ?_)
            refine lv_iconst (v := 1) hx hb dX5_counts_89 (by decide) ?_
            refine lv_goto (tgt := 94) hx hb dX5_counts_90 (by decide) ?_
            exact w_zretS X hr hlk (Or.inr rfl) (by simp [cnP, c_12, c_37, c_46, c_61, c_76]) dX5_counts_94
          ·
            have c_76 : σ.1 24 (201 * i + j) = (-1) := hlt0.mp (Int32.not_le.mp c_76)
            refine lv_iconst (v := 1) hx hb dX5_counts_79 (by decide) ?_
            refine lv_goto (tgt := 84) hx hb dX5_counts_80 (by decide) ?_
            refine lv_istore_n (lv' := [(3, .int 1), (0, .ref (α 14)), (1, .int (nI i)), (2, .int (nI j))]) hx hb dX5_counts_84 rfl hl (by decide) rfl (fun ls hl => ?_)
            refine lv_iload_n hx hb dX5_counts_85 rfl (lv_at hl 0 rfl) ?_
            refine lv_if_ne (tgt := 93) hx hb dX5_counts_86 (by decide) (fun _ => ?_) (fun cc => absurd cc (by decide))
            refine lv_iconst (v := 0) hx hb dX5_counts_93 (by decide) ?_
            exact w_zretS X hr hlk (Or.inl rfl) (by simp [cnP, c_12, c_37, c_46, c_61, c_76]) dX5_counts_94
  ·
    refine lv_aload_n hx hb dX5_counts_15 rfl (lv_at hl 0 rfl) ?_
    refine fg5_3 X I (by omega) kfX5_7 dX5_counts_16 ?_
    refine lv_iload_n hx hb dX5_counts_19 rfl (lv_at hl 2 rfl) ?_
    refine w_ld X I 15 (by omega) (n := 201) (k := j) (fun _ _ _ => rfl) rfl (by omega) (by decide) dX5_counts_20 ?_
    refine lv_iconst (v := 4) hx hb dX5_counts_21 (by decide) ?_
    refine lv_icmp_gt (tgt := 79) hx hb dX5_counts_22 (by decide) (fun c_22 => ?_) (fun c_22 => ?_)
    ·
      refine lv_iconst (v := 1) hx hb dX5_counts_79 (by decide) ?_
      refine lv_goto (tgt := 84) hx hb dX5_counts_80 (by decide) ?_
      refine lv_istore_n (lv' := [(3, .int 1), (0, .ref (α 14)), (1, .int (nI i)), (2, .int (nI j))]) hx hb dX5_counts_84 rfl hl (by decide) rfl (fun ls hl => ?_)
      refine lv_iload_n hx hb dX5_counts_85 rfl (lv_at hl 0 rfl) ?_
      refine lv_if_ne (tgt := 93) hx hb dX5_counts_86 (by decide) (fun _ => ?_) (fun cc => absurd cc (by decide))
      refine lv_iconst (v := 0) hx hb dX5_counts_93 (by decide) ?_
      exact w_zretS X hr hlk (Or.inl rfl) (by simp [cnP, c_12, c_22]) dX5_counts_94
    ·
      refine lv_aload_n hx hb dX5_counts_25 rfl (lv_at hl 0 rfl) ?_
      refine fg5_22 X I (by omega) kfX5_56 dX5_counts_26 ?_
      refine lv_bipush (v := 6) hx hb dX5_counts_29 (by decide) ?_
      refine lv_iload_n hx hb dX5_counts_31 rfl (lv_at hl 1 rfl) ?_
      refine lv_imul hx hb dX5_counts_32 ?_
      refine w_eqi (y := nI (6 * i)) (pk_mul 6 _) ?_
      refine lv_iconst (v := 4) hx hb dX5_counts_33 (by decide) ?_
      refine lv_iadd hx hb dX5_counts_34 ?_
      refine w_eqi (y := nI (6 * i + 4)) (nI_add _ 4) ?_
      refine w_ld X I 29 (by omega) (n := 60) (k := 6 * i + 4) (fun _ _ _ => rfl) rfl (by omega) (by decide) dX5_counts_35 ?_
      refine lv_iconst (v := 1) hx hb dX5_counts_36 (by decide) ?_
      refine lv_icmp_ne (tgt := 49) hx hb dX5_counts_37 (by decide) (fun c_37 => ?_) (fun c_37 => ?_)
      ·
        refine lv_aload_n hx hb dX5_counts_49 rfl (lv_at hl 0 rfl) ?_
        refine fg5_22 X I (by omega) kfX5_56 dX5_counts_50 ?_
        refine lv_bipush (v := 6) hx hb dX5_counts_53 (by decide) ?_
        refine lv_iload_n hx hb dX5_counts_55 rfl (lv_at hl 1 rfl) ?_
        refine lv_imul hx hb dX5_counts_56 ?_
        refine w_eqi (y := nI (6 * i)) (pk_mul 6 _) ?_
        refine lv_iconst (v := 5) hx hb dX5_counts_57 (by decide) ?_
        refine lv_iadd hx hb dX5_counts_58 ?_
        refine w_eqi (y := nI (6 * i + 5)) (nI_add _ 5) ?_
        refine w_ld X I 29 (by omega) (n := 60) (k := 6 * i + 5) (fun _ _ _ => rfl) rfl (by omega) (by decide) dX5_counts_59 ?_
        refine lv_iconst (v := 1) hx hb dX5_counts_60 (by decide) ?_
        refine lv_icmp_ne (tgt := 83) hx hb dX5_counts_61 (by decide) (fun c_61 => ?_) (fun c_61 => ?_)
        ·
          refine lv_iconst (v := 0) hx hb dX5_counts_83 (by decide) ?_
          refine lv_istore_n (lv' := [(3, .int 0), (0, .ref (α 14)), (1, .int (nI i)), (2, .int (nI j))]) hx hb dX5_counts_84 rfl hl (by decide) rfl (fun ls hl => ?_)
          refine lv_iload_n hx hb dX5_counts_85 rfl (lv_at hl 0 rfl) ?_
          refine lv_if_ne (tgt := 93) hx hb dX5_counts_86 (by decide) (fun cc => absurd cc (by decide)) (fun _ => ?_)
          refine lv_iconst (v := 1) hx hb dX5_counts_89 (by decide) ?_
          refine lv_goto (tgt := 94) hx hb dX5_counts_90 (by decide) ?_
          exact w_zretS X hr hlk (Or.inr rfl) (by simp [cnP, c_12, c_22, c_37, c_61]) dX5_counts_94
        ·
          refine lv_aload_n hx hb dX5_counts_64 rfl (lv_at hl 0 rfl) ?_
          refine fg5_14 X I (by omega) kfX5_37 dX5_counts_65 ?_
          refine lv_sipush (v := 201) hx hb dX5_counts_68 (by decide) ?_
          refine lv_iload_n hx hb dX5_counts_71 rfl (lv_at hl 1 rfl) ?_
          refine lv_imul hx hb dX5_counts_72 ?_
          refine w_eqi (y := nI (201 * i)) (pk_mul 201 _) ?_
          refine lv_iload_n hx hb dX5_counts_73 rfl (lv_at hl 2 rfl) ?_
          refine lv_iadd hx hb dX5_counts_74 ?_
          refine w_eqi (y := nI (201 * i + j)) (nI_add _ _) ?_
          refine w_ld X I 24 (by omega) (n := 2010) (k := 201 * i + j) (fun _ _ _ => rfl) rfl (by omega) (by decide) dX5_counts_75 ?_
          refine lv_if_ge (tgt := 83) hx hb dX5_counts_76 (by decide) (fun c_76 => ?_) (fun c_76 => ?_)
          ·
            have c_76 : ¬ σ.1 24 (201 * i + j) = (-1) := fun z => absurd (hlt0.mpr z) (Int32.not_lt.mpr c_76)
            refine lv_iconst (v := 0) hx hb dX5_counts_83 (by decide) ?_
            refine lv_istore_n (lv' := [(3, .int 0), (0, .ref (α 14)), (1, .int (nI i)), (2, .int (nI j))]) hx hb dX5_counts_84 rfl hl (by decide) rfl (fun ls hl => ?_)
            refine lv_iload_n hx hb dX5_counts_85 rfl (lv_at hl 0 rfl) ?_
            refine lv_if_ne (tgt := 93) hx hb dX5_counts_86 (by decide) (fun cc => absurd cc (by decide)) (fun _ => ?_)
            refine lv_iconst (v := 1) hx hb dX5_counts_89 (by decide) ?_
            refine lv_goto (tgt := 94) hx hb dX5_counts_90 (by decide) ?_
            exact w_zretS X hr hlk (Or.inr rfl) (by simp [cnP, c_12, c_22, c_37, c_61, c_76]) dX5_counts_94
          ·
            have c_76 : σ.1 24 (201 * i + j) = (-1) := hlt0.mp (Int32.not_le.mp c_76)
            refine lv_iconst (v := 1) hx hb dX5_counts_79 (by decide) ?_
            refine lv_goto (tgt := 84) hx hb dX5_counts_80 (by decide) ?_
            refine lv_istore_n (lv' := [(3, .int 1), (0, .ref (α 14)), (1, .int (nI i)), (2, .int (nI j))]) hx hb dX5_counts_84 rfl hl (by decide) rfl (fun ls hl => ?_)
            refine lv_iload_n hx hb dX5_counts_85 rfl (lv_at hl 0 rfl) ?_
            refine lv_if_ne (tgt := 93) hx hb dX5_counts_86 (by decide) (fun _ => ?_) (fun cc => absurd cc (by decide))
            refine lv_iconst (v := 0) hx hb dX5_counts_93 (by decide) ?_
            exact w_zretS X hr hlk (Or.inl rfl) (by simp [cnP, c_12, c_22, c_37, c_61, c_76]) dX5_counts_94
      ·
        refine lv_iload_n hx hb dX5_counts_40 rfl (lv_at hl 2 rfl) ?_
        refine lv_bipush (v := 7) hx hb dX5_counts_41 (by decide) ?_
        refine lv_irem hx hb dX5_counts_43 (by decide) ?_
        refine lv_bipush (v := 6) hx hb dX5_counts_44 (by decide) ?_
        refine lv_icmp_eq (tgt := 79) hx hb dX5_counts_46 (by decide) (fun c_46 => ?_) (fun c_46 => ?_)
        ·
          refine lv_iconst (v := 1) hx hb dX5_counts_79 (by decide) ?_
          refine lv_goto (tgt := 84) hx hb dX5_counts_80 (by decide) ?_
          refine lv_istore_n (lv' := [(3, .int 1), (0, .ref (α 14)), (1, .int (nI i)), (2, .int (nI j))]) hx hb dX5_counts_84 rfl hl (by decide) rfl (fun ls hl => ?_)
          refine lv_iload_n hx hb dX5_counts_85 rfl (lv_at hl 0 rfl) ?_
          refine lv_if_ne (tgt := 93) hx hb dX5_counts_86 (by decide) (fun _ => ?_) (fun cc => absurd cc (by decide))
          refine lv_iconst (v := 0) hx hb dX5_counts_93 (by decide) ?_
          exact w_zretS X hr hlk (Or.inl rfl) (by simp [cnP, c_12, c_22, c_37, c_46]) dX5_counts_94
        ·
          refine lv_aload_n hx hb dX5_counts_49 rfl (lv_at hl 0 rfl) ?_
          refine fg5_22 X I (by omega) kfX5_56 dX5_counts_50 ?_
          refine lv_bipush (v := 6) hx hb dX5_counts_53 (by decide) ?_
          refine lv_iload_n hx hb dX5_counts_55 rfl (lv_at hl 1 rfl) ?_
          refine lv_imul hx hb dX5_counts_56 ?_
          refine w_eqi (y := nI (6 * i)) (pk_mul 6 _) ?_
          refine lv_iconst (v := 5) hx hb dX5_counts_57 (by decide) ?_
          refine lv_iadd hx hb dX5_counts_58 ?_
          refine w_eqi (y := nI (6 * i + 5)) (nI_add _ 5) ?_
          refine w_ld X I 29 (by omega) (n := 60) (k := 6 * i + 5) (fun _ _ _ => rfl) rfl (by omega) (by decide) dX5_counts_59 ?_
          refine lv_iconst (v := 1) hx hb dX5_counts_60 (by decide) ?_
          refine lv_icmp_ne (tgt := 83) hx hb dX5_counts_61 (by decide) (fun c_61 => ?_) (fun c_61 => ?_)
          ·
            refine lv_iconst (v := 0) hx hb dX5_counts_83 (by decide) ?_
            refine lv_istore_n (lv' := [(3, .int 0), (0, .ref (α 14)), (1, .int (nI i)), (2, .int (nI j))]) hx hb dX5_counts_84 rfl hl (by decide) rfl (fun ls hl => ?_)
            refine lv_iload_n hx hb dX5_counts_85 rfl (lv_at hl 0 rfl) ?_
            refine lv_if_ne (tgt := 93) hx hb dX5_counts_86 (by decide) (fun cc => absurd cc (by decide)) (fun _ => ?_)
            refine lv_iconst (v := 1) hx hb dX5_counts_89 (by decide) ?_
            refine lv_goto (tgt := 94) hx hb dX5_counts_90 (by decide) ?_
            exact w_zretS X hr hlk (Or.inr rfl) (by simp [cnP, c_12, c_22, c_37, c_46, c_61]) dX5_counts_94
          ·
            refine lv_aload_n hx hb dX5_counts_64 rfl (lv_at hl 0 rfl) ?_
            refine fg5_14 X I (by omega) kfX5_37 dX5_counts_65 ?_
            refine lv_sipush (v := 201) hx hb dX5_counts_68 (by decide) ?_
            refine lv_iload_n hx hb dX5_counts_71 rfl (lv_at hl 1 rfl) ?_
            refine lv_imul hx hb dX5_counts_72 ?_
            refine w_eqi (y := nI (201 * i)) (pk_mul 201 _) ?_
            refine lv_iload_n hx hb dX5_counts_73 rfl (lv_at hl 2 rfl) ?_
            refine lv_iadd hx hb dX5_counts_74 ?_
            refine w_eqi (y := nI (201 * i + j)) (nI_add _ _) ?_
            refine w_ld X I 24 (by omega) (n := 2010) (k := 201 * i + j) (fun _ _ _ => rfl) rfl (by omega) (by decide) dX5_counts_75 ?_
            refine lv_if_ge (tgt := 83) hx hb dX5_counts_76 (by decide) (fun c_76 => ?_) (fun c_76 => ?_)
            ·
              have c_76 : ¬ σ.1 24 (201 * i + j) = (-1) := fun z => absurd (hlt0.mpr z) (Int32.not_lt.mpr c_76)
              refine lv_iconst (v := 0) hx hb dX5_counts_83 (by decide) ?_
              refine lv_istore_n (lv' := [(3, .int 0), (0, .ref (α 14)), (1, .int (nI i)), (2, .int (nI j))]) hx hb dX5_counts_84 rfl hl (by decide) rfl (fun ls hl => ?_)
              refine lv_iload_n hx hb dX5_counts_85 rfl (lv_at hl 0 rfl) ?_
              refine lv_if_ne (tgt := 93) hx hb dX5_counts_86 (by decide) (fun cc => absurd cc (by decide)) (fun _ => ?_)
              refine lv_iconst (v := 1) hx hb dX5_counts_89 (by decide) ?_
              refine lv_goto (tgt := 94) hx hb dX5_counts_90 (by decide) ?_
              exact w_zretS X hr hlk (Or.inr rfl) (by simp [cnP, c_12, c_22, c_37, c_46, c_61, c_76]) dX5_counts_94
            ·
              have c_76 : σ.1 24 (201 * i + j) = (-1) := hlt0.mp (Int32.not_le.mp c_76)
              refine lv_iconst (v := 1) hx hb dX5_counts_79 (by decide) ?_
              refine lv_goto (tgt := 84) hx hb dX5_counts_80 (by decide) ?_
              refine lv_istore_n (lv' := [(3, .int 1), (0, .ref (α 14)), (1, .int (nI i)), (2, .int (nI j))]) hx hb dX5_counts_84 rfl hl (by decide) rfl (fun ls hl => ?_)
              refine lv_iload_n hx hb dX5_counts_85 rfl (lv_at hl 0 rfl) ?_
              refine lv_if_ne (tgt := 93) hx hb dX5_counts_86 (by decide) (fun _ => ?_) (fun cc => absurd cc (by decide))
              refine lv_iconst (v := 0) hx hb dX5_counts_93 (by decide) ?_
              exact w_zretS X hr hlk (Or.inl rfl) (by simp [cnP, c_12, c_22, c_37, c_46, c_61, c_76]) dX5_counts_94
end
section
variable {l : Launch} {g : wG} {α : Nat → Nat} {N : Nat} {σ : wS} {p : Program} {e : Env} {s : State} {m : MethodId} {args : Array Value} {below : List Frame} {meth : Method} {c : Code}
set_option maxHeartbeats 4000000 in
set_option maxRecDepth 100000 in
theorem ctX5_last (l : Launch) (g : wG) (α : Nat → Nat) (N : Nat) (σ : wS) (i d : Nat) (hN : 32 ≤ N) (hd : σ.1 14 2 = nI d) (hd200 : d ≤ 200) (hi : i < 10) : Met l yX5_last (wM yX5_last cX5_last 2 (some FieldType.int)) ({ frames := 1, cells := 0, slots := 0, locals := 21 } : Room) (wPc g α N σ [.ref (α 14), .int (nI i)]) (vp_Si (fun r => r = if ¬ σ.1 22 i = (-9) then σ.1 22 i else nI d - 1)) 0 0 (fun _ => False) := by
  refine w_enterS (by decide) (Nat.le_of_ble_eq_true rfl) (fun p e s m args below meth c X I hr hlk ls hl => ?_)
  have hx := X.1.1
  have hb := X.1.2.1
  have hl : lv_has ls 2 [(0, .ref (α 14)), (1, .int (nI i))] := hl
  refine lv_aload_n hx hb dX5_last_0 rfl (lv_at hl 0 rfl) ?_
  refine lv_iload_n hx hb dX5_last_1 rfl (lv_at hl 1 rfl) ?_
  refine w_vSi X I 14 (by omega) rfl rfl (As := [.int (nI i)]) (rest := []) (ctX5_isLoaded l g α N σ i hN hi) (wM_V kmX5_98 ki_X5_isLoaded ks_X5_isLoaded kn_X5 kc_X5_isLoaded) rfl rfl (n := 1) (by decide +kernel) rfl ⟨by decide, by decide⟩ hl.1 rfl (Nat.le_of_ble_eq_true rfl) ⟨Nat.zero_le _, Nat.zero_le _⟩ dX5_last_2 (fun r_2 q_2 => ?_)
  by_cases p_2 : ¬ σ.1 22 i = (-9)
  ·
    obtain rfl : r_2 = 1 := Eq.trans q_2 (if_pos p_2)
    refine lv_if_eq (tgt := 17) hx hb dX5_last_5 (by decide) (fun cc => absurd cc (by decide)) (fun _ => ?_)
    refine lv_aload_n hx hb dX5_last_8 rfl (lv_at hl 0 rfl) ?_
    refine fg5_12 X I (by omega) kfX5_31 dX5_last_9 ?_
    refine lv_iload_n hx hb dX5_last_12 rfl (lv_at hl 1 rfl) ?_
    refine w_ld X I 22 (by omega) (n := 10) (k := i) (fun _ _ _ => rfl) rfl (by omega) (by decide) dX5_last_13 ?_
    refine lv_goto (tgt := 23) hx hb dX5_last_14 (by decide) ?_
    exact w_iretS X hr hlk (by simp [p_2]) dX5_last_23
  ·
    obtain rfl : r_2 = 0 := Eq.trans q_2 (if_neg p_2)
    refine lv_if_eq (tgt := 17) hx hb dX5_last_5 (by decide) (fun _ => ?_) (fun cc => absurd cc (by decide))
    refine lv_aload_n hx hb dX5_last_17 rfl (lv_at hl 0 rfl) ?_
    refine fg5_2 X I (by omega) kfX5_76 dX5_last_18 ?_
    refine w_eqi (y := nI d) hd ?_
    refine lv_iconst (v := 1) hx hb dX5_last_21 (by decide) ?_
    refine lv_isub hx hb dX5_last_22 ?_
    exact w_iretS X hr hlk (by simp [p_2]) dX5_last_23
end
section
variable {l : Launch} {g : wG} {α : Nat → Nat} {N : Nat} {σ : wS} {p : Program} {e : Env} {s : State} {m : MethodId} {args : Array Value} {below : List Frame} {meth : Method} {c : Code}
set_option maxHeartbeats 4000000 in
set_option maxRecDepth 100000 in
theorem lpX5_usedOf_9 (i d a0 e2 : Nat) (X : wX p s m args c cX5_usedOf 4 RX5 g) (I : wI g α N (fun _ => True) s.heap s.heap [] σ) (hr : meth.sig.returnType = (some FieldType.int)) (hlk : meth.locks = false) (hN : 32 ≤ N) (hd : σ.1 14 2 = nI d) (hd200 : d ≤ 200) (hi : i < 10) (hlast : (if ¬ σ.1 22 i = (-9) then σ.1 22 i else nI d - 1) = nI e2 - 1) (hae : a0 ≤ e2) (hed : e2 ≤ d) (har : σ.1 19 i = nI a0) (hge : ∀ j, j < d → (σ.1 24 (201 * i + j) = (-1) ∨ ¬ σ.1 24 (201 * i + j) < 0)) : ∀ (fu : Nat) (t : Nat) (acc : Int32), e2 + 1 ≤ a0 + t + fu → a0 + t ≤ e2 → acc = smI (inF (fun l => σ.1 29 (6 * i + l)) (σ.1 15) (fun l => σ.1 24 (201 * i + l)) a0) t → ∀ ls : Array Slot, lv_has ls 4 [(0, .ref (α 14)), (1, .int (nI i)), (2, .int acc), (3, .int (nI (a0 + t)))] → W p l e ({ frames := 2, cells := 0, slots := 0, locals := 42 } : Room) s m args below meth c s.heap [] 0 0 (MQ below (vp_Si (fun r => r = usF (fun l => σ.1 29 (6 * i + l)) (σ.1 15) (fun l => σ.1 24 (201 * i + l)) a0 e2)) args s 0 0 (fun _ => False)) (F0 m 9 ls []) := by
  have hx := X.1.1
  have hb := X.1.2.1
  intro fu
  induction fu with
  | zero =>
    intro t acc hfu hk ha
    exact absurd hfu (by omega)
  | succ fu ih =>
    intro t acc hfu hk ha ls hl
    refine lv_iload_n hx hb dX5_usedOf_9 rfl (lv_at hl 3 rfl) ?_
    refine lv_aload_n hx hb dX5_usedOf_10 rfl (lv_at hl 0 rfl) ?_
    refine lv_iload_n hx hb dX5_usedOf_11 rfl (lv_at hl 1 rfl) ?_
    refine w_vSi X I 14 (by omega) rfl rfl (As := [.int (nI i)]) (rest := [.int (nI (a0 + t))]) (ctX5_last l g α N σ i d hN hd hd200 hi) (wM_V kmX5_129 ki_X5_last ks_X5_last kn_X5 kc_X5_last) rfl rfl (n := 1) (by decide +kernel) rfl ⟨by decide, by decide⟩ hl.1 rfl (Nat.le_of_ble_eq_true rfl) ⟨Nat.zero_le _, Nat.zero_le _⟩ dX5_usedOf_12 (fun r_12 q_12 => ?_)
    replace q_12 : r_12 = if ¬ σ.1 22 i = (-9) then σ.1 22 i else nI d - 1 := q_12
    subst q_12
    refine w_eqi (y := nI e2 - 1) hlast ?_
    refine lv_icmp_gt (tgt := 41) hx hb dX5_usedOf_15 (by decide) (fun c_15 => ?_) (fun c_15 => ?_)
    ·
      have e : a0 + t = e2 := by have := (m1_lt (by omega) (by omega)).mp c_15; omega
      refine lv_iload_n hx hb dX5_usedOf_41 rfl (lv_at hl 2 rfl) ?_
      exact w_iretS X hr hlk (by rw [ha, usF, ← e, Nat.add_sub_cancel_left]) dX5_usedOf_42
    ·
      have hlt : a0 + t < e2 := Nat.lt_of_not_le (fun z => c_15 ((m1_lt (by omega) (by omega)).mpr z))
      refine lv_iload_n hx hb dX5_usedOf_18 rfl (lv_at hl 2 rfl) ?_
      refine lv_aload_n hx hb dX5_usedOf_19 rfl (lv_at hl 0 rfl) ?_
      refine lv_iload_n hx hb dX5_usedOf_20 rfl (lv_at hl 1 rfl) ?_
      refine lv_iload_n hx hb dX5_usedOf_21 rfl (lv_at hl 3 rfl) ?_
      refine w_vSi X I 14 (by omega) rfl rfl (As := [.int (nI i), .int (nI (a0 + t))]) (rest := [.int acc]) (ctX5_counts l g α N σ i (a0 + t) hN hi (by omega) (hge _ (by omega))) (wM_V kmX5_132 ki_X5_counts ks_X5_counts kn_X5 kc_X5_counts) rfl rfl (n := 2) (by decide +kernel) rfl ⟨by decide, by decide⟩ hl.1 rfl (Nat.le_of_ble_eq_true rfl) ⟨Nat.zero_le _, Nat.zero_le _⟩ dX5_usedOf_22 (fun r_22 q_22 => ?_)
      by_cases p_22 : cnP (fun l => σ.1 29 (6 * i + l)) (σ.1 15) (fun l => σ.1 24 (201 * i + l)) (a0 + t)
      ·
        obtain rfl : r_22 = 1 := Eq.trans q_22 (if_pos p_22)
        refine lv_if_eq (tgt := 32) hx hb dX5_usedOf_25 (by decide) (fun cc => absurd cc (by decide)) (fun _ => ?_)
        refine lv_iconst (v := 1) hx hb dX5_usedOf_28 (by decide) ?_
        refine lv_goto (tgt := 33) hx hb dX5_usedOf_29 (by decide) ?_
        refine lv_iadd hx hb dX5_usedOf_33 ?_
        refine lv_istore_n (lv' := [(2, .int (acc + 1)), (0, .ref (α 14)), (1, .int (nI i)), (3, .int (nI (a0 + t)))]) hx hb dX5_usedOf_34 rfl hl (by decide) rfl (fun ls hl => ?_)
        refine lv_iinc (v := nI ((a0 + t) + 1)) (lv' := [(3, .int (nI ((a0 + t) + 1))), (2, .int (acc + 1)), (0, .ref (α 14)), (1, .int (nI i))]) hx hb dX5_usedOf_35 hl (k := 3) rfl (nI_1 _) (by decide) rfl (fun ls hl => ?_)
        refine lv_goto (tgt := 9) hx hb dX5_usedOf_38 (by decide) ?_
        exact ih (t + 1) (acc + 1) (by omega) (by omega) (by rw [ha, smI, inF]; first | rw [if_pos p_22] | rw [if_neg p_22]) ls (lv_sub hl [2, 3, 1, 0] rfl)
      ·
        obtain rfl : r_22 = 0 := Eq.trans q_22 (if_neg p_22)
        refine lv_if_eq (tgt := 32) hx hb dX5_usedOf_25 (by decide) (fun _ => ?_) (fun cc => absurd cc (by decide))
        refine lv_iconst (v := 0) hx hb dX5_usedOf_32 (by decide) ?_
        refine lv_iadd hx hb dX5_usedOf_33 ?_
        refine lv_istore_n (lv' := [(2, .int (acc + 0)), (0, .ref (α 14)), (1, .int (nI i)), (3, .int (nI (a0 + t)))]) hx hb dX5_usedOf_34 rfl hl (by decide) rfl (fun ls hl => ?_)
        refine lv_iinc (v := nI ((a0 + t) + 1)) (lv' := [(3, .int (nI ((a0 + t) + 1))), (2, .int (acc + 0)), (0, .ref (α 14)), (1, .int (nI i))]) hx hb dX5_usedOf_35 hl (k := 3) rfl (nI_1 _) (by decide) rfl (fun ls hl => ?_)
        refine lv_goto (tgt := 9) hx hb dX5_usedOf_38 (by decide) ?_
        exact ih (t + 1) (acc + 0) (by omega) (by omega) (by rw [ha, smI, inF]; first | rw [if_pos p_22] | rw [if_neg p_22]) ls (lv_sub hl [2, 3, 1, 0] rfl)
set_option maxHeartbeats 4000000 in
set_option maxRecDepth 100000 in
theorem ctX5_usedOf (l : Launch) (g : wG) (α : Nat → Nat) (N : Nat) (σ : wS) (i d a0 e2 : Nat) (hN : 32 ≤ N) (hd : σ.1 14 2 = nI d) (hd200 : d ≤ 200) (hi : i < 10) (hlast : (if ¬ σ.1 22 i = (-9) then σ.1 22 i else nI d - 1) = nI e2 - 1) (hae : a0 ≤ e2) (hed : e2 ≤ d) (har : σ.1 19 i = nI a0) (hge : ∀ j, j < d → (σ.1 24 (201 * i + j) = (-1) ∨ ¬ σ.1 24 (201 * i + j) < 0)) : Met l yX5_usedOf (wM yX5_usedOf cX5_usedOf 4 (some FieldType.int)) ({ frames := 2, cells := 0, slots := 0, locals := 42 } : Room) (wPc g α N σ [.ref (α 14), .int (nI i)]) (vp_Si (fun r => r = usF (fun l => σ.1 29 (6 * i + l)) (σ.1 15) (fun l => σ.1 24 (201 * i + l)) a0 e2)) 0 0 (fun _ => False) := by
  refine w_enterS (by decide) (Nat.le_of_ble_eq_true rfl) (fun p e s m args below meth c X I hr hlk ls hl => ?_)
  have hx := X.1.1
  have hb := X.1.2.1
  have hl : lv_has ls 4 [(0, .ref (α 14)), (1, .int (nI i))] := hl
  refine lv_iconst (v := 0) hx hb dX5_usedOf_0 (by decide) ?_
  refine lv_istore_n (lv' := [(2, .int 0), (0, .ref (α 14)), (1, .int (nI i))]) hx hb dX5_usedOf_1 rfl hl (by decide) rfl (fun ls hl => ?_)
  refine lv_aload_n hx hb dX5_usedOf_2 rfl (lv_at hl 1 rfl) ?_
  refine fg5_9 X I (by omega) kfX5_22 dX5_usedOf_3 ?_
  refine lv_iload_n hx hb dX5_usedOf_6 rfl (lv_at hl 2 rfl) ?_
  refine w_ld X I 19 (by omega) (n := 10) (k := i) (fun _ _ _ => rfl) rfl (by omega) (by decide) dX5_usedOf_7 ?_
  refine w_eqi (y := nI a0) har ?_
  refine lv_istore_n (lv' := [(3, .int (nI a0)), (2, .int 0), (0, .ref (α 14)), (1, .int (nI i))]) hx hb dX5_usedOf_8 rfl hl (by decide) rfl (fun ls hl => ?_)
  exact lpX5_usedOf_9 i d a0 e2 X I hr hlk hN hd hd200 hi hlast hae hed har hge  (e2 + 1) 0 0 (by omega) (by omega) rfl ls (lv_sub hl [2, 3, 1, 0] rfl)
end
section
variable {l : Launch} {g : wG} {α : Nat → Nat} {N : Nat} {σ : wS} {p : Program} {e : Env} {s : State} {m : MethodId} {args : Array Value} {below : List Frame} {meth : Method} {c : Code}
set_option maxHeartbeats 4000000 in
set_option maxRecDepth 100000 in
theorem ctX5_owed (l : Launch) (g : wG) (α : Nat → Nat) (N : Nat) (σ : wS) (sz : Nat) (a b : Int32) (n d : Nat) (ar en : Nat → Nat) (hn : σ.1 14 7 = nI n) (hn10 : n ≤ 10) (hN : 32 ≤ N) (hd : σ.1 14 2 = nI d) (hd200 : d ≤ 200) (hae : ∀ k, k < n → ar k ≤ en k) (hed : ∀ k, k < n → en k ≤ d) (har : ∀ k, k < n → σ.1 19 k = nI (ar k)) (hlast : ∀ k, k < n → (if ¬ σ.1 22 k = (-9) then σ.1 22 k else nI d - 1) = nI (en k) - 1) (hge : ∀ k, k < n → ∀ j, j < d → (σ.1 24 (201 * k + j) = (-1) ∨ ¬ σ.1 24 (201 * k + j) < 0)) : Met l yX5_owed (wM yX5_owed cX5_owed 5 (some FieldType.int)) ({ frames := 3, cells := 0, slots := 0, locals := 65 } : Room) (wPs g α N sz σ [.ref (α 14), .int a, .int b]) (va_Qi (fun r τ => r = spq n a (-1000000) (fun k => if ¬ b < 0 ∧ ¬ 1 < b then (if b = 0 then usF (fun l => σ.1 29 (6 * k + l)) (σ.1 15) (fun l => σ.1 24 (201 * k + l)) (ar k) (en k) else owF (usF (fun l => σ.1 29 (6 * k + l)) (σ.1 15) (fun l => σ.1 24 (201 * k + l)) (ar k) (en k)) (fun l => σ.1 29 (6 * k + l)) (¬ σ.1 22 k = (-9))) else (-1000000)) ∧ τ = wu σ 14 0 0) (wB g α N) (wA α N sz)) 0 0 (wA α N sz) := by
  refine w_enter (by decide) (Nat.le_of_ble_eq_true rfl) (fun p e s m args below meth c hsz X I hr hlk ls hl => ?_)
  have hA : ∀ q, s.heap.size ≤ q → wA α N sz q := fun q h => Or.inr (by omega)
  have hx := X.1.1
  have hb := X.1.2.1
  have hl : lv_has ls 5 [(0, .ref (α 14)), (1, .int a), (2, .int b)] := hl
  refine lv_aload_n hx hb dX5_owed_0 rfl (lv_at hl 0 rfl) ?_
  refine lv_iconst (v := 0) hx hb dX5_owed_1 (by decide) ?_
  refine fp5_0 X I (by omega) kfX5_66 dX5_owed_2 (fun H locs I => ?_)
  refine lv_aload_n hx hb dX5_owed_5 rfl (lv_at hl 0 rfl) ?_
  refine lv_iload_n hx hb dX5_owed_6 rfl (lv_at hl 1 rfl) ?_
  refine w_vSi X I 14 (by omega) rfl rfl (As := [.int a]) (rest := []) (ctX5_isShip l g α N (wu σ 14 0 0) a n hN hn) (wM_V kmX5_82 ki_X5_isShip ks_X5_isShip kn_X5 kc_X5_isShip) rfl rfl (n := 1) (by decide +kernel) rfl ⟨by decide, by decide⟩ hl.1 rfl (Nat.le_of_ble_eq_true rfl) ⟨Nat.zero_le _, Nat.zero_le _⟩ dX5_owed_7 (fun r_7 q_7 => ?_)
  by_cases p_7 : ¬ a < 0 ∧ ¬ nI n - 1 < a
  ·
    obtain rfl : r_7 = 1 := Eq.trans q_7 (if_pos p_7)
    obtain ⟨k, hk, rfl⟩ := m1_ok (n := n) (by omega) p_7
    refine lv_if_eq (tgt := 22) hx hb dX5_owed_10 (by decide) (fun cc => absurd cc (by decide)) (fun _ => ?_)
    refine lv_iload_n hx hb dX5_owed_13 rfl (lv_at hl 2 rfl) ?_
    refine lv_iconst (v := 0) hx hb dX5_owed_14 (by decide) ?_
    refine lv_iconst (v := 1) hx hb dX5_owed_15 (by decide) ?_
    refine w_sSi X I (As := [.int b, .int 0, .int 1]) (rest := []) (ctX5_in l g α N (wu σ 14 0 0) _ _ _ ) (wM_S kmX5_69 kt_X5_in kn_X5 kc_X5_in) rfl rfl (n := 3) (by decide +kernel) rfl ⟨by decide, by decide⟩ hl.1 rfl (Nat.le_of_ble_eq_true rfl) ⟨Nat.zero_le _, Nat.zero_le _⟩ dX5_owed_16 (fun r_16 q_16 => ?_)
    by_cases p_16 : ¬ b < 0 ∧ ¬ 1 < b
    ·
      obtain rfl : r_16 = 1 := Eq.trans q_16 (if_pos p_16)
      refine lv_if_ne (tgt := 25) hx hb dX5_owed_19 (by decide) (fun _ => ?_) (fun cc => absurd cc (by decide))
      refine lv_aload_n hx hb dX5_owed_25 rfl (lv_at hl 0 rfl) ?_
      refine lv_iload_n hx hb dX5_owed_26 rfl (lv_at hl 1 rfl) ?_
      refine w_vSi X I 14 (by omega) rfl rfl (As := [.int (nI k)]) (rest := []) (ctX5_usedOf l g α N (wu σ 14 0 0) k d (ar k) (en k) hN hd hd200 (by omega) (hlast k hk) (hae k hk) (hed k hk) (har k hk) (hge k hk)) (wM_V kmX5_137 ki_X5_usedOf ks_X5_usedOf kn_X5 kc_X5_usedOf) rfl rfl (n := 1) (by decide +kernel) rfl ⟨by decide, by decide⟩ hl.1 rfl (Nat.le_of_ble_eq_true rfl) ⟨Nat.zero_le _, Nat.zero_le _⟩ dX5_owed_27 (fun r_27 q_27 => ?_)
      replace q_27 : r_27 = usF (fun l => σ.1 29 (6 * k + l)) (σ.1 15) (fun l => σ.1 24 (201 * k + l)) (ar k) (en k) := q_27
      subst q_27
      refine lv_istore_n (lv' := [(3, .int (usF (fun l => σ.1 29 (6 * k + l)) (σ.1 15) (fun l => σ.1 24 (201 * k + l)) (ar k) (en k))), (0, .ref (α 14)), (1, .int (nI k)), (2, .int b)]) hx hb dX5_owed_30 rfl hl (by decide) rfl (fun ls hl => ?_)
      refine lv_iload_n hx hb dX5_owed_31 rfl (lv_at hl 0 rfl) ?_
      refine lv_aload_n hx hb dX5_owed_32 rfl (lv_at hl 1 rfl) ?_
      refine fg5_22 X I (by omega) kfX5_56 dX5_owed_33 ?_
      refine lv_bipush (v := 6) hx hb dX5_owed_36 (by decide) ?_
      refine lv_iload_n hx hb dX5_owed_38 rfl (lv_at hl 2 rfl) ?_
      refine lv_imul hx hb dX5_owed_39 ?_
      refine w_eqi (y := nI (6 * k)) (pk_mul 6 _) ?_
      refine w_ld X I 29 (by omega) (n := 60) (k := 6 * k) (fun _ _ _ => rfl) rfl (by omega) (by decide) dX5_owed_40 ?_
      refine w_eqi (y := σ.1 29 (6 * k)) (wu_o (by decide)) ?_
      refine lv_isub hx hb dX5_owed_41 ?_
      refine lv_istore (lv' := [(4, .int ((usF (fun l => σ.1 29 (6 * k + l)) (σ.1 15) (fun l => σ.1 24 (201 * k + l)) (ar k) (en k)) - (σ.1 29 (6 * k)))), (3, .int (usF (fun l => σ.1 29 (6 * k + l)) (σ.1 15) (fun l => σ.1 24 (201 * k + l)) (ar k) (en k))), (0, .ref (α 14)), (1, .int (nI k)), (2, .int b)]) hx hb dX5_owed_42 hl (by decide) rfl (fun ls hl => ?_)
      refine lv_iload_n hx hb dX5_owed_44 rfl (lv_at hl 4 rfl) ?_
      refine lv_if_ne (tgt := 52) hx hb dX5_owed_45 (by decide) (fun c_45 => ?_) (fun c_45 => ?_)
      ·
        refine lv_iload hx hb dX5_owed_52 (lv_at hl 0 rfl) ?_
        refine lv_if_le (tgt := 74) hx hb dX5_owed_54 (by decide) (fun c_54 => ?_) (fun c_54 => ?_)
        ·
          have c_54 : ¬ 0 < usF (fun l => σ.1 29 (6 * k + l)) (σ.1 15) (fun l => σ.1 24 (201 * k + l)) (ar k) (en k) - σ.1 29 (6 * k + 0) := Int32.not_lt.mpr c_54
          refine lv_aload_n hx hb dX5_owed_74 rfl (lv_at hl 2 rfl) ?_
          refine lv_iload_n hx hb dX5_owed_75 rfl (lv_at hl 3 rfl) ?_
          refine w_vSi X I 14 (by omega) rfl rfl (As := [.int (nI k)]) (rest := []) (ctX5_isLoaded l g α N (wu σ 14 0 0) k hN (by omega)) (wM_V kmX5_98 ki_X5_isLoaded ks_X5_isLoaded kn_X5 kc_X5_isLoaded) rfl rfl (n := 1) (by decide +kernel) rfl ⟨by decide, by decide⟩ hl.1 rfl (Nat.le_of_ble_eq_true rfl) ⟨Nat.zero_le _, Nat.zero_le _⟩ dX5_owed_76 (fun r_76 q_76 => ?_)
          by_cases p_76 : ¬ σ.1 22 k = (-9)
          ·
            obtain rfl : r_76 = 1 := Eq.trans q_76 (if_pos p_76)
            refine lv_if_eq (tgt := 99) hx hb dX5_owed_79 (by decide) (fun cc => absurd cc (by decide)) (fun _ => ?_)
            refine lv_iload hx hb dX5_owed_82 (lv_at hl 0 rfl) ?_
            refine lv_aload_n hx hb dX5_owed_84 rfl (lv_at hl 2 rfl) ?_
            refine fg5_22 X I (by omega) kfX5_56 dX5_owed_85 ?_
            refine lv_bipush (v := 6) hx hb dX5_owed_88 (by decide) ?_
            refine lv_iload_n hx hb dX5_owed_90 rfl (lv_at hl 3 rfl) ?_
            refine lv_imul hx hb dX5_owed_91 ?_
            refine w_eqi (y := nI (6 * k)) (pk_mul 6 _) ?_
            refine lv_iconst (v := 2) hx hb dX5_owed_92 (by decide) ?_
            refine lv_iadd hx hb dX5_owed_93 ?_
            refine w_eqi (y := nI (6 * k + 2)) (nI_add _ 2) ?_
            refine w_ld X I 29 (by omega) (n := 60) (k := 6 * k + 2) (fun _ _ _ => rfl) rfl (by omega) (by decide) dX5_owed_94 ?_
            refine w_eqi (y := σ.1 29 (6 * k + 2)) (wu_o (by decide)) ?_
            refine lv_imul hx hb dX5_owed_95 ?_
            refine lv_goto (tgt := 100) hx hb dX5_owed_96 (by decide) ?_
            exact w_iret X I hr hlk (⟨by first | exact (spq_bad hbad).symm | (rw [spq_ok hk (by omega), if_neg p_16]; done) | (rw [spq_ok hk (by omega), if_pos p_16, if_pos c_45]; done) | (rw [spq_ok hk (by omega), if_pos p_16, if_neg c_45, owF, if_pos c_54]; done) | (rw [spq_ok hk (by omega), if_pos p_16, if_neg c_45, owF, if_pos c_54]; rfl) | (rw [spq_ok hk (by omega), if_pos p_16, if_neg c_45, owF, if_neg c_54, if_pos p_76]; done) | (rw [spq_ok hk (by omega), if_pos p_16, if_neg c_45, owF, if_neg c_54, if_pos p_76]; rfl) | (rw [spq_ok hk (by omega), if_pos p_16, if_neg c_45, owF, if_neg c_54, if_neg p_76]; done), rfl⟩) dX5_owed_100
          ·
            obtain rfl : r_76 = 0 := Eq.trans q_76 (if_neg p_76)
            refine lv_if_eq (tgt := 99) hx hb dX5_owed_79 (by decide) (fun _ => ?_) (fun cc => absurd cc (by decide))
            refine lv_iconst (v := 0) hx hb dX5_owed_99 (by decide) ?_
            exact w_iret X I hr hlk (⟨by first | exact (spq_bad hbad).symm | (rw [spq_ok hk (by omega), if_neg p_16]; done) | (rw [spq_ok hk (by omega), if_pos p_16, if_pos c_45]; done) | (rw [spq_ok hk (by omega), if_pos p_16, if_neg c_45, owF, if_pos c_54]; done) | (rw [spq_ok hk (by omega), if_pos p_16, if_neg c_45, owF, if_pos c_54]; rfl) | (rw [spq_ok hk (by omega), if_pos p_16, if_neg c_45, owF, if_neg c_54, if_pos p_76]; done) | (rw [spq_ok hk (by omega), if_pos p_16, if_neg c_45, owF, if_neg c_54, if_pos p_76]; rfl) | (rw [spq_ok hk (by omega), if_pos p_16, if_neg c_45, owF, if_neg c_54, if_neg p_76]; done), rfl⟩) dX5_owed_100
        ·
          have c_54 : 0 < usF (fun l => σ.1 29 (6 * k + l)) (σ.1 15) (fun l => σ.1 24 (201 * k + l)) (ar k) (en k) - σ.1 29 (6 * k + 0) := Int32.not_le.mp c_54
          refine lv_iload hx hb dX5_owed_57 (lv_at hl 0 rfl) ?_
          refine lv_aload_n hx hb dX5_owed_59 rfl (lv_at hl 2 rfl) ?_
          refine fg5_22 X I (by omega) kfX5_56 dX5_owed_60 ?_
          refine lv_bipush (v := 6) hx hb dX5_owed_63 (by decide) ?_
          refine lv_iload_n hx hb dX5_owed_65 rfl (lv_at hl 3 rfl) ?_
          refine lv_imul hx hb dX5_owed_66 ?_
          refine w_eqi (y := nI (6 * k)) (pk_mul 6 _) ?_
          refine lv_iconst (v := 1) hx hb dX5_owed_67 (by decide) ?_
          refine lv_iadd hx hb dX5_owed_68 ?_
          refine w_eqi (y := nI (6 * k + 1)) (nI_add _ 1) ?_
          refine w_ld X I 29 (by omega) (n := 60) (k := 6 * k + 1) (fun _ _ _ => rfl) rfl (by omega) (by decide) dX5_owed_69 ?_
          refine w_eqi (y := σ.1 29 (6 * k + 1)) (wu_o (by decide)) ?_
          refine lv_imul hx hb dX5_owed_70 ?_
          refine lv_goto (tgt := 100) hx hb dX5_owed_71 (by decide) ?_
          exact w_iret X I hr hlk (⟨by first | exact (spq_bad hbad).symm | (rw [spq_ok hk (by omega), if_neg p_16]; done) | (rw [spq_ok hk (by omega), if_pos p_16, if_pos c_45]; done) | (rw [spq_ok hk (by omega), if_pos p_16, if_neg c_45, owF, if_pos c_54]; done) | (rw [spq_ok hk (by omega), if_pos p_16, if_neg c_45, owF, if_pos c_54]; rfl) | (rw [spq_ok hk (by omega), if_pos p_16, if_neg c_45, owF, if_neg c_54, if_pos p_76]; done) | (rw [spq_ok hk (by omega), if_pos p_16, if_neg c_45, owF, if_neg c_54, if_pos p_76]; rfl) | (rw [spq_ok hk (by omega), if_pos p_16, if_neg c_45, owF, if_neg c_54, if_neg p_76]; done), rfl⟩) dX5_owed_100
      ·
        refine lv_iload_n hx hb dX5_owed_48 rfl (lv_at hl 1 rfl) ?_
        refine lv_goto (tgt := 100) hx hb dX5_owed_49 (by decide) ?_
        exact w_iret X I hr hlk (⟨by first | exact (spq_bad hbad).symm | (rw [spq_ok hk (by omega), if_neg p_16]; done) | (rw [spq_ok hk (by omega), if_pos p_16, if_pos c_45]; done) | (rw [spq_ok hk (by omega), if_pos p_16, if_neg c_45, owF, if_pos c_54]; done) | (rw [spq_ok hk (by omega), if_pos p_16, if_neg c_45, owF, if_pos c_54]; rfl) | (rw [spq_ok hk (by omega), if_pos p_16, if_neg c_45, owF, if_neg c_54, if_pos p_76]; done) | (rw [spq_ok hk (by omega), if_pos p_16, if_neg c_45, owF, if_neg c_54, if_pos p_76]; rfl) | (rw [spq_ok hk (by omega), if_pos p_16, if_neg c_45, owF, if_neg c_54, if_neg p_76]; done), rfl⟩) dX5_owed_100
    ·
      obtain rfl : r_16 = 0 := Eq.trans q_16 (if_neg p_16)
      refine lv_if_ne (tgt := 25) hx hb dX5_owed_19 (by decide) (fun cc => absurd cc (by decide)) (fun _ => ?_)
      refine lv_ldc hx hb X.1.2.2.2.1 (X.1.2.2.2.2 _ kkX5_136) dX5_owed_22 ?_
      exact w_iret X I hr hlk (⟨by first | exact (spq_bad hbad).symm | (rw [spq_ok hk (by omega), if_neg p_16]; done) | (rw [spq_ok hk (by omega), if_pos p_16, if_pos c_45]; done) | (rw [spq_ok hk (by omega), if_pos p_16, if_neg c_45, owF, if_pos c_54]; done) | (rw [spq_ok hk (by omega), if_pos p_16, if_neg c_45, owF, if_pos c_54]; rfl) | (rw [spq_ok hk (by omega), if_pos p_16, if_neg c_45, owF, if_neg c_54, if_pos p_76]; done) | (rw [spq_ok hk (by omega), if_pos p_16, if_neg c_45, owF, if_neg c_54, if_pos p_76]; rfl) | (rw [spq_ok hk (by omega), if_pos p_16, if_neg c_45, owF, if_neg c_54, if_neg p_76]; done), rfl⟩) dX5_owed_24
  ·
    obtain rfl : r_7 = 0 := Eq.trans q_7 (if_neg p_7)
    have hbad := m1_bad (n := n) (by omega) p_7
    refine lv_if_eq (tgt := 22) hx hb dX5_owed_10 (by decide) (fun _ => ?_) (fun cc => absurd cc (by decide))
    refine lv_ldc hx hb X.1.2.2.2.1 (X.1.2.2.2.2 _ kkX5_136) dX5_owed_22 ?_
    exact w_iret X I hr hlk (⟨by first | exact (spq_bad hbad).symm | (rw [spq_ok hk (by omega), if_neg p_16]; done) | (rw [spq_ok hk (by omega), if_pos p_16, if_pos c_45]; done) | (rw [spq_ok hk (by omega), if_pos p_16, if_neg c_45, owF, if_pos c_54]; done) | (rw [spq_ok hk (by omega), if_pos p_16, if_neg c_45, owF, if_pos c_54]; rfl) | (rw [spq_ok hk (by omega), if_pos p_16, if_neg c_45, owF, if_neg c_54, if_pos p_76]; done) | (rw [spq_ok hk (by omega), if_pos p_16, if_neg c_45, owF, if_neg c_54, if_pos p_76]; rfl) | (rw [spq_ok hk (by omega), if_pos p_16, if_neg c_45, owF, if_neg c_54, if_neg p_76]; done), rfl⟩) dX5_owed_24
end
section
variable {l : Launch} {g : wG} {α : Nat → Nat} {N : Nat} {σ : wS} {p : Program} {e : Env} {s : State} {m : MethodId} {args : Array Value} {below : List Frame} {meth : Method} {c : Code}
set_option maxHeartbeats 4000000 in
set_option maxRecDepth 100000 in
theorem lpX5_shared_37 {sz : Nat} (a b : Int32) (n d : Nat) (ar en : Nat → Nat) (X : wX p s m args c cX5_shared 7 RX5 g) (hsz : s.heap.size = sz) (hr : meth.sig.returnType = (some FieldType.int)) (hlk : meth.locks = false) (hn : σ.1 14 7 = nI n) (hn10 : n ≤ 10) (hN : 32 ≤ N) (hd : σ.1 14 2 = nI d) (hd200 : d ≤ 200) (hae : ∀ k, k < n → ar k ≤ en k) (hed : ∀ k, k < n → en k ≤ d) (har : ∀ k, k < n → σ.1 19 k = nI (ar k)) (hlast : ∀ k, k < n → (if ¬ σ.1 22 k = (-9) then σ.1 22 k else nI d - 1) = nI (en k) - 1) (hge : ∀ k, k < n → ∀ j, j < d → (σ.1 24 (201 * k + j) = (-1) ∨ ¬ σ.1 24 (201 * k + j) < 0)) : ∀ (fu : Nat) (k : Nat) (t : Nat) (co : Int32) (fo : Int32), en k + 1 ≤ ar k + t + fu → k < n → ¬ b < 0 ∧ ¬ 2 < b → a = nI k → ar k + t ≤ en k → co = smI (inF (fun l => σ.1 29 (6 * k + l)) (σ.1 15) (fun l => σ.1 24 (201 * k + l)) (ar k)) t → fo = smI (shG (fun l => σ.1 29 (6 * k + l)) (σ.1 15) (fun l => σ.1 24 (201 * k + l)) b (ar k)) t → ∀ (H : Heap) (locs : List Loc), wI g α N (wA α N sz) s.heap H locs (wu σ 14 0 0) → ∀ ls : Array Slot, lv_has ls 7 [(0, .ref (α 14)), (1, .int (nI k)), (2, .int b), (3, .int co), (4, .int fo), (5, .int (nI (ar k + t)))] → W p l e ({ frames := 2, cells := 0, slots := 0, locals := 43 } : Room) s m args below meth c H locs 0 0 (MQ below (va_Qi (fun r τ => r = spq n a (-1) (fun k => if ¬ b < 0 ∧ ¬ 2 < b then smI (shG (fun l => σ.1 29 (6 * k + l)) (σ.1 15) (fun l => σ.1 24 (201 * k + l)) b (ar k)) (en k - ar k) else (-1)) ∧ τ = wu σ 14 0 0) (wB g α N) (wA α N sz)) args s 0 0 (wA α N sz)) (F0 m 37 ls []) := by
  have hA : ∀ q, s.heap.size ≤ q → wA α N sz q := fun q h => Or.inr (by omega)
  have hx := X.1.1
  have hb := X.1.2.1
  intro fu
  induction fu with
  | zero =>
    intro k t co fo hfu hk hbb hka ht h1 h2
    exact absurd hfu (by omega)
  | succ fu ih =>
    intro k t co fo hfu hk hbb hka ht h1 h2 H locs I ls hl
    have hedk := hed k hk
    refine lv_iload hx hb dX5_shared_37 (lv_at hl 5 rfl) ?_
    refine lv_aload_n hx hb dX5_shared_39 rfl (lv_at hl 0 rfl) ?_
    refine lv_iload_n hx hb dX5_shared_40 rfl (lv_at hl 1 rfl) ?_
    refine w_vSi X I 14 (by omega) rfl rfl (As := [.int (nI k)]) (rest := [.int (nI (ar k + t))]) (ctX5_last l g α N (wu σ 14 0 0) k d hN hd hd200 (by omega)) (wM_V kmX5_129 ki_X5_last ks_X5_last kn_X5 kc_X5_last) rfl rfl (n := 1) (by decide +kernel) rfl ⟨by decide, by decide⟩ hl.1 rfl (Nat.le_of_ble_eq_true rfl) ⟨Nat.zero_le _, Nat.zero_le _⟩ dX5_shared_41 (fun r_41 q_41 => ?_)
    replace q_41 : r_41 = if ¬ σ.1 22 k = (-9) then σ.1 22 k else nI d - 1 := q_41
    subst q_41
    refine w_eqi (y := nI (en k) - 1) (hlast k hk) ?_
    refine lv_icmp_gt (tgt := 134) hx hb dX5_shared_44 (by decide) (fun c_44 => ?_) (fun c_44 => ?_)
    ·
      have e : ar k + t = en k := by have := (m1_lt (by omega) (by omega)).mp c_44; omega
      refine lv_iload hx hb dX5_shared_134 (lv_at hl 4 rfl) ?_
      exact w_iret X I hr hlk (⟨by first | exact (spq_bad hbad).symm | (rw [spq_ok hk (by omega), if_neg p_16]; done) | (rw [hka, spq_ok hk (by omega), if_pos hbb, h2, ← e, Nat.add_sub_cancel_left]), rfl⟩) dX5_shared_136
    ·
      have hlt : ar k + t < en k := Nat.lt_of_not_le (fun z => c_44 ((m1_lt (by omega) (by omega)).mpr z))
      refine lv_aload_n hx hb dX5_shared_47 rfl (lv_at hl 0 rfl) ?_
      refine lv_iload_n hx hb dX5_shared_48 rfl (lv_at hl 1 rfl) ?_
      refine lv_iload hx hb dX5_shared_49 (lv_at hl 5 rfl) ?_
      refine w_vSi X I 14 (by omega) rfl rfl (As := [.int (nI k), .int (nI (ar k + t))]) (rest := []) (ctX5_counts l g α N (wu σ 14 0 0) k (ar k + t) hN (by omega) (by omega) (hge k hk _ (by omega))) (wM_V kmX5_132 ki_X5_counts ks_X5_counts kn_X5 kc_X5_counts) rfl rfl (n := 2) (by decide +kernel) rfl ⟨by decide, by decide⟩ hl.1 rfl (Nat.le_of_ble_eq_true rfl) ⟨Nat.zero_le _, Nat.zero_le _⟩ dX5_shared_51 (fun r_51 q_51 => ?_)
      by_cases p_51 : cnP (fun l => σ.1 29 (6 * k + l)) (σ.1 15) (fun l => σ.1 24 (201 * k + l)) (ar k + t)
      ·
        obtain rfl : r_51 = 1 := Eq.trans q_51 (if_pos p_51)
        refine lv_if_eq (tgt := 128) hx hb dX5_shared_54 (by decide) (fun cc => absurd cc (by decide)) (fun _ => ?_)
        refine lv_iinc (v := co + 1) (lv' := [(3, .int (co + 1)), (0, .ref (α 14)), (1, .int (nI k)), (2, .int b), (4, .int fo), (5, .int (nI (ar k + t)))]) hx hb dX5_shared_57 hl (k := 3) rfl rfl (by decide) rfl (fun ls hl => ?_)
        refine lv_aload_n hx hb dX5_shared_60 rfl (lv_at hl 1 rfl) ?_
        refine fg5_3 X I (by omega) kfX5_7 dX5_shared_61 ?_
        refine lv_iload hx hb dX5_shared_64 (lv_at hl 5 rfl) ?_
        refine w_ld X I 15 (by omega) (n := 201) (k := ar k + t) (fun _ _ _ => rfl) rfl (by omega) (by decide) dX5_shared_66 ?_
        refine lv_bipush (v := 7) hx hb dX5_shared_67 (by decide) ?_
        refine lv_icmp_le (tgt := 76) hx hb dX5_shared_69 (by decide) (fun c_69 => ?_) (fun c_69 => ?_)
        ·
          have c_69 : ¬ 7 < σ.1 15 (ar k + t) := Int32.not_lt.mpr c_69
          refine lv_aload_n hx hb dX5_shared_76 rfl (lv_at hl 1 rfl) ?_
          refine fg5_14 X I (by omega) kfX5_37 dX5_shared_77 ?_
          refine lv_sipush (v := 201) hx hb dX5_shared_80 (by decide) ?_
          refine lv_iload_n hx hb dX5_shared_83 rfl (lv_at hl 2 rfl) ?_
          refine lv_imul hx hb dX5_shared_84 ?_
          refine w_eqi (y := nI (201 * k)) (pk_mul 201 _) ?_
          refine lv_iload hx hb dX5_shared_85 (lv_at hl 5 rfl) ?_
          refine lv_iadd hx hb dX5_shared_87 ?_
          refine w_eqi (y := nI (201 * k + (ar k + t))) (nI_add _ _) ?_
          refine w_ld X I 24 (by omega) (n := 2010) (k := 201 * k + (ar k + t)) (fun _ _ _ => rfl) rfl (by omega) (by decide) dX5_shared_88 ?_
          refine lv_if_ne (tgt := 96) hx hb dX5_shared_89 (by decide) (fun c_89 => ?_) (fun c_89 => ?_)
          ·
            have c_89 : ¬ σ.1 24 (201 * k + (ar k + t)) = 0 := c_89
            refine lv_iconst (v := 2) hx hb dX5_shared_96 (by decide) ?_
            have hsh : shF (σ.1 15) (fun l => σ.1 24 (201 * k + l)) (ar k + t) = 2 := by first | (simp [shF, c_69]; done) | (simp [shF, c_69, c_89]; done)
            refine lv_istore (lv' := [(6, .int 2), (3, .int (co + 1)), (0, .ref (α 14)), (1, .int (nI k)), (2, .int b), (4, .int fo), (5, .int (nI (ar k + t)))]) hx hb dX5_shared_97 hl (by decide) rfl (fun ls hl => ?_)
            refine lv_iload hx hb dX5_shared_99 (lv_at hl 5 rfl) ?_
            refine lv_iload_n hx hb dX5_shared_101 rfl (lv_at hl 1 rfl) ?_
            refine lv_aload_n hx hb dX5_shared_102 rfl (lv_at hl 2 rfl) ?_
            refine fg5_22 X I (by omega) kfX5_56 dX5_shared_103 ?_
            refine lv_bipush (v := 6) hx hb dX5_shared_106 (by decide) ?_
            refine lv_iload_n hx hb dX5_shared_108 rfl (lv_at hl 3 rfl) ?_
            refine lv_imul hx hb dX5_shared_109 ?_
            refine w_eqi (y := nI (6 * k)) (pk_mul 6 _) ?_
            refine w_ld X I 29 (by omega) (n := 60) (k := 6 * k) (fun _ _ _ => rfl) rfl (by omega) (by decide) dX5_shared_110 ?_
            refine lv_icmp_le (tgt := 124) hx hb dX5_shared_111 (by decide) (fun c_111 => ?_) (fun c_111 => ?_)
            ·
              have hlay : ¬ σ.1 29 (6 * k + 0) < smI (inF (fun l => σ.1 29 (6 * k + l)) (σ.1 15) (fun l => σ.1 24 (201 * k + l)) (ar k)) (t + 1) := by rw [smI, inF, if_pos p_51, ← h1]; exact Int32.not_lt.mpr c_111
              refine lv_iconst (v := 0) hx hb dX5_shared_124 (by decide) ?_
              refine lv_iadd hx hb dX5_shared_125 ?_
              refine lv_istore (lv' := [(4, .int (fo + 0)), (6, .int 2), (3, .int (co + 1)), (0, .ref (α 14)), (1, .int (nI k)), (2, .int b), (5, .int (nI (ar k + t)))]) hx hb dX5_shared_126 hl (by decide) rfl (fun ls hl => ?_)
              refine lv_iinc (v := nI ((ar k + t) + 1)) (lv' := [(5, .int (nI ((ar k + t) + 1))), (4, .int (fo + 0)), (6, .int 2), (3, .int (co + 1)), (0, .ref (α 14)), (1, .int (nI k)), (2, .int b)]) hx hb dX5_shared_128 hl (k := 6) rfl (nI_1 _) (by decide) rfl (fun ls hl => ?_)
              refine lv_goto (tgt := 37) hx hb dX5_shared_131 (by decide) ?_
              exact ih k (t + 1) (co + 1) (fo + 0) (by omega) hk hbb hka (by omega) (by rw [h1, smI, inF]; first | rw [if_pos p_51] | (rw [if_neg p_51]; simp)) (by rw [h2, smI, shG]; first | (rw [if_pos ⟨p_51, hlay, hsh.trans c_117⟩]; done) | (rw [if_neg (fun z => c_117 (hsh.symm.trans z.2.2))]; done) | (rw [if_neg (fun z => hlay z.2.1)]; done) | (rw [if_neg (fun z => p_51 z.1)]; simp; done)) _ _ I ls (lv_sub hl [4, 5, 6, 3, 1, 0] rfl)
            ·
              have hlay : σ.1 29 (6 * k + 0) < smI (inF (fun l => σ.1 29 (6 * k + l)) (σ.1 15) (fun l => σ.1 24 (201 * k + l)) (ar k)) (t + 1) := by rw [smI, inF, if_pos p_51, ← h1]; exact Int32.not_le.mp c_111
              refine lv_iload hx hb dX5_shared_114 (lv_at hl 0 rfl) ?_
              refine lv_iload_n hx hb dX5_shared_116 rfl (lv_at hl 4 rfl) ?_
              refine lv_icmp_ne (tgt := 124) hx hb dX5_shared_117 (by decide) (fun c_117 => ?_) (fun c_117 => ?_)
              ·
                refine lv_iconst (v := 0) hx hb dX5_shared_124 (by decide) ?_
                refine lv_iadd hx hb dX5_shared_125 ?_
                refine lv_istore (lv' := [(4, .int (fo + 0)), (6, .int 2), (3, .int (co + 1)), (0, .ref (α 14)), (1, .int (nI k)), (2, .int b), (5, .int (nI (ar k + t)))]) hx hb dX5_shared_126 hl (by decide) rfl (fun ls hl => ?_)
                refine lv_iinc (v := nI ((ar k + t) + 1)) (lv' := [(5, .int (nI ((ar k + t) + 1))), (4, .int (fo + 0)), (6, .int 2), (3, .int (co + 1)), (0, .ref (α 14)), (1, .int (nI k)), (2, .int b)]) hx hb dX5_shared_128 hl (k := 6) rfl (nI_1 _) (by decide) rfl (fun ls hl => ?_)
                refine lv_goto (tgt := 37) hx hb dX5_shared_131 (by decide) ?_
                exact ih k (t + 1) (co + 1) (fo + 0) (by omega) hk hbb hka (by omega) (by rw [h1, smI, inF]; first | rw [if_pos p_51] | (rw [if_neg p_51]; simp)) (by rw [h2, smI, shG]; first | (rw [if_pos ⟨p_51, hlay, hsh.trans c_117⟩]; done) | (rw [if_neg (fun z => c_117 (hsh.symm.trans z.2.2))]; done) | (rw [if_neg (fun z => hlay z.2.1)]; done) | (rw [if_neg (fun z => p_51 z.1)]; simp; done)) _ _ I ls (lv_sub hl [4, 5, 6, 3, 1, 0] rfl)
              ·
                refine lv_iconst (v := 1) hx hb dX5_shared_120 (by decide) ?_
                refine lv_goto (tgt := 125) hx hb dX5_shared_121 (by decide) ?_
                refine lv_iadd hx hb dX5_shared_125 ?_
                refine lv_istore (lv' := [(4, .int (fo + 1)), (6, .int 2), (3, .int (co + 1)), (0, .ref (α 14)), (1, .int (nI k)), (2, .int b), (5, .int (nI (ar k + t)))]) hx hb dX5_shared_126 hl (by decide) rfl (fun ls hl => ?_)
                refine lv_iinc (v := nI ((ar k + t) + 1)) (lv' := [(5, .int (nI ((ar k + t) + 1))), (4, .int (fo + 1)), (6, .int 2), (3, .int (co + 1)), (0, .ref (α 14)), (1, .int (nI k)), (2, .int b)]) hx hb dX5_shared_128 hl (k := 6) rfl (nI_1 _) (by decide) rfl (fun ls hl => ?_)
                refine lv_goto (tgt := 37) hx hb dX5_shared_131 (by decide) ?_
                exact ih k (t + 1) (co + 1) (fo + 1) (by omega) hk hbb hka (by omega) (by rw [h1, smI, inF]; first | rw [if_pos p_51] | (rw [if_neg p_51]; simp)) (by rw [h2, smI, shG]; first | (rw [if_pos ⟨p_51, hlay, hsh.trans c_117⟩]; done) | (rw [if_neg (fun z => c_117 (hsh.symm.trans z.2.2))]; done) | (rw [if_neg (fun z => hlay z.2.1)]; done) | (rw [if_neg (fun z => p_51 z.1)]; simp; done)) _ _ I ls (lv_sub hl [4, 5, 6, 3, 1, 0] rfl)
          ·
            have c_89 : σ.1 24 (201 * k + (ar k + t)) = 0 := c_89
            refine lv_iconst (v := 1) hx hb dX5_shared_92 (by decide) ?_
            refine lv_goto (tgt := 97) hx hb dX5_shared_93 (by decide) ?_
            have hsh : shF (σ.1 15) (fun l => σ.1 24 (201 * k + l)) (ar k + t) = 1 := by first | (simp [shF, c_69]; done) | (simp [shF, c_69, c_89]; done)
            refine lv_istore (lv' := [(6, .int 1), (3, .int (co + 1)), (0, .ref (α 14)), (1, .int (nI k)), (2, .int b), (4, .int fo), (5, .int (nI (ar k + t)))]) hx hb dX5_shared_97 hl (by decide) rfl (fun ls hl => ?_)
            refine lv_iload hx hb dX5_shared_99 (lv_at hl 5 rfl) ?_
            refine lv_iload_n hx hb dX5_shared_101 rfl (lv_at hl 1 rfl) ?_
            refine lv_aload_n hx hb dX5_shared_102 rfl (lv_at hl 2 rfl) ?_
            refine fg5_22 X I (by omega) kfX5_56 dX5_shared_103 ?_
            refine lv_bipush (v := 6) hx hb dX5_shared_106 (by decide) ?_
            refine lv_iload_n hx hb dX5_shared_108 rfl (lv_at hl 3 rfl) ?_
            refine lv_imul hx hb dX5_shared_109 ?_
            refine w_eqi (y := nI (6 * k)) (pk_mul 6 _) ?_
            refine w_ld X I 29 (by omega) (n := 60) (k := 6 * k) (fun _ _ _ => rfl) rfl (by omega) (by decide) dX5_shared_110 ?_
            refine lv_icmp_le (tgt := 124) hx hb dX5_shared_111 (by decide) (fun c_111 => ?_) (fun c_111 => ?_)
            ·
              have hlay : ¬ σ.1 29 (6 * k + 0) < smI (inF (fun l => σ.1 29 (6 * k + l)) (σ.1 15) (fun l => σ.1 24 (201 * k + l)) (ar k)) (t + 1) := by rw [smI, inF, if_pos p_51, ← h1]; exact Int32.not_lt.mpr c_111
              refine lv_iconst (v := 0) hx hb dX5_shared_124 (by decide) ?_
              refine lv_iadd hx hb dX5_shared_125 ?_
              refine lv_istore (lv' := [(4, .int (fo + 0)), (6, .int 1), (3, .int (co + 1)), (0, .ref (α 14)), (1, .int (nI k)), (2, .int b), (5, .int (nI (ar k + t)))]) hx hb dX5_shared_126 hl (by decide) rfl (fun ls hl => ?_)
              refine lv_iinc (v := nI ((ar k + t) + 1)) (lv' := [(5, .int (nI ((ar k + t) + 1))), (4, .int (fo + 0)), (6, .int 1), (3, .int (co + 1)), (0, .ref (α 14)), (1, .int (nI k)), (2, .int b)]) hx hb dX5_shared_128 hl (k := 6) rfl (nI_1 _) (by decide) rfl (fun ls hl => ?_)
              refine lv_goto (tgt := 37) hx hb dX5_shared_131 (by decide) ?_
              exact ih k (t + 1) (co + 1) (fo + 0) (by omega) hk hbb hka (by omega) (by rw [h1, smI, inF]; first | rw [if_pos p_51] | (rw [if_neg p_51]; simp)) (by rw [h2, smI, shG]; first | (rw [if_pos ⟨p_51, hlay, hsh.trans c_117⟩]; done) | (rw [if_neg (fun z => c_117 (hsh.symm.trans z.2.2))]; done) | (rw [if_neg (fun z => hlay z.2.1)]; done) | (rw [if_neg (fun z => p_51 z.1)]; simp; done)) _ _ I ls (lv_sub hl [4, 5, 6, 3, 1, 0] rfl)
            ·
              have hlay : σ.1 29 (6 * k + 0) < smI (inF (fun l => σ.1 29 (6 * k + l)) (σ.1 15) (fun l => σ.1 24 (201 * k + l)) (ar k)) (t + 1) := by rw [smI, inF, if_pos p_51, ← h1]; exact Int32.not_le.mp c_111
              refine lv_iload hx hb dX5_shared_114 (lv_at hl 0 rfl) ?_
              refine lv_iload_n hx hb dX5_shared_116 rfl (lv_at hl 4 rfl) ?_
              refine lv_icmp_ne (tgt := 124) hx hb dX5_shared_117 (by decide) (fun c_117 => ?_) (fun c_117 => ?_)
              ·
                refine lv_iconst (v := 0) hx hb dX5_shared_124 (by decide) ?_
                refine lv_iadd hx hb dX5_shared_125 ?_
                refine lv_istore (lv' := [(4, .int (fo + 0)), (6, .int 1), (3, .int (co + 1)), (0, .ref (α 14)), (1, .int (nI k)), (2, .int b), (5, .int (nI (ar k + t)))]) hx hb dX5_shared_126 hl (by decide) rfl (fun ls hl => ?_)
                refine lv_iinc (v := nI ((ar k + t) + 1)) (lv' := [(5, .int (nI ((ar k + t) + 1))), (4, .int (fo + 0)), (6, .int 1), (3, .int (co + 1)), (0, .ref (α 14)), (1, .int (nI k)), (2, .int b)]) hx hb dX5_shared_128 hl (k := 6) rfl (nI_1 _) (by decide) rfl (fun ls hl => ?_)
                refine lv_goto (tgt := 37) hx hb dX5_shared_131 (by decide) ?_
                exact ih k (t + 1) (co + 1) (fo + 0) (by omega) hk hbb hka (by omega) (by rw [h1, smI, inF]; first | rw [if_pos p_51] | (rw [if_neg p_51]; simp)) (by rw [h2, smI, shG]; first | (rw [if_pos ⟨p_51, hlay, hsh.trans c_117⟩]; done) | (rw [if_neg (fun z => c_117 (hsh.symm.trans z.2.2))]; done) | (rw [if_neg (fun z => hlay z.2.1)]; done) | (rw [if_neg (fun z => p_51 z.1)]; simp; done)) _ _ I ls (lv_sub hl [4, 5, 6, 3, 1, 0] rfl)
              ·
                refine lv_iconst (v := 1) hx hb dX5_shared_120 (by decide) ?_
                refine lv_goto (tgt := 125) hx hb dX5_shared_121 (by decide) ?_
                refine lv_iadd hx hb dX5_shared_125 ?_
                refine lv_istore (lv' := [(4, .int (fo + 1)), (6, .int 1), (3, .int (co + 1)), (0, .ref (α 14)), (1, .int (nI k)), (2, .int b), (5, .int (nI (ar k + t)))]) hx hb dX5_shared_126 hl (by decide) rfl (fun ls hl => ?_)
                refine lv_iinc (v := nI ((ar k + t) + 1)) (lv' := [(5, .int (nI ((ar k + t) + 1))), (4, .int (fo + 1)), (6, .int 1), (3, .int (co + 1)), (0, .ref (α 14)), (1, .int (nI k)), (2, .int b)]) hx hb dX5_shared_128 hl (k := 6) rfl (nI_1 _) (by decide) rfl (fun ls hl => ?_)
                refine lv_goto (tgt := 37) hx hb dX5_shared_131 (by decide) ?_
                exact ih k (t + 1) (co + 1) (fo + 1) (by omega) hk hbb hka (by omega) (by rw [h1, smI, inF]; first | rw [if_pos p_51] | (rw [if_neg p_51]; simp)) (by rw [h2, smI, shG]; first | (rw [if_pos ⟨p_51, hlay, hsh.trans c_117⟩]; done) | (rw [if_neg (fun z => c_117 (hsh.symm.trans z.2.2))]; done) | (rw [if_neg (fun z => hlay z.2.1)]; done) | (rw [if_neg (fun z => p_51 z.1)]; simp; done)) _ _ I ls (lv_sub hl [4, 5, 6, 3, 1, 0] rfl)
        ·
          have c_69 : 7 < σ.1 15 (ar k + t) := Int32.not_le.mp c_69
          refine lv_iconst (v := 0) hx hb dX5_shared_72 (by decide) ?_
          refine lv_goto (tgt := 97) hx hb dX5_shared_73 (by decide) ?_
          have hsh : shF (σ.1 15) (fun l => σ.1 24 (201 * k + l)) (ar k + t) = 0 := by first | (simp [shF, c_69]; done) | (simp [shF, c_69, c_89]; done)
          refine lv_istore (lv' := [(6, .int 0), (3, .int (co + 1)), (0, .ref (α 14)), (1, .int (nI k)), (2, .int b), (4, .int fo), (5, .int (nI (ar k + t)))]) hx hb dX5_shared_97 hl (by decide) rfl (fun ls hl => ?_)
          refine lv_iload hx hb dX5_shared_99 (lv_at hl 5 rfl) ?_
          refine lv_iload_n hx hb dX5_shared_101 rfl (lv_at hl 1 rfl) ?_
          refine lv_aload_n hx hb dX5_shared_102 rfl (lv_at hl 2 rfl) ?_
          refine fg5_22 X I (by omega) kfX5_56 dX5_shared_103 ?_
          refine lv_bipush (v := 6) hx hb dX5_shared_106 (by decide) ?_
          refine lv_iload_n hx hb dX5_shared_108 rfl (lv_at hl 3 rfl) ?_
          refine lv_imul hx hb dX5_shared_109 ?_
          refine w_eqi (y := nI (6 * k)) (pk_mul 6 _) ?_
          refine w_ld X I 29 (by omega) (n := 60) (k := 6 * k) (fun _ _ _ => rfl) rfl (by omega) (by decide) dX5_shared_110 ?_
          refine lv_icmp_le (tgt := 124) hx hb dX5_shared_111 (by decide) (fun c_111 => ?_) (fun c_111 => ?_)
          ·
            have hlay : ¬ σ.1 29 (6 * k + 0) < smI (inF (fun l => σ.1 29 (6 * k + l)) (σ.1 15) (fun l => σ.1 24 (201 * k + l)) (ar k)) (t + 1) := by rw [smI, inF, if_pos p_51, ← h1]; exact Int32.not_lt.mpr c_111
            refine lv_iconst (v := 0) hx hb dX5_shared_124 (by decide) ?_
            refine lv_iadd hx hb dX5_shared_125 ?_
            refine lv_istore (lv' := [(4, .int (fo + 0)), (6, .int 0), (3, .int (co + 1)), (0, .ref (α 14)), (1, .int (nI k)), (2, .int b), (5, .int (nI (ar k + t)))]) hx hb dX5_shared_126 hl (by decide) rfl (fun ls hl => ?_)
            refine lv_iinc (v := nI ((ar k + t) + 1)) (lv' := [(5, .int (nI ((ar k + t) + 1))), (4, .int (fo + 0)), (6, .int 0), (3, .int (co + 1)), (0, .ref (α 14)), (1, .int (nI k)), (2, .int b)]) hx hb dX5_shared_128 hl (k := 6) rfl (nI_1 _) (by decide) rfl (fun ls hl => ?_)
            refine lv_goto (tgt := 37) hx hb dX5_shared_131 (by decide) ?_
            exact ih k (t + 1) (co + 1) (fo + 0) (by omega) hk hbb hka (by omega) (by rw [h1, smI, inF]; first | rw [if_pos p_51] | (rw [if_neg p_51]; simp)) (by rw [h2, smI, shG]; first | (rw [if_pos ⟨p_51, hlay, hsh.trans c_117⟩]; done) | (rw [if_neg (fun z => c_117 (hsh.symm.trans z.2.2))]; done) | (rw [if_neg (fun z => hlay z.2.1)]; done) | (rw [if_neg (fun z => p_51 z.1)]; simp; done)) _ _ I ls (lv_sub hl [4, 5, 6, 3, 1, 0] rfl)
          ·
            have hlay : σ.1 29 (6 * k + 0) < smI (inF (fun l => σ.1 29 (6 * k + l)) (σ.1 15) (fun l => σ.1 24 (201 * k + l)) (ar k)) (t + 1) := by rw [smI, inF, if_pos p_51, ← h1]; exact Int32.not_le.mp c_111
            refine lv_iload hx hb dX5_shared_114 (lv_at hl 0 rfl) ?_
            refine lv_iload_n hx hb dX5_shared_116 rfl (lv_at hl 4 rfl) ?_
            refine lv_icmp_ne (tgt := 124) hx hb dX5_shared_117 (by decide) (fun c_117 => ?_) (fun c_117 => ?_)
            ·
              refine lv_iconst (v := 0) hx hb dX5_shared_124 (by decide) ?_
              refine lv_iadd hx hb dX5_shared_125 ?_
              refine lv_istore (lv' := [(4, .int (fo + 0)), (6, .int 0), (3, .int (co + 1)), (0, .ref (α 14)), (1, .int (nI k)), (2, .int b), (5, .int (nI (ar k + t)))]) hx hb dX5_shared_126 hl (by decide) rfl (fun ls hl => ?_)
              refine lv_iinc (v := nI ((ar k + t) + 1)) (lv' := [(5, .int (nI ((ar k + t) + 1))), (4, .int (fo + 0)), (6, .int 0), (3, .int (co + 1)), (0, .ref (α 14)), (1, .int (nI k)), (2, .int b)]) hx hb dX5_shared_128 hl (k := 6) rfl (nI_1 _) (by decide) rfl (fun ls hl => ?_)
              refine lv_goto (tgt := 37) hx hb dX5_shared_131 (by decide) ?_
              exact ih k (t + 1) (co + 1) (fo + 0) (by omega) hk hbb hka (by omega) (by rw [h1, smI, inF]; first | rw [if_pos p_51] | (rw [if_neg p_51]; simp)) (by rw [h2, smI, shG]; first | (rw [if_pos ⟨p_51, hlay, hsh.trans c_117⟩]; done) | (rw [if_neg (fun z => c_117 (hsh.symm.trans z.2.2))]; done) | (rw [if_neg (fun z => hlay z.2.1)]; done) | (rw [if_neg (fun z => p_51 z.1)]; simp; done)) _ _ I ls (lv_sub hl [4, 5, 6, 3, 1, 0] rfl)
            ·
              refine lv_iconst (v := 1) hx hb dX5_shared_120 (by decide) ?_
              refine lv_goto (tgt := 125) hx hb dX5_shared_121 (by decide) ?_
              refine lv_iadd hx hb dX5_shared_125 ?_
              refine lv_istore (lv' := [(4, .int (fo + 1)), (6, .int 0), (3, .int (co + 1)), (0, .ref (α 14)), (1, .int (nI k)), (2, .int b), (5, .int (nI (ar k + t)))]) hx hb dX5_shared_126 hl (by decide) rfl (fun ls hl => ?_)
              refine lv_iinc (v := nI ((ar k + t) + 1)) (lv' := [(5, .int (nI ((ar k + t) + 1))), (4, .int (fo + 1)), (6, .int 0), (3, .int (co + 1)), (0, .ref (α 14)), (1, .int (nI k)), (2, .int b)]) hx hb dX5_shared_128 hl (k := 6) rfl (nI_1 _) (by decide) rfl (fun ls hl => ?_)
              refine lv_goto (tgt := 37) hx hb dX5_shared_131 (by decide) ?_
              exact ih k (t + 1) (co + 1) (fo + 1) (by omega) hk hbb hka (by omega) (by rw [h1, smI, inF]; first | rw [if_pos p_51] | (rw [if_neg p_51]; simp)) (by rw [h2, smI, shG]; first | (rw [if_pos ⟨p_51, hlay, hsh.trans c_117⟩]; done) | (rw [if_neg (fun z => c_117 (hsh.symm.trans z.2.2))]; done) | (rw [if_neg (fun z => hlay z.2.1)]; done) | (rw [if_neg (fun z => p_51 z.1)]; simp; done)) _ _ I ls (lv_sub hl [4, 5, 6, 3, 1, 0] rfl)
      ·
        obtain rfl : r_51 = 0 := Eq.trans q_51 (if_neg p_51)
        refine lv_if_eq (tgt := 128) hx hb dX5_shared_54 (by decide) (fun _ => ?_) (fun cc => absurd cc (by decide))
        refine lv_iinc (v := nI ((ar k + t) + 1)) (lv' := [(5, .int (nI ((ar k + t) + 1))), (0, .ref (α 14)), (1, .int (nI k)), (2, .int b), (3, .int co), (4, .int fo)]) hx hb dX5_shared_128 hl (k := 5) rfl (nI_1 _) (by decide) rfl (fun ls hl => ?_)
        refine lv_goto (tgt := 37) hx hb dX5_shared_131 (by decide) ?_
        exact ih k (t + 1) co fo (by omega) hk hbb hka (by omega) (by rw [h1, smI, inF]; first | rw [if_pos p_51] | (rw [if_neg p_51]; simp)) (by rw [h2, smI, shG]; first | (rw [if_pos ⟨p_51, hlay, hsh.trans c_117⟩]; done) | (rw [if_neg (fun z => c_117 (hsh.symm.trans z.2.2))]; done) | (rw [if_neg (fun z => hlay z.2.1)]; done) | (rw [if_neg (fun z => p_51 z.1)]; simp; done)) _ _ I ls (lv_sub hl [1, 2, 3, 4, 5, 0] rfl)
set_option maxHeartbeats 4000000 in
set_option maxRecDepth 100000 in
theorem ctX5_shared (l : Launch) (g : wG) (α : Nat → Nat) (N : Nat) (σ : wS) (sz : Nat) (a b : Int32) (n d : Nat) (ar en : Nat → Nat) (hn : σ.1 14 7 = nI n) (hn10 : n ≤ 10) (hN : 32 ≤ N) (hd : σ.1 14 2 = nI d) (hd200 : d ≤ 200) (hae : ∀ k, k < n → ar k ≤ en k) (hed : ∀ k, k < n → en k ≤ d) (har : ∀ k, k < n → σ.1 19 k = nI (ar k)) (hlast : ∀ k, k < n → (if ¬ σ.1 22 k = (-9) then σ.1 22 k else nI d - 1) = nI (en k) - 1) (hge : ∀ k, k < n → ∀ j, j < d → (σ.1 24 (201 * k + j) = (-1) ∨ ¬ σ.1 24 (201 * k + j) < 0)) : Met l yX5_shared (wM yX5_shared cX5_shared 7 (some FieldType.int)) ({ frames := 2, cells := 0, slots := 0, locals := 43 } : Room) (wPs g α N sz σ [.ref (α 14), .int a, .int b]) (va_Qi (fun r τ => r = spq n a (-1) (fun k => if ¬ b < 0 ∧ ¬ 2 < b then smI (shG (fun l => σ.1 29 (6 * k + l)) (σ.1 15) (fun l => σ.1 24 (201 * k + l)) b (ar k)) (en k - ar k) else (-1)) ∧ τ = wu σ 14 0 0) (wB g α N) (wA α N sz)) 0 0 (wA α N sz) := by
  refine w_enter (by decide) (Nat.le_of_ble_eq_true rfl) (fun p e s m args below meth c hsz X I hr hlk ls hl => ?_)
  have hA : ∀ q, s.heap.size ≤ q → wA α N sz q := fun q h => Or.inr (by omega)
  have hx := X.1.1
  have hb := X.1.2.1
  have hl : lv_has ls 7 [(0, .ref (α 14)), (1, .int a), (2, .int b)] := hl
  refine lv_aload_n hx hb dX5_shared_0 rfl (lv_at hl 0 rfl) ?_
  refine lv_iconst (v := 0) hx hb dX5_shared_1 (by decide) ?_
  refine fp5_0 X I (by omega) kfX5_66 dX5_shared_2 (fun H locs I => ?_)
  refine lv_aload_n hx hb dX5_shared_5 rfl (lv_at hl 0 rfl) ?_
  refine lv_iload_n hx hb dX5_shared_6 rfl (lv_at hl 1 rfl) ?_
  refine w_vSi X I 14 (by omega) rfl rfl (As := [.int a]) (rest := []) (ctX5_isShip l g α N (wu σ 14 0 0) a n hN hn) (wM_V kmX5_82 ki_X5_isShip ks_X5_isShip kn_X5 kc_X5_isShip) rfl rfl (n := 1) (by decide +kernel) rfl ⟨by decide, by decide⟩ hl.1 rfl (Nat.le_of_ble_eq_true rfl) ⟨Nat.zero_le _, Nat.zero_le _⟩ dX5_shared_7 (fun r_7 q_7 => ?_)
  by_cases p_7 : ¬ a < 0 ∧ ¬ nI n - 1 < a
  ·
    obtain rfl : r_7 = 1 := Eq.trans q_7 (if_pos p_7)
    obtain ⟨k, hk, rfl⟩ := m1_ok (n := n) (by omega) p_7
    refine lv_if_eq (tgt := 22) hx hb dX5_shared_10 (by decide) (fun cc => absurd cc (by decide)) (fun _ => ?_)
    refine lv_iload_n hx hb dX5_shared_13 rfl (lv_at hl 2 rfl) ?_
    refine lv_iconst (v := 0) hx hb dX5_shared_14 (by decide) ?_
    refine lv_iconst (v := 2) hx hb dX5_shared_15 (by decide) ?_
    refine w_sSi X I (As := [.int b, .int 0, .int 2]) (rest := []) (ctX5_in l g α N (wu σ 14 0 0) _ _ _ ) (wM_S kmX5_69 kt_X5_in kn_X5 kc_X5_in) rfl rfl (n := 3) (by decide +kernel) rfl ⟨by decide, by decide⟩ hl.1 rfl (Nat.le_of_ble_eq_true rfl) ⟨Nat.zero_le _, Nat.zero_le _⟩ dX5_shared_16 (fun r_16 q_16 => ?_)
    by_cases p_16 : ¬ b < 0 ∧ ¬ 2 < b
    ·
      obtain rfl : r_16 = 1 := Eq.trans q_16 (if_pos p_16)
      refine lv_if_ne (tgt := 24) hx hb dX5_shared_19 (by decide) (fun _ => ?_) (fun cc => absurd cc (by decide))
      refine lv_iconst (v := 0) hx hb dX5_shared_24 (by decide) ?_
      refine lv_istore_n (lv' := [(3, .int 0), (0, .ref (α 14)), (1, .int (nI k)), (2, .int b)]) hx hb dX5_shared_25 rfl hl (by decide) rfl (fun ls hl => ?_)
      refine lv_iconst (v := 0) hx hb dX5_shared_26 (by decide) ?_
      refine lv_istore (lv' := [(4, .int 0), (3, .int 0), (0, .ref (α 14)), (1, .int (nI k)), (2, .int b)]) hx hb dX5_shared_27 hl (by decide) rfl (fun ls hl => ?_)
      refine lv_aload_n hx hb dX5_shared_29 rfl (lv_at hl 2 rfl) ?_
      refine fg5_9 X I (by omega) kfX5_22 dX5_shared_30 ?_
      refine lv_iload_n hx hb dX5_shared_33 rfl (lv_at hl 3 rfl) ?_
      refine w_ld X I 19 (by omega) (n := 10) (k := k) (fun _ _ _ => rfl) rfl (by omega) (by decide) dX5_shared_34 ?_
      refine w_eqi (y := σ.1 19 k) (wu_o (by decide)) ?_
      refine w_eqi (y := nI (ar k)) (har k hk) ?_
      refine lv_istore (lv' := [(5, .int (nI (ar k))), (4, .int 0), (3, .int 0), (0, .ref (α 14)), (1, .int (nI k)), (2, .int b)]) hx hb dX5_shared_35 hl (by decide) rfl (fun ls hl => ?_)
      exact lpX5_shared_37 (nI k) b n d ar en X hsz hr hlk hn hn10 hN hd hd200 hae hed har hlast hge  (en k + 1) k 0 0 0 (by omega) hk p_16 rfl (by have := hae k hk; omega) rfl rfl _ _ I ls (lv_sub hl [3, 4, 5, 2, 1, 0] rfl)
    ·
      obtain rfl : r_16 = 0 := Eq.trans q_16 (if_neg p_16)
      refine lv_if_ne (tgt := 24) hx hb dX5_shared_19 (by decide) (fun cc => absurd cc (by decide)) (fun _ => ?_)
      refine lv_iconst (v := (-1)) hx hb dX5_shared_22 (by decide) ?_
      exact w_iret X I hr hlk (⟨by first | exact (spq_bad hbad).symm | (rw [spq_ok hk (by omega), if_neg p_16]; done) | (rw [hka, spq_ok hk (by omega), if_pos hbb, h2, ← e, Nat.add_sub_cancel_left]), rfl⟩) dX5_shared_23
  ·
    obtain rfl : r_7 = 0 := Eq.trans q_7 (if_neg p_7)
    have hbad := m1_bad (n := n) (by omega) p_7
    refine lv_if_eq (tgt := 22) hx hb dX5_shared_10 (by decide) (fun _ => ?_) (fun cc => absurd cc (by decide))
    refine lv_iconst (v := (-1)) hx hb dX5_shared_22 (by decide) ?_
    exact w_iret X I hr hlk (⟨by first | exact (spq_bad hbad).symm | (rw [spq_ok hk (by omega), if_neg p_16]; done) | (rw [hka, spq_ok hk (by omega), if_pos hbb, h2, ← e, Nat.add_sub_cancel_left]), rfl⟩) dX5_shared_23
end
section
variable {l : Launch} {g : wG} {α : Nat → Nat} {N : Nat} {σ : wS} {p : Program} {e : Env} {s : State} {m : MethodId} {args : Array Value} {below : List Frame} {meth : Method} {c : Code}
set_option maxHeartbeats 4000000 in
set_option maxRecDepth 100000 in
theorem ctX5_isHere (l : Launch) (g : wG) (α : Nat → Nat) (N : Nat) (σ : wS) (k d : Nat) (hN : 32 ≤ N) (hd : σ.1 14 2 = nI d) (hd200 : d ≤ 200) (hk : k ≤ 200) : Met l yX5_isHere (wM yX5_isHere cX5_isHere 2 (some FieldType.boolean)) ({ frames := 0, cells := 0, slots := 0, locals := 0 } : Room) (wPc g α N σ [.ref (α 14), .int (nI k)]) (vp_Si (fun r => r = if k < d ∧ σ.1 27 k ≤ nI d then 1 else 0)) 0 0 (fun _ => False) := by
  refine w_enterS (by decide) (Nat.le_of_ble_eq_true rfl) (fun p e s m args below meth c X I hr hlk ls hl => ?_)
  have hx := X.1.1
  have hb := X.1.2.1
  have hl : lv_has ls 2 [(0, .ref (α 14)), (1, .int (nI k))] := hl
  refine lv_iload_n hx hb dX5_isHere_0 rfl (lv_at hl 1 rfl) ?_
  refine lv_aload_n hx hb dX5_isHere_1 rfl (lv_at hl 0 rfl) ?_
  refine fg5_2 X I (by omega) kfX5_76 dX5_isHere_2 ?_
  refine w_eqi (y := nI d) hd ?_
  refine lv_icmp_ge (tgt := 25) hx hb dX5_isHere_5 (by decide) (fun c_5 => ?_) (fun c_5 => ?_)
  ·
    have c_5 : ¬ k < d := Nat.not_lt.mpr (nI_le' c_5 (by omega) (by omega))
    refine lv_iconst (v := 0) hx hb dX5_isHere_25 (by decide) ?_
    exact w_zretS X hr hlk (Or.inl rfl) (by simp [c_5]) dX5_isHere_26
  ·
    have c_5 : k < d := Nat.lt_of_not_le (fun z => c_5 (nI_le z (by omega)))
    refine lv_aload_n hx hb dX5_isHere_8 rfl (lv_at hl 0 rfl) ?_
    refine fg5_17 X I (by omega) kfX5_46 dX5_isHere_9 ?_
    refine lv_iload_n hx hb dX5_isHere_12 rfl (lv_at hl 1 rfl) ?_
    refine w_ld X I 27 (by omega) (n := 201) (k := k) (fun _ _ _ => rfl) rfl (by omega) (by decide) dX5_isHere_13 ?_
    refine lv_aload_n hx hb dX5_isHere_14 rfl (lv_at hl 0 rfl) ?_
    refine fg5_2 X I (by omega) kfX5_76 dX5_isHere_15 ?_
    refine w_eqi (y := nI d) hd ?_
    refine lv_icmp_gt (tgt := 25) hx hb dX5_isHere_18 (by decide) (fun c_18 => ?_) (fun c_18 => ?_)
    ·
      have c_18 : ¬ σ.1 27 k ≤ nI d := Int32.not_le.mpr c_18
      refine lv_iconst (v := 0) hx hb dX5_isHere_25 (by decide) ?_
      exact w_zretS X hr hlk (Or.inl rfl) (by simp [c_5, c_18]) dX5_isHere_26
    ·
      have c_18 : σ.1 27 k ≤ nI d := Int32.not_lt.mp c_18
      refine lv_iconst (v := 1) hx hb dX5_isHere_21 (by decide) ?_
      refine lv_goto (tgt := 26) hx hb dX5_isHere_22 (by decide) ?_
      exact w_zretS X hr hlk (Or.inr rfl) (by simp [c_5, c_18]) dX5_isHere_26
end
section
variable {l : Launch} {g : wG} {α : Nat → Nat} {N : Nat} {σ : wS} {p : Program} {e : Env} {s : State} {m : MethodId} {args : Array Value} {below : List Frame} {meth : Method} {c : Code}
set_option maxHeartbeats 4000000 in
set_option maxRecDepth 100000 in
theorem ctX5_letter (l : Launch) (g : wG) (α : Nat → Nat) (N : Nat) (σ : wS) (sz : Nat) (a b : Int32) (d : Nat) (hN : 32 ≤ N) (hd : σ.1 14 2 = nI d) (hd200 : d ≤ 200) : Met l yX5_letter (wM yX5_letter cX5_letter 3 (some FieldType.int)) ({ frames := 1, cells := 0, slots := 0, locals := 22 } : Room) (wPs g α N sz σ [.ref (α 14), .int a, .int b]) (va_Qi (fun r τ => r = ltF (σ.1 25) (σ.1 26) (σ.1 27) d a b ∧ τ = wu σ 14 0 0) (wB g α N) (wA α N sz)) 0 0 (wA α N sz) := by
  refine w_enter (by decide) (Nat.le_of_ble_eq_true rfl) (fun p e s m args below meth c hsz X I hr hlk ls hl => ?_)
  have hA : ∀ q, s.heap.size ≤ q → wA α N sz q := fun q h => Or.inr (by omega)
  have hx := X.1.1
  have hb := X.1.2.1
  have hl : lv_has ls 3 [(0, .ref (α 14)), (1, .int a), (2, .int b)] := hl
  refine lv_aload_n hx hb dX5_letter_0 rfl (lv_at hl 0 rfl) ?_
  refine lv_iconst (v := 0) hx hb dX5_letter_1 (by decide) ?_
  refine fp5_0 X I (by omega) kfX5_66 dX5_letter_2 (fun H locs I => ?_)
  refine lv_iload_n hx hb dX5_letter_5 rfl (lv_at hl 1 rfl) ?_
  refine lv_iconst (v := 0) hx hb dX5_letter_6 (by decide) ?_
  refine lv_sipush (v := 200) hx hb dX5_letter_7 (by decide) ?_
  refine w_sSi X I (As := [.int a, .int 0, .int 200]) (rest := []) (ctX5_in l g α N (wu σ 14 0 0) _ _ _ ) (wM_S kmX5_69 kt_X5_in kn_X5 kc_X5_in) rfl rfl (n := 3) (by decide +kernel) rfl ⟨by decide, by decide⟩ hl.1 rfl (Nat.le_of_ble_eq_true rfl) ⟨Nat.zero_le _, Nat.zero_le _⟩ dX5_letter_10 (fun r_10 q_10 => ?_)
  by_cases p_10 : ¬ a < 0 ∧ ¬ 200 < a
  ·
    obtain rfl : r_10 = 1 := Eq.trans q_10 (if_pos p_10)
    refine lv_if_eq (tgt := 25) hx hb dX5_letter_13 (by decide) (fun cc => absurd cc (by decide)) (fun _ => ?_)
    refine lv_iload_n hx hb dX5_letter_16 rfl (lv_at hl 2 rfl) ?_
    refine lv_iconst (v := 0) hx hb dX5_letter_17 (by decide) ?_
    refine lv_iconst (v := 2) hx hb dX5_letter_18 (by decide) ?_
    refine w_sSi X I (As := [.int b, .int 0, .int 2]) (rest := []) (ctX5_in l g α N (wu σ 14 0 0) _ _ _ ) (wM_S kmX5_69 kt_X5_in kn_X5 kc_X5_in) rfl rfl (n := 3) (by decide +kernel) rfl ⟨by decide, by decide⟩ hl.1 rfl (Nat.le_of_ble_eq_true rfl) ⟨Nat.zero_le _, Nat.zero_le _⟩ dX5_letter_19 (fun r_19 q_19 => ?_)
    by_cases p_19 : ¬ b < 0 ∧ ¬ 2 < b
    ·
      obtain rfl : r_19 = 1 := Eq.trans q_19 (if_pos p_19)
      obtain ⟨k, hk, rfl⟩ := nI_btw (n := 200) p_10.1 p_10.2 (by decide)
      refine lv_if_ne (tgt := 27) hx hb dX5_letter_22 (by decide) (fun _ => ?_) (fun cc => absurd cc (by decide))
      refine lv_aload_n hx hb dX5_letter_27 rfl (lv_at hl 0 rfl) ?_
      refine lv_iload_n hx hb dX5_letter_28 rfl (lv_at hl 1 rfl) ?_
      refine w_vSi X I 14 (by omega) rfl rfl (As := [.int (nI k)]) (rest := []) (ctX5_isHere l g α N (wu σ 14 0 0) k d hN hd hd200 hk) (wM_V kmX5_140 ki_X5_isHere ks_X5_isHere kn_X5 kc_X5_isHere) rfl rfl (n := 1) (by decide +kernel) rfl ⟨by decide, by decide⟩ hl.1 rfl (Nat.le_of_ble_eq_true rfl) ⟨Nat.zero_le _, Nat.zero_le _⟩ dX5_letter_29 (fun r_29 q_29 => ?_)
      by_cases p_29 : k < d ∧ σ.1 27 k ≤ nI d
      ·
        obtain rfl : r_29 = 1 := Eq.trans q_29 (if_pos p_29)
        refine lv_if_ne (tgt := 40) hx hb dX5_letter_32 (by decide) (fun _ => ?_) (fun cc => absurd cc (by decide))
        refine lv_iload_n hx hb dX5_letter_40 rfl (lv_at hl 2 rfl) ?_
        refine lv_if_ne (tgt := 53) hx hb dX5_letter_41 (by decide) (fun c_41 => ?_) (fun c_41 => ?_)
        ·
          refine lv_iload_n hx hb dX5_letter_53 rfl (lv_at hl 2 rfl) ?_
          refine lv_iconst (v := 1) hx hb dX5_letter_54 (by decide) ?_
          refine lv_icmp_ne (tgt := 67) hx hb dX5_letter_55 (by decide) (fun c_55 => ?_) (fun c_55 => ?_)
          ·
            refine lv_aload_n hx hb dX5_letter_67 rfl (lv_at hl 0 rfl) ?_
            refine fg5_17 X I (by omega) kfX5_46 dX5_letter_68 ?_
            refine lv_iload_n hx hb dX5_letter_71 rfl (lv_at hl 1 rfl) ?_
            refine w_ld X I 27 (by omega) (n := 201) (k := k) (fun _ _ _ => rfl) rfl (by omega) (by decide) dX5_letter_72 ?_
            refine w_eqi (y := σ.1 27 k) (wu_o (by decide)) ?_
            exact w_iret X I hr hlk (⟨by first | (rw [ltF, if_neg p_10]; done) | (rw [ltF, if_pos p_10, if_neg p_19]; done) | (rw [ltF, if_pos p_10, if_pos p_19, spq_ok p_29.1 (by omega), if_pos p_29.2, if_pos c_41]; done) | (rw [ltF, if_pos p_10, if_pos p_19, spq_ok p_29.1 (by omega), if_pos p_29.2, if_neg c_41, if_pos c_55]; done) | (rw [ltF, if_pos p_10, if_pos p_19, spq_ok p_29.1 (by omega), if_pos p_29.2, if_neg c_41, if_neg c_55]; done) | (rw [ltF, if_pos p_10, if_pos p_19]; rcases Nat.lt_or_ge k d with z | z; exact ((spq_ok z (by omega)).trans (if_neg (fun w => p_29 ⟨z, w⟩))).symm; exact (spq_bad (Or.inr (nI_le z (by omega)))).symm), rfl⟩) dX5_letter_73
          ·
            refine lv_aload_n hx hb dX5_letter_58 rfl (lv_at hl 0 rfl) ?_
            refine fg5_16 X I (by omega) kfX5_43 dX5_letter_59 ?_
            refine lv_iload_n hx hb dX5_letter_62 rfl (lv_at hl 1 rfl) ?_
            refine w_ld X I 26 (by omega) (n := 201) (k := k) (fun _ _ _ => rfl) rfl (by omega) (by decide) dX5_letter_63 ?_
            refine w_eqi (y := σ.1 26 k) (wu_o (by decide)) ?_
            refine lv_goto (tgt := 73) hx hb dX5_letter_64 (by decide) ?_
            exact w_iret X I hr hlk (⟨by first | (rw [ltF, if_neg p_10]; done) | (rw [ltF, if_pos p_10, if_neg p_19]; done) | (rw [ltF, if_pos p_10, if_pos p_19, spq_ok p_29.1 (by omega), if_pos p_29.2, if_pos c_41]; done) | (rw [ltF, if_pos p_10, if_pos p_19, spq_ok p_29.1 (by omega), if_pos p_29.2, if_neg c_41, if_pos c_55]; done) | (rw [ltF, if_pos p_10, if_pos p_19, spq_ok p_29.1 (by omega), if_pos p_29.2, if_neg c_41, if_neg c_55]; done) | (rw [ltF, if_pos p_10, if_pos p_19]; rcases Nat.lt_or_ge k d with z | z; exact ((spq_ok z (by omega)).trans (if_neg (fun w => p_29 ⟨z, w⟩))).symm; exact (spq_bad (Or.inr (nI_le z (by omega)))).symm), rfl⟩) dX5_letter_73
        ·
          refine lv_aload_n hx hb dX5_letter_44 rfl (lv_at hl 0 rfl) ?_
          refine fg5_15 X I (by omega) kfX5_40 dX5_letter_45 ?_
          refine lv_iload_n hx hb dX5_letter_48 rfl (lv_at hl 1 rfl) ?_
          refine w_ld X I 25 (by omega) (n := 201) (k := k) (fun _ _ _ => rfl) rfl (by omega) (by decide) dX5_letter_49 ?_
          refine w_eqi (y := σ.1 25 k) (wu_o (by decide)) ?_
          refine lv_goto (tgt := 73) hx hb dX5_letter_50 (by decide) ?_
          exact w_iret X I hr hlk (⟨by first | (rw [ltF, if_neg p_10]; done) | (rw [ltF, if_pos p_10, if_neg p_19]; done) | (rw [ltF, if_pos p_10, if_pos p_19, spq_ok p_29.1 (by omega), if_pos p_29.2, if_pos c_41]; done) | (rw [ltF, if_pos p_10, if_pos p_19, spq_ok p_29.1 (by omega), if_pos p_29.2, if_neg c_41, if_pos c_55]; done) | (rw [ltF, if_pos p_10, if_pos p_19, spq_ok p_29.1 (by omega), if_pos p_29.2, if_neg c_41, if_neg c_55]; done) | (rw [ltF, if_pos p_10, if_pos p_19]; rcases Nat.lt_or_ge k d with z | z; exact ((spq_ok z (by omega)).trans (if_neg (fun w => p_29 ⟨z, w⟩))).symm; exact (spq_bad (Or.inr (nI_le z (by omega)))).symm), rfl⟩) dX5_letter_73
      ·
        obtain rfl : r_29 = 0 := Eq.trans q_29 (if_neg p_29)
        refine lv_if_ne (tgt := 40) hx hb dX5_letter_32 (by decide) (fun cc => absurd cc (by decide)) (fun _ => ?_)
        refine lv_bipush (v := (-9)) hx hb dX5_letter_35 (by decide) ?_
        refine lv_goto (tgt := 73) hx hb dX5_letter_37 (by decide) ?_
        exact w_iret X I hr hlk (⟨by first | (rw [ltF, if_neg p_10]; done) | (rw [ltF, if_pos p_10, if_neg p_19]; done) | (rw [ltF, if_pos p_10, if_pos p_19, spq_ok p_29.1 (by omega), if_pos p_29.2, if_pos c_41]; done) | (rw [ltF, if_pos p_10, if_pos p_19, spq_ok p_29.1 (by omega), if_pos p_29.2, if_neg c_41, if_pos c_55]; done) | (rw [ltF, if_pos p_10, if_pos p_19, spq_ok p_29.1 (by omega), if_pos p_29.2, if_neg c_41, if_neg c_55]; done) | (rw [ltF, if_pos p_10, if_pos p_19]; rcases Nat.lt_or_ge k d with z | z; exact ((spq_ok z (by omega)).trans (if_neg (fun w => p_29 ⟨z, w⟩))).symm; exact (spq_bad (Or.inr (nI_le z (by omega)))).symm), rfl⟩) dX5_letter_73
    ·
      obtain rfl : r_19 = 0 := Eq.trans q_19 (if_neg p_19)
      refine lv_if_ne (tgt := 27) hx hb dX5_letter_22 (by decide) (fun cc => absurd cc (by decide)) (fun _ => ?_)
      refine lv_iconst (v := (-1)) hx hb dX5_letter_25 (by decide) ?_
      exact w_iret X I hr hlk (⟨by first | (rw [ltF, if_neg p_10]; done) | (rw [ltF, if_pos p_10, if_neg p_19]; done) | (rw [ltF, if_pos p_10, if_pos p_19, spq_ok p_29.1 (by omega), if_pos p_29.2, if_pos c_41]; done) | (rw [ltF, if_pos p_10, if_pos p_19, spq_ok p_29.1 (by omega), if_pos p_29.2, if_neg c_41, if_pos c_55]; done) | (rw [ltF, if_pos p_10, if_pos p_19, spq_ok p_29.1 (by omega), if_pos p_29.2, if_neg c_41, if_neg c_55]; done) | (rw [ltF, if_pos p_10, if_pos p_19]; rcases Nat.lt_or_ge k d with z | z; exact ((spq_ok z (by omega)).trans (if_neg (fun w => p_29 ⟨z, w⟩))).symm; exact (spq_bad (Or.inr (nI_le z (by omega)))).symm), rfl⟩) dX5_letter_26
  ·
    obtain rfl : r_10 = 0 := Eq.trans q_10 (if_neg p_10)
    refine lv_if_eq (tgt := 25) hx hb dX5_letter_13 (by decide) (fun _ => ?_) (fun cc => absurd cc (by decide))
    refine lv_iconst (v := (-1)) hx hb dX5_letter_25 (by decide) ?_
    exact w_iret X I hr hlk (⟨by first | (rw [ltF, if_neg p_10]; done) | (rw [ltF, if_pos p_10, if_neg p_19]; done) | (rw [ltF, if_pos p_10, if_pos p_19, spq_ok p_29.1 (by omega), if_pos p_29.2, if_pos c_41]; done) | (rw [ltF, if_pos p_10, if_pos p_19, spq_ok p_29.1 (by omega), if_pos p_29.2, if_neg c_41, if_pos c_55]; done) | (rw [ltF, if_pos p_10, if_pos p_19, spq_ok p_29.1 (by omega), if_pos p_29.2, if_neg c_41, if_neg c_55]; done) | (rw [ltF, if_pos p_10, if_pos p_19]; rcases Nat.lt_or_ge k d with z | z; exact ((spq_ok z (by omega)).trans (if_neg (fun w => p_29 ⟨z, w⟩))).symm; exact (spq_bad (Or.inr (nI_le z (by omega)))).symm), rfl⟩) dX5_letter_26
end
section
variable {l : Launch} {g : wG} {α : Nat → Nat} {N : Nat} {σ : wS} {p : Program} {e : Env} {s : State} {m : MethodId} {args : Array Value} {below : List Frame} {meth : Method} {c : Code}
set_option maxHeartbeats 4000000 in
set_option maxRecDepth 100000 in
theorem lpX5_foretold_57 {sz : Nat} (d : Nat) (X : wX p s m args c cX5_foretold 5 RX5 g) (hsz : s.heap.size = sz) (hr : meth.sig.returnType = (some FieldType.int)) (hlk : meth.locks = false) (hN : 32 ≤ N) (hd : σ.1 14 2 = nI d) (hd200 : d ≤ 200) : ∀ (fu : Nat) (j : Nat) (t : Nat) (acc : Int32), j + 2 ≤ j - 6 + t + fu → j < d → lcO (σ.1 27) (nI d) d = some j → j - 6 + t ≤ j + 1 → acc = smI (fun t => σ.1 26 (j - 6 + t)) t → ∀ (H : Heap) (locs : List Loc), wI g α N (wA α N sz) s.heap H locs (wu σ 14 0 0) → ∀ ls : Array Slot, lv_has ls 5 [(0, .ref (α 14)), (1, .int (nI (j + 1) - 1)), (2, .int acc), (3, .int (nI t)), (4, .int (nI (j - 6 + t)))] → W p l e ({ frames := 1, cells := 0, slots := 0, locals := 21 } : Room) s m args below meth c H locs 0 0 (MQ below (va_Qi (fun r τ => r = fgO (σ.1 25) (σ.1 26) (lcO (σ.1 27) (nI d) d) ∧ τ = wu σ 14 0 0) (wB g α N) (wA α N sz)) args s 0 0 (wA α N sz)) (F0 m 57 ls []) := by
  have hA : ∀ q, s.heap.size ≤ q → wA α N sz q := fun q h => Or.inr (by omega)
  have hx := X.1.1
  have hb := X.1.2.1
  intro fu
  induction fu with
  | zero =>
    intro j t acc hfu hj hlc ht hac
    exact absurd hfu (by omega)
  | succ fu ih =>
    intro j t acc hfu hj hlc ht hac H locs I ls hl
    refine lv_iload hx hb dX5_foretold_57 (lv_at hl 4 rfl) ?_
    refine lv_iload_n hx hb dX5_foretold_59 rfl (lv_at hl 1 rfl) ?_
    refine w_eqi (y := nI j) (nI_pred _) ?_
    refine lv_icmp_gt (tgt := 82) hx hb dX5_foretold_60 (by decide) (fun c_60 => ?_) (fun c_60 => ?_)
    ·
      have e : t = j + 1 - (j - 6) := by have := nI_lt' c_60 (by omega) (by omega); omega
      refine lv_iload_n hx hb dX5_foretold_82 rfl (lv_at hl 2 rfl) ?_
      refine lv_if_ne (tgt := 91) hx hb dX5_foretold_83 (by decide) (fun c_83 => ?_) (fun c_83 => ?_)
      ·
        refine lv_aload_n hx hb dX5_foretold_91 rfl (lv_at hl 0 rfl) ?_
        refine fg5_15 X I (by omega) kfX5_40 dX5_foretold_92 ?_
        refine lv_iload_n hx hb dX5_foretold_95 rfl (lv_at hl 1 rfl) ?_
        refine w_eqi (y := nI j) (nI_pred _) ?_
        refine w_ld X I 25 (by omega) (n := 201) (k := j) (fun _ _ _ => rfl) rfl (by omega) (by decide) dX5_foretold_96 ?_
        refine lv_iload_n hx hb dX5_foretold_97 rfl (lv_at hl 3 rfl) ?_
        refine lv_imul hx hb dX5_foretold_98 ?_
        refine lv_iload_n hx hb dX5_foretold_99 rfl (lv_at hl 2 rfl) ?_
        refine lv_iadd hx hb dX5_foretold_100 ?_
        refine lv_iconst (v := 1) hx hb dX5_foretold_101 (by decide) ?_
        refine lv_isub hx hb dX5_foretold_102 ?_
        refine lv_iload_n hx hb dX5_foretold_103 rfl (lv_at hl 2 rfl) ?_
        refine lv_idiv hx hb dX5_foretold_104 c_83 ?_
        exact w_iret X I hr hlk (⟨by first | (rw [ha]; rfl) | (subst e; subst hac; rw [hlc]; first | exact (if_pos c_83).symm | exact (if_neg c_83).symm), rfl⟩) dX5_foretold_105
      ·
        refine lv_bipush (v := (-9)) hx hb dX5_foretold_86 (by decide) ?_
        refine lv_goto (tgt := 105) hx hb dX5_foretold_88 (by decide) ?_
        exact w_iret X I hr hlk (⟨by first | (rw [ha]; rfl) | (subst e; subst hac; rw [hlc]; first | exact (if_pos c_83).symm | exact (if_neg c_83).symm), rfl⟩) dX5_foretold_105
    ·
      have hlt : j - 6 + t ≤ j := Nat.le_of_not_lt (fun z => c_60 (nI_lt z (by omega)))
      refine lv_iload_n hx hb dX5_foretold_63 rfl (lv_at hl 2 rfl) ?_
      refine lv_aload_n hx hb dX5_foretold_64 rfl (lv_at hl 0 rfl) ?_
      refine fg5_16 X I (by omega) kfX5_43 dX5_foretold_65 ?_
      refine lv_iload hx hb dX5_foretold_68 (lv_at hl 4 rfl) ?_
      refine w_ld X I 26 (by omega) (n := 201) (k := j - 6 + t) (fun _ _ _ => rfl) rfl (by omega) (by decide) dX5_foretold_70 ?_
      refine lv_iadd hx hb dX5_foretold_71 ?_
      refine lv_istore_n (lv' := [(2, .int (acc + ((wu σ 14 0 0).1 26 (j - 6 + t)))), (0, .ref (α 14)), (1, .int (nI (j + 1) - 1)), (3, .int (nI t)), (4, .int (nI (j - 6 + t)))]) hx hb dX5_foretold_72 rfl hl (by decide) rfl (fun ls hl => ?_)
      refine lv_iinc (v := nI (t + 1)) (lv' := [(3, .int (nI (t + 1))), (2, .int (acc + ((wu σ 14 0 0).1 26 (j - 6 + t)))), (0, .ref (α 14)), (1, .int (nI (j + 1) - 1)), (4, .int (nI (j - 6 + t)))]) hx hb dX5_foretold_73 hl (k := 3) rfl (nI_1 _) (by decide) rfl (fun ls hl => ?_)
      refine lv_iinc (v := nI ((j - 6 + t) + 1)) (lv' := [(4, .int (nI ((j - 6 + t) + 1))), (3, .int (nI (t + 1))), (2, .int (acc + ((wu σ 14 0 0).1 26 (j - 6 + t)))), (0, .ref (α 14)), (1, .int (nI (j + 1) - 1))]) hx hb dX5_foretold_76 hl (k := 4) rfl (nI_1 _) (by decide) rfl (fun ls hl => ?_)
      refine lv_goto (tgt := 57) hx hb dX5_foretold_79 (by decide) ?_
      exact ih j (t + 1) (acc + ((wu σ 14 0 0).1 26 (j - 6 + t))) (by omega) (by omega) hlc (by omega) (by rw [hac]; rfl) _ _ I ls (lv_sub hl [3, 4, 2, 1, 0] rfl)
set_option maxHeartbeats 4000000 in
set_option maxRecDepth 100000 in
theorem lpX5_foretold_12 {sz : Nat} (d : Nat) (X : wX p s m args c cX5_foretold 5 RX5 g) (hsz : s.heap.size = sz) (hr : meth.sig.returnType = (some FieldType.int)) (hlk : meth.locks = false) (hN : 32 ≤ N) (hd : σ.1 14 2 = nI d) (hd200 : d ≤ 200) : ∀ (fu : Nat) (j : Nat), j + 1 ≤ fu → j ≤ d → lcO (σ.1 27) (nI d) d = lcO (σ.1 27) (nI d) j → ∀ (H : Heap) (locs : List Loc), wI g α N (wA α N sz) s.heap H locs (wu σ 14 0 0) → ∀ ls : Array Slot, lv_has ls 5 [(0, .ref (α 14)), (1, .int (nI j - 1))] → W p l e ({ frames := 1, cells := 0, slots := 0, locals := 21 } : Room) s m args below meth c H locs 0 0 (MQ below (va_Qi (fun r τ => r = fgO (σ.1 25) (σ.1 26) (lcO (σ.1 27) (nI d) d) ∧ τ = wu σ 14 0 0) (wB g α N) (wA α N sz)) args s 0 0 (wA α N sz)) (F0 m 12 ls []) := by
  have hA : ∀ q, s.heap.size ≤ q → wA α N sz q := fun q h => Or.inr (by omega)
  have hx := X.1.1
  have hb := X.1.2.1
  intro fu
  induction fu with
  | zero =>
    intro j hfu hj ha
    exact absurd hfu (by omega)
  | succ fu ih =>
    intro j hfu hj ha H locs I ls hl
    refine lv_iload_n hx hb dX5_foretold_12 rfl (lv_at hl 1 rfl) ?_
    refine lv_if_lt (tgt := 30) hx hb dX5_foretold_13 (by decide) (fun c_13 => ?_) (fun c_13 => ?_)
    ·
      obtain rfl : j = 0 := (m1_neg (by omega)).mp c_13
      refine lv_iload_n hx hb dX5_foretold_30 rfl (lv_at hl 1 rfl) ?_
      refine lv_if_ge (tgt := 37) hx hb dX5_foretold_31 (by decide) (fun cc => absurd cc (by decide)) (fun _ => ?_)
      refine lv_bipush (v := (-9)) hx hb dX5_foretold_34 (by decide) ?_
      exact w_iret X I hr hlk (⟨by first | (rw [ha]; rfl) | (subst e; subst hac; rw [hlc]; first | exact (if_pos c_83).symm | exact (if_neg c_83).symm), rfl⟩) dX5_foretold_36
    ·
      obtain ⟨j', rfl⟩ : ∃ j', j = j' + 1 := ⟨j - 1, by have h0 : ¬ j = 0 := fun z => c_13 ((m1_neg (j := j) (by omega)).mpr z); omega⟩
      refine lv_aload_n hx hb dX5_foretold_16 rfl (lv_at hl 0 rfl) ?_
      refine lv_iload_n hx hb dX5_foretold_17 rfl (lv_at hl 1 rfl) ?_
      refine w_eqi (y := nI j') (nI_pred _) ?_
      refine w_vSi X I 14 (by omega) rfl rfl (As := [.int (nI j')]) (rest := []) (ctX5_isHere l g α N (wu σ 14 0 0) j' d hN hd hd200 (by omega)) (wM_V kmX5_140 ki_X5_isHere ks_X5_isHere kn_X5 kc_X5_isHere) rfl rfl (n := 1) (by decide +kernel) rfl ⟨by decide, by decide⟩ hl.1 rfl (Nat.le_of_ble_eq_true rfl) ⟨Nat.zero_le _, Nat.zero_le _⟩ dX5_foretold_18 (fun r_18 q_18 => ?_)
      by_cases p_18 : j' < d ∧ σ.1 27 j' ≤ nI d
      ·
        obtain rfl : r_18 = 1 := Eq.trans q_18 (if_pos p_18)
        refine lv_if_ne (tgt := 30) hx hb dX5_foretold_21 (by decide) (fun _ => ?_) (fun cc => absurd cc (by decide))
        refine lv_iload_n hx hb dX5_foretold_30 rfl (lv_at hl 1 rfl) ?_
        refine w_eqi (y := nI j') (nI_pred _) ?_
        refine lv_if_ge (tgt := 37) hx hb dX5_foretold_31 (by decide) (fun _ => ?_) (fun cc => absurd (nI_pos' (by omega)) cc)
        refine lv_iconst (v := 0) hx hb dX5_foretold_37 (by decide) ?_
        refine lv_istore_n (lv' := [(2, .int 0), (0, .ref (α 14)), (1, .int (nI (j' + 1) - 1))]) hx hb dX5_foretold_38 rfl hl (by decide) rfl (fun ls hl => ?_)
        refine lv_iconst (v := 0) hx hb dX5_foretold_39 (by decide) ?_
        refine lv_istore_n (lv' := [(3, .int 0), (2, .int 0), (0, .ref (α 14)), (1, .int (nI (j' + 1) - 1))]) hx hb dX5_foretold_40 rfl hl (by decide) rfl (fun ls hl => ?_)
        refine lv_iload_n hx hb dX5_foretold_41 rfl (lv_at hl 3 rfl) ?_
        refine w_eqi (y := nI j') (nI_pred _) ?_
        refine lv_bipush (v := 6) hx hb dX5_foretold_42 (by decide) ?_
        refine lv_icmp_ge (tgt := 51) hx hb dX5_foretold_44 (by decide) (fun c_44 => ?_) (fun c_44 => ?_)
        ·
          have h6 : 6 ≤ j' := nI_le' (a := 6) c_44 (by decide) (by omega)
          refine lv_iload_n hx hb dX5_foretold_51 rfl (lv_at hl 3 rfl) ?_
          refine w_eqi (y := nI j') (nI_pred _) ?_
          refine lv_bipush (v := 6) hx hb dX5_foretold_52 (by decide) ?_
          refine lv_isub hx hb dX5_foretold_54 ?_
          refine w_eqi (y := nI (j' - 6)) (pk_sub (b := 6) h6) ?_
          refine lv_istore (lv' := [(4, .int (nI (j' - 6))), (3, .int 0), (2, .int 0), (0, .ref (α 14)), (1, .int (nI (j' + 1) - 1))]) hx hb dX5_foretold_55 hl (by decide) rfl (fun ls hl => ?_)
          exact lpX5_foretold_57 d X hsz hr hlk hN hd hd200  (j' + 2) j' 0 0 (by omega) (by omega) (by rw [ha, lcO, if_pos p_18.2]) (by omega) rfl _ _ I ls (lv_sub hl [3, 4, 2, 1, 0] rfl)
        ·
          have h6 : j' < 6 := Nat.lt_of_not_le (fun z => c_44 (nI_le (a := 6) z (by omega)))
          refine lv_iconst (v := 0) hx hb dX5_foretold_47 (by decide) ?_
          refine w_eqi (y := nI (j' - 6)) (by rw [show j' - 6 = 0 by omega]; rfl) ?_
          refine lv_goto (tgt := 55) hx hb dX5_foretold_48 (by decide) ?_
          refine lv_istore (lv' := [(4, .int (nI (j' - 6))), (3, .int 0), (2, .int 0), (0, .ref (α 14)), (1, .int (nI (j' + 1) - 1))]) hx hb dX5_foretold_55 hl (by decide) rfl (fun ls hl => ?_)
          exact lpX5_foretold_57 d X hsz hr hlk hN hd hd200  (j' + 2) j' 0 0 (by omega) (by omega) (by rw [ha, lcO, if_pos p_18.2]) (by omega) rfl _ _ I ls (lv_sub hl [3, 4, 2, 1, 0] rfl)
      ·
        obtain rfl : r_18 = 0 := Eq.trans q_18 (if_neg p_18)
        refine lv_if_ne (tgt := 30) hx hb dX5_foretold_21 (by decide) (fun cc => absurd cc (by decide)) (fun _ => ?_)
        refine lv_iinc (v := nI j' - 1) (lv' := [(1, .int (nI j' - 1)), (0, .ref (α 14))]) hx hb dX5_foretold_24 hl (k := 1) rfl (by rw [nI_pred]; exact m1e _) (by decide) rfl (fun ls hl => ?_)
        refine lv_goto (tgt := 12) hx hb dX5_foretold_27 (by decide) ?_
        exact ih j' (by omega) (by omega) (by rw [ha, lcO, if_neg (fun w => p_18 ⟨by omega, w⟩)]) _ _ I ls (lv_sub hl [1, 0] rfl)
set_option maxHeartbeats 4000000 in
set_option maxRecDepth 100000 in
theorem ctX5_foretold (l : Launch) (g : wG) (α : Nat → Nat) (N : Nat) (σ : wS) (sz : Nat) (d : Nat) (hN : 32 ≤ N) (hd : σ.1 14 2 = nI d) (hd200 : d ≤ 200) : Met l yX5_foretold (wM yX5_foretold cX5_foretold 5 (some FieldType.int)) ({ frames := 1, cells := 0, slots := 0, locals := 21 } : Room) (wPs g α N sz σ [.ref (α 14)]) (va_Qi (fun r τ => r = fgO (σ.1 25) (σ.1 26) (lcO (σ.1 27) (nI d) d) ∧ τ = wu σ 14 0 0) (wB g α N) (wA α N sz)) 0 0 (wA α N sz) := by
  refine w_enter (by decide) (Nat.le_of_ble_eq_true rfl) (fun p e s m args below meth c hsz X I hr hlk ls hl => ?_)
  have hA : ∀ q, s.heap.size ≤ q → wA α N sz q := fun q h => Or.inr (by omega)
  have hx := X.1.1
  have hb := X.1.2.1
  have hl : lv_has ls 5 [(0, .ref (α 14))] := hl
  refine lv_aload_n hx hb dX5_foretold_0 rfl (lv_at hl 0 rfl) ?_
  refine lv_iconst (v := 0) hx hb dX5_foretold_1 (by decide) ?_
  refine fp5_0 X I (by omega) kfX5_66 dX5_foretold_2 (fun H locs I => ?_)
  refine lv_aload_n hx hb dX5_foretold_5 rfl (lv_at hl 0 rfl) ?_
  refine fg5_2 X I (by omega) kfX5_76 dX5_foretold_6 ?_
  refine w_eqi (y := σ.1 14 2) (wu_d (by decide)) ?_
  refine w_eqi (y := nI d) hd ?_
  refine lv_iconst (v := 1) hx hb dX5_foretold_9 (by decide) ?_
  refine lv_isub hx hb dX5_foretold_10 ?_
  refine lv_istore_n (lv' := [(1, .int ((nI d) - 1)), (0, .ref (α 14))]) hx hb dX5_foretold_11 rfl hl (by decide) rfl (fun ls hl => ?_)
  exact lpX5_foretold_12 d X hsz hr hlk hN hd hd200  (d + 1) d (by omega) (by omega) rfl _ _ I ls (lv_sub hl [1, 0] rfl)
end
section
variable {l : Launch} {g : wG} {α : Nat → Nat} {N : Nat} {σ : wS} {p : Program} {e : Env} {s : State} {m : MethodId} {args : Array Value} {below : List Frame} {meth : Method} {c : Code}
set_option maxHeartbeats 4000000 in
set_option maxRecDepth 100000 in
theorem lpX5_count_12 {sz : Nat} (a : Int32) (n d ly dr : Nat) (X : wX p s m args c cX5_count 5 RX5 g) (hsz : s.heap.size = sz) (hr : meth.sig.returnType = (some FieldType.int)) (hlk : meth.locks = false) (hn : σ.1 14 7 = nI n) (hn10 : n ≤ 10) (hN : 32 ≤ N) (hd : σ.1 14 2 = nI d) (hd200 : d ≤ 200) (hz : σ.1 14 4 = nI ly) (hly : ly ≤ 6) (hdr : σ.1 14 21 = nI dr) (hdr30 : dr ≤ 30) : ∀ (fu : Nat) (k : Nat) (fl : Int32) (dy : Int32), n + 1 ≤ k + fu → k ≤ n → fl = smI (fun i => if ¬ σ.1 22 i = (-9) then 1 else 0) k → dy = smI (fun i => if σ.1 22 i = (-9) ∧ σ.1 21 i = 0 then 1 else 0) k → ∀ (H : Heap) (locs : List Loc), wI g α N (wA α N sz) s.heap H locs (wu σ 14 0 0) → ∀ ls : Array Slot, lv_has ls 5 [(0, .ref (α 14)), (1, .int a), (2, .int fl), (3, .int dy), (4, .int (nI k))] → W p l e ({ frames := 1, cells := 0, slots := 0, locals := 21 } : Room) s m args below meth c H locs 0 0 (MQ below (va_Qi (fun r τ => r = abF (nI d) (nI n) (nI ly) (smI (fun i => if ¬ σ.1 22 i = (-9) then 1 else 0) n) (σ.1 14 19) (nI dr) (smI (fun i => if σ.1 22 i = (-9) ∧ σ.1 21 i = 0 then 1 else 0) n) a ∧ τ = wu σ 14 0 0) (wB g α N) (wA α N sz)) args s 0 0 (wA α N sz)) (F0 m 12 ls []) := by
  have hA : ∀ q, s.heap.size ≤ q → wA α N sz q := fun q h => Or.inr (by omega)
  have hx := X.1.1
  have hb := X.1.2.1
  intro fu
  induction fu with
  | zero =>
    intro k fl dy hfu hk h1 h2
    exact absurd hfu (by omega)
  | succ fu ih =>
    intro k fl dy hfu hk h1 h2 H locs I ls hl
    refine lv_iload hx hb dX5_count_12 (lv_at hl 4 rfl) ?_
    refine lv_aload_n hx hb dX5_count_14 rfl (lv_at hl 0 rfl) ?_
    refine fg5_7 X I (by omega) kfX5_79 dX5_count_15 ?_
    refine w_eqi (y := nI n) hn ?_
    refine lv_icmp_ge (tgt := 71) hx hb dX5_count_18 (by decide) (fun c_18 => ?_) (fun c_18 => ?_)
    ·
      have e : k = n := by have := nI_le' c_18 (by omega) (by omega); omega
      refine lv_iload_n hx hb dX5_count_71 rfl (lv_at hl 1 rfl) ?_
      rcases sw7 a with rfl | rfl | rfl | rfl | rfl | rfl | rfl | hsw
      ·
        refine lv_tableIn (tgt := 116) (off := 44) hx hb dX5_count_72 (by decide) (by decide) rfl (by decide) ?_
        refine lv_aload_n hx hb dX5_count_116 rfl (lv_at hl 0 rfl) ?_
        refine fg5_2 X I (by omega) kfX5_76 dX5_count_117 ?_
        refine w_eqi (y := nI d) hd ?_
        exact w_iret X I hr hlk (⟨by subst e; subst h1; subst h2; first | (simp [abF]; done) | (simp [abF]; rfl) | (simp [abF, hsw]; done), rfl⟩) dX5_count_120
      ·
        refine lv_tableIn (tgt := 121) (off := 49) hx hb dX5_count_72 (by decide) (by decide) rfl (by decide) ?_
        refine lv_aload_n hx hb dX5_count_121 rfl (lv_at hl 0 rfl) ?_
        refine fg5_7 X I (by omega) kfX5_79 dX5_count_122 ?_
        refine w_eqi (y := nI n) hn ?_
        exact w_iret X I hr hlk (⟨by subst e; subst h1; subst h2; first | (simp [abF]; done) | (simp [abF]; rfl) | (simp [abF, hsw]; done), rfl⟩) dX5_count_125
      ·
        refine lv_tableIn (tgt := 126) (off := 54) hx hb dX5_count_72 (by decide) (by decide) rfl (by decide) ?_
        refine lv_aload_n hx hb dX5_count_126 rfl (lv_at hl 0 rfl) ?_
        refine fg5_4 X I (by omega) kfX5_73 dX5_count_127 ?_
        refine w_eqi (y := nI ly) hz ?_
        exact w_iret X I hr hlk (⟨by subst e; subst h1; subst h2; first | (simp [abF]; done) | (simp [abF]; rfl) | (simp [abF, hsw]; done), rfl⟩) dX5_count_130
      ·
        refine lv_tableIn (tgt := 131) (off := 59) hx hb dX5_count_72 (by decide) (by decide) rfl (by decide) ?_
        refine lv_iload_n hx hb dX5_count_131 rfl (lv_at hl 2 rfl) ?_
        exact w_iret X I hr hlk (⟨by subst e; subst h1; subst h2; first | (simp [abF]; done) | (simp [abF]; rfl) | (simp [abF, hsw]; done), rfl⟩) dX5_count_132
      ·
        refine lv_tableIn (tgt := 133) (off := 61) hx hb dX5_count_72 (by decide) (by decide) rfl (by decide) ?_
        refine lv_aload_n hx hb dX5_count_133 rfl (lv_at hl 0 rfl) ?_
        refine fg5_19 X I (by omega) kfX5_105 dX5_count_134 ?_
        exact w_iret X I hr hlk (⟨by subst e; subst h1; subst h2; first | (simp [abF]; done) | (simp [abF]; rfl) | (simp [abF, hsw]; done), rfl⟩) dX5_count_137
      ·
        refine lv_tableIn (tgt := 138) (off := 66) hx hb dX5_count_72 (by decide) (by decide) rfl (by decide) ?_
        refine lv_aload_n hx hb dX5_count_138 rfl (lv_at hl 0 rfl) ?_
        refine fg5_21 X I (by omega) kfX5_117 dX5_count_139 ?_
        refine w_eqi (y := nI dr) hdr ?_
        exact w_iret X I hr hlk (⟨by subst e; subst h1; subst h2; first | (simp [abF]; done) | (simp [abF]; rfl) | (simp [abF, hsw]; done), rfl⟩) dX5_count_142
      ·
        refine lv_tableIn (tgt := 143) (off := 71) hx hb dX5_count_72 (by decide) (by decide) rfl (by decide) ?_
        refine lv_iload_n hx hb dX5_count_143 rfl (lv_at hl 3 rfl) ?_
        exact w_iret X I hr hlk (⟨by subst e; subst h1; subst h2; first | (simp [abF]; done) | (simp [abF]; rfl) | (simp [abF, hsw]; done), rfl⟩) dX5_count_144
      ·
        refine lv_tableOut (tgt := 145) hx hb dX5_count_72 hsw.1 (by decide) ?_
        refine lv_iconst (v := (-1)) hx hb dX5_count_145 (by decide) ?_
        exact w_iret X I hr hlk (⟨by subst e; subst h1; subst h2; first | (simp [abF]; done) | (simp [abF]; rfl) | (simp [abF, hsw]; done), rfl⟩) dX5_count_146
    ·
      have hlt : k < n := by
        rcases Nat.lt_or_ge k n with q | q
        · exact q
        · exact absurd (nI_le q (by omega)) c_18
      refine lv_iload_n hx hb dX5_count_21 rfl (lv_at hl 2 rfl) ?_
      refine lv_aload_n hx hb dX5_count_22 rfl (lv_at hl 0 rfl) ?_
      refine lv_iload hx hb dX5_count_23 (lv_at hl 4 rfl) ?_
      refine w_vSi X I 14 (by omega) rfl rfl (As := [.int (nI k)]) (rest := [.int fl]) (ctX5_isLoaded l g α N (wu σ 14 0 0) k hN (by omega)) (wM_V kmX5_98 ki_X5_isLoaded ks_X5_isLoaded kn_X5 kc_X5_isLoaded) rfl rfl (n := 1) (by decide +kernel) rfl ⟨by decide, by decide⟩ hl.1 rfl (Nat.le_of_ble_eq_true rfl) ⟨Nat.zero_le _, Nat.zero_le _⟩ dX5_count_25 (fun r_25 q_25 => ?_)
      by_cases p_25 : ¬ σ.1 22 k = (-9)
      ·
        obtain rfl : r_25 = 1 := Eq.trans q_25 (if_pos p_25)
        refine lv_if_eq (tgt := 35) hx hb dX5_count_28 (by decide) (fun cc => absurd cc (by decide)) (fun _ => ?_)
        refine lv_iconst (v := 1) hx hb dX5_count_31 (by decide) ?_
        refine lv_goto (tgt := 36) hx hb dX5_count_32 (by decide) ?_
        refine lv_iadd hx hb dX5_count_36 ?_
        refine lv_istore_n (lv' := [(2, .int (fl + 1)), (0, .ref (α 14)), (1, .int a), (3, .int dy), (4, .int (nI k))]) hx hb dX5_count_37 rfl hl (by decide) rfl (fun ls hl => ?_)
        refine lv_iload_n hx hb dX5_count_38 rfl (lv_at hl 3 rfl) ?_
        refine lv_aload_n hx hb dX5_count_39 rfl (lv_at hl 1 rfl) ?_
        refine lv_iload hx hb dX5_count_40 (lv_at hl 4 rfl) ?_
        refine w_vSi X I 14 (by omega) rfl rfl (As := [.int (nI k)]) (rest := [.int dy]) (ctX5_isLoaded l g α N (wu σ 14 0 0) k hN (by omega)) (wM_V kmX5_98 ki_X5_isLoaded ks_X5_isLoaded kn_X5 kc_X5_isLoaded) rfl rfl (n := 1) (by decide +kernel) rfl ⟨by decide, by decide⟩ hl.1 rfl (Nat.le_of_ble_eq_true rfl) ⟨Nat.zero_le _, Nat.zero_le _⟩ dX5_count_42 (fun r_42 q_42 => ?_)
        by_cases p_42 : ¬ σ.1 22 k = (-9)
        ·
          obtain rfl : r_42 = 1 := Eq.trans q_42 (if_pos p_42)
          refine lv_if_ne (tgt := 62) hx hb dX5_count_45 (by decide) (fun _ => ?_) (fun cc => absurd cc (by decide))
          refine lv_iconst (v := 0) hx hb dX5_count_62 (by decide) ?_
          refine lv_iadd hx hb dX5_count_63 ?_
          refine lv_istore_n (lv' := [(3, .int (dy + 0)), (2, .int (fl + 1)), (0, .ref (α 14)), (1, .int a), (4, .int (nI k))]) hx hb dX5_count_64 rfl hl (by decide) rfl (fun ls hl => ?_)
          refine lv_iinc (v := nI (k + 1)) (lv' := [(4, .int (nI (k + 1))), (3, .int (dy + 0)), (2, .int (fl + 1)), (0, .ref (α 14)), (1, .int a)]) hx hb dX5_count_65 hl (k := 4) rfl (nI_1 _) (by decide) rfl (fun ls hl => ?_)
          refine lv_goto (tgt := 12) hx hb dX5_count_68 (by decide) ?_
          exact ih (k + 1) (fl + 1) (dy + 0) (by omega) (by omega) (by rw [h1, smI]; first | rw [if_pos p_25] | rw [if_neg p_25]) (by rw [h2, smI]; first | (rw [if_neg (fun z => p_42 z.1)]; done) | (rw [if_neg (fun z => c_55 z.2)]; done) | (rw [if_pos ⟨Classical.not_not.mp p_42, c_55⟩]; done)) _ _ I ls (lv_sub hl [3, 4, 2, 1, 0] rfl)
        ·
          obtain rfl : r_42 = 0 := Eq.trans q_42 (if_neg p_42)
          refine lv_if_ne (tgt := 62) hx hb dX5_count_45 (by decide) (fun cc => absurd cc (by decide)) (fun _ => ?_)
          refine lv_aload_n hx hb dX5_count_48 rfl (lv_at hl 1 rfl) ?_
          refine fg5_11 X I (by omega) kfX5_28 dX5_count_49 ?_
          refine lv_iload hx hb dX5_count_52 (lv_at hl 4 rfl) ?_
          refine w_ld X I 21 (by omega) (n := 10) (k := k) (fun _ _ _ => rfl) rfl (by omega) (by decide) dX5_count_54 ?_
          refine lv_if_ne (tgt := 62) hx hb dX5_count_55 (by decide) (fun c_55 => ?_) (fun c_55 => ?_)
          ·
            refine lv_iconst (v := 0) hx hb dX5_count_62 (by decide) ?_
            refine lv_iadd hx hb dX5_count_63 ?_
            refine lv_istore_n (lv' := [(3, .int (dy + 0)), (2, .int (fl + 1)), (0, .ref (α 14)), (1, .int a), (4, .int (nI k))]) hx hb dX5_count_64 rfl hl (by decide) rfl (fun ls hl => ?_)
            refine lv_iinc (v := nI (k + 1)) (lv' := [(4, .int (nI (k + 1))), (3, .int (dy + 0)), (2, .int (fl + 1)), (0, .ref (α 14)), (1, .int a)]) hx hb dX5_count_65 hl (k := 4) rfl (nI_1 _) (by decide) rfl (fun ls hl => ?_)
            refine lv_goto (tgt := 12) hx hb dX5_count_68 (by decide) ?_
            exact ih (k + 1) (fl + 1) (dy + 0) (by omega) (by omega) (by rw [h1, smI]; first | rw [if_pos p_25] | rw [if_neg p_25]) (by rw [h2, smI]; first | (rw [if_neg (fun z => p_42 z.1)]; done) | (rw [if_neg (fun z => c_55 z.2)]; done) | (rw [if_pos ⟨Classical.not_not.mp p_42, c_55⟩]; done)) _ _ I ls (lv_sub hl [3, 4, 2, 1, 0] rfl)
          ·
            refine lv_iconst (v := 1) hx hb dX5_count_58 (by decide) ?_
            refine lv_goto (tgt := 63) hx hb dX5_count_59 (by decide) ?_
            refine lv_iadd hx hb dX5_count_63 ?_
            refine lv_istore_n (lv' := [(3, .int (dy + 1)), (2, .int (fl + 1)), (0, .ref (α 14)), (1, .int a), (4, .int (nI k))]) hx hb dX5_count_64 rfl hl (by decide) rfl (fun ls hl => ?_)
            refine lv_iinc (v := nI (k + 1)) (lv' := [(4, .int (nI (k + 1))), (3, .int (dy + 1)), (2, .int (fl + 1)), (0, .ref (α 14)), (1, .int a)]) hx hb dX5_count_65 hl (k := 4) rfl (nI_1 _) (by decide) rfl (fun ls hl => ?_)
            refine lv_goto (tgt := 12) hx hb dX5_count_68 (by decide) ?_
            exact ih (k + 1) (fl + 1) (dy + 1) (by omega) (by omega) (by rw [h1, smI]; first | rw [if_pos p_25] | rw [if_neg p_25]) (by rw [h2, smI]; first | (rw [if_neg (fun z => p_42 z.1)]; done) | (rw [if_neg (fun z => c_55 z.2)]; done) | (rw [if_pos ⟨Classical.not_not.mp p_42, c_55⟩]; done)) _ _ I ls (lv_sub hl [3, 4, 2, 1, 0] rfl)
      ·
        obtain rfl : r_25 = 0 := Eq.trans q_25 (if_neg p_25)
        refine lv_if_eq (tgt := 35) hx hb dX5_count_28 (by decide) (fun _ => ?_) (fun cc => absurd cc (by decide))
        refine lv_iconst (v := 0) hx hb dX5_count_35 (by decide) ?_
        refine lv_iadd hx hb dX5_count_36 ?_
        refine lv_istore_n (lv' := [(2, .int (fl + 0)), (0, .ref (α 14)), (1, .int a), (3, .int dy), (4, .int (nI k))]) hx hb dX5_count_37 rfl hl (by decide) rfl (fun ls hl => ?_)
        refine lv_iload_n hx hb dX5_count_38 rfl (lv_at hl 3 rfl) ?_
        refine lv_aload_n hx hb dX5_count_39 rfl (lv_at hl 1 rfl) ?_
        refine lv_iload hx hb dX5_count_40 (lv_at hl 4 rfl) ?_
        refine w_vSi X I 14 (by omega) rfl rfl (As := [.int (nI k)]) (rest := [.int dy]) (ctX5_isLoaded l g α N (wu σ 14 0 0) k hN (by omega)) (wM_V kmX5_98 ki_X5_isLoaded ks_X5_isLoaded kn_X5 kc_X5_isLoaded) rfl rfl (n := 1) (by decide +kernel) rfl ⟨by decide, by decide⟩ hl.1 rfl (Nat.le_of_ble_eq_true rfl) ⟨Nat.zero_le _, Nat.zero_le _⟩ dX5_count_42 (fun r_42 q_42 => ?_)
        by_cases p_42 : ¬ σ.1 22 k = (-9)
        ·
          obtain rfl : r_42 = 1 := Eq.trans q_42 (if_pos p_42)
          refine lv_if_ne (tgt := 62) hx hb dX5_count_45 (by decide) (fun _ => ?_) (fun cc => absurd cc (by decide))
          refine lv_iconst (v := 0) hx hb dX5_count_62 (by decide) ?_
          refine lv_iadd hx hb dX5_count_63 ?_
          refine lv_istore_n (lv' := [(3, .int (dy + 0)), (2, .int (fl + 0)), (0, .ref (α 14)), (1, .int a), (4, .int (nI k))]) hx hb dX5_count_64 rfl hl (by decide) rfl (fun ls hl => ?_)
          refine lv_iinc (v := nI (k + 1)) (lv' := [(4, .int (nI (k + 1))), (3, .int (dy + 0)), (2, .int (fl + 0)), (0, .ref (α 14)), (1, .int a)]) hx hb dX5_count_65 hl (k := 4) rfl (nI_1 _) (by decide) rfl (fun ls hl => ?_)
          refine lv_goto (tgt := 12) hx hb dX5_count_68 (by decide) ?_
          exact ih (k + 1) (fl + 0) (dy + 0) (by omega) (by omega) (by rw [h1, smI]; first | rw [if_pos p_25] | rw [if_neg p_25]) (by rw [h2, smI]; first | (rw [if_neg (fun z => p_42 z.1)]; done) | (rw [if_neg (fun z => c_55 z.2)]; done) | (rw [if_pos ⟨Classical.not_not.mp p_42, c_55⟩]; done)) _ _ I ls (lv_sub hl [3, 4, 2, 1, 0] rfl)
        ·
          obtain rfl : r_42 = 0 := Eq.trans q_42 (if_neg p_42)
          refine lv_if_ne (tgt := 62) hx hb dX5_count_45 (by decide) (fun cc => absurd cc (by decide)) (fun _ => ?_)
          refine lv_aload_n hx hb dX5_count_48 rfl (lv_at hl 1 rfl) ?_
          refine fg5_11 X I (by omega) kfX5_28 dX5_count_49 ?_
          refine lv_iload hx hb dX5_count_52 (lv_at hl 4 rfl) ?_
          refine w_ld X I 21 (by omega) (n := 10) (k := k) (fun _ _ _ => rfl) rfl (by omega) (by decide) dX5_count_54 ?_
          refine lv_if_ne (tgt := 62) hx hb dX5_count_55 (by decide) (fun c_55 => ?_) (fun c_55 => ?_)
          ·
            refine lv_iconst (v := 0) hx hb dX5_count_62 (by decide) ?_
            refine lv_iadd hx hb dX5_count_63 ?_
            refine lv_istore_n (lv' := [(3, .int (dy + 0)), (2, .int (fl + 0)), (0, .ref (α 14)), (1, .int a), (4, .int (nI k))]) hx hb dX5_count_64 rfl hl (by decide) rfl (fun ls hl => ?_)
            refine lv_iinc (v := nI (k + 1)) (lv' := [(4, .int (nI (k + 1))), (3, .int (dy + 0)), (2, .int (fl + 0)), (0, .ref (α 14)), (1, .int a)]) hx hb dX5_count_65 hl (k := 4) rfl (nI_1 _) (by decide) rfl (fun ls hl => ?_)
            refine lv_goto (tgt := 12) hx hb dX5_count_68 (by decide) ?_
            exact ih (k + 1) (fl + 0) (dy + 0) (by omega) (by omega) (by rw [h1, smI]; first | rw [if_pos p_25] | rw [if_neg p_25]) (by rw [h2, smI]; first | (rw [if_neg (fun z => p_42 z.1)]; done) | (rw [if_neg (fun z => c_55 z.2)]; done) | (rw [if_pos ⟨Classical.not_not.mp p_42, c_55⟩]; done)) _ _ I ls (lv_sub hl [3, 4, 2, 1, 0] rfl)
          ·
            refine lv_iconst (v := 1) hx hb dX5_count_58 (by decide) ?_
            refine lv_goto (tgt := 63) hx hb dX5_count_59 (by decide) ?_
            refine lv_iadd hx hb dX5_count_63 ?_
            refine lv_istore_n (lv' := [(3, .int (dy + 1)), (2, .int (fl + 0)), (0, .ref (α 14)), (1, .int a), (4, .int (nI k))]) hx hb dX5_count_64 rfl hl (by decide) rfl (fun ls hl => ?_)
            refine lv_iinc (v := nI (k + 1)) (lv' := [(4, .int (nI (k + 1))), (3, .int (dy + 1)), (2, .int (fl + 0)), (0, .ref (α 14)), (1, .int a)]) hx hb dX5_count_65 hl (k := 4) rfl (nI_1 _) (by decide) rfl (fun ls hl => ?_)
            refine lv_goto (tgt := 12) hx hb dX5_count_68 (by decide) ?_
            exact ih (k + 1) (fl + 0) (dy + 1) (by omega) (by omega) (by rw [h1, smI]; first | rw [if_pos p_25] | rw [if_neg p_25]) (by rw [h2, smI]; first | (rw [if_neg (fun z => p_42 z.1)]; done) | (rw [if_neg (fun z => c_55 z.2)]; done) | (rw [if_pos ⟨Classical.not_not.mp p_42, c_55⟩]; done)) _ _ I ls (lv_sub hl [3, 4, 2, 1, 0] rfl)
set_option maxHeartbeats 4000000 in
set_option maxRecDepth 100000 in
theorem ctX5_count (l : Launch) (g : wG) (α : Nat → Nat) (N : Nat) (σ : wS) (sz : Nat) (a : Int32) (n d ly dr : Nat) (hn : σ.1 14 7 = nI n) (hn10 : n ≤ 10) (hN : 32 ≤ N) (hd : σ.1 14 2 = nI d) (hd200 : d ≤ 200) (hz : σ.1 14 4 = nI ly) (hly : ly ≤ 6) (hdr : σ.1 14 21 = nI dr) (hdr30 : dr ≤ 30) : Met l yX5_count (wM yX5_count cX5_count 5 (some FieldType.int)) ({ frames := 1, cells := 0, slots := 0, locals := 21 } : Room) (wPs g α N sz σ [.ref (α 14), .int a]) (va_Qi (fun r τ => r = abF (nI d) (nI n) (nI ly) (smI (fun i => if ¬ σ.1 22 i = (-9) then 1 else 0) n) (σ.1 14 19) (nI dr) (smI (fun i => if σ.1 22 i = (-9) ∧ σ.1 21 i = 0 then 1 else 0) n) a ∧ τ = wu σ 14 0 0) (wB g α N) (wA α N sz)) 0 0 (wA α N sz) := by
  refine w_enter (by decide) (Nat.le_of_ble_eq_true rfl) (fun p e s m args below meth c hsz X I hr hlk ls hl => ?_)
  have hA : ∀ q, s.heap.size ≤ q → wA α N sz q := fun q h => Or.inr (by omega)
  have hx := X.1.1
  have hb := X.1.2.1
  have hl : lv_has ls 5 [(0, .ref (α 14)), (1, .int a)] := hl
  refine lv_aload_n hx hb dX5_count_0 rfl (lv_at hl 0 rfl) ?_
  refine lv_iconst (v := 0) hx hb dX5_count_1 (by decide) ?_
  refine fp5_0 X I (by omega) kfX5_66 dX5_count_2 (fun H locs I => ?_)
  refine lv_iconst (v := 0) hx hb dX5_count_5 (by decide) ?_
  refine lv_istore_n (lv' := [(2, .int 0), (0, .ref (α 14)), (1, .int a)]) hx hb dX5_count_6 rfl hl (by decide) rfl (fun ls hl => ?_)
  refine lv_iconst (v := 0) hx hb dX5_count_7 (by decide) ?_
  refine lv_istore_n (lv' := [(3, .int 0), (2, .int 0), (0, .ref (α 14)), (1, .int a)]) hx hb dX5_count_8 rfl hl (by decide) rfl (fun ls hl => ?_)
  refine lv_iconst (v := 0) hx hb dX5_count_9 (by decide) ?_
  refine lv_istore (lv' := [(4, .int 0), (3, .int 0), (2, .int 0), (0, .ref (α 14)), (1, .int a)]) hx hb dX5_count_10 hl (by decide) rfl (fun ls hl => ?_)
  exact lpX5_count_12 a n d ly dr X hsz hr hlk hn hn10 hN hd hd200 hz hly hdr hdr30  (n + 1) 0 0 0 (by omega) (by omega) rfl rfl _ _ I ls (lv_sub hl [3, 4, 2, 1, 0] rfl)
end
section
variable {l : Launch} {g : wG} {α : Nat → Nat} {N : Nat} {σ : wS} {p : Program} {e : Env} {s : State} {m : MethodId} {args : Array Value} {below : List Frame} {meth : Method} {c : Code}
set_option maxHeartbeats 4000000 in
set_option maxRecDepth 100000 in
theorem ctX5_trace (l : Launch) (g : wG) (α : Nat → Nat) (N : Nat) (σ : wS) (sz : Nat)  (hN : 32 ≤ N) : Met l yX5_trace (wM yX5_trace cX5_trace 1 (some FieldType.long)) ({ frames := 0, cells := 0, slots := 0, locals := 0 } : Room) (wPs g α N sz σ [.ref (α 14)]) (va_Ql (fun r τ => r = σ.2.1 14 ∧ τ = wu σ 14 0 0) (wB g α N) (wA α N sz)) 0 0 (wA α N sz) := by
  refine w_enter (by decide) (Nat.le_of_ble_eq_true rfl) (fun p e s m args below meth c hsz X I hr hlk ls hl => ?_)
  have hA : ∀ q, s.heap.size ≤ q → wA α N sz q := fun q h => Or.inr (by omega)
  have hx := X.1.1
  have hb := X.1.2.1
  have hl : lv_has ls 1 [(0, .ref (α 14))] := hl
  refine lv_aload_n hx hb dX5_trace_0 rfl (lv_at hl 0 rfl) ?_
  refine lv_iconst (v := 0) hx hb dX5_trace_1 (by decide) ?_
  refine fp5_0 X I (by omega) kfX5_66 dX5_trace_2 (fun H locs I => ?_)
  refine lv_aload_n hx hb dX5_trace_5 rfl (lv_at hl 0 rfl) ?_
  refine fg5_1 X I (by omega) kfX5_86 dX5_trace_6 ?_
  exact w_lret X I hr hlk (⟨rfl, rfl⟩) dX5_trace_9
end
