section
variable {l : Launch} {g : wG} {α : Nat → Nat} {N : Nat} {σ : wS} {p : Program} {e : Env} {s : State} {m : MethodId} {args : Array Value} {below : List Frame} {meth : Method} {c : Code}
set_option maxHeartbeats 4000000 in
set_option maxRecDepth 100000 in
theorem ctX4_left (l : Launch) (g : wG) (α : Nat → Nat) (N : Nat) (σ : wS) (a : Int32) (ly : Nat) (hN : 32 ≤ N) (hz : σ.1 2 2 = nI ly) (hly : ly ≤ 6) : Met l yX4_left (wM yX4_left cX4_left 2 (some FieldType.int)) ({ frames := 1, cells := 0, slots := 0, locals := 21 } : Room) (wPc g α N σ [.ref (α 0), .int a]) (vp_Si (fun r => r = spq ly a (-1) (σ.1 3))) 0 0 (fun _ => False) := by
  refine w_enterS (by decide) (Nat.le_of_ble_eq_true rfl) (fun p e s m args below meth c X I hr hlk ls hl => ?_)
  have hx := X.1.1
  have hb := X.1.2.1
  have hl : lv_has ls 2 [(0, .ref (α 0)), (1, .int a)] := hl
  refine lv_aload_n hx hb dX4_left_0 rfl (lv_at hl 0 rfl) ?_
  refine fg4_1 X I (by omega) kfX4_16 dX4_left_1 ?_
  refine lv_iload_n hx hb dX4_left_4 rfl (lv_at hl 1 rfl) ?_
  refine w_vSi X I 2 (by omega) rfl rfl (As := [.int a]) (rest := []) (ctX1_has l g α N σ _ (by first | assumption | omega)) (wM_V kmX4_68 ki_X1_has ks_X1_has kn_X1 kc_X1_has) rfl rfl (n := 1) (by decide +kernel) rfl ⟨by decide, by decide⟩ hl.1 rfl (Nat.le_of_ble_eq_true rfl) ⟨Nat.zero_le _, Nat.zero_le _⟩ dX4_left_5 (fun r_5 q_5 => ?_)
  by_cases p_5 : ¬ a < 0 ∧ ¬ σ.1 2 2 ≤ a
  ·
    obtain rfl : r_5 = 1 := Eq.trans q_5 (if_pos p_5)
    rw [hz] at p_5
    obtain ⟨k, hk, rfl⟩ := bt_ok (by omega) p_5
    refine lv_if_eq (tgt := 23) hx hb dX4_left_8 (by decide) (fun cc => absurd cc (by decide)) (fun _ => ?_)
    refine lv_aload_n hx hb dX4_left_11 rfl (lv_at hl 0 rfl) ?_
    refine fg4_1 X I (by omega) kfX4_16 dX4_left_12 ?_
    refine fg1_0 X I (by omega) kfX4_72 dX4_left_15 ?_
    refine lv_iload_n hx hb dX4_left_18 rfl (lv_at hl 1 rfl) ?_
    refine w_ld X I 3 (by omega) (n := 6) (k := k) (fun _ _ _ => rfl) rfl (by omega) (by decide) dX4_left_19 ?_
    refine lv_goto (tgt := 24) hx hb dX4_left_20 (by decide) ?_
    exact w_iretS X hr hlk (by first | exact (spq_ok hk (by omega)).symm | exact (spq_bad (bt_bad p_5)).symm) dX4_left_24
  ·
    obtain rfl : r_5 = 0 := Eq.trans q_5 (if_neg p_5)
    rw [hz] at p_5
    refine lv_if_eq (tgt := 23) hx hb dX4_left_8 (by decide) (fun _ => ?_) (fun cc => absurd cc (by decide))
    refine lv_iconst (v := (-1)) hx hb dX4_left_23 (by decide) ?_
    exact w_iretS X hr hlk (by first | exact (spq_ok hk (by omega)).symm | exact (spq_bad (bt_bad p_5)).symm) dX4_left_24
end
section
variable {l : Launch} {g : wG} {α : Nat → Nat} {N : Nat} {σ : wS} {p : Program} {e : Env} {s : State} {m : MethodId} {args : Array Value} {below : List Frame} {meth : Method} {c : Code}
set_option maxHeartbeats 4000000 in
set_option maxRecDepth 100000 in
theorem ctX4_shipNumbered (l : Launch) (g : wG) (α : Nat → Nat) (N : Nat) (σ : wS) (a : Int32) (n : Nat) (hn : σ.1 0 7 = nI n) (hn10 : n ≤ 10) (hN : 32 + 4 * n ≤ N) (hR : ∀ k, k < n → σ.2.2 5 k = some (32 + 4 * k)) : Met l yX4_shipNumbered (wM yX4_shipNumbered cX4_shipNumbered 2 (some (FieldType.object "RockRoad$Ship"))) ({ frames := 0, cells := 0, slots := 0, locals := 0 } : Room) (wPc g α N σ [.ref (α 0), .int a]) (va_Sq (fun r => (∀ k, k < n → a = nI k → r = some (α (32 + 4 * k))) ∧ ((a < 0 ∨ nI n ≤ a) → r = none))) 0 0 (fun _ => False) := by
  refine w_enterS (by decide) (Nat.le_of_ble_eq_true rfl) (fun p e s m args below meth c X I hr hlk ls hl => ?_)
  have hx := X.1.1
  have hb := X.1.2.1
  have hl : lv_has ls 2 [(0, .ref (α 0)), (1, .int a)] := hl
  refine lv_iload_n hx hb dX4_shipNumbered_0 rfl (lv_at hl 1 rfl) ?_
  refine lv_if_lt (tgt := 21) hx hb dX4_shipNumbered_1 (by decide) (fun c_1 => ?_) (fun c_1 => ?_)
  ·
    refine lv_null hx hb dX4_shipNumbered_21 ?_
    exact w_aretS (r := none) rfl X hr hlk (by first | exact ⟨fun k2 hk2 e => by rw [(nI_eq (by omega) (by omega)).mp e], fun z => absurd z (nbad hk (by omega))⟩ | exact ⟨fun k2 hk2 e => absurd (Or.inl c_1) (by rw [e]; exact nbad hk2 (by omega)), fun _ => rfl⟩ | exact ⟨fun k2 hk2 e => absurd (Or.inr c_9) (by rw [e]; exact nbad hk2 (by omega)), fun _ => rfl⟩) dX4_shipNumbered_22
  ·
    refine lv_iload_n hx hb dX4_shipNumbered_4 rfl (lv_at hl 1 rfl) ?_
    refine lv_aload_n hx hb dX4_shipNumbered_5 rfl (lv_at hl 0 rfl) ?_
    refine fg4_7 X I (by omega) kfX4_47 dX4_shipNumbered_6 ?_
    refine w_eqi hn ?_
    refine lv_icmp_ge (tgt := 21) hx hb dX4_shipNumbered_9 (by decide) (fun c_9 => ?_) (fun c_9 => ?_)
    ·
      refine lv_null hx hb dX4_shipNumbered_21 ?_
      exact w_aretS (r := none) rfl X hr hlk (by first | exact ⟨fun k2 hk2 e => by rw [(nI_eq (by omega) (by omega)).mp e], fun z => absurd z (nbad hk (by omega))⟩ | exact ⟨fun k2 hk2 e => absurd (Or.inl c_1) (by rw [e]; exact nbad hk2 (by omega)), fun _ => rfl⟩ | exact ⟨fun k2 hk2 e => absurd (Or.inr c_9) (by rw [e]; exact nbad hk2 (by omega)), fun _ => rfl⟩) dX4_shipNumbered_22
    ·
      obtain ⟨k, hk, rfl⟩ := bt_ok (n := n) (by omega) ⟨c_1, c_9⟩
      refine lv_aload_n hx hb dX4_shipNumbered_12 rfl (lv_at hl 0 rfl) ?_
      refine fg4_2 X I (by omega) kfX4_22 dX4_shipNumbered_13 ?_
      refine lv_iload_n hx hb dX4_shipNumbered_16 rfl (lv_at hl 1 rfl) ?_
      refine w_ldq X I 5 (by omega) (n := 10) (k := k) (fun _ _ _ => rfl) rfl (by omega) (by decide) (hR k hk) dX4_shipNumbered_17 ?_
      refine lv_goto (tgt := 22) hx hb dX4_shipNumbered_18 (by decide) ?_
      exact w_aretS (r := (some (α (32 + 4 * k)))) rfl X hr hlk (by first | exact ⟨fun k2 hk2 e => by rw [(nI_eq (by omega) (by omega)).mp e], fun z => absurd z (nbad hk (by omega))⟩ | exact ⟨fun k2 hk2 e => absurd (Or.inl c_1) (by rw [e]; exact nbad hk2 (by omega)), fun _ => rfl⟩ | exact ⟨fun k2 hk2 e => absurd (Or.inr c_9) (by rw [e]; exact nbad hk2 (by omega)), fun _ => rfl⟩) dX4_shipNumbered_22
end
section
variable {l : Launch} {g : wG} {α : Nat → Nat} {N : Nat} {σ : wS} {p : Program} {e : Env} {s : State} {m : MethodId} {args : Array Value} {below : List Frame} {meth : Method} {c : Code}
set_option maxHeartbeats 4000000 in
set_option maxRecDepth 100000 in
theorem ctX4_cargo (l : Launch) (g : wG) (α : Nat → Nat) (N : Nat) (σ : wS) (a b : Int32) (n ly : Nat) (hn : σ.1 0 7 = nI n) (hn10 : n ≤ 10) (hN : 32 + 4 * n ≤ N) (hz : σ.1 2 2 = nI ly) (hly : ly ≤ 6) (hR : ∀ k, k < n → σ.2.2 5 k = some (32 + 4 * k)) : Met l yX4_cargo (wM yX4_cargo cX4_cargo 4 (some FieldType.int)) ({ frames := 1, cells := 0, slots := 0, locals := 21 } : Room) (wPc g α N σ [.ref (α 0), .int a, .int b]) (vp_Si (fun r => r = spq n a (-1) (fun i => spq ly b (-1) (σ.1 (33 + 4 * i))))) 0 0 (fun _ => False) := by
  refine w_enterS (by decide) (Nat.le_of_ble_eq_true rfl) (fun p e s m args below meth c X I hr hlk ls hl => ?_)
  have hx := X.1.1
  have hb := X.1.2.1
  have hl : lv_has ls 4 [(0, .ref (α 0)), (1, .int a), (2, .int b)] := hl
  refine lv_aload_n hx hb dX4_cargo_0 rfl (lv_at hl 0 rfl) ?_
  refine lv_iload_n hx hb dX4_cargo_1 rfl (lv_at hl 1 rfl) ?_
  refine w_vSq X I 0 (by omega) rfl rfl (As := [.int a]) (rest := []) (ctX4_shipNumbered l g α N σ a n hn hn10 hN hR) (wM_V kmX4_78 ki_X4_shipNumbered ks_X4_shipNumbered kn_X4 kc_X4_shipNumbered) rfl rfl (n := 1) (by decide +kernel) rfl ⟨by decide, by decide⟩ hl.1 rfl (Nat.le_of_ble_eq_true rfl) ⟨Nat.zero_le _, Nat.zero_le _⟩ dX4_cargo_2 (fun r_2 q_2 => ?_)
  replace q_2 : (∀ k, k < n → a = nI k → r_2 = some (α (32 + 4 * k))) ∧ ((a < 0 ∨ nI n ≤ a) → r_2 = none) := q_2
  rcases ix2 a (n := n) (by omega) with hbad | ⟨k, hk, rfl⟩
  ·
    obtain rfl : r_2 = none := q_2.2 hbad
    refine w_eqv (y := .null) rfl ?_
    refine lv_astore_nN (lv' := [(3, .null), (0, .ref (α 0)), (1, .int a), (2, .int b)]) hx hb dX4_cargo_5 rfl hl (by decide) rfl (fun ls hl => ?_)
    refine lv_aload_nN hx hb dX4_cargo_6 rfl (lv_at hl 0 rfl) ?_
    refine lv_ifnullN (tgt := 21) hx hb dX4_cargo_7 (by decide) ?_
    refine lv_iconst (v := (-1)) hx hb dX4_cargo_21 (by decide) ?_
    exact w_iretS X hr hlk (by first | exact (spq_bad hbad).symm | exact ((spq_ok hk (by omega)).trans (spq_ok hj (by omega))).symm | exact ((spq_ok hk (by omega)).trans (spq_bad (bt_bad p_15))).symm) dX4_cargo_22
  ·
    obtain rfl : r_2 = some (α (32 + 4 * k)) := q_2.1 k hk rfl
    clear q_2
    refine w_eqv (y := .ref (α (32 + 4 * k))) rfl ?_
    refine lv_astore_n (lv' := [(3, .ref (α (32 + 4 * k))), (0, .ref (α 0)), (1, .int (nI k)), (2, .int b)]) hx hb dX4_cargo_5 rfl hl (by decide) rfl (fun ls hl => ?_)
    refine lv_aload_n hx hb dX4_cargo_6 rfl (lv_at hl 0 rfl) ?_
    refine lv_ifnull hx hb dX4_cargo_7 ?_
    refine lv_aload_n hx hb dX4_cargo_10 rfl (lv_at hl 1 rfl) ?_
    refine fg4_1 X I (by omega) kfX4_16 dX4_cargo_11 ?_
    refine lv_iload_n hx hb dX4_cargo_14 rfl (lv_at hl 3 rfl) ?_
    refine w_vSi X I 2 (by omega) rfl rfl (As := [.int b]) (rest := []) (ctX1_has l g α N σ _ (by first | assumption | omega)) (wM_V kmX4_68 ki_X1_has ks_X1_has kn_X1 kc_X1_has) rfl rfl (n := 1) (by decide +kernel) rfl ⟨by decide, by decide⟩ hl.1 rfl (Nat.le_of_ble_eq_true rfl) ⟨Nat.zero_le _, Nat.zero_le _⟩ dX4_cargo_15 (fun r_15 q_15 => ?_)
    by_cases p_15 : ¬ b < 0 ∧ ¬ σ.1 2 2 ≤ b
    ·
      obtain rfl : r_15 = 1 := Eq.trans q_15 (if_pos p_15)
      rw [hz] at p_15
      obtain ⟨j, hj, rfl⟩ := bt_ok (by omega) p_15
      refine lv_if_ne (tgt := 23) hx hb dX4_cargo_18 (by decide) (fun _ => ?_) (fun cc => absurd cc (by decide))
      refine lv_aload_n hx hb dX4_cargo_23 rfl (lv_at hl 0 rfl) ?_
      refine fg3_3 X I k (by omega) kfX4_109 dX4_cargo_24 ?_
      refine lv_iload_n hx hb dX4_cargo_27 rfl (lv_at hl 3 rfl) ?_
      refine w_ld X I (33 + 4 * k) (by omega) (n := 6) (k := j) (fun _ _ _ => wc_cargo g α k _ _ _) rfl (by omega) (by decide) dX4_cargo_28 ?_
      exact w_iretS X hr hlk (by first | exact (spq_bad hbad).symm | exact ((spq_ok hk (by omega)).trans (spq_ok hj (by omega))).symm | exact ((spq_ok hk (by omega)).trans (spq_bad (bt_bad p_15))).symm) dX4_cargo_29
    ·
      obtain rfl : r_15 = 0 := Eq.trans q_15 (if_neg p_15)
      rw [hz] at p_15
      refine lv_if_ne (tgt := 23) hx hb dX4_cargo_18 (by decide) (fun cc => absurd cc (by decide)) (fun _ => ?_)
      refine lv_iconst (v := (-1)) hx hb dX4_cargo_21 (by decide) ?_
      exact w_iretS X hr hlk (by first | exact (spq_bad hbad).symm | exact ((spq_ok hk (by omega)).trans (spq_ok hj (by omega))).symm | exact ((spq_ok hk (by omega)).trans (spq_bad (bt_bad p_15))).symm) dX4_cargo_22
end
section
variable {l : Launch} {g : wG} {α : Nat → Nat} {N : Nat} {σ : wS} {p : Program} {e : Env} {s : State} {m : MethodId} {args : Array Value} {below : List Frame} {meth : Method} {c : Code}
set_option maxHeartbeats 4000000 in
set_option maxRecDepth 100000 in
theorem ctX4_loaded (l : Launch) (g : wG) (α : Nat → Nat) (N : Nat) (σ : wS) (a b : Int32) (n d : Nat) (hn : σ.1 0 7 = nI n) (hn10 : n ≤ 10) (hN : 32 + 4 * n ≤ N) (hd : σ.1 0 6 = nI d) (hd200 : d ≤ 200) (hR : ∀ k, k < n → σ.2.2 5 k = some (32 + 4 * k)) : Met l yX4_loaded (wM yX4_loaded cX4_loaded 4 (some FieldType.int)) ({ frames := 1, cells := 0, slots := 0, locals := 22 } : Room) (wPc g α N σ [.ref (α 0), .int a, .int b]) (vp_Si (fun r => r = spq n a (-2) (fun i => spq d b (-2) (σ.1 (35 + 4 * i))))) 0 0 (fun _ => False) := by
  refine w_enterS (by decide) (Nat.le_of_ble_eq_true rfl) (fun p e s m args below meth c X I hr hlk ls hl => ?_)
  have hx := X.1.1
  have hb := X.1.2.1
  have hl : lv_has ls 4 [(0, .ref (α 0)), (1, .int a), (2, .int b)] := hl
  refine lv_aload_n hx hb dX4_loaded_0 rfl (lv_at hl 0 rfl) ?_
  refine lv_iload_n hx hb dX4_loaded_1 rfl (lv_at hl 1 rfl) ?_
  refine w_vSq X I 0 (by omega) rfl rfl (As := [.int a]) (rest := []) (ctX4_shipNumbered l g α N σ a n hn hn10 hN hR) (wM_V kmX4_78 ki_X4_shipNumbered ks_X4_shipNumbered kn_X4 kc_X4_shipNumbered) rfl rfl (n := 1) (by decide +kernel) rfl ⟨by decide, by decide⟩ hl.1 rfl (Nat.le_of_ble_eq_true rfl) ⟨Nat.zero_le _, Nat.zero_le _⟩ dX4_loaded_2 (fun r_2 q_2 => ?_)
  replace q_2 : (∀ k, k < n → a = nI k → r_2 = some (α (32 + 4 * k))) ∧ ((a < 0 ∨ nI n ≤ a) → r_2 = none) := q_2
  rcases ix2 a (n := n) (by omega) with hbad | ⟨k, hk, rfl⟩
  ·
    obtain rfl : r_2 = none := q_2.2 hbad
    refine w_eqv (y := .null) rfl ?_
    refine lv_astore_nN (lv' := [(3, .null), (0, .ref (α 0)), (1, .int a), (2, .int b)]) hx hb dX4_loaded_5 rfl hl (by decide) rfl (fun ls hl => ?_)
    refine lv_aload_nN hx hb dX4_loaded_6 rfl (lv_at hl 0 rfl) ?_
    refine lv_ifnullN (tgt := 24) hx hb dX4_loaded_7 (by decide) ?_
    refine lv_bipush (v := (-2)) hx hb dX4_loaded_24 (by decide) ?_
    exact w_iretS X hr hlk (by first | exact (spq_bad hbad).symm | exact ((spq_ok hk (by omega)).trans (spq_ok hj (by omega))).symm | exact ((spq_ok hk (by omega)).trans (spq_bad (m1_bad (by omega) p_18))).symm) dX4_loaded_26
  ·
    obtain rfl : r_2 = some (α (32 + 4 * k)) := q_2.1 k hk rfl
    clear q_2
    refine w_eqv (y := .ref (α (32 + 4 * k))) rfl ?_
    refine lv_astore_n (lv' := [(3, .ref (α (32 + 4 * k))), (0, .ref (α 0)), (1, .int (nI k)), (2, .int b)]) hx hb dX4_loaded_5 rfl hl (by decide) rfl (fun ls hl => ?_)
    refine lv_aload_n hx hb dX4_loaded_6 rfl (lv_at hl 0 rfl) ?_
    refine lv_ifnull hx hb dX4_loaded_7 ?_
    refine lv_iload_n hx hb dX4_loaded_10 rfl (lv_at hl 3 rfl) ?_
    refine lv_iconst (v := 0) hx hb dX4_loaded_11 (by decide) ?_
    refine lv_aload_n hx hb dX4_loaded_12 rfl (lv_at hl 1 rfl) ?_
    refine fg4_6 X I (by omega) kfX4_43 dX4_loaded_13 ?_
    refine w_eqi hd ?_
    refine lv_iconst (v := 1) hx hb dX4_loaded_16 (by decide) ?_
    refine lv_isub hx hb dX4_loaded_17 ?_
    refine w_sSi X I (As := [.int b, .int 0, .int ((nI d) - 1)]) (rest := []) (ctX4_within l g α N σ _ _ _ ) (wM_S kmX4_57 kt_X4_within kn_X4 kc_X4_within) rfl rfl (n := 3) (by decide +kernel) rfl ⟨by decide, by decide⟩ hl.1 rfl (Nat.le_of_ble_eq_true rfl) ⟨Nat.zero_le _, Nat.zero_le _⟩ dX4_loaded_18 (fun r_18 q_18 => ?_)
    by_cases p_18 : ¬ b < 0 ∧ ¬ ((nI d) - 1) < b
    ·
      obtain rfl : r_18 = 1 := Eq.trans q_18 (if_pos p_18)
      obtain ⟨j, hj, rfl⟩ := m1_ok (n := d) (by omega) p_18
      refine lv_if_ne (tgt := 27) hx hb dX4_loaded_21 (by decide) (fun _ => ?_) (fun cc => absurd cc (by decide))
      refine lv_aload_n hx hb dX4_loaded_27 rfl (lv_at hl 0 rfl) ?_
      refine fg3_5 X I k (by omega) kfX4_116 dX4_loaded_28 ?_
      refine lv_iload_n hx hb dX4_loaded_31 rfl (lv_at hl 3 rfl) ?_
      refine w_ld X I (35 + 4 * k) (by omega) (n := 200) (k := j) (fun _ _ _ => wc_log g α k _ _ _) rfl (by omega) (by decide) dX4_loaded_32 ?_
      exact w_iretS X hr hlk (by first | exact (spq_bad hbad).symm | exact ((spq_ok hk (by omega)).trans (spq_ok hj (by omega))).symm | exact ((spq_ok hk (by omega)).trans (spq_bad (m1_bad (by omega) p_18))).symm) dX4_loaded_33
    ·
      obtain rfl : r_18 = 0 := Eq.trans q_18 (if_neg p_18)
      refine lv_if_ne (tgt := 27) hx hb dX4_loaded_21 (by decide) (fun cc => absurd cc (by decide)) (fun _ => ?_)
      refine lv_bipush (v := (-2)) hx hb dX4_loaded_24 (by decide) ?_
      exact w_iretS X hr hlk (by first | exact (spq_bad hbad).symm | exact ((spq_ok hk (by omega)).trans (spq_ok hj (by omega))).symm | exact ((spq_ok hk (by omega)).trans (spq_bad (m1_bad (by omega) p_18))).symm) dX4_loaded_26
end
section
variable {l : Launch} {g : wG} {α : Nat → Nat} {N : Nat} {σ : wS} {p : Program} {e : Env} {s : State} {m : MethodId} {args : Array Value} {below : List Frame} {meth : Method} {c : Code}
set_option maxHeartbeats 4000000 in
set_option maxRecDepth 100000 in
theorem ctX4_term (l : Launch) (g : wG) (α : Nat → Nat) (N : Nat) (σ : wS) (a b : Int32) (n : Nat) (hn : σ.1 0 7 = nI n) (hn10 : n ≤ 10) (hN : 32 + 4 * n ≤ N) (hR : ∀ k, k < n → σ.2.2 5 k = some (32 + 4 * k)) : Met l yX4_term (wM yX4_term cX4_term 4 (some FieldType.int)) ({ frames := 1, cells := 0, slots := 0, locals := 22 } : Room) (wPc g α N σ [.ref (α 0), .int a, .int b]) (vp_Si (fun r => r = spq n a (-1) (fun i => spq 6 b (-1) (σ.1 (34 + 4 * i))))) 0 0 (fun _ => False) := by
  refine w_enterS (by decide) (Nat.le_of_ble_eq_true rfl) (fun p e s m args below meth c X I hr hlk ls hl => ?_)
  have hx := X.1.1
  have hb := X.1.2.1
  have hl : lv_has ls 4 [(0, .ref (α 0)), (1, .int a), (2, .int b)] := hl
  refine lv_aload_n hx hb dX4_term_0 rfl (lv_at hl 0 rfl) ?_
  refine lv_iload_n hx hb dX4_term_1 rfl (lv_at hl 1 rfl) ?_
  refine w_vSq X I 0 (by omega) rfl rfl (As := [.int a]) (rest := []) (ctX4_shipNumbered l g α N σ a n hn hn10 hN hR) (wM_V kmX4_78 ki_X4_shipNumbered ks_X4_shipNumbered kn_X4 kc_X4_shipNumbered) rfl rfl (n := 1) (by decide +kernel) rfl ⟨by decide, by decide⟩ hl.1 rfl (Nat.le_of_ble_eq_true rfl) ⟨Nat.zero_le _, Nat.zero_le _⟩ dX4_term_2 (fun r_2 q_2 => ?_)
  replace q_2 : (∀ k, k < n → a = nI k → r_2 = some (α (32 + 4 * k))) ∧ ((a < 0 ∨ nI n ≤ a) → r_2 = none) := q_2
  rcases ix2 a (n := n) (by omega) with hbad | ⟨k, hk, rfl⟩
  ·
    obtain rfl : r_2 = none := q_2.2 hbad
    refine w_eqv (y := .null) rfl ?_
    refine lv_astore_nN (lv' := [(3, .null), (0, .ref (α 0)), (1, .int a), (2, .int b)]) hx hb dX4_term_5 rfl hl (by decide) rfl (fun ls hl => ?_)
    refine lv_aload_nN hx hb dX4_term_6 rfl (lv_at hl 0 rfl) ?_
    refine lv_ifnullN (tgt := 19) hx hb dX4_term_7 (by decide) ?_
    refine lv_iconst (v := (-1)) hx hb dX4_term_19 (by decide) ?_
    exact w_iretS X hr hlk (by first | exact (spq_bad hbad).symm | exact ((spq_ok hk (by omega)).trans (spq_ok hj (by omega))).symm | exact ((spq_ok hk (by omega)).trans (spq_bad (m1_bad (n := 6) (by decide) p_13))).symm) dX4_term_20
  ·
    obtain rfl : r_2 = some (α (32 + 4 * k)) := q_2.1 k hk rfl
    clear q_2
    refine w_eqv (y := .ref (α (32 + 4 * k))) rfl ?_
    refine lv_astore_n (lv' := [(3, .ref (α (32 + 4 * k))), (0, .ref (α 0)), (1, .int (nI k)), (2, .int b)]) hx hb dX4_term_5 rfl hl (by decide) rfl (fun ls hl => ?_)
    refine lv_aload_n hx hb dX4_term_6 rfl (lv_at hl 0 rfl) ?_
    refine lv_ifnull hx hb dX4_term_7 ?_
    refine lv_iload_n hx hb dX4_term_10 rfl (lv_at hl 3 rfl) ?_
    refine lv_iconst (v := 0) hx hb dX4_term_11 (by decide) ?_
    refine lv_iconst (v := 5) hx hb dX4_term_12 (by decide) ?_
    refine w_sSi X I (As := [.int b, .int 0, .int 5]) (rest := []) (ctX4_within l g α N σ _ _ _ ) (wM_S kmX4_57 kt_X4_within kn_X4 kc_X4_within) rfl rfl (n := 3) (by decide +kernel) rfl ⟨by decide, by decide⟩ hl.1 rfl (Nat.le_of_ble_eq_true rfl) ⟨Nat.zero_le _, Nat.zero_le _⟩ dX4_term_13 (fun r_13 q_13 => ?_)
    by_cases p_13 : ¬ b < 0 ∧ ¬ 5 < b
    ·
      obtain rfl : r_13 = 1 := Eq.trans q_13 (if_pos p_13)
      obtain ⟨j, hj, rfl⟩ := m1_ok (n := 6) (by decide) p_13
      refine lv_if_ne (tgt := 21) hx hb dX4_term_16 (by decide) (fun _ => ?_) (fun cc => absurd cc (by decide))
      refine lv_aload_n hx hb dX4_term_21 rfl (lv_at hl 0 rfl) ?_
      refine fg3_4 X I k (by omega) kfX4_146 dX4_term_22 ?_
      refine lv_iload_n hx hb dX4_term_25 rfl (lv_at hl 3 rfl) ?_
      refine w_ld X I (34 + 4 * k) (by omega) (n := 6) (k := j) (fun _ _ _ => wc_terms g α k _ _ _) rfl (by omega) (by decide) dX4_term_26 ?_
      exact w_iretS X hr hlk (by first | exact (spq_bad hbad).symm | exact ((spq_ok hk (by omega)).trans (spq_ok hj (by omega))).symm | exact ((spq_ok hk (by omega)).trans (spq_bad (m1_bad (n := 6) (by decide) p_13))).symm) dX4_term_27
    ·
      obtain rfl : r_13 = 0 := Eq.trans q_13 (if_neg p_13)
      refine lv_if_ne (tgt := 21) hx hb dX4_term_16 (by decide) (fun cc => absurd cc (by decide)) (fun _ => ?_)
      refine lv_iconst (v := (-1)) hx hb dX4_term_19 (by decide) ?_
      exact w_iretS X hr hlk (by first | exact (spq_bad hbad).symm | exact ((spq_ok hk (by omega)).trans (spq_ok hj (by omega))).symm | exact ((spq_ok hk (by omega)).trans (spq_bad (m1_bad (n := 6) (by decide) p_13))).symm) dX4_term_20
end
section
variable {l : Launch} {g : wG} {α : Nat → Nat} {N : Nat} {σ : wS} {p : Program} {e : Env} {s : State} {m : MethodId} {args : Array Value} {below : List Frame} {meth : Method} {c : Code}
set_option maxHeartbeats 4000000 in
set_option maxRecDepth 100000 in
theorem lpX1_sampleOf_11 (i ly : Nat) (b : Int32) (X : wX p s m args c cX1_sampleOf 9 RX1 g) (I : wI g α N (fun _ => True) s.heap s.heap [] σ) (hr : meth.sig.returnType = (some FieldType.int)) (hlk : meth.locks = false) (hN : 36 + 4 * i ≤ N) (hz : σ.1 2 2 = nI ly) (hly : ly ≤ 6) (hb0 : ¬ b = 0) : ∀ (fu : Nat) (k : Nat) (ah : Int32) (su : Int32) (ta : Int32), ly + 1 ≤ k + fu → k ≤ ly → ah = smI (σ.1 (33 + 4 * i)) k → su = smI (fun j => smN (σ.1 (33 + 4 * i)) b j * σ.1 4 j) k → ta = smI (smN (σ.1 (33 + 4 * i)) b) k → ∀ ls : Array Slot, lv_has ls 9 [(0, .ref (α 2)), (1, .ref (α (33 + 4 * i))), (2, .int b), (3, .int ah), (4, .int su), (5, .int ta), (6, .int (nI k))] → W p l e ({ frames := 0, cells := 0, slots := 0, locals := 0 } : Room) s m args below meth c s.heap [] 0 0 (MQ below (vp_Si (fun r => r = smpF (σ.1 (33 + 4 * i)) (σ.1 4) b ly)) args s 0 0 (fun _ => False)) (F0 m 11 ls []) := by
  have hx := X.1.1
  have hb := X.1.2.1
  intro fu
  induction fu with
  | zero =>
    intro k ah su ta hfu hk h1 h2 h3
    exact absurd hfu (by omega)
  | succ fu ih =>
    intro k ah su ta hfu hk h1 h2 h3 ls hl
    refine lv_iload hx hb dX1_sampleOf_11 (lv_at hl 6 rfl) ?_
    refine lv_aload_n hx hb dX1_sampleOf_13 rfl (lv_at hl 0 rfl) ?_
    refine fg1_2 X I (by omega) kfX1_18 dX1_sampleOf_14 ?_
    refine w_eqi hz ?_
    refine lv_icmp_ge (tgt := 69) hx hb dX1_sampleOf_17 (by decide) (fun c_17 => ?_) (fun c_17 => ?_)
    ·
      have e : k = ly := by have := nI_le' c_17 (by omega) (by omega); omega
      refine lv_iload hx hb dX1_sampleOf_69 (lv_at hl 5 rfl) ?_
      refine lv_if_ne (tgt := 79) hx hb dX1_sampleOf_71 (by decide) (fun c_71 => ?_) (fun c_71 => ?_)
      ·
        refine lv_iload hx hb dX1_sampleOf_79 (lv_at hl 4 rfl) ?_
        refine lv_iload hx hb dX1_sampleOf_81 (lv_at hl 5 rfl) ?_
        refine lv_idiv hx hb dX1_sampleOf_83 c_71 ?_
        exact w_iretS X hr hlk (by subst e; subst h2; subst h3; first | exact (if_pos c_71).symm | exact (if_neg c_71).symm) dX1_sampleOf_84
      ·
        refine lv_bipush (v := (-9)) hx hb dX1_sampleOf_74 (by decide) ?_
        refine lv_goto (tgt := 84) hx hb dX1_sampleOf_76 (by decide) ?_
        exact w_iretS X hr hlk (by subst e; subst h2; subst h3; first | exact (if_pos c_71).symm | exact (if_neg c_71).symm) dX1_sampleOf_84
    ·
      have hlt : k < ly := by
        rcases Nat.lt_or_ge k ly with q | q
        · exact q
        · exact absurd (nI_le q (by omega)) c_17
      refine lv_iload_n hx hb dX1_sampleOf_20 rfl (lv_at hl 3 rfl) ?_
      refine lv_aload_n hx hb dX1_sampleOf_21 rfl (lv_at hl 1 rfl) ?_
      refine lv_iload hx hb dX1_sampleOf_22 (lv_at hl 6 rfl) ?_
      refine w_ld X I (33 + 4 * i) (by omega) (n := 6) (k := k) (fun _ _ _ => wc_cargo g α i _ _ _) rfl (by omega) (by decide) dX1_sampleOf_24 ?_
      refine lv_iadd hx hb dX1_sampleOf_25 ?_
      refine lv_istore (lv' := [(7, .int (ah + (σ.1 (33 + 4 * i) k))), (0, .ref (α 2)), (1, .ref (α (33 + 4 * i))), (2, .int b), (3, .int ah), (4, .int su), (5, .int ta), (6, .int (nI k))]) hx hb dX1_sampleOf_26 hl (by decide) rfl (fun ls hl => ?_)
      refine lv_iload hx hb dX1_sampleOf_28 (lv_at hl 0 rfl) ?_
      refine lv_iload_n hx hb dX1_sampleOf_30 rfl (lv_at hl 3 rfl) ?_
      refine lv_idiv hx hb dX1_sampleOf_31 hb0 ?_
      refine lv_iload_n hx hb dX1_sampleOf_32 rfl (lv_at hl 4 rfl) ?_
      refine lv_iload_n hx hb dX1_sampleOf_33 rfl (lv_at hl 3 rfl) ?_
      refine lv_idiv hx hb dX1_sampleOf_34 hb0 ?_
      refine lv_isub hx hb dX1_sampleOf_35 ?_
      refine lv_istore (lv' := [(8, .int (((ah + (σ.1 (33 + 4 * i) k)) / b) - (ah / b))), (7, .int (ah + (σ.1 (33 + 4 * i) k))), (0, .ref (α 2)), (1, .ref (α (33 + 4 * i))), (2, .int b), (3, .int ah), (4, .int su), (5, .int ta), (6, .int (nI k))]) hx hb dX1_sampleOf_36 hl (by decide) rfl (fun ls hl => ?_)
      refine lv_iload hx hb dX1_sampleOf_38 (lv_at hl 6 rfl) ?_
      refine lv_iload hx hb dX1_sampleOf_40 (lv_at hl 0 rfl) ?_
      refine lv_aload_n hx hb dX1_sampleOf_42 rfl (lv_at hl 2 rfl) ?_
      refine fg1_1 X I (by omega) kfX1_15 dX1_sampleOf_43 ?_
      refine lv_iload hx hb dX1_sampleOf_46 (lv_at hl 8 rfl) ?_
      refine w_ld X I 4 (by omega) (n := 6) (k := k) (fun _ _ _ => rfl) rfl (by omega) (by decide) dX1_sampleOf_48 ?_
      refine lv_imul hx hb dX1_sampleOf_49 ?_
      refine lv_iadd hx hb dX1_sampleOf_50 ?_
      refine lv_istore (lv' := [(4, .int (su + ((((ah + (σ.1 (33 + 4 * i) k)) / b) - (ah / b)) * (σ.1 4 k)))), (8, .int (((ah + (σ.1 (33 + 4 * i) k)) / b) - (ah / b))), (7, .int (ah + (σ.1 (33 + 4 * i) k))), (0, .ref (α 2)), (1, .ref (α (33 + 4 * i))), (2, .int b), (3, .int ah), (5, .int ta), (6, .int (nI k))]) hx hb dX1_sampleOf_51 hl (by decide) rfl (fun ls hl => ?_)
      refine lv_iload hx hb dX1_sampleOf_53 (lv_at hl 7 rfl) ?_
      refine lv_iload hx hb dX1_sampleOf_55 (lv_at hl 1 rfl) ?_
      refine lv_iadd hx hb dX1_sampleOf_57 ?_
      refine lv_istore (lv' := [(5, .int (ta + (((ah + (σ.1 (33 + 4 * i) k)) / b) - (ah / b)))), (4, .int (su + ((((ah + (σ.1 (33 + 4 * i) k)) / b) - (ah / b)) * (σ.1 4 k)))), (8, .int (((ah + (σ.1 (33 + 4 * i) k)) / b) - (ah / b))), (7, .int (ah + (σ.1 (33 + 4 * i) k))), (0, .ref (α 2)), (1, .ref (α (33 + 4 * i))), (2, .int b), (3, .int ah), (6, .int (nI k))]) hx hb dX1_sampleOf_58 hl (by decide) rfl (fun ls hl => ?_)
      refine lv_iload hx hb dX1_sampleOf_60 (lv_at hl 3 rfl) ?_
      refine lv_istore_n (lv' := [(3, .int (ah + (σ.1 (33 + 4 * i) k))), (5, .int (ta + (((ah + (σ.1 (33 + 4 * i) k)) / b) - (ah / b)))), (4, .int (su + ((((ah + (σ.1 (33 + 4 * i) k)) / b) - (ah / b)) * (σ.1 4 k)))), (8, .int (((ah + (σ.1 (33 + 4 * i) k)) / b) - (ah / b))), (7, .int (ah + (σ.1 (33 + 4 * i) k))), (0, .ref (α 2)), (1, .ref (α (33 + 4 * i))), (2, .int b), (6, .int (nI k))]) hx hb dX1_sampleOf_62 rfl hl (by decide) rfl (fun ls hl => ?_)
      refine lv_iinc (v := nI (k + 1)) (lv' := [(6, .int (nI (k + 1))), (3, .int (ah + (σ.1 (33 + 4 * i) k))), (5, .int (ta + (((ah + (σ.1 (33 + 4 * i) k)) / b) - (ah / b)))), (4, .int (su + ((((ah + (σ.1 (33 + 4 * i) k)) / b) - (ah / b)) * (σ.1 4 k)))), (8, .int (((ah + (σ.1 (33 + 4 * i) k)) / b) - (ah / b))), (7, .int (ah + (σ.1 (33 + 4 * i) k))), (0, .ref (α 2)), (1, .ref (α (33 + 4 * i))), (2, .int b)]) hx hb dX1_sampleOf_63 hl (k := 8) rfl (nI_1 _) (by decide) rfl (fun ls hl => ?_)
      refine lv_goto (tgt := 11) hx hb dX1_sampleOf_66 (by decide) ?_
      exact ih (k + 1) (ah + (σ.1 (33 + 4 * i) k)) (su + ((((ah + (σ.1 (33 + 4 * i) k)) / b) - (ah / b)) * (σ.1 4 k))) (ta + (((ah + (σ.1 (33 + 4 * i) k)) / b) - (ah / b))) (by omega) (by omega) (by rw [h1]; rfl) (by rw [h1, h2]; rfl) (by rw [h1, h3]; rfl) ls (lv_sub hl [6, 7, 8, 1, 3, 2, 0] rfl)
set_option maxHeartbeats 4000000 in
set_option maxRecDepth 100000 in
theorem ctX1_sampleOf (l : Launch) (g : wG) (α : Nat → Nat) (N : Nat) (σ : wS) (i ly : Nat) (b : Int32) (hN : 36 + 4 * i ≤ N) (hz : σ.1 2 2 = nI ly) (hly : ly ≤ 6) (hb0 : ¬ b = 0) : Met l yX1_sampleOf (wM yX1_sampleOf cX1_sampleOf 9 (some FieldType.int)) ({ frames := 0, cells := 0, slots := 0, locals := 0 } : Room) (wPc g α N σ [.ref (α 2), .ref (α (33 + 4 * i)), .int b]) (vp_Si (fun r => r = smpF (σ.1 (33 + 4 * i)) (σ.1 4) b ly)) 0 0 (fun _ => False) := by
  refine w_enterS (by decide) (Nat.le_of_ble_eq_true rfl) (fun p e s m args below meth c X I hr hlk ls hl => ?_)
  have hx := X.1.1
  have hb := X.1.2.1
  have hl : lv_has ls 9 [(0, .ref (α 2)), (1, .ref (α (33 + 4 * i))), (2, .int b)] := hl
  refine lv_iconst (v := 0) hx hb dX1_sampleOf_0 (by decide) ?_
  refine lv_istore_n (lv' := [(3, .int 0), (0, .ref (α 2)), (1, .ref (α (33 + 4 * i))), (2, .int b)]) hx hb dX1_sampleOf_1 rfl hl (by decide) rfl (fun ls hl => ?_)
  refine lv_iconst (v := 0) hx hb dX1_sampleOf_2 (by decide) ?_
  refine lv_istore (lv' := [(4, .int 0), (3, .int 0), (0, .ref (α 2)), (1, .ref (α (33 + 4 * i))), (2, .int b)]) hx hb dX1_sampleOf_3 hl (by decide) rfl (fun ls hl => ?_)
  refine lv_iconst (v := 0) hx hb dX1_sampleOf_5 (by decide) ?_
  refine lv_istore (lv' := [(5, .int 0), (4, .int 0), (3, .int 0), (0, .ref (α 2)), (1, .ref (α (33 + 4 * i))), (2, .int b)]) hx hb dX1_sampleOf_6 hl (by decide) rfl (fun ls hl => ?_)
  refine lv_iconst (v := 0) hx hb dX1_sampleOf_8 (by decide) ?_
  refine lv_istore (lv' := [(6, .int 0), (5, .int 0), (4, .int 0), (3, .int 0), (0, .ref (α 2)), (1, .ref (α (33 + 4 * i))), (2, .int b)]) hx hb dX1_sampleOf_9 hl (by decide) rfl (fun ls hl => ?_)
  exact lpX1_sampleOf_11 i ly b X I hr hlk hN hz hly hb0  (ly + 1) 0 0 0 0 (by omega) (by omega) rfl rfl rfl ls (lv_sub hl [4, 5, 6, 3, 2, 1, 0] rfl)
end
section
variable {l : Launch} {g : wG} {α : Nat → Nat} {N : Nat} {σ : wS} {p : Program} {e : Env} {s : State} {m : MethodId} {args : Array Value} {below : List Frame} {meth : Method} {c : Code}
set_option maxHeartbeats 4000000 in
set_option maxRecDepth 100000 in
theorem ctX4_sample (l : Launch) (g : wG) (α : Nat → Nat) (N : Nat) (σ : wS) (a b : Int32) (n ly : Nat) (hn : σ.1 0 7 = nI n) (hn10 : n ≤ 10) (hN : 32 + 4 * n ≤ N) (hz : σ.1 2 2 = nI ly) (hly : ly ≤ 6) (hR : ∀ k, k < n → σ.2.2 5 k = some (32 + 4 * k)) : Met l yX4_sample (wM yX4_sample cX4_sample 4 (some FieldType.int)) ({ frames := 1, cells := 0, slots := 0, locals := 28 } : Room) (wPc g α N σ [.ref (α 0), .int a, .int b]) (vp_Si (fun r => r = spq n a (-1) (fun i => if ¬ b < 1 ∧ ¬ 9 < b then smpF (σ.1 (33 + 4 * i)) (σ.1 4) b ly else (-1)))) 0 0 (fun _ => False) := by
  refine w_enterS (by decide) (Nat.le_of_ble_eq_true rfl) (fun p e s m args below meth c X I hr hlk ls hl => ?_)
  have hx := X.1.1
  have hb := X.1.2.1
  have hl : lv_has ls 4 [(0, .ref (α 0)), (1, .int a), (2, .int b)] := hl
  refine lv_aload_n hx hb dX4_sample_0 rfl (lv_at hl 0 rfl) ?_
  refine lv_iload_n hx hb dX4_sample_1 rfl (lv_at hl 1 rfl) ?_
  refine w_vSq X I 0 (by omega) rfl rfl (As := [.int a]) (rest := []) (ctX4_shipNumbered l g α N σ a n hn hn10 hN hR) (wM_V kmX4_78 ki_X4_shipNumbered ks_X4_shipNumbered kn_X4 kc_X4_shipNumbered) rfl rfl (n := 1) (by decide +kernel) rfl ⟨by decide, by decide⟩ hl.1 rfl (Nat.le_of_ble_eq_true rfl) ⟨Nat.zero_le _, Nat.zero_le _⟩ dX4_sample_2 (fun r_2 q_2 => ?_)
  replace q_2 : (∀ k, k < n → a = nI k → r_2 = some (α (32 + 4 * k))) ∧ ((a < 0 ∨ nI n ≤ a) → r_2 = none) := q_2
  rcases ix2 a (n := n) (by omega) with hbad | ⟨k, hk, rfl⟩
  ·
    obtain rfl : r_2 = none := q_2.2 hbad
    refine w_eqv (y := .null) rfl ?_
    refine lv_astore_nN (lv' := [(3, .null), (0, .ref (α 0)), (1, .int a), (2, .int b)]) hx hb dX4_sample_5 rfl hl (by decide) rfl (fun ls hl => ?_)
    refine lv_aload_nN hx hb dX4_sample_6 rfl (lv_at hl 0 rfl) ?_
    refine lv_ifnullN (tgt := 20) hx hb dX4_sample_7 (by decide) ?_
    refine lv_iconst (v := (-1)) hx hb dX4_sample_20 (by decide) ?_
    exact w_iretS X hr hlk (by first | exact (spq_bad hbad).symm | exact ((spq_ok hk (by omega)).trans (if_pos p_14)).symm | exact ((spq_ok hk (by omega)).trans (if_neg p_14)).symm) dX4_sample_21
  ·
    obtain rfl : r_2 = some (α (32 + 4 * k)) := q_2.1 k hk rfl
    clear q_2
    refine w_eqv (y := .ref (α (32 + 4 * k))) rfl ?_
    refine lv_astore_n (lv' := [(3, .ref (α (32 + 4 * k))), (0, .ref (α 0)), (1, .int (nI k)), (2, .int b)]) hx hb dX4_sample_5 rfl hl (by decide) rfl (fun ls hl => ?_)
    refine lv_aload_n hx hb dX4_sample_6 rfl (lv_at hl 0 rfl) ?_
    refine lv_ifnull hx hb dX4_sample_7 ?_
    refine lv_iload_n hx hb dX4_sample_10 rfl (lv_at hl 3 rfl) ?_
    refine lv_iconst (v := 1) hx hb dX4_sample_11 (by decide) ?_
    refine lv_bipush (v := 9) hx hb dX4_sample_12 (by decide) ?_
    refine w_sSi X I (As := [.int b, .int 1, .int 9]) (rest := []) (ctX4_within l g α N σ _ _ _ ) (wM_S kmX4_57 kt_X4_within kn_X4 kc_X4_within) rfl rfl (n := 3) (by decide +kernel) rfl ⟨by decide, by decide⟩ hl.1 rfl (Nat.le_of_ble_eq_true rfl) ⟨Nat.zero_le _, Nat.zero_le _⟩ dX4_sample_14 (fun r_14 q_14 => ?_)
    by_cases p_14 : ¬ b < 1 ∧ ¬ 9 < b
    ·
      obtain rfl : r_14 = 1 := Eq.trans q_14 (if_pos p_14)
      have hb0 : ¬ b = 0 := fun z => p_14.1 (by rw [z]; decide)
      refine lv_if_ne (tgt := 22) hx hb dX4_sample_17 (by decide) (fun _ => ?_) (fun cc => absurd cc (by decide))
      refine lv_aload_n hx hb dX4_sample_22 rfl (lv_at hl 1 rfl) ?_
      refine fg4_1 X I (by omega) kfX4_16 dX4_sample_23 ?_
      refine lv_aload_n hx hb dX4_sample_26 rfl (lv_at hl 0 rfl) ?_
      refine fg3_3 X I k (by omega) kfX4_109 dX4_sample_27 ?_
      refine lv_iload_n hx hb dX4_sample_30 rfl (lv_at hl 3 rfl) ?_
      refine w_vSi X I 2 (by omega) rfl rfl (As := [.ref (α (33 + 4 * k)), .int b]) (rest := []) (ctX1_sampleOf l g α N σ k ly b (by omega) hz hly hb0) (wM_V kmX4_128 ki_X1_sampleOf ks_X1_sampleOf kn_X1 kc_X1_sampleOf) rfl rfl (n := 2) (by decide +kernel) rfl ⟨by decide, by decide⟩ hl.1 rfl (Nat.le_of_ble_eq_true rfl) ⟨Nat.zero_le _, Nat.zero_le _⟩ dX4_sample_31 (fun r_31 q_31 => ?_)
      replace q_31 : r_31 = smpF (σ.1 (33 + 4 * k)) (σ.1 4) b ly := q_31
      subst q_31
      exact w_iretS X hr hlk (by first | exact (spq_bad hbad).symm | exact ((spq_ok hk (by omega)).trans (if_pos p_14)).symm | exact ((spq_ok hk (by omega)).trans (if_neg p_14)).symm) dX4_sample_34
    ·
      obtain rfl : r_14 = 0 := Eq.trans q_14 (if_neg p_14)
      refine lv_if_ne (tgt := 22) hx hb dX4_sample_17 (by decide) (fun cc => absurd cc (by decide)) (fun _ => ?_)
      refine lv_iconst (v := (-1)) hx hb dX4_sample_20 (by decide) ?_
      exact w_iretS X hr hlk (by first | exact (spq_bad hbad).symm | exact ((spq_ok hk (by omega)).trans (if_pos p_14)).symm | exact ((spq_ok hk (by omega)).trans (if_neg p_14)).symm) dX4_sample_21
end
section
variable {l : Launch} {g : wG} {α : Nat → Nat} {N : Nat} {σ : wS} {p : Program} {e : Env} {s : State} {m : MethodId} {args : Array Value} {below : List Frame} {meth : Method} {c : Code}
def abF (v0 v1 v2 v3 v4 v5 v6 b : Int32) : Int32 := if b = 0 then v0 else if b = 1 then v1 else if b = 2 then v2 else if b = 3 then v3 else if b = 4 then v4 else if b = 5 then v5 else if b = 6 then v6 else (-1)
set_option maxHeartbeats 4000000 in
set_option maxRecDepth 100000 in
theorem ctX4_about (l : Launch) (g : wG) (α : Nat → Nat) (N : Nat) (σ : wS) (a b : Int32) (n ly : Nat) (hn : σ.1 0 7 = nI n) (hn10 : n ≤ 10) (hN : 32 + 4 * n ≤ N) (hz : σ.1 2 2 = nI ly) (hly : ly ≤ 6) (hR : ∀ k, k < n → σ.2.2 5 k = some (32 + 4 * k)) : Met l yX4_about (wM yX4_about cX4_about 4 (some FieldType.int)) ({ frames := 1, cells := 0, slots := 0, locals := 23 } : Room) (wPc g α N σ [.ref (α 0), .int a, .int b]) (vp_Si (fun r => r = spq n a (-1) (fun i => abF (σ.1 (32 + 4 * i) 1) (σ.1 (32 + 4 * i) 2) (σ.1 (32 + 4 * i) 6) (σ.1 (32 + 4 * i) 7) (σ.1 (32 + 4 * i) 8) (σ.1 (32 + 4 * i) 9) (smI (fun k => σ.1 (33 + 4 * i) k * σ.1 4 k) ly) b))) 0 0 (fun _ => False) := by
  refine w_enterS (by decide) (Nat.le_of_ble_eq_true rfl) (fun p e s m args below meth c X I hr hlk ls hl => ?_)
  have hx := X.1.1
  have hb := X.1.2.1
  have hl : lv_has ls 4 [(0, .ref (α 0)), (1, .int a), (2, .int b)] := hl
  refine lv_aload_n hx hb dX4_about_0 rfl (lv_at hl 0 rfl) ?_
  refine lv_iload_n hx hb dX4_about_1 rfl (lv_at hl 1 rfl) ?_
  refine w_vSq X I 0 (by omega) rfl rfl (As := [.int a]) (rest := []) (ctX4_shipNumbered l g α N σ a n hn hn10 hN hR) (wM_V kmX4_78 ki_X4_shipNumbered ks_X4_shipNumbered kn_X4 kc_X4_shipNumbered) rfl rfl (n := 1) (by decide +kernel) rfl ⟨by decide, by decide⟩ hl.1 rfl (Nat.le_of_ble_eq_true rfl) ⟨Nat.zero_le _, Nat.zero_le _⟩ dX4_about_2 (fun r_2 q_2 => ?_)
  replace q_2 : (∀ k, k < n → a = nI k → r_2 = some (α (32 + 4 * k))) ∧ ((a < 0 ∨ nI n ≤ a) → r_2 = none) := q_2
  rcases ix2 a (n := n) (by omega) with hbad | ⟨k, hk, rfl⟩
  ·
    obtain rfl : r_2 = none := q_2.2 hbad
    refine w_eqv (y := .null) rfl ?_
    refine lv_astore_nN (lv' := [(3, .null), (0, .ref (α 0)), (1, .int a), (2, .int b)]) hx hb dX4_about_5 rfl hl (by decide) rfl (fun ls hl => ?_)
    refine lv_aload_nN hx hb dX4_about_6 rfl (lv_at hl 0 rfl) ?_
    refine lv_ifnonnullN hx hb dX4_about_7 ?_
    refine lv_iconst (v := (-1)) hx hb dX4_about_10 (by decide) ?_
    exact w_iretS X hr hlk (by first | exact (spq_bad hbad).symm | (rw [spq_ok hk (by omega)]; simp [abF]; done) | (rw [spq_ok hk (by omega)]; simp [abF, hsw]; done)) dX4_about_11
  ·
    obtain rfl : r_2 = some (α (32 + 4 * k)) := q_2.1 k hk rfl
    clear q_2
    refine w_eqv (y := .ref (α (32 + 4 * k))) rfl ?_
    refine lv_astore_n (lv' := [(3, .ref (α (32 + 4 * k))), (0, .ref (α 0)), (1, .int (nI k)), (2, .int b)]) hx hb dX4_about_5 rfl hl (by decide) rfl (fun ls hl => ?_)
    refine lv_aload_n hx hb dX4_about_6 rfl (lv_at hl 0 rfl) ?_
    refine lv_ifnonnull (tgt := 12) hx hb dX4_about_7 (by decide) ?_
    refine lv_iload_n hx hb dX4_about_12 rfl (lv_at hl 3 rfl) ?_
    rcases sw7 b with rfl | rfl | rfl | rfl | rfl | rfl | rfl | hsw
    ·
      refine lv_tableIn (tgt := 56) (off := 43) hx hb dX4_about_13 (by decide) (by decide) rfl (by decide) ?_
      refine lv_aload_n hx hb dX4_about_56 rfl (lv_at hl 0 rfl) ?_
      refine fg3_1 X I k (by omega) kfX4_85 dX4_about_57 ?_
      exact w_iretS X hr hlk (by first | exact (spq_bad hbad).symm | (rw [spq_ok hk (by omega)]; simp [abF]; done) | (rw [spq_ok hk (by omega)]; simp [abF, hsw]; done)) dX4_about_60
    ·
      refine lv_tableIn (tgt := 61) (off := 48) hx hb dX4_about_13 (by decide) (by decide) rfl (by decide) ?_
      refine lv_aload_n hx hb dX4_about_61 rfl (lv_at hl 0 rfl) ?_
      refine fg3_2 X I k (by omega) kfX4_95 dX4_about_62 ?_
      exact w_iretS X hr hlk (by first | exact (spq_bad hbad).symm | (rw [spq_ok hk (by omega)]; simp [abF]; done) | (rw [spq_ok hk (by omega)]; simp [abF, hsw]; done)) dX4_about_65
    ·
      refine lv_tableIn (tgt := 66) (off := 53) hx hb dX4_about_13 (by decide) (by decide) rfl (by decide) ?_
      refine lv_aload_n hx hb dX4_about_66 rfl (lv_at hl 0 rfl) ?_
      refine fg3_6 X I k (by omega) kfX4_98 dX4_about_67 ?_
      exact w_iretS X hr hlk (by first | exact (spq_bad hbad).symm | (rw [spq_ok hk (by omega)]; simp [abF]; done) | (rw [spq_ok hk (by omega)]; simp [abF, hsw]; done)) dX4_about_70
    ·
      refine lv_tableIn (tgt := 71) (off := 58) hx hb dX4_about_13 (by decide) (by decide) rfl (by decide) ?_
      refine lv_aload_n hx hb dX4_about_71 rfl (lv_at hl 0 rfl) ?_
      refine fg3_7 X I k (by omega) kfX4_101 dX4_about_72 ?_
      exact w_iretS X hr hlk (by first | exact (spq_bad hbad).symm | (rw [spq_ok hk (by omega)]; simp [abF]; done) | (rw [spq_ok hk (by omega)]; simp [abF, hsw]; done)) dX4_about_75
    ·
      refine lv_tableIn (tgt := 76) (off := 63) hx hb dX4_about_13 (by decide) (by decide) rfl (by decide) ?_
      refine lv_aload_n hx hb dX4_about_76 rfl (lv_at hl 0 rfl) ?_
      refine fg3_8 X I k (by omega) kfX4_103 dX4_about_77 ?_
      exact w_iretS X hr hlk (by first | exact (spq_bad hbad).symm | (rw [spq_ok hk (by omega)]; simp [abF]; done) | (rw [spq_ok hk (by omega)]; simp [abF, hsw]; done)) dX4_about_80
    ·
      refine lv_tableIn (tgt := 81) (off := 68) hx hb dX4_about_13 (by decide) (by decide) rfl (by decide) ?_
      refine lv_aload_n hx hb dX4_about_81 rfl (lv_at hl 0 rfl) ?_
      refine fg3_9 X I k (by omega) kfX4_106 dX4_about_82 ?_
      exact w_iretS X hr hlk (by first | exact (spq_bad hbad).symm | (rw [spq_ok hk (by omega)]; simp [abF]; done) | (rw [spq_ok hk (by omega)]; simp [abF, hsw]; done)) dX4_about_85
    ·
      refine lv_tableIn (tgt := 86) (off := 73) hx hb dX4_about_13 (by decide) (by decide) rfl (by decide) ?_
      refine lv_aload_n hx hb dX4_about_86 rfl (lv_at hl 1 rfl) ?_
      refine fg4_1 X I (by omega) kfX4_16 dX4_about_87 ?_
      refine lv_aload_n hx hb dX4_about_90 rfl (lv_at hl 0 rfl) ?_
      refine fg3_3 X I k (by omega) kfX4_109 dX4_about_91 ?_
      refine w_vSi X I 2 (by omega) rfl rfl (As := [.ref (α (33 + 4 * k))]) (rest := []) (ctX1_worthOf l g α N σ k ly (by omega) hz hly) (wM_V kmX4_112 ki_X1_worthOf ks_X1_worthOf kn_X1 kc_X1_worthOf) rfl rfl (n := 1) (by decide +kernel) rfl ⟨by decide, by decide⟩ hl.1 rfl (Nat.le_of_ble_eq_true rfl) ⟨Nat.zero_le _, Nat.zero_le _⟩ dX4_about_94 (fun r_94 q_94 => ?_)
      replace q_94 : r_94 = smI (fun j => σ.1 (33 + 4 * k) j * σ.1 4 j) ly := q_94
      subst q_94
      exact w_iretS X hr hlk (by first | exact (spq_bad hbad).symm | (rw [spq_ok hk (by omega)]; simp [abF]; done) | (rw [spq_ok hk (by omega)]; simp [abF, hsw]; done)) dX4_about_97
    ·
      refine lv_tableOut (tgt := 98) hx hb dX4_about_13 hsw.1 (by decide) ?_
      refine lv_iconst (v := (-1)) hx hb dX4_about_98 (by decide) ?_
      exact w_iretS X hr hlk (by first | exact (spq_bad hbad).symm | (rw [spq_ok hk (by omega)]; simp [abF]; done) | (rw [spq_ok hk (by omega)]; simp [abF, hsw]; done)) dX4_about_99
end
section
variable {l : Launch} {g : wG} {α : Nat → Nat} {N : Nat} {σ : wS} {p : Program} {e : Env} {s : State} {m : MethodId} {args : Array Value} {below : List Frame} {meth : Method} {c : Code}
set_option maxHeartbeats 4000000 in
set_option maxRecDepth 100000 in
theorem ctX4_counts (l : Launch) (g : wG) (α : Nat → Nat) (N : Nat) (σ : wS) (i j : Nat) (hN : 36 + 4 * i ≤ N) (hj : j < 200) : Met l yX4_counts (wM yX4_counts cX4_counts 3 (some FieldType.boolean)) ({ frames := 1, cells := 0, slots := 0, locals := 21 } : Room) (wPc g α N σ [.ref (α 0), .ref (α (32 + 4 * i)), .int (nI j)]) (vp_Si (fun r => r = if cnP (σ.1 (34 + 4 * i)) (σ.1 1) (σ.1 (35 + 4 * i)) j then 1 else 0)) 0 0 (fun _ => False) := by
  refine w_enterS (by decide) (Nat.le_of_ble_eq_true rfl) (fun p e s m args below meth c X I hr hlk ls hl => ?_)
  have hx := X.1.1
  have hb := X.1.2.1
  have hl : lv_has ls 3 [(0, .ref (α 0)), (1, .ref (α (32 + 4 * i))), (2, .int (nI j))] := hl
  refine lv_aload_n hx hb dX4_counts_0 rfl (lv_at hl 1 rfl) ?_
  refine lv_iconst (v := 3) hx hb dX4_counts_1 (by decide) ?_
  refine w_vSi X I (32 + 4 * i) (by omega) (wc_ship g α i _ _ _) rfl (As := [.int 3]) (rest := []) (ctX3_agreed l g α N σ i 3 hN (by decide)) (wM_V kmX4_234 ki_X3_agreed ks_X3_agreed kn_X3 kc_X3_agreed) rfl rfl (n := 1) (by decide +kernel) rfl ⟨by decide, by decide⟩ hl.1 rfl (Nat.le_of_ble_eq_true rfl) ⟨Nat.zero_le _, Nat.zero_le _⟩ dX4_counts_2 (fun r_2 q_2 => ?_)
  by_cases p_2 : σ.1 (34 + 4 * i) 3 = 1
  ·
    obtain rfl : r_2 = 1 := Eq.trans q_2 (if_pos p_2)
    refine lv_if_eq (tgt := 18) hx hb dX4_counts_5 (by decide) (fun cc => absurd cc (by decide)) (fun _ => ?_)
    refine lv_aload_n hx hb dX4_counts_8 rfl (lv_at hl 0 rfl) ?_
    refine lv_iload_n hx hb dX4_counts_9 rfl (lv_at hl 2 rfl) ?_
    refine w_vSi X I 0 (by omega) rfl rfl (As := [.int (nI j)]) (rest := []) (ctX4_chutesShut l g α N σ j (by omega) (by omega)) (wM_V kmX4_228 ki_X4_chutesShut ks_X4_chutesShut kn_X4 kc_X4_chutesShut) rfl rfl (n := 1) (by decide +kernel) rfl ⟨by decide, by decide⟩ hl.1 rfl (Nat.le_of_ble_eq_true rfl) ⟨Nat.zero_le _, Nat.zero_le _⟩ dX4_counts_10 (fun r_10 q_10 => ?_)
    by_cases p_10 : 4 < σ.1 1 j
    ·
      obtain rfl : r_10 = 1 := Eq.trans q_10 (if_pos p_10)
      refine lv_if_eq (tgt := 18) hx hb dX4_counts_13 (by decide) (fun cc => absurd cc (by decide)) (fun _ => ?_)
      refine lv_iconst (v := 0) hx hb dX4_counts_16 (by decide) ?_
      exact w_zretS X hr hlk (Or.inl rfl) (by simp [cnP, p_2, p_10]) dX4_counts_17
    ·
      obtain rfl : r_10 = 0 := Eq.trans q_10 (if_neg p_10)
      refine lv_if_eq (tgt := 18) hx hb dX4_counts_13 (by decide) (fun _ => ?_) (fun cc => absurd cc (by decide))
      refine lv_aload_n hx hb dX4_counts_18 rfl (lv_at hl 1 rfl) ?_
      refine lv_iconst (v := 4) hx hb dX4_counts_19 (by decide) ?_
      refine w_vSi X I (32 + 4 * i) (by omega) (wc_ship g α i _ _ _) rfl (As := [.int 4]) (rest := []) (ctX3_agreed l g α N σ i 4 hN (by decide)) (wM_V kmX4_234 ki_X3_agreed ks_X3_agreed kn_X3 kc_X3_agreed) rfl rfl (n := 1) (by decide +kernel) rfl ⟨by decide, by decide⟩ hl.1 rfl (Nat.le_of_ble_eq_true rfl) ⟨Nat.zero_le _, Nat.zero_le _⟩ dX4_counts_20 (fun r_20 q_20 => ?_)
      by_cases p_20 : σ.1 (34 + 4 * i) 4 = 1
      ·
        obtain rfl : r_20 = 1 := Eq.trans q_20 (if_pos p_20)
        refine lv_if_eq (tgt := 37) hx hb dX4_counts_23 (by decide) (fun cc => absurd cc (by decide)) (fun _ => ?_)
        refine lv_iload_n hx hb dX4_counts_26 rfl (lv_at hl 2 rfl) ?_
        refine lv_bipush (v := 7) hx hb dX4_counts_27 (by decide) ?_
        refine lv_irem hx hb dX4_counts_29 (by decide) ?_
        refine lv_bipush (v := 6) hx hb dX4_counts_30 (by decide) ?_
        refine lv_icmp_ne (tgt := 37) hx hb dX4_counts_32 (by decide) (fun c_32 => ?_) (fun c_32 => ?_)
        ·
          refine lv_aload_n hx hb dX4_counts_37 rfl (lv_at hl 1 rfl) ?_
          refine lv_iconst (v := 5) hx hb dX4_counts_38 (by decide) ?_
          refine w_vSi X I (32 + 4 * i) (by omega) (wc_ship g α i _ _ _) rfl (As := [.int 5]) (rest := []) (ctX3_agreed l g α N σ i 5 hN (by decide)) (wM_V kmX4_234 ki_X3_agreed ks_X3_agreed kn_X3 kc_X3_agreed) rfl rfl (n := 1) (by decide +kernel) rfl ⟨by decide, by decide⟩ hl.1 rfl (Nat.le_of_ble_eq_true rfl) ⟨Nat.zero_le _, Nat.zero_le _⟩ dX4_counts_39 (fun r_39 q_39 => ?_)
          by_cases p_39 : σ.1 (34 + 4 * i) 5 = 1
          ·
            obtain rfl : r_39 = 1 := Eq.trans q_39 (if_pos p_39)
            refine lv_if_eq (tgt := 55) hx hb dX4_counts_42 (by decide) (fun cc => absurd cc (by decide)) (fun _ => ?_)
            refine lv_aload_n hx hb dX4_counts_45 rfl (lv_at hl 1 rfl) ?_
            refine fg3_5 X I i (by omega) kfX4_116 dX4_counts_46 ?_
            refine lv_iload_n hx hb dX4_counts_49 rfl (lv_at hl 2 rfl) ?_
            refine w_ld X I (35 + 4 * i) (by omega) (n := 200) (k := j) (fun _ _ _ => wc_log g α i _ _ _) rfl (by omega) (by decide) dX4_counts_50 ?_
            refine lv_iconst (v := (-1)) hx hb dX4_counts_51 (by decide) ?_
            refine lv_icmp_eq (tgt := 59) hx hb dX4_counts_52 (by decide) (fun c_52 => ?_) (fun c_52 => ?_)
            ·
              refine lv_iconst (v := 0) hx hb dX4_counts_59 (by decide) ?_
              exact w_zretS X hr hlk (Or.inl rfl) (by simp [cnP, p_2, p_10, p_20, c_32, p_39, c_52]) dX4_counts_60
            ·
              refine lv_iconst (v := 1) hx hb dX4_counts_55 (by decide) ?_
              refine lv_goto (tgt := 60) hx hb dX4_counts_56 (by decide) ?_
              exact w_zretS X hr hlk (Or.inr rfl) (by simp [cnP, p_2, p_10, p_20, c_32, p_39, c_52]) dX4_counts_60
          ·
            obtain rfl : r_39 = 0 := Eq.trans q_39 (if_neg p_39)
            refine lv_if_eq (tgt := 55) hx hb dX4_counts_42 (by decide) (fun _ => ?_) (fun cc => absurd cc (by decide))
            refine lv_iconst (v := 1) hx hb dX4_counts_55 (by decide) ?_
            refine lv_goto (tgt := 60) hx hb dX4_counts_56 (by decide) ?_
            exact w_zretS X hr hlk (Or.inr rfl) (by simp [cnP, p_2, p_10, p_20, c_32, p_39]) dX4_counts_60
        ·
          refine lv_iconst (v := 0) hx hb dX4_counts_35 (by decide) ?_
          exact w_zretS X hr hlk (Or.inl rfl) (by simp [cnP, p_2, p_10, p_20, c_32]) dX4_counts_36
      ·
        obtain rfl : r_20 = 0 := Eq.trans q_20 (if_neg p_20)
        refine lv_if_eq (tgt := 37) hx hb dX4_counts_23 (by decide) (fun _ => ?_) (fun cc => absurd cc (by decide))
        refine lv_aload_n hx hb dX4_counts_37 rfl (lv_at hl 1 rfl) ?_
        refine lv_iconst (v := 5) hx hb dX4_counts_38 (by decide) ?_
        refine w_vSi X I (32 + 4 * i) (by omega) (wc_ship g α i _ _ _) rfl (As := [.int 5]) (rest := []) (ctX3_agreed l g α N σ i 5 hN (by decide)) (wM_V kmX4_234 ki_X3_agreed ks_X3_agreed kn_X3 kc_X3_agreed) rfl rfl (n := 1) (by decide +kernel) rfl ⟨by decide, by decide⟩ hl.1 rfl (Nat.le_of_ble_eq_true rfl) ⟨Nat.zero_le _, Nat.zero_le _⟩ dX4_counts_39 (fun r_39 q_39 => ?_)
        by_cases p_39 : σ.1 (34 + 4 * i) 5 = 1
        ·
          obtain rfl : r_39 = 1 := Eq.trans q_39 (if_pos p_39)
          refine lv_if_eq (tgt := 55) hx hb dX4_counts_42 (by decide) (fun cc => absurd cc (by decide)) (fun _ => ?_)
          refine lv_aload_n hx hb dX4_counts_45 rfl (lv_at hl 1 rfl) ?_
          refine fg3_5 X I i (by omega) kfX4_116 dX4_counts_46 ?_
          refine lv_iload_n hx hb dX4_counts_49 rfl (lv_at hl 2 rfl) ?_
          refine w_ld X I (35 + 4 * i) (by omega) (n := 200) (k := j) (fun _ _ _ => wc_log g α i _ _ _) rfl (by omega) (by decide) dX4_counts_50 ?_
          refine lv_iconst (v := (-1)) hx hb dX4_counts_51 (by decide) ?_
          refine lv_icmp_eq (tgt := 59) hx hb dX4_counts_52 (by decide) (fun c_52 => ?_) (fun c_52 => ?_)
          ·
            refine lv_iconst (v := 0) hx hb dX4_counts_59 (by decide) ?_
            exact w_zretS X hr hlk (Or.inl rfl) (by simp [cnP, p_2, p_10, p_20, p_39, c_52]) dX4_counts_60
          ·
            refine lv_iconst (v := 1) hx hb dX4_counts_55 (by decide) ?_
            refine lv_goto (tgt := 60) hx hb dX4_counts_56 (by decide) ?_
            exact w_zretS X hr hlk (Or.inr rfl) (by simp [cnP, p_2, p_10, p_20, p_39, c_52]) dX4_counts_60
        ·
          obtain rfl : r_39 = 0 := Eq.trans q_39 (if_neg p_39)
          refine lv_if_eq (tgt := 55) hx hb dX4_counts_42 (by decide) (fun _ => ?_) (fun cc => absurd cc (by decide))
          refine lv_iconst (v := 1) hx hb dX4_counts_55 (by decide) ?_
          refine lv_goto (tgt := 60) hx hb dX4_counts_56 (by decide) ?_
          exact w_zretS X hr hlk (Or.inr rfl) (by simp [cnP, p_2, p_10, p_20, p_39]) dX4_counts_60
  ·
    obtain rfl : r_2 = 0 := Eq.trans q_2 (if_neg p_2)
    refine lv_if_eq (tgt := 18) hx hb dX4_counts_5 (by decide) (fun _ => ?_) (fun cc => absurd cc (by decide))
    refine lv_aload_n hx hb dX4_counts_18 rfl (lv_at hl 1 rfl) ?_
    refine lv_iconst (v := 4) hx hb dX4_counts_19 (by decide) ?_
    refine w_vSi X I (32 + 4 * i) (by omega) (wc_ship g α i _ _ _) rfl (As := [.int 4]) (rest := []) (ctX3_agreed l g α N σ i 4 hN (by decide)) (wM_V kmX4_234 ki_X3_agreed ks_X3_agreed kn_X3 kc_X3_agreed) rfl rfl (n := 1) (by decide +kernel) rfl ⟨by decide, by decide⟩ hl.1 rfl (Nat.le_of_ble_eq_true rfl) ⟨Nat.zero_le _, Nat.zero_le _⟩ dX4_counts_20 (fun r_20 q_20 => ?_)
    by_cases p_20 : σ.1 (34 + 4 * i) 4 = 1
    ·
      obtain rfl : r_20 = 1 := Eq.trans q_20 (if_pos p_20)
      refine lv_if_eq (tgt := 37) hx hb dX4_counts_23 (by decide) (fun cc => absurd cc (by decide)) (fun _ => ?_)
      refine lv_iload_n hx hb dX4_counts_26 rfl (lv_at hl 2 rfl) ?_
      refine lv_bipush (v := 7) hx hb dX4_counts_27 (by decide) ?_
      refine lv_irem hx hb dX4_counts_29 (by decide) ?_
      refine lv_bipush (v := 6) hx hb dX4_counts_30 (by decide) ?_
      refine lv_icmp_ne (tgt := 37) hx hb dX4_counts_32 (by decide) (fun c_32 => ?_) (fun c_32 => ?_)
      ·
        refine lv_aload_n hx hb dX4_counts_37 rfl (lv_at hl 1 rfl) ?_
        refine lv_iconst (v := 5) hx hb dX4_counts_38 (by decide) ?_
        refine w_vSi X I (32 + 4 * i) (by omega) (wc_ship g α i _ _ _) rfl (As := [.int 5]) (rest := []) (ctX3_agreed l g α N σ i 5 hN (by decide)) (wM_V kmX4_234 ki_X3_agreed ks_X3_agreed kn_X3 kc_X3_agreed) rfl rfl (n := 1) (by decide +kernel) rfl ⟨by decide, by decide⟩ hl.1 rfl (Nat.le_of_ble_eq_true rfl) ⟨Nat.zero_le _, Nat.zero_le _⟩ dX4_counts_39 (fun r_39 q_39 => ?_)
        by_cases p_39 : σ.1 (34 + 4 * i) 5 = 1
        ·
          obtain rfl : r_39 = 1 := Eq.trans q_39 (if_pos p_39)
          refine lv_if_eq (tgt := 55) hx hb dX4_counts_42 (by decide) (fun cc => absurd cc (by decide)) (fun _ => ?_)
          refine lv_aload_n hx hb dX4_counts_45 rfl (lv_at hl 1 rfl) ?_
          refine fg3_5 X I i (by omega) kfX4_116 dX4_counts_46 ?_
          refine lv_iload_n hx hb dX4_counts_49 rfl (lv_at hl 2 rfl) ?_
          refine w_ld X I (35 + 4 * i) (by omega) (n := 200) (k := j) (fun _ _ _ => wc_log g α i _ _ _) rfl (by omega) (by decide) dX4_counts_50 ?_
          refine lv_iconst (v := (-1)) hx hb dX4_counts_51 (by decide) ?_
          refine lv_icmp_eq (tgt := 59) hx hb dX4_counts_52 (by decide) (fun c_52 => ?_) (fun c_52 => ?_)
          ·
            refine lv_iconst (v := 0) hx hb dX4_counts_59 (by decide) ?_
            exact w_zretS X hr hlk (Or.inl rfl) (by simp [cnP, p_2, p_20, c_32, p_39, c_52]) dX4_counts_60
          ·
            refine lv_iconst (v := 1) hx hb dX4_counts_55 (by decide) ?_
            refine lv_goto (tgt := 60) hx hb dX4_counts_56 (by decide) ?_
            exact w_zretS X hr hlk (Or.inr rfl) (by simp [cnP, p_2, p_20, c_32, p_39, c_52]) dX4_counts_60
        ·
          obtain rfl : r_39 = 0 := Eq.trans q_39 (if_neg p_39)
          refine lv_if_eq (tgt := 55) hx hb dX4_counts_42 (by decide) (fun _ => ?_) (fun cc => absurd cc (by decide))
          refine lv_iconst (v := 1) hx hb dX4_counts_55 (by decide) ?_
          refine lv_goto (tgt := 60) hx hb dX4_counts_56 (by decide) ?_
          exact w_zretS X hr hlk (Or.inr rfl) (by simp [cnP, p_2, p_20, c_32, p_39]) dX4_counts_60
      ·
        refine lv_iconst (v := 0) hx hb dX4_counts_35 (by decide) ?_
        exact w_zretS X hr hlk (Or.inl rfl) (by simp [cnP, p_2, p_20, c_32]) dX4_counts_36
    ·
      obtain rfl : r_20 = 0 := Eq.trans q_20 (if_neg p_20)
      refine lv_if_eq (tgt := 37) hx hb dX4_counts_23 (by decide) (fun _ => ?_) (fun cc => absurd cc (by decide))
      refine lv_aload_n hx hb dX4_counts_37 rfl (lv_at hl 1 rfl) ?_
      refine lv_iconst (v := 5) hx hb dX4_counts_38 (by decide) ?_
      refine w_vSi X I (32 + 4 * i) (by omega) (wc_ship g α i _ _ _) rfl (As := [.int 5]) (rest := []) (ctX3_agreed l g α N σ i 5 hN (by decide)) (wM_V kmX4_234 ki_X3_agreed ks_X3_agreed kn_X3 kc_X3_agreed) rfl rfl (n := 1) (by decide +kernel) rfl ⟨by decide, by decide⟩ hl.1 rfl (Nat.le_of_ble_eq_true rfl) ⟨Nat.zero_le _, Nat.zero_le _⟩ dX4_counts_39 (fun r_39 q_39 => ?_)
      by_cases p_39 : σ.1 (34 + 4 * i) 5 = 1
      ·
        obtain rfl : r_39 = 1 := Eq.trans q_39 (if_pos p_39)
        refine lv_if_eq (tgt := 55) hx hb dX4_counts_42 (by decide) (fun cc => absurd cc (by decide)) (fun _ => ?_)
        refine lv_aload_n hx hb dX4_counts_45 rfl (lv_at hl 1 rfl) ?_
        refine fg3_5 X I i (by omega) kfX4_116 dX4_counts_46 ?_
        refine lv_iload_n hx hb dX4_counts_49 rfl (lv_at hl 2 rfl) ?_
        refine w_ld X I (35 + 4 * i) (by omega) (n := 200) (k := j) (fun _ _ _ => wc_log g α i _ _ _) rfl (by omega) (by decide) dX4_counts_50 ?_
        refine lv_iconst (v := (-1)) hx hb dX4_counts_51 (by decide) ?_
        refine lv_icmp_eq (tgt := 59) hx hb dX4_counts_52 (by decide) (fun c_52 => ?_) (fun c_52 => ?_)
        ·
          refine lv_iconst (v := 0) hx hb dX4_counts_59 (by decide) ?_
          exact w_zretS X hr hlk (Or.inl rfl) (by simp [cnP, p_2, p_20, p_39, c_52]) dX4_counts_60
        ·
          refine lv_iconst (v := 1) hx hb dX4_counts_55 (by decide) ?_
          refine lv_goto (tgt := 60) hx hb dX4_counts_56 (by decide) ?_
          exact w_zretS X hr hlk (Or.inr rfl) (by simp [cnP, p_2, p_20, p_39, c_52]) dX4_counts_60
      ·
        obtain rfl : r_39 = 0 := Eq.trans q_39 (if_neg p_39)
        refine lv_if_eq (tgt := 55) hx hb dX4_counts_42 (by decide) (fun _ => ?_) (fun cc => absurd cc (by decide))
        refine lv_iconst (v := 1) hx hb dX4_counts_55 (by decide) ?_
        refine lv_goto (tgt := 60) hx hb dX4_counts_56 (by decide) ?_
        exact w_zretS X hr hlk (Or.inr rfl) (by simp [cnP, p_2, p_20, p_39]) dX4_counts_60
end
section
variable {l : Launch} {g : wG} {α : Nat → Nat} {N : Nat} {σ : wS} {p : Program} {e : Env} {s : State} {m : MethodId} {args : Array Value} {below : List Frame} {meth : Method} {c : Code}
set_option maxHeartbeats 4000000 in
set_option maxRecDepth 100000 in
theorem ctX4_lastDayOf (l : Launch) (g : wG) (α : Nat → Nat) (N : Nat) (σ : wS) (i d : Nat) (hN : 36 + 4 * i ≤ N) (hd : σ.1 0 6 = nI d) (hd200 : d ≤ 200) : Met l yX4_lastDayOf (wM yX4_lastDayOf cX4_lastDayOf 2 (some FieldType.int)) ({ frames := 1, cells := 0, slots := 0, locals := 20 } : Room) (wPc g α N σ [.ref (α 0), .ref (α (32 + 4 * i))]) (vp_Si (fun r => r = if ¬ σ.1 (32 + 4 * i) 9 = (-9) then σ.1 (32 + 4 * i) 9 else nI d - 1)) 0 0 (fun _ => False) := by
  refine w_enterS (by decide) (Nat.le_of_ble_eq_true rfl) (fun p e s m args below meth c X I hr hlk ls hl => ?_)
  have hx := X.1.1
  have hb := X.1.2.1
  have hl : lv_has ls 2 [(0, .ref (α 0)), (1, .ref (α (32 + 4 * i)))] := hl
  refine lv_aload_n hx hb dX4_lastDayOf_0 rfl (lv_at hl 1 rfl) ?_
  refine w_vSi X I (32 + 4 * i) (by omega) (wc_ship g α i _ _ _) rfl (As := []) (rest := []) (ctX3_isLoaded l g α N σ i hN) (wM_V kmX4_119 ki_X3_isLoaded ks_X3_isLoaded kn_X3 kc_X3_isLoaded) rfl rfl (n := 0) (by decide +kernel) rfl ⟨by decide, by decide⟩ hl.1 rfl (Nat.le_of_ble_eq_true rfl) ⟨Nat.zero_le _, Nat.zero_le _⟩ dX4_lastDayOf_1 (fun r_1 q_1 => ?_)
  by_cases p_1 : ¬ σ.1 (32 + 4 * i) 9 = (-9)
  ·
    obtain rfl : r_1 = 1 := Eq.trans q_1 (if_pos p_1)
    refine lv_if_eq (tgt := 14) hx hb dX4_lastDayOf_4 (by decide) (fun cc => absurd cc (by decide)) (fun _ => ?_)
    refine lv_aload_n hx hb dX4_lastDayOf_7 rfl (lv_at hl 1 rfl) ?_
    refine fg3_9 X I i (by omega) kfX4_106 dX4_lastDayOf_8 ?_
    refine lv_goto (tgt := 20) hx hb dX4_lastDayOf_11 (by decide) ?_
    exact w_iretS X hr hlk (by simp [p_1]) dX4_lastDayOf_20
  ·
    obtain rfl : r_1 = 0 := Eq.trans q_1 (if_neg p_1)
    refine lv_if_eq (tgt := 14) hx hb dX4_lastDayOf_4 (by decide) (fun _ => ?_) (fun cc => absurd cc (by decide))
    refine lv_aload_n hx hb dX4_lastDayOf_14 rfl (lv_at hl 0 rfl) ?_
    refine fg4_6 X I (by omega) kfX4_43 dX4_lastDayOf_15 ?_
    refine w_eqi hd ?_
    refine lv_iconst (v := 1) hx hb dX4_lastDayOf_18 (by decide) ?_
    refine lv_isub hx hb dX4_lastDayOf_19 ?_
    exact w_iretS X hr hlk (by simp [p_1]) dX4_lastDayOf_20
end
section
variable {l : Launch} {g : wG} {α : Nat → Nat} {N : Nat} {σ : wS} {p : Program} {e : Env} {s : State} {m : MethodId} {args : Array Value} {below : List Frame} {meth : Method} {c : Code}
set_option maxHeartbeats 4000000 in
set_option maxRecDepth 100000 in
theorem ctX4_shareOf (l : Launch) (g : wG) (α : Nat → Nat) (N : Nat) (σ : wS) (i j : Nat) (hN : 36 + 4 * i ≤ N) (hj : j < 200) : Met l yX4_shareOf (wM yX4_shareOf cX4_shareOf 3 (some FieldType.int)) ({ frames := 1, cells := 0, slots := 0, locals := 21 } : Room) (wPc g α N σ [.ref (α 0), .ref (α (32 + 4 * i)), .int (nI j)]) (vp_Si (fun r => r = shF (σ.1 1) (σ.1 (35 + 4 * i)) j)) 0 0 (fun _ => False) := by
  refine w_enterS (by decide) (Nat.le_of_ble_eq_true rfl) (fun p e s m args below meth c X I hr hlk ls hl => ?_)
  have hx := X.1.1
  have hb := X.1.2.1
  have hl : lv_has ls 3 [(0, .ref (α 0)), (1, .ref (α (32 + 4 * i))), (2, .int (nI j))] := hl
  refine lv_aload_n hx hb dX4_shareOf_0 rfl (lv_at hl 0 rfl) ?_
  refine lv_iload_n hx hb dX4_shareOf_1 rfl (lv_at hl 2 rfl) ?_
  refine w_vSi X I 0 (by omega) rfl rfl (As := [.int (nI j)]) (rest := []) (ctX4_lightersShut l g α N σ j (by omega) (by omega)) (wM_V kmX4_231 ki_X4_lightersShut ks_X4_lightersShut kn_X4 kc_X4_lightersShut) rfl rfl (n := 1) (by decide +kernel) rfl ⟨by decide, by decide⟩ hl.1 rfl (Nat.le_of_ble_eq_true rfl) ⟨Nat.zero_le _, Nat.zero_le _⟩ dX4_shareOf_2 (fun r_2 q_2 => ?_)
  by_cases p_2 : 7 < σ.1 1 j
  ·
    obtain rfl : r_2 = 1 := Eq.trans q_2 (if_pos p_2)
    refine lv_if_eq (tgt := 10) hx hb dX4_shareOf_5 (by decide) (fun cc => absurd cc (by decide)) (fun _ => ?_)
    refine lv_iconst (v := 0) hx hb dX4_shareOf_8 (by decide) ?_
    exact w_iretS X hr hlk (by simp [shF, p_2]) dX4_shareOf_9
  ·
    obtain rfl : r_2 = 0 := Eq.trans q_2 (if_neg p_2)
    refine lv_if_eq (tgt := 10) hx hb dX4_shareOf_5 (by decide) (fun _ => ?_) (fun cc => absurd cc (by decide))
    refine lv_aload_n hx hb dX4_shareOf_10 rfl (lv_at hl 1 rfl) ?_
    refine fg3_5 X I i (by omega) kfX4_116 dX4_shareOf_11 ?_
    refine lv_iload_n hx hb dX4_shareOf_14 rfl (lv_at hl 2 rfl) ?_
    refine w_ld X I (35 + 4 * i) (by omega) (n := 200) (k := j) (fun _ _ _ => wc_log g α i _ _ _) rfl (by omega) (by decide) dX4_shareOf_15 ?_
    refine lv_if_ne (tgt := 23) hx hb dX4_shareOf_16 (by decide) (fun c_16 => ?_) (fun c_16 => ?_)
    ·
      refine lv_iconst (v := 2) hx hb dX4_shareOf_23 (by decide) ?_
      exact w_iretS X hr hlk (by simp [shF, p_2, c_16]) dX4_shareOf_24
    ·
      refine lv_iconst (v := 1) hx hb dX4_shareOf_19 (by decide) ?_
      refine lv_goto (tgt := 24) hx hb dX4_shareOf_20 (by decide) ?_
      exact w_iretS X hr hlk (by simp [shF, p_2, c_16]) dX4_shareOf_24
end
section
variable {l : Launch} {g : wG} {α : Nat → Nat} {N : Nat} {σ : wS} {p : Program} {e : Env} {s : State} {m : MethodId} {args : Array Value} {below : List Frame} {meth : Method} {c : Code}
set_option maxHeartbeats 4000000 in
set_option maxRecDepth 100000 in
theorem lpX4_usedBy_7 (i d a0 e2 : Nat) (X : wX p s m args c cX4_usedBy 4 RX4 g) (I : wI g α N (fun _ => True) s.heap s.heap [] σ) (hr : meth.sig.returnType = (some FieldType.int)) (hlk : meth.locks = false) (hN : 36 + 4 * i ≤ N) (hd : σ.1 0 6 = nI d) (hd200 : d ≤ 200) (hlast : (if ¬ σ.1 (32 + 4 * i) 9 = (-9) then σ.1 (32 + 4 * i) 9 else nI d - 1) = nI e2 - 1) (hae : a0 ≤ e2) (hed : e2 ≤ d) (har : σ.1 (32 + 4 * i) 2 = nI a0) : ∀ (fu : Nat) (t : Nat) (acc : Int32), e2 + 1 ≤ a0 + t + fu → a0 + t ≤ e2 → acc = smI (inF (σ.1 (34 + 4 * i)) (σ.1 1) (σ.1 (35 + 4 * i)) a0) t → ∀ ls : Array Slot, lv_has ls 4 [(0, .ref (α 0)), (1, .ref (α (32 + 4 * i))), (2, .int acc), (3, .int (nI (a0 + t)))] → W p l e ({ frames := 2, cells := 0, slots := 0, locals := 43 } : Room) s m args below meth c s.heap [] 0 0 (MQ below (vp_Si (fun r => r = usF (σ.1 (34 + 4 * i)) (σ.1 1) (σ.1 (35 + 4 * i)) a0 e2)) args s 0 0 (fun _ => False)) (F0 m 7 ls []) := by
  have hx := X.1.1
  have hb := X.1.2.1
  intro fu
  induction fu with
  | zero =>
    intro t acc hfu hk ha
    exact absurd hfu (by omega)
  | succ fu ih =>
    intro t acc hfu hk ha ls hl
    refine lv_iload_n hx hb dX4_usedBy_7 rfl (lv_at hl 3 rfl) ?_
    refine lv_aload_n hx hb dX4_usedBy_8 rfl (lv_at hl 0 rfl) ?_
    refine lv_aload_n hx hb dX4_usedBy_9 rfl (lv_at hl 1 rfl) ?_
    refine w_vSi X I 0 (by omega) rfl rfl (As := [.ref (α (32 + 4 * i))]) (rest := [.int (nI (a0 + t))]) (ctX4_lastDayOf l g α N σ i d hN hd hd200) (wM_V kmX4_161 ki_X4_lastDayOf ks_X4_lastDayOf kn_X4 kc_X4_lastDayOf) rfl rfl (n := 1) (by decide +kernel) rfl ⟨by decide, by decide⟩ hl.1 rfl (Nat.le_of_ble_eq_true rfl) ⟨Nat.zero_le _, Nat.zero_le _⟩ dX4_usedBy_10 (fun r_10 q_10 => ?_)
    replace q_10 : r_10 = if ¬ σ.1 (32 + 4 * i) 9 = (-9) then σ.1 (32 + 4 * i) 9 else nI d - 1 := q_10
    subst q_10
    refine w_eqi hlast ?_
    refine lv_icmp_gt (tgt := 34) hx hb dX4_usedBy_13 (by decide) (fun c_13 => ?_) (fun c_13 => ?_)
    ·
      have e : a0 + t = e2 := by have := (m1_lt (by omega) (by omega)).mp c_13; omega
      refine lv_iload_n hx hb dX4_usedBy_34 rfl (lv_at hl 2 rfl) ?_
      exact w_iretS X hr hlk (by rw [ha, usF, ← e, Nat.add_sub_cancel_left]) dX4_usedBy_35
    ·
      have hlt : a0 + t < e2 := Nat.lt_of_not_le (fun z => c_13 ((m1_lt (by omega) (by omega)).mpr z))
      refine lv_aload_n hx hb dX4_usedBy_16 rfl (lv_at hl 0 rfl) ?_
      refine lv_aload_n hx hb dX4_usedBy_17 rfl (lv_at hl 1 rfl) ?_
      refine lv_iload_n hx hb dX4_usedBy_18 rfl (lv_at hl 3 rfl) ?_
      refine w_vSi X I 0 (by omega) rfl rfl (As := [.ref (α (32 + 4 * i)), .int (nI (a0 + t))]) (rest := []) (ctX4_counts l g α N σ i (a0 + t) hN (by omega)) (wM_V kmX4_164 ki_X4_counts ks_X4_counts kn_X4 kc_X4_counts) rfl rfl (n := 2) (by decide +kernel) rfl ⟨by decide, by decide⟩ hl.1 rfl (Nat.le_of_ble_eq_true rfl) ⟨Nat.zero_le _, Nat.zero_le _⟩ dX4_usedBy_19 (fun r_19 q_19 => ?_)
      by_cases p_19 : cnP (σ.1 (34 + 4 * i)) (σ.1 1) (σ.1 (35 + 4 * i)) (a0 + t)
      ·
        obtain rfl : r_19 = 1 := Eq.trans q_19 (if_pos p_19)
        refine lv_if_eq (tgt := 28) hx hb dX4_usedBy_22 (by decide) (fun cc => absurd cc (by decide)) (fun _ => ?_)
        refine lv_iinc (v := acc + 1) (lv' := [(2, .int (acc + 1)), (0, .ref (α 0)), (1, .ref (α (32 + 4 * i))), (3, .int (nI (a0 + t)))]) hx hb dX4_usedBy_25 hl (k := 2) rfl rfl (by decide) rfl (fun ls hl => ?_)
        refine lv_iinc (v := nI ((a0 + t) + 1)) (lv' := [(3, .int (nI ((a0 + t) + 1))), (2, .int (acc + 1)), (0, .ref (α 0)), (1, .ref (α (32 + 4 * i)))]) hx hb dX4_usedBy_28 hl (k := 3) rfl (nI_1 _) (by decide) rfl (fun ls hl => ?_)
        refine lv_goto (tgt := 7) hx hb dX4_usedBy_31 (by decide) ?_
        exact ih (t + 1) (acc + 1) (by omega) (by omega) (by rw [ha, smI, inF]; first | rw [if_pos p_19] | (rw [if_neg p_19]; simp)) ls (lv_sub hl [2, 3, 1, 0] rfl)
      ·
        obtain rfl : r_19 = 0 := Eq.trans q_19 (if_neg p_19)
        refine lv_if_eq (tgt := 28) hx hb dX4_usedBy_22 (by decide) (fun _ => ?_) (fun cc => absurd cc (by decide))
        refine lv_iinc (v := nI ((a0 + t) + 1)) (lv' := [(3, .int (nI ((a0 + t) + 1))), (0, .ref (α 0)), (1, .ref (α (32 + 4 * i))), (2, .int acc)]) hx hb dX4_usedBy_28 hl (k := 3) rfl (nI_1 _) (by decide) rfl (fun ls hl => ?_)
        refine lv_goto (tgt := 7) hx hb dX4_usedBy_31 (by decide) ?_
        exact ih (t + 1) acc (by omega) (by omega) (by rw [ha, smI, inF]; first | rw [if_pos p_19] | (rw [if_neg p_19]; simp)) ls (lv_sub hl [1, 2, 3, 0] rfl)
set_option maxHeartbeats 4000000 in
set_option maxRecDepth 100000 in
theorem ctX4_usedBy (l : Launch) (g : wG) (α : Nat → Nat) (N : Nat) (σ : wS) (i d a0 e2 : Nat) (hN : 36 + 4 * i ≤ N) (hd : σ.1 0 6 = nI d) (hd200 : d ≤ 200) (hlast : (if ¬ σ.1 (32 + 4 * i) 9 = (-9) then σ.1 (32 + 4 * i) 9 else nI d - 1) = nI e2 - 1) (hae : a0 ≤ e2) (hed : e2 ≤ d) (har : σ.1 (32 + 4 * i) 2 = nI a0) : Met l yX4_usedBy (wM yX4_usedBy cX4_usedBy 4 (some FieldType.int)) ({ frames := 2, cells := 0, slots := 0, locals := 43 } : Room) (wPc g α N σ [.ref (α 0), .ref (α (32 + 4 * i))]) (vp_Si (fun r => r = usF (σ.1 (34 + 4 * i)) (σ.1 1) (σ.1 (35 + 4 * i)) a0 e2)) 0 0 (fun _ => False) := by
  refine w_enterS (by decide) (Nat.le_of_ble_eq_true rfl) (fun p e s m args below meth c X I hr hlk ls hl => ?_)
  have hx := X.1.1
  have hb := X.1.2.1
  have hl : lv_has ls 4 [(0, .ref (α 0)), (1, .ref (α (32 + 4 * i)))] := hl
  refine lv_iconst (v := 0) hx hb dX4_usedBy_0 (by decide) ?_
  refine lv_istore_n (lv' := [(2, .int 0), (0, .ref (α 0)), (1, .ref (α (32 + 4 * i)))]) hx hb dX4_usedBy_1 rfl hl (by decide) rfl (fun ls hl => ?_)
  refine lv_aload_n hx hb dX4_usedBy_2 rfl (lv_at hl 2 rfl) ?_
  refine fg3_2 X I i (by omega) kfX4_95 dX4_usedBy_3 ?_
  refine w_eqi har ?_
  refine lv_istore_n (lv' := [(3, .int (nI a0)), (2, .int 0), (0, .ref (α 0)), (1, .ref (α (32 + 4 * i)))]) hx hb dX4_usedBy_6 rfl hl (by decide) rfl (fun ls hl => ?_)
  exact lpX4_usedBy_7 i d a0 e2 X I hr hlk hN hd hd200 hlast hae hed har  (e2 + 1) 0 0 (by omega) (by omega) rfl ls (lv_sub hl [2, 3, 1, 0] rfl)
end
section
variable {l : Launch} {g : wG} {α : Nat → Nat} {N : Nat} {σ : wS} {p : Program} {e : Env} {s : State} {m : MethodId} {args : Array Value} {below : List Frame} {meth : Method} {c : Code}
def owF (us : Int32) (tr : Nat → Int32) (lo : Prop) [Decidable lo] : Int32 := if 0 < us - tr 0 then (us - tr 0) * tr 1 else if lo then (us - tr 0) * tr 2 else 0
set_option maxHeartbeats 4000000 in
set_option maxRecDepth 100000 in
theorem ctX4_owedBy (l : Launch) (g : wG) (α : Nat → Nat) (N : Nat) (σ : wS) (i d a0 e2 : Nat) (hN : 36 + 4 * i ≤ N) (hd : σ.1 0 6 = nI d) (hd200 : d ≤ 200) (hlast : (if ¬ σ.1 (32 + 4 * i) 9 = (-9) then σ.1 (32 + 4 * i) 9 else nI d - 1) = nI e2 - 1) (hae : a0 ≤ e2) (hed : e2 ≤ d) (har : σ.1 (32 + 4 * i) 2 = nI a0) : Met l yX4_owedBy (wM yX4_owedBy cX4_owedBy 3 (some FieldType.int)) ({ frames := 3, cells := 0, slots := 0, locals := 66 } : Room) (wPc g α N σ [.ref (α 0), .ref (α (32 + 4 * i))]) (vp_Si (fun r => r = owF (usF (σ.1 (34 + 4 * i)) (σ.1 1) (σ.1 (35 + 4 * i)) a0 e2) (σ.1 (34 + 4 * i)) (¬ σ.1 (32 + 4 * i) 9 = (-9)))) 0 0 (fun _ => False) := by
  refine w_enterS (by decide) (Nat.le_of_ble_eq_true rfl) (fun p e s m args below meth c X I hr hlk ls hl => ?_)
  have hx := X.1.1
  have hb := X.1.2.1
  have hl : lv_has ls 3 [(0, .ref (α 0)), (1, .ref (α (32 + 4 * i)))] := hl
  refine lv_aload_n hx hb dX4_owedBy_0 rfl (lv_at hl 0 rfl) ?_
  refine lv_aload_n hx hb dX4_owedBy_1 rfl (lv_at hl 1 rfl) ?_
  refine w_vSi X I 0 (by omega) rfl rfl (As := [.ref (α (32 + 4 * i))]) (rest := []) (ctX4_usedBy l g α N σ i d a0 e2 hN hd hd200 hlast hae hed har) (wM_V kmX4_154 ki_X4_usedBy ks_X4_usedBy kn_X4 kc_X4_usedBy) rfl rfl (n := 1) (by decide +kernel) rfl ⟨by decide, by decide⟩ hl.1 rfl (Nat.le_of_ble_eq_true rfl) ⟨Nat.zero_le _, Nat.zero_le _⟩ dX4_owedBy_2 (fun r_2 q_2 => ?_)
  replace q_2 : r_2 = usF (σ.1 (34 + 4 * i)) (σ.1 1) (σ.1 (35 + 4 * i)) a0 e2 := q_2
  subst q_2
  refine lv_aload_n hx hb dX4_owedBy_5 rfl (lv_at hl 1 rfl) ?_
  refine fg3_4 X I i (by omega) kfX4_146 dX4_owedBy_6 ?_
  refine lv_iconst (v := 0) hx hb dX4_owedBy_9 (by decide) ?_
  refine w_ld X I (34 + 4 * i) (by omega) (n := 6) (k := 0) (fun _ _ _ => wc_terms g α i _ _ _) rfl (by decide) (by decide) dX4_owedBy_10 ?_
  refine lv_isub hx hb dX4_owedBy_11 ?_
  refine lv_istore_n (lv' := [(2, .int ((usF (σ.1 (34 + 4 * i)) (σ.1 1) (σ.1 (35 + 4 * i)) a0 e2) - (σ.1 (34 + 4 * i) 0))), (0, .ref (α 0)), (1, .ref (α (32 + 4 * i)))]) hx hb dX4_owedBy_12 rfl hl (by decide) rfl (fun ls hl => ?_)
  refine lv_iload_n hx hb dX4_owedBy_13 rfl (lv_at hl 0 rfl) ?_
  refine lv_if_le (tgt := 26) hx hb dX4_owedBy_14 (by decide) (fun c_14 => ?_) (fun c_14 => ?_)
  ·
    have c_14 : ¬ 0 < usF (σ.1 (34 + 4 * i)) (σ.1 1) (σ.1 (35 + 4 * i)) a0 e2 - σ.1 (34 + 4 * i) 0 := Int32.not_lt.mpr c_14
    refine lv_aload_n hx hb dX4_owedBy_26 rfl (lv_at hl 2 rfl) ?_
    refine w_vSi X I (32 + 4 * i) (by omega) (wc_ship g α i _ _ _) rfl (As := []) (rest := []) (ctX3_isLoaded l g α N σ i hN) (wM_V kmX4_119 ki_X3_isLoaded ks_X3_isLoaded kn_X3 kc_X3_isLoaded) rfl rfl (n := 0) (by decide +kernel) rfl ⟨by decide, by decide⟩ hl.1 rfl (Nat.le_of_ble_eq_true rfl) ⟨Nat.zero_le _, Nat.zero_le _⟩ dX4_owedBy_27 (fun r_27 q_27 => ?_)
    by_cases p_27 : ¬ σ.1 (32 + 4 * i) 9 = (-9)
    ·
      obtain rfl : r_27 = 1 := Eq.trans q_27 (if_pos p_27)
      refine lv_if_eq (tgt := 44) hx hb dX4_owedBy_30 (by decide) (fun cc => absurd cc (by decide)) (fun _ => ?_)
      refine lv_iload_n hx hb dX4_owedBy_33 rfl (lv_at hl 0 rfl) ?_
      refine lv_aload_n hx hb dX4_owedBy_34 rfl (lv_at hl 2 rfl) ?_
      refine fg3_4 X I i (by omega) kfX4_146 dX4_owedBy_35 ?_
      refine lv_iconst (v := 2) hx hb dX4_owedBy_38 (by decide) ?_
      refine w_ld X I (34 + 4 * i) (by omega) (n := 6) (k := 2) (fun _ _ _ => wc_terms g α i _ _ _) rfl (by decide) (by decide) dX4_owedBy_39 ?_
      refine lv_imul hx hb dX4_owedBy_40 ?_
      refine lv_goto (tgt := 45) hx hb dX4_owedBy_41 (by decide) ?_
      exact w_iretS X hr hlk (by simp [owF, c_14, p_27]) dX4_owedBy_45
    ·
      obtain rfl : r_27 = 0 := Eq.trans q_27 (if_neg p_27)
      refine lv_if_eq (tgt := 44) hx hb dX4_owedBy_30 (by decide) (fun _ => ?_) (fun cc => absurd cc (by decide))
      refine lv_iconst (v := 0) hx hb dX4_owedBy_44 (by decide) ?_
      exact w_iretS X hr hlk (by simp [owF, c_14, p_27]) dX4_owedBy_45
  ·
    have c_14 : 0 < usF (σ.1 (34 + 4 * i)) (σ.1 1) (σ.1 (35 + 4 * i)) a0 e2 - σ.1 (34 + 4 * i) 0 := Int32.not_le.mp c_14
    refine lv_iload_n hx hb dX4_owedBy_17 rfl (lv_at hl 0 rfl) ?_
    refine lv_aload_n hx hb dX4_owedBy_18 rfl (lv_at hl 2 rfl) ?_
    refine fg3_4 X I i (by omega) kfX4_146 dX4_owedBy_19 ?_
    refine lv_iconst (v := 1) hx hb dX4_owedBy_22 (by decide) ?_
    refine w_ld X I (34 + 4 * i) (by omega) (n := 6) (k := 1) (fun _ _ _ => wc_terms g α i _ _ _) rfl (by decide) (by decide) dX4_owedBy_23 ?_
    refine lv_imul hx hb dX4_owedBy_24 ?_
    exact w_iretS X hr hlk (by simp [owF, c_14]) dX4_owedBy_25
end
section
variable {l : Launch} {g : wG} {α : Nat → Nat} {N : Nat} {σ : wS} {p : Program} {e : Env} {s : State} {m : MethodId} {args : Array Value} {below : List Frame} {meth : Method} {c : Code}
set_option maxHeartbeats 4000000 in
set_option maxRecDepth 100000 in
theorem ctX4_owed (l : Launch) (g : wG) (α : Nat → Nat) (N : Nat) (σ : wS) (a b : Int32) (n d : Nat) (ar en : Nat → Nat) (hn : σ.1 0 7 = nI n) (hn10 : n ≤ 10) (hN : 32 + 4 * n ≤ N) (hd : σ.1 0 6 = nI d) (hd200 : d ≤ 200) (hR : ∀ k, k < n → σ.2.2 5 k = some (32 + 4 * k)) (hae : ∀ k, k < n → ar k ≤ en k) (hed : ∀ k, k < n → en k ≤ d) (har : ∀ k, k < n → σ.1 (32 + 4 * k) 2 = nI (ar k)) (hlast : ∀ k, k < n → (if ¬ σ.1 (32 + 4 * k) 9 = (-9) then σ.1 (32 + 4 * k) 9 else nI d - 1) = nI (en k) - 1) : Met l yX4_owed (wM yX4_owed cX4_owed 4 (some FieldType.int)) ({ frames := 4, cells := 0, slots := 0, locals := 88 } : Room) (wPc g α N σ [.ref (α 0), .int a, .int b]) (vp_Si (fun r => r = spq n a (-1000000) (fun k => if ¬ b < 0 ∧ ¬ 1 < b then (if b = 0 then usF (σ.1 (34 + 4 * k)) (σ.1 1) (σ.1 (35 + 4 * k)) (ar k) (en k) else owF (usF (σ.1 (34 + 4 * k)) (σ.1 1) (σ.1 (35 + 4 * k)) (ar k) (en k)) (σ.1 (34 + 4 * k)) (¬ σ.1 (32 + 4 * k) 9 = (-9))) else (-1000000)))) 0 0 (fun _ => False) := by
  refine w_enterS (by decide) (Nat.le_of_ble_eq_true rfl) (fun p e s m args below meth c X I hr hlk ls hl => ?_)
  have hx := X.1.1
  have hb := X.1.2.1
  have hl : lv_has ls 4 [(0, .ref (α 0)), (1, .int a), (2, .int b)] := hl
  refine lv_aload_n hx hb dX4_owed_0 rfl (lv_at hl 0 rfl) ?_
  refine lv_iload_n hx hb dX4_owed_1 rfl (lv_at hl 1 rfl) ?_
  refine w_vSq X I 0 (by omega) rfl rfl (As := [.int a]) (rest := []) (ctX4_shipNumbered l g α N σ a n hn hn10 hN hR) (wM_V kmX4_78 ki_X4_shipNumbered ks_X4_shipNumbered kn_X4 kc_X4_shipNumbered) rfl rfl (n := 1) (by decide +kernel) rfl ⟨by decide, by decide⟩ hl.1 rfl (Nat.le_of_ble_eq_true rfl) ⟨Nat.zero_le _, Nat.zero_le _⟩ dX4_owed_2 (fun r_2 q_2 => ?_)
  replace q_2 : (∀ k, k < n → a = nI k → r_2 = some (α (32 + 4 * k))) ∧ ((a < 0 ∨ nI n ≤ a) → r_2 = none) := q_2
  rcases ix2 a (n := n) (by omega) with hbad | ⟨k, hk, rfl⟩
  ·
    obtain rfl : r_2 = none := q_2.2 hbad
    refine w_eqv (y := .null) rfl ?_
    refine lv_astore_nN (lv' := [(3, .null), (0, .ref (α 0)), (1, .int a), (2, .int b)]) hx hb dX4_owed_5 rfl hl (by decide) rfl (fun ls hl => ?_)
    refine lv_aload_nN hx hb dX4_owed_6 rfl (lv_at hl 0 rfl) ?_
    refine lv_ifnullN (tgt := 19) hx hb dX4_owed_7 (by decide) ?_
    refine lv_ldc hx hb X.1.2.2.2.1 (X.1.2.2.2.2 _ kkX4_153) dX4_owed_19 ?_
    exact w_iretS X hr hlk (by first | exact (spq_bad hbad).symm | (rw [spq_ok hk (by omega), if_pos p_13, if_pos c_23]; done) | (rw [spq_ok hk (by omega), if_pos p_13, if_neg c_23]; done) | (rw [spq_ok hk (by omega), if_neg p_13]; done)) dX4_owed_21
  ·
    obtain rfl : r_2 = some (α (32 + 4 * k)) := q_2.1 k hk rfl
    clear q_2
    refine w_eqv (y := .ref (α (32 + 4 * k))) rfl ?_
    refine lv_astore_n (lv' := [(3, .ref (α (32 + 4 * k))), (0, .ref (α 0)), (1, .int (nI k)), (2, .int b)]) hx hb dX4_owed_5 rfl hl (by decide) rfl (fun ls hl => ?_)
    refine lv_aload_n hx hb dX4_owed_6 rfl (lv_at hl 0 rfl) ?_
    refine lv_ifnull hx hb dX4_owed_7 ?_
    refine lv_iload_n hx hb dX4_owed_10 rfl (lv_at hl 3 rfl) ?_
    refine lv_iconst (v := 0) hx hb dX4_owed_11 (by decide) ?_
    refine lv_iconst (v := 1) hx hb dX4_owed_12 (by decide) ?_
    refine w_sSi X I (As := [.int b, .int 0, .int 1]) (rest := []) (ctX4_within l g α N σ _ _ _ ) (wM_S kmX4_57 kt_X4_within kn_X4 kc_X4_within) rfl rfl (n := 3) (by decide +kernel) rfl ⟨by decide, by decide⟩ hl.1 rfl (Nat.le_of_ble_eq_true rfl) ⟨Nat.zero_le _, Nat.zero_le _⟩ dX4_owed_13 (fun r_13 q_13 => ?_)
    by_cases p_13 : ¬ b < 0 ∧ ¬ 1 < b
    ·
      obtain rfl : r_13 = 1 := Eq.trans q_13 (if_pos p_13)
      refine lv_if_ne (tgt := 22) hx hb dX4_owed_16 (by decide) (fun _ => ?_) (fun cc => absurd cc (by decide))
      refine lv_iload_n hx hb dX4_owed_22 rfl (lv_at hl 3 rfl) ?_
      refine lv_if_ne (tgt := 34) hx hb dX4_owed_23 (by decide) (fun c_23 => ?_) (fun c_23 => ?_)
      ·
        refine lv_aload_n hx hb dX4_owed_34 rfl (lv_at hl 1 rfl) ?_
        refine lv_aload_n hx hb dX4_owed_35 rfl (lv_at hl 0 rfl) ?_
        refine w_vSi X I 0 (by omega) rfl rfl (As := [.ref (α (32 + 4 * k))]) (rest := []) (ctX4_owedBy l g α N σ k d (ar k) (en k) (by omega) hd hd200 (hlast k hk) (hae k hk) (hed k hk) (har k hk)) (wM_V kmX4_158 ki_X4_owedBy ks_X4_owedBy kn_X4 kc_X4_owedBy) rfl rfl (n := 1) (by decide +kernel) rfl ⟨by decide, by decide⟩ hl.1 rfl (Nat.le_of_ble_eq_true rfl) ⟨Nat.zero_le _, Nat.zero_le _⟩ dX4_owed_36 (fun r_36 q_36 => ?_)
        replace q_36 : r_36 = owF (usF (σ.1 (34 + 4 * k)) (σ.1 1) (σ.1 (35 + 4 * k)) (ar k) (en k)) (σ.1 (34 + 4 * k)) (¬ σ.1 (32 + 4 * k) 9 = (-9)) := q_36
        subst q_36
        exact w_iretS X hr hlk (by first | exact (spq_bad hbad).symm | (rw [spq_ok hk (by omega), if_pos p_13, if_pos c_23]; done) | (rw [spq_ok hk (by omega), if_pos p_13, if_neg c_23]; done) | (rw [spq_ok hk (by omega), if_neg p_13]; done)) dX4_owed_39
      ·
        refine lv_aload_n hx hb dX4_owed_26 rfl (lv_at hl 1 rfl) ?_
        refine lv_aload_n hx hb dX4_owed_27 rfl (lv_at hl 0 rfl) ?_
        refine w_vSi X I 0 (by omega) rfl rfl (As := [.ref (α (32 + 4 * k))]) (rest := []) (ctX4_usedBy l g α N σ k d (ar k) (en k) (by omega) hd hd200 (hlast k hk) (hae k hk) (hed k hk) (har k hk)) (wM_V kmX4_154 ki_X4_usedBy ks_X4_usedBy kn_X4 kc_X4_usedBy) rfl rfl (n := 1) (by decide +kernel) rfl ⟨by decide, by decide⟩ hl.1 rfl (Nat.le_of_ble_eq_true rfl) ⟨Nat.zero_le _, Nat.zero_le _⟩ dX4_owed_28 (fun r_28 q_28 => ?_)
        replace q_28 : r_28 = usF (σ.1 (34 + 4 * k)) (σ.1 1) (σ.1 (35 + 4 * k)) (ar k) (en k) := q_28
        subst q_28
        refine lv_goto (tgt := 39) hx hb dX4_owed_31 (by decide) ?_
        exact w_iretS X hr hlk (by first | exact (spq_bad hbad).symm | (rw [spq_ok hk (by omega), if_pos p_13, if_pos c_23]; done) | (rw [spq_ok hk (by omega), if_pos p_13, if_neg c_23]; done) | (rw [spq_ok hk (by omega), if_neg p_13]; done)) dX4_owed_39
    ·
      obtain rfl : r_13 = 0 := Eq.trans q_13 (if_neg p_13)
      refine lv_if_ne (tgt := 22) hx hb dX4_owed_16 (by decide) (fun cc => absurd cc (by decide)) (fun _ => ?_)
      refine lv_ldc hx hb X.1.2.2.2.1 (X.1.2.2.2.2 _ kkX4_153) dX4_owed_19 ?_
      exact w_iretS X hr hlk (by first | exact (spq_bad hbad).symm | (rw [spq_ok hk (by omega), if_pos p_13, if_pos c_23]; done) | (rw [spq_ok hk (by omega), if_pos p_13, if_neg c_23]; done) | (rw [spq_ok hk (by omega), if_neg p_13]; done)) dX4_owed_21
end
section
variable {l : Launch} {g : wG} {α : Nat → Nat} {N : Nat} {σ : wS} {p : Program} {e : Env} {s : State} {m : MethodId} {args : Array Value} {below : List Frame} {meth : Method} {c : Code}
set_option maxHeartbeats 4000000 in
set_option maxRecDepth 100000 in
theorem lpX4_shared_33 (a b : Int32) (n d : Nat) (ar en : Nat → Nat) (X : wX p s m args c cX4_shared 7 RX4 g) (I : wI g α N (fun _ => True) s.heap s.heap [] σ) (hr : meth.sig.returnType = (some FieldType.int)) (hlk : meth.locks = false) (hn : σ.1 0 7 = nI n) (hn10 : n ≤ 10) (hN : 32 + 4 * n ≤ N) (hd : σ.1 0 6 = nI d) (hd200 : d ≤ 200) (hR : ∀ k, k < n → σ.2.2 5 k = some (32 + 4 * k)) (hae : ∀ k, k < n → ar k ≤ en k) (hed : ∀ k, k < n → en k ≤ d) (har : ∀ k, k < n → σ.1 (32 + 4 * k) 2 = nI (ar k)) (hlast : ∀ k, k < n → (if ¬ σ.1 (32 + 4 * k) 9 = (-9) then σ.1 (32 + 4 * k) 9 else nI d - 1) = nI (en k) - 1) : ∀ (fu : Nat) (k : Nat) (t : Nat) (co : Int32) (fo : Int32), en k + 1 ≤ ar k + t + fu → k < n → ¬ b < 0 ∧ ¬ 2 < b → a = nI k → ar k + t ≤ en k → co = smI (inF (σ.1 (34 + 4 * k)) (σ.1 1) (σ.1 (35 + 4 * k)) (ar k)) t → fo = smI (shG (σ.1 (34 + 4 * k)) (σ.1 1) (σ.1 (35 + 4 * k)) b (ar k)) t → ∀ ls : Array Slot, lv_has ls 7 [(0, .ref (α 0)), (2, .int b), (3, .ref (α (32 + 4 * k))), (4, .int co), (5, .int fo), (6, .int (nI (ar k + t)))] → W p l e ({ frames := 2, cells := 0, slots := 0, locals := 43 } : Room) s m args below meth c s.heap [] 0 0 (MQ below (vp_Si (fun r => r = spq n a (-1) (fun k => if ¬ b < 0 ∧ ¬ 2 < b then smI (shG (σ.1 (34 + 4 * k)) (σ.1 1) (σ.1 (35 + 4 * k)) b (ar k)) (en k - ar k) else (-1)))) args s 0 0 (fun _ => False)) (F0 m 33 ls []) := by
  have hx := X.1.1
  have hb := X.1.2.1
  intro fu
  induction fu with
  | zero =>
    intro k t co fo hfu hk hbb hka ht h1 h2
    exact absurd hfu (by omega)
  | succ fu ih =>
    intro k t co fo hfu hk hbb hka ht h1 h2 ls hl
    have hedk := hed k hk
    refine lv_iload hx hb dX4_shared_33 (lv_at hl 5 rfl) ?_
    refine lv_aload_n hx hb dX4_shared_35 rfl (lv_at hl 0 rfl) ?_
    refine lv_aload_n hx hb dX4_shared_36 rfl (lv_at hl 2 rfl) ?_
    refine w_vSi X I 0 (by omega) rfl rfl (As := [.ref (α (32 + 4 * k))]) (rest := [.int (nI (ar k + t))]) (ctX4_lastDayOf l g α N σ k d (by omega) hd hd200) (wM_V kmX4_161 ki_X4_lastDayOf ks_X4_lastDayOf kn_X4 kc_X4_lastDayOf) rfl rfl (n := 1) (by decide +kernel) rfl ⟨by decide, by decide⟩ hl.1 rfl (Nat.le_of_ble_eq_true rfl) ⟨Nat.zero_le _, Nat.zero_le _⟩ dX4_shared_37 (fun r_37 q_37 => ?_)
    replace q_37 : r_37 = if ¬ σ.1 (32 + 4 * k) 9 = (-9) then σ.1 (32 + 4 * k) 9 else nI d - 1 := q_37
    subst q_37
    refine w_eqi (hlast k hk) ?_
    refine lv_icmp_gt (tgt := 87) hx hb dX4_shared_40 (by decide) (fun c_40 => ?_) (fun c_40 => ?_)
    ·
      have e : ar k + t = en k := by have := (m1_lt (by omega) (by omega)).mp c_40; omega
      refine lv_iload hx hb dX4_shared_87 (lv_at hl 4 rfl) ?_
      exact w_iretS X hr hlk (by first | exact (spq_bad hbad).symm | (rw [spq_ok hk (by omega), if_neg p_13]; done) | (rw [hka, spq_ok hk (by omega), if_pos hbb, h2, ← e, Nat.add_sub_cancel_left])) dX4_shared_89
    ·
      have hlt : ar k + t < en k := Nat.lt_of_not_le (fun z => c_40 ((m1_lt (by omega) (by omega)).mpr z))
      refine lv_aload_n hx hb dX4_shared_43 rfl (lv_at hl 0 rfl) ?_
      refine lv_aload_n hx hb dX4_shared_44 rfl (lv_at hl 2 rfl) ?_
      refine lv_iload hx hb dX4_shared_45 (lv_at hl 5 rfl) ?_
      refine w_vSi X I 0 (by omega) rfl rfl (As := [.ref (α (32 + 4 * k)), .int (nI (ar k + t))]) (rest := []) (ctX4_counts l g α N σ k (ar k + t) (by omega) (by have := hed k hk; omega)) (wM_V kmX4_164 ki_X4_counts ks_X4_counts kn_X4 kc_X4_counts) rfl rfl (n := 2) (by decide +kernel) rfl ⟨by decide, by decide⟩ hl.1 rfl (Nat.le_of_ble_eq_true rfl) ⟨Nat.zero_le _, Nat.zero_le _⟩ dX4_shared_47 (fun r_47 q_47 => ?_)
      by_cases p_47 : cnP (σ.1 (34 + 4 * k)) (σ.1 1) (σ.1 (35 + 4 * k)) (ar k + t)
      ·
        obtain rfl : r_47 = 1 := Eq.trans q_47 (if_pos p_47)
        refine lv_if_eq (tgt := 81) hx hb dX4_shared_50 (by decide) (fun cc => absurd cc (by decide)) (fun _ => ?_)
        refine lv_iinc (v := co + 1) (lv' := [(4, .int (co + 1)), (0, .ref (α 0)), (2, .int b), (3, .ref (α (32 + 4 * k))), (5, .int fo), (6, .int (nI (ar k + t)))]) hx hb dX4_shared_53 hl (k := 3) rfl rfl (by decide) rfl (fun ls hl => ?_)
        refine lv_iload hx hb dX4_shared_56 (lv_at hl 0 rfl) ?_
        refine lv_aload_n hx hb dX4_shared_58 rfl (lv_at hl 3 rfl) ?_
        refine fg3_4 X I k (by omega) kfX4_146 dX4_shared_59 ?_
        refine lv_iconst (v := 0) hx hb dX4_shared_62 (by decide) ?_
        refine w_ld X I (34 + 4 * k) (by omega) (n := 6) (k := 0) (fun _ _ _ => wc_terms g α k _ _ _) rfl (by decide) (by decide) dX4_shared_63 ?_
        refine lv_icmp_le (tgt := 81) hx hb dX4_shared_64 (by decide) (fun c_64 => ?_) (fun c_64 => ?_)
        ·
          have hlay : ¬ σ.1 (34 + 4 * k) 0 < smI (inF (σ.1 (34 + 4 * k)) (σ.1 1) (σ.1 (35 + 4 * k)) (ar k)) (t + 1) := by rw [smI, inF, if_pos p_47, ← h1]; exact Int32.not_lt.mpr c_64
          refine lv_iinc (v := nI ((ar k + t) + 1)) (lv' := [(6, .int (nI ((ar k + t) + 1))), (4, .int (co + 1)), (0, .ref (α 0)), (2, .int b), (3, .ref (α (32 + 4 * k))), (5, .int fo)]) hx hb dX4_shared_81 hl (k := 5) rfl (nI_1 _) (by decide) rfl (fun ls hl => ?_)
          refine lv_goto (tgt := 33) hx hb dX4_shared_84 (by decide) ?_
          exact ih k (t + 1) (co + 1) fo (by omega) hk hbb hka (by omega) (by rw [h1, smI, inF]; first | rw [if_pos p_47] | (rw [if_neg p_47]; simp)) (by rw [h2, smI, shG]; first | (rw [if_pos ⟨p_47, hlay, c_75⟩]; done) | (rw [if_neg (fun z => c_75 z.2.2)]; simp; done) | (rw [if_neg (fun z => hlay z.2.1)]; simp; done) | (rw [if_neg (fun z => p_47 z.1)]; simp; done)) ls (lv_sub hl [2, 3, 4, 1, 5, 0] rfl)
        ·
          have hlay : σ.1 (34 + 4 * k) 0 < smI (inF (σ.1 (34 + 4 * k)) (σ.1 1) (σ.1 (35 + 4 * k)) (ar k)) (t + 1) := by rw [smI, inF, if_pos p_47, ← h1]; exact Int32.not_le.mp c_64
          refine lv_aload_n hx hb dX4_shared_67 rfl (lv_at hl 1 rfl) ?_
          refine lv_aload_n hx hb dX4_shared_68 rfl (lv_at hl 3 rfl) ?_
          refine lv_iload hx hb dX4_shared_69 (lv_at hl 5 rfl) ?_
          refine w_vSi X I 0 (by omega) rfl rfl (As := [.ref (α (32 + 4 * k)), .int (nI (ar k + t))]) (rest := []) (ctX4_shareOf l g α N σ k (ar k + t) (by omega) (by have := hed k hk; omega)) (wM_V kmX4_168 ki_X4_shareOf ks_X4_shareOf kn_X4 kc_X4_shareOf) rfl rfl (n := 2) (by decide +kernel) rfl ⟨by decide, by decide⟩ hl.1 rfl (Nat.le_of_ble_eq_true rfl) ⟨Nat.zero_le _, Nat.zero_le _⟩ dX4_shared_71 (fun r_71 q_71 => ?_)
          replace q_71 : r_71 = shF (σ.1 1) (σ.1 (35 + 4 * k)) (ar k + t) := q_71
          subst q_71
          refine lv_iload_n hx hb dX4_shared_74 rfl (lv_at hl 2 rfl) ?_
          refine lv_icmp_ne (tgt := 81) hx hb dX4_shared_75 (by decide) (fun c_75 => ?_) (fun c_75 => ?_)
          ·
            refine lv_iinc (v := nI ((ar k + t) + 1)) (lv' := [(6, .int (nI ((ar k + t) + 1))), (4, .int (co + 1)), (0, .ref (α 0)), (2, .int b), (3, .ref (α (32 + 4 * k))), (5, .int fo)]) hx hb dX4_shared_81 hl (k := 5) rfl (nI_1 _) (by decide) rfl (fun ls hl => ?_)
            refine lv_goto (tgt := 33) hx hb dX4_shared_84 (by decide) ?_
            exact ih k (t + 1) (co + 1) fo (by omega) hk hbb hka (by omega) (by rw [h1, smI, inF]; first | rw [if_pos p_47] | (rw [if_neg p_47]; simp)) (by rw [h2, smI, shG]; first | (rw [if_pos ⟨p_47, hlay, c_75⟩]; done) | (rw [if_neg (fun z => c_75 z.2.2)]; simp; done) | (rw [if_neg (fun z => hlay z.2.1)]; simp; done) | (rw [if_neg (fun z => p_47 z.1)]; simp; done)) ls (lv_sub hl [2, 3, 4, 1, 5, 0] rfl)
          ·
            refine lv_iinc (v := fo + 1) (lv' := [(5, .int (fo + 1)), (4, .int (co + 1)), (0, .ref (α 0)), (2, .int b), (3, .ref (α (32 + 4 * k))), (6, .int (nI (ar k + t)))]) hx hb dX4_shared_78 hl (k := 4) rfl rfl (by decide) rfl (fun ls hl => ?_)
            refine lv_iinc (v := nI ((ar k + t) + 1)) (lv' := [(6, .int (nI ((ar k + t) + 1))), (5, .int (fo + 1)), (4, .int (co + 1)), (0, .ref (α 0)), (2, .int b), (3, .ref (α (32 + 4 * k)))]) hx hb dX4_shared_81 hl (k := 5) rfl (nI_1 _) (by decide) rfl (fun ls hl => ?_)
            refine lv_goto (tgt := 33) hx hb dX4_shared_84 (by decide) ?_
            exact ih k (t + 1) (co + 1) (fo + 1) (by omega) hk hbb hka (by omega) (by rw [h1, smI, inF]; first | rw [if_pos p_47] | (rw [if_neg p_47]; simp)) (by rw [h2, smI, shG]; first | (rw [if_pos ⟨p_47, hlay, c_75⟩]; done) | (rw [if_neg (fun z => c_75 z.2.2)]; simp; done) | (rw [if_neg (fun z => hlay z.2.1)]; simp; done) | (rw [if_neg (fun z => p_47 z.1)]; simp; done)) ls (lv_sub hl [3, 4, 5, 2, 1, 0] rfl)
      ·
        obtain rfl : r_47 = 0 := Eq.trans q_47 (if_neg p_47)
        refine lv_if_eq (tgt := 81) hx hb dX4_shared_50 (by decide) (fun _ => ?_) (fun cc => absurd cc (by decide))
        refine lv_iinc (v := nI ((ar k + t) + 1)) (lv' := [(6, .int (nI ((ar k + t) + 1))), (0, .ref (α 0)), (2, .int b), (3, .ref (α (32 + 4 * k))), (4, .int co), (5, .int fo)]) hx hb dX4_shared_81 hl (k := 5) rfl (nI_1 _) (by decide) rfl (fun ls hl => ?_)
        refine lv_goto (tgt := 33) hx hb dX4_shared_84 (by decide) ?_
        exact ih k (t + 1) co fo (by omega) hk hbb hka (by omega) (by rw [h1, smI, inF]; first | rw [if_pos p_47] | (rw [if_neg p_47]; simp)) (by rw [h2, smI, shG]; first | (rw [if_pos ⟨p_47, hlay, c_75⟩]; done) | (rw [if_neg (fun z => c_75 z.2.2)]; simp; done) | (rw [if_neg (fun z => hlay z.2.1)]; simp; done) | (rw [if_neg (fun z => p_47 z.1)]; simp; done)) ls (lv_sub hl [1, 2, 3, 4, 5, 0] rfl)
set_option maxHeartbeats 4000000 in
set_option maxRecDepth 100000 in
theorem ctX4_shared (l : Launch) (g : wG) (α : Nat → Nat) (N : Nat) (σ : wS) (a b : Int32) (n d : Nat) (ar en : Nat → Nat) (hn : σ.1 0 7 = nI n) (hn10 : n ≤ 10) (hN : 32 + 4 * n ≤ N) (hd : σ.1 0 6 = nI d) (hd200 : d ≤ 200) (hR : ∀ k, k < n → σ.2.2 5 k = some (32 + 4 * k)) (hae : ∀ k, k < n → ar k ≤ en k) (hed : ∀ k, k < n → en k ≤ d) (har : ∀ k, k < n → σ.1 (32 + 4 * k) 2 = nI (ar k)) (hlast : ∀ k, k < n → (if ¬ σ.1 (32 + 4 * k) 9 = (-9) then σ.1 (32 + 4 * k) 9 else nI d - 1) = nI (en k) - 1) : Met l yX4_shared (wM yX4_shared cX4_shared 7 (some FieldType.int)) ({ frames := 2, cells := 0, slots := 0, locals := 43 } : Room) (wPc g α N σ [.ref (α 0), .int a, .int b]) (vp_Si (fun r => r = spq n a (-1) (fun k => if ¬ b < 0 ∧ ¬ 2 < b then smI (shG (σ.1 (34 + 4 * k)) (σ.1 1) (σ.1 (35 + 4 * k)) b (ar k)) (en k - ar k) else (-1)))) 0 0 (fun _ => False) := by
  refine w_enterS (by decide) (Nat.le_of_ble_eq_true rfl) (fun p e s m args below meth c X I hr hlk ls hl => ?_)
  have hx := X.1.1
  have hb := X.1.2.1
  have hl : lv_has ls 7 [(0, .ref (α 0)), (1, .int a), (2, .int b)] := hl
  refine lv_aload_n hx hb dX4_shared_0 rfl (lv_at hl 0 rfl) ?_
  refine lv_iload_n hx hb dX4_shared_1 rfl (lv_at hl 1 rfl) ?_
  refine w_vSq X I 0 (by omega) rfl rfl (As := [.int a]) (rest := []) (ctX4_shipNumbered l g α N σ a n hn hn10 hN hR) (wM_V kmX4_78 ki_X4_shipNumbered ks_X4_shipNumbered kn_X4 kc_X4_shipNumbered) rfl rfl (n := 1) (by decide +kernel) rfl ⟨by decide, by decide⟩ hl.1 rfl (Nat.le_of_ble_eq_true rfl) ⟨Nat.zero_le _, Nat.zero_le _⟩ dX4_shared_2 (fun r_2 q_2 => ?_)
  replace q_2 : (∀ k, k < n → a = nI k → r_2 = some (α (32 + 4 * k))) ∧ ((a < 0 ∨ nI n ≤ a) → r_2 = none) := q_2
  rcases ix2 a (n := n) (by omega) with hbad | ⟨k, hk, rfl⟩
  ·
    obtain rfl : r_2 = none := q_2.2 hbad
    refine w_eqv (y := .null) rfl ?_
    refine lv_astore_nN (lv' := [(3, .null), (0, .ref (α 0)), (1, .int a), (2, .int b)]) hx hb dX4_shared_5 rfl hl (by decide) rfl (fun ls hl => ?_)
    refine lv_aload_nN hx hb dX4_shared_6 rfl (lv_at hl 0 rfl) ?_
    refine lv_ifnullN (tgt := 19) hx hb dX4_shared_7 (by decide) ?_
    refine lv_iconst (v := (-1)) hx hb dX4_shared_19 (by decide) ?_
    exact w_iretS X hr hlk (by first | exact (spq_bad hbad).symm | (rw [spq_ok hk (by omega), if_neg p_13]; done) | (rw [hka, spq_ok hk (by omega), if_pos hbb, h2, ← e, Nat.add_sub_cancel_left])) dX4_shared_20
  ·
    obtain rfl : r_2 = some (α (32 + 4 * k)) := q_2.1 k hk rfl
    clear q_2
    refine w_eqv (y := .ref (α (32 + 4 * k))) rfl ?_
    refine lv_astore_n (lv' := [(3, .ref (α (32 + 4 * k))), (0, .ref (α 0)), (1, .int (nI k)), (2, .int b)]) hx hb dX4_shared_5 rfl hl (by decide) rfl (fun ls hl => ?_)
    refine lv_aload_n hx hb dX4_shared_6 rfl (lv_at hl 0 rfl) ?_
    refine lv_ifnull hx hb dX4_shared_7 ?_
    refine lv_iload_n hx hb dX4_shared_10 rfl (lv_at hl 3 rfl) ?_
    refine lv_iconst (v := 0) hx hb dX4_shared_11 (by decide) ?_
    refine lv_iconst (v := 2) hx hb dX4_shared_12 (by decide) ?_
    refine w_sSi X I (As := [.int b, .int 0, .int 2]) (rest := []) (ctX4_within l g α N σ _ _ _ ) (wM_S kmX4_57 kt_X4_within kn_X4 kc_X4_within) rfl rfl (n := 3) (by decide +kernel) rfl ⟨by decide, by decide⟩ hl.1 rfl (Nat.le_of_ble_eq_true rfl) ⟨Nat.zero_le _, Nat.zero_le _⟩ dX4_shared_13 (fun r_13 q_13 => ?_)
    by_cases p_13 : ¬ b < 0 ∧ ¬ 2 < b
    ·
      obtain rfl : r_13 = 1 := Eq.trans q_13 (if_pos p_13)
      refine lv_if_ne (tgt := 21) hx hb dX4_shared_16 (by decide) (fun _ => ?_) (fun cc => absurd cc (by decide))
      refine lv_iconst (v := 0) hx hb dX4_shared_21 (by decide) ?_
      refine lv_istore (lv' := [(4, .int 0), (3, .ref (α (32 + 4 * k))), (0, .ref (α 0)), (1, .int (nI k)), (2, .int b)]) hx hb dX4_shared_22 hl (by decide) rfl (fun ls hl => ?_)
      refine lv_iconst (v := 0) hx hb dX4_shared_24 (by decide) ?_
      refine lv_istore (lv' := [(5, .int 0), (4, .int 0), (3, .ref (α (32 + 4 * k))), (0, .ref (α 0)), (1, .int (nI k)), (2, .int b)]) hx hb dX4_shared_25 hl (by decide) rfl (fun ls hl => ?_)
      refine lv_aload_n hx hb dX4_shared_27 rfl (lv_at hl 2 rfl) ?_
      refine fg3_2 X I k (by omega) kfX4_95 dX4_shared_28 ?_
      refine w_eqi (har k hk) ?_
      refine lv_istore (lv' := [(6, .int (nI (ar k))), (5, .int 0), (4, .int 0), (3, .ref (α (32 + 4 * k))), (0, .ref (α 0)), (1, .int (nI k)), (2, .int b)]) hx hb dX4_shared_31 hl (by decide) rfl (fun ls hl => ?_)
      exact lpX4_shared_33 (nI k) b n d ar en X I hr hlk hn hn10 hN hd hd200 hR hae hed har hlast  (en k + 1) k 0 0 0 (by omega) hk p_13 rfl (by have := hae k hk; omega) rfl rfl ls (lv_sub hl [4, 6, 3, 2, 1, 0] rfl)
    ·
      obtain rfl : r_13 = 0 := Eq.trans q_13 (if_neg p_13)
      refine lv_if_ne (tgt := 21) hx hb dX4_shared_16 (by decide) (fun cc => absurd cc (by decide)) (fun _ => ?_)
      refine lv_iconst (v := (-1)) hx hb dX4_shared_19 (by decide) ?_
      exact w_iretS X hr hlk (by first | exact (spq_bad hbad).symm | (rw [spq_ok hk (by omega), if_neg p_13]; done) | (rw [hka, spq_ok hk (by omega), if_pos hbb, h2, ← e, Nat.add_sub_cancel_left])) dX4_shared_20
end
