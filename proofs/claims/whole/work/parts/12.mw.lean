section
variable {l : Launch} {g : wG} {α : Nat → Nat} {N : Nat} {σ : wS} {p : Program} {e : Env} {s : State} {m : MethodId} {args : Array Value} {below : List Frame} {meth : Method} {c : Code}
set_option maxHeartbeats 4000000 in
set_option maxRecDepth 100000 in
theorem ctX5_layer (l : Launch) (g : wG) (α : Nat → Nat) (N : Nat) (σ : wS) (sz : Nat) (t w : Int32) (ly : Nat) (hN : 32 ≤ N) (hz : σ.1 14 4 = nI ly) (hly : ly ≤ 6) : Met l yX5_layer (wM yX5_layer cX5_layer 3 (some FieldType.int)) ({ frames := 1, cells := 0, slots := 0, locals := 22 } : Room) (wPs g α N sz σ [.ref (α 14), .int t, .int w]) (va_Qi (fun r τ => (r, τ) = mLaF σ ly t w) (wB g α N) (wA α N sz)) 0 0 (wA α N sz) := by
  refine w_enter (by decide) (Nat.le_of_ble_eq_true rfl) (fun p e s m args below meth c hsz X I hr hlk ls hl => ?_)
  have hA : ∀ q, s.heap.size ≤ q → wA α N sz q := fun q h => Or.inr (by omega)
  have hx := X.1.1
  have hb := X.1.2.1
  have hl : lv_has ls 3 [(0, .ref (α 14)), (1, .int t), (2, .int w)] := hl
  refine lv_aload_n hx hb dX5_layer_0 rfl (lv_at hl 0 rfl) ?_
  refine lv_iconst (v := 0) hx hb dX5_layer_1 (by decide) ?_
  refine fp5_0 X I (by omega) kfX5_66 dX5_layer_2 (fun H locs I => ?_)
  refine lv_iload_n hx hb dX5_layer_5 rfl (lv_at hl 1 rfl) ?_
  refine lv_iconst (v := 1) hx hb dX5_layer_6 (by decide) ?_
  refine lv_sipush (v := 5000) hx hb dX5_layer_7 (by decide) ?_
  refine w_sSi X I (As := [.int t, .int 1, .int 5000]) (rest := []) (ctX5_in l g α N (wu σ 14 0 0) _ _ _ ) (wM_S kmX5_69 kt_X5_in kn_X5 kc_X5_in) rfl rfl (n := 3) (by decide +kernel) rfl ⟨by decide, by decide⟩ hl.1 rfl (Nat.le_of_ble_eq_true rfl) ⟨Nat.zero_le _, Nat.zero_le _⟩ dX5_layer_10 (fun r_10 q_10 => ?_)
  by_cases p_10 : ¬ t < 1 ∧ ¬ 5000 < t
  ·
    obtain rfl : r_10 = 1 := Eq.trans q_10 (if_pos p_10)
    refine lv_if_eq (tgt := 26) hx hb dX5_layer_13 (by decide) (fun cc => absurd cc (by decide)) (fun _ => ?_)
    refine lv_iload_n hx hb dX5_layer_16 rfl (lv_at hl 2 rfl) ?_
    refine lv_iconst (v := 1) hx hb dX5_layer_17 (by decide) ?_
    refine lv_bipush (v := 100) hx hb dX5_layer_18 (by decide) ?_
    refine w_sSi X I (As := [.int w, .int 1, .int 100]) (rest := []) (ctX5_in l g α N (wu σ 14 0 0) _ _ _ ) (wM_S kmX5_69 kt_X5_in kn_X5 kc_X5_in) rfl rfl (n := 3) (by decide +kernel) rfl ⟨by decide, by decide⟩ hl.1 rfl (Nat.le_of_ble_eq_true rfl) ⟨Nat.zero_le _, Nat.zero_le _⟩ dX5_layer_20 (fun r_20 q_20 => ?_)
    by_cases p_20 : ¬ w < 1 ∧ ¬ 100 < w
    ·
      obtain rfl : r_20 = 1 := Eq.trans q_20 (if_pos p_20)
      refine lv_if_ne (tgt := 28) hx hb dX5_layer_23 (by decide) (fun _ => ?_) (fun cc => absurd cc (by decide))
      refine lv_aload_n hx hb dX5_layer_28 rfl (lv_at hl 0 rfl) ?_
      refine fg5_4 X I (by omega) kfX5_73 dX5_layer_29 ?_
      refine w_eqi (y := σ.1 14 4) (wu_d (by decide)) ?_
      refine w_eqi (y := nI ly) hz ?_
      refine lv_bipush (v := 6) hx hb dX5_layer_32 (by decide) ?_
      refine lv_icmp_ne (tgt := 40) hx hb dX5_layer_34 (by decide) (fun c_34 => ?_) (fun c_34 => ?_)
      ·
        have c_34 : nI ly < 6 := (lt_six hly).mpr c_34
        have hly : ly < 6 := nI_lt' (b := 6) c_34 (by omega) (by decide)
        refine lv_aload_n hx hb dX5_layer_40 rfl (lv_at hl 0 rfl) ?_
        refine fg5_5 X I (by omega) kfX5_13 dX5_layer_41 ?_
        refine lv_aload_n hx hb dX5_layer_44 rfl (lv_at hl 0 rfl) ?_
        refine fg5_4 X I (by omega) kfX5_73 dX5_layer_45 ?_
        refine w_eqi (y := σ.1 14 4) (wu_d (by decide)) ?_
        refine w_eqi (y := nI ly) hz ?_
        refine lv_iload_n hx hb dX5_layer_48 rfl (lv_at hl 1 rfl) ?_
        refine w_st X I 16 (by omega) (n := 6) (k := ly) (fun _ _ _ => rfl) rfl (by omega) (by decide) dX5_layer_49 (fun H locs I => ?_)
        refine lv_aload_n hx hb dX5_layer_50 rfl (lv_at hl 0 rfl) ?_
        refine fg5_6 X I (by omega) kfX5_16 dX5_layer_51 ?_
        refine lv_aload_n hx hb dX5_layer_54 rfl (lv_at hl 0 rfl) ?_
        refine fg5_4 X I (by omega) kfX5_73 dX5_layer_55 ?_
        refine w_eqi (y := σ.1 14 4) ((wu_o (by decide)).trans (wu_d (by decide))) ?_
        refine w_eqi (y := nI ly) hz ?_
        refine lv_iload_n hx hb dX5_layer_58 rfl (lv_at hl 2 rfl) ?_
        refine w_st X I 17 (by omega) (n := 6) (k := ly) (fun _ _ _ => rfl) rfl (by omega) (by decide) dX5_layer_59 (fun H locs I => ?_)
        refine lv_aload_n hx hb dX5_layer_60 rfl (lv_at hl 0 rfl) ?_
        refine lv_dup hx hb dX5_layer_61 rfl ?_
        refine fg5_4 X I (by omega) kfX5_73 dX5_layer_62 ?_
        refine w_eqi (y := σ.1 14 4) (((wu_o (by decide)).trans (wu_o (by decide))).trans (wu_d (by decide))) ?_
        refine w_eqi (y := nI ly) hz ?_
        refine lv_iconst (v := 1) hx hb dX5_layer_65 (by decide) ?_
        refine lv_iadd hx hb dX5_layer_66 ?_
        refine w_eqi (y := nI (ly + 1)) (nI_1 _) ?_
        refine fp5_4 X I (by omega) kfX5_73 dX5_layer_67 (fun H locs I => ?_)
        refine lv_aload_n hx hb dX5_layer_70 rfl (lv_at hl 0 rfl) ?_
        refine fg5_4 X I (by omega) kfX5_73 dX5_layer_71 ?_
        refine w_eqi (y := nI (ly + 1)) wu_s ?_
        refine lv_iconst (v := 1) hx hb dX5_layer_74 (by decide) ?_
        refine lv_isub hx hb dX5_layer_75 ?_
        refine w_eqi (y := nI ly) (nI_pred _) ?_
        exact w_iret X I hr hlk (by first | (rw [mLaF, if_neg p_10]; done) | (rw [mLaF, if_pos p_10, if_neg p_20]; done) | (rw [mLaF, if_pos p_10, if_pos p_20, if_neg c_34]; done) | (rw [mLaF, if_pos p_10, if_pos p_20, if_pos c_34]; done)) dX5_layer_76
      ·
        have c_34 : ¬ nI ly < 6 := fun z => (lt_six hly).mp z c_34
        refine lv_bipush (v := (-3)) hx hb dX5_layer_37 (by decide) ?_
        exact w_iret X I hr hlk (by first | (rw [mLaF, if_neg p_10]; done) | (rw [mLaF, if_pos p_10, if_neg p_20]; done) | (rw [mLaF, if_pos p_10, if_pos p_20, if_neg c_34]; done) | (rw [mLaF, if_pos p_10, if_pos p_20, if_pos c_34]; done)) dX5_layer_39
    ·
      obtain rfl : r_20 = 0 := Eq.trans q_20 (if_neg p_20)
      refine lv_if_ne (tgt := 28) hx hb dX5_layer_23 (by decide) (fun cc => absurd cc (by decide)) (fun _ => ?_)
      refine lv_iconst (v := (-1)) hx hb dX5_layer_26 (by decide) ?_
      exact w_iret X I hr hlk (by first | (rw [mLaF, if_neg p_10]; done) | (rw [mLaF, if_pos p_10, if_neg p_20]; done) | (rw [mLaF, if_pos p_10, if_pos p_20, if_neg c_34]; done) | (rw [mLaF, if_pos p_10, if_pos p_20, if_pos c_34]; done)) dX5_layer_27
  ·
    obtain rfl : r_10 = 0 := Eq.trans q_10 (if_neg p_10)
    refine lv_if_eq (tgt := 26) hx hb dX5_layer_13 (by decide) (fun _ => ?_) (fun cc => absurd cc (by decide))
    refine lv_iconst (v := (-1)) hx hb dX5_layer_26 (by decide) ?_
    exact w_iret X I hr hlk (by first | (rw [mLaF, if_neg p_10]; done) | (rw [mLaF, if_pos p_10, if_neg p_20]; done) | (rw [mLaF, if_pos p_10, if_pos p_20, if_neg c_34]; done) | (rw [mLaF, if_pos p_10, if_pos p_20, if_pos c_34]; done)) dX5_layer_27
end
section
variable {l : Launch} {g : wG} {α : Nat → Nat} {N : Nat} {σ : wS} {p : Program} {e : Env} {s : State} {m : MethodId} {args : Array Value} {below : List Frame} {meth : Method} {c : Code}
set_option maxHeartbeats 4000000 in
set_option maxRecDepth 100000 in
theorem ctX5_swell (l : Launch) (g : wG) (α : Nat → Nat) (N : Nat) (σ : wS) (sz : Nat) (a b : Int32) (d : Nat) (hN : 32 ≤ N) (hd : σ.1 14 2 = nI d) (hd200 : d ≤ 200) : Met l yX5_swell (wM yX5_swell cX5_swell 4 (some FieldType.int)) ({ frames := 1, cells := 0, slots := 0, locals := 22 } : Room) (wPs g α N sz σ [.ref (α 14), .int a, .int b]) (va_Qi (fun r τ => (r, τ) = mSwF σ d a b) (wB g α N) (wA α N sz)) 0 0 (wA α N sz) := by
  refine w_enter (by decide) (Nat.le_of_ble_eq_true rfl) (fun p e s m args below meth c hsz X I hr hlk ls hl => ?_)
  have hA : ∀ q, s.heap.size ≤ q → wA α N sz q := fun q h => Or.inr (by omega)
  have hx := X.1.1
  have hb := X.1.2.1
  have hl : lv_has ls 4 [(0, .ref (α 14)), (1, .int a), (2, .int b)] := hl
  refine lv_aload_n hx hb dX5_swell_0 rfl (lv_at hl 0 rfl) ?_
  refine lv_iconst (v := 0) hx hb dX5_swell_1 (by decide) ?_
  refine fp5_0 X I (by omega) kfX5_66 dX5_swell_2 (fun H locs I => ?_)
  refine lv_iload_n hx hb dX5_swell_5 rfl (lv_at hl 1 rfl) ?_
  refine lv_aload_n hx hb dX5_swell_6 rfl (lv_at hl 0 rfl) ?_
  refine fg5_2 X I (by omega) kfX5_76 dX5_swell_7 ?_
  refine w_eqi (y := σ.1 14 2) (wu_d (by decide)) ?_
  refine w_eqi (y := nI d) hd ?_
  refine lv_sipush (v := 200) hx hb dX5_swell_10 (by decide) ?_
  refine w_sSi X I (As := [.int a, .int (nI d), .int 200]) (rest := []) (ctX5_in l g α N (wu σ 14 0 0) _ _ _ ) (wM_S kmX5_69 kt_X5_in kn_X5 kc_X5_in) rfl rfl (n := 3) (by decide +kernel) rfl ⟨by decide, by decide⟩ hl.1 rfl (Nat.le_of_ble_eq_true rfl) ⟨Nat.zero_le _, Nat.zero_le _⟩ dX5_swell_13 (fun r_13 q_13 => ?_)
  by_cases p_13 : ¬ a < (nI d) ∧ ¬ 200 < a
  ·
    obtain rfl : r_13 = 1 := Eq.trans q_13 (if_pos p_13)
    refine lv_if_eq (tgt := 29) hx hb dX5_swell_16 (by decide) (fun cc => absurd cc (by decide)) (fun _ => ?_)
    refine lv_iload_n hx hb dX5_swell_19 rfl (lv_at hl 2 rfl) ?_
    refine lv_iconst (v := 0) hx hb dX5_swell_20 (by decide) ?_
    refine lv_bipush (v := 9) hx hb dX5_swell_21 (by decide) ?_
    refine w_sSi X I (As := [.int b, .int 0, .int 9]) (rest := []) (ctX5_in l g α N (wu σ 14 0 0) _ _ _ ) (wM_S kmX5_69 kt_X5_in kn_X5 kc_X5_in) rfl rfl (n := 3) (by decide +kernel) rfl ⟨by decide, by decide⟩ hl.1 rfl (Nat.le_of_ble_eq_true rfl) ⟨Nat.zero_le _, Nat.zero_le _⟩ dX5_swell_23 (fun r_23 q_23 => ?_)
    by_cases p_23 : ¬ b < 0 ∧ ¬ 9 < b
    ·
      obtain rfl : r_23 = 1 := Eq.trans q_23 (if_pos p_23)
      obtain ⟨k, hk1, hk2, rfl⟩ := sw_k hd200 p_13
      refine lv_if_ne (tgt := 31) hx hb dX5_swell_26 (by decide) (fun _ => ?_) (fun cc => absurd cc (by decide))
      refine lv_aload_n hx hb dX5_swell_31 rfl (lv_at hl 0 rfl) ?_
      refine fg5_3 X I (by omega) kfX5_7 dX5_swell_32 ?_
      refine lv_iload_n hx hb dX5_swell_35 rfl (lv_at hl 1 rfl) ?_
      refine w_ld X I 15 (by omega) (n := 201) (k := k) (fun _ _ _ => rfl) rfl (by omega) (by decide) dX5_swell_36 ?_
      refine w_eqi (y := σ.1 15 k) (wu_o (by decide)) ?_
      refine lv_istore_n (lv' := [(3, .int (σ.1 15 k)), (0, .ref (α 14)), (1, .int (nI k)), (2, .int b)]) hx hb dX5_swell_37 rfl hl (by decide) rfl (fun ls hl => ?_)
      refine lv_aload_n hx hb dX5_swell_38 rfl (lv_at hl 1 rfl) ?_
      refine fg5_3 X I (by omega) kfX5_7 dX5_swell_39 ?_
      refine lv_iload_n hx hb dX5_swell_42 rfl (lv_at hl 2 rfl) ?_
      refine lv_iload_n hx hb dX5_swell_43 rfl (lv_at hl 3 rfl) ?_
      refine w_st X I 15 (by omega) (n := 201) (k := k) (fun _ _ _ => rfl) rfl (by omega) (by decide) dX5_swell_44 (fun H locs I => ?_)
      refine lv_iload_n hx hb dX5_swell_45 rfl (lv_at hl 0 rfl) ?_
      exact w_iret X I hr hlk (by first | (rw [mSwF, if_neg p_13]; done) | (rw [mSwF, if_pos p_13, if_neg p_23]; done) | (rw [mSwF, if_pos p_13, if_pos p_23, nI_clamp (by omega)]; done)) dX5_swell_46
    ·
      obtain rfl : r_23 = 0 := Eq.trans q_23 (if_neg p_23)
      refine lv_if_ne (tgt := 31) hx hb dX5_swell_26 (by decide) (fun cc => absurd cc (by decide)) (fun _ => ?_)
      refine lv_iconst (v := (-1)) hx hb dX5_swell_29 (by decide) ?_
      exact w_iret X I hr hlk (by first | (rw [mSwF, if_neg p_13]; done) | (rw [mSwF, if_pos p_13, if_neg p_23]; done) | (rw [mSwF, if_pos p_13, if_pos p_23, nI_clamp (by omega)]; done)) dX5_swell_30
  ·
    obtain rfl : r_13 = 0 := Eq.trans q_13 (if_neg p_13)
    refine lv_if_eq (tgt := 29) hx hb dX5_swell_16 (by decide) (fun _ => ?_) (fun cc => absurd cc (by decide))
    refine lv_iconst (v := (-1)) hx hb dX5_swell_29 (by decide) ?_
    exact w_iret X I hr hlk (by first | (rw [mSwF, if_neg p_13]; done) | (rw [mSwF, if_pos p_13, if_neg p_23]; done) | (rw [mSwF, if_pos p_13, if_pos p_23, nI_clamp (by omega)]; done)) dX5_swell_30
end
section
variable {l : Launch} {g : wG} {α : Nat → Nat} {N : Nat} {σ : wS} {p : Program} {e : Env} {s : State} {m : MethodId} {args : Array Value} {below : List Frame} {meth : Method} {c : Code}
set_option maxHeartbeats 4000000 in
set_option maxRecDepth 100000 in
theorem ctX5_delay (l : Launch) (g : wG) (α : Nat → Nat) (N : Nat) (σ : wS) (sz : Nat) (a : Int32) (hN : 32 ≤ N) : Met l yX5_delay (wM yX5_delay cX5_delay 3 (some FieldType.int)) ({ frames := 1, cells := 0, slots := 0, locals := 22 } : Room) (wPs g α N sz σ [.ref (α 14), .int a]) (va_Qi (fun r τ => (r, τ) = if ¬ a < 0 ∧ ¬ 60 < a then (σ.1 14 18, wu (wu σ 14 0 0) 14 18 a) else ((-1), wu σ 14 0 0)) (wB g α N) (wA α N sz)) 0 0 (wA α N sz) := by
  refine w_enter (by decide) (Nat.le_of_ble_eq_true rfl) (fun p e s m args below meth c hsz X I hr hlk ls hl => ?_)
  have hA : ∀ q, s.heap.size ≤ q → wA α N sz q := fun q h => Or.inr (by omega)
  have hx := X.1.1
  have hb := X.1.2.1
  have hl : lv_has ls 3 [(0, .ref (α 14)), (1, .int a)] := hl
  refine lv_aload_n hx hb dX5_delay_0 rfl (lv_at hl 0 rfl) ?_
  refine lv_iconst (v := 0) hx hb dX5_delay_1 (by decide) ?_
  refine fp5_0 X I (by omega) kfX5_66 dX5_delay_2 (fun H locs I => ?_)
  refine lv_iload_n hx hb dX5_delay_5 rfl (lv_at hl 1 rfl) ?_
  refine lv_iconst (v := 0) hx hb dX5_delay_6 (by decide) ?_
  refine lv_bipush (v := 60) hx hb dX5_delay_7 (by decide) ?_
  refine w_sSi X I (As := [.int a, .int 0, .int 60]) (rest := []) (ctX5_in l g α N (wu σ 14 0 0) _ _ _ ) (wM_S kmX5_69 kt_X5_in kn_X5 kc_X5_in) rfl rfl (n := 3) (by decide +kernel) rfl ⟨by decide, by decide⟩ hl.1 rfl (Nat.le_of_ble_eq_true rfl) ⟨Nat.zero_le _, Nat.zero_le _⟩ dX5_delay_9 (fun r_9 q_9 => ?_)
  by_cases p_9 : ¬ a < 0 ∧ ¬ 60 < a
  ·
    obtain rfl : r_9 = 1 := Eq.trans q_9 (if_pos p_9)
    refine lv_if_ne (tgt := 17) hx hb dX5_delay_12 (by decide) (fun _ => ?_) (fun cc => absurd cc (by decide))
    refine lv_aload_n hx hb dX5_delay_17 rfl (lv_at hl 0 rfl) ?_
    refine fg5_18 X I (by omega) kfX5_49 dX5_delay_18 ?_
    refine w_eqi (y := σ.1 14 18) (wu_d (by decide)) ?_
    refine lv_istore_n (lv' := [(2, .int (σ.1 14 18)), (0, .ref (α 14)), (1, .int a)]) hx hb dX5_delay_21 rfl hl (by decide) rfl (fun ls hl => ?_)
    refine lv_aload_n hx hb dX5_delay_22 rfl (lv_at hl 1 rfl) ?_
    refine lv_iload_n hx hb dX5_delay_23 rfl (lv_at hl 2 rfl) ?_
    refine fp5_18 X I (by omega) kfX5_49 dX5_delay_24 (fun H locs I => ?_)
    refine lv_iload_n hx hb dX5_delay_27 rfl (lv_at hl 0 rfl) ?_
    exact w_iret X I hr hlk (by first | exact (if_pos p_9).symm | exact (if_neg p_9).symm) dX5_delay_28
  ·
    obtain rfl : r_9 = 0 := Eq.trans q_9 (if_neg p_9)
    refine lv_if_ne (tgt := 17) hx hb dX5_delay_12 (by decide) (fun cc => absurd cc (by decide)) (fun _ => ?_)
    refine lv_iconst (v := (-1)) hx hb dX5_delay_15 (by decide) ?_
    exact w_iret X I hr hlk (by first | exact (if_pos p_9).symm | exact (if_neg p_9).symm) dX5_delay_16
end
section
variable {l : Launch} {g : wG} {α : Nat → Nat} {N : Nat} {σ : wS} {p : Program} {e : Env} {s : State} {m : MethodId} {args : Array Value} {below : List Frame} {meth : Method} {c : Code}
set_option maxHeartbeats 4000000 in
set_option maxRecDepth 100000 in
theorem ctX5_boat (l : Launch) (g : wG) (α : Nat → Nat) (N : Nat) (σ : wS) (sz : Nat) (a b : Int32) (n : Nat) (hn : σ.1 14 7 = nI n) (hn10 : n ≤ 10) (hN : 32 ≤ N) : Met l yX5_boat (wM yX5_boat cX5_boat 3 (some FieldType.int)) ({ frames := 2, cells := 0, slots := 0, locals := 43 } : Room) (wPs g α N sz σ [.ref (α 14), .int a, .int b]) (va_Qi (fun r τ => (r, τ) = spQ n a ((-1), wu σ 14 0 0) (fun k => mBoF σ k b)) (wB g α N) (wA α N sz)) 0 0 (wA α N sz) := by
  refine w_enter (by decide) (Nat.le_of_ble_eq_true rfl) (fun p e s m args below meth c hsz X I hr hlk ls hl => ?_)
  have hA : ∀ q, s.heap.size ≤ q → wA α N sz q := fun q h => Or.inr (by omega)
  have hx := X.1.1
  have hb := X.1.2.1
  have hl : lv_has ls 3 [(0, .ref (α 14)), (1, .int a), (2, .int b)] := hl
  refine lv_aload_n hx hb dX5_boat_0 rfl (lv_at hl 0 rfl) ?_
  refine lv_iconst (v := 0) hx hb dX5_boat_1 (by decide) ?_
  refine fp5_0 X I (by omega) kfX5_66 dX5_boat_2 (fun H locs I => ?_)
  refine lv_aload_n hx hb dX5_boat_5 rfl (lv_at hl 0 rfl) ?_
  refine lv_iload_n hx hb dX5_boat_6 rfl (lv_at hl 1 rfl) ?_
  refine w_vSi X I 14 (by omega) rfl rfl (As := [.int a]) (rest := []) (ctX5_isShip l g α N (wu σ 14 0 0) a n hN hn) (wM_V kmX5_82 ki_X5_isShip ks_X5_isShip kn_X5 kc_X5_isShip) rfl rfl (n := 1) (by decide +kernel) rfl ⟨by decide, by decide⟩ hl.1 rfl (Nat.le_of_ble_eq_true rfl) ⟨Nat.zero_le _, Nat.zero_le _⟩ dX5_boat_7 (fun r_7 q_7 => ?_)
  by_cases p_7 : ¬ a < 0 ∧ ¬ nI n - 1 < a
  ·
    obtain rfl : r_7 = 1 := Eq.trans q_7 (if_pos p_7)
    obtain ⟨k, hk, rfl⟩ := m1_ok (n := n) (by omega) p_7
    refine lv_if_eq (tgt := 23) hx hb dX5_boat_10 (by decide) (fun cc => absurd cc (by decide)) (fun _ => ?_)
    refine lv_iload_n hx hb dX5_boat_13 rfl (lv_at hl 2 rfl) ?_
    refine lv_iconst (v := 1) hx hb dX5_boat_14 (by decide) ?_
    refine lv_bipush (v := 90) hx hb dX5_boat_15 (by decide) ?_
    refine w_sSi X I (As := [.int b, .int 1, .int 90]) (rest := []) (ctX5_in l g α N (wu σ 14 0 0) _ _ _ ) (wM_S kmX5_69 kt_X5_in kn_X5 kc_X5_in) rfl rfl (n := 3) (by decide +kernel) rfl ⟨by decide, by decide⟩ hl.1 rfl (Nat.le_of_ble_eq_true rfl) ⟨Nat.zero_le _, Nat.zero_le _⟩ dX5_boat_17 (fun r_17 q_17 => ?_)
    by_cases p_17 : ¬ b < 1 ∧ ¬ 90 < b
    ·
      obtain rfl : r_17 = 1 := Eq.trans q_17 (if_pos p_17)
      refine lv_if_ne (tgt := 25) hx hb dX5_boat_20 (by decide) (fun _ => ?_) (fun cc => absurd cc (by decide))
      refine lv_aload_n hx hb dX5_boat_25 rfl (lv_at hl 0 rfl) ?_
      refine lv_iload_n hx hb dX5_boat_26 rfl (lv_at hl 1 rfl) ?_
      refine w_vSi X I 14 (by omega) rfl rfl (As := [.int (nI k)]) (rest := []) (ctX5_isLoaded l g α N (wu σ 14 0 0) k hN (by omega)) (wM_V kmX5_98 ki_X5_isLoaded ks_X5_isLoaded kn_X5 kc_X5_isLoaded) rfl rfl (n := 1) (by decide +kernel) rfl ⟨by decide, by decide⟩ hl.1 rfl (Nat.le_of_ble_eq_true rfl) ⟨Nat.zero_le _, Nat.zero_le _⟩ dX5_boat_27 (fun r_27 q_27 => ?_)
      by_cases p_27 : ¬ σ.1 22 k = (-9)
      ·
        obtain rfl : r_27 = 1 := Eq.trans q_27 (if_pos p_27)
        refine lv_if_eq (tgt := 36) hx hb dX5_boat_30 (by decide) (fun cc => absurd cc (by decide)) (fun _ => ?_)
        refine lv_bipush (v := (-2)) hx hb dX5_boat_33 (by decide) ?_
        exact w_iret X I hr hlk (by first | exact (spQ_bad hbad).symm | (rw [spQ_ok hk (by omega), mBoF, if_neg p_17]; done) | (rw [spQ_ok hk (by omega), mBoF, if_pos p_17, if_pos p_27]; done) | (rw [spQ_ok hk (by omega), mBoF, if_pos p_17, if_neg p_27, if_pos c_51]; done) | (rw [spQ_ok hk (by omega), mBoF, if_pos p_17, if_neg p_27, if_neg c_51]; done)) dX5_boat_35
      ·
        obtain rfl : r_27 = 0 := Eq.trans q_27 (if_neg p_27)
        refine lv_if_eq (tgt := 36) hx hb dX5_boat_30 (by decide) (fun _ => ?_) (fun cc => absurd cc (by decide))
        refine lv_aload_n hx hb dX5_boat_36 rfl (lv_at hl 0 rfl) ?_
        refine fg5_11 X I (by omega) kfX5_28 dX5_boat_37 ?_
        refine lv_iload_n hx hb dX5_boat_40 rfl (lv_at hl 1 rfl) ?_
        refine lv_aload_n hx hb dX5_boat_41 rfl (lv_at hl 0 rfl) ?_
        refine fg5_11 X I (by omega) kfX5_28 dX5_boat_42 ?_
        refine lv_iload_n hx hb dX5_boat_45 rfl (lv_at hl 1 rfl) ?_
        refine w_ld X I 21 (by omega) (n := 10) (k := k) (fun _ _ _ => rfl) rfl (by omega) (by decide) dX5_boat_46 ?_
        refine w_eqi (y := σ.1 21 k) (wu_o (by decide)) ?_
        refine lv_iload_n hx hb dX5_boat_47 rfl (lv_at hl 2 rfl) ?_
        refine lv_iadd hx hb dX5_boat_48 ?_
        refine lv_bipush (v := 90) hx hb dX5_boat_49 (by decide) ?_
        refine lv_icmp_le (tgt := 59) hx hb dX5_boat_51 (by decide) (fun c_51 => ?_) (fun c_51 => ?_)
        ·
          have c_51 : σ.1 21 k + b ≤ 90 := c_51
          refine lv_aload_n hx hb dX5_boat_59 rfl (lv_at hl 0 rfl) ?_
          refine fg5_11 X I (by omega) kfX5_28 dX5_boat_60 ?_
          refine lv_iload_n hx hb dX5_boat_63 rfl (lv_at hl 1 rfl) ?_
          refine w_ld X I 21 (by omega) (n := 10) (k := k) (fun _ _ _ => rfl) rfl (by omega) (by decide) dX5_boat_64 ?_
          refine w_eqi (y := σ.1 21 k) (wu_o (by decide)) ?_
          refine lv_iload_n hx hb dX5_boat_65 rfl (lv_at hl 2 rfl) ?_
          refine lv_iadd hx hb dX5_boat_66 ?_
          refine w_st X I 21 (by omega) (n := 10) (k := k) (fun _ _ _ => rfl) rfl (by omega) (by decide) dX5_boat_67 (fun H locs I => ?_)
          refine lv_aload_n hx hb dX5_boat_68 rfl (lv_at hl 0 rfl) ?_
          refine fg5_11 X I (by omega) kfX5_28 dX5_boat_69 ?_
          refine lv_iload_n hx hb dX5_boat_72 rfl (lv_at hl 1 rfl) ?_
          refine w_ld X I 21 (by omega) (n := 10) (k := k) (fun _ _ _ => rfl) rfl (by omega) (by decide) dX5_boat_73 ?_
          refine w_eqi (y := (σ.1 21 k) + b) wu_s ?_
          exact w_iret X I hr hlk (by first | exact (spQ_bad hbad).symm | (rw [spQ_ok hk (by omega), mBoF, if_neg p_17]; done) | (rw [spQ_ok hk (by omega), mBoF, if_pos p_17, if_pos p_27]; done) | (rw [spQ_ok hk (by omega), mBoF, if_pos p_17, if_neg p_27, if_pos c_51]; done) | (rw [spQ_ok hk (by omega), mBoF, if_pos p_17, if_neg p_27, if_neg c_51]; done)) dX5_boat_74
        ·
          have c_51 : ¬ σ.1 21 k + b ≤ 90 := c_51
          refine lv_bipush (v := 90) hx hb dX5_boat_54 (by decide) ?_
          refine lv_goto (tgt := 67) hx hb dX5_boat_56 (by decide) ?_
          refine w_st X I 21 (by omega) (n := 10) (k := k) (fun _ _ _ => rfl) rfl (by omega) (by decide) dX5_boat_67 (fun H locs I => ?_)
          refine lv_aload_n hx hb dX5_boat_68 rfl (lv_at hl 0 rfl) ?_
          refine fg5_11 X I (by omega) kfX5_28 dX5_boat_69 ?_
          refine lv_iload_n hx hb dX5_boat_72 rfl (lv_at hl 1 rfl) ?_
          refine w_ld X I 21 (by omega) (n := 10) (k := k) (fun _ _ _ => rfl) rfl (by omega) (by decide) dX5_boat_73 ?_
          refine w_eqi (y := 90) wu_s ?_
          exact w_iret X I hr hlk (by first | exact (spQ_bad hbad).symm | (rw [spQ_ok hk (by omega), mBoF, if_neg p_17]; done) | (rw [spQ_ok hk (by omega), mBoF, if_pos p_17, if_pos p_27]; done) | (rw [spQ_ok hk (by omega), mBoF, if_pos p_17, if_neg p_27, if_pos c_51]; done) | (rw [spQ_ok hk (by omega), mBoF, if_pos p_17, if_neg p_27, if_neg c_51]; done)) dX5_boat_74
    ·
      obtain rfl : r_17 = 0 := Eq.trans q_17 (if_neg p_17)
      refine lv_if_ne (tgt := 25) hx hb dX5_boat_20 (by decide) (fun cc => absurd cc (by decide)) (fun _ => ?_)
      refine lv_iconst (v := (-1)) hx hb dX5_boat_23 (by decide) ?_
      exact w_iret X I hr hlk (by first | exact (spQ_bad hbad).symm | (rw [spQ_ok hk (by omega), mBoF, if_neg p_17]; done) | (rw [spQ_ok hk (by omega), mBoF, if_pos p_17, if_pos p_27]; done) | (rw [spQ_ok hk (by omega), mBoF, if_pos p_17, if_neg p_27, if_pos c_51]; done) | (rw [spQ_ok hk (by omega), mBoF, if_pos p_17, if_neg p_27, if_neg c_51]; done)) dX5_boat_24
  ·
    obtain rfl : r_7 = 0 := Eq.trans q_7 (if_neg p_7)
    have hbad := m1_bad (n := n) (by omega) p_7
    refine lv_if_eq (tgt := 23) hx hb dX5_boat_10 (by decide) (fun _ => ?_) (fun cc => absurd cc (by decide))
    refine lv_iconst (v := (-1)) hx hb dX5_boat_23 (by decide) ?_
    exact w_iret X I hr hlk (by first | exact (spQ_bad hbad).symm | (rw [spQ_ok hk (by omega), mBoF, if_neg p_17]; done) | (rw [spQ_ok hk (by omega), mBoF, if_pos p_17, if_pos p_27]; done) | (rw [spQ_ok hk (by omega), mBoF, if_pos p_17, if_neg p_27, if_pos c_51]; done) | (rw [spQ_ok hk (by omega), mBoF, if_pos p_17, if_neg p_27, if_neg c_51]; done)) dX5_boat_24
end
section
variable {l : Launch} {g : wG} {α : Nat → Nat} {N : Nat} {σ : wS} {p : Program} {e : Env} {s : State} {m : MethodId} {args : Array Value} {below : List Frame} {meth : Method} {c : Code}
set_option maxHeartbeats 4000000 in
set_option maxRecDepth 100000 in
theorem ctX5_clear (l : Launch) (g : wG) (α : Nat → Nat) (N : Nat) (σ : wS) (sz : Nat) (dr : Nat) (hN : 32 ≤ N) (hdr : σ.1 14 21 = nI dr) : Met l yX5_clear (wM yX5_clear cX5_clear 2 (some FieldType.int)) ({ frames := 0, cells := 0, slots := 0, locals := 0 } : Room) (wPs g α N sz σ [.ref (α 14)]) (va_Qi (fun r τ => r = nI dr ∧ τ = wu (wu σ 14 0 0) 14 21 0) (wB g α N) (wA α N sz)) 0 0 (wA α N sz) := by
  refine w_enter (by decide) (Nat.le_of_ble_eq_true rfl) (fun p e s m args below meth c hsz X I hr hlk ls hl => ?_)
  have hA : ∀ q, s.heap.size ≤ q → wA α N sz q := fun q h => Or.inr (by omega)
  have hx := X.1.1
  have hb := X.1.2.1
  have hl : lv_has ls 2 [(0, .ref (α 14))] := hl
  refine lv_aload_n hx hb dX5_clear_0 rfl (lv_at hl 0 rfl) ?_
  refine lv_iconst (v := 0) hx hb dX5_clear_1 (by decide) ?_
  refine fp5_0 X I (by omega) kfX5_66 dX5_clear_2 (fun H locs I => ?_)
  refine lv_aload_n hx hb dX5_clear_5 rfl (lv_at hl 0 rfl) ?_
  refine fg5_21 X I (by omega) kfX5_117 dX5_clear_6 ?_
  refine w_eqi (y := σ.1 14 21) (wu_d (by decide)) ?_
  refine w_eqi (y := nI dr) hdr ?_
  refine lv_istore_n (lv' := [(1, .int (nI dr)), (0, .ref (α 14))]) hx hb dX5_clear_9 rfl hl (by decide) rfl (fun ls hl => ?_)
  refine lv_aload_n hx hb dX5_clear_10 rfl (lv_at hl 1 rfl) ?_
  refine lv_iconst (v := 0) hx hb dX5_clear_11 (by decide) ?_
  refine fp5_21 X I (by omega) kfX5_117 dX5_clear_12 (fun H locs I => ?_)
  refine lv_iload_n hx hb dX5_clear_15 rfl (lv_at hl 0 rfl) ?_
  exact w_iret X I hr hlk (⟨rfl, rfl⟩) dX5_clear_16
end
section
variable {l : Launch} {g : wG} {α : Nat → Nat} {N : Nat} {σ : wS} {p : Program} {e : Env} {s : State} {m : MethodId} {args : Array Value} {below : List Frame} {meth : Method} {c : Code}
set_option maxHeartbeats 4000000 in
set_option maxRecDepth 100000 in
theorem lpX5_type_36 {sz : Nat} (v : Int64) (b : Int32) (dr : Nat) (X : wX p s m args c cX5_type 5 RX5 g) (hsz : s.heap.size = sz) (hr : meth.sig.returnType = (some FieldType.int)) (hlk : meth.locks = false) (hN : 32 ≤ N) (hdr : σ.1 14 21 = nI dr) (hdr30 : dr ≤ 30) : ∀ (fu : Nat) (m2 : Nat) (j : Nat) (τ : wS), j + 1 ≤ fu → b = nI m2 → ¬ b < 1 ∧ ¬ 8 < b → nI dr + b ≤ 30 → dr + m2 ≤ 30 → j ≤ m2 → τ = maS (wu σ 14 0 0) v m2 dr (m2 - j) → τ.1 14 21 = nI (dr + (m2 - j)) → ∀ (H : Heap) (locs : List Loc), wI g α N (wA α N sz) s.heap H locs τ → ∀ ls : Array Slot, lv_has ls 5 [(0, .ref (α 14)), (1, .long v), (4, .int (nI j - 1))] → W p l e ({ frames := 1, cells := 0, slots := 0, locals := 22 } : Room) s m args below meth c H locs 0 0 (MQ below (va_Qi (fun r τ => (r, τ) = mTyF σ dr v b) (wB g α N) (wA α N sz)) args s 0 0 (wA α N sz)) (F0 m 36 ls []) := by
  have hA : ∀ q, s.heap.size ≤ q → wA α N sz q := fun q h => Or.inr (by omega)
  have hx := X.1.1
  have hb := X.1.2.1
  intro fu
  induction fu with
  | zero =>
    intro m2 j τ hfu hb2 hp1 hp2 hm hj hτ hl7
    exact absurd hfu (by omega)
  | succ fu ih =>
    intro m2 j τ hfu hb2 hp1 hp2 hm hj hτ hl7 H locs I ls hl
    refine lv_iload hx hb dX5_type_36 (lv_at hl 2 rfl) ?_
    refine lv_if_lt (tgt := 78) hx hb dX5_type_38 (by decide) (fun c_38 => ?_) (fun c_38 => ?_)
    ·
      obtain rfl : j = 0 := (m1_neg (by omega)).mp c_38
      refine lv_aload_n hx hb dX5_type_78 rfl (lv_at hl 0 rfl) ?_
      refine fg5_21 X I (by omega) kfX5_117 dX5_type_79 ?_
      refine w_eqi (y := nI (dr + (m2 - 0))) hl7 ?_
      exact w_iret X I hr hlk (by first | (rw [mTyF, if_neg p_9]; done) | (rw [mTyF, if_pos p_9, if_neg c_25]; done) | (rw [mTyF, if_pos hp1, if_pos hp2, hb2, nI_clamp (by omega), hτ, Nat.sub_zero]; done)) dX5_type_82
    ·
      obtain ⟨j', rfl⟩ : ∃ j', j = j' + 1 := ⟨j - 1, by have h0 : ¬ j = 0 := fun z => c_38 ((m1_neg (j := j) (by omega)).mpr z); omega⟩
      refine lv_aload_n hx hb dX5_type_41 rfl (lv_at hl 0 rfl) ?_
      refine fg5_20 X I (by omega) kfX5_53 dX5_type_42 ?_
      refine lv_aload_n hx hb dX5_type_45 rfl (lv_at hl 0 rfl) ?_
      refine fg5_21 X I (by omega) kfX5_117 dX5_type_46 ?_
      refine w_eqi (y := nI (dr + (m2 - (j' + 1)))) hl7 ?_
      refine lv_lload_n hx hb dX5_type_49 rfl (lv_at hl 1 rfl) ?_
      refine lv_bipush (v := 8) hx hb dX5_type_50 (by decide) ?_
      refine lv_iload hx hb dX5_type_52 (lv_at hl 2 rfl) ?_
      refine w_eqi (y := nI j') (nI_pred _) ?_
      refine lv_imul hx hb dX5_type_54 ?_
      refine lv_lshr hx hb dX5_type_55 rfl ?_
      refine lv_ldc2 hx hb X.1.2.2.2.1 (X.1.2.2.2.2 _ kkX5_120) dX5_type_56 ?_
      refine lv_land hx hb dX5_type_59 ?_
      refine lv_l2i hx hb dX5_type_60 rfl ?_
      refine w_st X I 28 (by omega) (n := 30) (k := dr + (m2 - (j' + 1))) (fun _ _ _ => rfl) rfl (by omega) (by decide) dX5_type_61 (fun H locs I => ?_)
      refine lv_aload_n hx hb dX5_type_62 rfl (lv_at hl 0 rfl) ?_
      refine lv_dup hx hb dX5_type_63 rfl ?_
      refine fg5_21 X I (by omega) kfX5_117 dX5_type_64 ?_
      refine w_eqi (y := τ.1 14 21) (wu_o (by decide)) ?_
      refine w_eqi (y := nI (dr + (m2 - (j' + 1)))) hl7 ?_
      refine lv_iconst (v := 1) hx hb dX5_type_67 (by decide) ?_
      refine lv_iadd hx hb dX5_type_68 ?_
      refine w_eqi (y := nI (dr + (m2 - (j' + 1)) + 1)) (nI_1 _) ?_
      refine fp5_21 X I (by omega) kfX5_117 dX5_type_69 (fun H locs I => ?_)
      refine lv_iinc (v := nI j' - 1) (lv' := [(4, .int (nI j' - 1)), (0, .ref (α 14)), (1, .long v)]) hx hb dX5_type_72 hl (k := 2) rfl (by rw [nI_pred]; exact m1e _) (by decide) rfl (fun ls hl => ?_)
      refine lv_goto (tgt := 36) hx hb dX5_type_75 (by decide) ?_
      exact ih m2 j' (wu (wu τ 28 (dr + (m2 - (j' + 1))) (((v >>> ((8 * (nI j')).toInt64 &&& 63)) &&& 255).toInt32)) 14 21 (nI (dr + (m2 - (j' + 1)) + 1))) (by omega) hb2 hp1 hp2 hm (by omega) (by rw [show m2 - j' = (m2 - (j' + 1)) + 1 by omega, maS, ← hτ, show m2 - 1 - (m2 - (j' + 1)) = j' by omega]; rfl) (by rw [show dr + (m2 - j') = dr + (m2 - (j' + 1)) + 1 by omega]; exact wu_s) _ _ I ls (lv_sub hl [1, 2, 0] rfl)
set_option maxHeartbeats 4000000 in
set_option maxRecDepth 100000 in
theorem ctX5_type (l : Launch) (g : wG) (α : Nat → Nat) (N : Nat) (σ : wS) (sz : Nat) (v : Int64) (b : Int32) (dr : Nat) (hN : 32 ≤ N) (hdr : σ.1 14 21 = nI dr) (hdr30 : dr ≤ 30) : Met l yX5_type (wM yX5_type cX5_type 5 (some FieldType.int)) ({ frames := 1, cells := 0, slots := 0, locals := 22 } : Room) (wPs g α N sz σ [.ref (α 14), .long v, .int b]) (va_Qi (fun r τ => (r, τ) = mTyF σ dr v b) (wB g α N) (wA α N sz)) 0 0 (wA α N sz) := by
  refine w_enter (by decide) (Nat.le_of_ble_eq_true rfl) (fun p e s m args below meth c hsz X I hr hlk ls hl => ?_)
  have hA : ∀ q, s.heap.size ≤ q → wA α N sz q := fun q h => Or.inr (by omega)
  have hx := X.1.1
  have hb := X.1.2.1
  have hl : lv_has ls 5 [(0, .ref (α 14)), (1, .long v), (3, .int b)] := hl
  refine lv_aload_n hx hb dX5_type_0 rfl (lv_at hl 0 rfl) ?_
  refine lv_iconst (v := 0) hx hb dX5_type_1 (by decide) ?_
  refine fp5_0 X I (by omega) kfX5_66 dX5_type_2 (fun H locs I => ?_)
  refine lv_iload_n hx hb dX5_type_5 rfl (lv_at hl 2 rfl) ?_
  refine lv_iconst (v := 1) hx hb dX5_type_6 (by decide) ?_
  refine lv_bipush (v := 8) hx hb dX5_type_7 (by decide) ?_
  refine w_sSi X I (As := [.int b, .int 1, .int 8]) (rest := []) (ctX5_in l g α N (wu σ 14 0 0) _ _ _ ) (wM_S kmX5_69 kt_X5_in kn_X5 kc_X5_in) rfl rfl (n := 3) (by decide +kernel) rfl ⟨by decide, by decide⟩ hl.1 rfl (Nat.le_of_ble_eq_true rfl) ⟨Nat.zero_le _, Nat.zero_le _⟩ dX5_type_9 (fun r_9 q_9 => ?_)
  by_cases p_9 : ¬ b < 1 ∧ ¬ 8 < b
  ·
    obtain rfl : r_9 = 1 := Eq.trans q_9 (if_pos p_9)
    refine lv_if_ne (tgt := 17) hx hb dX5_type_12 (by decide) (fun _ => ?_) (fun cc => absurd cc (by decide))
    refine lv_aload_n hx hb dX5_type_17 rfl (lv_at hl 0 rfl) ?_
    refine fg5_21 X I (by omega) kfX5_117 dX5_type_18 ?_
    refine w_eqi (y := σ.1 14 21) (wu_d (by decide)) ?_
    refine w_eqi (y := nI dr) hdr ?_
    refine lv_iload_n hx hb dX5_type_21 rfl (lv_at hl 2 rfl) ?_
    refine lv_iadd hx hb dX5_type_22 ?_
    refine lv_bipush (v := 30) hx hb dX5_type_23 (by decide) ?_
    refine lv_icmp_le (tgt := 31) hx hb dX5_type_25 (by decide) (fun c_25 => ?_) (fun c_25 => ?_)
    ·
      obtain ⟨m2, hm2, rfl⟩ : ∃ m2, m2 ≤ 8 ∧ b = nI m2 := nI_btw (n := 8) (fun z => p_9.1 (Int32.lt_trans z (by decide))) p_9.2 (by decide)
      have hm : dr + m2 ≤ 30 := by rw [nI_add] at c_25; exact nI_le' (b := 30) c_25 (by omega) (by decide)
      refine lv_iload_n hx hb dX5_type_31 rfl (lv_at hl 2 rfl) ?_
      refine lv_iconst (v := 1) hx hb dX5_type_32 (by decide) ?_
      refine lv_isub hx hb dX5_type_33 ?_
      refine lv_istore (lv' := [(4, .int ((nI m2) - 1)), (0, .ref (α 14)), (1, .long v), (3, .int (nI m2))]) hx hb dX5_type_34 hl (by decide) rfl (fun ls hl => ?_)
      exact lpX5_type_36 v (nI m2) dr X hsz hr hlk hN hdr hdr30  (m2 + 1) m2 m2 (wu σ 14 0 0) (by omega) rfl p_9 c_25 hm (by omega) (by rw [Nat.sub_self]; rfl) (by rw [Nat.sub_self]; exact hdr) _ _ I ls (lv_sub hl [1, 2, 0] rfl)
    ·
      refine lv_bipush (v := (-3)) hx hb dX5_type_28 (by decide) ?_
      exact w_iret X I hr hlk (by first | (rw [mTyF, if_neg p_9]; done) | (rw [mTyF, if_pos p_9, if_neg c_25]; done) | (rw [mTyF, if_pos hp1, if_pos hp2, hb2, nI_clamp (by omega), hτ, Nat.sub_zero]; done)) dX5_type_30
  ·
    obtain rfl : r_9 = 0 := Eq.trans q_9 (if_neg p_9)
    refine lv_if_ne (tgt := 17) hx hb dX5_type_12 (by decide) (fun cc => absurd cc (by decide)) (fun _ => ?_)
    refine lv_iconst (v := (-1)) hx hb dX5_type_15 (by decide) ?_
    exact w_iret X I hr hlk (by first | (rw [mTyF, if_neg p_9]; done) | (rw [mTyF, if_pos p_9, if_neg c_25]; done) | (rw [mTyF, if_pos hp1, if_pos hp2, hb2, nI_clamp (by omega), hτ, Nat.sub_zero]; done)) dX5_type_16
end
section
variable {l : Launch} {g : wG} {α : Nat → Nat} {N : Nat} {σ : wS} {p : Program} {e : Env} {s : State} {m : MethodId} {args : Array Value} {below : List Frame} {meth : Method} {c : Code}
set_option maxHeartbeats 4000000 in
set_option maxRecDepth 100000 in
theorem ctX5_turnOf (l : Launch) (g : wG) (α : Nat → Nat) (N : Nat) (σ : wS) (i d : Nat) (hN : 32 ≤ N) (hd : σ.1 14 2 = nI d) (hd200 : d ≤ 200) (hi : i < 10) (hki : σ.1 18 i = 0 ∨ σ.1 18 i = 1 ∨ σ.1 18 i = 2) : Met l yX5_turnOf (wM yX5_turnOf cX5_turnOf 3 (some FieldType.int)) ({ frames := 0, cells := 0, slots := 0, locals := 0 } : Room) (wPc g α N σ [.ref (α 14), .int (nI i)]) (vp_Si (fun r => r = tM σ d i)) 0 0 (fun _ => False) := by
  refine w_enterS (by decide) (Nat.le_of_ble_eq_true rfl) (fun p e s m args below meth c X I hr hlk ls hl => ?_)
  have hx := X.1.1
  have hb := X.1.2.1
  have hl : lv_has ls 3 [(0, .ref (α 14)), (1, .int (nI i))] := hl
  rcases hki with h18 | h18 | h18
  ·
    refine lv_bipush (v := 10) hx hb dX5_turnOf_0 (by decide) ?_
    refine lv_aload_n hx hb dX5_turnOf_2 rfl (lv_at hl 0 rfl) ?_
    refine fg5_9 X I (by omega) kfX5_22 dX5_turnOf_3 ?_
    refine lv_iload_n hx hb dX5_turnOf_6 rfl (lv_at hl 1 rfl) ?_
    refine w_ld X I 19 (by omega) (n := 10) (k := i) (fun _ _ _ => rfl) rfl (by omega) (by decide) dX5_turnOf_7 ?_
    refine lv_imul hx hb dX5_turnOf_8 ?_
    refine lv_iload_n hx hb dX5_turnOf_9 rfl (lv_at hl 1 rfl) ?_
    refine lv_iadd hx hb dX5_turnOf_10 ?_
    refine lv_istore_n (lv' := [(2, .int ((10 * (σ.1 19 i)) + (nI i))), (0, .ref (α 14)), (1, .int (nI i))]) hx hb dX5_turnOf_11 rfl hl (by decide) rfl (fun ls hl => ?_)
    refine lv_aload_n hx hb dX5_turnOf_12 rfl (lv_at hl 1 rfl) ?_
    refine fg5_8 X I (by omega) kfX5_19 dX5_turnOf_13 ?_
    refine lv_iload_n hx hb dX5_turnOf_16 rfl (lv_at hl 2 rfl) ?_
    refine w_ld X I 18 (by omega) (n := 10) (k := i) (fun _ _ _ => rfl) rfl (by omega) (by decide) dX5_turnOf_17 ?_
    refine w_eqi (y := 0) h18 ?_
    refine lv_if_le (tgt := 27) hx hb dX5_turnOf_18 (by decide) (fun _ => ?_) (fun cc => absurd cc (by decide))
    refine lv_aload_n hx hb dX5_turnOf_27 rfl (lv_at hl 1 rfl) ?_
    refine fg5_8 X I (by omega) kfX5_19 dX5_turnOf_28 ?_
    refine lv_iload_n hx hb dX5_turnOf_31 rfl (lv_at hl 2 rfl) ?_
    refine w_ld X I 18 (by omega) (n := 10) (k := i) (fun _ _ _ => rfl) rfl (by omega) (by decide) dX5_turnOf_32 ?_
    refine w_eqi (y := 0) h18 ?_
    refine lv_iconst (v := 2) hx hb dX5_turnOf_33 (by decide) ?_
    refine lv_icmp_ne (tgt := 61) hx hb dX5_turnOf_34 (by decide) (fun _ => ?_) (fun cc => absurd cc (by decide))
    refine lv_iload_n hx hb dX5_turnOf_61 rfl (lv_at hl 0 rfl) ?_
    exact w_iretS X hr hlk (by first | (simp [tM, tnF, h18]; done) | (simp only [tM, tnF, h18, if_pos c_50]; decide) | (rw [tM, tnF, if_neg (by rw [h18]; decide), if_neg (by rw [h18]; decide), if_pos c_50]; done) | (rw [tM, tnF, if_neg (by rw [h18]; decide), if_neg (by rw [h18]; decide), if_neg c_50]; done)) dX5_turnOf_62
  ·
    refine lv_bipush (v := 10) hx hb dX5_turnOf_0 (by decide) ?_
    refine lv_aload_n hx hb dX5_turnOf_2 rfl (lv_at hl 0 rfl) ?_
    refine fg5_9 X I (by omega) kfX5_22 dX5_turnOf_3 ?_
    refine lv_iload_n hx hb dX5_turnOf_6 rfl (lv_at hl 1 rfl) ?_
    refine w_ld X I 19 (by omega) (n := 10) (k := i) (fun _ _ _ => rfl) rfl (by omega) (by decide) dX5_turnOf_7 ?_
    refine lv_imul hx hb dX5_turnOf_8 ?_
    refine lv_iload_n hx hb dX5_turnOf_9 rfl (lv_at hl 1 rfl) ?_
    refine lv_iadd hx hb dX5_turnOf_10 ?_
    refine lv_istore_n (lv' := [(2, .int ((10 * (σ.1 19 i)) + (nI i))), (0, .ref (α 14)), (1, .int (nI i))]) hx hb dX5_turnOf_11 rfl hl (by decide) rfl (fun ls hl => ?_)
    refine lv_aload_n hx hb dX5_turnOf_12 rfl (lv_at hl 1 rfl) ?_
    refine fg5_8 X I (by omega) kfX5_19 dX5_turnOf_13 ?_
    refine lv_iload_n hx hb dX5_turnOf_16 rfl (lv_at hl 2 rfl) ?_
    refine w_ld X I 18 (by omega) (n := 10) (k := i) (fun _ _ _ => rfl) rfl (by omega) (by decide) dX5_turnOf_17 ?_
    refine w_eqi (y := 1) h18 ?_
    refine lv_if_le (tgt := 27) hx hb dX5_turnOf_18 (by decide) (fun cc => absurd cc (by decide)) (fun _ => ?_)
    refine lv_iincW (v := ((10 * (σ.1 19 i)) + (nI i)) - 500) (lv' := [(2, .int (((10 * (σ.1 19 i)) + (nI i)) - 500)), (0, .ref (α 14)), (1, .int (nI i))]) hx hb dX5_turnOf_21 hl (k := 0) rfl (by rw [Int32.sub_eq_add_neg]; rfl) (by decide) rfl (fun ls hl => ?_)
    refine lv_aload_n hx hb dX5_turnOf_27 rfl (lv_at hl 1 rfl) ?_
    refine fg5_8 X I (by omega) kfX5_19 dX5_turnOf_28 ?_
    refine lv_iload_n hx hb dX5_turnOf_31 rfl (lv_at hl 2 rfl) ?_
    refine w_ld X I 18 (by omega) (n := 10) (k := i) (fun _ _ _ => rfl) rfl (by omega) (by decide) dX5_turnOf_32 ?_
    refine w_eqi (y := 1) h18 ?_
    refine lv_iconst (v := 2) hx hb dX5_turnOf_33 (by decide) ?_
    refine lv_icmp_ne (tgt := 61) hx hb dX5_turnOf_34 (by decide) (fun _ => ?_) (fun cc => absurd cc (by decide))
    refine lv_iload_n hx hb dX5_turnOf_61 rfl (lv_at hl 0 rfl) ?_
    exact w_iretS X hr hlk (by first | (simp [tM, tnF, h18]; done) | (simp only [tM, tnF, h18, if_pos c_50]; decide) | (rw [tM, tnF, if_neg (by rw [h18]; decide), if_neg (by rw [h18]; decide), if_pos c_50]; done) | (rw [tM, tnF, if_neg (by rw [h18]; decide), if_neg (by rw [h18]; decide), if_neg c_50]; done)) dX5_turnOf_62
  ·
    refine lv_bipush (v := 10) hx hb dX5_turnOf_0 (by decide) ?_
    refine lv_aload_n hx hb dX5_turnOf_2 rfl (lv_at hl 0 rfl) ?_
    refine fg5_9 X I (by omega) kfX5_22 dX5_turnOf_3 ?_
    refine lv_iload_n hx hb dX5_turnOf_6 rfl (lv_at hl 1 rfl) ?_
    refine w_ld X I 19 (by omega) (n := 10) (k := i) (fun _ _ _ => rfl) rfl (by omega) (by decide) dX5_turnOf_7 ?_
    refine lv_imul hx hb dX5_turnOf_8 ?_
    refine lv_iload_n hx hb dX5_turnOf_9 rfl (lv_at hl 1 rfl) ?_
    refine lv_iadd hx hb dX5_turnOf_10 ?_
    refine lv_istore_n (lv' := [(2, .int ((10 * (σ.1 19 i)) + (nI i))), (0, .ref (α 14)), (1, .int (nI i))]) hx hb dX5_turnOf_11 rfl hl (by decide) rfl (fun ls hl => ?_)
    refine lv_aload_n hx hb dX5_turnOf_12 rfl (lv_at hl 1 rfl) ?_
    refine fg5_8 X I (by omega) kfX5_19 dX5_turnOf_13 ?_
    refine lv_iload_n hx hb dX5_turnOf_16 rfl (lv_at hl 2 rfl) ?_
    refine w_ld X I 18 (by omega) (n := 10) (k := i) (fun _ _ _ => rfl) rfl (by omega) (by decide) dX5_turnOf_17 ?_
    refine w_eqi (y := 2) h18 ?_
    refine lv_if_le (tgt := 27) hx hb dX5_turnOf_18 (by decide) (fun cc => absurd cc (by decide)) (fun _ => ?_)
    refine lv_iincW (v := ((10 * (σ.1 19 i)) + (nI i)) - 500) (lv' := [(2, .int (((10 * (σ.1 19 i)) + (nI i)) - 500)), (0, .ref (α 14)), (1, .int (nI i))]) hx hb dX5_turnOf_21 hl (k := 0) rfl (by rw [Int32.sub_eq_add_neg]; rfl) (by decide) rfl (fun ls hl => ?_)
    refine lv_aload_n hx hb dX5_turnOf_27 rfl (lv_at hl 1 rfl) ?_
    refine fg5_8 X I (by omega) kfX5_19 dX5_turnOf_28 ?_
    refine lv_iload_n hx hb dX5_turnOf_31 rfl (lv_at hl 2 rfl) ?_
    refine w_ld X I 18 (by omega) (n := 10) (k := i) (fun _ _ _ => rfl) rfl (by omega) (by decide) dX5_turnOf_32 ?_
    refine w_eqi (y := 2) h18 ?_
    refine lv_iconst (v := 2) hx hb dX5_turnOf_33 (by decide) ?_
    refine lv_icmp_ne (tgt := 61) hx hb dX5_turnOf_34 (by decide) (fun cc => absurd cc (by decide)) (fun _ => ?_)
    refine lv_aload_n hx hb dX5_turnOf_37 rfl (lv_at hl 1 rfl) ?_
    refine fg5_2 X I (by omega) kfX5_76 dX5_turnOf_38 ?_
    refine w_eqi (y := nI d) hd ?_
    refine lv_aload_n hx hb dX5_turnOf_41 rfl (lv_at hl 1 rfl) ?_
    refine fg5_9 X I (by omega) kfX5_22 dX5_turnOf_42 ?_
    refine lv_iload_n hx hb dX5_turnOf_45 rfl (lv_at hl 2 rfl) ?_
    refine w_ld X I 19 (by omega) (n := 10) (k := i) (fun _ _ _ => rfl) rfl (by omega) (by decide) dX5_turnOf_46 ?_
    refine lv_isub hx hb dX5_turnOf_47 ?_
    refine lv_bipush (v := 9) hx hb dX5_turnOf_48 (by decide) ?_
    refine lv_icmp_ge (tgt := 61) hx hb dX5_turnOf_50 (by decide) (fun c_50 => ?_) (fun c_50 => ?_)
    ·
      have c_50 : 9 ≤ nI d - σ.1 19 i := c_50
      refine lv_iload_n hx hb dX5_turnOf_61 rfl (lv_at hl 0 rfl) ?_
      exact w_iretS X hr hlk (by first | (simp [tM, tnF, h18]; done) | (simp only [tM, tnF, h18, if_pos c_50]; decide) | (rw [tM, tnF, if_neg (by rw [h18]; decide), if_neg (by rw [h18]; decide), if_pos c_50]; done) | (rw [tM, tnF, if_neg (by rw [h18]; decide), if_neg (by rw [h18]; decide), if_neg c_50]; done)) dX5_turnOf_62
    ·
      have c_50 : ¬ 9 ≤ nI d - σ.1 19 i := c_50
      refine lv_iload_n hx hb dX5_turnOf_53 rfl (lv_at hl 0 rfl) ?_
      refine lv_sipush (v := 5000) hx hb dX5_turnOf_54 (by decide) ?_
      refine lv_iadd hx hb dX5_turnOf_57 ?_
      refine lv_goto (tgt := 62) hx hb dX5_turnOf_58 (by decide) ?_
      exact w_iretS X hr hlk (by first | (simp [tM, tnF, h18]; done) | (simp only [tM, tnF, h18, if_pos c_50]; decide) | (rw [tM, tnF, if_neg (by rw [h18]; decide), if_neg (by rw [h18]; decide), if_pos c_50]; done) | (rw [tM, tnF, if_neg (by rw [h18]; decide), if_neg (by rw [h18]; decide), if_neg c_50]; done)) dX5_turnOf_62
end
section
variable {l : Launch} {g : wG} {α : Nat → Nat} {N : Nat} {σ : wS} {p : Program} {e : Env} {s : State} {m : MethodId} {args : Array Value} {below : List Frame} {meth : Method} {c : Code}
set_option maxHeartbeats 4000000 in
set_option maxRecDepth 100000 in
theorem ctX5_turn (l : Launch) (g : wG) (α : Nat → Nat) (N : Nat) (σ : wS) (sz : Nat) (a : Int32) (n d : Nat) (hn : σ.1 14 7 = nI n) (hn10 : n ≤ 10) (hN : 32 ≤ N) (hd : σ.1 14 2 = nI d) (hd200 : d ≤ 200) (hki : ∀ i, i < n → (σ.1 18 i = 0 ∨ σ.1 18 i = 1 ∨ σ.1 18 i = 2)) : Met l yX5_turn (wM yX5_turn cX5_turn 2 (some FieldType.int)) ({ frames := 2, cells := 0, slots := 0, locals := 43 } : Room) (wPs g α N sz σ [.ref (α 14), .int a]) (va_Qi (fun r τ => (r, τ) = spQ n a ((-1), wu σ 14 0 0) (fun k => (tM σ d k, wuL (wu σ 14 0 0) 14 (σ.2.1 14 + trK (σ.1 18 k))))) (wB g α N) (wA α N sz)) 0 0 (wA α N sz) := by
  refine w_enter (by decide) (Nat.le_of_ble_eq_true rfl) (fun p e s m args below meth c hsz X I hr hlk ls hl => ?_)
  have hA : ∀ q, s.heap.size ≤ q → wA α N sz q := fun q h => Or.inr (by omega)
  have hx := X.1.1
  have hb := X.1.2.1
  have hl : lv_has ls 2 [(0, .ref (α 14)), (1, .int a)] := hl
  refine lv_aload_n hx hb dX5_turn_0 rfl (lv_at hl 0 rfl) ?_
  refine lv_iconst (v := 0) hx hb dX5_turn_1 (by decide) ?_
  refine fp5_0 X I (by omega) kfX5_66 dX5_turn_2 (fun H locs I => ?_)
  refine lv_aload_n hx hb dX5_turn_5 rfl (lv_at hl 0 rfl) ?_
  refine lv_iload_n hx hb dX5_turn_6 rfl (lv_at hl 1 rfl) ?_
  refine w_vSi X I 14 (by omega) rfl rfl (As := [.int a]) (rest := []) (ctX5_isShip l g α N (wu σ 14 0 0) a n hN hn) (wM_V kmX5_82 ki_X5_isShip ks_X5_isShip kn_X5 kc_X5_isShip) rfl rfl (n := 1) (by decide +kernel) rfl ⟨by decide, by decide⟩ hl.1 rfl (Nat.le_of_ble_eq_true rfl) ⟨Nat.zero_le _, Nat.zero_le _⟩ dX5_turn_7 (fun r_7 q_7 => ?_)
  by_cases p_7 : ¬ a < 0 ∧ ¬ nI n - 1 < a
  ·
    obtain rfl : r_7 = 1 := Eq.trans q_7 (if_pos p_7)
    obtain ⟨k, hk, rfl⟩ := m1_ok (n := n) (by omega) p_7
    refine lv_if_ne (tgt := 15) hx hb dX5_turn_10 (by decide) (fun _ => ?_) (fun cc => absurd cc (by decide))
    refine lv_aload_n hx hb dX5_turn_15 rfl (lv_at hl 0 rfl) ?_
    refine lv_dup hx hb dX5_turn_16 rfl ?_
    refine fg5_1 X I (by omega) kfX5_86 dX5_turn_17 ?_
    refine lv_aload_n hx hb dX5_turn_20 rfl (lv_at hl 0 rfl) ?_
    refine fg5_8 X I (by omega) kfX5_19 dX5_turn_21 ?_
    refine lv_iload_n hx hb dX5_turn_24 rfl (lv_at hl 1 rfl) ?_
    refine w_ld X I 18 (by omega) (n := 10) (k := k) (fun _ _ _ => rfl) rfl (by omega) (by decide) dX5_turn_25 ?_
    refine w_eqi (y := σ.1 18 k) (wu_o (by decide)) ?_
    refine lv_if_ne (tgt := 33) hx hb dX5_turn_26 (by decide) (fun c_26 => ?_) (fun c_26 => ?_)
    ·
      have c_26 : ¬ σ.1 18 k = 0 := c_26
      refine lv_aload_n hx hb dX5_turn_33 rfl (lv_at hl 0 rfl) ?_
      refine fg5_8 X I (by omega) kfX5_19 dX5_turn_34 ?_
      refine lv_iload_n hx hb dX5_turn_37 rfl (lv_at hl 1 rfl) ?_
      refine w_ld X I 18 (by omega) (n := 10) (k := k) (fun _ _ _ => rfl) rfl (by omega) (by decide) dX5_turn_38 ?_
      refine w_eqi (y := σ.1 18 k) (wu_o (by decide)) ?_
      refine lv_iconst (v := 1) hx hb dX5_turn_39 (by decide) ?_
      refine lv_icmp_ne (tgt := 49) hx hb dX5_turn_40 (by decide) (fun c_40 => ?_) (fun c_40 => ?_)
      ·
        have c_40 : ¬ σ.1 18 k = 1 := c_40
        refine lv_ldc2 hx hb X.1.2.2.2.1 (X.1.2.2.2.2 _ kkX5_92) dX5_turn_49 ?_
        refine lv_ladd hx hb dX5_turn_52 ?_
        refine fp5_1 X I (by omega) kfX5_86 dX5_turn_53 (fun H locs I => ?_)
        refine lv_aload_n hx hb dX5_turn_56 rfl (lv_at hl 0 rfl) ?_
        refine lv_iload_n hx hb dX5_turn_57 rfl (lv_at hl 1 rfl) ?_
        refine w_vSi X I 14 (by omega) rfl rfl (As := [.int (nI k)]) (rest := []) (ctX5_turnOf l g α N (wuL (wu σ 14 0 0) 14 (((wu σ 14 0 0).2.1 14) + 111)) k d hN hd hd200 (by omega) (hki k hk)) (wM_V kmX5_94 ki_X5_turnOf ks_X5_turnOf kn_X5 kc_X5_turnOf) rfl rfl (n := 1) (by decide +kernel) rfl ⟨by decide, by decide⟩ hl.1 rfl (Nat.le_of_ble_eq_true rfl) ⟨Nat.zero_le _, Nat.zero_le _⟩ dX5_turn_58 (fun r_58 q_58 => ?_)
        replace q_58 : r_58 = tM σ d k := q_58
        subst q_58
        exact w_iret X I hr hlk (by first | exact (spQ_bad hbad).symm | (rw [spQ_ok hk (by omega), trK, if_pos c_26]; rfl) | (rw [spQ_ok hk (by omega), trK, if_neg c_26, if_pos c_40]; rfl) | (rw [spQ_ok hk (by omega), trK, if_neg c_26, if_neg c_40]; rfl)) dX5_turn_61
      ·
        have c_40 : σ.1 18 k = 1 := c_40
        refine lv_ldc2 hx hb X.1.2.2.2.1 (X.1.2.2.2.2 _ kkX5_90) dX5_turn_43 ?_
        refine lv_goto (tgt := 52) hx hb dX5_turn_46 (by decide) ?_
        refine lv_ladd hx hb dX5_turn_52 ?_
        refine fp5_1 X I (by omega) kfX5_86 dX5_turn_53 (fun H locs I => ?_)
        refine lv_aload_n hx hb dX5_turn_56 rfl (lv_at hl 0 rfl) ?_
        refine lv_iload_n hx hb dX5_turn_57 rfl (lv_at hl 1 rfl) ?_
        refine w_vSi X I 14 (by omega) rfl rfl (As := [.int (nI k)]) (rest := []) (ctX5_turnOf l g α N (wuL (wu σ 14 0 0) 14 (((wu σ 14 0 0).2.1 14) + 11)) k d hN hd hd200 (by omega) (hki k hk)) (wM_V kmX5_94 ki_X5_turnOf ks_X5_turnOf kn_X5 kc_X5_turnOf) rfl rfl (n := 1) (by decide +kernel) rfl ⟨by decide, by decide⟩ hl.1 rfl (Nat.le_of_ble_eq_true rfl) ⟨Nat.zero_le _, Nat.zero_le _⟩ dX5_turn_58 (fun r_58 q_58 => ?_)
        replace q_58 : r_58 = tM σ d k := q_58
        subst q_58
        exact w_iret X I hr hlk (by first | exact (spQ_bad hbad).symm | (rw [spQ_ok hk (by omega), trK, if_pos c_26]; rfl) | (rw [spQ_ok hk (by omega), trK, if_neg c_26, if_pos c_40]; rfl) | (rw [spQ_ok hk (by omega), trK, if_neg c_26, if_neg c_40]; rfl)) dX5_turn_61
    ·
      have c_26 : σ.1 18 k = 0 := c_26
      refine lv_lconst (v := 1) hx hb dX5_turn_29 (by decide) ?_
      refine lv_goto (tgt := 52) hx hb dX5_turn_30 (by decide) ?_
      refine lv_ladd hx hb dX5_turn_52 ?_
      refine fp5_1 X I (by omega) kfX5_86 dX5_turn_53 (fun H locs I => ?_)
      refine lv_aload_n hx hb dX5_turn_56 rfl (lv_at hl 0 rfl) ?_
      refine lv_iload_n hx hb dX5_turn_57 rfl (lv_at hl 1 rfl) ?_
      refine w_vSi X I 14 (by omega) rfl rfl (As := [.int (nI k)]) (rest := []) (ctX5_turnOf l g α N (wuL (wu σ 14 0 0) 14 (((wu σ 14 0 0).2.1 14) + 1)) k d hN hd hd200 (by omega) (hki k hk)) (wM_V kmX5_94 ki_X5_turnOf ks_X5_turnOf kn_X5 kc_X5_turnOf) rfl rfl (n := 1) (by decide +kernel) rfl ⟨by decide, by decide⟩ hl.1 rfl (Nat.le_of_ble_eq_true rfl) ⟨Nat.zero_le _, Nat.zero_le _⟩ dX5_turn_58 (fun r_58 q_58 => ?_)
      replace q_58 : r_58 = tM σ d k := q_58
      subst q_58
      exact w_iret X I hr hlk (by first | exact (spQ_bad hbad).symm | (rw [spQ_ok hk (by omega), trK, if_pos c_26]; rfl) | (rw [spQ_ok hk (by omega), trK, if_neg c_26, if_pos c_40]; rfl) | (rw [spQ_ok hk (by omega), trK, if_neg c_26, if_neg c_40]; rfl)) dX5_turn_61
  ·
    obtain rfl : r_7 = 0 := Eq.trans q_7 (if_neg p_7)
    have hbad := m1_bad (n := n) (by omega) p_7
    refine lv_if_ne (tgt := 15) hx hb dX5_turn_10 (by decide) (fun cc => absurd cc (by decide)) (fun _ => ?_)
    refine lv_iconst (v := (-1)) hx hb dX5_turn_13 (by decide) ?_
    exact w_iret X I hr hlk (by first | exact (spQ_bad hbad).symm | (rw [spQ_ok hk (by omega), trK, if_pos c_26]; rfl) | (rw [spQ_ok hk (by omega), trK, if_neg c_26, if_pos c_40]; rfl) | (rw [spQ_ok hk (by omega), trK, if_neg c_26, if_neg c_40]; rfl)) dX5_turn_14
end
section
variable {l : Launch} {g : wG} {α : Nat → Nat} {N : Nat} {σ : wS} {p : Program} {e : Env} {s : State} {m : MethodId} {args : Array Value} {below : List Frame} {meth : Method} {c : Code}
set_option maxHeartbeats 4000000 in
set_option maxRecDepth 100000 in
theorem ctX5_ship (l : Launch) (g : wG) (α : Nat → Nat) (N : Nat) (σ : wS) (sz : Nat) (k w wa : Int32) (n d : Nat) (hn : σ.1 14 7 = nI n) (hn10 : n ≤ 10) (hN : 32 ≤ N) (hd : σ.1 14 2 = nI d) (hd200 : d ≤ 200) : Met l yX5_ship (wM yX5_ship cX5_ship 4 (some FieldType.int)) ({ frames := 1, cells := 0, slots := 0, locals := 22 } : Room) (wPs g α N sz σ [.ref (α 14), .int k, .int w, .int wa]) (va_Qi (fun r τ => (r, τ) = mShF σ n d k w wa) (wB g α N) (wA α N sz)) 0 0 (wA α N sz) := by
  refine w_enter (by decide) (Nat.le_of_ble_eq_true rfl) (fun p e s m args below meth c hsz X I hr hlk ls hl => ?_)
  have hA : ∀ q, s.heap.size ≤ q → wA α N sz q := fun q h => Or.inr (by omega)
  have hx := X.1.1
  have hb := X.1.2.1
  have hl : lv_has ls 4 [(0, .ref (α 14)), (1, .int k), (2, .int w), (3, .int wa)] := hl
  refine lv_aload_n hx hb dX5_ship_0 rfl (lv_at hl 0 rfl) ?_
  refine lv_iconst (v := 0) hx hb dX5_ship_1 (by decide) ?_
  refine fp5_0 X I (by omega) kfX5_66 dX5_ship_2 (fun H locs I => ?_)
  refine lv_iload_n hx hb dX5_ship_5 rfl (lv_at hl 1 rfl) ?_
  refine lv_iconst (v := 0) hx hb dX5_ship_6 (by decide) ?_
  refine lv_iconst (v := 2) hx hb dX5_ship_7 (by decide) ?_
  refine w_sSi X I (As := [.int k, .int 0, .int 2]) (rest := []) (ctX5_in l g α N (wu σ 14 0 0) _ _ _ ) (wM_S kmX5_69 kt_X5_in kn_X5 kc_X5_in) rfl rfl (n := 3) (by decide +kernel) rfl ⟨by decide, by decide⟩ hl.1 rfl (Nat.le_of_ble_eq_true rfl) ⟨Nat.zero_le _, Nat.zero_le _⟩ dX5_ship_8 (fun r_8 q_8 => ?_)
  by_cases p_8 : ¬ k < 0 ∧ ¬ 2 < k
  ·
    obtain rfl : r_8 = 1 := Eq.trans q_8 (if_pos p_8)
    refine lv_if_eq (tgt := 35) hx hb dX5_ship_11 (by decide) (fun cc => absurd cc (by decide)) (fun _ => ?_)
    refine lv_iload_n hx hb dX5_ship_14 rfl (lv_at hl 2 rfl) ?_
    refine lv_iconst (v := 1) hx hb dX5_ship_15 (by decide) ?_
    refine lv_sipush (v := 900) hx hb dX5_ship_16 (by decide) ?_
    refine w_sSi X I (As := [.int w, .int 1, .int 900]) (rest := []) (ctX5_in l g α N (wu σ 14 0 0) _ _ _ ) (wM_S kmX5_69 kt_X5_in kn_X5 kc_X5_in) rfl rfl (n := 3) (by decide +kernel) rfl ⟨by decide, by decide⟩ hl.1 rfl (Nat.le_of_ble_eq_true rfl) ⟨Nat.zero_le _, Nat.zero_le _⟩ dX5_ship_19 (fun r_19 q_19 => ?_)
    by_cases p_19 : ¬ w < 1 ∧ ¬ 900 < w
    ·
      obtain rfl : r_19 = 1 := Eq.trans q_19 (if_pos p_19)
      refine lv_if_eq (tgt := 35) hx hb dX5_ship_22 (by decide) (fun cc => absurd cc (by decide)) (fun _ => ?_)
      refine lv_iload_n hx hb dX5_ship_25 rfl (lv_at hl 3 rfl) ?_
      refine lv_iconst (v := 1) hx hb dX5_ship_26 (by decide) ?_
      refine lv_bipush (v := 90) hx hb dX5_ship_27 (by decide) ?_
      refine w_sSi X I (As := [.int wa, .int 1, .int 90]) (rest := []) (ctX5_in l g α N (wu σ 14 0 0) _ _ _ ) (wM_S kmX5_69 kt_X5_in kn_X5 kc_X5_in) rfl rfl (n := 3) (by decide +kernel) rfl ⟨by decide, by decide⟩ hl.1 rfl (Nat.le_of_ble_eq_true rfl) ⟨Nat.zero_le _, Nat.zero_le _⟩ dX5_ship_29 (fun r_29 q_29 => ?_)
      by_cases p_29 : ¬ wa < 1 ∧ ¬ 90 < wa
      ·
        obtain rfl : r_29 = 1 := Eq.trans q_29 (if_pos p_29)
        refine lv_if_ne (tgt := 37) hx hb dX5_ship_32 (by decide) (fun _ => ?_) (fun cc => absurd cc (by decide))
        refine lv_aload_n hx hb dX5_ship_37 rfl (lv_at hl 0 rfl) ?_
        refine fg5_7 X I (by omega) kfX5_79 dX5_ship_38 ?_
        refine w_eqi (y := σ.1 14 7) (wu_d (by decide)) ?_
        refine w_eqi (y := nI n) hn ?_
        refine lv_bipush (v := 10) hx hb dX5_ship_41 (by decide) ?_
        refine lv_icmp_ne (tgt := 49) hx hb dX5_ship_43 (by decide) (fun c_43 => ?_) (fun c_43 => ?_)
        ·
          have c_43 : nI n < 10 := (lt_ten hn10).mpr c_43
          have hlt : n < 10 := nI_lt' (b := 10) c_43 (by omega) (by decide)
          refine lv_aload_n hx hb dX5_ship_49 rfl (lv_at hl 0 rfl) ?_
          refine fg5_8 X I (by omega) kfX5_19 dX5_ship_50 ?_
          refine lv_aload_n hx hb dX5_ship_53 rfl (lv_at hl 0 rfl) ?_
          refine fg5_7 X I (by omega) kfX5_79 dX5_ship_54 ?_
          refine w_eqi (y := σ.1 14 7) (wu_d (by decide)) ?_
          refine w_eqi (y := nI n) hn ?_
          refine lv_iload_n hx hb dX5_ship_57 rfl (lv_at hl 1 rfl) ?_
          refine w_st X I 18 (by omega) (n := 10) (k := n) (fun _ _ _ => rfl) rfl (by omega) (by decide) dX5_ship_58 (fun H locs I => ?_)
          refine lv_aload_n hx hb dX5_ship_59 rfl (lv_at hl 0 rfl) ?_
          refine fg5_9 X I (by omega) kfX5_22 dX5_ship_60 ?_
          refine lv_aload_n hx hb dX5_ship_63 rfl (lv_at hl 0 rfl) ?_
          refine fg5_7 X I (by omega) kfX5_79 dX5_ship_64 ?_
          refine w_eqi (y := σ.1 14 7) ((wu_o (by decide)).trans (wu_d (by decide))) ?_
          refine w_eqi (y := nI n) hn ?_
          refine lv_aload_n hx hb dX5_ship_67 rfl (lv_at hl 0 rfl) ?_
          refine fg5_2 X I (by omega) kfX5_76 dX5_ship_68 ?_
          refine w_eqi (y := σ.1 14 2) ((wu_o (by decide)).trans (wu_d (by decide))) ?_
          refine w_eqi (y := nI d) hd ?_
          refine w_st X I 19 (by omega) (n := 10) (k := n) (fun _ _ _ => rfl) rfl (by omega) (by decide) dX5_ship_71 (fun H locs I => ?_)
          refine lv_aload_n hx hb dX5_ship_72 rfl (lv_at hl 0 rfl) ?_
          refine fg5_10 X I (by omega) kfX5_25 dX5_ship_73 ?_
          refine lv_aload_n hx hb dX5_ship_76 rfl (lv_at hl 0 rfl) ?_
          refine fg5_7 X I (by omega) kfX5_79 dX5_ship_77 ?_
          refine w_eqi (y := σ.1 14 7) (((wu_o (by decide)).trans (wu_o (by decide))).trans (wu_d (by decide))) ?_
          refine w_eqi (y := nI n) hn ?_
          refine lv_iload_n hx hb dX5_ship_80 rfl (lv_at hl 2 rfl) ?_
          refine w_st X I 20 (by omega) (n := 10) (k := n) (fun _ _ _ => rfl) rfl (by omega) (by decide) dX5_ship_81 (fun H locs I => ?_)
          refine lv_aload_n hx hb dX5_ship_82 rfl (lv_at hl 0 rfl) ?_
          refine fg5_11 X I (by omega) kfX5_28 dX5_ship_83 ?_
          refine lv_aload_n hx hb dX5_ship_86 rfl (lv_at hl 0 rfl) ?_
          refine fg5_7 X I (by omega) kfX5_79 dX5_ship_87 ?_
          refine w_eqi (y := σ.1 14 7) ((((wu_o (by decide)).trans (wu_o (by decide))).trans (wu_o (by decide))).trans (wu_d (by decide))) ?_
          refine w_eqi (y := nI n) hn ?_
          refine lv_iload_n hx hb dX5_ship_90 rfl (lv_at hl 3 rfl) ?_
          refine w_st X I 21 (by omega) (n := 10) (k := n) (fun _ _ _ => rfl) rfl (by omega) (by decide) dX5_ship_91 (fun H locs I => ?_)
          refine lv_aload_n hx hb dX5_ship_92 rfl (lv_at hl 0 rfl) ?_
          refine fg5_12 X I (by omega) kfX5_31 dX5_ship_93 ?_
          refine lv_aload_n hx hb dX5_ship_96 rfl (lv_at hl 0 rfl) ?_
          refine fg5_7 X I (by omega) kfX5_79 dX5_ship_97 ?_
          refine w_eqi (y := σ.1 14 7) (((((wu_o (by decide)).trans (wu_o (by decide))).trans (wu_o (by decide))).trans (wu_o (by decide))).trans (wu_d (by decide))) ?_
          refine w_eqi (y := nI n) hn ?_
          refine lv_bipush (v := (-9)) hx hb dX5_ship_100 (by decide) ?_
          refine w_st X I 22 (by omega) (n := 10) (k := n) (fun _ _ _ => rfl) rfl (by omega) (by decide) dX5_ship_102 (fun H locs I => ?_)
          refine lv_aload_n hx hb dX5_ship_103 rfl (lv_at hl 0 rfl) ?_
          refine lv_dup hx hb dX5_ship_104 rfl ?_
          refine fg5_7 X I (by omega) kfX5_79 dX5_ship_105 ?_
          refine w_eqi (y := σ.1 14 7) ((((((wu_o (by decide)).trans (wu_o (by decide))).trans (wu_o (by decide))).trans (wu_o (by decide))).trans (wu_o (by decide))).trans (wu_d (by decide))) ?_
          refine w_eqi (y := nI n) hn ?_
          refine lv_iconst (v := 1) hx hb dX5_ship_108 (by decide) ?_
          refine lv_iadd hx hb dX5_ship_109 ?_
          refine w_eqi (y := nI (n + 1)) (nI_1 _) ?_
          refine fp5_7 X I (by omega) kfX5_79 dX5_ship_110 (fun H locs I => ?_)
          refine lv_aload_n hx hb dX5_ship_113 rfl (lv_at hl 0 rfl) ?_
          refine fg5_7 X I (by omega) kfX5_79 dX5_ship_114 ?_
          refine w_eqi (y := nI (n + 1)) wu_s ?_
          refine lv_iconst (v := 1) hx hb dX5_ship_117 (by decide) ?_
          refine lv_isub hx hb dX5_ship_118 ?_
          refine w_eqi (y := nI n) (nI_pred _) ?_
          exact w_iret X I hr hlk (by first | (rw [mShF, if_neg p_8]; done) | (rw [mShF, if_pos p_8, if_neg p_19]; done) | (rw [mShF, if_pos p_8, if_pos p_19, if_neg p_29]; done) | (rw [mShF, if_pos p_8, if_pos p_19, if_pos p_29, if_neg c_43]; done) | (rw [mShF, if_pos p_8, if_pos p_19, if_pos p_29, if_pos c_43]; rfl)) dX5_ship_119
        ·
          have c_43 : ¬ nI n < 10 := fun z => (lt_ten hn10).mp z c_43
          refine lv_bipush (v := (-3)) hx hb dX5_ship_46 (by decide) ?_
          exact w_iret X I hr hlk (by first | (rw [mShF, if_neg p_8]; done) | (rw [mShF, if_pos p_8, if_neg p_19]; done) | (rw [mShF, if_pos p_8, if_pos p_19, if_neg p_29]; done) | (rw [mShF, if_pos p_8, if_pos p_19, if_pos p_29, if_neg c_43]; done) | (rw [mShF, if_pos p_8, if_pos p_19, if_pos p_29, if_pos c_43]; rfl)) dX5_ship_48
      ·
        obtain rfl : r_29 = 0 := Eq.trans q_29 (if_neg p_29)
        refine lv_if_ne (tgt := 37) hx hb dX5_ship_32 (by decide) (fun cc => absurd cc (by decide)) (fun _ => ?_)
        refine lv_iconst (v := (-1)) hx hb dX5_ship_35 (by decide) ?_
        exact w_iret X I hr hlk (by first | (rw [mShF, if_neg p_8]; done) | (rw [mShF, if_pos p_8, if_neg p_19]; done) | (rw [mShF, if_pos p_8, if_pos p_19, if_neg p_29]; done) | (rw [mShF, if_pos p_8, if_pos p_19, if_pos p_29, if_neg c_43]; done) | (rw [mShF, if_pos p_8, if_pos p_19, if_pos p_29, if_pos c_43]; rfl)) dX5_ship_36
    ·
      obtain rfl : r_19 = 0 := Eq.trans q_19 (if_neg p_19)
      refine lv_if_eq (tgt := 35) hx hb dX5_ship_22 (by decide) (fun _ => ?_) (fun cc => absurd cc (by decide))
      refine lv_iconst (v := (-1)) hx hb dX5_ship_35 (by decide) ?_
      exact w_iret X I hr hlk (by first | (rw [mShF, if_neg p_8]; done) | (rw [mShF, if_pos p_8, if_neg p_19]; done) | (rw [mShF, if_pos p_8, if_pos p_19, if_neg p_29]; done) | (rw [mShF, if_pos p_8, if_pos p_19, if_pos p_29, if_neg c_43]; done) | (rw [mShF, if_pos p_8, if_pos p_19, if_pos p_29, if_pos c_43]; rfl)) dX5_ship_36
  ·
    obtain rfl : r_8 = 0 := Eq.trans q_8 (if_neg p_8)
    refine lv_if_eq (tgt := 35) hx hb dX5_ship_11 (by decide) (fun _ => ?_) (fun cc => absurd cc (by decide))
    refine lv_iconst (v := (-1)) hx hb dX5_ship_35 (by decide) ?_
    exact w_iret X I hr hlk (by first | (rw [mShF, if_neg p_8]; done) | (rw [mShF, if_pos p_8, if_neg p_19]; done) | (rw [mShF, if_pos p_8, if_pos p_19, if_neg p_29]; done) | (rw [mShF, if_pos p_8, if_pos p_19, if_pos p_29, if_neg c_43]; done) | (rw [mShF, if_pos p_8, if_pos p_19, if_pos p_29, if_pos c_43]; rfl)) dX5_ship_36
end
section
variable {l : Launch} {g : wG} {α : Nat → Nat} {N : Nat} {σ : wS} {p : Program} {e : Env} {s : State} {m : MethodId} {args : Array Value} {below : List Frame} {meth : Method} {c : Code}
set_option maxHeartbeats 4000000 in
set_option maxRecDepth 100000 in
theorem lpX5_loads_5 {sz : Nat} (i ly : Nat) (mo : Int32) (X : wX p s m args c cX5_loads 6 RX5 g) (hsz : s.heap.size = sz) (hr : meth.sig.returnType = (some FieldType.int)) (hlk : meth.locks = false) (hN : 32 ≤ N) (hz : σ.1 14 4 = nI ly) (hly : ly ≤ 6) (hi : i < 10) : ∀ (fu : Nat) (k : Nat) (acc : Int32) (τ : wS), ly + 1 ≤ k + fu → k ≤ ly → τ = (mS σ i mo k).1 → acc = (mS σ i mo k).2 → ∀ (H : Heap) (locs : List Loc), wI g α N (wA α N sz) s.heap H locs τ → ∀ ls : Array Slot, lv_has ls 6 [(0, .ref (α 14)), (1, .int (nI i)), (2, .int mo), (3, .int acc), (4, .int (nI k))] → W p l e ({ frames := 0, cells := 0, slots := 0, locals := 0 } : Room) s m args below meth c H locs 0 0 (MQ below (va_Qi (fun r τ => r = (mS σ i mo ly).2 ∧ τ = (mS σ i mo ly).1) (wB g α N) (wA α N sz)) args s 0 0 (wA α N sz)) (F0 m 5 ls []) := by
  have hA : ∀ q, s.heap.size ≤ q → wA α N sz q := fun q h => Or.inr (by omega)
  have hx := X.1.1
  have hb := X.1.2.1
  intro fu
  induction fu with
  | zero =>
    intro k acc τ hfu hk hτ ha
    exact absurd hfu (by omega)
  | succ fu ih =>
    intro k acc τ hfu hk hτ ha H locs I ls hl
    have hz2 : τ.1 14 4 = nI ly := by rw [hτ]; exact (mS_o σ i mo (by decide) (by decide) (by decide) k).trans hz
    refine lv_iload hx hb dX5_loads_5 (lv_at hl 4 rfl) ?_
    refine lv_aload_n hx hb dX5_loads_7 rfl (lv_at hl 0 rfl) ?_
    refine fg5_4 X I (by omega) kfX5_73 dX5_loads_8 ?_
    refine w_eqi (y := nI ly) hz2 ?_
    refine lv_icmp_ge (tgt := 120) hx hb dX5_loads_11 (by decide) (fun c_11 => ?_) (fun c_11 => ?_)
    ·
      have e : k = ly := by have := nI_le' c_11 (by omega) (by omega); omega
      refine lv_iload_n hx hb dX5_loads_120 rfl (lv_at hl 3 rfl) ?_
      exact w_iret X I hr hlk (⟨by rw [ha, e], by rw [hτ, e]⟩) dX5_loads_121
    ·
      have hlt : k < ly := by
        rcases Nat.lt_or_ge k ly with q | q
        · exact q
        · exact absurd (nI_le q (by omega)) c_11
      refine lv_iload_n hx hb dX5_loads_14 rfl (lv_at hl 2 rfl) ?_
      refine lv_iload_n hx hb dX5_loads_15 rfl (lv_at hl 3 rfl) ?_
      refine lv_isub hx hb dX5_loads_16 ?_
      refine lv_istore (lv' := [(5, .int (mo - acc)), (0, .ref (α 14)), (1, .int (nI i)), (2, .int mo), (3, .int acc), (4, .int (nI k))]) hx hb dX5_loads_17 hl (by decide) rfl (fun ls hl => ?_)
      refine lv_aload_n hx hb dX5_loads_19 rfl (lv_at hl 1 rfl) ?_
      refine fg5_10 X I (by omega) kfX5_25 dX5_loads_20 ?_
      refine lv_iload_n hx hb dX5_loads_23 rfl (lv_at hl 2 rfl) ?_
      refine w_ld X I 20 (by omega) (n := 10) (k := i) (fun _ _ _ => rfl) rfl (by omega) (by decide) dX5_loads_24 ?_
      refine lv_iload hx hb dX5_loads_25 (lv_at hl 0 rfl) ?_
      refine lv_icmp_ge (tgt := 39) hx hb dX5_loads_27 (by decide) (fun c_27 => ?_) (fun c_27 => ?_)
      ·
        refine lv_iload hx hb dX5_loads_39 (lv_at hl 0 rfl) ?_
        refine lv_istore (lv' := [(5, .int (mo - acc)), (0, .ref (α 14)), (1, .int (nI i)), (2, .int mo), (3, .int acc), (4, .int (nI k))]) hx hb dX5_loads_41 hl (by decide) rfl (fun ls hl => ?_)
        refine lv_aload_n hx hb dX5_loads_43 rfl (lv_at hl 1 rfl) ?_
        refine fg5_5 X I (by omega) kfX5_13 dX5_loads_44 ?_
        refine lv_iload hx hb dX5_loads_47 (lv_at hl 5 rfl) ?_
        refine w_ld X I 16 (by omega) (n := 6) (k := k) (fun _ _ _ => rfl) rfl (by omega) (by decide) dX5_loads_49 ?_
        refine lv_iload hx hb dX5_loads_50 (lv_at hl 0 rfl) ?_
        refine lv_icmp_ge (tgt := 65) hx hb dX5_loads_52 (by decide) (fun c_52 => ?_) (fun c_52 => ?_)
        ·
          refine lv_iload hx hb dX5_loads_65 (lv_at hl 0 rfl) ?_
          refine lv_istore (lv' := [(5, .int (mo - acc)), (0, .ref (α 14)), (1, .int (nI i)), (2, .int mo), (3, .int acc), (4, .int (nI k))]) hx hb dX5_loads_67 hl (by decide) rfl (fun ls hl => ?_)
          refine lv_aload_n hx hb dX5_loads_69 rfl (lv_at hl 1 rfl) ?_
          refine fg5_5 X I (by omega) kfX5_13 dX5_loads_70 ?_
          refine lv_iload hx hb dX5_loads_73 (lv_at hl 5 rfl) ?_
          refine lv_dup2_11 hx hb dX5_loads_75 rfl rfl ?_
          refine w_ld X I 16 (by omega) (n := 6) (k := k) (fun _ _ _ => rfl) rfl (by omega) (by decide) dX5_loads_76 ?_
          refine lv_iload hx hb dX5_loads_77 (lv_at hl 0 rfl) ?_
          refine lv_isub hx hb dX5_loads_79 ?_
          refine w_st X I 16 (by omega) (n := 6) (k := k) (fun _ _ _ => rfl) rfl (by omega) (by decide) dX5_loads_80 (fun H locs I => ?_)
          refine lv_aload_n hx hb dX5_loads_81 rfl (lv_at hl 1 rfl) ?_
          refine fg5_13 X I (by omega) kfX5_34 dX5_loads_82 ?_
          refine lv_bipush (v := 6) hx hb dX5_loads_85 (by decide) ?_
          refine lv_iload_n hx hb dX5_loads_87 rfl (lv_at hl 2 rfl) ?_
          refine lv_imul hx hb dX5_loads_88 ?_
          refine w_eqi (y := nI (6 * i)) (pk_mul 6 _) ?_
          refine lv_iload hx hb dX5_loads_89 (lv_at hl 5 rfl) ?_
          refine lv_iadd hx hb dX5_loads_91 ?_
          refine w_eqi (y := nI (6 * i + k)) (nI_add _ _) ?_
          refine lv_dup2_11 hx hb dX5_loads_92 rfl rfl ?_
          refine w_ld X I 23 (by omega) (n := 60) (k := 6 * i + k) (fun _ _ _ => rfl) rfl (by omega) (by decide) dX5_loads_93 ?_
          refine w_eqi (y := τ.1 23 (6 * i + k)) (wu_o (by decide)) ?_
          refine lv_iload hx hb dX5_loads_94 (lv_at hl 0 rfl) ?_
          refine lv_iadd hx hb dX5_loads_96 ?_
          refine w_st X I 23 (by omega) (n := 60) (k := 6 * i + k) (fun _ _ _ => rfl) rfl (by omega) (by decide) dX5_loads_97 (fun H locs I => ?_)
          refine lv_aload_n hx hb dX5_loads_98 rfl (lv_at hl 1 rfl) ?_
          refine fg5_10 X I (by omega) kfX5_25 dX5_loads_99 ?_
          refine lv_iload_n hx hb dX5_loads_102 rfl (lv_at hl 2 rfl) ?_
          refine lv_dup2_11 hx hb dX5_loads_103 rfl rfl ?_
          refine w_ld X I 20 (by omega) (n := 10) (k := i) (fun _ _ _ => rfl) rfl (by omega) (by decide) dX5_loads_104 ?_
          refine w_eqi (y := τ.1 20 i) ((wu_o (by decide)).trans (wu_o (by decide))) ?_
          refine lv_iload hx hb dX5_loads_105 (lv_at hl 0 rfl) ?_
          refine lv_isub hx hb dX5_loads_107 ?_
          refine w_st X I 20 (by omega) (n := 10) (k := i) (fun _ _ _ => rfl) rfl (by omega) (by decide) dX5_loads_108 (fun H locs I => ?_)
          refine lv_iload_n hx hb dX5_loads_109 rfl (lv_at hl 4 rfl) ?_
          refine lv_iload hx hb dX5_loads_110 (lv_at hl 0 rfl) ?_
          refine lv_iadd hx hb dX5_loads_112 ?_
          refine lv_istore_n (lv' := [(3, .int (acc + (mo - acc))), (5, .int (mo - acc)), (0, .ref (α 14)), (1, .int (nI i)), (2, .int mo), (4, .int (nI k))]) hx hb dX5_loads_113 rfl hl (by decide) rfl (fun ls hl => ?_)
          refine lv_iinc (v := nI (k + 1)) (lv' := [(4, .int (nI (k + 1))), (3, .int (acc + (mo - acc))), (5, .int (mo - acc)), (0, .ref (α 14)), (1, .int (nI i)), (2, .int mo)]) hx hb dX5_loads_114 hl (k := 5) rfl (nI_1 _) (by decide) rfl (fun ls hl => ?_)
          refine lv_goto (tgt := 5) hx hb dX5_loads_117 (by decide) ?_
          exact ih (k + 1) (acc + (mo - acc)) (wu (wu (wu τ 16 k ((τ.1 16 k) - (mo - acc))) 23 (6 * i + k) ((τ.1 23 (6 * i + k)) + (mo - acc))) 20 i ((τ.1 20 i) - (mo - acc))) (by omega) (by omega) (by rw [mS, ← hτ, ← ha, mP]; first | (rw [if_pos c_27, if_pos c_52]; done) | (rw [if_pos c_27, if_neg c_52]; done) | (rw [if_neg c_27, if_pos c_52]; done) | (rw [if_neg c_27, if_neg c_52]; done)) (by rw [mS, ← hτ, ← ha, mP]; first | (rw [if_pos c_27, if_pos c_52]; done) | (rw [if_pos c_27, if_neg c_52]; done) | (rw [if_neg c_27, if_pos c_52]; done) | (rw [if_neg c_27, if_neg c_52]; done)) _ _ I ls (lv_sub hl [3, 4, 5, 1, 0] rfl)
        ·
          refine lv_aload_n hx hb dX5_loads_55 rfl (lv_at hl 1 rfl) ?_
          refine fg5_5 X I (by omega) kfX5_13 dX5_loads_56 ?_
          refine lv_iload hx hb dX5_loads_59 (lv_at hl 5 rfl) ?_
          refine w_ld X I 16 (by omega) (n := 6) (k := k) (fun _ _ _ => rfl) rfl (by omega) (by decide) dX5_loads_61 ?_
          refine lv_goto (tgt := 67) hx hb dX5_loads_62 (by decide) ?_
          refine lv_istore (lv' := [(5, .int (τ.1 16 k)), (0, .ref (α 14)), (1, .int (nI i)), (2, .int mo), (3, .int acc), (4, .int (nI k))]) hx hb dX5_loads_67 hl (by decide) rfl (fun ls hl => ?_)
          refine lv_aload_n hx hb dX5_loads_69 rfl (lv_at hl 1 rfl) ?_
          refine fg5_5 X I (by omega) kfX5_13 dX5_loads_70 ?_
          refine lv_iload hx hb dX5_loads_73 (lv_at hl 5 rfl) ?_
          refine lv_dup2_11 hx hb dX5_loads_75 rfl rfl ?_
          refine w_ld X I 16 (by omega) (n := 6) (k := k) (fun _ _ _ => rfl) rfl (by omega) (by decide) dX5_loads_76 ?_
          refine lv_iload hx hb dX5_loads_77 (lv_at hl 0 rfl) ?_
          refine lv_isub hx hb dX5_loads_79 ?_
          refine w_st X I 16 (by omega) (n := 6) (k := k) (fun _ _ _ => rfl) rfl (by omega) (by decide) dX5_loads_80 (fun H locs I => ?_)
          refine lv_aload_n hx hb dX5_loads_81 rfl (lv_at hl 1 rfl) ?_
          refine fg5_13 X I (by omega) kfX5_34 dX5_loads_82 ?_
          refine lv_bipush (v := 6) hx hb dX5_loads_85 (by decide) ?_
          refine lv_iload_n hx hb dX5_loads_87 rfl (lv_at hl 2 rfl) ?_
          refine lv_imul hx hb dX5_loads_88 ?_
          refine w_eqi (y := nI (6 * i)) (pk_mul 6 _) ?_
          refine lv_iload hx hb dX5_loads_89 (lv_at hl 5 rfl) ?_
          refine lv_iadd hx hb dX5_loads_91 ?_
          refine w_eqi (y := nI (6 * i + k)) (nI_add _ _) ?_
          refine lv_dup2_11 hx hb dX5_loads_92 rfl rfl ?_
          refine w_ld X I 23 (by omega) (n := 60) (k := 6 * i + k) (fun _ _ _ => rfl) rfl (by omega) (by decide) dX5_loads_93 ?_
          refine w_eqi (y := τ.1 23 (6 * i + k)) (wu_o (by decide)) ?_
          refine lv_iload hx hb dX5_loads_94 (lv_at hl 0 rfl) ?_
          refine lv_iadd hx hb dX5_loads_96 ?_
          refine w_st X I 23 (by omega) (n := 60) (k := 6 * i + k) (fun _ _ _ => rfl) rfl (by omega) (by decide) dX5_loads_97 (fun H locs I => ?_)
          refine lv_aload_n hx hb dX5_loads_98 rfl (lv_at hl 1 rfl) ?_
          refine fg5_10 X I (by omega) kfX5_25 dX5_loads_99 ?_
          refine lv_iload_n hx hb dX5_loads_102 rfl (lv_at hl 2 rfl) ?_
          refine lv_dup2_11 hx hb dX5_loads_103 rfl rfl ?_
          refine w_ld X I 20 (by omega) (n := 10) (k := i) (fun _ _ _ => rfl) rfl (by omega) (by decide) dX5_loads_104 ?_
          refine w_eqi (y := τ.1 20 i) ((wu_o (by decide)).trans (wu_o (by decide))) ?_
          refine lv_iload hx hb dX5_loads_105 (lv_at hl 0 rfl) ?_
          refine lv_isub hx hb dX5_loads_107 ?_
          refine w_st X I 20 (by omega) (n := 10) (k := i) (fun _ _ _ => rfl) rfl (by omega) (by decide) dX5_loads_108 (fun H locs I => ?_)
          refine lv_iload_n hx hb dX5_loads_109 rfl (lv_at hl 4 rfl) ?_
          refine lv_iload hx hb dX5_loads_110 (lv_at hl 0 rfl) ?_
          refine lv_iadd hx hb dX5_loads_112 ?_
          refine lv_istore_n (lv' := [(3, .int (acc + (τ.1 16 k))), (5, .int (τ.1 16 k)), (0, .ref (α 14)), (1, .int (nI i)), (2, .int mo), (4, .int (nI k))]) hx hb dX5_loads_113 rfl hl (by decide) rfl (fun ls hl => ?_)
          refine lv_iinc (v := nI (k + 1)) (lv' := [(4, .int (nI (k + 1))), (3, .int (acc + (τ.1 16 k))), (5, .int (τ.1 16 k)), (0, .ref (α 14)), (1, .int (nI i)), (2, .int mo)]) hx hb dX5_loads_114 hl (k := 5) rfl (nI_1 _) (by decide) rfl (fun ls hl => ?_)
          refine lv_goto (tgt := 5) hx hb dX5_loads_117 (by decide) ?_
          exact ih (k + 1) (acc + (τ.1 16 k)) (wu (wu (wu τ 16 k ((τ.1 16 k) - (τ.1 16 k))) 23 (6 * i + k) ((τ.1 23 (6 * i + k)) + (τ.1 16 k))) 20 i ((τ.1 20 i) - (τ.1 16 k))) (by omega) (by omega) (by rw [mS, ← hτ, ← ha, mP]; first | (rw [if_pos c_27, if_pos c_52]; done) | (rw [if_pos c_27, if_neg c_52]; done) | (rw [if_neg c_27, if_pos c_52]; done) | (rw [if_neg c_27, if_neg c_52]; done)) (by rw [mS, ← hτ, ← ha, mP]; first | (rw [if_pos c_27, if_pos c_52]; done) | (rw [if_pos c_27, if_neg c_52]; done) | (rw [if_neg c_27, if_pos c_52]; done) | (rw [if_neg c_27, if_neg c_52]; done)) _ _ I ls (lv_sub hl [3, 4, 5, 1, 0] rfl)
      ·
        refine lv_aload_n hx hb dX5_loads_30 rfl (lv_at hl 1 rfl) ?_
        refine fg5_10 X I (by omega) kfX5_25 dX5_loads_31 ?_
        refine lv_iload_n hx hb dX5_loads_34 rfl (lv_at hl 2 rfl) ?_
        refine w_ld X I 20 (by omega) (n := 10) (k := i) (fun _ _ _ => rfl) rfl (by omega) (by decide) dX5_loads_35 ?_
        refine lv_goto (tgt := 41) hx hb dX5_loads_36 (by decide) ?_
        refine lv_istore (lv' := [(5, .int (τ.1 20 i)), (0, .ref (α 14)), (1, .int (nI i)), (2, .int mo), (3, .int acc), (4, .int (nI k))]) hx hb dX5_loads_41 hl (by decide) rfl (fun ls hl => ?_)
        refine lv_aload_n hx hb dX5_loads_43 rfl (lv_at hl 1 rfl) ?_
        refine fg5_5 X I (by omega) kfX5_13 dX5_loads_44 ?_
        refine lv_iload hx hb dX5_loads_47 (lv_at hl 5 rfl) ?_
        refine w_ld X I 16 (by omega) (n := 6) (k := k) (fun _ _ _ => rfl) rfl (by omega) (by decide) dX5_loads_49 ?_
        refine lv_iload hx hb dX5_loads_50 (lv_at hl 0 rfl) ?_
        refine lv_icmp_ge (tgt := 65) hx hb dX5_loads_52 (by decide) (fun c_52 => ?_) (fun c_52 => ?_)
        ·
          refine lv_iload hx hb dX5_loads_65 (lv_at hl 0 rfl) ?_
          refine lv_istore (lv' := [(5, .int (τ.1 20 i)), (0, .ref (α 14)), (1, .int (nI i)), (2, .int mo), (3, .int acc), (4, .int (nI k))]) hx hb dX5_loads_67 hl (by decide) rfl (fun ls hl => ?_)
          refine lv_aload_n hx hb dX5_loads_69 rfl (lv_at hl 1 rfl) ?_
          refine fg5_5 X I (by omega) kfX5_13 dX5_loads_70 ?_
          refine lv_iload hx hb dX5_loads_73 (lv_at hl 5 rfl) ?_
          refine lv_dup2_11 hx hb dX5_loads_75 rfl rfl ?_
          refine w_ld X I 16 (by omega) (n := 6) (k := k) (fun _ _ _ => rfl) rfl (by omega) (by decide) dX5_loads_76 ?_
          refine lv_iload hx hb dX5_loads_77 (lv_at hl 0 rfl) ?_
          refine lv_isub hx hb dX5_loads_79 ?_
          refine w_st X I 16 (by omega) (n := 6) (k := k) (fun _ _ _ => rfl) rfl (by omega) (by decide) dX5_loads_80 (fun H locs I => ?_)
          refine lv_aload_n hx hb dX5_loads_81 rfl (lv_at hl 1 rfl) ?_
          refine fg5_13 X I (by omega) kfX5_34 dX5_loads_82 ?_
          refine lv_bipush (v := 6) hx hb dX5_loads_85 (by decide) ?_
          refine lv_iload_n hx hb dX5_loads_87 rfl (lv_at hl 2 rfl) ?_
          refine lv_imul hx hb dX5_loads_88 ?_
          refine w_eqi (y := nI (6 * i)) (pk_mul 6 _) ?_
          refine lv_iload hx hb dX5_loads_89 (lv_at hl 5 rfl) ?_
          refine lv_iadd hx hb dX5_loads_91 ?_
          refine w_eqi (y := nI (6 * i + k)) (nI_add _ _) ?_
          refine lv_dup2_11 hx hb dX5_loads_92 rfl rfl ?_
          refine w_ld X I 23 (by omega) (n := 60) (k := 6 * i + k) (fun _ _ _ => rfl) rfl (by omega) (by decide) dX5_loads_93 ?_
          refine w_eqi (y := τ.1 23 (6 * i + k)) (wu_o (by decide)) ?_
          refine lv_iload hx hb dX5_loads_94 (lv_at hl 0 rfl) ?_
          refine lv_iadd hx hb dX5_loads_96 ?_
          refine w_st X I 23 (by omega) (n := 60) (k := 6 * i + k) (fun _ _ _ => rfl) rfl (by omega) (by decide) dX5_loads_97 (fun H locs I => ?_)
          refine lv_aload_n hx hb dX5_loads_98 rfl (lv_at hl 1 rfl) ?_
          refine fg5_10 X I (by omega) kfX5_25 dX5_loads_99 ?_
          refine lv_iload_n hx hb dX5_loads_102 rfl (lv_at hl 2 rfl) ?_
          refine lv_dup2_11 hx hb dX5_loads_103 rfl rfl ?_
          refine w_ld X I 20 (by omega) (n := 10) (k := i) (fun _ _ _ => rfl) rfl (by omega) (by decide) dX5_loads_104 ?_
          refine w_eqi (y := τ.1 20 i) ((wu_o (by decide)).trans (wu_o (by decide))) ?_
          refine lv_iload hx hb dX5_loads_105 (lv_at hl 0 rfl) ?_
          refine lv_isub hx hb dX5_loads_107 ?_
          refine w_st X I 20 (by omega) (n := 10) (k := i) (fun _ _ _ => rfl) rfl (by omega) (by decide) dX5_loads_108 (fun H locs I => ?_)
          refine lv_iload_n hx hb dX5_loads_109 rfl (lv_at hl 4 rfl) ?_
          refine lv_iload hx hb dX5_loads_110 (lv_at hl 0 rfl) ?_
          refine lv_iadd hx hb dX5_loads_112 ?_
          refine lv_istore_n (lv' := [(3, .int (acc + (τ.1 20 i))), (5, .int (τ.1 20 i)), (0, .ref (α 14)), (1, .int (nI i)), (2, .int mo), (4, .int (nI k))]) hx hb dX5_loads_113 rfl hl (by decide) rfl (fun ls hl => ?_)
          refine lv_iinc (v := nI (k + 1)) (lv' := [(4, .int (nI (k + 1))), (3, .int (acc + (τ.1 20 i))), (5, .int (τ.1 20 i)), (0, .ref (α 14)), (1, .int (nI i)), (2, .int mo)]) hx hb dX5_loads_114 hl (k := 5) rfl (nI_1 _) (by decide) rfl (fun ls hl => ?_)
          refine lv_goto (tgt := 5) hx hb dX5_loads_117 (by decide) ?_
          exact ih (k + 1) (acc + (τ.1 20 i)) (wu (wu (wu τ 16 k ((τ.1 16 k) - (τ.1 20 i))) 23 (6 * i + k) ((τ.1 23 (6 * i + k)) + (τ.1 20 i))) 20 i ((τ.1 20 i) - (τ.1 20 i))) (by omega) (by omega) (by rw [mS, ← hτ, ← ha, mP]; first | (rw [if_pos c_27, if_pos c_52]; done) | (rw [if_pos c_27, if_neg c_52]; done) | (rw [if_neg c_27, if_pos c_52]; done) | (rw [if_neg c_27, if_neg c_52]; done)) (by rw [mS, ← hτ, ← ha, mP]; first | (rw [if_pos c_27, if_pos c_52]; done) | (rw [if_pos c_27, if_neg c_52]; done) | (rw [if_neg c_27, if_pos c_52]; done) | (rw [if_neg c_27, if_neg c_52]; done)) _ _ I ls (lv_sub hl [3, 4, 5, 1, 0] rfl)
        ·
          refine lv_aload_n hx hb dX5_loads_55 rfl (lv_at hl 1 rfl) ?_
          refine fg5_5 X I (by omega) kfX5_13 dX5_loads_56 ?_
          refine lv_iload hx hb dX5_loads_59 (lv_at hl 5 rfl) ?_
          refine w_ld X I 16 (by omega) (n := 6) (k := k) (fun _ _ _ => rfl) rfl (by omega) (by decide) dX5_loads_61 ?_
          refine lv_goto (tgt := 67) hx hb dX5_loads_62 (by decide) ?_
          refine lv_istore (lv' := [(5, .int (τ.1 16 k)), (0, .ref (α 14)), (1, .int (nI i)), (2, .int mo), (3, .int acc), (4, .int (nI k))]) hx hb dX5_loads_67 hl (by decide) rfl (fun ls hl => ?_)
          refine lv_aload_n hx hb dX5_loads_69 rfl (lv_at hl 1 rfl) ?_
          refine fg5_5 X I (by omega) kfX5_13 dX5_loads_70 ?_
          refine lv_iload hx hb dX5_loads_73 (lv_at hl 5 rfl) ?_
          refine lv_dup2_11 hx hb dX5_loads_75 rfl rfl ?_
          refine w_ld X I 16 (by omega) (n := 6) (k := k) (fun _ _ _ => rfl) rfl (by omega) (by decide) dX5_loads_76 ?_
          refine lv_iload hx hb dX5_loads_77 (lv_at hl 0 rfl) ?_
          refine lv_isub hx hb dX5_loads_79 ?_
          refine w_st X I 16 (by omega) (n := 6) (k := k) (fun _ _ _ => rfl) rfl (by omega) (by decide) dX5_loads_80 (fun H locs I => ?_)
          refine lv_aload_n hx hb dX5_loads_81 rfl (lv_at hl 1 rfl) ?_
          refine fg5_13 X I (by omega) kfX5_34 dX5_loads_82 ?_
          refine lv_bipush (v := 6) hx hb dX5_loads_85 (by decide) ?_
          refine lv_iload_n hx hb dX5_loads_87 rfl (lv_at hl 2 rfl) ?_
          refine lv_imul hx hb dX5_loads_88 ?_
          refine w_eqi (y := nI (6 * i)) (pk_mul 6 _) ?_
          refine lv_iload hx hb dX5_loads_89 (lv_at hl 5 rfl) ?_
          refine lv_iadd hx hb dX5_loads_91 ?_
          refine w_eqi (y := nI (6 * i + k)) (nI_add _ _) ?_
          refine lv_dup2_11 hx hb dX5_loads_92 rfl rfl ?_
          refine w_ld X I 23 (by omega) (n := 60) (k := 6 * i + k) (fun _ _ _ => rfl) rfl (by omega) (by decide) dX5_loads_93 ?_
          refine w_eqi (y := τ.1 23 (6 * i + k)) (wu_o (by decide)) ?_
          refine lv_iload hx hb dX5_loads_94 (lv_at hl 0 rfl) ?_
          refine lv_iadd hx hb dX5_loads_96 ?_
          refine w_st X I 23 (by omega) (n := 60) (k := 6 * i + k) (fun _ _ _ => rfl) rfl (by omega) (by decide) dX5_loads_97 (fun H locs I => ?_)
          refine lv_aload_n hx hb dX5_loads_98 rfl (lv_at hl 1 rfl) ?_
          refine fg5_10 X I (by omega) kfX5_25 dX5_loads_99 ?_
          refine lv_iload_n hx hb dX5_loads_102 rfl (lv_at hl 2 rfl) ?_
          refine lv_dup2_11 hx hb dX5_loads_103 rfl rfl ?_
          refine w_ld X I 20 (by omega) (n := 10) (k := i) (fun _ _ _ => rfl) rfl (by omega) (by decide) dX5_loads_104 ?_
          refine w_eqi (y := τ.1 20 i) ((wu_o (by decide)).trans (wu_o (by decide))) ?_
          refine lv_iload hx hb dX5_loads_105 (lv_at hl 0 rfl) ?_
          refine lv_isub hx hb dX5_loads_107 ?_
          refine w_st X I 20 (by omega) (n := 10) (k := i) (fun _ _ _ => rfl) rfl (by omega) (by decide) dX5_loads_108 (fun H locs I => ?_)
          refine lv_iload_n hx hb dX5_loads_109 rfl (lv_at hl 4 rfl) ?_
          refine lv_iload hx hb dX5_loads_110 (lv_at hl 0 rfl) ?_
          refine lv_iadd hx hb dX5_loads_112 ?_
          refine lv_istore_n (lv' := [(3, .int (acc + (τ.1 16 k))), (5, .int (τ.1 16 k)), (0, .ref (α 14)), (1, .int (nI i)), (2, .int mo), (4, .int (nI k))]) hx hb dX5_loads_113 rfl hl (by decide) rfl (fun ls hl => ?_)
          refine lv_iinc (v := nI (k + 1)) (lv' := [(4, .int (nI (k + 1))), (3, .int (acc + (τ.1 16 k))), (5, .int (τ.1 16 k)), (0, .ref (α 14)), (1, .int (nI i)), (2, .int mo)]) hx hb dX5_loads_114 hl (k := 5) rfl (nI_1 _) (by decide) rfl (fun ls hl => ?_)
          refine lv_goto (tgt := 5) hx hb dX5_loads_117 (by decide) ?_
          exact ih (k + 1) (acc + (τ.1 16 k)) (wu (wu (wu τ 16 k ((τ.1 16 k) - (τ.1 16 k))) 23 (6 * i + k) ((τ.1 23 (6 * i + k)) + (τ.1 16 k))) 20 i ((τ.1 20 i) - (τ.1 16 k))) (by omega) (by omega) (by rw [mS, ← hτ, ← ha, mP]; first | (rw [if_pos c_27, if_pos c_52]; done) | (rw [if_pos c_27, if_neg c_52]; done) | (rw [if_neg c_27, if_pos c_52]; done) | (rw [if_neg c_27, if_neg c_52]; done)) (by rw [mS, ← hτ, ← ha, mP]; first | (rw [if_pos c_27, if_pos c_52]; done) | (rw [if_pos c_27, if_neg c_52]; done) | (rw [if_neg c_27, if_pos c_52]; done) | (rw [if_neg c_27, if_neg c_52]; done)) _ _ I ls (lv_sub hl [3, 4, 5, 1, 0] rfl)
set_option maxHeartbeats 4000000 in
set_option maxRecDepth 100000 in
theorem ctX5_loads (l : Launch) (g : wG) (α : Nat → Nat) (N : Nat) (σ : wS) (sz : Nat) (i ly : Nat) (mo : Int32) (hN : 32 ≤ N) (hz : σ.1 14 4 = nI ly) (hly : ly ≤ 6) (hi : i < 10) : Met l yX5_loads (wM yX5_loads cX5_loads 6 (some FieldType.int)) ({ frames := 0, cells := 0, slots := 0, locals := 0 } : Room) (wPs g α N sz σ [.ref (α 14), .int (nI i), .int mo]) (va_Qi (fun r τ => r = (mS σ i mo ly).2 ∧ τ = (mS σ i mo ly).1) (wB g α N) (wA α N sz)) 0 0 (wA α N sz) := by
  refine w_enter (by decide) (Nat.le_of_ble_eq_true rfl) (fun p e s m args below meth c hsz X I hr hlk ls hl => ?_)
  have hA : ∀ q, s.heap.size ≤ q → wA α N sz q := fun q h => Or.inr (by omega)
  have hx := X.1.1
  have hb := X.1.2.1
  have hl : lv_has ls 6 [(0, .ref (α 14)), (1, .int (nI i)), (2, .int mo)] := hl
  refine lv_iconst (v := 0) hx hb dX5_loads_0 (by decide) ?_
  refine lv_istore_n (lv' := [(3, .int 0), (0, .ref (α 14)), (1, .int (nI i)), (2, .int mo)]) hx hb dX5_loads_1 rfl hl (by decide) rfl (fun ls hl => ?_)
  refine lv_iconst (v := 0) hx hb dX5_loads_2 (by decide) ?_
  refine lv_istore (lv' := [(4, .int 0), (3, .int 0), (0, .ref (α 14)), (1, .int (nI i)), (2, .int mo)]) hx hb dX5_loads_3 hl (by decide) rfl (fun ls hl => ?_)
  exact lpX5_loads_5 i ly mo X hsz hr hlk hN hz hly hi  (ly + 1) 0 0 σ (by omega) (by omega) rfl rfl _ _ I ls (lv_sub hl [2, 3, 4, 1, 0] rfl)
end
