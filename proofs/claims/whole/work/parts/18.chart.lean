section
variable {l : Launch} {g : wG} {α : Nat → Nat} {N : Nat} {σ : wS} {p : Program} {e : Env} {s : State} {m : MethodId} {args : Array Value} {below : List Frame} {meth : Method} {c : Code}
set_option maxHeartbeats 1000000 in
set_option maxRecDepth 100000 in
theorem lpX4_days_29 {sz : Nat} (b : Int32) (n d ly : Nat) (X : wX p s m args c cX4_days 3 RX4 g) (hsz : s.heap.size = sz) (hr : meth.sig.returnType = (some FieldType.int)) (hlk : meth.locks = false) (hn : σ.1 0 7 = nI n) (hn10 : n ≤ 10) (hN : 32 + 4 * n ≤ N) (hd : σ.1 0 6 = nI d) (hd200 : d ≤ 200) (hz : σ.1 2 2 = nI ly) (hly : ly ≤ 6) (hR : ∀ k, k < n → σ.2.2 5 k = some (32 + 4 * k)) (hB : ∀ k x, σ.2.2 6 k = some x → x < 32 + 4 * n) : ∀ (fu : Nat) (m2 : Nat) (j : Nat) (τ : wS), (m2 + 1 ≤ j + fu) → (b = nI m2) → (¬ b < 1 ∧ ¬ 20 < b) → (nI d + b ≤ 200) → (m2 ≤ 20 ∧ d + m2 ≤ 200) → (j ≤ m2) → (chX σ n d ly j τ) → (τ.1 0 6 = nI (d + j)) → (τ.1 0 7 = nI n) → (τ.1 2 2 = nI ly) → (τ.2.2 5 = σ.2.2 5) → (∀ k x, τ.2.2 6 k = some x → x < 32 + 4 * n) → ∀ (H : Heap) (locs : List Loc), wI g α N (wA α N sz) s.heap H locs τ → ∀ ls : Array Slot, lv_has ls 3 [(0, .ref (α 0)), (1, .int (nI m2)), (2, .int (nI j))] → W p l e ({ frames := 4, cells := 0, slots := 0, locals := 101 } : Room) s m args below meth c H locs 0 0 (MQ below (va_Qi (fun r τ => (∃ m2, b = nI m2 ∧ (¬ b < 1 ∧ ¬ 20 < b) ∧ nI d + b ≤ 200 ∧ d + m2 ≤ 200 ∧ r = nI (d + m2) ∧ chX σ n d ly m2 τ) ∨ ((¬ b < 1 ∧ ¬ 20 < b) ∧ ¬ nI d + b ≤ 200 ∧ r = (-2) ∧ τ = σ) ∨ (¬ (¬ b < 1 ∧ ¬ 20 < b) ∧ r = (-1) ∧ τ = σ)) (wB g α N) (wA α N sz)) args s 0 0 (wA α N sz)) (F0 m 29 ls []) := by
  have hA : ∀ q, s.heap.size ≤ q → wA α N sz q := fun q h => Or.inr (by omega)
  have hx := X.1.1
  have hb := X.1.2.1
  intro fu
  induction fu with
  | zero =>
    intro m2 j τ hfu hb2 hp1 hp2 hm hj hch h06 h07 h22 hR5 hB6
    exact absurd hfu (by omega)
  | succ fu ih =>
    intro m2 j τ hfu hb2 hp1 hp2 hm hj hch h06 h07 h22 hR5 hB6 H locs I ls hl
    refine lv_iload_n hx hb dX4_days_29 rfl (lv_at hl 2 rfl) ?_
    refine lv_iload_n hx hb dX4_days_30 rfl (lv_at hl 1 rfl) ?_
    refine lv_icmp_ge (tgt := 44) hx hb dX4_days_31 (by decide) (fun c_31 => ?_) (fun c_31 => ?_)
    ·
      have e : j = m2 := by have := nI_le' c_31 (by omega) (by omega); omega
      refine lv_aload_n hx hb dX4_days_44 rfl (lv_at hl 0 rfl) ?_
      refine fg4_6 X I (by omega) kfX4_43 dX4_days_45 ?_
      refine w_eqi (y := nI (d + j)) h06 ?_
      exact w_iret X I hr hlk (Or.inl ⟨m2, hb2, hp1, hp2, hm.2, by rw [e], e ▸ hch⟩) dX4_days_48
    ·
      have hlt : j < m2 := by
        rcases Nat.lt_or_ge j m2 with q | q
        · exact q
        · exact absurd (nI_le q (by omega)) c_31
      refine lv_aload_n hx hb dX4_days_34 rfl (lv_at hl 0 rfl) ?_
      refine w_vv X I hA 0 (by omega) rfl rfl (As := []) (rest := []) (ctX4_letOneDayGo l g α N τ _ n (d + j) ly h07 hn10 hN h06 (by omega) h22 hly (fun k hk => by rw [hR5]; exact hR k hk) hB6) (wM_V kmX4_92 ki_X4_letOneDayGo ks_X4_letOneDayGo kn_X4 kc_X4_letOneDayGo) rfl rfl (n := 0) (by decide +kernel) rfl ⟨by decide, by decide⟩ hl.1 rfl (Nat.le_of_ble_eq_true rfl) ⟨Nat.zero_le _, Nat.zero_le _⟩ dX4_days_35 (fun τ2 H locs q_35 I => ?_)
      replace q_35 : dX τ τ2 n (d + j) ly := q_35
      have hkp := dX_keep q_35
      refine lv_iinc (v := nI (j + 1)) (lv' := [(2, .int (nI (j + 1))), (0, .ref (α 0)), (1, .int (nI m2))]) hx hb dX4_days_38 hl (k := 2) rfl (nI_1 _) (by decide) rfl (fun ls hl => ?_)
      refine lv_goto (tgt := 29) hx hb dX4_days_41 (by decide) ?_
      exact ih m2 (j + 1) τ2 (by omega) hb2 hp1 hp2 hm (by omega) (⟨τ, hch, q_35⟩) hkp.1 (hkp.2.1.trans h07) (hkp.2.2.1.trans h22) (hkp.2.2.2.1.trans hR5) hkp.2.2.2.2 _ _ I ls (lv_sub hl [1, 2, 0] rfl)
set_option maxHeartbeats 1000000 in
set_option maxRecDepth 100000 in
theorem ctX4_days (l : Launch) (g : wG) (α : Nat → Nat) (N : Nat) (σ : wS) (sz : Nat) (b : Int32) (n d ly : Nat) (hn : σ.1 0 7 = nI n) (hn10 : n ≤ 10) (hN : 32 + 4 * n ≤ N) (hd : σ.1 0 6 = nI d) (hd200 : d ≤ 200) (hz : σ.1 2 2 = nI ly) (hly : ly ≤ 6) (hR : ∀ k, k < n → σ.2.2 5 k = some (32 + 4 * k)) (hB : ∀ k x, σ.2.2 6 k = some x → x < 32 + 4 * n) : Met l yX4_days (wM yX4_days cX4_days 3 (some FieldType.int)) ({ frames := 4, cells := 0, slots := 0, locals := 101 } : Room) (wPs g α N sz σ [.ref (α 0), .int b]) (va_Qi (fun r τ => (∃ m2, b = nI m2 ∧ (¬ b < 1 ∧ ¬ 20 < b) ∧ nI d + b ≤ 200 ∧ d + m2 ≤ 200 ∧ r = nI (d + m2) ∧ chX σ n d ly m2 τ) ∨ ((¬ b < 1 ∧ ¬ 20 < b) ∧ ¬ nI d + b ≤ 200 ∧ r = (-2) ∧ τ = σ) ∨ (¬ (¬ b < 1 ∧ ¬ 20 < b) ∧ r = (-1) ∧ τ = σ)) (wB g α N) (wA α N sz)) 0 0 (wA α N sz) := by
  refine w_enter (by decide) (Nat.le_of_ble_eq_true rfl) (fun p e s m args below meth c hsz X I hr hlk ls hl => ?_)
  have hA : ∀ q, s.heap.size ≤ q → wA α N sz q := fun q h => Or.inr (by omega)
  have hx := X.1.1
  have hb := X.1.2.1
  have hl : lv_has ls 3 [(0, .ref (α 0)), (1, .int b)] := hl
  refine lv_iload_n hx hb dX4_days_0 rfl (lv_at hl 1 rfl) ?_
  refine lv_iconst (v := 1) hx hb dX4_days_1 (by decide) ?_
  refine lv_bipush (v := 20) hx hb dX4_days_2 (by decide) ?_
  refine w_sSi X I (As := [.int b, .int 1, .int 20]) (rest := []) (ctX4_within l g α N σ _ _ _ ) (wM_S kmX4_57 kt_X4_within kn_X4 kc_X4_within) rfl rfl (n := 3) (by decide +kernel) rfl ⟨by decide, by decide⟩ hl.1 rfl (Nat.le_of_ble_eq_true rfl) ⟨Nat.zero_le _, Nat.zero_le _⟩ dX4_days_4 (fun r_4 q_4 => ?_)
  by_cases p_4 : ¬ b < 1 ∧ ¬ 20 < b
  ·
    obtain rfl : r_4 = 1 := Eq.trans q_4 (if_pos p_4)
    refine lv_if_ne (tgt := 12) hx hb dX4_days_7 (by decide) (fun _ => ?_) (fun cc => absurd cc (by decide))
    refine lv_aload_n hx hb dX4_days_12 rfl (lv_at hl 0 rfl) ?_
    refine fg4_6 X I (by omega) kfX4_43 dX4_days_13 ?_
    refine w_eqi (y := nI d) hd ?_
    refine lv_iload_n hx hb dX4_days_16 rfl (lv_at hl 1 rfl) ?_
    refine lv_iadd hx hb dX4_days_17 ?_
    refine lv_sipush (v := 200) hx hb dX4_days_18 (by decide) ?_
    refine lv_icmp_le (tgt := 27) hx hb dX4_days_21 (by decide) (fun c_21 => ?_) (fun c_21 => ?_)
    ·
      obtain ⟨m2, hm2, rfl⟩ : ∃ m2, m2 ≤ 20 ∧ b = nI m2 := nI_btw (n := 20) (fun z => p_4.1 (Int32.lt_trans z (by decide))) p_4.2 (by decide)
      have hm : d + m2 ≤ 200 := by rw [nI_add] at c_21; exact nI_le' (b := 200) c_21 (by omega) (by decide)
      refine lv_iconst (v := 0) hx hb dX4_days_27 (by decide) ?_
      refine lv_istore_n (lv' := [(2, .int 0), (0, .ref (α 0)), (1, .int (nI m2))]) hx hb dX4_days_28 rfl hl (by decide) rfl (fun ls hl => ?_)
      exact lpX4_days_29 (nI m2) n d ly X hsz hr hlk hn hn10 hN hd hd200 hz hly hR hB  (m2 + 1) m2 0 σ (by omega) rfl p_4 c_21 (⟨hm2, hm⟩) (by omega) rfl hd hn hz rfl hB _ _ I ls (lv_sub hl [1, 2, 0] rfl)
    ·
      refine lv_bipush (v := (-2)) hx hb dX4_days_24 (by decide) ?_
      exact w_iret X I hr hlk (Or.inr (Or.inl ⟨p_4, c_21, rfl, rfl⟩)) dX4_days_26
  ·
    obtain rfl : r_4 = 0 := Eq.trans q_4 (if_neg p_4)
    refine lv_if_ne (tgt := 12) hx hb dX4_days_7 (by decide) (fun cc => absurd cc (by decide)) (fun _ => ?_)
    refine lv_iconst (v := (-1)) hx hb dX4_days_10 (by decide) ?_
    exact w_iret X I hr hlk (Or.inr (Or.inr ⟨p_4, rfl, rfl⟩)) dX4_days_11
end
section
variable {l : Launch} {g : wG} {α : Nat → Nat} {N : Nat} {σ : wS} {p : Program} {e : Env} {s : State} {m : MethodId} {args : Array Value} {below : List Frame} {meth : Method} {c : Code}
set_option maxHeartbeats 1000000 in
set_option maxRecDepth 100000 in
theorem ctX0_takesNumber (l : Launch) (g : wG) (α : Nat → Nat) (N : Nat) (σ : wS) (a : Int32)  : Met l yX0_takesNumber (wM yX0_takesNumber cX0_takesNumber 1 (some FieldType.boolean)) ({ frames := 0, cells := 0, slots := 0, locals := 0 } : Room) (wPc g α N σ [.int a]) (vp_Si (fun r => r = if ¬ a < 0 ∧ ¬ 2 < a then 1 else 0)) 0 0 (fun _ => False) := by
  refine w_enterS (by decide) (Nat.le_of_ble_eq_true rfl) (fun p e s m args below meth c X I hr hlk ls hl => ?_)
  have hx := X.1.1
  have hb := X.1.2.1
  have hl : lv_has ls 1 [(0, .int a)] := hl
  refine lv_iload_n hx hb dX0_takesNumber_0 rfl (lv_at hl 0 rfl) ?_
  refine lv_if_lt (tgt := 13) hx hb dX0_takesNumber_1 (by decide) (fun c_1 => ?_) (fun c_1 => ?_)
  ·
    refine lv_iconst (v := 0) hx hb dX0_takesNumber_13 (by decide) ?_
    exact w_zretS X hr hlk (Or.inl rfl) (by simp [c_1]) dX0_takesNumber_14
  ·
    refine lv_iload_n hx hb dX0_takesNumber_4 rfl (lv_at hl 0 rfl) ?_
    refine lv_iconst (v := 2) hx hb dX0_takesNumber_5 (by decide) ?_
    refine lv_icmp_gt (tgt := 13) hx hb dX0_takesNumber_6 (by decide) (fun c_6 => ?_) (fun c_6 => ?_)
    ·
      refine lv_iconst (v := 0) hx hb dX0_takesNumber_13 (by decide) ?_
      exact w_zretS X hr hlk (Or.inl rfl) (by simp [c_1, c_6]) dX0_takesNumber_14
    ·
      refine lv_iconst (v := 1) hx hb dX0_takesNumber_9 (by decide) ?_
      refine lv_goto (tgt := 14) hx hb dX0_takesNumber_10 (by decide) ?_
      exact w_zretS X hr hlk (Or.inr rfl) (by simp [c_1, c_6]) dX0_takesNumber_14
end
section
variable {l : Launch} {g : wG} {α : Nat → Nat} {N : Nat} {σ : wS} {p : Program} {e : Env} {s : State} {m : MethodId} {args : Array Value} {below : List Frame} {meth : Method} {c : Code}
set_option maxHeartbeats 1000000 in
set_option maxRecDepth 100000 in
theorem ctX0_addDigit (l : Launch) (g : wG) (α : Nat → Nat) (N : Nat) (σ : wS) (sz : Nat) (o : Nat) (x : Int32) (hN : 32 ≤ N) (ho : o < 6) : Met l yX0_addDigit (wM yX0_addDigit cX0_addDigit 3 (some FieldType.boolean)) ({ frames := 0, cells := 0, slots := 0, locals := 0 } : Room) (wPs g α N sz σ [.ref (α 7), .int (nI o), .int x]) (va_Qi (fun r τ => τ = wu σ 9 o (10 * σ.1 9 o + x) ∧ r = if ¬ 999 < 10 * σ.1 9 o + x then 1 else 0) (wB g α N) (wA α N sz)) 0 0 (wA α N sz) := by
  refine w_enter (by decide) (Nat.le_of_ble_eq_true rfl) (fun p e s m args below meth c hsz X I hr hlk ls hl => ?_)
  have hA : ∀ q, s.heap.size ≤ q → wA α N sz q := fun q h => Or.inr (by omega)
  have hx := X.1.1
  have hb := X.1.2.1
  have hl : lv_has ls 3 [(0, .ref (α 7)), (1, .int (nI o)), (2, .int x)] := hl
  refine lv_aload_n hx hb dX0_addDigit_0 rfl (lv_at hl 0 rfl) ?_
  refine fg0_1 X I (by omega) kfX0_15 dX0_addDigit_1 ?_
  refine lv_iload_n hx hb dX0_addDigit_4 rfl (lv_at hl 1 rfl) ?_
  refine lv_bipush (v := 10) hx hb dX0_addDigit_5 (by decide) ?_
  refine lv_aload_n hx hb dX0_addDigit_7 rfl (lv_at hl 0 rfl) ?_
  refine fg0_1 X I (by omega) kfX0_15 dX0_addDigit_8 ?_
  refine lv_iload_n hx hb dX0_addDigit_11 rfl (lv_at hl 1 rfl) ?_
  refine w_ld X I 9 (by omega) (n := 6) (k := o) (fun _ _ _ => rfl) rfl (by omega) (by decide) dX0_addDigit_12 ?_
  refine lv_imul hx hb dX0_addDigit_13 ?_
  refine lv_iload_n hx hb dX0_addDigit_14 rfl (lv_at hl 2 rfl) ?_
  refine lv_iadd hx hb dX0_addDigit_15 ?_
  refine w_st X I 9 (by omega) (n := 6) (k := o) (fun _ _ _ => rfl) rfl (by omega) (by decide) dX0_addDigit_16 (fun H locs I => ?_)
  refine lv_aload_n hx hb dX0_addDigit_17 rfl (lv_at hl 0 rfl) ?_
  refine fg0_1 X I (by omega) kfX0_15 dX0_addDigit_18 ?_
  refine lv_iload_n hx hb dX0_addDigit_21 rfl (lv_at hl 1 rfl) ?_
  refine w_ld X I 9 (by omega) (n := 6) (k := o) (fun _ _ _ => rfl) rfl (by omega) (by decide) dX0_addDigit_22 ?_
  refine w_eqi (y := (10 * (σ.1 9 o)) + x) wu_s ?_
  refine lv_sipush (v := 999) hx hb dX0_addDigit_23 (by decide) ?_
  refine lv_icmp_gt (tgt := 33) hx hb dX0_addDigit_26 (by decide) (fun c_26 => ?_) (fun c_26 => ?_)
  ·
    refine lv_iconst (v := 0) hx hb dX0_addDigit_33 (by decide) ?_
    exact w_zret X I hr hlk (Or.inl rfl) (⟨rfl, by first | exact (if_pos c_26).symm | exact (if_neg (fun z => z c_26)).symm⟩) dX0_addDigit_34
  ·
    refine lv_iconst (v := 1) hx hb dX0_addDigit_29 (by decide) ?_
    refine lv_goto (tgt := 34) hx hb dX0_addDigit_30 (by decide) ?_
    exact w_zret X I hr hlk (Or.inr rfl) (⟨rfl, by first | exact (if_pos c_26).symm | exact (if_neg (fun z => z c_26)).symm⟩) dX0_addDigit_34
end
section
variable {l : Launch} {g : wG} {α : Nat → Nat} {N : Nat} {σ : wS} {p : Program} {e : Env} {s : State} {m : MethodId} {args : Array Value} {below : List Frame} {meth : Method} {c : Code}
theorem itm_off {a : Int32} (h0 : ¬ a = 108) (h1 : ¬ a = 100) (h2 : ¬ a = 98) (h3 : ¬ a = 120) (h4 : ¬ a = 104) (h5 : ¬ a = 119) : Op.lookupswitch.offset [(98, 63), (100, 61), (104, 67), (108, 59), (119, 69), (120, 65)] 71 a.toInt = 71 := by
  have k : ∀ (c : Int32) (z : Int), c.toInt = z → ¬ a = c → ¬ z = a.toInt := fun c z hz hn e => hn (Int32.toInt_inj.mp (by rw [← e, hz]))
  have k0 := k 108 108 rfl h0
  have k1 := k 100 100 rfl h1
  have k2 := k 98 98 rfl h2
  have k3 := k 120 120 rfl h3
  have k4 := k 104 104 rfl h4
  have k5 := k 119 119 rfl h5
  simp [Op.lookupswitch.offset, k0, k1, k2, k3, k4, k5, eq_comm, Ne.symm k0, Ne.symm k1, Ne.symm k2, Ne.symm k3, Ne.symm k4, Ne.symm k5]
set_option maxHeartbeats 1000000 in
set_option maxRecDepth 100000 in
theorem ctX0_termOf (l : Launch) (g : wG) (α : Nat → Nat) (N : Nat) (σ : wS) (a : Int32)  : Met l yX0_termOf (wM yX0_termOf cX0_termOf 1 (some FieldType.int)) ({ frames := 0, cells := 0, slots := 0, locals := 0 } : Room) (wPc g α N σ [.int a]) (vp_Si (fun r => r = opI (itm a))) 0 0 (fun _ => False) := by
  refine w_enterS (by decide) (Nat.le_of_ble_eq_true rfl) (fun p e s m args below meth c X I hr hlk ls hl => ?_)
  have hx := X.1.1
  have hb := X.1.2.1
  have hl : lv_has ls 1 [(0, .int a)] := hl
  refine lv_iload_n hx hb dX0_termOf_0 rfl (lv_at hl 0 rfl) ?_
  by_cases h0 : a = 108
  ·
    subst h0
    refine lv_lookup (tgt := 60) (off := 59) hx hb dX0_termOf_1 (by decide) (by decide) (by decide) ?_
    refine lv_iconst (v := 0) hx hb dX0_termOf_60 (by decide) ?_
    exact w_iretS X hr hlk (by first | decide | (rw [itm, if_neg h0, if_neg h1, if_neg h2, if_neg h3, if_neg h4, if_neg h5]; rfl)) dX0_termOf_61
  ·
    by_cases h1 : a = 100
    ·
      subst h1
      refine lv_lookup (tgt := 62) (off := 61) hx hb dX0_termOf_1 (by decide) (by decide) (by decide) ?_
      refine lv_iconst (v := 1) hx hb dX0_termOf_62 (by decide) ?_
      exact w_iretS X hr hlk (by first | decide | (rw [itm, if_neg h0, if_neg h1, if_neg h2, if_neg h3, if_neg h4, if_neg h5]; rfl)) dX0_termOf_63
    ·
      by_cases h2 : a = 98
      ·
        subst h2
        refine lv_lookup (tgt := 64) (off := 63) hx hb dX0_termOf_1 (by decide) (by decide) (by decide) ?_
        refine lv_iconst (v := 2) hx hb dX0_termOf_64 (by decide) ?_
        exact w_iretS X hr hlk (by first | decide | (rw [itm, if_neg h0, if_neg h1, if_neg h2, if_neg h3, if_neg h4, if_neg h5]; rfl)) dX0_termOf_65
      ·
        by_cases h3 : a = 120
        ·
          subst h3
          refine lv_lookup (tgt := 66) (off := 65) hx hb dX0_termOf_1 (by decide) (by decide) (by decide) ?_
          refine lv_iconst (v := 3) hx hb dX0_termOf_66 (by decide) ?_
          exact w_iretS X hr hlk (by first | decide | (rw [itm, if_neg h0, if_neg h1, if_neg h2, if_neg h3, if_neg h4, if_neg h5]; rfl)) dX0_termOf_67
        ·
          by_cases h4 : a = 104
          ·
            subst h4
            refine lv_lookup (tgt := 68) (off := 67) hx hb dX0_termOf_1 (by decide) (by decide) (by decide) ?_
            refine lv_iconst (v := 4) hx hb dX0_termOf_68 (by decide) ?_
            exact w_iretS X hr hlk (by first | decide | (rw [itm, if_neg h0, if_neg h1, if_neg h2, if_neg h3, if_neg h4, if_neg h5]; rfl)) dX0_termOf_69
          ·
            by_cases h5 : a = 119
            ·
              subst h5
              refine lv_lookup (tgt := 70) (off := 69) hx hb dX0_termOf_1 (by decide) (by decide) (by decide) ?_
              refine lv_iconst (v := 5) hx hb dX0_termOf_70 (by decide) ?_
              exact w_iretS X hr hlk (by first | decide | (rw [itm, if_neg h0, if_neg h1, if_neg h2, if_neg h3, if_neg h4, if_neg h5]; rfl)) dX0_termOf_71
            ·
              refine lv_lookup (tgt := 72) (off := 71) hx hb dX0_termOf_1 (by decide) (itm_off h0 h1 h2 h3 h4 h5) (by decide) ?_
              refine lv_iconst (v := (-1)) hx hb dX0_termOf_72 (by decide) ?_
              exact w_iretS X hr hlk (by first | decide | (rw [itm, if_neg h0, if_neg h1, if_neg h2, if_neg h3, if_neg h4, if_neg h5]; rfl)) dX0_termOf_73
end
section
variable {l : Launch} {g : wG} {α : Nat → Nat} {N : Nat} {σ : wS} {p : Program} {e : Env} {s : State} {m : MethodId} {args : Array Value} {below : List Frame} {meth : Method} {c : Code}
set_option maxHeartbeats 1000000 in
set_option maxRecDepth 100000 in
theorem lpX0_read_27 {sz : Nat} (dr : Nat) (X : wX p s m args c cX0_read 5 RX0 g) (hsz : s.heap.size = sz) (hr : meth.sig.returnType = (some FieldType.int)) (hlk : meth.locks = false) (hN : 32 ≤ N) (hdr : σ.1 7 2 = nI dr) (hdr30 : dr ≤ 30) : ∀ (fu : Nat) (tr0 : Nat → Int32) (m2 : Nat) (k : Nat) (o : Nat) (b : Bool) (dv : Int32) (tr : Nat → Int32), (dr + 1 ≤ k + fu) → ((∀ j, j < 6 → tr0 j = 0)) → (k + m2 = dr) → (o ≤ 6) → (dv = if b = true then 1 else 0) → (xP (σ.1 8) dr dr 6 false tr0 = xP (σ.1 8) dr m2 o b tr) → ∀ (H : Heap) (locs : List Loc), wI g α N (wA α N sz) s.heap H locs (w9 σ tr) → ∀ ls : Array Slot, lv_has ls 5 [(0, .ref (α 7)), (1, .int (opI o)), (2, .int dv), (3, .int (nI k))] → W p l e ({ frames := 1, cells := 0, slots := 0, locals := 22 } : Room) s m args below meth c H locs 0 0 (MQ below (va_Qi (fun r τ => ∃ tr0 tr1 : Nat → Int32, (∀ j, j < 6 → tr0 j = 0) ∧ τ = w9 σ tr1 ∧ r = fcI (xP (σ.1 8) dr dr 6 false tr0).1 (-1) ∧ ((xP (σ.1 8) dr dr 6 false tr0).1 = none → (xP (σ.1 8) dr dr 6 false tr0).2 = tr1)) (wB g α N) (wA α N sz)) args s 0 0 (wA α N sz)) (F0 m 27 ls []) := by
  have hA : ∀ q, s.heap.size ≤ q → wA α N sz q := fun q h => Or.inr (by omega)
  have hx := X.1.1
  have hb := X.1.2.1
  intro fu
  induction fu with
  | zero =>
    intro tr0 m2 k o b dv tr hfu hz0 hkm ho hdv hxp
    exact absurd hfu (by omega)
  | succ fu ih =>
    intro tr0 m2 k o b dv tr hfu hz0 hkm ho hdv hxp H locs I ls hl
    refine lv_iload_n hx hb dX0_read_27 rfl (lv_at hl 3 rfl) ?_
    refine lv_aload_n hx hb dX0_read_28 rfl (lv_at hl 0 rfl) ?_
    refine fg0_2 X I (by omega) kfX0_18 dX0_read_29 ?_
    refine w_eqi (y := nI dr) hdr ?_
    refine lv_icmp_ge (tgt := 127) hx hb dX0_read_32 (by decide) (fun c_32 => ?_) (fun c_32 => ?_)
    ·
      have e : k = dr := by have := nI_le' c_32 (by omega) (by omega); omega
      obtain rfl : m2 = 0 := by omega
      refine lv_iload_n hx hb dX0_read_127 rfl (lv_at hl 2 rfl) ?_
      refine lv_if_eq (tgt := 138) hx hb dX0_read_128 (by decide) (fun c_128 => ?_) (fun c_128 => ?_)
      ·
        refine lv_iconst (v := (-1)) hx hb dX0_read_138 (by decide) ?_
        exact w_iret X I hr hlk (⟨tr0, tr, hz0, rfl, by rw [hxp]; obtain rfl : b = false := (by cases b; rfl; exact absurd (hdv.symm.trans c_128) (by decide)); rfl, fun _ => by rw [hxp]; rfl⟩) dX0_read_139
      ·
        refine lv_aload_n hx hb dX0_read_131 rfl (lv_at hl 0 rfl) ?_
        refine fg0_2 X I (by omega) kfX0_18 dX0_read_132 ?_
        refine w_eqi (y := nI dr) hdr ?_
        refine lv_goto (tgt := 139) hx hb dX0_read_135 (by decide) ?_
        exact w_iret X I hr hlk (⟨tr0, tr, hz0, rfl, by rw [hxp]; obtain rfl : b = true := (by cases b; exact absurd hdv c_128; rfl); rfl, fun q => by rw [hxp] at q; rw [show b = true from (by cases b; exact absurd hdv c_128; rfl)] at q; cases q⟩) dX0_read_139
    ·
      have hlt : k < dr := Nat.lt_of_not_le (fun z => c_32 (nI_le z (by omega)))
      obtain ⟨m3, rfl⟩ : ∃ m3, m2 = m3 + 1 := ⟨m2 - 1, by omega⟩
      have hkd : dr - (m3 + 1) = k := by omega
      refine lv_aload_n hx hb dX0_read_35 rfl (lv_at hl 0 rfl) ?_
      refine fg0_0 X I (by omega) kfX0_9 dX0_read_36 ?_
      refine lv_iload_n hx hb dX0_read_39 rfl (lv_at hl 3 rfl) ?_
      refine w_ld X I 8 (by omega) (n := 30) (k := k) (fun _ _ _ => rfl) rfl (by omega) (by decide) dX0_read_40 ?_
      refine lv_istore (lv' := [(4, .int ((w9 σ tr).1 8 k)), (0, .ref (α 7)), (1, .int (opI o)), (2, .int dv), (3, .int (nI k))]) hx hb dX0_read_41 hl (by decide) rfl (fun ls hl => ?_)
      refine lv_iload hx hb dX0_read_43 (lv_at hl 0 rfl) ?_
      refine lv_bipush (v := 48) hx hb dX0_read_45 (by decide) ?_
      refine lv_icmp_lt (tgt := 84) hx hb dX0_read_47 (by decide) (fun c_47 => ?_) (fun c_47 => ?_)
      ·
        refine lv_iload hx hb dX0_read_84 (lv_at hl 0 rfl) ?_
        refine w_sSi X I (As := [.int ((w9 σ tr).1 8 k)]) (rest := []) (ctX0_termOf l g α N (w9 σ tr) _) (wM_S kmX0_30 kt_X0_termOf kn_X0 kc_X0_termOf) rfl rfl (n := 1) (by decide +kernel) rfl ⟨by decide, by decide⟩ hl.1 rfl (Nat.le_of_ble_eq_true rfl) ⟨Nat.zero_le _, Nat.zero_le _⟩ dX0_read_86 (fun r_86 q_86 => ?_)
        replace q_86 : r_86 = opI (itm (σ.1 8 k)) := q_86
        subst q_86
        have hit := itm_le (σ.1 8 k)
        refine lv_istore_n (lv' := [(1, .int (opI (itm (σ.1 8 k)))), (4, .int ((w9 σ tr).1 8 k)), (0, .ref (α 7)), (2, .int dv), (3, .int (nI k))]) hx hb dX0_read_89 rfl hl (by decide) rfl (fun ls hl => ?_)
        refine lv_iload_n hx hb dX0_read_90 rfl (lv_at hl 3 rfl) ?_
        refine lv_if_ne (tgt := 99) hx hb dX0_read_91 (by decide) (fun c_91 => ?_) (fun c_91 => ?_)
        ·
          have hbt : b = true := by cases b; exact absurd hdv c_91; rfl
          refine lv_iload_n hx hb dX0_read_99 rfl (lv_at hl 4 rfl) ?_
          exact w_iret X I hr hlk (⟨tr0, tr, hz0, rfl, by rw [hxp, xP_bad (m := m3) (by rw [hkd]; exact fun z => z.1 c_47) (Or.inl hbt), hkd]; rfl, fun q => by rw [hxp, xP_bad (m := m3) (by rw [hkd]; exact fun z => z.1 c_47) (Or.inl hbt)] at q; cases q⟩) dX0_read_100
        ·
          obtain rfl : b = false := by cases b; rfl; exact absurd (hdv.symm.trans c_91) (by decide)
          refine lv_iload_n hx hb dX0_read_94 rfl (lv_at hl 0 rfl) ?_
          refine lv_iconst (v := (-1)) hx hb dX0_read_95 (by decide) ?_
          refine lv_icmp_ne (tgt := 101) hx hb dX0_read_96 (by decide) (fun c_96 => ?_) (fun c_96 => ?_)
          ·
            have h6 : ¬ itm (σ.1 8 k) = 6 := fun z => c_96 ((op_iff hit).mpr z)
            refine lv_iload_n hx hb dX0_read_101 rfl (lv_at hl 0 rfl) ?_
            refine w_sSi X I (As := [.int (opI (itm (σ.1 8 k)))]) (rest := []) (ctX0_takesNumber l g α N (w9 σ tr) _) (wM_S kmX0_22 kt_X0_takesNumber kn_X0 kc_X0_takesNumber) rfl rfl (n := 1) (by decide +kernel) rfl ⟨by decide, by decide⟩ hl.1 rfl (Nat.le_of_ble_eq_true rfl) ⟨Nat.zero_le _, Nat.zero_le _⟩ dX0_read_102 (fun r_102 q_102 => ?_)
            by_cases p_102 : ¬ opI (itm (σ.1 8 k)) < 0 ∧ ¬ 2 < opI (itm (σ.1 8 k))
            ·
              obtain rfl : r_102 = 1 := Eq.trans q_102 (if_pos p_102)
              have hi2 : itm (σ.1 8 k) ≤ 2 := (tk_iff hit).mp p_102
              refine lv_istore_n (lv' := [(2, .int 1), (1, .int (opI (itm (σ.1 8 k)))), (4, .int ((w9 σ tr).1 8 k)), (0, .ref (α 7)), (3, .int (nI k))]) hx hb dX0_read_105 rfl hl (by decide) rfl (fun ls hl => ?_)
              refine lv_aload_n hx hb dX0_read_106 rfl (lv_at hl 3 rfl) ?_
              refine fg0_1 X I (by omega) kfX0_15 dX0_read_107 ?_
              refine lv_iload_n hx hb dX0_read_110 rfl (lv_at hl 1 rfl) ?_
              refine w_eqi (y := nI (itm (σ.1 8 k))) (opI_eq (by omega)) ?_
              refine lv_iload_n hx hb dX0_read_111 rfl (lv_at hl 0 rfl) ?_
              refine lv_if_eq (tgt := 119) hx hb dX0_read_112 (by decide) (fun cc => absurd cc (by decide)) (fun _ => ?_)
              refine lv_iconst (v := 0) hx hb dX0_read_115 (by decide) ?_
              refine lv_goto (tgt := 120) hx hb dX0_read_116 (by decide) ?_
              refine w_st X I 9 (by omega) (n := 6) (k := itm (σ.1 8 k)) (fun _ _ _ => rfl) rfl (by omega) (by decide) dX0_read_120 (fun H locs I => ?_)
              refine lv_iinc (v := nI (k + 1)) (lv' := [(3, .int (nI (k + 1))), (2, .int 1), (1, .int (opI (itm (σ.1 8 k)))), (4, .int ((w9 σ tr).1 8 k)), (0, .ref (α 7))]) hx hb dX0_read_121 hl (k := 4) rfl (nI_1 _) (by decide) rfl (fun ls hl => ?_)
              refine lv_goto (tgt := 27) hx hb dX0_read_124 (by decide) ?_
              rw [w9_u] at I
              exact ih tr0 m3 (k + 1) (itm (σ.1 8 k)) true 1 (upd tr (itm (σ.1 8 k)) 0) (by omega) hz0 (by omega) hit rfl (by rw [hxp, xP_let (m := m3) (by rw [hkd]; exact fun z => z.1 c_47) (by rw [hkd]; exact h6), hkd, if_pos hi2]; rw [decide_eq_true hi2]) _ _ I ls (lv_sub hl [4, 2, 1, 0] rfl)
            ·
              obtain rfl : r_102 = 0 := Eq.trans q_102 (if_neg p_102)
              have hi2 : ¬ itm (σ.1 8 k) ≤ 2 := fun z => p_102 ((tk_iff hit).mpr z)
              refine lv_istore_n (lv' := [(2, .int 0), (1, .int (opI (itm (σ.1 8 k)))), (4, .int ((w9 σ tr).1 8 k)), (0, .ref (α 7)), (3, .int (nI k))]) hx hb dX0_read_105 rfl hl (by decide) rfl (fun ls hl => ?_)
              refine lv_aload_n hx hb dX0_read_106 rfl (lv_at hl 3 rfl) ?_
              refine fg0_1 X I (by omega) kfX0_15 dX0_read_107 ?_
              refine lv_iload_n hx hb dX0_read_110 rfl (lv_at hl 1 rfl) ?_
              refine w_eqi (y := nI (itm (σ.1 8 k))) (opI_eq (by omega)) ?_
              refine lv_iload_n hx hb dX0_read_111 rfl (lv_at hl 0 rfl) ?_
              refine lv_if_eq (tgt := 119) hx hb dX0_read_112 (by decide) (fun _ => ?_) (fun cc => absurd cc (by decide))
              refine lv_iconst (v := 1) hx hb dX0_read_119 (by decide) ?_
              refine w_st X I 9 (by omega) (n := 6) (k := itm (σ.1 8 k)) (fun _ _ _ => rfl) rfl (by omega) (by decide) dX0_read_120 (fun H locs I => ?_)
              refine lv_iinc (v := nI (k + 1)) (lv' := [(3, .int (nI (k + 1))), (2, .int 0), (1, .int (opI (itm (σ.1 8 k)))), (4, .int ((w9 σ tr).1 8 k)), (0, .ref (α 7))]) hx hb dX0_read_121 hl (k := 4) rfl (nI_1 _) (by decide) rfl (fun ls hl => ?_)
              refine lv_goto (tgt := 27) hx hb dX0_read_124 (by decide) ?_
              rw [w9_u] at I
              exact ih tr0 m3 (k + 1) (itm (σ.1 8 k)) false 0 (upd tr (itm (σ.1 8 k)) 1) (by omega) hz0 (by omega) hit rfl (by rw [hxp, xP_let (m := m3) (by rw [hkd]; exact fun z => z.1 c_47) (by rw [hkd]; exact h6), hkd, if_neg hi2]; rw [decide_eq_false hi2]) _ _ I ls (lv_sub hl [4, 2, 1, 0] rfl)
          ·
            have h6 : itm (σ.1 8 k) = 6 := (op_iff hit).mp c_96
            refine lv_iload_n hx hb dX0_read_99 rfl (lv_at hl 4 rfl) ?_
            exact w_iret X I hr hlk (⟨tr0, tr, hz0, rfl, by rw [hxp, xP_bad (m := m3) (by rw [hkd]; exact fun z => z.1 c_47) (Or.inr (by rw [hkd]; exact h6)), hkd]; rfl, fun q => by rw [hxp, xP_bad (m := m3) (by rw [hkd]; exact fun z => z.1 c_47) (Or.inr (by rw [hkd]; exact h6))] at q; cases q⟩) dX0_read_100
      ·
        refine lv_iload hx hb dX0_read_50 (lv_at hl 0 rfl) ?_
        refine lv_bipush (v := 57) hx hb dX0_read_52 (by decide) ?_
        refine lv_icmp_gt (tgt := 84) hx hb dX0_read_54 (by decide) (fun c_54 => ?_) (fun c_54 => ?_)
        ·
          refine lv_iload hx hb dX0_read_84 (lv_at hl 0 rfl) ?_
          refine w_sSi X I (As := [.int ((w9 σ tr).1 8 k)]) (rest := []) (ctX0_termOf l g α N (w9 σ tr) _) (wM_S kmX0_30 kt_X0_termOf kn_X0 kc_X0_termOf) rfl rfl (n := 1) (by decide +kernel) rfl ⟨by decide, by decide⟩ hl.1 rfl (Nat.le_of_ble_eq_true rfl) ⟨Nat.zero_le _, Nat.zero_le _⟩ dX0_read_86 (fun r_86 q_86 => ?_)
          replace q_86 : r_86 = opI (itm (σ.1 8 k)) := q_86
          subst q_86
          have hit := itm_le (σ.1 8 k)
          refine lv_istore_n (lv' := [(1, .int (opI (itm (σ.1 8 k)))), (4, .int ((w9 σ tr).1 8 k)), (0, .ref (α 7)), (2, .int dv), (3, .int (nI k))]) hx hb dX0_read_89 rfl hl (by decide) rfl (fun ls hl => ?_)
          refine lv_iload_n hx hb dX0_read_90 rfl (lv_at hl 3 rfl) ?_
          refine lv_if_ne (tgt := 99) hx hb dX0_read_91 (by decide) (fun c_91 => ?_) (fun c_91 => ?_)
          ·
            have hbt : b = true := by cases b; exact absurd hdv c_91; rfl
            refine lv_iload_n hx hb dX0_read_99 rfl (lv_at hl 4 rfl) ?_
            exact w_iret X I hr hlk (⟨tr0, tr, hz0, rfl, by rw [hxp, xP_bad (m := m3) (by rw [hkd]; exact fun z => z.2 c_54) (Or.inl hbt), hkd]; rfl, fun q => by rw [hxp, xP_bad (m := m3) (by rw [hkd]; exact fun z => z.2 c_54) (Or.inl hbt)] at q; cases q⟩) dX0_read_100
          ·
            obtain rfl : b = false := by cases b; rfl; exact absurd (hdv.symm.trans c_91) (by decide)
            refine lv_iload_n hx hb dX0_read_94 rfl (lv_at hl 0 rfl) ?_
            refine lv_iconst (v := (-1)) hx hb dX0_read_95 (by decide) ?_
            refine lv_icmp_ne (tgt := 101) hx hb dX0_read_96 (by decide) (fun c_96 => ?_) (fun c_96 => ?_)
            ·
              have h6 : ¬ itm (σ.1 8 k) = 6 := fun z => c_96 ((op_iff hit).mpr z)
              refine lv_iload_n hx hb dX0_read_101 rfl (lv_at hl 0 rfl) ?_
              refine w_sSi X I (As := [.int (opI (itm (σ.1 8 k)))]) (rest := []) (ctX0_takesNumber l g α N (w9 σ tr) _) (wM_S kmX0_22 kt_X0_takesNumber kn_X0 kc_X0_takesNumber) rfl rfl (n := 1) (by decide +kernel) rfl ⟨by decide, by decide⟩ hl.1 rfl (Nat.le_of_ble_eq_true rfl) ⟨Nat.zero_le _, Nat.zero_le _⟩ dX0_read_102 (fun r_102 q_102 => ?_)
              by_cases p_102 : ¬ opI (itm (σ.1 8 k)) < 0 ∧ ¬ 2 < opI (itm (σ.1 8 k))
              ·
                obtain rfl : r_102 = 1 := Eq.trans q_102 (if_pos p_102)
                have hi2 : itm (σ.1 8 k) ≤ 2 := (tk_iff hit).mp p_102
                refine lv_istore_n (lv' := [(2, .int 1), (1, .int (opI (itm (σ.1 8 k)))), (4, .int ((w9 σ tr).1 8 k)), (0, .ref (α 7)), (3, .int (nI k))]) hx hb dX0_read_105 rfl hl (by decide) rfl (fun ls hl => ?_)
                refine lv_aload_n hx hb dX0_read_106 rfl (lv_at hl 3 rfl) ?_
                refine fg0_1 X I (by omega) kfX0_15 dX0_read_107 ?_
                refine lv_iload_n hx hb dX0_read_110 rfl (lv_at hl 1 rfl) ?_
                refine w_eqi (y := nI (itm (σ.1 8 k))) (opI_eq (by omega)) ?_
                refine lv_iload_n hx hb dX0_read_111 rfl (lv_at hl 0 rfl) ?_
                refine lv_if_eq (tgt := 119) hx hb dX0_read_112 (by decide) (fun cc => absurd cc (by decide)) (fun _ => ?_)
                refine lv_iconst (v := 0) hx hb dX0_read_115 (by decide) ?_
                refine lv_goto (tgt := 120) hx hb dX0_read_116 (by decide) ?_
                refine w_st X I 9 (by omega) (n := 6) (k := itm (σ.1 8 k)) (fun _ _ _ => rfl) rfl (by omega) (by decide) dX0_read_120 (fun H locs I => ?_)
                refine lv_iinc (v := nI (k + 1)) (lv' := [(3, .int (nI (k + 1))), (2, .int 1), (1, .int (opI (itm (σ.1 8 k)))), (4, .int ((w9 σ tr).1 8 k)), (0, .ref (α 7))]) hx hb dX0_read_121 hl (k := 4) rfl (nI_1 _) (by decide) rfl (fun ls hl => ?_)
                refine lv_goto (tgt := 27) hx hb dX0_read_124 (by decide) ?_
                rw [w9_u] at I
                exact ih tr0 m3 (k + 1) (itm (σ.1 8 k)) true 1 (upd tr (itm (σ.1 8 k)) 0) (by omega) hz0 (by omega) hit rfl (by rw [hxp, xP_let (m := m3) (by rw [hkd]; exact fun z => z.2 c_54) (by rw [hkd]; exact h6), hkd, if_pos hi2]; rw [decide_eq_true hi2]) _ _ I ls (lv_sub hl [4, 2, 1, 0] rfl)
              ·
                obtain rfl : r_102 = 0 := Eq.trans q_102 (if_neg p_102)
                have hi2 : ¬ itm (σ.1 8 k) ≤ 2 := fun z => p_102 ((tk_iff hit).mpr z)
                refine lv_istore_n (lv' := [(2, .int 0), (1, .int (opI (itm (σ.1 8 k)))), (4, .int ((w9 σ tr).1 8 k)), (0, .ref (α 7)), (3, .int (nI k))]) hx hb dX0_read_105 rfl hl (by decide) rfl (fun ls hl => ?_)
                refine lv_aload_n hx hb dX0_read_106 rfl (lv_at hl 3 rfl) ?_
                refine fg0_1 X I (by omega) kfX0_15 dX0_read_107 ?_
                refine lv_iload_n hx hb dX0_read_110 rfl (lv_at hl 1 rfl) ?_
                refine w_eqi (y := nI (itm (σ.1 8 k))) (opI_eq (by omega)) ?_
                refine lv_iload_n hx hb dX0_read_111 rfl (lv_at hl 0 rfl) ?_
                refine lv_if_eq (tgt := 119) hx hb dX0_read_112 (by decide) (fun _ => ?_) (fun cc => absurd cc (by decide))
                refine lv_iconst (v := 1) hx hb dX0_read_119 (by decide) ?_
                refine w_st X I 9 (by omega) (n := 6) (k := itm (σ.1 8 k)) (fun _ _ _ => rfl) rfl (by omega) (by decide) dX0_read_120 (fun H locs I => ?_)
                refine lv_iinc (v := nI (k + 1)) (lv' := [(3, .int (nI (k + 1))), (2, .int 0), (1, .int (opI (itm (σ.1 8 k)))), (4, .int ((w9 σ tr).1 8 k)), (0, .ref (α 7))]) hx hb dX0_read_121 hl (k := 4) rfl (nI_1 _) (by decide) rfl (fun ls hl => ?_)
                refine lv_goto (tgt := 27) hx hb dX0_read_124 (by decide) ?_
                rw [w9_u] at I
                exact ih tr0 m3 (k + 1) (itm (σ.1 8 k)) false 0 (upd tr (itm (σ.1 8 k)) 1) (by omega) hz0 (by omega) hit rfl (by rw [hxp, xP_let (m := m3) (by rw [hkd]; exact fun z => z.2 c_54) (by rw [hkd]; exact h6), hkd, if_neg hi2]; rw [decide_eq_false hi2]) _ _ I ls (lv_sub hl [4, 2, 1, 0] rfl)
            ·
              have h6 : itm (σ.1 8 k) = 6 := (op_iff hit).mp c_96
              refine lv_iload_n hx hb dX0_read_99 rfl (lv_at hl 4 rfl) ?_
              exact w_iret X I hr hlk (⟨tr0, tr, hz0, rfl, by rw [hxp, xP_bad (m := m3) (by rw [hkd]; exact fun z => z.2 c_54) (Or.inr (by rw [hkd]; exact h6)), hkd]; rfl, fun q => by rw [hxp, xP_bad (m := m3) (by rw [hkd]; exact fun z => z.2 c_54) (Or.inr (by rw [hkd]; exact h6))] at q; cases q⟩) dX0_read_100
        ·
          refine lv_iload_n hx hb dX0_read_57 rfl (lv_at hl 2 rfl) ?_
          refine w_sSi X I (As := [.int (opI o)]) (rest := []) (ctX0_takesNumber l g α N (w9 σ tr) (opI o)) (wM_S kmX0_22 kt_X0_takesNumber kn_X0 kc_X0_takesNumber) rfl rfl (n := 1) (by decide +kernel) rfl ⟨by decide, by decide⟩ hl.1 rfl (Nat.le_of_ble_eq_true rfl) ⟨Nat.zero_le _, Nat.zero_le _⟩ dX0_read_58 (fun r_58 q_58 => ?_)
          by_cases p_58 : ¬ opI o < 0 ∧ ¬ 2 < opI o
          ·
            obtain rfl : r_58 = 1 := Eq.trans q_58 (if_pos p_58)
            have ho2 : o ≤ 2 := (tk_iff ho).mp p_58
            refine lv_if_eq (tgt := 77) hx hb dX0_read_61 (by decide) (fun cc => absurd cc (by decide)) (fun _ => ?_)
            refine lv_aload_n hx hb dX0_read_64 rfl (lv_at hl 1 rfl) ?_
            refine lv_iload_n hx hb dX0_read_65 rfl (lv_at hl 2 rfl) ?_
            refine w_eqi (y := nI o) (opI_eq (by omega)) ?_
            refine lv_iload hx hb dX0_read_66 (lv_at hl 0 rfl) ?_
            refine lv_bipush (v := 48) hx hb dX0_read_68 (by decide) ?_
            refine lv_isub hx hb dX0_read_70 ?_
            refine w_vi X I hA 7 (by omega) rfl rfl (As := [.int (nI o), .int (((w9 σ tr).1 8 k) - 48)]) (rest := []) (ctX0_addDigit l g α N (w9 σ tr) _ o _ (by omega) (by omega)) (wM_V kmX0_26 ki_X0_addDigit ks_X0_addDigit kn_X0 kc_X0_addDigit) rfl rfl (n := 2) (by decide +kernel) rfl ⟨by decide, by decide⟩ hl.1 rfl (Nat.le_of_ble_eq_true rfl) ⟨Nat.zero_le _, Nat.zero_le _⟩ dX0_read_71 (fun r_71 τ_71 H locs q_71 I => ?_)
            obtain ⟨rfl, q_72⟩ := q_71
            rw [w9_9] at q_72 I
            rw [w9_u] at I
            by_cases h9 : ¬ 999 < 10 * tr o + (σ.1 8 k - 48)
            ·
              obtain rfl : r_71 = 1 := q_72.trans (if_pos h9)
              refine lv_if_ne (tgt := 79) hx hb dX0_read_74 (by decide) (fun _ => ?_) (fun cc => absurd cc (by decide))
              refine lv_iconst (v := 0) hx hb dX0_read_79 (by decide) ?_
              refine lv_istore_n (lv' := [(2, .int 0), (4, .int ((w9 σ tr).1 8 k)), (0, .ref (α 7)), (1, .int (opI o)), (3, .int (nI k))]) hx hb dX0_read_80 rfl hl (by decide) rfl (fun ls hl => ?_)
              refine lv_goto (tgt := 121) hx hb dX0_read_81 (by decide) ?_
              refine lv_iinc (v := nI (k + 1)) (lv' := [(3, .int (nI (k + 1))), (2, .int 0), (4, .int ((w9 σ tr).1 8 k)), (0, .ref (α 7)), (1, .int (opI o))]) hx hb dX0_read_121 hl (k := 4) rfl (nI_1 _) (by decide) rfl (fun ls hl => ?_)
              refine lv_goto (tgt := 27) hx hb dX0_read_124 (by decide) ?_
              exact ih tr0 m3 (k + 1) o false 0 (upd tr o (10 * tr o + (σ.1 8 k - 48))) (by omega) hz0 (by omega) ho rfl (by rw [hxp, xP_dig (m := m3) (by rw [hkd]; exact ⟨c_47, c_54⟩) ho2 (by rw [hkd]; exact h9), hkd]) _ _ I ls (lv_sub hl [3, 4, 1, 0] rfl)
            ·
              obtain rfl : r_71 = 0 := q_72.trans (if_neg h9)
              refine lv_if_ne (tgt := 79) hx hb dX0_read_74 (by decide) (fun cc => absurd cc (by decide)) (fun _ => ?_)
              refine lv_iload_n hx hb dX0_read_77 rfl (lv_at hl 4 rfl) ?_
              exact w_iret X I hr hlk (⟨tr0, (upd tr o (10 * tr o + (σ.1 8 k - 48))), hz0, rfl, by rw [hxp, xP_big (m := m3) (by rw [hkd]; exact ⟨c_47, c_54⟩) ho2 (by rw [hkd]; exact Classical.not_not.mp h9), hkd]; rfl, fun q => by rw [hxp, xP_big (m := m3) (by rw [hkd]; exact ⟨c_47, c_54⟩) ho2 (by rw [hkd]; exact Classical.not_not.mp h9)] at q; cases q⟩) dX0_read_78
          ·
            obtain rfl : r_58 = 0 := Eq.trans q_58 (if_neg p_58)
            have ho2 : ¬ o ≤ 2 := fun z => p_58 ((tk_iff ho).mpr z)
            refine lv_if_eq (tgt := 77) hx hb dX0_read_61 (by decide) (fun _ => ?_) (fun cc => absurd cc (by decide))
            refine lv_iload_n hx hb dX0_read_77 rfl (lv_at hl 4 rfl) ?_
            exact w_iret X I hr hlk (⟨tr0, tr, hz0, rfl, by rw [hxp, xP_op (m := m3) (by rw [hkd]; exact ⟨c_47, c_54⟩) ho2, hkd]; rfl, fun q => by rw [hxp, xP_op (m := m3) (by rw [hkd]; exact ⟨c_47, c_54⟩) ho2] at q; cases q⟩) dX0_read_78
set_option maxHeartbeats 1000000 in
set_option maxRecDepth 100000 in
theorem lpX0_read_2 {sz : Nat} (dr : Nat) (X : wX p s m args c cX0_read 5 RX0 g) (hsz : s.heap.size = sz) (hr : meth.sig.returnType = (some FieldType.int)) (hlk : meth.locks = false) (hN : 32 ≤ N) (hdr : σ.1 7 2 = nI dr) (hdr30 : dr ≤ 30) : ∀ (fu : Nat) (k : Nat) (tr : Nat → Int32), (6 + 1 ≤ k + fu) → (k ≤ 6) → ((∀ j, j < k → tr j = 0)) → ∀ (H : Heap) (locs : List Loc), wI g α N (wA α N sz) s.heap H locs (w9 σ tr) → ∀ ls : Array Slot, lv_has ls 5 [(0, .ref (α 7)), (1, .int (nI k))] → W p l e ({ frames := 1, cells := 0, slots := 0, locals := 22 } : Room) s m args below meth c H locs 0 0 (MQ below (va_Qi (fun r τ => ∃ tr0 tr1 : Nat → Int32, (∀ j, j < 6 → tr0 j = 0) ∧ τ = w9 σ tr1 ∧ r = fcI (xP (σ.1 8) dr dr 6 false tr0).1 (-1) ∧ ((xP (σ.1 8) dr dr 6 false tr0).1 = none → (xP (σ.1 8) dr dr 6 false tr0).2 = tr1)) (wB g α N) (wA α N sz)) args s 0 0 (wA α N sz)) (F0 m 2 ls []) := by
  have hA : ∀ q, s.heap.size ≤ q → wA α N sz q := fun q h => Or.inr (by omega)
  have hx := X.1.1
  have hb := X.1.2.1
  intro fu
  induction fu with
  | zero =>
    intro k tr hfu hk hz
    exact absurd hfu (by omega)
  | succ fu ih =>
    intro k tr hfu hk hz H locs I ls hl
    refine lv_iload_n hx hb dX0_read_2 rfl (lv_at hl 1 rfl) ?_
    refine lv_bipush (v := 6) hx hb dX0_read_3 (by decide) ?_
    refine lv_icmp_ge (tgt := 21) hx hb dX0_read_5 (by decide) (fun c_5 => ?_) (fun c_5 => ?_)
    ·
      have e : k = 6 := by have := nI_le' (a := 6) c_5 (by decide) (by omega); omega
      refine lv_iconst (v := (-1)) hx hb dX0_read_21 (by decide) ?_
      refine lv_istore_n (lv' := [(1, .int (-1)), (0, .ref (α 7))]) hx hb dX0_read_22 rfl hl (by decide) rfl (fun ls hl => ?_)
      refine lv_iconst (v := 0) hx hb dX0_read_23 (by decide) ?_
      refine lv_istore_n (lv' := [(2, .int 0), (1, .int (-1)), (0, .ref (α 7))]) hx hb dX0_read_24 rfl hl (by decide) rfl (fun ls hl => ?_)
      refine lv_iconst (v := 0) hx hb dX0_read_25 (by decide) ?_
      refine lv_istore_n (lv' := [(3, .int 0), (2, .int 0), (1, .int (-1)), (0, .ref (α 7))]) hx hb dX0_read_26 rfl hl (by decide) rfl (fun ls hl => ?_)
      exact lpX0_read_27 dr X hsz hr hlk hN hdr hdr30  (dr + 1) tr dr 0 6 false 0 tr (by omega) (fun j hj => hz j (by omega)) (by omega) (by omega) rfl rfl _ _ I ls (lv_sub hl [3, 2, 1, 0] rfl)
    ·
      have hlt : k < 6 := Nat.lt_of_not_le (fun z => c_5 (nI_le (a := 6) z (by omega)))
      refine lv_aload_n hx hb dX0_read_8 rfl (lv_at hl 0 rfl) ?_
      refine fg0_1 X I (by omega) kfX0_15 dX0_read_9 ?_
      refine lv_iload_n hx hb dX0_read_12 rfl (lv_at hl 1 rfl) ?_
      refine lv_iconst (v := 0) hx hb dX0_read_13 (by decide) ?_
      refine w_st X I 9 (by omega) (n := 6) (k := k) (fun _ _ _ => rfl) rfl (by omega) (by decide) dX0_read_14 (fun H locs I => ?_)
      refine lv_iinc (v := nI (k + 1)) (lv' := [(1, .int (nI (k + 1))), (0, .ref (α 7))]) hx hb dX0_read_15 hl (k := 1) rfl (nI_1 _) (by decide) rfl (fun ls hl => ?_)
      refine lv_goto (tgt := 2) hx hb dX0_read_18 (by decide) ?_
      rw [w9_u] at I
      exact ih (k + 1) (upd tr k 0) (by omega) (by omega) (upd_z hz) _ _ I ls (lv_sub hl [1, 0] rfl)
set_option maxHeartbeats 1000000 in
set_option maxRecDepth 100000 in
theorem ctX0_read (l : Launch) (g : wG) (α : Nat → Nat) (N : Nat) (σ : wS) (sz : Nat) (dr : Nat) (hN : 32 ≤ N) (hdr : σ.1 7 2 = nI dr) (hdr30 : dr ≤ 30) : Met l yX0_read (wM yX0_read cX0_read 5 (some FieldType.int)) ({ frames := 1, cells := 0, slots := 0, locals := 22 } : Room) (wPs g α N sz σ [.ref (α 7)]) (va_Qi (fun r τ => ∃ tr0 tr1 : Nat → Int32, (∀ j, j < 6 → tr0 j = 0) ∧ τ = w9 σ tr1 ∧ r = fcI (xP (σ.1 8) dr dr 6 false tr0).1 (-1) ∧ ((xP (σ.1 8) dr dr 6 false tr0).1 = none → (xP (σ.1 8) dr dr 6 false tr0).2 = tr1)) (wB g α N) (wA α N sz)) 0 0 (wA α N sz) := by
  refine w_enter (by decide) (Nat.le_of_ble_eq_true rfl) (fun p e s m args below meth c hsz X I hr hlk ls hl => ?_)
  have hA : ∀ q, s.heap.size ≤ q → wA α N sz q := fun q h => Or.inr (by omega)
  have hx := X.1.1
  have hb := X.1.2.1
  have hl : lv_has ls 5 [(0, .ref (α 7))] := hl
  refine lv_iconst (v := 0) hx hb dX0_read_0 (by decide) ?_
  refine lv_istore_n (lv' := [(1, .int 0), (0, .ref (α 7))]) hx hb dX0_read_1 rfl hl (by decide) rfl (fun ls hl => ?_)
  rw [w9_self σ] at I
  exact lpX0_read_2 dr X hsz hr hlk hN hdr hdr30  7 0 (σ.1 9) (by omega) (by omega) (fun j hj => absurd hj (by omega)) _ _ I ls (lv_sub hl [1, 0] rfl)
end
section
variable {l : Launch} {g : wG} {α : Nat → Nat} {N : Nat} {σ : wS} {p : Program} {e : Env} {s : State} {m : MethodId} {args : Array Value} {below : List Frame} {meth : Method} {c : Code}
set_option maxHeartbeats 1000000 in
set_option maxRecDepth 100000 in
theorem ctX5_isDigit (l : Launch) (g : wG) (α : Nat → Nat) (N : Nat) (σ : wS) (k dr : Nat) (hN : 32 ≤ N) (hdr : σ.1 14 21 = nI dr) (hdr30 : dr ≤ 30) (hk : k ≤ 31) : Met l yX5_isDigit (wM yX5_isDigit cX5_isDigit 2 (some FieldType.boolean)) ({ frames := 1, cells := 0, slots := 0, locals := 22 } : Room) (wPc g α N σ [.ref (α 14), .int (nI k)]) (vp_Si (fun r => r = if k < dr ∧ dgC (σ.1 28 k) then 1 else 0)) 0 0 (fun _ => False) := by
  refine w_enterS (by decide) (Nat.le_of_ble_eq_true rfl) (fun p e s m args below meth c X I hr hlk ls hl => ?_)
  have hx := X.1.1
  have hb := X.1.2.1
  have hl : lv_has ls 2 [(0, .ref (α 14)), (1, .int (nI k))] := hl
  refine lv_iload_n hx hb dX5_isDigit_0 rfl (lv_at hl 1 rfl) ?_
  refine lv_aload_n hx hb dX5_isDigit_1 rfl (lv_at hl 0 rfl) ?_
  refine fg5_21 X I (by omega) kfX5_117 dX5_isDigit_2 ?_
  refine w_eqi (y := nI dr) hdr ?_
  refine lv_icmp_ge (tgt := 28) hx hb dX5_isDigit_5 (by decide) (fun c_5 => ?_) (fun c_5 => ?_)
  ·
    have c_5 : ¬ k < dr := Nat.not_lt.mpr (nI_le' c_5 (by omega) (by omega))
    refine lv_iconst (v := 0) hx hb dX5_isDigit_28 (by decide) ?_
    exact w_zretS X hr hlk (Or.inl rfl) (by first | exact (if_pos ⟨c_5, p_18⟩).symm | exact (if_neg (fun z => c_5 z.1)).symm | exact (if_neg (fun z => p_18 z.2)).symm) dX5_isDigit_29
  ·
    have c_5 : k < dr := Nat.lt_of_not_le (fun z => c_5 (nI_le z (by omega)))
    refine lv_aload_n hx hb dX5_isDigit_8 rfl (lv_at hl 0 rfl) ?_
    refine fg5_20 X I (by omega) kfX5_53 dX5_isDigit_9 ?_
    refine lv_iload_n hx hb dX5_isDigit_12 rfl (lv_at hl 1 rfl) ?_
    refine w_ld X I 28 (by omega) (n := 30) (k := k) (fun _ _ _ => rfl) rfl (by omega) (by decide) dX5_isDigit_13 ?_
    refine lv_bipush (v := 48) hx hb dX5_isDigit_14 (by decide) ?_
    refine lv_bipush (v := 57) hx hb dX5_isDigit_16 (by decide) ?_
    refine w_sSi X I (As := [.int (σ.1 28 k), .int 48, .int 57]) (rest := []) (ctX5_in l g α N σ _ _ _) (wM_S kmX5_69 kt_X5_in kn_X5 kc_X5_in) rfl rfl (n := 3) (by decide +kernel) rfl ⟨by decide, by decide⟩ hl.1 rfl (Nat.le_of_ble_eq_true rfl) ⟨Nat.zero_le _, Nat.zero_le _⟩ dX5_isDigit_18 (fun r_18 q_18 => ?_)
    by_cases p_18 : ¬ σ.1 28 k < 48 ∧ ¬ 57 < σ.1 28 k
    ·
      obtain rfl : r_18 = 1 := Eq.trans q_18 (if_pos p_18)
      refine lv_if_eq (tgt := 28) hx hb dX5_isDigit_21 (by decide) (fun cc => absurd cc (by decide)) (fun _ => ?_)
      refine lv_iconst (v := 1) hx hb dX5_isDigit_24 (by decide) ?_
      refine lv_goto (tgt := 29) hx hb dX5_isDigit_25 (by decide) ?_
      exact w_zretS X hr hlk (Or.inr rfl) (by first | exact (if_pos ⟨c_5, p_18⟩).symm | exact (if_neg (fun z => c_5 z.1)).symm | exact (if_neg (fun z => p_18 z.2)).symm) dX5_isDigit_29
    ·
      obtain rfl : r_18 = 0 := Eq.trans q_18 (if_neg p_18)
      refine lv_if_eq (tgt := 28) hx hb dX5_isDigit_21 (by decide) (fun _ => ?_) (fun cc => absurd cc (by decide))
      refine lv_iconst (v := 0) hx hb dX5_isDigit_28 (by decide) ?_
      exact w_zretS X hr hlk (Or.inl rfl) (by first | exact (if_pos ⟨c_5, p_18⟩).symm | exact (if_neg (fun z => c_5 z.1)).symm | exact (if_neg (fun z => p_18 z.2)).symm) dX5_isDigit_29
end
section
variable {l : Launch} {g : wG} {α : Nat → Nat} {N : Nat} {σ : wS} {p : Program} {e : Env} {s : State} {m : MethodId} {args : Array Value} {below : List Frame} {meth : Method} {c : Code}
theorem upd_at {f : Nat → Int32} {i : Nat} {x : Int32} : upd f i x i = x := if_pos rfl
theorem fl_none {bs tr : Nat → Int32} {dr m3 k o : Nat} (hkd : dr - (m3 + 1) = k) (hit : itm (bs k) = 6) (hnd : o ≤ 2 → ¬ (k < dr ∧ dgC (bs k))) (hlt : k < dr) : xP bs dr (m3 + 1) o false tr = (some (dr - (m3 + 1)), tr) := by
  by_cases hd : dgC (bs k)
  · exact xP_op (by rw [hkd]; exact hd) (fun z => hnd z ⟨hlt, hd⟩)
  · exact xP_bad (by rw [hkd]; exact hd) (Or.inr (by rw [hkd]; exact hit))
theorem fl_st {bs tr : Nat → Int32} {dr m3 k o it : Nat} (hkm : k + (m3 + 1) = dr) (hkd : dr - (m3 + 1) = k) (hit : itm (bs k) = it) (h2 : it ≤ 2) (hnd : ¬ (k + 1 < dr ∧ dgC (bs (k + 1)))) : ∃ t, xP bs dr (m3 + 1) o false tr = (some (k + 1), t) := by
  rw [xP_let (by rw [hkd]; exact itm_nd (by rw [hit]; omega)) (by rw [hkd, hit]; omega), hkd, hit]
  cases m3 with
  | zero => exact ⟨_, by rw [decide_eq_true h2, if_pos h2, xP, if_pos rfl, show dr = k + 1 by omega]⟩
  | succ m =>
    rw [decide_eq_true h2]
    exact ⟨_, (xP_bad (by rw [show dr - (m + 1) = k + 1 by omega]; exact fun z => hnd ⟨by omega, z⟩) (Or.inl rfl)).trans (by rw [show dr - (m + 1) = k + 1 by omega])⟩
theorem fl_nodig {bs tr tr0 : Nat → Int32} {dr m3 k o it : Nat} (hxp : xP bs dr dr 6 false tr0 = xP bs dr (m3 + 1) o false tr) (hkm : k + (m3 + 1) = dr) (hkd : dr - (m3 + 1) = k) (hit : itm (bs k) = it) (hnd : ¬ (k + 1 < dr ∧ dgC (bs (k + 1)))) (h2 : it ≤ 2 := by decide) : nI (k + 1) = fcI (xP bs dr dr 6 false tr0).1 (-9) := by
  obtain ⟨t, e⟩ := fl_st (o := o) (tr := tr) hkm hkd hit h2 hnd
  rw [hxp, e]; rfl
theorem fl_nodig2 {bs tr tr0 : Nat → Int32} {dr m3 k o it : Nat} (hxp : xP bs dr dr 6 false tr0 = xP bs dr (m3 + 1) o false tr) (hkm : k + (m3 + 1) = dr) (hkd : dr - (m3 + 1) = k) (hit : itm (bs k) = it) (hnd : ¬ (k + 1 < dr ∧ dgC (bs (k + 1)))) (h2 : it ≤ 2 := by decide) : ¬ (xP bs dr dr 6 false tr0).1 = none := by
  obtain ⟨t, e⟩ := fl_st (o := o) (tr := tr) hkm hkd hit h2 hnd
  rw [hxp, e]; intro z; cases z
set_option maxHeartbeats 1000000 in
set_option maxRecDepth 100000 in
theorem lpX5_faultOf_140 {sz : Nat} (dr : Nat) (X : wX p s m args c cX5_faultOf 5 RX5 g) (hsz : s.heap.size = sz) (hr : meth.sig.returnType = (some FieldType.int)) (hlk : meth.locks = false) (hN : 32 ≤ N) (hdr : σ.1 14 21 = nI dr) (hdr30 : dr ≤ 30) (τ : wS) (H : Heap) (locs : List Loc) (I : wI g α N (wA α N sz) s.heap H locs τ) (tr0 tr : Nat → Int32) (it : Nat) (k0 : Nat) (hτ : τ = w30 σ tr) (hz0 : ∀ j, j < 6 → tr0 j = 0) (hit2 : it ≤ 2) (kk : ∀ (k2 m4 : Nat) (v : Int32), k0 ≤ k2 → k2 + m4 = dr → xP (σ.1 28) dr dr 6 false tr0 = xP (σ.1 28) dr m4 it false (upd tr it v) → ¬ (k2 < dr ∧ dgC (σ.1 28 k2)) → ∀ ls : Array Slot, lv_has ls 5 [(0, .ref (α 14)), (1, .int (nI k2)), (3, .int (nI it)), (4, .int v)] → W p l e ({ frames := 2, cells := 0, slots := 0, locals := 43 } : Room) s m args below meth c H locs 0 0 (MQ below (va_Qi (fun r τ => ∃ tr0 tr1 : Nat → Int32, (∀ j, j < 6 → tr0 j = 0) ∧ τ = w30 σ tr1 ∧ r = fcI (xP (σ.1 28) dr dr 6 false tr0).1 (-9) ∧ ((xP (σ.1 28) dr dr 6 false tr0).1 = none → (xP (σ.1 28) dr dr 6 false tr0).2 = tr1)) (wB g α N) (wA α N sz)) args s 0 0 (wA α N sz)) (F0 m 181 ls [])) : ∀ (fu : Nat) (k2 : Nat) (m4 : Nat) (v : Int32) (b : Bool), (dr + 1 ≤ k2 + fu) → (k0 ≤ k2) → (k2 + m4 = dr) → ((b = true → (k2 < dr ∧ dgC (σ.1 28 k2)))) → (xP (σ.1 28) dr dr 6 false tr0 = xP (σ.1 28) dr m4 it b (upd tr it v)) → ∀ ls : Array Slot, lv_has ls 5 [(0, .ref (α 14)), (1, .int (nI k2)), (3, .int (nI it)), (4, .int v)] → W p l e ({ frames := 2, cells := 0, slots := 0, locals := 43 } : Room) s m args below meth c H locs 0 0 (MQ below (va_Qi (fun r τ => ∃ tr0 tr1 : Nat → Int32, (∀ j, j < 6 → tr0 j = 0) ∧ τ = w30 σ tr1 ∧ r = fcI (xP (σ.1 28) dr dr 6 false tr0).1 (-9) ∧ ((xP (σ.1 28) dr dr 6 false tr0).1 = none → (xP (σ.1 28) dr dr 6 false tr0).2 = tr1)) (wB g α N) (wA α N sz)) args s 0 0 (wA α N sz)) (F0 m 140 ls []) := by
  have hA : ∀ q, s.heap.size ≤ q → wA α N sz q := fun q h => Or.inr (by omega)
  have hx := X.1.1
  have hb := X.1.2.1
  intro fu
  induction fu with
  | zero =>
    intro k2 m4 v b hfu hk0 hkm hbd hxp
    exact absurd hfu (by omega)
  | succ fu ih =>
    intro k2 m4 v b hfu hk0 hkm hbd hxp ls hl
    have hdr2 : τ.1 14 21 = nI dr := by rw [hτ]; exact hdr
    have h28 : τ.1 28 = σ.1 28 := by rw [hτ]; rfl
    refine lv_aload_n hx hb dX5_faultOf_140 rfl (lv_at hl 0 rfl) ?_
    refine lv_iload_n hx hb dX5_faultOf_141 rfl (lv_at hl 1 rfl) ?_
    refine w_vSi X I 14 (by omega) rfl rfl (As := [.int (nI k2)]) (rest := []) (ctX5_isDigit l g α N τ k2 dr hN hdr2 hdr30 (by omega)) (wM_V kmX5_122 ki_X5_isDigit ks_X5_isDigit kn_X5 kc_X5_isDigit) rfl rfl (n := 1) (by decide +kernel) rfl ⟨by decide, by decide⟩ hl.1 rfl (Nat.le_of_ble_eq_true rfl) ⟨Nat.zero_le _, Nat.zero_le _⟩ dX5_faultOf_142 (fun r_142 q_142 => ?_)
    by_cases p_142 : k2 < dr ∧ dgC (τ.1 28 k2)
    ·
      obtain rfl : r_142 = 1 := Eq.trans q_142 (if_pos p_142)
      rw [h28] at p_142
      obtain ⟨m5, rfl⟩ : ∃ m5, m4 = m5 + 1 := ⟨m4 - 1, by omega⟩
      have hkd2 : dr - (m5 + 1) = k2 := by omega
      refine lv_if_eq (tgt := 181) hx hb dX5_faultOf_145 (by decide) (fun cc => absurd cc (by decide)) (fun _ => ?_)
      refine lv_bipush (v := 10) hx hb dX5_faultOf_148 (by decide) ?_
      refine lv_iload hx hb dX5_faultOf_150 (lv_at hl 3 rfl) ?_
      refine lv_imul hx hb dX5_faultOf_152 ?_
      refine lv_aload_n hx hb dX5_faultOf_153 rfl (lv_at hl 0 rfl) ?_
      refine fg5_20 X I (by omega) kfX5_53 dX5_faultOf_154 ?_
      refine lv_iload_n hx hb dX5_faultOf_157 rfl (lv_at hl 1 rfl) ?_
      refine w_ld X I 28 (by omega) (n := 30) (k := k2) (fun _ _ _ => rfl) rfl (by omega) (by decide) dX5_faultOf_158 ?_
      refine w_eqi (y := σ.1 28 k2) (by rw [h28]) ?_
      refine lv_iadd hx hb dX5_faultOf_159 ?_
      refine lv_bipush (v := 48) hx hb dX5_faultOf_160 (by decide) ?_
      refine lv_isub hx hb dX5_faultOf_162 ?_
      refine w_eqi (y := 10 * v + (σ.1 28 k2 - 48)) (sub48 _ _) ?_
      refine lv_istore (lv' := [(4, .int (10 * v + (σ.1 28 k2 - 48))), (0, .ref (α 14)), (1, .int (nI k2)), (3, .int (nI it))]) hx hb dX5_faultOf_163 hl (by decide) rfl (fun ls hl => ?_)
      refine lv_iload hx hb dX5_faultOf_165 (lv_at hl 0 rfl) ?_
      refine lv_sipush (v := 999) hx hb dX5_faultOf_167 (by decide) ?_
      refine lv_icmp_le (tgt := 175) hx hb dX5_faultOf_170 (by decide) (fun c_170 => ?_) (fun c_170 => ?_)
      ·
        have h9 : ¬ 999 < 10 * v + (σ.1 28 k2 - 48) := Int32.not_lt.mpr c_170
        refine lv_iinc (v := nI (k2 + 1)) (lv' := [(1, .int (nI (k2 + 1))), (4, .int (10 * v + (σ.1 28 k2 - 48))), (0, .ref (α 14)), (3, .int (nI it))]) hx hb dX5_faultOf_175 hl (k := 2) rfl (nI_1 _) (by decide) rfl (fun ls hl => ?_)
        refine lv_goto (tgt := 140) hx hb dX5_faultOf_178 (by decide) ?_
        exact ih (k2 + 1) m5 (10 * v + (σ.1 28 k2 - 48)) false (by omega) (by omega) (by omega) (fun z => by cases z) (by rw [hxp, xP_dig (m := m5) (by rw [hkd2]; exact p_142.2) hit2 (by rw [hkd2, upd_at]; exact h9), hkd2, upd_at, upd_uu]) ls (lv_sub hl [2, 0, 3, 1] rfl)
      ·
        have h9 : 999 < 10 * v + (σ.1 28 k2 - 48) := Int32.not_le.mp c_170
        refine lv_iload_n hx hb dX5_faultOf_173 rfl (lv_at hl 2 rfl) ?_
        exact w_iret X I hr hlk (⟨tr0, tr, hz0, hτ, by rw [hxp, xP_big (m := m5) (by rw [hkd2]; exact p_142.2) hit2 (by rw [hkd2, upd_at]; exact h9), hkd2]; rfl, fun q => by rw [hxp, xP_big (m := m5) (by rw [hkd2]; exact p_142.2) hit2 (by rw [hkd2, upd_at]; exact h9)] at q; cases q⟩) dX5_faultOf_174
    ·
      obtain rfl : r_142 = 0 := Eq.trans q_142 (if_neg p_142)
      rw [h28] at p_142
      have hbf : b = false := by cases b; rfl; exact absurd (hbd rfl) p_142
      refine lv_if_eq (tgt := 181) hx hb dX5_faultOf_145 (by decide) (fun _ => ?_) (fun cc => absurd cc (by decide))
      exact kk k2 m4 v hk0 hkm (by rw [hxp, hbf]) p_142 ls (lv_sub hl [0, 1, 2, 3] rfl)
set_option maxHeartbeats 1000000 in
set_option maxRecDepth 100000 in
theorem lpX5_faultOf_23 {sz : Nat} (dr : Nat) (X : wX p s m args c cX5_faultOf 5 RX5 g) (hsz : s.heap.size = sz) (hr : meth.sig.returnType = (some FieldType.int)) (hlk : meth.locks = false) (hN : 32 ≤ N) (hdr : σ.1 14 21 = nI dr) (hdr30 : dr ≤ 30) : ∀ (fu : Nat) (tr0 : Nat → Int32) (m2 : Nat) (k : Nat) (o : Nat) (tr : Nat → Int32), (dr + 1 ≤ k + fu) → ((∀ j, j < 6 → tr0 j = 0)) → (k + m2 = dr) → ((o ≤ 2 → ¬ (k < dr ∧ dgC (σ.1 28 k)))) → (xP (σ.1 28) dr dr 6 false tr0 = xP (σ.1 28) dr m2 o false tr) → ∀ (H : Heap) (locs : List Loc), wI g α N (wA α N sz) s.heap H locs (w30 σ tr) → ∀ ls : Array Slot, lv_has ls 5 [(0, .ref (α 14)), (1, .int (nI k))] → W p l e ({ frames := 2, cells := 0, slots := 0, locals := 43 } : Room) s m args below meth c H locs 0 0 (MQ below (va_Qi (fun r τ => ∃ tr0 tr1 : Nat → Int32, (∀ j, j < 6 → tr0 j = 0) ∧ τ = w30 σ tr1 ∧ r = fcI (xP (σ.1 28) dr dr 6 false tr0).1 (-9) ∧ ((xP (σ.1 28) dr dr 6 false tr0).1 = none → (xP (σ.1 28) dr dr 6 false tr0).2 = tr1)) (wB g α N) (wA α N sz)) args s 0 0 (wA α N sz)) (F0 m 23 ls []) := by
  have hA : ∀ q, s.heap.size ≤ q → wA α N sz q := fun q h => Or.inr (by omega)
  have hx := X.1.1
  have hb := X.1.2.1
  intro fu
  induction fu with
  | zero =>
    intro tr0 m2 k o tr hfu hz0 hkm hnd hxp
    exact absurd hfu (by omega)
  | succ fu ih =>
    intro tr0 m2 k o tr hfu hz0 hkm hnd hxp H locs I ls hl
    refine lv_iload_n hx hb dX5_faultOf_23 rfl (lv_at hl 1 rfl) ?_
    refine lv_aload_n hx hb dX5_faultOf_24 rfl (lv_at hl 0 rfl) ?_
    refine fg5_21 X I (by omega) kfX5_117 dX5_faultOf_25 ?_
    refine w_eqi (y := nI dr) hdr ?_
    refine lv_icmp_ge (tgt := 192) hx hb dX5_faultOf_28 (by decide) (fun c_28 => ?_) (fun c_28 => ?_)
    ·
      have e : k = dr := by have := nI_le' c_28 (by omega) (by omega); omega
      obtain rfl : m2 = 0 := by omega
      refine lv_bipush (v := (-9)) hx hb dX5_faultOf_192 (by decide) ?_
      exact w_iret X I hr hlk (⟨tr0, tr, hz0, rfl, by rw [hxp]; rfl, fun _ => by rw [hxp]; rfl⟩) dX5_faultOf_194
    ·
      have hlt : k < dr := Nat.lt_of_not_le (fun z => c_28 (nI_le z (by omega)))
      obtain ⟨m3, rfl⟩ : ∃ m3, m2 = m3 + 1 := ⟨m2 - 1, by omega⟩
      have hkd : dr - (m3 + 1) = k := by omega
      refine lv_aload_n hx hb dX5_faultOf_31 rfl (lv_at hl 0 rfl) ?_
      refine fg5_20 X I (by omega) kfX5_53 dX5_faultOf_32 ?_
      refine lv_iload_n hx hb dX5_faultOf_35 rfl (lv_at hl 1 rfl) ?_
      refine w_ld X I 28 (by omega) (n := 30) (k := k) (fun _ _ _ => rfl) rfl (by omega) (by decide) dX5_faultOf_36 ?_
      refine w_eqi (y := σ.1 28 k) rfl ?_
      refine lv_istore_n (lv' := [(2, .int (σ.1 28 k)), (0, .ref (α 14)), (1, .int (nI k))]) hx hb dX5_faultOf_37 rfl hl (by decide) rfl (fun ls hl => ?_)
      refine lv_iload_n hx hb dX5_faultOf_38 rfl (lv_at hl 0 rfl) ?_
      refine lv_bipush (v := 108) hx hb dX5_faultOf_39 (by decide) ?_
      refine lv_icmp_ne (tgt := 48) hx hb dX5_faultOf_41 (by decide) (fun c_41 => ?_) (fun c_41 => ?_)
      ·
        refine lv_iload_n hx hb dX5_faultOf_48 rfl (lv_at hl 0 rfl) ?_
        refine lv_bipush (v := 100) hx hb dX5_faultOf_49 (by decide) ?_
        refine lv_icmp_ne (tgt := 58) hx hb dX5_faultOf_51 (by decide) (fun c_51 => ?_) (fun c_51 => ?_)
        ·
          refine lv_iload_n hx hb dX5_faultOf_58 rfl (lv_at hl 0 rfl) ?_
          refine lv_bipush (v := 98) hx hb dX5_faultOf_59 (by decide) ?_
          refine lv_icmp_ne (tgt := 68) hx hb dX5_faultOf_61 (by decide) (fun c_61 => ?_) (fun c_61 => ?_)
          ·
            refine lv_iload_n hx hb dX5_faultOf_68 rfl (lv_at hl 0 rfl) ?_
            refine lv_bipush (v := 120) hx hb dX5_faultOf_69 (by decide) ?_
            refine lv_icmp_ne (tgt := 78) hx hb dX5_faultOf_71 (by decide) (fun c_71 => ?_) (fun c_71 => ?_)
            ·
              refine lv_iload_n hx hb dX5_faultOf_78 rfl (lv_at hl 0 rfl) ?_
              refine lv_bipush (v := 104) hx hb dX5_faultOf_79 (by decide) ?_
              refine lv_icmp_ne (tgt := 88) hx hb dX5_faultOf_81 (by decide) (fun c_81 => ?_) (fun c_81 => ?_)
              ·
                refine lv_iload_n hx hb dX5_faultOf_88 rfl (lv_at hl 0 rfl) ?_
                refine lv_bipush (v := 119) hx hb dX5_faultOf_89 (by decide) ?_
                refine lv_icmp_ne (tgt := 98) hx hb dX5_faultOf_91 (by decide) (fun c_91 => ?_) (fun c_91 => ?_)
                ·
                  refine lv_bipush (v := 6) hx hb dX5_faultOf_98 (by decide) ?_
                  have hit : itm (σ.1 28 k) = 6 := by rw [itm, if_neg c_41, if_neg c_51, if_neg c_61, if_neg c_71, if_neg c_81, if_neg c_91]
                  refine lv_istore_n (lv' := [(3, .int 6), (2, .int (σ.1 28 k)), (0, .ref (α 14)), (1, .int (nI k))]) hx hb dX5_faultOf_100 rfl hl (by decide) rfl (fun ls hl => ?_)
                  refine lv_iload_n hx hb dX5_faultOf_101 rfl (lv_at hl 0 rfl) ?_
                  refine lv_bipush (v := 6) hx hb dX5_faultOf_102 (by decide) ?_
                  refine lv_icmp_ne (tgt := 109) hx hb dX5_faultOf_104 (by decide) (fun cc => absurd cc (by decide)) (fun _ => ?_)
                  refine lv_iload_n hx hb dX5_faultOf_107 rfl (lv_at hl 3 rfl) ?_
                  exact w_iret X I hr hlk (⟨tr0, tr, hz0, rfl, by rw [hxp, fl_none hkd hit (fun z => hnd z) hlt, hkd]; rfl, fun q => by rw [hxp, fl_none hkd hit (fun z => hnd z) hlt] at q; cases q⟩) dX5_faultOf_108
                ·
                  refine lv_iconst (v := 5) hx hb dX5_faultOf_94 (by decide) ?_
                  refine lv_goto (tgt := 100) hx hb dX5_faultOf_95 (by decide) ?_
                  have hit : itm (σ.1 28 k) = 5 := by rw [itm, if_neg c_41, if_neg c_51, if_neg c_61, if_neg c_71, if_neg c_81, if_pos c_91]
                  refine lv_istore_n (lv' := [(3, .int 5), (2, .int (σ.1 28 k)), (0, .ref (α 14)), (1, .int (nI k))]) hx hb dX5_faultOf_100 rfl hl (by decide) rfl (fun ls hl => ?_)
                  refine lv_iload_n hx hb dX5_faultOf_101 rfl (lv_at hl 0 rfl) ?_
                  refine lv_bipush (v := 6) hx hb dX5_faultOf_102 (by decide) ?_
                  refine lv_icmp_ne (tgt := 109) hx hb dX5_faultOf_104 (by decide) (fun _ => ?_) (fun cc => absurd cc (by decide))
                  refine lv_iinc (v := nI (k + 1)) (lv' := [(1, .int (nI (k + 1))), (3, .int 5), (2, .int (σ.1 28 k)), (0, .ref (α 14))]) hx hb dX5_faultOf_109 hl (k := 3) rfl (nI_1 _) (by decide) rfl (fun ls hl => ?_)
                  refine lv_iload_n hx hb dX5_faultOf_112 rfl (lv_at hl 1 rfl) ?_
                  refine lv_iconst (v := 2) hx hb dX5_faultOf_113 (by decide) ?_
                  refine lv_icmp_le (tgt := 127) hx hb dX5_faultOf_114 (by decide) (fun cc => absurd cc (by decide)) (fun _ => ?_)
                  refine lv_aload_n hx hb dX5_faultOf_117 rfl (lv_at hl 3 rfl) ?_
                  refine fg5_23 X I (by omega) kfX5_59 dX5_faultOf_118 ?_
                  refine lv_iload_n hx hb dX5_faultOf_121 rfl (lv_at hl 1 rfl) ?_
                  refine lv_iconst (v := 1) hx hb dX5_faultOf_122 (by decide) ?_
                  refine w_st X I 30 (by omega) (n := 6) (k := 5) (fun _ _ _ => rfl) rfl (by decide) (by decide) dX5_faultOf_123 (fun H locs I => ?_)
                  refine lv_goto (tgt := 189) hx hb dX5_faultOf_124 (by decide) ?_
                  refine lv_goto (tgt := 23) hx hb dX5_faultOf_189 (by decide) ?_
                  rw [w30_u] at I
                  exact ih tr0 m3 (k + 1) 5 (upd tr 5 1) (by omega) hz0 (by omega) (fun z => absurd z (by decide)) (by rw [hxp, xP_let (m := m3) (by rw [hkd]; exact itm_nd (by rw [hit]; decide)) (by rw [hkd, hit]; decide), hkd, hit]; rfl) _ _ I ls (lv_sub hl [3, 0] rfl)
              ·
                refine lv_iconst (v := 4) hx hb dX5_faultOf_84 (by decide) ?_
                refine lv_goto (tgt := 100) hx hb dX5_faultOf_85 (by decide) ?_
                have hit : itm (σ.1 28 k) = 4 := by rw [itm, if_neg c_41, if_neg c_51, if_neg c_61, if_neg c_71, if_pos c_81]
                refine lv_istore_n (lv' := [(3, .int 4), (2, .int (σ.1 28 k)), (0, .ref (α 14)), (1, .int (nI k))]) hx hb dX5_faultOf_100 rfl hl (by decide) rfl (fun ls hl => ?_)
                refine lv_iload_n hx hb dX5_faultOf_101 rfl (lv_at hl 0 rfl) ?_
                refine lv_bipush (v := 6) hx hb dX5_faultOf_102 (by decide) ?_
                refine lv_icmp_ne (tgt := 109) hx hb dX5_faultOf_104 (by decide) (fun _ => ?_) (fun cc => absurd cc (by decide))
                refine lv_iinc (v := nI (k + 1)) (lv' := [(1, .int (nI (k + 1))), (3, .int 4), (2, .int (σ.1 28 k)), (0, .ref (α 14))]) hx hb dX5_faultOf_109 hl (k := 3) rfl (nI_1 _) (by decide) rfl (fun ls hl => ?_)
                refine lv_iload_n hx hb dX5_faultOf_112 rfl (lv_at hl 1 rfl) ?_
                refine lv_iconst (v := 2) hx hb dX5_faultOf_113 (by decide) ?_
                refine lv_icmp_le (tgt := 127) hx hb dX5_faultOf_114 (by decide) (fun cc => absurd cc (by decide)) (fun _ => ?_)
                refine lv_aload_n hx hb dX5_faultOf_117 rfl (lv_at hl 3 rfl) ?_
                refine fg5_23 X I (by omega) kfX5_59 dX5_faultOf_118 ?_
                refine lv_iload_n hx hb dX5_faultOf_121 rfl (lv_at hl 1 rfl) ?_
                refine lv_iconst (v := 1) hx hb dX5_faultOf_122 (by decide) ?_
                refine w_st X I 30 (by omega) (n := 6) (k := 4) (fun _ _ _ => rfl) rfl (by decide) (by decide) dX5_faultOf_123 (fun H locs I => ?_)
                refine lv_goto (tgt := 189) hx hb dX5_faultOf_124 (by decide) ?_
                refine lv_goto (tgt := 23) hx hb dX5_faultOf_189 (by decide) ?_
                rw [w30_u] at I
                exact ih tr0 m3 (k + 1) 4 (upd tr 4 1) (by omega) hz0 (by omega) (fun z => absurd z (by decide)) (by rw [hxp, xP_let (m := m3) (by rw [hkd]; exact itm_nd (by rw [hit]; decide)) (by rw [hkd, hit]; decide), hkd, hit]; rfl) _ _ I ls (lv_sub hl [3, 0] rfl)
            ·
              refine lv_iconst (v := 3) hx hb dX5_faultOf_74 (by decide) ?_
              refine lv_goto (tgt := 100) hx hb dX5_faultOf_75 (by decide) ?_
              have hit : itm (σ.1 28 k) = 3 := by rw [itm, if_neg c_41, if_neg c_51, if_neg c_61, if_pos c_71]
              refine lv_istore_n (lv' := [(3, .int 3), (2, .int (σ.1 28 k)), (0, .ref (α 14)), (1, .int (nI k))]) hx hb dX5_faultOf_100 rfl hl (by decide) rfl (fun ls hl => ?_)
              refine lv_iload_n hx hb dX5_faultOf_101 rfl (lv_at hl 0 rfl) ?_
              refine lv_bipush (v := 6) hx hb dX5_faultOf_102 (by decide) ?_
              refine lv_icmp_ne (tgt := 109) hx hb dX5_faultOf_104 (by decide) (fun _ => ?_) (fun cc => absurd cc (by decide))
              refine lv_iinc (v := nI (k + 1)) (lv' := [(1, .int (nI (k + 1))), (3, .int 3), (2, .int (σ.1 28 k)), (0, .ref (α 14))]) hx hb dX5_faultOf_109 hl (k := 3) rfl (nI_1 _) (by decide) rfl (fun ls hl => ?_)
              refine lv_iload_n hx hb dX5_faultOf_112 rfl (lv_at hl 1 rfl) ?_
              refine lv_iconst (v := 2) hx hb dX5_faultOf_113 (by decide) ?_
              refine lv_icmp_le (tgt := 127) hx hb dX5_faultOf_114 (by decide) (fun cc => absurd cc (by decide)) (fun _ => ?_)
              refine lv_aload_n hx hb dX5_faultOf_117 rfl (lv_at hl 3 rfl) ?_
              refine fg5_23 X I (by omega) kfX5_59 dX5_faultOf_118 ?_
              refine lv_iload_n hx hb dX5_faultOf_121 rfl (lv_at hl 1 rfl) ?_
              refine lv_iconst (v := 1) hx hb dX5_faultOf_122 (by decide) ?_
              refine w_st X I 30 (by omega) (n := 6) (k := 3) (fun _ _ _ => rfl) rfl (by decide) (by decide) dX5_faultOf_123 (fun H locs I => ?_)
              refine lv_goto (tgt := 189) hx hb dX5_faultOf_124 (by decide) ?_
              refine lv_goto (tgt := 23) hx hb dX5_faultOf_189 (by decide) ?_
              rw [w30_u] at I
              exact ih tr0 m3 (k + 1) 3 (upd tr 3 1) (by omega) hz0 (by omega) (fun z => absurd z (by decide)) (by rw [hxp, xP_let (m := m3) (by rw [hkd]; exact itm_nd (by rw [hit]; decide)) (by rw [hkd, hit]; decide), hkd, hit]; rfl) _ _ I ls (lv_sub hl [3, 0] rfl)
          ·
            refine lv_iconst (v := 2) hx hb dX5_faultOf_64 (by decide) ?_
            refine lv_goto (tgt := 100) hx hb dX5_faultOf_65 (by decide) ?_
            have hit : itm (σ.1 28 k) = 2 := by rw [itm, if_neg c_41, if_neg c_51, if_pos c_61]
            refine lv_istore_n (lv' := [(3, .int 2), (2, .int (σ.1 28 k)), (0, .ref (α 14)), (1, .int (nI k))]) hx hb dX5_faultOf_100 rfl hl (by decide) rfl (fun ls hl => ?_)
            refine lv_iload_n hx hb dX5_faultOf_101 rfl (lv_at hl 0 rfl) ?_
            refine lv_bipush (v := 6) hx hb dX5_faultOf_102 (by decide) ?_
            refine lv_icmp_ne (tgt := 109) hx hb dX5_faultOf_104 (by decide) (fun _ => ?_) (fun cc => absurd cc (by decide))
            refine lv_iinc (v := nI (k + 1)) (lv' := [(1, .int (nI (k + 1))), (3, .int 2), (2, .int (σ.1 28 k)), (0, .ref (α 14))]) hx hb dX5_faultOf_109 hl (k := 3) rfl (nI_1 _) (by decide) rfl (fun ls hl => ?_)
            refine lv_iload_n hx hb dX5_faultOf_112 rfl (lv_at hl 1 rfl) ?_
            refine lv_iconst (v := 2) hx hb dX5_faultOf_113 (by decide) ?_
            refine lv_icmp_le (tgt := 127) hx hb dX5_faultOf_114 (by decide) (fun _ => ?_) (fun cc => absurd cc (by decide))
            refine lv_aload_n hx hb dX5_faultOf_127 rfl (lv_at hl 3 rfl) ?_
            refine lv_iload_n hx hb dX5_faultOf_128 rfl (lv_at hl 0 rfl) ?_
            refine w_vSi X I 14 (by omega) rfl rfl (As := [.int (nI (k + 1))]) (rest := []) (ctX5_isDigit l g α N (w30 σ tr) (k + 1) dr hN hdr hdr30 (by omega)) (wM_V kmX5_122 ki_X5_isDigit ks_X5_isDigit kn_X5 kc_X5_isDigit) rfl rfl (n := 1) (by decide +kernel) rfl ⟨by decide, by decide⟩ hl.1 rfl (Nat.le_of_ble_eq_true rfl) ⟨Nat.zero_le _, Nat.zero_le _⟩ dX5_faultOf_129 (fun r_129 q_129 => ?_)
            by_cases p_129 : k + 1 < dr ∧ dgC (σ.1 28 (k + 1))
            ·
              obtain rfl : r_129 = 1 := Eq.trans q_129 (if_pos p_129)
              refine lv_if_ne (tgt := 137) hx hb dX5_faultOf_132 (by decide) (fun _ => ?_) (fun cc => absurd cc (by decide))
              refine lv_iconst (v := 0) hx hb dX5_faultOf_137 (by decide) ?_
              refine lv_istore (lv' := [(4, .int 0), (1, .int (nI (k + 1))), (3, .int 2), (2, .int (σ.1 28 k)), (0, .ref (α 14))]) hx hb dX5_faultOf_138 hl (by decide) rfl (fun ls hl => ?_)
              refine lpX5_faultOf_140 dr X hsz hr hlk hN hdr hdr30 (w30 σ tr) _ _ I tr0 tr 2 (k + 1) rfl hz0 (by decide) (fun k2 m4 v hk02 hkm2 hxp2 hnd2 ls hl => ?_) (dr + 1) (k + 1) m3 0 true (by omega) (by omega) (by omega) (fun _ => p_129) (by rw [hxp, xP_let (m := m3) (by rw [hkd]; exact itm_nd (by rw [hit]; decide)) (by rw [hkd, hit]; decide), hkd, hit]; rfl) ls (lv_sub hl [4, 1, 2, 0] rfl)
              have hl : lv_has ls 5 [(0, .ref (α 14)), (1, .int (nI k2)), (3, .int (nI 2)), (4, .int v)] := hl
              refine lv_aload_n hx hb dX5_faultOf_181 rfl (lv_at hl 0 rfl) ?_
              refine fg5_23 X I (by omega) kfX5_59 dX5_faultOf_182 ?_
              refine lv_iload_n hx hb dX5_faultOf_185 rfl (lv_at hl 2 rfl) ?_
              refine lv_iload hx hb dX5_faultOf_186 (lv_at hl 3 rfl) ?_
              refine w_st X I 30 (by omega) (n := 6) (k := 2) (fun _ _ _ => rfl) rfl (by omega) (by decide) dX5_faultOf_188 (fun H locs I => ?_)
              refine lv_goto (tgt := 23) hx hb dX5_faultOf_189 (by decide) ?_
              rw [w30_u] at I
              exact ih tr0 m4 k2 2 (upd tr 2 v) (by omega) hz0 hkm2 (fun _ => hnd2) hxp2 _ _ I ls (lv_sub hl [0, 1] rfl)
            ·
              obtain rfl : r_129 = 0 := Eq.trans q_129 (if_neg p_129)
              refine lv_if_ne (tgt := 137) hx hb dX5_faultOf_132 (by decide) (fun cc => absurd cc (by decide)) (fun _ => ?_)
              refine lv_iload_n hx hb dX5_faultOf_135 rfl (lv_at hl 0 rfl) ?_
              exact w_iret X I hr hlk (⟨tr0, tr, hz0, rfl, fl_nodig hxp hkm hkd hit p_129, fun q => absurd q (fl_nodig2 hxp hkm hkd hit p_129)⟩) dX5_faultOf_136
        ·
          refine lv_iconst (v := 1) hx hb dX5_faultOf_54 (by decide) ?_
          refine lv_goto (tgt := 100) hx hb dX5_faultOf_55 (by decide) ?_
          have hit : itm (σ.1 28 k) = 1 := by rw [itm, if_neg c_41, if_pos c_51]
          refine lv_istore_n (lv' := [(3, .int 1), (2, .int (σ.1 28 k)), (0, .ref (α 14)), (1, .int (nI k))]) hx hb dX5_faultOf_100 rfl hl (by decide) rfl (fun ls hl => ?_)
          refine lv_iload_n hx hb dX5_faultOf_101 rfl (lv_at hl 0 rfl) ?_
          refine lv_bipush (v := 6) hx hb dX5_faultOf_102 (by decide) ?_
          refine lv_icmp_ne (tgt := 109) hx hb dX5_faultOf_104 (by decide) (fun _ => ?_) (fun cc => absurd cc (by decide))
          refine lv_iinc (v := nI (k + 1)) (lv' := [(1, .int (nI (k + 1))), (3, .int 1), (2, .int (σ.1 28 k)), (0, .ref (α 14))]) hx hb dX5_faultOf_109 hl (k := 3) rfl (nI_1 _) (by decide) rfl (fun ls hl => ?_)
          refine lv_iload_n hx hb dX5_faultOf_112 rfl (lv_at hl 1 rfl) ?_
          refine lv_iconst (v := 2) hx hb dX5_faultOf_113 (by decide) ?_
          refine lv_icmp_le (tgt := 127) hx hb dX5_faultOf_114 (by decide) (fun _ => ?_) (fun cc => absurd cc (by decide))
          refine lv_aload_n hx hb dX5_faultOf_127 rfl (lv_at hl 3 rfl) ?_
          refine lv_iload_n hx hb dX5_faultOf_128 rfl (lv_at hl 0 rfl) ?_
          refine w_vSi X I 14 (by omega) rfl rfl (As := [.int (nI (k + 1))]) (rest := []) (ctX5_isDigit l g α N (w30 σ tr) (k + 1) dr hN hdr hdr30 (by omega)) (wM_V kmX5_122 ki_X5_isDigit ks_X5_isDigit kn_X5 kc_X5_isDigit) rfl rfl (n := 1) (by decide +kernel) rfl ⟨by decide, by decide⟩ hl.1 rfl (Nat.le_of_ble_eq_true rfl) ⟨Nat.zero_le _, Nat.zero_le _⟩ dX5_faultOf_129 (fun r_129 q_129 => ?_)
          by_cases p_129 : k + 1 < dr ∧ dgC (σ.1 28 (k + 1))
          ·
            obtain rfl : r_129 = 1 := Eq.trans q_129 (if_pos p_129)
            refine lv_if_ne (tgt := 137) hx hb dX5_faultOf_132 (by decide) (fun _ => ?_) (fun cc => absurd cc (by decide))
            refine lv_iconst (v := 0) hx hb dX5_faultOf_137 (by decide) ?_
            refine lv_istore (lv' := [(4, .int 0), (1, .int (nI (k + 1))), (3, .int 1), (2, .int (σ.1 28 k)), (0, .ref (α 14))]) hx hb dX5_faultOf_138 hl (by decide) rfl (fun ls hl => ?_)
            refine lpX5_faultOf_140 dr X hsz hr hlk hN hdr hdr30 (w30 σ tr) _ _ I tr0 tr 1 (k + 1) rfl hz0 (by decide) (fun k2 m4 v hk02 hkm2 hxp2 hnd2 ls hl => ?_) (dr + 1) (k + 1) m3 0 true (by omega) (by omega) (by omega) (fun _ => p_129) (by rw [hxp, xP_let (m := m3) (by rw [hkd]; exact itm_nd (by rw [hit]; decide)) (by rw [hkd, hit]; decide), hkd, hit]; rfl) ls (lv_sub hl [4, 1, 2, 0] rfl)
            have hl : lv_has ls 5 [(0, .ref (α 14)), (1, .int (nI k2)), (3, .int (nI 1)), (4, .int v)] := hl
            refine lv_aload_n hx hb dX5_faultOf_181 rfl (lv_at hl 0 rfl) ?_
            refine fg5_23 X I (by omega) kfX5_59 dX5_faultOf_182 ?_
            refine lv_iload_n hx hb dX5_faultOf_185 rfl (lv_at hl 2 rfl) ?_
            refine lv_iload hx hb dX5_faultOf_186 (lv_at hl 3 rfl) ?_
            refine w_st X I 30 (by omega) (n := 6) (k := 1) (fun _ _ _ => rfl) rfl (by omega) (by decide) dX5_faultOf_188 (fun H locs I => ?_)
            refine lv_goto (tgt := 23) hx hb dX5_faultOf_189 (by decide) ?_
            rw [w30_u] at I
            exact ih tr0 m4 k2 1 (upd tr 1 v) (by omega) hz0 hkm2 (fun _ => hnd2) hxp2 _ _ I ls (lv_sub hl [0, 1] rfl)
          ·
            obtain rfl : r_129 = 0 := Eq.trans q_129 (if_neg p_129)
            refine lv_if_ne (tgt := 137) hx hb dX5_faultOf_132 (by decide) (fun cc => absurd cc (by decide)) (fun _ => ?_)
            refine lv_iload_n hx hb dX5_faultOf_135 rfl (lv_at hl 0 rfl) ?_
            exact w_iret X I hr hlk (⟨tr0, tr, hz0, rfl, fl_nodig hxp hkm hkd hit p_129, fun q => absurd q (fl_nodig2 hxp hkm hkd hit p_129)⟩) dX5_faultOf_136
      ·
        refine lv_iconst (v := 0) hx hb dX5_faultOf_44 (by decide) ?_
        refine lv_goto (tgt := 100) hx hb dX5_faultOf_45 (by decide) ?_
        have hit : itm (σ.1 28 k) = 0 := by rw [itm, if_pos c_41]
        refine lv_istore_n (lv' := [(3, .int 0), (2, .int (σ.1 28 k)), (0, .ref (α 14)), (1, .int (nI k))]) hx hb dX5_faultOf_100 rfl hl (by decide) rfl (fun ls hl => ?_)
        refine lv_iload_n hx hb dX5_faultOf_101 rfl (lv_at hl 0 rfl) ?_
        refine lv_bipush (v := 6) hx hb dX5_faultOf_102 (by decide) ?_
        refine lv_icmp_ne (tgt := 109) hx hb dX5_faultOf_104 (by decide) (fun _ => ?_) (fun cc => absurd cc (by decide))
        refine lv_iinc (v := nI (k + 1)) (lv' := [(1, .int (nI (k + 1))), (3, .int 0), (2, .int (σ.1 28 k)), (0, .ref (α 14))]) hx hb dX5_faultOf_109 hl (k := 3) rfl (nI_1 _) (by decide) rfl (fun ls hl => ?_)
        refine lv_iload_n hx hb dX5_faultOf_112 rfl (lv_at hl 1 rfl) ?_
        refine lv_iconst (v := 2) hx hb dX5_faultOf_113 (by decide) ?_
        refine lv_icmp_le (tgt := 127) hx hb dX5_faultOf_114 (by decide) (fun _ => ?_) (fun cc => absurd cc (by decide))
        refine lv_aload_n hx hb dX5_faultOf_127 rfl (lv_at hl 3 rfl) ?_
        refine lv_iload_n hx hb dX5_faultOf_128 rfl (lv_at hl 0 rfl) ?_
        refine w_vSi X I 14 (by omega) rfl rfl (As := [.int (nI (k + 1))]) (rest := []) (ctX5_isDigit l g α N (w30 σ tr) (k + 1) dr hN hdr hdr30 (by omega)) (wM_V kmX5_122 ki_X5_isDigit ks_X5_isDigit kn_X5 kc_X5_isDigit) rfl rfl (n := 1) (by decide +kernel) rfl ⟨by decide, by decide⟩ hl.1 rfl (Nat.le_of_ble_eq_true rfl) ⟨Nat.zero_le _, Nat.zero_le _⟩ dX5_faultOf_129 (fun r_129 q_129 => ?_)
        by_cases p_129 : k + 1 < dr ∧ dgC (σ.1 28 (k + 1))
        ·
          obtain rfl : r_129 = 1 := Eq.trans q_129 (if_pos p_129)
          refine lv_if_ne (tgt := 137) hx hb dX5_faultOf_132 (by decide) (fun _ => ?_) (fun cc => absurd cc (by decide))
          refine lv_iconst (v := 0) hx hb dX5_faultOf_137 (by decide) ?_
          refine lv_istore (lv' := [(4, .int 0), (1, .int (nI (k + 1))), (3, .int 0), (2, .int (σ.1 28 k)), (0, .ref (α 14))]) hx hb dX5_faultOf_138 hl (by decide) rfl (fun ls hl => ?_)
          refine lpX5_faultOf_140 dr X hsz hr hlk hN hdr hdr30 (w30 σ tr) _ _ I tr0 tr 0 (k + 1) rfl hz0 (by decide) (fun k2 m4 v hk02 hkm2 hxp2 hnd2 ls hl => ?_) (dr + 1) (k + 1) m3 0 true (by omega) (by omega) (by omega) (fun _ => p_129) (by rw [hxp, xP_let (m := m3) (by rw [hkd]; exact itm_nd (by rw [hit]; decide)) (by rw [hkd, hit]; decide), hkd, hit]; rfl) ls (lv_sub hl [4, 1, 2, 0] rfl)
          have hl : lv_has ls 5 [(0, .ref (α 14)), (1, .int (nI k2)), (3, .int (nI 0)), (4, .int v)] := hl
          refine lv_aload_n hx hb dX5_faultOf_181 rfl (lv_at hl 0 rfl) ?_
          refine fg5_23 X I (by omega) kfX5_59 dX5_faultOf_182 ?_
          refine lv_iload_n hx hb dX5_faultOf_185 rfl (lv_at hl 2 rfl) ?_
          refine lv_iload hx hb dX5_faultOf_186 (lv_at hl 3 rfl) ?_
          refine w_st X I 30 (by omega) (n := 6) (k := 0) (fun _ _ _ => rfl) rfl (by omega) (by decide) dX5_faultOf_188 (fun H locs I => ?_)
          refine lv_goto (tgt := 23) hx hb dX5_faultOf_189 (by decide) ?_
          rw [w30_u] at I
          exact ih tr0 m4 k2 0 (upd tr 0 v) (by omega) hz0 hkm2 (fun _ => hnd2) hxp2 _ _ I ls (lv_sub hl [0, 1] rfl)
        ·
          obtain rfl : r_129 = 0 := Eq.trans q_129 (if_neg p_129)
          refine lv_if_ne (tgt := 137) hx hb dX5_faultOf_132 (by decide) (fun cc => absurd cc (by decide)) (fun _ => ?_)
          refine lv_iload_n hx hb dX5_faultOf_135 rfl (lv_at hl 0 rfl) ?_
          exact w_iret X I hr hlk (⟨tr0, tr, hz0, rfl, fl_nodig hxp hkm hkd hit p_129, fun q => absurd q (fl_nodig2 hxp hkm hkd hit p_129)⟩) dX5_faultOf_136
set_option maxHeartbeats 1000000 in
set_option maxRecDepth 100000 in
theorem lpX5_faultOf_2 {sz : Nat} (dr : Nat) (X : wX p s m args c cX5_faultOf 5 RX5 g) (hsz : s.heap.size = sz) (hr : meth.sig.returnType = (some FieldType.int)) (hlk : meth.locks = false) (hN : 32 ≤ N) (hdr : σ.1 14 21 = nI dr) (hdr30 : dr ≤ 30) : ∀ (fu : Nat) (k : Nat) (tr : Nat → Int32), (6 + 1 ≤ k + fu) → (k ≤ 6) → ((∀ j, j < k → tr j = 0)) → ∀ (H : Heap) (locs : List Loc), wI g α N (wA α N sz) s.heap H locs (w30 σ tr) → ∀ ls : Array Slot, lv_has ls 5 [(0, .ref (α 14)), (1, .int (nI k))] → W p l e ({ frames := 2, cells := 0, slots := 0, locals := 43 } : Room) s m args below meth c H locs 0 0 (MQ below (va_Qi (fun r τ => ∃ tr0 tr1 : Nat → Int32, (∀ j, j < 6 → tr0 j = 0) ∧ τ = w30 σ tr1 ∧ r = fcI (xP (σ.1 28) dr dr 6 false tr0).1 (-9) ∧ ((xP (σ.1 28) dr dr 6 false tr0).1 = none → (xP (σ.1 28) dr dr 6 false tr0).2 = tr1)) (wB g α N) (wA α N sz)) args s 0 0 (wA α N sz)) (F0 m 2 ls []) := by
  have hA : ∀ q, s.heap.size ≤ q → wA α N sz q := fun q h => Or.inr (by omega)
  have hx := X.1.1
  have hb := X.1.2.1
  intro fu
  induction fu with
  | zero =>
    intro k tr hfu hk hz
    exact absurd hfu (by omega)
  | succ fu ih =>
    intro k tr hfu hk hz H locs I ls hl
    refine lv_iload_n hx hb dX5_faultOf_2 rfl (lv_at hl 1 rfl) ?_
    refine lv_bipush (v := 6) hx hb dX5_faultOf_3 (by decide) ?_
    refine lv_icmp_ge (tgt := 21) hx hb dX5_faultOf_5 (by decide) (fun c_5 => ?_) (fun c_5 => ?_)
    ·
      have e : k = 6 := by have := nI_le' (a := 6) c_5 (by decide) (by omega); omega
      refine lv_iconst (v := 0) hx hb dX5_faultOf_21 (by decide) ?_
      refine lv_istore_n (lv' := [(1, .int 0), (0, .ref (α 14))]) hx hb dX5_faultOf_22 rfl hl (by decide) rfl (fun ls hl => ?_)
      exact lpX5_faultOf_23 dr X hsz hr hlk hN hdr hdr30  (dr + 1) tr dr 0 6 tr (by omega) (fun j hj => hz j (by omega)) (by omega) (fun z => absurd z (by decide)) rfl _ _ I ls (lv_sub hl [1, 0] rfl)
    ·
      have hlt : k < 6 := Nat.lt_of_not_le (fun z => c_5 (nI_le (a := 6) z (by omega)))
      refine lv_aload_n hx hb dX5_faultOf_8 rfl (lv_at hl 0 rfl) ?_
      refine fg5_23 X I (by omega) kfX5_59 dX5_faultOf_9 ?_
      refine lv_iload_n hx hb dX5_faultOf_12 rfl (lv_at hl 1 rfl) ?_
      refine lv_iconst (v := 0) hx hb dX5_faultOf_13 (by decide) ?_
      refine w_st X I 30 (by omega) (n := 6) (k := k) (fun _ _ _ => rfl) rfl (by omega) (by decide) dX5_faultOf_14 (fun H locs I => ?_)
      refine lv_iinc (v := nI (k + 1)) (lv' := [(1, .int (nI (k + 1))), (0, .ref (α 14))]) hx hb dX5_faultOf_15 hl (k := 1) rfl (nI_1 _) (by decide) rfl (fun ls hl => ?_)
      refine lv_goto (tgt := 2) hx hb dX5_faultOf_18 (by decide) ?_
      rw [w30_u] at I
      exact ih (k + 1) (upd tr k 0) (by omega) (by omega) (upd_z hz) _ _ I ls (lv_sub hl [1, 0] rfl)
set_option maxHeartbeats 1000000 in
set_option maxRecDepth 100000 in
theorem ctX5_faultOf (l : Launch) (g : wG) (α : Nat → Nat) (N : Nat) (σ : wS) (sz : Nat) (dr : Nat) (hN : 32 ≤ N) (hdr : σ.1 14 21 = nI dr) (hdr30 : dr ≤ 30) : Met l yX5_faultOf (wM yX5_faultOf cX5_faultOf 5 (some FieldType.int)) ({ frames := 2, cells := 0, slots := 0, locals := 43 } : Room) (wPs g α N sz σ [.ref (α 14)]) (va_Qi (fun r τ => ∃ tr0 tr1 : Nat → Int32, (∀ j, j < 6 → tr0 j = 0) ∧ τ = w30 σ tr1 ∧ r = fcI (xP (σ.1 28) dr dr 6 false tr0).1 (-9) ∧ ((xP (σ.1 28) dr dr 6 false tr0).1 = none → (xP (σ.1 28) dr dr 6 false tr0).2 = tr1)) (wB g α N) (wA α N sz)) 0 0 (wA α N sz) := by
  refine w_enter (by decide) (Nat.le_of_ble_eq_true rfl) (fun p e s m args below meth c hsz X I hr hlk ls hl => ?_)
  have hA : ∀ q, s.heap.size ≤ q → wA α N sz q := fun q h => Or.inr (by omega)
  have hx := X.1.1
  have hb := X.1.2.1
  have hl : lv_has ls 5 [(0, .ref (α 14))] := hl
  refine lv_iconst (v := 0) hx hb dX5_faultOf_0 (by decide) ?_
  refine lv_istore_n (lv' := [(1, .int 0), (0, .ref (α 14))]) hx hb dX5_faultOf_1 rfl hl (by decide) rfl (fun ls hl => ?_)
  rw [w30_self σ] at I
  exact lpX5_faultOf_2 dr X hsz hr hlk hN hdr hdr30  7 0 (σ.1 30) (by omega) (by omega) (fun j hj => absurd hj (by omega)) _ _ I ls (lv_sub hl [1, 0] rfl)
end
