section
variable {l : Launch} {g : wG} {α : Nat → Nat} {N : Nat} {σ : wS} {p : Program} {e : Env} {s : State} {m : MethodId} {args : Array Value} {below : List Frame} {meth : Method} {c : Code}
set_option maxHeartbeats 4000000 in
set_option maxRecDepth 100000 in
theorem lpX2_dugFrom_5 (a e2 : Nat) (b : Int32) (X : wX p s m args c cX2_dugFrom 5 RX2 g) (I : wI g α N (fun _ => True) s.heap s.heap [] σ) (hr : meth.sig.returnType = (some FieldType.int)) (hlk : meth.locks = false) (hN : 32 ≤ N) (hbe : b = nI e2 - 1) (hae : a ≤ e2) (he2 : e2 ≤ 200) : ∀ (fu : Nat) (t : Nat) (acc : Int32), e2 + 1 ≤ a + t + fu → a + t ≤ e2 → acc = smI (fun t => σ.1 12 (a + t)) t → ∀ ls : Array Slot, lv_has ls 5 [(0, .ref (α 10)), (2, .int b), (3, .int acc), (4, .int (nI (a + t)))] → W p l e ({ frames := 0, cells := 0, slots := 0, locals := 0 } : Room) s m args below meth c s.heap [] 0 0 (MQ below (vp_Si (fun r => r = smI (fun t => σ.1 12 (a + t)) (e2 - a))) args s 0 0 (fun _ => False)) (F0 m 5 ls []) := by
  have hx := X.1.1
  have hb := X.1.2.1
  intro fu
  induction fu with
  | zero =>
    intro t acc hfu hk ha
    exact absurd hfu (by omega)
  | succ fu ih =>
    intro t acc hfu hk ha ls hl
    refine lv_iload hx hb dX2_dugFrom_5 (lv_at hl 3 rfl) ?_
    refine lv_iload_n hx hb dX2_dugFrom_7 rfl (lv_at hl 1 rfl) ?_
    refine w_eqi hbe ?_
    refine lv_icmp_gt (tgt := 27) hx hb dX2_dugFrom_8 (by decide) (fun c_8 => ?_) (fun c_8 => ?_)
    ·
      have e : a + t = e2 := by have := (m1_lt (by omega) (by omega)).mp c_8; omega
      refine lv_iload_n hx hb dX2_dugFrom_27 rfl (lv_at hl 2 rfl) ?_
      exact w_iretS X hr hlk (by rw [ha, ← e, Nat.add_sub_cancel_left]) dX2_dugFrom_28
    ·
      have hlt : a + t < e2 := Nat.lt_of_not_le (fun z => c_8 ((m1_lt (by omega) (by omega)).mpr z))
      refine lv_iload_n hx hb dX2_dugFrom_11 rfl (lv_at hl 2 rfl) ?_
      refine lv_aload_n hx hb dX2_dugFrom_12 rfl (lv_at hl 0 rfl) ?_
      refine fg2_1 X I (by omega) kfX2_15 dX2_dugFrom_13 ?_
      refine lv_iload hx hb dX2_dugFrom_16 (lv_at hl 3 rfl) ?_
      refine w_ld X I 12 (by omega) (n := 200) (k := a + t) (fun _ _ _ => rfl) rfl (by omega) (by decide) dX2_dugFrom_18 ?_
      refine lv_iadd hx hb dX2_dugFrom_19 ?_
      refine lv_istore_n (lv' := [(3, .int (acc + (σ.1 12 (a + t)))), (0, .ref (α 10)), (2, .int b), (4, .int (nI (a + t)))]) hx hb dX2_dugFrom_20 rfl hl (by decide) rfl (fun ls hl => ?_)
      refine lv_iinc (v := nI ((a + t) + 1)) (lv' := [(4, .int (nI ((a + t) + 1))), (3, .int (acc + (σ.1 12 (a + t)))), (0, .ref (α 10)), (2, .int b)]) hx hb dX2_dugFrom_21 hl (k := 3) rfl (nI_1 _) (by decide) rfl (fun ls hl => ?_)
      refine lv_goto (tgt := 5) hx hb dX2_dugFrom_24 (by decide) ?_
      exact ih (t + 1) (acc + (σ.1 12 (a + t))) (by omega) (by omega) (by rw [ha]; rfl) ls (lv_sub hl [2, 3, 1, 0] rfl)
set_option maxHeartbeats 4000000 in
set_option maxRecDepth 100000 in
theorem ctX2_dugFrom (l : Launch) (g : wG) (α : Nat → Nat) (N : Nat) (σ : wS) (a e2 : Nat) (b : Int32) (hN : 32 ≤ N) (hbe : b = nI e2 - 1) (hae : a ≤ e2) (he2 : e2 ≤ 200) : Met l yX2_dugFrom (wM yX2_dugFrom cX2_dugFrom 5 (some FieldType.int)) ({ frames := 0, cells := 0, slots := 0, locals := 0 } : Room) (wPc g α N σ [.ref (α 10), .int (nI a), .int b]) (vp_Si (fun r => r = smI (fun t => σ.1 12 (a + t)) (e2 - a))) 0 0 (fun _ => False) := by
  refine w_enterS (by decide) (Nat.le_of_ble_eq_true rfl) (fun p e s m args below meth c X I hr hlk ls hl => ?_)
  have hx := X.1.1
  have hb := X.1.2.1
  have hl : lv_has ls 5 [(0, .ref (α 10)), (1, .int (nI a)), (2, .int b)] := hl
  refine lv_iconst (v := 0) hx hb dX2_dugFrom_0 (by decide) ?_
  refine lv_istore_n (lv' := [(3, .int 0), (0, .ref (α 10)), (1, .int (nI a)), (2, .int b)]) hx hb dX2_dugFrom_1 rfl hl (by decide) rfl (fun ls hl => ?_)
  refine lv_iload_n hx hb dX2_dugFrom_2 rfl (lv_at hl 2 rfl) ?_
  refine lv_istore (lv' := [(4, .int (nI a)), (3, .int 0), (0, .ref (α 10)), (1, .int (nI a)), (2, .int b)]) hx hb dX2_dugFrom_3 hl (by decide) rfl (fun ls hl => ?_)
  exact lpX2_dugFrom_5 a e2 b X I hr hlk hN hbe hae he2  (e2 + 1) 0 0 (by omega) (by omega) rfl ls (lv_sub hl [2, 4, 1, 0] rfl)
end
section
variable {l : Launch} {g : wG} {α : Nat → Nat} {N : Nat} {σ : wS} {p : Program} {e : Env} {s : State} {m : MethodId} {args : Array Value} {below : List Frame} {meth : Method} {c : Code}
set_option maxHeartbeats 4000000 in
set_option maxRecDepth 100000 in
theorem lpX2_latestCome_4 (d : Nat) (X : wX p s m args c cX2_latestCome 3 RX2 g) (I : wI g α N (fun _ => True) s.heap s.heap [] σ) (hr : meth.sig.returnType = (some FieldType.int)) (hlk : meth.locks = false) (hN : 32 ≤ N) (hd200 : d ≤ 200) : ∀ (fu : Nat) (j : Nat), j + 1 ≤ fu → j ≤ d → lcO (σ.1 13) (nI d) d = lcO (σ.1 13) (nI d) j → ∀ ls : Array Slot, lv_has ls 3 [(0, .ref (α 10)), (1, .int (nI d)), (2, .int (nI j - 1))] → W p l e ({ frames := 0, cells := 0, slots := 0, locals := 0 } : Room) s m args below meth c s.heap [] 0 0 (MQ below (vp_Si (fun r => r = lcI (lcO (σ.1 13) (nI d) d))) args s 0 0 (fun _ => False)) (F0 m 4 ls []) := by
  have hx := X.1.1
  have hb := X.1.2.1
  intro fu
  induction fu with
  | zero =>
    intro j hfu hj ha
    exact absurd hfu (by omega)
  | succ fu ih =>
    intro j hfu hj ha ls hl
    refine lv_iload_n hx hb dX2_latestCome_4 rfl (lv_at hl 2 rfl) ?_
    refine lv_if_lt (tgt := 26) hx hb dX2_latestCome_5 (by decide) (fun c_5 => ?_) (fun c_5 => ?_)
    ·
      obtain rfl : j = 0 := (m1_neg (by omega)).mp c_5
      refine lv_bipush (v := (-9)) hx hb dX2_latestCome_26 (by decide) ?_
      exact w_iretS X hr hlk (by first | (rw [ha]; rfl) | (rw [ha, lcO, if_pos (Int32.not_lt.mp c_15)]; rfl)) dX2_latestCome_28
    ·
      obtain ⟨j', rfl⟩ : ∃ j', j = j' + 1 := ⟨j - 1, by have h0 : ¬ j = 0 := fun z => c_5 ((m1_neg (j := j) (by omega)).mpr z); omega⟩
      refine lv_aload_n hx hb dX2_latestCome_8 rfl (lv_at hl 0 rfl) ?_
      refine fg2_2 X I (by omega) kfX2_18 dX2_latestCome_9 ?_
      refine lv_iload_n hx hb dX2_latestCome_12 rfl (lv_at hl 2 rfl) ?_
      refine w_eqi (nI_pred _) ?_
      refine w_ld X I 13 (by omega) (n := 200) (k := j') (fun _ _ _ => rfl) rfl (by omega) (by decide) dX2_latestCome_13 ?_
      refine lv_iload_n hx hb dX2_latestCome_14 rfl (lv_at hl 1 rfl) ?_
      refine lv_icmp_gt (tgt := 20) hx hb dX2_latestCome_15 (by decide) (fun c_15 => ?_) (fun c_15 => ?_)
      ·
        refine lv_iinc (v := nI j' - 1) (lv' := [(2, .int (nI j' - 1)), (0, .ref (α 10)), (1, .int (nI d))]) hx hb dX2_latestCome_20 hl (k := 2) rfl (by rw [nI_pred]; exact m1e _) (by decide) rfl (fun ls hl => ?_)
        refine lv_goto (tgt := 4) hx hb dX2_latestCome_23 (by decide) ?_
        exact ih j' (by omega) (by omega) (by rw [ha, lcO, if_neg (Int32.not_le.mpr c_15)]) ls (lv_sub hl [1, 2, 0] rfl)
      ·
        refine lv_iload_n hx hb dX2_latestCome_18 rfl (lv_at hl 2 rfl) ?_
        refine w_eqi (nI_pred _) ?_
        exact w_iretS X hr hlk (by first | (rw [ha]; rfl) | (rw [ha, lcO, if_pos (Int32.not_lt.mp c_15)]; rfl)) dX2_latestCome_19
set_option maxHeartbeats 4000000 in
set_option maxRecDepth 100000 in
theorem ctX2_latestCome (l : Launch) (g : wG) (α : Nat → Nat) (N : Nat) (σ : wS) (d : Nat) (hN : 32 ≤ N) (hd200 : d ≤ 200) : Met l yX2_latestCome (wM yX2_latestCome cX2_latestCome 3 (some FieldType.int)) ({ frames := 0, cells := 0, slots := 0, locals := 0 } : Room) (wPc g α N σ [.ref (α 10), .int (nI d)]) (vp_Si (fun r => r = lcI (lcO (σ.1 13) (nI d) d))) 0 0 (fun _ => False) := by
  refine w_enterS (by decide) (Nat.le_of_ble_eq_true rfl) (fun p e s m args below meth c X I hr hlk ls hl => ?_)
  have hx := X.1.1
  have hb := X.1.2.1
  have hl : lv_has ls 3 [(0, .ref (α 10)), (1, .int (nI d))] := hl
  refine lv_iload_n hx hb dX2_latestCome_0 rfl (lv_at hl 1 rfl) ?_
  refine lv_iconst (v := 1) hx hb dX2_latestCome_1 (by decide) ?_
  refine lv_isub hx hb dX2_latestCome_2 ?_
  refine lv_istore_n (lv' := [(2, .int ((nI d) - 1)), (0, .ref (α 10)), (1, .int (nI d))]) hx hb dX2_latestCome_3 rfl hl (by decide) rfl (fun ls hl => ?_)
  exact lpX2_latestCome_4 d X I hr hlk hN hd200  (d + 1) d (by omega) (by omega) rfl ls (lv_sub hl [1, 2, 0] rfl)
end
section
variable {l : Launch} {g : wG} {α : Nat → Nat} {N : Nat} {σ : wS} {p : Program} {e : Env} {s : State} {m : MethodId} {args : Array Value} {below : List Frame} {meth : Method} {c : Code}
set_option maxHeartbeats 4000000 in
set_option maxRecDepth 100000 in
theorem ctX2_foretell (l : Launch) (g : wG) (α : Nat → Nat) (N : Nat) (σ : wS) (d : Nat) (hN : 32 ≤ N) (hd200 : d ≤ 200) : Met l yX2_foretell (wM yX2_foretell cX2_foretell 5 (some FieldType.int)) ({ frames := 1, cells := 0, slots := 0, locals := 30 } : Room) (wPc g α N σ [.ref (α 10), .int (nI d)]) (vp_Si (fun r => r = fgO (σ.1 11) (σ.1 12) (lcO (σ.1 13) (nI d) d))) 0 0 (fun _ => False) := by
  refine w_enterS (by decide) (Nat.le_of_ble_eq_true rfl) (fun p e s m args below meth c X I hr hlk ls hl => ?_)
  have hx := X.1.1
  have hb := X.1.2.1
  have hl : lv_has ls 5 [(0, .ref (α 10)), (1, .int (nI d))] := hl
  refine lv_aload_n hx hb dX2_foretell_0 rfl (lv_at hl 0 rfl) ?_
  refine lv_iload_n hx hb dX2_foretell_1 rfl (lv_at hl 1 rfl) ?_
  refine w_vSi X I 10 (by omega) rfl rfl (As := [.int (nI d)]) (rest := []) (ctX2_latestCome l g α N σ d hN hd200) (wM_V kmX2_21 ki_X2_latestCome ks_X2_latestCome kn_X2 kc_X2_latestCome) rfl rfl (n := 1) (by decide +kernel) rfl ⟨by decide, by decide⟩ hl.1 rfl (Nat.le_of_ble_eq_true rfl) ⟨Nat.zero_le _, Nat.zero_le _⟩ dX2_foretell_2 (fun r_2 q_2 => ?_)
  replace q_2 : r_2 = lcI (lcO (σ.1 13) (nI d) d) := q_2
  subst q_2
  rcases hlc : lcO (σ.1 13) (nI d) d with _ | j
  ·
    refine w_eqi (y := (-9)) rfl ?_
    refine lv_istore_n (lv' := [(2, .int (-9)), (0, .ref (α 10)), (1, .int (nI d))]) hx hb dX2_foretell_5 rfl hl (by decide) rfl (fun ls hl => ?_)
    refine lv_iload_n hx hb dX2_foretell_6 rfl (lv_at hl 0 rfl) ?_
    refine lv_bipush (v := (-9)) hx hb dX2_foretell_7 (by decide) ?_
    refine lv_icmp_ne (tgt := 15) hx hb dX2_foretell_9 (by decide) (fun cc => absurd cc (by decide)) (fun _ => ?_)
    refine lv_bipush (v := (-9)) hx hb dX2_foretell_12 (by decide) ?_
    exact w_iretS X hr hlk (by first | rfl | exact (if_pos c_36).symm | exact (if_neg c_36).symm) dX2_foretell_14
  ·
    have hj := lcO_lt hlc
    refine w_eqi (y := nI j) rfl ?_
    refine lv_istore_n (lv' := [(2, .int (nI j)), (0, .ref (α 10)), (1, .int (nI d))]) hx hb dX2_foretell_5 rfl hl (by decide) rfl (fun ls hl => ?_)
    refine lv_iload_n hx hb dX2_foretell_6 rfl (lv_at hl 0 rfl) ?_
    refine lv_bipush (v := (-9)) hx hb dX2_foretell_7 (by decide) ?_
    refine lv_icmp_ne (tgt := 15) hx hb dX2_foretell_9 (by decide) (fun _ => ?_) (fun cc => absurd cc (nI_neN (by omega) (by decide)))
    refine lv_iconst (v := 0) hx hb dX2_foretell_15 (by decide) ?_
    refine lv_iload_n hx hb dX2_foretell_16 rfl (lv_at hl 0 rfl) ?_
    refine lv_bipush (v := 7) hx hb dX2_foretell_17 (by decide) ?_
    refine lv_isub hx hb dX2_foretell_19 ?_
    refine lv_iconst (v := 1) hx hb dX2_foretell_20 (by decide) ?_
    refine lv_iadd hx hb dX2_foretell_21 ?_
    refine va_mmax hx hb (X.1.2.2.1.trans hl.1.symm) X.1.2.2.2.1 (X.1.2.2.2.2 _ kmX2_25) (X.1.2.2.2.2 _ kt_Math_max) (X.1.2.2.2.2 _ kn_Math) (X.1.2.2.2.2 _ kc_Math_max) (by decide) (Nat.le_of_ble_eq_true rfl) (Nat.zero_le _) (Nat.zero_le _) dX2_foretell_22 ?_
    refine w_eqi (max6 (by omega)) ?_
    refine lv_istore_n (lv' := [(3, .int (nI (j - 6))), (2, .int (nI j)), (0, .ref (α 10)), (1, .int (nI d))]) hx hb dX2_foretell_25 rfl hl (by decide) rfl (fun ls hl => ?_)
    refine lv_aload_n hx hb dX2_foretell_26 rfl (lv_at hl 2 rfl) ?_
    refine lv_iload_n hx hb dX2_foretell_27 rfl (lv_at hl 0 rfl) ?_
    refine lv_iload_n hx hb dX2_foretell_28 rfl (lv_at hl 1 rfl) ?_
    refine w_vSi X I 10 (by omega) rfl rfl (As := [.int (nI (j - 6)), .int (nI j)]) (rest := []) (ctX2_dugFrom l g α N σ (j - 6) (j + 1) (nI j) hN (nI_pred _).symm (by omega) (by omega)) (wM_V kmX2_31 ki_X2_dugFrom ks_X2_dugFrom kn_X2 kc_X2_dugFrom) rfl rfl (n := 2) (by decide +kernel) rfl ⟨by decide, by decide⟩ hl.1 rfl (Nat.le_of_ble_eq_true rfl) ⟨Nat.zero_le _, Nat.zero_le _⟩ dX2_foretell_29 (fun r_29 q_29 => ?_)
    replace q_29 : r_29 = smI (fun t => σ.1 12 (j - 6 + t)) (j + 1 - (j - 6)) := q_29
    subst q_29
    refine lv_istore (lv' := [(4, .int (smI (fun t => σ.1 12 (j - 6 + t)) (j + 1 - (j - 6)))), (3, .int (nI (j - 6))), (2, .int (nI j)), (0, .ref (α 10)), (1, .int (nI d))]) hx hb dX2_foretell_32 hl (by decide) rfl (fun ls hl => ?_)
    refine lv_iload hx hb dX2_foretell_34 (lv_at hl 0 rfl) ?_
    refine lv_if_ne (tgt := 42) hx hb dX2_foretell_36 (by decide) (fun c_36 => ?_) (fun c_36 => ?_)
    ·
      refine lv_aload_n hx hb dX2_foretell_42 rfl (lv_at hl 3 rfl) ?_
      refine fg2_0 X I (by omega) kfX2_9 dX2_foretell_43 ?_
      refine lv_iload_n hx hb dX2_foretell_46 rfl (lv_at hl 2 rfl) ?_
      refine w_ld X I 11 (by omega) (n := 200) (k := j) (fun _ _ _ => rfl) rfl (by omega) (by decide) dX2_foretell_47 ?_
      refine lv_iload_n hx hb dX2_foretell_48 rfl (lv_at hl 2 rfl) ?_
      refine lv_iload_n hx hb dX2_foretell_49 rfl (lv_at hl 1 rfl) ?_
      refine lv_isub hx hb dX2_foretell_50 ?_
      refine lv_iconst (v := 1) hx hb dX2_foretell_51 (by decide) ?_
      refine lv_iadd hx hb dX2_foretell_52 ?_
      refine w_eqi fgN ?_
      refine lv_imul hx hb dX2_foretell_53 ?_
      refine lv_iload hx hb dX2_foretell_54 (lv_at hl 0 rfl) ?_
      refine lv_iadd hx hb dX2_foretell_56 ?_
      refine lv_iconst (v := 1) hx hb dX2_foretell_57 (by decide) ?_
      refine lv_isub hx hb dX2_foretell_58 ?_
      refine lv_iload hx hb dX2_foretell_59 (lv_at hl 0 rfl) ?_
      refine lv_idiv hx hb dX2_foretell_61 c_36 ?_
      exact w_iretS X hr hlk (by first | rfl | exact (if_pos c_36).symm | exact (if_neg c_36).symm) dX2_foretell_62
    ·
      refine lv_bipush (v := (-9)) hx hb dX2_foretell_39 (by decide) ?_
      exact w_iretS X hr hlk (by first | rfl | exact (if_pos c_36).symm | exact (if_neg c_36).symm) dX2_foretell_41
end
section
variable {l : Launch} {g : wG} {α : Nat → Nat} {N : Nat} {σ : wS} {p : Program} {e : Env} {s : State} {m : MethodId} {args : Array Value} {below : List Frame} {meth : Method} {c : Code}
set_option maxHeartbeats 4000000 in
set_option maxRecDepth 100000 in
theorem ctX4_foretold (l : Launch) (g : wG) (α : Nat → Nat) (N : Nat) (σ : wS) (d : Nat) (hN : 32 ≤ N) (hd : σ.1 0 6 = nI d) (hd200 : d ≤ 200) : Met l yX4_foretold (wM yX4_foretold cX4_foretold 1 (some FieldType.int)) ({ frames := 2, cells := 0, slots := 0, locals := 54 } : Room) (wPc g α N σ [.ref (α 0)]) (vp_Si (fun r => r = fgO (σ.1 11) (σ.1 12) (lcO (σ.1 13) (nI d) d))) 0 0 (fun _ => False) := by
  refine w_enterS (by decide) (Nat.le_of_ble_eq_true rfl) (fun p e s m args below meth c X I hr hlk ls hl => ?_)
  have hx := X.1.1
  have hb := X.1.2.1
  have hl : lv_has ls 1 [(0, .ref (α 0))] := hl
  refine lv_aload_n hx hb dX4_foretold_0 rfl (lv_at hl 0 rfl) ?_
  refine fg4_5 X I (by omega) kfX4_39 dX4_foretold_1 ?_
  refine lv_aload_n hx hb dX4_foretold_4 rfl (lv_at hl 0 rfl) ?_
  refine fg4_6 X I (by omega) kfX4_43 dX4_foretold_5 ?_
  refine w_eqi hd ?_
  refine w_vSi X I 10 (by omega) rfl rfl (As := [.int (nI d)]) (rest := []) (ctX2_foretell l g α N σ d hN hd200) (wM_V kmX4_181 ki_X2_foretell ks_X2_foretell kn_X2 kc_X2_foretell) rfl rfl (n := 1) (by decide +kernel) rfl ⟨by decide, by decide⟩ hl.1 rfl (Nat.le_of_ble_eq_true rfl) ⟨Nat.zero_le _, Nat.zero_le _⟩ dX4_foretold_8 (fun r_8 q_8 => ?_)
  replace q_8 : r_8 = fgO (σ.1 11) (σ.1 12) (lcO (σ.1 13) (nI d) d) := q_8
  subst q_8
  exact w_iretS X hr hlk rfl dX4_foretold_11
end
section
variable {l : Launch} {g : wG} {α : Nat → Nat} {N : Nat} {σ : wS} {p : Program} {e : Env} {s : State} {m : MethodId} {args : Array Value} {below : List Frame} {meth : Method} {c : Code}
set_option maxHeartbeats 4000000 in
set_option maxRecDepth 100000 in
theorem ctX4_letter (l : Launch) (g : wG) (α : Nat → Nat) (N : Nat) (σ : wS) (a b : Int32) (d : Nat) (hN : 32 ≤ N) (hd : σ.1 0 6 = nI d) (hd200 : d ≤ 200) : Met l yX4_letter (wM yX4_letter cX4_letter 3 (some FieldType.int)) ({ frames := 1, cells := 0, slots := 0, locals := 22 } : Room) (wPc g α N σ [.ref (α 0), .int a, .int b]) (vp_Si (fun r => r = ltF (σ.1 11) (σ.1 12) (σ.1 13) d a b)) 0 0 (fun _ => False) := by
  refine w_enterS (by decide) (Nat.le_of_ble_eq_true rfl) (fun p e s m args below meth c X I hr hlk ls hl => ?_)
  have hx := X.1.1
  have hb := X.1.2.1
  have hl : lv_has ls 3 [(0, .ref (α 0)), (1, .int a), (2, .int b)] := hl
  refine lv_iload_n hx hb dX4_letter_0 rfl (lv_at hl 1 rfl) ?_
  refine lv_iconst (v := 0) hx hb dX4_letter_1 (by decide) ?_
  refine lv_sipush (v := 200) hx hb dX4_letter_2 (by decide) ?_
  refine w_sSi X I (As := [.int a, .int 0, .int 200]) (rest := []) (ctX4_within l g α N σ _ _ _ ) (wM_S kmX4_57 kt_X4_within kn_X4 kc_X4_within) rfl rfl (n := 3) (by decide +kernel) rfl ⟨by decide, by decide⟩ hl.1 rfl (Nat.le_of_ble_eq_true rfl) ⟨Nat.zero_le _, Nat.zero_le _⟩ dX4_letter_5 (fun r_5 q_5 => ?_)
  by_cases p_5 : ¬ a < 0 ∧ ¬ 200 < a
  ·
    obtain rfl : r_5 = 1 := Eq.trans q_5 (if_pos p_5)
    refine lv_if_eq (tgt := 20) hx hb dX4_letter_8 (by decide) (fun cc => absurd cc (by decide)) (fun _ => ?_)
    refine lv_iload_n hx hb dX4_letter_11 rfl (lv_at hl 2 rfl) ?_
    refine lv_iconst (v := 0) hx hb dX4_letter_12 (by decide) ?_
    refine lv_iconst (v := 2) hx hb dX4_letter_13 (by decide) ?_
    refine w_sSi X I (As := [.int b, .int 0, .int 2]) (rest := []) (ctX4_within l g α N σ _ _ _ ) (wM_S kmX4_57 kt_X4_within kn_X4 kc_X4_within) rfl rfl (n := 3) (by decide +kernel) rfl ⟨by decide, by decide⟩ hl.1 rfl (Nat.le_of_ble_eq_true rfl) ⟨Nat.zero_le _, Nat.zero_le _⟩ dX4_letter_14 (fun r_14 q_14 => ?_)
    by_cases p_14 : ¬ b < 0 ∧ ¬ 2 < b
    ·
      obtain rfl : r_14 = 1 := Eq.trans q_14 (if_pos p_14)
      refine lv_if_ne (tgt := 22) hx hb dX4_letter_17 (by decide) (fun _ => ?_) (fun cc => absurd cc (by decide))
      refine lv_iload_n hx hb dX4_letter_22 rfl (lv_at hl 1 rfl) ?_
      refine lv_aload_n hx hb dX4_letter_23 rfl (lv_at hl 0 rfl) ?_
      refine fg4_6 X I (by omega) kfX4_43 dX4_letter_24 ?_
      refine w_eqi hd ?_
      refine lv_icmp_ge (tgt := 46) hx hb dX4_letter_27 (by decide) (fun c_27 => ?_) (fun c_27 => ?_)
      ·
        refine lv_bipush (v := (-9)) hx hb dX4_letter_46 (by decide) ?_
        exact w_iretS X hr hlk (by first | (rw [ltF, if_neg p_5]; done) | (rw [ltF, if_pos p_5, if_neg p_14]; done) | (rw [ltF, if_pos p_5, if_pos p_14, spq_bad (Or.inr c_27)]; done) | (rw [ltF, if_pos p_5, if_pos p_14, spq_ok hk (by omega), if_neg (Int32.not_le.mpr (Int32.not_le.mp c_43))]; done) | (rw [ltF, if_pos p_5, if_pos p_14, spq_ok hk (by omega), if_pos c_43]; rfl)) dX4_letter_48
      ·
        obtain ⟨k, hk, rfl⟩ := bt_ok (n := d) (by omega) ⟨p_5.1, c_27⟩
        refine lv_aload_n hx hb dX4_letter_30 rfl (lv_at hl 0 rfl) ?_
        refine fg4_5 X I (by omega) kfX4_39 dX4_letter_31 ?_
        refine fg2_2 X I (by omega) kfX4_172 dX4_letter_34 ?_
        refine lv_iload_n hx hb dX4_letter_37 rfl (lv_at hl 1 rfl) ?_
        refine w_ld X I 13 (by omega) (n := 200) (k := k) (fun _ _ _ => rfl) rfl (by omega) (by decide) dX4_letter_38 ?_
        refine lv_aload_n hx hb dX4_letter_39 rfl (lv_at hl 0 rfl) ?_
        refine fg4_6 X I (by omega) kfX4_43 dX4_letter_40 ?_
        refine w_eqi hd ?_
        refine lv_icmp_le (tgt := 49) hx hb dX4_letter_43 (by decide) (fun c_43 => ?_) (fun c_43 => ?_)
        ·
          refine lv_iload_n hx hb dX4_letter_49 rfl (lv_at hl 2 rfl) ?_
          rcases sw3 p_14 with rfl | rfl | rfl
          ·
            refine lv_lookup (tgt := 76) (off := 26) hx hb dX4_letter_50 (by decide) (by decide) (by decide) ?_
            refine lv_aload_n hx hb dX4_letter_76 rfl (lv_at hl 0 rfl) ?_
            refine fg4_5 X I (by omega) kfX4_39 dX4_letter_77 ?_
            refine fg2_0 X I (by omega) kfX4_175 dX4_letter_80 ?_
            refine lv_iload_n hx hb dX4_letter_83 rfl (lv_at hl 1 rfl) ?_
            refine w_ld X I 11 (by omega) (n := 200) (k := k) (fun _ _ _ => rfl) rfl (by omega) (by decide) dX4_letter_84 ?_
            exact w_iretS X hr hlk (by first | (rw [ltF, if_neg p_5]; done) | (rw [ltF, if_pos p_5, if_neg p_14]; done) | (rw [ltF, if_pos p_5, if_pos p_14, spq_bad (Or.inr c_27)]; done) | (rw [ltF, if_pos p_5, if_pos p_14, spq_ok hk (by omega), if_neg (Int32.not_le.mpr (Int32.not_le.mp c_43))]; done) | (rw [ltF, if_pos p_5, if_pos p_14, spq_ok hk (by omega), if_pos c_43]; rfl)) dX4_letter_85
          ·
            refine lv_lookup (tgt := 86) (off := 36) hx hb dX4_letter_50 (by decide) (by decide) (by decide) ?_
            refine lv_aload_n hx hb dX4_letter_86 rfl (lv_at hl 0 rfl) ?_
            refine fg4_5 X I (by omega) kfX4_39 dX4_letter_87 ?_
            refine fg2_1 X I (by omega) kfX4_178 dX4_letter_90 ?_
            refine lv_iload_n hx hb dX4_letter_93 rfl (lv_at hl 1 rfl) ?_
            refine w_ld X I 12 (by omega) (n := 200) (k := k) (fun _ _ _ => rfl) rfl (by omega) (by decide) dX4_letter_94 ?_
            exact w_iretS X hr hlk (by first | (rw [ltF, if_neg p_5]; done) | (rw [ltF, if_pos p_5, if_neg p_14]; done) | (rw [ltF, if_pos p_5, if_pos p_14, spq_bad (Or.inr c_27)]; done) | (rw [ltF, if_pos p_5, if_pos p_14, spq_ok hk (by omega), if_neg (Int32.not_le.mpr (Int32.not_le.mp c_43))]; done) | (rw [ltF, if_pos p_5, if_pos p_14, spq_ok hk (by omega), if_pos c_43]; rfl)) dX4_letter_95
          ·
            refine lv_lookup (tgt := 96) (off := 46) hx hb dX4_letter_50 (by decide) (by decide) (by decide) ?_
            refine lv_aload_n hx hb dX4_letter_96 rfl (lv_at hl 0 rfl) ?_
            refine fg4_5 X I (by omega) kfX4_39 dX4_letter_97 ?_
            refine fg2_2 X I (by omega) kfX4_172 dX4_letter_100 ?_
            refine lv_iload_n hx hb dX4_letter_103 rfl (lv_at hl 1 rfl) ?_
            refine w_ld X I 13 (by omega) (n := 200) (k := k) (fun _ _ _ => rfl) rfl (by omega) (by decide) dX4_letter_104 ?_
            exact w_iretS X hr hlk (by first | (rw [ltF, if_neg p_5]; done) | (rw [ltF, if_pos p_5, if_neg p_14]; done) | (rw [ltF, if_pos p_5, if_pos p_14, spq_bad (Or.inr c_27)]; done) | (rw [ltF, if_pos p_5, if_pos p_14, spq_ok hk (by omega), if_neg (Int32.not_le.mpr (Int32.not_le.mp c_43))]; done) | (rw [ltF, if_pos p_5, if_pos p_14, spq_ok hk (by omega), if_pos c_43]; rfl)) dX4_letter_105
        ·
          refine lv_bipush (v := (-9)) hx hb dX4_letter_46 (by decide) ?_
          exact w_iretS X hr hlk (by first | (rw [ltF, if_neg p_5]; done) | (rw [ltF, if_pos p_5, if_neg p_14]; done) | (rw [ltF, if_pos p_5, if_pos p_14, spq_bad (Or.inr c_27)]; done) | (rw [ltF, if_pos p_5, if_pos p_14, spq_ok hk (by omega), if_neg (Int32.not_le.mpr (Int32.not_le.mp c_43))]; done) | (rw [ltF, if_pos p_5, if_pos p_14, spq_ok hk (by omega), if_pos c_43]; rfl)) dX4_letter_48
    ·
      obtain rfl : r_14 = 0 := Eq.trans q_14 (if_neg p_14)
      refine lv_if_ne (tgt := 22) hx hb dX4_letter_17 (by decide) (fun cc => absurd cc (by decide)) (fun _ => ?_)
      refine lv_iconst (v := (-1)) hx hb dX4_letter_20 (by decide) ?_
      exact w_iretS X hr hlk (by first | (rw [ltF, if_neg p_5]; done) | (rw [ltF, if_pos p_5, if_neg p_14]; done) | (rw [ltF, if_pos p_5, if_pos p_14, spq_bad (Or.inr c_27)]; done) | (rw [ltF, if_pos p_5, if_pos p_14, spq_ok hk (by omega), if_neg (Int32.not_le.mpr (Int32.not_le.mp c_43))]; done) | (rw [ltF, if_pos p_5, if_pos p_14, spq_ok hk (by omega), if_pos c_43]; rfl)) dX4_letter_21
  ·
    obtain rfl : r_5 = 0 := Eq.trans q_5 (if_neg p_5)
    refine lv_if_eq (tgt := 20) hx hb dX4_letter_8 (by decide) (fun _ => ?_) (fun cc => absurd cc (by decide))
    refine lv_iconst (v := (-1)) hx hb dX4_letter_20 (by decide) ?_
    exact w_iretS X hr hlk (by first | (rw [ltF, if_neg p_5]; done) | (rw [ltF, if_pos p_5, if_neg p_14]; done) | (rw [ltF, if_pos p_5, if_pos p_14, spq_bad (Or.inr c_27)]; done) | (rw [ltF, if_pos p_5, if_pos p_14, spq_ok hk (by omega), if_neg (Int32.not_le.mpr (Int32.not_le.mp c_43))]; done) | (rw [ltF, if_pos p_5, if_pos p_14, spq_ok hk (by omega), if_pos c_43]; rfl)) dX4_letter_21
end
section
variable {l : Launch} {g : wG} {α : Nat → Nat} {N : Nat} {σ : wS} {p : Program} {e : Env} {s : State} {m : MethodId} {args : Array Value} {below : List Frame} {meth : Method} {c : Code}
set_option maxHeartbeats 4000000 in
set_option maxRecDepth 100000 in
theorem lpX4_loadedShips_4 (n : Nat) (X : wX p s m args c cX4_loadedShips 3 RX4 g) (I : wI g α N (fun _ => True) s.heap s.heap [] σ) (hr : meth.sig.returnType = (some FieldType.int)) (hlk : meth.locks = false) (hn : σ.1 0 7 = nI n) (hn10 : n ≤ 10) (hN : 32 + 4 * n ≤ N) (hR : ∀ k, k < n → σ.2.2 5 k = some (32 + 4 * k)) : ∀ (fu : Nat) (k : Nat) (acc : Int32), n + 1 ≤ k + fu → k ≤ n → acc = smI (fun i => if ¬ σ.1 (32 + 4 * i) 9 = (-9) then 1 else 0) k → ∀ ls : Array Slot, lv_has ls 3 [(0, .ref (α 0)), (1, .int acc), (2, .int (nI k))] → W p l e ({ frames := 1, cells := 0, slots := 0, locals := 20 } : Room) s m args below meth c s.heap [] 0 0 (MQ below (vp_Si (fun r => r = smI (fun i => if ¬ σ.1 (32 + 4 * i) 9 = (-9) then 1 else 0) n)) args s 0 0 (fun _ => False)) (F0 m 4 ls []) := by
  have hx := X.1.1
  have hb := X.1.2.1
  intro fu
  induction fu with
  | zero =>
    intro k acc hfu hk ha
    exact absurd hfu (by omega)
  | succ fu ih =>
    intro k acc hfu hk ha ls hl
    refine lv_iload_n hx hb dX4_loadedShips_4 rfl (lv_at hl 2 rfl) ?_
    refine lv_aload_n hx hb dX4_loadedShips_5 rfl (lv_at hl 0 rfl) ?_
    refine fg4_7 X I (by omega) kfX4_47 dX4_loadedShips_6 ?_
    refine w_eqi hn ?_
    refine lv_icmp_ge (tgt := 33) hx hb dX4_loadedShips_9 (by decide) (fun c_9 => ?_) (fun c_9 => ?_)
    ·
      have e : k = n := by have := nI_le' c_9 (by omega) (by omega); omega
      refine lv_iload_n hx hb dX4_loadedShips_33 rfl (lv_at hl 1 rfl) ?_
      exact w_iretS X hr hlk (by rw [ha, e]) dX4_loadedShips_34
    ·
      have hlt : k < n := by
        rcases Nat.lt_or_ge k n with q | q
        · exact q
        · exact absurd (nI_le q (by omega)) c_9
      refine lv_aload_n hx hb dX4_loadedShips_12 rfl (lv_at hl 0 rfl) ?_
      refine fg4_2 X I (by omega) kfX4_22 dX4_loadedShips_13 ?_
      refine lv_iload_n hx hb dX4_loadedShips_16 rfl (lv_at hl 2 rfl) ?_
      refine w_ldq X I 5 (by omega) (n := 10) (k := k) (fun _ _ _ => rfl) rfl (by omega) (by decide) (hR k hlt) dX4_loadedShips_17 ?_
      refine w_vSi X I (32 + 4 * k) (by omega) (wc_ship g α k _ _ _) rfl (As := []) (rest := []) (ctX3_isLoaded l g α N σ k (by omega)) (wM_V kmX4_119 ki_X3_isLoaded ks_X3_isLoaded kn_X3 kc_X3_isLoaded) rfl rfl (n := 0) (by decide +kernel) rfl ⟨by decide, by decide⟩ hl.1 rfl (Nat.le_of_ble_eq_true rfl) ⟨Nat.zero_le _, Nat.zero_le _⟩ dX4_loadedShips_18 (fun r_18 q_18 => ?_)
      by_cases p_18 : ¬ σ.1 (32 + 4 * k) 9 = (-9)
      ·
        obtain rfl : r_18 = 1 := Eq.trans q_18 (if_pos p_18)
        refine lv_if_eq (tgt := 27) hx hb dX4_loadedShips_21 (by decide) (fun cc => absurd cc (by decide)) (fun _ => ?_)
        refine lv_iinc (v := acc + 1) (lv' := [(1, .int (acc + 1)), (0, .ref (α 0)), (2, .int (nI k))]) hx hb dX4_loadedShips_24 hl (k := 1) rfl rfl (by decide) rfl (fun ls hl => ?_)
        refine lv_iinc (v := nI (k + 1)) (lv' := [(2, .int (nI (k + 1))), (1, .int (acc + 1)), (0, .ref (α 0))]) hx hb dX4_loadedShips_27 hl (k := 2) rfl (nI_1 _) (by decide) rfl (fun ls hl => ?_)
        refine lv_goto (tgt := 4) hx hb dX4_loadedShips_30 (by decide) ?_
        exact ih (k + 1) (acc + 1) (by omega) (by omega) (by rw [ha, smI]; first | rw [if_pos p_18] | (rw [if_neg p_18]; simp)) ls (lv_sub hl [2, 1, 0] rfl)
      ·
        obtain rfl : r_18 = 0 := Eq.trans q_18 (if_neg p_18)
        refine lv_if_eq (tgt := 27) hx hb dX4_loadedShips_21 (by decide) (fun _ => ?_) (fun cc => absurd cc (by decide))
        refine lv_iinc (v := nI (k + 1)) (lv' := [(2, .int (nI (k + 1))), (0, .ref (α 0)), (1, .int acc)]) hx hb dX4_loadedShips_27 hl (k := 2) rfl (nI_1 _) (by decide) rfl (fun ls hl => ?_)
        refine lv_goto (tgt := 4) hx hb dX4_loadedShips_30 (by decide) ?_
        exact ih (k + 1) acc (by omega) (by omega) (by rw [ha, smI]; first | rw [if_pos p_18] | (rw [if_neg p_18]; simp)) ls (lv_sub hl [1, 2, 0] rfl)
set_option maxHeartbeats 4000000 in
set_option maxRecDepth 100000 in
theorem ctX4_loadedShips (l : Launch) (g : wG) (α : Nat → Nat) (N : Nat) (σ : wS) (n : Nat) (hn : σ.1 0 7 = nI n) (hn10 : n ≤ 10) (hN : 32 + 4 * n ≤ N) (hR : ∀ k, k < n → σ.2.2 5 k = some (32 + 4 * k)) : Met l yX4_loadedShips (wM yX4_loadedShips cX4_loadedShips 3 (some FieldType.int)) ({ frames := 1, cells := 0, slots := 0, locals := 20 } : Room) (wPc g α N σ [.ref (α 0)]) (vp_Si (fun r => r = smI (fun i => if ¬ σ.1 (32 + 4 * i) 9 = (-9) then 1 else 0) n)) 0 0 (fun _ => False) := by
  refine w_enterS (by decide) (Nat.le_of_ble_eq_true rfl) (fun p e s m args below meth c X I hr hlk ls hl => ?_)
  have hx := X.1.1
  have hb := X.1.2.1
  have hl : lv_has ls 3 [(0, .ref (α 0))] := hl
  refine lv_iconst (v := 0) hx hb dX4_loadedShips_0 (by decide) ?_
  refine lv_istore_n (lv' := [(1, .int 0), (0, .ref (α 0))]) hx hb dX4_loadedShips_1 rfl hl (by decide) rfl (fun ls hl => ?_)
  refine lv_iconst (v := 0) hx hb dX4_loadedShips_2 (by decide) ?_
  refine lv_istore_n (lv' := [(2, .int 0), (1, .int 0), (0, .ref (α 0))]) hx hb dX4_loadedShips_3 rfl hl (by decide) rfl (fun ls hl => ?_)
  exact lpX4_loadedShips_4 n X I hr hlk hn hn10 hN hR  (n + 1) 0 0 (by omega) (by omega) rfl ls (lv_sub hl [2, 1, 0] rfl)
end
section
variable {l : Launch} {g : wG} {α : Nat → Nat} {N : Nat} {σ : wS} {p : Program} {e : Env} {s : State} {m : MethodId} {args : Array Value} {below : List Frame} {meth : Method} {c : Code}
set_option maxHeartbeats 4000000 in
set_option maxRecDepth 100000 in
theorem lpX4_dryShips_4 (n : Nat) (X : wX p s m args c cX4_dryShips 3 RX4 g) (I : wI g α N (fun _ => True) s.heap s.heap [] σ) (hr : meth.sig.returnType = (some FieldType.int)) (hlk : meth.locks = false) (hn : σ.1 0 7 = nI n) (hn10 : n ≤ 10) (hN : 32 + 4 * n ≤ N) (hR : ∀ k, k < n → σ.2.2 5 k = some (32 + 4 * k)) : ∀ (fu : Nat) (k : Nat) (acc : Int32), n + 1 ≤ k + fu → k ≤ n → acc = smI (fun i => if σ.1 (32 + 4 * i) 9 = (-9) ∧ σ.1 (32 + 4 * i) 8 = 0 then 1 else 0) k → ∀ ls : Array Slot, lv_has ls 3 [(0, .ref (α 0)), (1, .int acc), (2, .int (nI k))] → W p l e ({ frames := 2, cells := 0, slots := 0, locals := 40 } : Room) s m args below meth c s.heap [] 0 0 (MQ below (vp_Si (fun r => r = smI (fun i => if σ.1 (32 + 4 * i) 9 = (-9) ∧ σ.1 (32 + 4 * i) 8 = 0 then 1 else 0) n)) args s 0 0 (fun _ => False)) (F0 m 4 ls []) := by
  have hx := X.1.1
  have hb := X.1.2.1
  intro fu
  induction fu with
  | zero =>
    intro k acc hfu hk ha
    exact absurd hfu (by omega)
  | succ fu ih =>
    intro k acc hfu hk ha ls hl
    refine lv_iload_n hx hb dX4_dryShips_4 rfl (lv_at hl 2 rfl) ?_
    refine lv_aload_n hx hb dX4_dryShips_5 rfl (lv_at hl 0 rfl) ?_
    refine fg4_7 X I (by omega) kfX4_47 dX4_dryShips_6 ?_
    refine w_eqi hn ?_
    refine lv_icmp_ge (tgt := 33) hx hb dX4_dryShips_9 (by decide) (fun c_9 => ?_) (fun c_9 => ?_)
    ·
      have e : k = n := by have := nI_le' c_9 (by omega) (by omega); omega
      refine lv_iload_n hx hb dX4_dryShips_33 rfl (lv_at hl 1 rfl) ?_
      exact w_iretS X hr hlk (by rw [ha, e]) dX4_dryShips_34
    ·
      have hlt : k < n := by
        rcases Nat.lt_or_ge k n with q | q
        · exact q
        · exact absurd (nI_le q (by omega)) c_9
      refine lv_aload_n hx hb dX4_dryShips_12 rfl (lv_at hl 0 rfl) ?_
      refine fg4_2 X I (by omega) kfX4_22 dX4_dryShips_13 ?_
      refine lv_iload_n hx hb dX4_dryShips_16 rfl (lv_at hl 2 rfl) ?_
      refine w_ldq X I 5 (by omega) (n := 10) (k := k) (fun _ _ _ => rfl) rfl (by omega) (by decide) (hR k hlt) dX4_dryShips_17 ?_
      refine w_vSi X I (32 + 4 * k) (by omega) (wc_ship g α k _ _ _) rfl (As := []) (rest := []) (ctX3_isDry l g α N σ k (by omega)) (wM_V kmX4_210 ki_X3_isDry ks_X3_isDry kn_X3 kc_X3_isDry) rfl rfl (n := 0) (by decide +kernel) rfl ⟨by decide, by decide⟩ hl.1 rfl (Nat.le_of_ble_eq_true rfl) ⟨Nat.zero_le _, Nat.zero_le _⟩ dX4_dryShips_18 (fun r_18 q_18 => ?_)
      by_cases p_18 : σ.1 (32 + 4 * k) 9 = (-9) ∧ σ.1 (32 + 4 * k) 8 = 0
      ·
        obtain rfl : r_18 = 1 := Eq.trans q_18 (if_pos p_18)
        refine lv_if_eq (tgt := 27) hx hb dX4_dryShips_21 (by decide) (fun cc => absurd cc (by decide)) (fun _ => ?_)
        refine lv_iinc (v := acc + 1) (lv' := [(1, .int (acc + 1)), (0, .ref (α 0)), (2, .int (nI k))]) hx hb dX4_dryShips_24 hl (k := 1) rfl rfl (by decide) rfl (fun ls hl => ?_)
        refine lv_iinc (v := nI (k + 1)) (lv' := [(2, .int (nI (k + 1))), (1, .int (acc + 1)), (0, .ref (α 0))]) hx hb dX4_dryShips_27 hl (k := 2) rfl (nI_1 _) (by decide) rfl (fun ls hl => ?_)
        refine lv_goto (tgt := 4) hx hb dX4_dryShips_30 (by decide) ?_
        exact ih (k + 1) (acc + 1) (by omega) (by omega) (by rw [ha, smI]; first | rw [if_pos p_18] | (rw [if_neg p_18]; simp)) ls (lv_sub hl [2, 1, 0] rfl)
      ·
        obtain rfl : r_18 = 0 := Eq.trans q_18 (if_neg p_18)
        refine lv_if_eq (tgt := 27) hx hb dX4_dryShips_21 (by decide) (fun _ => ?_) (fun cc => absurd cc (by decide))
        refine lv_iinc (v := nI (k + 1)) (lv' := [(2, .int (nI (k + 1))), (0, .ref (α 0)), (1, .int acc)]) hx hb dX4_dryShips_27 hl (k := 2) rfl (nI_1 _) (by decide) rfl (fun ls hl => ?_)
        refine lv_goto (tgt := 4) hx hb dX4_dryShips_30 (by decide) ?_
        exact ih (k + 1) acc (by omega) (by omega) (by rw [ha, smI]; first | rw [if_pos p_18] | (rw [if_neg p_18]; simp)) ls (lv_sub hl [1, 2, 0] rfl)
set_option maxHeartbeats 4000000 in
set_option maxRecDepth 100000 in
theorem ctX4_dryShips (l : Launch) (g : wG) (α : Nat → Nat) (N : Nat) (σ : wS) (n : Nat) (hn : σ.1 0 7 = nI n) (hn10 : n ≤ 10) (hN : 32 + 4 * n ≤ N) (hR : ∀ k, k < n → σ.2.2 5 k = some (32 + 4 * k)) : Met l yX4_dryShips (wM yX4_dryShips cX4_dryShips 3 (some FieldType.int)) ({ frames := 2, cells := 0, slots := 0, locals := 40 } : Room) (wPc g α N σ [.ref (α 0)]) (vp_Si (fun r => r = smI (fun i => if σ.1 (32 + 4 * i) 9 = (-9) ∧ σ.1 (32 + 4 * i) 8 = 0 then 1 else 0) n)) 0 0 (fun _ => False) := by
  refine w_enterS (by decide) (Nat.le_of_ble_eq_true rfl) (fun p e s m args below meth c X I hr hlk ls hl => ?_)
  have hx := X.1.1
  have hb := X.1.2.1
  have hl : lv_has ls 3 [(0, .ref (α 0))] := hl
  refine lv_iconst (v := 0) hx hb dX4_dryShips_0 (by decide) ?_
  refine lv_istore_n (lv' := [(1, .int 0), (0, .ref (α 0))]) hx hb dX4_dryShips_1 rfl hl (by decide) rfl (fun ls hl => ?_)
  refine lv_iconst (v := 0) hx hb dX4_dryShips_2 (by decide) ?_
  refine lv_istore_n (lv' := [(2, .int 0), (1, .int 0), (0, .ref (α 0))]) hx hb dX4_dryShips_3 rfl hl (by decide) rfl (fun ls hl => ?_)
  exact lpX4_dryShips_4 n X I hr hlk hn hn10 hN hR  (n + 1) 0 0 (by omega) (by omega) rfl ls (lv_sub hl [2, 1, 0] rfl)
end
section
variable {l : Launch} {g : wG} {α : Nat → Nat} {N : Nat} {σ : wS} {p : Program} {e : Env} {s : State} {m : MethodId} {args : Array Value} {below : List Frame} {meth : Method} {c : Code}
set_option maxHeartbeats 4000000 in
set_option maxRecDepth 100000 in
theorem lpX4_tonsWanted_4 (n : Nat) (X : wX p s m args c cX4_tonsWanted 3 RX4 g) (I : wI g α N (fun _ => True) s.heap s.heap [] σ) (hr : meth.sig.returnType = (some FieldType.int)) (hlk : meth.locks = false) (hn : σ.1 0 7 = nI n) (hn10 : n ≤ 10) (hN : 32 + 4 * n ≤ N) (hR : ∀ k, k < n → σ.2.2 5 k = some (32 + 4 * k)) : ∀ (fu : Nat) (k : Nat) (acc : Int32), n + 1 ≤ k + fu → k ≤ n → acc = smI (fun i => σ.1 (32 + 4 * i) 6) k → ∀ ls : Array Slot, lv_has ls 3 [(0, .ref (α 0)), (1, .int acc), (2, .int (nI k))] → W p l e ({ frames := 0, cells := 0, slots := 0, locals := 0 } : Room) s m args below meth c s.heap [] 0 0 (MQ below (vp_Si (fun r => r = smI (fun i => σ.1 (32 + 4 * i) 6) n)) args s 0 0 (fun _ => False)) (F0 m 4 ls []) := by
  have hx := X.1.1
  have hb := X.1.2.1
  intro fu
  induction fu with
  | zero =>
    intro k acc hfu hk ha
    exact absurd hfu (by omega)
  | succ fu ih =>
    intro k acc hfu hk ha ls hl
    refine lv_iload_n hx hb dX4_tonsWanted_4 rfl (lv_at hl 2 rfl) ?_
    refine lv_aload_n hx hb dX4_tonsWanted_5 rfl (lv_at hl 0 rfl) ?_
    refine fg4_7 X I (by omega) kfX4_47 dX4_tonsWanted_6 ?_
    refine w_eqi hn ?_
    refine lv_icmp_ge (tgt := 30) hx hb dX4_tonsWanted_9 (by decide) (fun c_9 => ?_) (fun c_9 => ?_)
    ·
      have e : k = n := by have := nI_le' c_9 (by omega) (by omega); omega
      refine lv_iload_n hx hb dX4_tonsWanted_30 rfl (lv_at hl 1 rfl) ?_
      exact w_iretS X hr hlk (by rw [ha, e]) dX4_tonsWanted_31
    ·
      have hlt : k < n := by
        rcases Nat.lt_or_ge k n with q | q
        · exact q
        · exact absurd (nI_le q (by omega)) c_9
      refine lv_iload_n hx hb dX4_tonsWanted_12 rfl (lv_at hl 1 rfl) ?_
      refine lv_aload_n hx hb dX4_tonsWanted_13 rfl (lv_at hl 0 rfl) ?_
      refine fg4_2 X I (by omega) kfX4_22 dX4_tonsWanted_14 ?_
      refine lv_iload_n hx hb dX4_tonsWanted_17 rfl (lv_at hl 2 rfl) ?_
      refine w_ldq X I 5 (by omega) (n := 10) (k := k) (fun _ _ _ => rfl) rfl (by omega) (by decide) (hR k hlt) dX4_tonsWanted_18 ?_
      refine fg3_6 X I k (by omega) kfX4_98 dX4_tonsWanted_19 ?_
      refine lv_iadd hx hb dX4_tonsWanted_22 ?_
      refine lv_istore_n (lv' := [(1, .int (acc + (σ.1 (32 + 4 * k) 6))), (0, .ref (α 0)), (2, .int (nI k))]) hx hb dX4_tonsWanted_23 rfl hl (by decide) rfl (fun ls hl => ?_)
      refine lv_iinc (v := nI (k + 1)) (lv' := [(2, .int (nI (k + 1))), (1, .int (acc + (σ.1 (32 + 4 * k) 6))), (0, .ref (α 0))]) hx hb dX4_tonsWanted_24 hl (k := 2) rfl (nI_1 _) (by decide) rfl (fun ls hl => ?_)
      refine lv_goto (tgt := 4) hx hb dX4_tonsWanted_27 (by decide) ?_
      exact ih (k + 1) (acc + (σ.1 (32 + 4 * k) 6)) (by omega) (by omega) (by rw [ha]; rfl) ls (lv_sub hl [2, 1, 0] rfl)
set_option maxHeartbeats 4000000 in
set_option maxRecDepth 100000 in
theorem ctX4_tonsWanted (l : Launch) (g : wG) (α : Nat → Nat) (N : Nat) (σ : wS) (n : Nat) (hn : σ.1 0 7 = nI n) (hn10 : n ≤ 10) (hN : 32 + 4 * n ≤ N) (hR : ∀ k, k < n → σ.2.2 5 k = some (32 + 4 * k)) : Met l yX4_tonsWanted (wM yX4_tonsWanted cX4_tonsWanted 3 (some FieldType.int)) ({ frames := 0, cells := 0, slots := 0, locals := 0 } : Room) (wPc g α N σ [.ref (α 0)]) (vp_Si (fun r => r = smI (fun i => σ.1 (32 + 4 * i) 6) n)) 0 0 (fun _ => False) := by
  refine w_enterS (by decide) (Nat.le_of_ble_eq_true rfl) (fun p e s m args below meth c X I hr hlk ls hl => ?_)
  have hx := X.1.1
  have hb := X.1.2.1
  have hl : lv_has ls 3 [(0, .ref (α 0))] := hl
  refine lv_iconst (v := 0) hx hb dX4_tonsWanted_0 (by decide) ?_
  refine lv_istore_n (lv' := [(1, .int 0), (0, .ref (α 0))]) hx hb dX4_tonsWanted_1 rfl hl (by decide) rfl (fun ls hl => ?_)
  refine lv_iconst (v := 0) hx hb dX4_tonsWanted_2 (by decide) ?_
  refine lv_istore_n (lv' := [(2, .int 0), (1, .int 0), (0, .ref (α 0))]) hx hb dX4_tonsWanted_3 rfl hl (by decide) rfl (fun ls hl => ?_)
  exact lpX4_tonsWanted_4 n X I hr hlk hn hn10 hN hR  (n + 1) 0 0 (by omega) (by omega) rfl ls (lv_sub hl [2, 1, 0] rfl)
end
section
variable {l : Launch} {g : wG} {α : Nat → Nat} {N : Nat} {σ : wS} {p : Program} {e : Env} {s : State} {m : MethodId} {args : Array Value} {below : List Frame} {meth : Method} {c : Code}
set_option maxHeartbeats 4000000 in
set_option maxRecDepth 100000 in
theorem ctX4_count (l : Launch) (g : wG) (α : Nat → Nat) (N : Nat) (σ : wS) (a : Int32) (n d ly dr : Nat) (hn : σ.1 0 7 = nI n) (hn10 : n ≤ 10) (hN : 32 + 4 * n ≤ N) (hd : σ.1 0 6 = nI d) (hd200 : d ≤ 200) (hz : σ.1 2 2 = nI ly) (hly : ly ≤ 6) (hdr : σ.1 7 2 = nI dr) (hdr30 : dr ≤ 30) (hR : ∀ k, k < n → σ.2.2 5 k = some (32 + 4 * k)) : Met l yX4_count (wM yX4_count cX4_count 2 (some FieldType.int)) ({ frames := 3, cells := 0, slots := 0, locals := 62 } : Room) (wPc g α N σ [.ref (α 0), .int a]) (vp_Si (fun r => r = abF (nI d) (nI n) (nI ly) (smI (fun i => if ¬ σ.1 (32 + 4 * i) 9 = (-9) then 1 else 0) n) (smI (fun t => σ.1 12 (0 + t)) (d - 0)) (nI dr) (smI (fun i => if σ.1 (32 + 4 * i) 9 = (-9) ∧ σ.1 (32 + 4 * i) 8 = 0 then 1 else 0) n) a)) 0 0 (fun _ => False) := by
  refine w_enterS (by decide) (Nat.le_of_ble_eq_true rfl) (fun p e s m args below meth c X I hr hlk ls hl => ?_)
  have hx := X.1.1
  have hb := X.1.2.1
  have hl : lv_has ls 2 [(0, .ref (α 0)), (1, .int a)] := hl
  refine lv_iload_n hx hb dX4_count_0 rfl (lv_at hl 1 rfl) ?_
  rcases sw7 a with rfl | rfl | rfl | rfl | rfl | rfl | rfl | hsw
  ·
    refine lv_tableIn (tgt := 44) (off := 43) hx hb dX4_count_1 (by decide) (by decide) rfl (by decide) ?_
    refine lv_aload_n hx hb dX4_count_44 rfl (lv_at hl 0 rfl) ?_
    refine fg4_6 X I (by omega) kfX4_43 dX4_count_45 ?_
    refine w_eqi hd ?_
    exact w_iretS X hr hlk (by first | (simp [abF]; done) | (simp [abF, hsw]; done)) dX4_count_48
  ·
    refine lv_tableIn (tgt := 49) (off := 48) hx hb dX4_count_1 (by decide) (by decide) rfl (by decide) ?_
    refine lv_aload_n hx hb dX4_count_49 rfl (lv_at hl 0 rfl) ?_
    refine fg4_7 X I (by omega) kfX4_47 dX4_count_50 ?_
    refine w_eqi hn ?_
    exact w_iretS X hr hlk (by first | (simp [abF]; done) | (simp [abF, hsw]; done)) dX4_count_53
  ·
    refine lv_tableIn (tgt := 54) (off := 53) hx hb dX4_count_1 (by decide) (by decide) rfl (by decide) ?_
    refine lv_aload_n hx hb dX4_count_54 rfl (lv_at hl 0 rfl) ?_
    refine fg4_1 X I (by omega) kfX4_16 dX4_count_55 ?_
    refine fg1_2 X I (by omega) kfX4_61 dX4_count_58 ?_
    refine w_eqi hz ?_
    exact w_iretS X hr hlk (by first | (simp [abF]; done) | (simp [abF, hsw]; done)) dX4_count_61
  ·
    refine lv_tableIn (tgt := 62) (off := 61) hx hb dX4_count_1 (by decide) (by decide) rfl (by decide) ?_
    refine lv_aload_n hx hb dX4_count_62 rfl (lv_at hl 0 rfl) ?_
    refine w_vSi X I 0 (by omega) rfl rfl (As := []) (rest := []) (ctX4_loadedShips l g α N σ n hn hn10 hN hR) (wM_V kmX4_184 ki_X4_loadedShips ks_X4_loadedShips kn_X4 kc_X4_loadedShips) rfl rfl (n := 0) (by decide +kernel) rfl ⟨by decide, by decide⟩ hl.1 rfl (Nat.le_of_ble_eq_true rfl) ⟨Nat.zero_le _, Nat.zero_le _⟩ dX4_count_63 (fun r_63 q_63 => ?_)
    replace q_63 : r_63 = smI (fun i => if ¬ σ.1 (32 + 4 * i) 9 = (-9) then 1 else 0) n := q_63
    subst q_63
    exact w_iretS X hr hlk (by first | (simp [abF]; done) | (simp [abF, hsw]; done)) dX4_count_66
  ·
    refine lv_tableIn (tgt := 67) (off := 66) hx hb dX4_count_1 (by decide) (by decide) rfl (by decide) ?_
    refine lv_aload_n hx hb dX4_count_67 rfl (lv_at hl 0 rfl) ?_
    refine fg4_5 X I (by omega) kfX4_39 dX4_count_68 ?_
    refine lv_iconst (v := 0) hx hb dX4_count_71 (by decide) ?_
    refine lv_aload_n hx hb dX4_count_72 rfl (lv_at hl 0 rfl) ?_
    refine fg4_6 X I (by omega) kfX4_43 dX4_count_73 ?_
    refine w_eqi hd ?_
    refine lv_iconst (v := 1) hx hb dX4_count_76 (by decide) ?_
    refine lv_isub hx hb dX4_count_77 ?_
    refine w_vSi X I 10 (by omega) rfl rfl (As := [.int 0, .int ((nI d) - 1)]) (rest := []) (ctX2_dugFrom l g α N σ 0 d _ (by omega) rfl (Nat.zero_le _) hd200) (wM_V kmX4_187 ki_X2_dugFrom ks_X2_dugFrom kn_X2 kc_X2_dugFrom) rfl rfl (n := 2) (by decide +kernel) rfl ⟨by decide, by decide⟩ hl.1 rfl (Nat.le_of_ble_eq_true rfl) ⟨Nat.zero_le _, Nat.zero_le _⟩ dX4_count_78 (fun r_78 q_78 => ?_)
    replace q_78 : r_78 = smI (fun t => σ.1 12 (0 + t)) (d - 0) := q_78
    subst q_78
    exact w_iretS X hr hlk (by first | (simp [abF]; done) | (simp [abF, hsw]; done)) dX4_count_81
  ·
    refine lv_tableIn (tgt := 82) (off := 81) hx hb dX4_count_1 (by decide) (by decide) rfl (by decide) ?_
    refine lv_aload_n hx hb dX4_count_82 rfl (lv_at hl 0 rfl) ?_
    refine fg4_4 X I (by omega) kfX4_32 dX4_count_83 ?_
    refine fg0_2 X I (by omega) kfX4_132 dX4_count_86 ?_
    refine w_eqi hdr ?_
    exact w_iretS X hr hlk (by first | (simp [abF]; done) | (simp [abF, hsw]; done)) dX4_count_89
  ·
    refine lv_tableIn (tgt := 90) (off := 89) hx hb dX4_count_1 (by decide) (by decide) rfl (by decide) ?_
    refine lv_aload_n hx hb dX4_count_90 rfl (lv_at hl 0 rfl) ?_
    refine w_vSi X I 0 (by omega) rfl rfl (As := []) (rest := []) (ctX4_dryShips l g α N σ n hn hn10 hN hR) (wM_V kmX4_190 ki_X4_dryShips ks_X4_dryShips kn_X4 kc_X4_dryShips) rfl rfl (n := 0) (by decide +kernel) rfl ⟨by decide, by decide⟩ hl.1 rfl (Nat.le_of_ble_eq_true rfl) ⟨Nat.zero_le _, Nat.zero_le _⟩ dX4_count_91 (fun r_91 q_91 => ?_)
    replace q_91 : r_91 = smI (fun i => if σ.1 (32 + 4 * i) 9 = (-9) ∧ σ.1 (32 + 4 * i) 8 = 0 then 1 else 0) n := q_91
    subst q_91
    exact w_iretS X hr hlk (by first | (simp [abF]; done) | (simp [abF, hsw]; done)) dX4_count_94
  ·
    refine lv_tableOut (tgt := 95) hx hb dX4_count_1 hsw.1 (by decide) ?_
    refine lv_iconst (v := (-1)) hx hb dX4_count_95 (by decide) ?_
    exact w_iretS X hr hlk (by first | (simp [abF]; done) | (simp [abF, hsw]; done)) dX4_count_96
end
section
variable {l : Launch} {g : wG} {α : Nat → Nat} {N : Nat} {σ : wS} {p : Program} {e : Env} {s : State} {m : MethodId} {args : Array Value} {below : List Frame} {meth : Method} {c : Code}
set_option maxHeartbeats 4000000 in
set_option maxRecDepth 100000 in
theorem ctX4_trace (l : Launch) (g : wG) (α : Nat → Nat) (N : Nat) (σ : wS)  (hN : 32 ≤ N) : Met l yX4_trace (wM yX4_trace cX4_trace 1 (some FieldType.long)) ({ frames := 0, cells := 0, slots := 0, locals := 0 } : Room) (wPc g α N σ [.ref (α 0)]) (vp_Sl (fun r => r = σ.2.1 0)) 0 0 (fun _ => False) := by
  refine w_enterS (by decide) (Nat.le_of_ble_eq_true rfl) (fun p e s m args below meth c X I hr hlk ls hl => ?_)
  have hx := X.1.1
  have hb := X.1.2.1
  have hl : lv_has ls 1 [(0, .ref (α 0))] := hl
  refine lv_aload_n hx hb dX4_trace_0 rfl (lv_at hl 0 rfl) ?_
  refine fg4_9 X I (by omega) kfX4_53 dX4_trace_1 ?_
  exact w_lretS X hr hlk rfl dX4_trace_4
end
section
variable {l : Launch} {g : wG} {α : Nat → Nat} {N : Nat} {σ : wS} {p : Program} {e : Env} {s : State} {m : MethodId} {args : Array Value} {below : List Frame} {meth : Method} {c : Code}
set_option maxHeartbeats 4000000 in
set_option maxRecDepth 100000 in
theorem ctX1_lay (l : Launch) (g : wG) (α : Nat → Nat) (N : Nat) (σ : wS) (sz : Nat) (t w : Int32) (ly : Nat) (hN : 32 ≤ N) (hz : σ.1 2 2 = nI ly) (hly : ly < 6) : Met l yX1_lay (wM yX1_lay cX1_lay 3 (some FieldType.int)) ({ frames := 0, cells := 0, slots := 0, locals := 0 } : Room) (wPs g α N sz σ [.ref (α 2), .int t, .int w]) (va_Qi (fun r τ => r = nI ly ∧ τ = laS σ ly t w) (wB g α N) (wA α N sz)) 0 0 (wA α N sz) := by
  refine w_enter (by decide) (Nat.le_of_ble_eq_true rfl) (fun p e s m args below meth c hsz X I hr hlk ls hl => ?_)
  have hA : ∀ q, s.heap.size ≤ q → wA α N sz q := fun q h => Or.inr (by omega)
  have hx := X.1.1
  have hb := X.1.2.1
  have hl : lv_has ls 3 [(0, .ref (α 2)), (1, .int t), (2, .int w)] := hl
  refine lv_aload_n hx hb dX1_lay_0 rfl (lv_at hl 0 rfl) ?_
  refine fg1_0 X I (by omega) kfX1_9 dX1_lay_1 ?_
  refine lv_aload_n hx hb dX1_lay_4 rfl (lv_at hl 0 rfl) ?_
  refine fg1_2 X I (by omega) kfX1_18 dX1_lay_5 ?_
  refine w_eqi hz ?_
  refine lv_iload_n hx hb dX1_lay_8 rfl (lv_at hl 1 rfl) ?_
  refine w_st X I 3 (by omega) (n := 6) (k := ly) (fun _ _ _ => rfl) rfl (by omega) (by decide) dX1_lay_9 (fun H locs I => ?_)
  refine lv_aload_n hx hb dX1_lay_10 rfl (lv_at hl 0 rfl) ?_
  refine fg1_1 X I (by omega) kfX1_15 dX1_lay_11 ?_
  refine lv_aload_n hx hb dX1_lay_14 rfl (lv_at hl 0 rfl) ?_
  refine fg1_2 X I (by omega) kfX1_18 dX1_lay_15 ?_
  refine w_eqi (wu_o (by decide)) ?_
  refine w_eqi hz ?_
  refine lv_iload_n hx hb dX1_lay_18 rfl (lv_at hl 2 rfl) ?_
  refine w_st X I 4 (by omega) (n := 6) (k := ly) (fun _ _ _ => rfl) rfl (by omega) (by decide) dX1_lay_19 (fun H locs I => ?_)
  refine lv_aload_n hx hb dX1_lay_20 rfl (lv_at hl 0 rfl) ?_
  refine lv_dup hx hb dX1_lay_21 rfl ?_
  refine fg1_2 X I (by omega) kfX1_18 dX1_lay_22 ?_
  refine w_eqi ((wu_o (by decide)).trans (wu_o (by decide))) ?_
  refine w_eqi hz ?_
  refine lv_iconst (v := 1) hx hb dX1_lay_25 (by decide) ?_
  refine lv_iadd hx hb dX1_lay_26 ?_
  refine w_eqi (nI_1 _) ?_
  refine fp1_2 X I (by omega) kfX1_18 dX1_lay_27 (fun H locs I => ?_)
  refine lv_aload_n hx hb dX1_lay_30 rfl (lv_at hl 0 rfl) ?_
  refine fg1_2 X I (by omega) kfX1_18 dX1_lay_31 ?_
  refine w_eqi wu_s ?_
  refine lv_iconst (v := 1) hx hb dX1_lay_34 (by decide) ?_
  refine lv_isub hx hb dX1_lay_35 ?_
  refine w_eqi (nI_pred _) ?_
  exact w_iret X I hr hlk (⟨rfl, rfl⟩) dX1_lay_36
end
section
variable {l : Launch} {g : wG} {α : Nat → Nat} {N : Nat} {σ : wS} {p : Program} {e : Env} {s : State} {m : MethodId} {args : Array Value} {below : List Frame} {meth : Method} {c : Code}
set_option maxHeartbeats 4000000 in
set_option maxRecDepth 100000 in
theorem ctX4_layer (l : Launch) (g : wG) (α : Nat → Nat) (N : Nat) (σ : wS) (sz : Nat) (t w : Int32) (ly : Nat) (hN : 32 ≤ N) (hz : σ.1 2 2 = nI ly) (hly6 : ly ≤ 6) : Met l yX4_layer (wM yX4_layer cX4_layer 3 (some FieldType.int)) ({ frames := 1, cells := 0, slots := 0, locals := 22 } : Room) (wPs g α N sz σ [.ref (α 0), .int t, .int w]) (va_Qi (fun r τ => (r, τ) = laF σ ly t w) (wB g α N) (wA α N sz)) 0 0 (wA α N sz) := by
  refine w_enter (by decide) (Nat.le_of_ble_eq_true rfl) (fun p e s m args below meth c hsz X I hr hlk ls hl => ?_)
  have hA : ∀ q, s.heap.size ≤ q → wA α N sz q := fun q h => Or.inr (by omega)
  have hx := X.1.1
  have hb := X.1.2.1
  have hl : lv_has ls 3 [(0, .ref (α 0)), (1, .int t), (2, .int w)] := hl
  refine lv_iload_n hx hb dX4_layer_0 rfl (lv_at hl 1 rfl) ?_
  refine lv_iconst (v := 1) hx hb dX4_layer_1 (by decide) ?_
  refine lv_sipush (v := 5000) hx hb dX4_layer_2 (by decide) ?_
  refine w_sSi X I (As := [.int t, .int 1, .int 5000]) (rest := []) (ctX4_within l g α N σ _ _ _ ) (wM_S kmX4_57 kt_X4_within kn_X4 kc_X4_within) rfl rfl (n := 3) (by decide +kernel) rfl ⟨by decide, by decide⟩ hl.1 rfl (Nat.le_of_ble_eq_true rfl) ⟨Nat.zero_le _, Nat.zero_le _⟩ dX4_layer_5 (fun r_5 q_5 => ?_)
  by_cases p_5 : ¬ t < 1 ∧ ¬ 5000 < t
  ·
    obtain rfl : r_5 = 1 := Eq.trans q_5 (if_pos p_5)
    refine lv_if_eq (tgt := 21) hx hb dX4_layer_8 (by decide) (fun cc => absurd cc (by decide)) (fun _ => ?_)
    refine lv_iload_n hx hb dX4_layer_11 rfl (lv_at hl 2 rfl) ?_
    refine lv_iconst (v := 1) hx hb dX4_layer_12 (by decide) ?_
    refine lv_bipush (v := 100) hx hb dX4_layer_13 (by decide) ?_
    refine w_sSi X I (As := [.int w, .int 1, .int 100]) (rest := []) (ctX4_within l g α N σ _ _ _ ) (wM_S kmX4_57 kt_X4_within kn_X4 kc_X4_within) rfl rfl (n := 3) (by decide +kernel) rfl ⟨by decide, by decide⟩ hl.1 rfl (Nat.le_of_ble_eq_true rfl) ⟨Nat.zero_le _, Nat.zero_le _⟩ dX4_layer_15 (fun r_15 q_15 => ?_)
    by_cases p_15 : ¬ w < 1 ∧ ¬ 100 < w
    ·
      obtain rfl : r_15 = 1 := Eq.trans q_15 (if_pos p_15)
      refine lv_if_ne (tgt := 23) hx hb dX4_layer_18 (by decide) (fun _ => ?_) (fun cc => absurd cc (by decide))
      refine lv_aload_n hx hb dX4_layer_23 rfl (lv_at hl 0 rfl) ?_
      refine fg4_1 X I (by omega) kfX4_16 dX4_layer_24 ?_
      refine fg1_2 X I (by omega) kfX4_61 dX4_layer_27 ?_
      refine w_eqi hz ?_
      refine lv_bipush (v := 6) hx hb dX4_layer_30 (by decide) ?_
      refine lv_icmp_lt (tgt := 38) hx hb dX4_layer_32 (by decide) (fun c_32 => ?_) (fun c_32 => ?_)
      ·
        have hly : ly < 6 := nI_lt' (b := 6) c_32 (by omega) (by decide)
        refine lv_aload_n hx hb dX4_layer_38 rfl (lv_at hl 0 rfl) ?_
        refine fg4_1 X I (by omega) kfX4_16 dX4_layer_39 ?_
        refine lv_iload_n hx hb dX4_layer_42 rfl (lv_at hl 1 rfl) ?_
        refine lv_iload_n hx hb dX4_layer_43 rfl (lv_at hl 2 rfl) ?_
        refine w_vi X I hA 2 (by omega) rfl rfl (As := [.int t, .int w]) (rest := []) (ctX1_lay l g α N σ _ t w ly hN hz hly) (wM_V kmX4_64 ki_X1_lay ks_X1_lay kn_X1 kc_X1_lay) rfl rfl (n := 2) (by decide +kernel) rfl ⟨by decide, by decide⟩ hl.1 rfl (Nat.le_of_ble_eq_true rfl) ⟨Nat.zero_le _, Nat.zero_le _⟩ dX4_layer_44 (fun r_44 τ_44 H locs q_44 I => ?_)
        obtain ⟨rfl, rfl⟩ := q_44
        exact w_iret X I hr hlk (by first | (simp only [laF, p_5, p_15, c_32, not_false_eq_true, not_true_eq_false, and_self, and_true, true_and, and_false, false_and, ite_true, ite_false, if_true, if_false, ↓reduceIte]; done) | (simp [laF, p_5, p_15, c_32]; done)) dX4_layer_47
      ·
        refine lv_bipush (v := (-3)) hx hb dX4_layer_35 (by decide) ?_
        exact w_iret X I hr hlk (by first | (simp only [laF, p_5, p_15, c_32, not_false_eq_true, not_true_eq_false, and_self, and_true, true_and, and_false, false_and, ite_true, ite_false, if_true, if_false, ↓reduceIte]; done) | (simp [laF, p_5, p_15, c_32]; done)) dX4_layer_37
    ·
      obtain rfl : r_15 = 0 := Eq.trans q_15 (if_neg p_15)
      refine lv_if_ne (tgt := 23) hx hb dX4_layer_18 (by decide) (fun cc => absurd cc (by decide)) (fun _ => ?_)
      refine lv_iconst (v := (-1)) hx hb dX4_layer_21 (by decide) ?_
      exact w_iret X I hr hlk (by first | (simp only [laF, p_5, p_15, not_false_eq_true, not_true_eq_false, and_self, and_true, true_and, and_false, false_and, ite_true, ite_false, if_true, if_false, ↓reduceIte]; done) | (simp [laF, p_5, p_15]; done)) dX4_layer_22
  ·
    obtain rfl : r_5 = 0 := Eq.trans q_5 (if_neg p_5)
    refine lv_if_eq (tgt := 21) hx hb dX4_layer_8 (by decide) (fun _ => ?_) (fun cc => absurd cc (by decide))
    refine lv_iconst (v := (-1)) hx hb dX4_layer_21 (by decide) ?_
    exact w_iret X I hr hlk (by first | (simp only [laF, p_5, not_false_eq_true, not_true_eq_false, and_self, and_true, true_and, and_false, false_and, ite_true, ite_false, if_true, if_false, ↓reduceIte]; done) | (simp [laF, p_5]; done)) dX4_layer_22
end
section
variable {l : Launch} {g : wG} {α : Nat → Nat} {N : Nat} {σ : wS} {p : Program} {e : Env} {s : State} {m : MethodId} {args : Array Value} {below : List Frame} {meth : Method} {c : Code}
set_option maxHeartbeats 4000000 in
set_option maxRecDepth 100000 in
theorem ctX4_swell (l : Launch) (g : wG) (α : Nat → Nat) (N : Nat) (σ : wS) (sz : Nat) (a b : Int32) (d : Nat) (hN : 32 ≤ N) (hd : σ.1 0 6 = nI d) (hd200 : d ≤ 200) : Met l yX4_swell (wM yX4_swell cX4_swell 4 (some FieldType.int)) ({ frames := 1, cells := 0, slots := 0, locals := 22 } : Room) (wPs g α N sz σ [.ref (α 0), .int a, .int b]) (va_Qi (fun r τ => (r, τ) = swF σ d a b) (wB g α N) (wA α N sz)) 0 0 (wA α N sz) := by
  refine w_enter (by decide) (Nat.le_of_ble_eq_true rfl) (fun p e s m args below meth c hsz X I hr hlk ls hl => ?_)
  have hA : ∀ q, s.heap.size ≤ q → wA α N sz q := fun q h => Or.inr (by omega)
  have hx := X.1.1
  have hb := X.1.2.1
  have hl : lv_has ls 4 [(0, .ref (α 0)), (1, .int a), (2, .int b)] := hl
  refine lv_iload_n hx hb dX4_swell_0 rfl (lv_at hl 1 rfl) ?_
  refine lv_aload_n hx hb dX4_swell_1 rfl (lv_at hl 0 rfl) ?_
  refine fg4_6 X I (by omega) kfX4_43 dX4_swell_2 ?_
  refine w_eqi hd ?_
  refine lv_sipush (v := 200) hx hb dX4_swell_5 (by decide) ?_
  refine w_sSi X I (As := [.int a, .int (nI d), .int 200]) (rest := []) (ctX4_within l g α N σ _ _ _ ) (wM_S kmX4_57 kt_X4_within kn_X4 kc_X4_within) rfl rfl (n := 3) (by decide +kernel) rfl ⟨by decide, by decide⟩ hl.1 rfl (Nat.le_of_ble_eq_true rfl) ⟨Nat.zero_le _, Nat.zero_le _⟩ dX4_swell_8 (fun r_8 q_8 => ?_)
  by_cases p_8 : ¬ a < (nI d) ∧ ¬ 200 < a
  ·
    obtain rfl : r_8 = 1 := Eq.trans q_8 (if_pos p_8)
    refine lv_if_eq (tgt := 24) hx hb dX4_swell_11 (by decide) (fun cc => absurd cc (by decide)) (fun _ => ?_)
    refine lv_iload_n hx hb dX4_swell_14 rfl (lv_at hl 2 rfl) ?_
    refine lv_iconst (v := 0) hx hb dX4_swell_15 (by decide) ?_
    refine lv_bipush (v := 9) hx hb dX4_swell_16 (by decide) ?_
    refine w_sSi X I (As := [.int b, .int 0, .int 9]) (rest := []) (ctX4_within l g α N σ _ _ _ ) (wM_S kmX4_57 kt_X4_within kn_X4 kc_X4_within) rfl rfl (n := 3) (by decide +kernel) rfl ⟨by decide, by decide⟩ hl.1 rfl (Nat.le_of_ble_eq_true rfl) ⟨Nat.zero_le _, Nat.zero_le _⟩ dX4_swell_18 (fun r_18 q_18 => ?_)
    by_cases p_18 : ¬ b < 0 ∧ ¬ 9 < b
    ·
      obtain rfl : r_18 = 1 := Eq.trans q_18 (if_pos p_18)
      obtain ⟨k, hk1, hk2, rfl⟩ := sw_k hd200 p_8
      refine lv_if_ne (tgt := 26) hx hb dX4_swell_21 (by decide) (fun _ => ?_) (fun cc => absurd cc (by decide))
      refine lv_aload_n hx hb dX4_swell_26 rfl (lv_at hl 0 rfl) ?_
      refine fg4_0 X I (by omega) kfX4_9 dX4_swell_27 ?_
      refine lv_iload_n hx hb dX4_swell_30 rfl (lv_at hl 1 rfl) ?_
      refine w_ld X I 1 (by omega) (n := 201) (k := k) (fun _ _ _ => rfl) rfl (by omega) (by decide) dX4_swell_31 ?_
      refine lv_istore_n (lv' := [(3, .int (σ.1 1 k)), (0, .ref (α 0)), (1, .int (nI k)), (2, .int b)]) hx hb dX4_swell_32 rfl hl (by decide) rfl (fun ls hl => ?_)
      refine lv_aload_n hx hb dX4_swell_33 rfl (lv_at hl 1 rfl) ?_
      refine fg4_0 X I (by omega) kfX4_9 dX4_swell_34 ?_
      refine lv_iload_n hx hb dX4_swell_37 rfl (lv_at hl 2 rfl) ?_
      refine lv_iload_n hx hb dX4_swell_38 rfl (lv_at hl 3 rfl) ?_
      refine w_st X I 1 (by omega) (n := 201) (k := k) (fun _ _ _ => rfl) rfl (by omega) (by decide) dX4_swell_39 (fun H locs I => ?_)
      refine lv_iload_n hx hb dX4_swell_40 rfl (lv_at hl 0 rfl) ?_
      exact w_iret X I hr hlk (by first | (rw [swF, if_neg p_8]; done) | (rw [swF, if_pos p_8, if_neg p_18]; done) | (rw [swF, if_pos p_8, if_pos p_18, nI_clamp (by omega)])) dX4_swell_41
    ·
      obtain rfl : r_18 = 0 := Eq.trans q_18 (if_neg p_18)
      refine lv_if_ne (tgt := 26) hx hb dX4_swell_21 (by decide) (fun cc => absurd cc (by decide)) (fun _ => ?_)
      refine lv_iconst (v := (-1)) hx hb dX4_swell_24 (by decide) ?_
      exact w_iret X I hr hlk (by first | (rw [swF, if_neg p_8]; done) | (rw [swF, if_pos p_8, if_neg p_18]; done) | (rw [swF, if_pos p_8, if_pos p_18, nI_clamp (by omega)])) dX4_swell_25
  ·
    obtain rfl : r_8 = 0 := Eq.trans q_8 (if_neg p_8)
    refine lv_if_eq (tgt := 24) hx hb dX4_swell_11 (by decide) (fun _ => ?_) (fun cc => absurd cc (by decide))
    refine lv_iconst (v := (-1)) hx hb dX4_swell_24 (by decide) ?_
    exact w_iret X I hr hlk (by first | (rw [swF, if_neg p_8]; done) | (rw [swF, if_pos p_8, if_neg p_18]; done) | (rw [swF, if_pos p_8, if_pos p_18, nI_clamp (by omega)])) dX4_swell_25
end
section
variable {l : Launch} {g : wG} {α : Nat → Nat} {N : Nat} {σ : wS} {p : Program} {e : Env} {s : State} {m : MethodId} {args : Array Value} {below : List Frame} {meth : Method} {c : Code}
set_option maxHeartbeats 4000000 in
set_option maxRecDepth 100000 in
theorem ctX4_delay (l : Launch) (g : wG) (α : Nat → Nat) (N : Nat) (σ : wS) (sz : Nat) (a : Int32) (hN : 32 ≤ N) : Met l yX4_delay (wM yX4_delay cX4_delay 3 (some FieldType.int)) ({ frames := 1, cells := 0, slots := 0, locals := 22 } : Room) (wPs g α N sz σ [.ref (α 0), .int a]) (va_Qi (fun r τ => (r, τ) = if ¬ a < 0 ∧ ¬ 60 < a then (σ.1 0 8, wu σ 0 8 a) else ((-1), σ)) (wB g α N) (wA α N sz)) 0 0 (wA α N sz) := by
  refine w_enter (by decide) (Nat.le_of_ble_eq_true rfl) (fun p e s m args below meth c hsz X I hr hlk ls hl => ?_)
  have hA : ∀ q, s.heap.size ≤ q → wA α N sz q := fun q h => Or.inr (by omega)
  have hx := X.1.1
  have hb := X.1.2.1
  have hl : lv_has ls 3 [(0, .ref (α 0)), (1, .int a)] := hl
  refine lv_iload_n hx hb dX4_delay_0 rfl (lv_at hl 1 rfl) ?_
  refine lv_iconst (v := 0) hx hb dX4_delay_1 (by decide) ?_
  refine lv_bipush (v := 60) hx hb dX4_delay_2 (by decide) ?_
  refine w_sSi X I (As := [.int a, .int 0, .int 60]) (rest := []) (ctX4_within l g α N σ _ _ _ ) (wM_S kmX4_57 kt_X4_within kn_X4 kc_X4_within) rfl rfl (n := 3) (by decide +kernel) rfl ⟨by decide, by decide⟩ hl.1 rfl (Nat.le_of_ble_eq_true rfl) ⟨Nat.zero_le _, Nat.zero_le _⟩ dX4_delay_4 (fun r_4 q_4 => ?_)
  by_cases p_4 : ¬ a < 0 ∧ ¬ 60 < a
  ·
    obtain rfl : r_4 = 1 := Eq.trans q_4 (if_pos p_4)
    refine lv_if_ne (tgt := 12) hx hb dX4_delay_7 (by decide) (fun _ => ?_) (fun cc => absurd cc (by decide))
    refine lv_aload_n hx hb dX4_delay_12 rfl (lv_at hl 0 rfl) ?_
    refine fg4_8 X I (by omega) kfX4_50 dX4_delay_13 ?_
    refine lv_istore_n (lv' := [(2, .int (σ.1 0 8)), (0, .ref (α 0)), (1, .int a)]) hx hb dX4_delay_16 rfl hl (by decide) rfl (fun ls hl => ?_)
    refine lv_aload_n hx hb dX4_delay_17 rfl (lv_at hl 1 rfl) ?_
    refine lv_iload_n hx hb dX4_delay_18 rfl (lv_at hl 2 rfl) ?_
    refine fp4_8 X I (by omega) kfX4_50 dX4_delay_19 (fun H locs I => ?_)
    refine lv_iload_n hx hb dX4_delay_22 rfl (lv_at hl 0 rfl) ?_
    exact w_iret X I hr hlk (by first | exact (if_pos p_4).symm | exact (if_neg p_4).symm) dX4_delay_23
  ·
    obtain rfl : r_4 = 0 := Eq.trans q_4 (if_neg p_4)
    refine lv_if_ne (tgt := 12) hx hb dX4_delay_7 (by decide) (fun cc => absurd cc (by decide)) (fun _ => ?_)
    refine lv_iconst (v := (-1)) hx hb dX4_delay_10 (by decide) ?_
    exact w_iret X I hr hlk (by first | exact (if_pos p_4).symm | exact (if_neg p_4).symm) dX4_delay_11
end
section
variable {l : Launch} {g : wG} {α : Nat → Nat} {N : Nat} {σ : wS} {p : Program} {e : Env} {s : State} {m : MethodId} {args : Array Value} {below : List Frame} {meth : Method} {c : Code}
set_option maxHeartbeats 4000000 in
set_option maxRecDepth 100000 in
theorem ctX4_boat (l : Launch) (g : wG) (α : Nat → Nat) (N : Nat) (σ : wS) (sz : Nat) (a b : Int32) (n : Nat) (hn : σ.1 0 7 = nI n) (hn10 : n ≤ 10) (hN : 32 + 4 * n ≤ N) (hR : ∀ k, k < n → σ.2.2 5 k = some (32 + 4 * k)) : Met l yX4_boat (wM yX4_boat cX4_boat 4 (some FieldType.int)) ({ frames := 1, cells := 0, slots := 0, locals := 30 } : Room) (wPs g α N sz σ [.ref (α 0), .int a, .int b]) (va_Qi (fun r τ => (r, τ) = spQ n a ((-1), σ) (fun k => boF σ k b)) (wB g α N) (wA α N sz)) 0 0 (wA α N sz) := by
  refine w_enter (by decide) (Nat.le_of_ble_eq_true rfl) (fun p e s m args below meth c hsz X I hr hlk ls hl => ?_)
  have hA : ∀ q, s.heap.size ≤ q → wA α N sz q := fun q h => Or.inr (by omega)
  have hx := X.1.1
  have hb := X.1.2.1
  have hl : lv_has ls 4 [(0, .ref (α 0)), (1, .int a), (2, .int b)] := hl
  refine lv_aload_n hx hb dX4_boat_0 rfl (lv_at hl 0 rfl) ?_
  refine lv_iload_n hx hb dX4_boat_1 rfl (lv_at hl 1 rfl) ?_
  refine w_vSq X I 0 (by omega) rfl rfl (As := [.int a]) (rest := []) (ctX4_shipNumbered l g α N σ a n hn hn10 hN hR) (wM_V kmX4_78 ki_X4_shipNumbered ks_X4_shipNumbered kn_X4 kc_X4_shipNumbered) rfl rfl (n := 1) (by decide +kernel) rfl ⟨by decide, by decide⟩ hl.1 rfl (Nat.le_of_ble_eq_true rfl) ⟨Nat.zero_le _, Nat.zero_le _⟩ dX4_boat_2 (fun r_2 q_2 => ?_)
  replace q_2 : (∀ k, k < n → a = nI k → r_2 = some (α (32 + 4 * k))) ∧ ((a < 0 ∨ nI n ≤ a) → r_2 = none) := q_2
  rcases ix2 a (n := n) (by omega) with hbad | ⟨k, hk, rfl⟩
  ·
    obtain rfl : r_2 = none := q_2.2 hbad
    refine w_eqv (y := .null) rfl ?_
    refine lv_astore_nN (lv' := [(3, .null), (0, .ref (α 0)), (1, .int a), (2, .int b)]) hx hb dX4_boat_5 rfl hl (by decide) rfl (fun ls hl => ?_)
    refine lv_aload_nN hx hb dX4_boat_6 rfl (lv_at hl 0 rfl) ?_
    refine lv_ifnullN (tgt := 20) hx hb dX4_boat_7 (by decide) ?_
    refine lv_iconst (v := (-1)) hx hb dX4_boat_20 (by decide) ?_
    exact w_iret X I hr hlk (by first | exact (spQ_bad hbad).symm | (rw [spQ_ok hk (by omega), boF, if_neg p_14]; done) | (rw [spQ_ok hk (by omega), boF, if_pos p_14, if_pos p_23]; done) | (rw [spQ_ok hk (by omega), boF, if_pos p_14, if_neg p_23]; done)) dX4_boat_21
  ·
    obtain rfl : r_2 = some (α (32 + 4 * k)) := q_2.1 k hk rfl
    clear q_2
    refine w_eqv (y := .ref (α (32 + 4 * k))) rfl ?_
    refine lv_astore_n (lv' := [(3, .ref (α (32 + 4 * k))), (0, .ref (α 0)), (1, .int (nI k)), (2, .int b)]) hx hb dX4_boat_5 rfl hl (by decide) rfl (fun ls hl => ?_)
    refine lv_aload_n hx hb dX4_boat_6 rfl (lv_at hl 0 rfl) ?_
    refine lv_ifnull hx hb dX4_boat_7 ?_
    refine lv_iload_n hx hb dX4_boat_10 rfl (lv_at hl 3 rfl) ?_
    refine lv_iconst (v := 1) hx hb dX4_boat_11 (by decide) ?_
    refine lv_bipush (v := 90) hx hb dX4_boat_12 (by decide) ?_
    refine w_sSi X I (As := [.int b, .int 1, .int 90]) (rest := []) (ctX4_within l g α N σ _ _ _ ) (wM_S kmX4_57 kt_X4_within kn_X4 kc_X4_within) rfl rfl (n := 3) (by decide +kernel) rfl ⟨by decide, by decide⟩ hl.1 rfl (Nat.le_of_ble_eq_true rfl) ⟨Nat.zero_le _, Nat.zero_le _⟩ dX4_boat_14 (fun r_14 q_14 => ?_)
    by_cases p_14 : ¬ b < 1 ∧ ¬ 90 < b
    ·
      obtain rfl : r_14 = 1 := Eq.trans q_14 (if_pos p_14)
      refine lv_if_ne (tgt := 22) hx hb dX4_boat_17 (by decide) (fun _ => ?_) (fun cc => absurd cc (by decide))
      refine lv_aload_n hx hb dX4_boat_22 rfl (lv_at hl 0 rfl) ?_
      refine w_vSi X I (32 + 4 * k) (by omega) (wc_ship g α k _ _ _) rfl (As := []) (rest := []) (ctX3_isLoaded l g α N σ k (by omega)) (wM_V kmX4_119 ki_X3_isLoaded ks_X3_isLoaded kn_X3 kc_X3_isLoaded) rfl rfl (n := 0) (by decide +kernel) rfl ⟨by decide, by decide⟩ hl.1 rfl (Nat.le_of_ble_eq_true rfl) ⟨Nat.zero_le _, Nat.zero_le _⟩ dX4_boat_23 (fun r_23 q_23 => ?_)
      by_cases p_23 : ¬ σ.1 (32 + 4 * k) 9 = (-9)
      ·
        obtain rfl : r_23 = 1 := Eq.trans q_23 (if_pos p_23)
        refine lv_if_eq (tgt := 32) hx hb dX4_boat_26 (by decide) (fun cc => absurd cc (by decide)) (fun _ => ?_)
        refine lv_bipush (v := (-2)) hx hb dX4_boat_29 (by decide) ?_
        exact w_iret X I hr hlk (by first | exact (spQ_bad hbad).symm | (rw [spQ_ok hk (by omega), boF, if_neg p_14]; done) | (rw [spQ_ok hk (by omega), boF, if_pos p_14, if_pos p_23]; done) | (rw [spQ_ok hk (by omega), boF, if_pos p_14, if_neg p_23]; done)) dX4_boat_31
      ·
        obtain rfl : r_23 = 0 := Eq.trans q_23 (if_neg p_23)
        refine lv_if_eq (tgt := 32) hx hb dX4_boat_26 (by decide) (fun _ => ?_) (fun cc => absurd cc (by decide))
        refine lv_aload_n hx hb dX4_boat_32 rfl (lv_at hl 0 rfl) ?_
        refine lv_bipush (v := 90) hx hb dX4_boat_33 (by decide) ?_
        refine lv_aload_n hx hb dX4_boat_35 rfl (lv_at hl 0 rfl) ?_
        refine fg3_8 X I k (by omega) kfX4_103 dX4_boat_36 ?_
        refine lv_iload_n hx hb dX4_boat_39 rfl (lv_at hl 3 rfl) ?_
        refine lv_iadd hx hb dX4_boat_40 ?_
        refine va_mmin hx hb (X.1.2.2.1.trans hl.1.symm) X.1.2.2.2.1 (X.1.2.2.2.2 _ kmX4_123) (X.1.2.2.2.2 _ kt_Math_min) (X.1.2.2.2.2 _ kn_Math) (X.1.2.2.2.2 _ kc_Math_min) (by decide) (Nat.le_of_ble_eq_true rfl) (Nat.zero_le _) (Nat.zero_le _) dX4_boat_41 ?_
        refine fp3_8 X I k (by omega) kfX4_103 dX4_boat_44 (fun H locs I => ?_)
        refine lv_aload_n hx hb dX4_boat_47 rfl (lv_at hl 0 rfl) ?_
        refine fg3_8 X I k (by omega) kfX4_103 dX4_boat_48 ?_
        refine w_eqi wu_s ?_
        exact w_iret X I hr hlk (by first | exact (spQ_bad hbad).symm | (rw [spQ_ok hk (by omega), boF, if_neg p_14]; done) | (rw [spQ_ok hk (by omega), boF, if_pos p_14, if_pos p_23]; done) | (rw [spQ_ok hk (by omega), boF, if_pos p_14, if_neg p_23]; done)) dX4_boat_51
    ·
      obtain rfl : r_14 = 0 := Eq.trans q_14 (if_neg p_14)
      refine lv_if_ne (tgt := 22) hx hb dX4_boat_17 (by decide) (fun cc => absurd cc (by decide)) (fun _ => ?_)
      refine lv_iconst (v := (-1)) hx hb dX4_boat_20 (by decide) ?_
      exact w_iret X I hr hlk (by first | exact (spQ_bad hbad).symm | (rw [spQ_ok hk (by omega), boF, if_neg p_14]; done) | (rw [spQ_ok hk (by omega), boF, if_pos p_14, if_pos p_23]; done) | (rw [spQ_ok hk (by omega), boF, if_pos p_14, if_neg p_23]; done)) dX4_boat_21
end
section
variable {l : Launch} {g : wG} {α : Nat → Nat} {N : Nat} {σ : wS} {p : Program} {e : Env} {s : State} {m : MethodId} {args : Array Value} {below : List Frame} {meth : Method} {c : Code}
set_option maxHeartbeats 4000000 in
set_option maxRecDepth 100000 in
theorem ctX4_clear (l : Launch) (g : wG) (α : Nat → Nat) (N : Nat) (σ : wS) (sz : Nat) (dr : Nat) (hN : 32 ≤ N) (hdr : σ.1 7 2 = nI dr) : Met l yX4_clear (wM yX4_clear cX4_clear 2 (some FieldType.int)) ({ frames := 0, cells := 0, slots := 0, locals := 0 } : Room) (wPs g α N sz σ [.ref (α 0)]) (va_Qi (fun r τ => r = nI dr ∧ τ = wu σ 7 2 0) (wB g α N) (wA α N sz)) 0 0 (wA α N sz) := by
  refine w_enter (by decide) (Nat.le_of_ble_eq_true rfl) (fun p e s m args below meth c hsz X I hr hlk ls hl => ?_)
  have hA : ∀ q, s.heap.size ≤ q → wA α N sz q := fun q h => Or.inr (by omega)
  have hx := X.1.1
  have hb := X.1.2.1
  have hl : lv_has ls 2 [(0, .ref (α 0))] := hl
  refine lv_aload_n hx hb dX4_clear_0 rfl (lv_at hl 0 rfl) ?_
  refine fg4_4 X I (by omega) kfX4_32 dX4_clear_1 ?_
  refine fg0_2 X I (by omega) kfX4_132 dX4_clear_4 ?_
  refine w_eqi hdr ?_
  refine lv_istore_n (lv' := [(1, .int (nI dr)), (0, .ref (α 0))]) hx hb dX4_clear_7 rfl hl (by decide) rfl (fun ls hl => ?_)
  refine lv_aload_n hx hb dX4_clear_8 rfl (lv_at hl 1 rfl) ?_
  refine fg4_4 X I (by omega) kfX4_32 dX4_clear_9 ?_
  refine lv_iconst (v := 0) hx hb dX4_clear_12 (by decide) ?_
  refine fp0_2 X I (by omega) kfX4_132 dX4_clear_13 (fun H locs I => ?_)
  refine lv_iload_n hx hb dX4_clear_16 rfl (lv_at hl 0 rfl) ?_
  exact w_iret X I hr hlk (⟨rfl, rfl⟩) dX4_clear_17
end
section
variable {l : Launch} {g : wG} {α : Nat → Nat} {N : Nat} {σ : wS} {p : Program} {e : Env} {s : State} {m : MethodId} {args : Array Value} {below : List Frame} {meth : Method} {c : Code}
set_option maxHeartbeats 4000000 in
set_option maxRecDepth 100000 in
theorem lpX0_append_5 {sz : Nat} (v : Int64) (m2 dr : Nat) (X : wX p s m args c cX0_append 5 RX0 g) (hsz : s.heap.size = sz) (hr : meth.sig.returnType = (none : Option FieldType)) (hlk : meth.locks = false) (hN : 32 ≤ N) (hdr : σ.1 7 2 = nI dr) (hm : dr + m2 ≤ 30) : ∀ (fu : Nat) (j : Nat) (τ : wS), j + 1 ≤ fu → j ≤ m2 → τ = apS σ v m2 dr (m2 - j) → τ.1 7 2 = nI (dr + (m2 - j)) → ∀ (H : Heap) (locs : List Loc), wI g α N (wA α N sz) s.heap H locs τ → ∀ ls : Array Slot, lv_has ls 5 [(0, .ref (α 7)), (1, .long v), (4, .int (nI j - 1))] → W p l e ({ frames := 0, cells := 0, slots := 0, locals := 0 } : Room) s m args below meth c H locs 0 0 (MQ below (va_Qv (fun τ => τ = apS σ v m2 dr m2 ∧ τ.1 7 2 = nI (dr + m2)) (wB g α N) (wA α N sz)) args s 0 0 (wA α N sz)) (F0 m 5 ls []) := by
  have hA : ∀ q, s.heap.size ≤ q → wA α N sz q := fun q h => Or.inr (by omega)
  have hx := X.1.1
  have hb := X.1.2.1
  intro fu
  induction fu with
  | zero =>
    intro j τ hfu hj hτ hl7
    exact absurd hfu (by omega)
  | succ fu ih =>
    intro j τ hfu hj hτ hl7 H locs I ls hl
    refine lv_iload hx hb dX0_append_5 (lv_at hl 2 rfl) ?_
    refine lv_if_lt (tgt := 47) hx hb dX0_append_7 (by decide) (fun c_7 => ?_) (fun c_7 => ?_)
    ·
      obtain rfl : j = 0 := (m1_neg (by omega)).mp c_7
      exact w_vret X I hr hlk (⟨hτ, hl7⟩) dX0_append_47
    ·
      obtain ⟨j', rfl⟩ : ∃ j', j = j' + 1 := ⟨j - 1, by have h0 : ¬ j = 0 := fun z => c_7 ((m1_neg (j := j) (by omega)).mpr z); omega⟩
      refine lv_aload_n hx hb dX0_append_10 rfl (lv_at hl 0 rfl) ?_
      refine fg0_0 X I (by omega) kfX0_9 dX0_append_11 ?_
      refine lv_aload_n hx hb dX0_append_14 rfl (lv_at hl 0 rfl) ?_
      refine fg0_2 X I (by omega) kfX0_18 dX0_append_15 ?_
      refine w_eqi hl7 ?_
      refine lv_lload_n hx hb dX0_append_18 rfl (lv_at hl 1 rfl) ?_
      refine lv_bipush (v := 8) hx hb dX0_append_19 (by decide) ?_
      refine lv_iload hx hb dX0_append_21 (lv_at hl 2 rfl) ?_
      refine w_eqi (nI_pred _) ?_
      refine lv_imul hx hb dX0_append_23 ?_
      refine lv_lushr hx hb dX0_append_24 rfl ?_
      refine lv_l2i hx hb dX0_append_25 rfl ?_
      refine lv_sipush (v := 255) hx hb dX0_append_26 (by decide) ?_
      refine lv_iand hx hb dX0_append_29 ?_
      refine w_st X I 8 (by omega) (n := 30) (k := dr + (m2 - (j' + 1))) (fun _ _ _ => rfl) rfl (by omega) (by decide) dX0_append_30 (fun H locs I => ?_)
      refine lv_aload_n hx hb dX0_append_31 rfl (lv_at hl 0 rfl) ?_
      refine lv_dup hx hb dX0_append_32 rfl ?_
      refine fg0_2 X I (by omega) kfX0_18 dX0_append_33 ?_
      refine w_eqi (wu_o (by decide)) ?_
      refine w_eqi hl7 ?_
      refine lv_iconst (v := 1) hx hb dX0_append_36 (by decide) ?_
      refine lv_iadd hx hb dX0_append_37 ?_
      refine w_eqi (nI_1 _) ?_
      refine fp0_2 X I (by omega) kfX0_18 dX0_append_38 (fun H locs I => ?_)
      refine lv_iinc (v := nI j' - 1) (lv' := [(4, .int (nI j' - 1)), (0, .ref (α 7)), (1, .long v)]) hx hb dX0_append_41 hl (k := 2) rfl (by rw [nI_pred]; exact m1e _) (by decide) rfl (fun ls hl => ?_)
      refine lv_goto (tgt := 5) hx hb dX0_append_44 (by decide) ?_
      exact ih j' (wu (wu τ 8 (dr + (m2 - (j' + 1))) ((((v.toUInt64 >>> ((8 * (nI j')).toInt64.toUInt64 &&& Int64.toUInt64 63)).toInt64).toInt32) &&& 255)) 7 2 (nI (dr + (m2 - (j' + 1)) + 1))) (by omega) (by omega) (by rw [show m2 - j' = (m2 - (j' + 1)) + 1 by omega, apS, ← hτ, show m2 - 1 - (m2 - (j' + 1)) = j' by omega]; rfl) (by rw [show dr + (m2 - j') = dr + (m2 - (j' + 1)) + 1 by omega]; exact wu_s) _ _ I ls (lv_sub hl [1, 2, 0] rfl)
set_option maxHeartbeats 4000000 in
set_option maxRecDepth 100000 in
theorem ctX0_append (l : Launch) (g : wG) (α : Nat → Nat) (N : Nat) (σ : wS) (sz : Nat) (v : Int64) (m2 dr : Nat) (hN : 32 ≤ N) (hdr : σ.1 7 2 = nI dr) (hm : dr + m2 ≤ 30) : Met l yX0_append (wM yX0_append cX0_append 5 (none : Option FieldType)) ({ frames := 0, cells := 0, slots := 0, locals := 0 } : Room) (wPs g α N sz σ [.ref (α 7), .long v, .int (nI m2)]) (va_Qv (fun τ => τ = apS σ v m2 dr m2 ∧ τ.1 7 2 = nI (dr + m2)) (wB g α N) (wA α N sz)) 0 0 (wA α N sz) := by
  refine w_enter (by decide) (Nat.le_of_ble_eq_true rfl) (fun p e s m args below meth c hsz X I hr hlk ls hl => ?_)
  have hA : ∀ q, s.heap.size ≤ q → wA α N sz q := fun q h => Or.inr (by omega)
  have hx := X.1.1
  have hb := X.1.2.1
  have hl : lv_has ls 5 [(0, .ref (α 7)), (1, .long v), (3, .int (nI m2))] := hl
  refine lv_iload_n hx hb dX0_append_0 rfl (lv_at hl 2 rfl) ?_
  refine lv_iconst (v := 1) hx hb dX0_append_1 (by decide) ?_
  refine lv_isub hx hb dX0_append_2 ?_
  refine lv_istore (lv' := [(4, .int ((nI m2) - 1)), (0, .ref (α 7)), (1, .long v), (3, .int (nI m2))]) hx hb dX0_append_3 hl (by decide) rfl (fun ls hl => ?_)
  exact lpX0_append_5 v m2 dr X hsz hr hlk hN hdr hm  (m2 + 1) m2 σ (by omega) (by omega) (by rw [Nat.sub_self]; rfl) (by rw [Nat.sub_self]; exact hdr) _ _ I ls (lv_sub hl [1, 2, 0] rfl)
end
section
variable {l : Launch} {g : wG} {α : Nat → Nat} {N : Nat} {σ : wS} {p : Program} {e : Env} {s : State} {m : MethodId} {args : Array Value} {below : List Frame} {meth : Method} {c : Code}
set_option maxHeartbeats 4000000 in
set_option maxRecDepth 100000 in
theorem ctX4_type (l : Launch) (g : wG) (α : Nat → Nat) (N : Nat) (σ : wS) (sz : Nat) (v : Int64) (b : Int32) (dr : Nat) (hN : 32 ≤ N) (hdr : σ.1 7 2 = nI dr) (hdr30 : dr ≤ 30) : Met l yX4_type (wM yX4_type cX4_type 4 (some FieldType.int)) ({ frames := 1, cells := 0, slots := 0, locals := 24 } : Room) (wPs g α N sz σ [.ref (α 0), .long v, .int b]) (va_Qi (fun r τ => (r, τ) = tyF σ dr v b) (wB g α N) (wA α N sz)) 0 0 (wA α N sz) := by
  refine w_enter (by decide) (Nat.le_of_ble_eq_true rfl) (fun p e s m args below meth c hsz X I hr hlk ls hl => ?_)
  have hA : ∀ q, s.heap.size ≤ q → wA α N sz q := fun q h => Or.inr (by omega)
  have hx := X.1.1
  have hb := X.1.2.1
  have hl : lv_has ls 4 [(0, .ref (α 0)), (1, .long v), (3, .int b)] := hl
  refine lv_iload_n hx hb dX4_type_0 rfl (lv_at hl 2 rfl) ?_
  refine lv_iconst (v := 1) hx hb dX4_type_1 (by decide) ?_
  refine lv_bipush (v := 8) hx hb dX4_type_2 (by decide) ?_
  refine w_sSi X I (As := [.int b, .int 1, .int 8]) (rest := []) (ctX4_within l g α N σ _ _ _ ) (wM_S kmX4_57 kt_X4_within kn_X4 kc_X4_within) rfl rfl (n := 3) (by decide +kernel) rfl ⟨by decide, by decide⟩ hl.1 rfl (Nat.le_of_ble_eq_true rfl) ⟨Nat.zero_le _, Nat.zero_le _⟩ dX4_type_4 (fun r_4 q_4 => ?_)
  by_cases p_4 : ¬ b < 1 ∧ ¬ 8 < b
  ·
    obtain rfl : r_4 = 1 := Eq.trans q_4 (if_pos p_4)
    refine lv_if_ne (tgt := 12) hx hb dX4_type_7 (by decide) (fun _ => ?_) (fun cc => absurd cc (by decide))
    refine lv_aload_n hx hb dX4_type_12 rfl (lv_at hl 0 rfl) ?_
    refine fg4_4 X I (by omega) kfX4_32 dX4_type_13 ?_
    refine fg0_2 X I (by omega) kfX4_132 dX4_type_16 ?_
    refine w_eqi hdr ?_
    refine lv_iload_n hx hb dX4_type_19 rfl (lv_at hl 2 rfl) ?_
    refine lv_iadd hx hb dX4_type_20 ?_
    refine lv_bipush (v := 30) hx hb dX4_type_21 (by decide) ?_
    refine lv_icmp_le (tgt := 29) hx hb dX4_type_23 (by decide) (fun c_23 => ?_) (fun c_23 => ?_)
    ·
      obtain ⟨m2, hm2, rfl⟩ : ∃ m2, m2 ≤ 8 ∧ b = nI m2 := nI_btw (n := 8) (fun z => p_4.1 (Int32.lt_trans z (by decide))) p_4.2 (by decide)
      have hm : dr + m2 ≤ 30 := by rw [nI_add] at c_23; exact nI_le' (b := 30) c_23 (by omega) (by decide)
      refine lv_aload_n hx hb dX4_type_29 rfl (lv_at hl 0 rfl) ?_
      refine fg4_4 X I (by omega) kfX4_32 dX4_type_30 ?_
      refine lv_lload_n hx hb dX4_type_33 rfl (lv_at hl 1 rfl) ?_
      refine lv_iload_n hx hb dX4_type_34 rfl (lv_at hl 2 rfl) ?_
      refine w_vv X I hA 7 (by omega) rfl rfl (As := [.long v, .int (nI m2)]) (rest := []) (ctX0_append l g α N σ _ v m2 dr hN hdr hm) (wM_V kmX4_135 ki_X0_append ks_X0_append kn_X0 kc_X0_append) rfl rfl (n := 2) (by decide +kernel) rfl ⟨by decide, by decide⟩ hl.1 rfl (Nat.le_of_ble_eq_true rfl) ⟨Nat.zero_le _, Nat.zero_le _⟩ dX4_type_35 (fun τ_35 H locs q_35 I => ?_)
      obtain ⟨rfl, q_36⟩ := q_35
      refine lv_aload_n hx hb dX4_type_38 rfl (lv_at hl 0 rfl) ?_
      refine fg4_4 X I (by omega) kfX4_32 dX4_type_39 ?_
      refine fg0_2 X I (by omega) kfX4_132 dX4_type_42 ?_
      refine w_eqi q_36 ?_
      exact w_iret X I hr hlk (by first | (rw [tyF, if_neg p_4]; done) | (rw [tyF, if_pos p_4, if_neg c_23]; done) | (rw [tyF, if_pos p_4, if_pos c_23, nI_clamp (by omega)])) dX4_type_45
    ·
      refine lv_bipush (v := (-3)) hx hb dX4_type_26 (by decide) ?_
      exact w_iret X I hr hlk (by first | (rw [tyF, if_neg p_4]; done) | (rw [tyF, if_pos p_4, if_neg c_23]; done) | (rw [tyF, if_pos p_4, if_pos c_23, nI_clamp (by omega)])) dX4_type_28
  ·
    obtain rfl : r_4 = 0 := Eq.trans q_4 (if_neg p_4)
    refine lv_if_ne (tgt := 12) hx hb dX4_type_7 (by decide) (fun cc => absurd cc (by decide)) (fun _ => ?_)
    refine lv_iconst (v := (-1)) hx hb dX4_type_10 (by decide) ?_
    exact w_iret X I hr hlk (by first | (rw [tyF, if_neg p_4]; done) | (rw [tyF, if_pos p_4, if_neg c_23]; done) | (rw [tyF, if_pos p_4, if_pos c_23, nI_clamp (by omega)])) dX4_type_11
end
section
variable {l : Launch} {g : wG} {α : Nat → Nat} {N : Nat} {σ : wS} {p : Program} {e : Env} {s : State} {m : MethodId} {args : Array Value} {below : List Frame} {meth : Method} {c : Code}
set_option maxHeartbeats 4000000 in
set_option maxRecDepth 100000 in
theorem ctX2_tell (l : Launch) (g : wG) (α : Nat → Nat) (N : Nat) (σ : wS) (sz : Nat) (k : Nat) (x1 x2 x3 : Int32) (hN : 32 ≤ N) (hk : k < 200) : Met l yX2_tell (wM yX2_tell cX2_tell 5 (none : Option FieldType)) ({ frames := 0, cells := 0, slots := 0, locals := 0 } : Room) (wPs g α N sz σ [.ref (α 10), .int (nI k), .int x1, .int x2, .int x3]) (va_Qv (fun τ => τ = wu (wu (wu σ 11 k x1) 12 k x2) 13 k x3) (wB g α N) (wA α N sz)) 0 0 (wA α N sz) := by
  refine w_enter (by decide) (Nat.le_of_ble_eq_true rfl) (fun p e s m args below meth c hsz X I hr hlk ls hl => ?_)
  have hA : ∀ q, s.heap.size ≤ q → wA α N sz q := fun q h => Or.inr (by omega)
  have hx := X.1.1
  have hb := X.1.2.1
  have hl : lv_has ls 5 [(0, .ref (α 10)), (1, .int (nI k)), (2, .int x1), (3, .int x2), (4, .int x3)] := hl
  refine lv_aload_n hx hb dX2_tell_0 rfl (lv_at hl 0 rfl) ?_
  refine fg2_0 X I (by omega) kfX2_9 dX2_tell_1 ?_
  refine lv_iload_n hx hb dX2_tell_4 rfl (lv_at hl 1 rfl) ?_
  refine lv_iload_n hx hb dX2_tell_5 rfl (lv_at hl 2 rfl) ?_
  refine w_st X I 11 (by omega) (n := 200) (k := k) (fun _ _ _ => rfl) rfl (by omega) (by decide) dX2_tell_6 (fun H locs I => ?_)
  refine lv_aload_n hx hb dX2_tell_7 rfl (lv_at hl 0 rfl) ?_
  refine fg2_1 X I (by omega) kfX2_15 dX2_tell_8 ?_
  refine lv_iload_n hx hb dX2_tell_11 rfl (lv_at hl 1 rfl) ?_
  refine lv_iload_n hx hb dX2_tell_12 rfl (lv_at hl 3 rfl) ?_
  refine w_st X I 12 (by omega) (n := 200) (k := k) (fun _ _ _ => rfl) rfl (by omega) (by decide) dX2_tell_13 (fun H locs I => ?_)
  refine lv_aload_n hx hb dX2_tell_14 rfl (lv_at hl 0 rfl) ?_
  refine fg2_2 X I (by omega) kfX2_18 dX2_tell_15 ?_
  refine lv_iload_n hx hb dX2_tell_18 rfl (lv_at hl 1 rfl) ?_
  refine lv_iload hx hb dX2_tell_19 (lv_at hl 4 rfl) ?_
  refine w_st X I 13 (by omega) (n := 200) (k := k) (fun _ _ _ => rfl) rfl (by omega) (by decide) dX2_tell_21 (fun H locs I => ?_)
  exact w_vret X I hr hlk rfl dX2_tell_22
end
section
variable {l : Launch} {g : wG} {α : Nat → Nat} {N : Nat} {σ : wS} {p : Program} {e : Env} {s : State} {m : MethodId} {args : Array Value} {below : List Frame} {meth : Method} {c : Code}
set_option maxHeartbeats 4000000 in
set_option maxRecDepth 100000 in
theorem ctX3_drink (l : Launch) (g : wG) (α : Nat → Nat) (N : Nat) (σ : wS) (sz : Nat) (i k : Nat) (hN : 36 + 4 * i ≤ N) (hk : k < 200) : Met l yX3_drink (wM yX3_drink cX3_drink 2 (none : Option FieldType)) ({ frames := 1, cells := 0, slots := 0, locals := 30 } : Room) (wPs g α N sz σ [.ref (α (32 + 4 * i)), .int (nI k)]) (va_Qv (fun τ => τ = drF σ i k) (wB g α N) (wA α N sz)) 0 0 (wA α N sz) := by
  refine w_enter (by decide) (Nat.le_of_ble_eq_true rfl) (fun p e s m args below meth c hsz X I hr hlk ls hl => ?_)
  have hA : ∀ q, s.heap.size ≤ q → wA α N sz q := fun q h => Or.inr (by omega)
  have hx := X.1.1
  have hb := X.1.2.1
  have hl : lv_has ls 2 [(0, .ref (α (32 + 4 * i))), (1, .int (nI k))] := hl
  refine lv_aload_n hx hb dX3_drink_0 rfl (lv_at hl 0 rfl) ?_
  refine w_vSi X I (32 + 4 * i) (by omega) (wc_ship g α i _ _ _) rfl (As := []) (rest := []) (ctX3_isLoaded l g α N σ i hN) (wM_V kmX3_43 ki_X3_isLoaded ks_X3_isLoaded kn_X3 kc_X3_isLoaded) rfl rfl (n := 0) (by decide +kernel) rfl ⟨by decide, by decide⟩ hl.1 rfl (Nat.le_of_ble_eq_true rfl) ⟨Nat.zero_le _, Nat.zero_le _⟩ dX3_drink_1 (fun r_1 q_1 => ?_)
  by_cases p_1 : ¬ σ.1 (32 + 4 * i) 9 = (-9)
  ·
    obtain rfl : r_1 = 1 := Eq.trans q_1 (if_pos p_1)
    refine lv_if_eq (tgt := 8) hx hb dX3_drink_4 (by decide) (fun cc => absurd cc (by decide)) (fun _ => ?_)
    exact w_vret X I hr hlk (by first | (simp only [drF, p_1, not_false_eq_true, not_true_eq_false, and_self, and_true, true_and, and_false, false_and, ite_true, ite_false, if_true, if_false, ↓reduceIte]; done) | (simp [drF, p_1]; done)) dX3_drink_7
  ·
    obtain rfl : r_1 = 0 := Eq.trans q_1 (if_neg p_1)
    refine lv_if_eq (tgt := 8) hx hb dX3_drink_4 (by decide) (fun _ => ?_) (fun cc => absurd cc (by decide))
    refine lv_aload_n hx hb dX3_drink_8 rfl (lv_at hl 0 rfl) ?_
    refine lv_iconst (v := 0) hx hb dX3_drink_9 (by decide) ?_
    refine lv_aload_n hx hb dX3_drink_10 rfl (lv_at hl 0 rfl) ?_
    refine fg3_8 X I i (by omega) kfX3_40 dX3_drink_11 ?_
    refine lv_iconst (v := 1) hx hb dX3_drink_14 (by decide) ?_
    refine lv_isub hx hb dX3_drink_15 ?_
    refine va_mmax hx hb (X.1.2.2.1.trans hl.1.symm) X.1.2.2.2.1 (X.1.2.2.2.2 _ kmX3_47) (X.1.2.2.2.2 _ kt_Math_max) (X.1.2.2.2.2 _ kn_Math) (X.1.2.2.2.2 _ kc_Math_max) (by decide) (Nat.le_of_ble_eq_true rfl) (Nat.zero_le _) (Nat.zero_le _) dX3_drink_16 ?_
    refine fp3_8 X I i (by omega) kfX3_40 dX3_drink_19 (fun H locs I => ?_)
    refine lv_aload_n hx hb dX3_drink_22 rfl (lv_at hl 0 rfl) ?_
    refine fg3_8 X I i (by omega) kfX3_40 dX3_drink_23 ?_
    refine w_eqi wu_s ?_
    refine lv_if_ne (tgt := 36) hx hb dX3_drink_26 (by decide) (fun c_26 => ?_) (fun c_26 => ?_)
    ·
      exact w_vret X I hr hlk (by first | (simp only [drF, p_1, c_26, not_false_eq_true, not_true_eq_false, and_self, and_true, true_and, and_false, false_and, ite_true, ite_false, if_true, if_false, ↓reduceIte]; done) | (simp [drF, p_1, c_26]; done)) dX3_drink_36
    ·
      refine lv_aload_n hx hb dX3_drink_29 rfl (lv_at hl 0 rfl) ?_
      refine fg3_5 X I i (by omega) kfX3_18 dX3_drink_30 ?_
      refine lv_iload_n hx hb dX3_drink_33 rfl (lv_at hl 1 rfl) ?_
      refine lv_iconst (v := (-1)) hx hb dX3_drink_34 (by decide) ?_
      refine w_st X I (35 + 4 * i) (by omega) (n := 200) (k := k) (fun _ _ _ => wc_log g α i _ _ _) rfl (by omega) (by decide) dX3_drink_35 (fun H locs I => ?_)
      exact w_vret X I hr hlk (by first | (simp only [drF, p_1, c_26, not_false_eq_true, not_true_eq_false, and_self, and_true, true_and, and_false, false_and, ite_true, ite_false, if_true, if_false, ↓reduceIte]; done) | (simp [drF, p_1, c_26]; done)) dX3_drink_36
end
section
variable {l : Launch} {g : wG} {α : Nat → Nat} {N : Nat} {σ : wS} {p : Program} {e : Env} {s : State} {m : MethodId} {args : Array Value} {below : List Frame} {meth : Method} {c : Code}
set_option maxHeartbeats 4000000 in
set_option maxRecDepth 100000 in
theorem ctX3_take (l : Launch) (g : wG) (α : Nat → Nat) (N : Nat) (σ : wS) (sz : Nat) (i k : Nat) (t : Int32) (hN : 36 + 4 * i ≤ N) (hk : k < 200) : Met l yX3_take (wM yX3_take cX3_take 3 (none : Option FieldType)) ({ frames := 0, cells := 0, slots := 0, locals := 0 } : Room) (wPs g α N sz σ [.ref (α (32 + 4 * i)), .int t, .int (nI k)]) (va_Qv (fun τ => τ = tkF σ i t k) (wB g α N) (wA α N sz)) 0 0 (wA α N sz) := by
  refine w_enter (by decide) (Nat.le_of_ble_eq_true rfl) (fun p e s m args below meth c hsz X I hr hlk ls hl => ?_)
  have hA : ∀ q, s.heap.size ≤ q → wA α N sz q := fun q h => Or.inr (by omega)
  have hx := X.1.1
  have hb := X.1.2.1
  have hl : lv_has ls 3 [(0, .ref (α (32 + 4 * i))), (1, .int t), (2, .int (nI k))] := hl
  refine lv_aload_n hx hb dX3_take_0 rfl (lv_at hl 0 rfl) ?_
  refine lv_dup hx hb dX3_take_1 rfl ?_
  refine fg3_6 X I i (by omega) kfX3_37 dX3_take_2 ?_
  refine lv_iload_n hx hb dX3_take_5 rfl (lv_at hl 1 rfl) ?_
  refine lv_isub hx hb dX3_take_6 ?_
  refine fp3_6 X I i (by omega) kfX3_37 dX3_take_7 (fun H locs I => ?_)
  refine lv_aload_n hx hb dX3_take_10 rfl (lv_at hl 0 rfl) ?_
  refine lv_dup hx hb dX3_take_11 rfl ?_
  refine fg3_7 X I i (by omega) kfX3_21 dX3_take_12 ?_
  refine w_eqi (wu_d (by decide)) ?_
  refine lv_iload_n hx hb dX3_take_15 rfl (lv_at hl 1 rfl) ?_
  refine lv_iadd hx hb dX3_take_16 ?_
  refine fp3_7 X I i (by omega) kfX3_21 dX3_take_17 (fun H locs I => ?_)
  refine lv_aload_n hx hb dX3_take_20 rfl (lv_at hl 0 rfl) ?_
  refine fg3_5 X I i (by omega) kfX3_18 dX3_take_21 ?_
  refine lv_iload_n hx hb dX3_take_24 rfl (lv_at hl 2 rfl) ?_
  refine lv_iload_n hx hb dX3_take_25 rfl (lv_at hl 1 rfl) ?_
  refine w_st X I (35 + 4 * i) (by omega) (n := 200) (k := k) (fun _ _ _ => wc_log g α i _ _ _) rfl (by omega) (by decide) dX3_take_26 (fun H locs I => ?_)
  refine lv_aload_n hx hb dX3_take_27 rfl (lv_at hl 0 rfl) ?_
  refine fg3_6 X I i (by omega) kfX3_37 dX3_take_28 ?_
  refine w_eqi (((wu_o (by omega)).trans (wu_d (by decide))).trans (wu_s)) ?_
  refine lv_if_ne (tgt := 39) hx hb dX3_take_31 (by decide) (fun c_31 => ?_) (fun c_31 => ?_)
  ·
    exact w_vret X I hr hlk (by first | (simp only [tkF, c_31, not_false_eq_true, not_true_eq_false, and_self, and_true, true_and, and_false, false_and, ite_true, ite_false, if_true, if_false, ↓reduceIte]; done) | (simp [tkF, c_31]; done)) dX3_take_39
  ·
    refine lv_aload_n hx hb dX3_take_34 rfl (lv_at hl 0 rfl) ?_
    refine lv_iload_n hx hb dX3_take_35 rfl (lv_at hl 2 rfl) ?_
    refine fp3_9 X I i (by omega) kfX3_25 dX3_take_36 (fun H locs I => ?_)
    exact w_vret X I hr hlk (by first | (simp only [tkF, c_31, not_false_eq_true, not_true_eq_false, and_self, and_true, true_and, and_false, false_and, ite_true, ite_false, if_true, if_false, ↓reduceIte]; done) | (simp [tkF, c_31]; done)) dX3_take_39
end
section
variable {l : Launch} {g : wG} {α : Nat → Nat} {N : Nat} {σ : wS} {p : Program} {e : Env} {s : State} {m : MethodId} {args : Array Value} {below : List Frame} {meth : Method} {c : Code}
set_option maxHeartbeats 4000000 in
set_option maxRecDepth 100000 in
theorem lpX1_dig_5 {sz : Nat} (i ly : Nat) (mo : Int32) (X : wX p s m args c cX1_dig 6 RX1 g) (hsz : s.heap.size = sz) (hr : meth.sig.returnType = (some FieldType.int)) (hlk : meth.locks = false) (hN : 36 + 4 * i ≤ N) (hz : σ.1 2 2 = nI ly) (hly : ly ≤ 6) : ∀ (fu : Nat) (k : Nat) (acc : Int32) (τ : wS), ly + 1 ≤ k + fu → k ≤ ly → τ = (dgS σ i mo k).1 → acc = (dgS σ i mo k).2 → ∀ (H : Heap) (locs : List Loc), wI g α N (wA α N sz) s.heap H locs τ → ∀ ls : Array Slot, lv_has ls 6 [(0, .ref (α 2)), (1, .int mo), (2, .ref (α (33 + 4 * i))), (3, .int acc), (4, .int (nI k))] → W p l e ({ frames := 1, cells := 0, slots := 0, locals := 30 } : Room) s m args below meth c H locs 0 0 (MQ below (va_Qi (fun r τ => r = (dgS σ i mo ly).2 ∧ τ = (dgS σ i mo ly).1) (wB g α N) (wA α N sz)) args s 0 0 (wA α N sz)) (F0 m 5 ls []) := by
  have hA : ∀ q, s.heap.size ≤ q → wA α N sz q := fun q h => Or.inr (by omega)
  have hx := X.1.1
  have hb := X.1.2.1
  intro fu
  induction fu with
  | zero =>
    intro k acc τ hfu hk hτ ha
    exact absurd hfu (by omega)
  | succ fu ih =>
    intro k acc τ hfu hk hτ ha H locs I ls hl
    have hz2 : τ.1 2 2 = nI ly := by rw [hτ]; exact (dgS_o σ i mo (by decide) (by omega) k).trans hz
    refine lv_iload hx hb dX1_dig_5 (lv_at hl 4 rfl) ?_
    refine lv_aload_n hx hb dX1_dig_7 rfl (lv_at hl 0 rfl) ?_
    refine fg1_2 X I (by omega) kfX1_18 dX1_dig_8 ?_
    refine w_eqi hz2 ?_
    refine lv_icmp_ge (tgt := 61) hx hb dX1_dig_11 (by decide) (fun c_11 => ?_) (fun c_11 => ?_)
    ·
      have e : k = ly := by have := nI_le' c_11 (by omega) (by omega); omega
      refine lv_iload_n hx hb dX1_dig_61 rfl (lv_at hl 3 rfl) ?_
      exact w_iret X I hr hlk (⟨by rw [ha, e], by rw [hτ, e]⟩) dX1_dig_62
    ·
      have hlt : k < ly := by
        rcases Nat.lt_or_ge k ly with q | q
        · exact q
        · exact absurd (nI_le q (by omega)) c_11
      refine lv_iload_n hx hb dX1_dig_14 rfl (lv_at hl 1 rfl) ?_
      refine lv_iload_n hx hb dX1_dig_15 rfl (lv_at hl 3 rfl) ?_
      refine lv_isub hx hb dX1_dig_16 ?_
      refine lv_aload_n hx hb dX1_dig_17 rfl (lv_at hl 0 rfl) ?_
      refine fg1_0 X I (by omega) kfX1_9 dX1_dig_18 ?_
      refine lv_iload hx hb dX1_dig_21 (lv_at hl 4 rfl) ?_
      refine w_ld X I 3 (by omega) (n := 6) (k := k) (fun _ _ _ => rfl) rfl (by omega) (by decide) dX1_dig_23 ?_
      refine va_mmin hx hb (X.1.2.2.1.trans hl.1.symm) X.1.2.2.2.1 (X.1.2.2.2.2 _ kmX1_22) (X.1.2.2.2.2 _ kt_Math_min) (X.1.2.2.2.2 _ kn_Math) (X.1.2.2.2.2 _ kc_Math_min) (by decide) (Nat.le_of_ble_eq_true rfl) (Nat.zero_le _) (Nat.zero_le _) dX1_dig_24 ?_
      refine lv_istore (lv' := [(5, .int (if (τ.1 3 k) < (mo - acc) then (τ.1 3 k) else (mo - acc))), (0, .ref (α 2)), (1, .int mo), (2, .ref (α (33 + 4 * i))), (3, .int acc), (4, .int (nI k))]) hx hb dX1_dig_27 hl (by decide) rfl (fun ls hl => ?_)
      refine lv_aload_n hx hb dX1_dig_29 rfl (lv_at hl 1 rfl) ?_
      refine fg1_0 X I (by omega) kfX1_9 dX1_dig_30 ?_
      refine lv_iload hx hb dX1_dig_33 (lv_at hl 5 rfl) ?_
      refine lv_dup2_11 hx hb dX1_dig_35 rfl rfl ?_
      refine w_ld X I 3 (by omega) (n := 6) (k := k) (fun _ _ _ => rfl) rfl (by omega) (by decide) dX1_dig_36 ?_
      refine lv_iload hx hb dX1_dig_37 (lv_at hl 0 rfl) ?_
      refine lv_isub hx hb dX1_dig_39 ?_
      refine w_st X I 3 (by omega) (n := 6) (k := k) (fun _ _ _ => rfl) rfl (by omega) (by decide) dX1_dig_40 (fun H locs I => ?_)
      refine lv_aload_n hx hb dX1_dig_41 rfl (lv_at hl 3 rfl) ?_
      refine lv_iload hx hb dX1_dig_42 (lv_at hl 5 rfl) ?_
      refine lv_dup2_11 hx hb dX1_dig_44 rfl rfl ?_
      refine w_ld X I (33 + 4 * i) (by omega) (n := 6) (k := k) (fun _ _ _ => wc_cargo g α i _ _ _) rfl (by omega) (by decide) dX1_dig_45 ?_
      refine w_eqi (wu_o (by omega)) ?_
      refine lv_iload hx hb dX1_dig_46 (lv_at hl 0 rfl) ?_
      refine lv_iadd hx hb dX1_dig_48 ?_
      refine w_st X I (33 + 4 * i) (by omega) (n := 6) (k := k) (fun _ _ _ => wc_cargo g α i _ _ _) rfl (by omega) (by decide) dX1_dig_49 (fun H locs I => ?_)
      refine lv_iload_n hx hb dX1_dig_50 rfl (lv_at hl 4 rfl) ?_
      refine lv_iload hx hb dX1_dig_51 (lv_at hl 0 rfl) ?_
      refine lv_iadd hx hb dX1_dig_53 ?_
      refine lv_istore_n (lv' := [(3, .int (acc + (if (τ.1 3 k) < (mo - acc) then (τ.1 3 k) else (mo - acc)))), (5, .int (if (τ.1 3 k) < (mo - acc) then (τ.1 3 k) else (mo - acc))), (0, .ref (α 2)), (1, .int mo), (2, .ref (α (33 + 4 * i))), (4, .int (nI k))]) hx hb dX1_dig_54 rfl hl (by decide) rfl (fun ls hl => ?_)
      refine lv_iinc (v := nI (k + 1)) (lv' := [(4, .int (nI (k + 1))), (3, .int (acc + (if (τ.1 3 k) < (mo - acc) then (τ.1 3 k) else (mo - acc)))), (5, .int (if (τ.1 3 k) < (mo - acc) then (τ.1 3 k) else (mo - acc))), (0, .ref (α 2)), (1, .int mo), (2, .ref (α (33 + 4 * i)))]) hx hb dX1_dig_55 hl (k := 5) rfl (nI_1 _) (by decide) rfl (fun ls hl => ?_)
      refine lv_goto (tgt := 5) hx hb dX1_dig_58 (by decide) ?_
      exact ih (k + 1) (acc + (if (τ.1 3 k) < (mo - acc) then (τ.1 3 k) else (mo - acc))) (wu (wu τ 3 k ((τ.1 3 k) - (if (τ.1 3 k) < (mo - acc) then (τ.1 3 k) else (mo - acc)))) (33 + 4 * i) k ((τ.1 (33 + 4 * i) k) + (if (τ.1 3 k) < (mo - acc) then (τ.1 3 k) else (mo - acc)))) (by omega) (by omega) (by rw [dgS, hτ, ha]; rfl) (by rw [dgS, hτ, ha]; rfl) _ _ I ls (lv_sub hl [3, 4, 5, 1, 0] rfl)
set_option maxHeartbeats 4000000 in
set_option maxRecDepth 100000 in
theorem ctX1_dig (l : Launch) (g : wG) (α : Nat → Nat) (N : Nat) (σ : wS) (sz : Nat) (i ly : Nat) (mo : Int32) (hN : 36 + 4 * i ≤ N) (hz : σ.1 2 2 = nI ly) (hly : ly ≤ 6) : Met l yX1_dig (wM yX1_dig cX1_dig 6 (some FieldType.int)) ({ frames := 1, cells := 0, slots := 0, locals := 30 } : Room) (wPs g α N sz σ [.ref (α 2), .int mo, .ref (α (33 + 4 * i))]) (va_Qi (fun r τ => r = (dgS σ i mo ly).2 ∧ τ = (dgS σ i mo ly).1) (wB g α N) (wA α N sz)) 0 0 (wA α N sz) := by
  refine w_enter (by decide) (Nat.le_of_ble_eq_true rfl) (fun p e s m args below meth c hsz X I hr hlk ls hl => ?_)
  have hA : ∀ q, s.heap.size ≤ q → wA α N sz q := fun q h => Or.inr (by omega)
  have hx := X.1.1
  have hb := X.1.2.1
  have hl : lv_has ls 6 [(0, .ref (α 2)), (1, .int mo), (2, .ref (α (33 + 4 * i)))] := hl
  refine lv_iconst (v := 0) hx hb dX1_dig_0 (by decide) ?_
  refine lv_istore_n (lv' := [(3, .int 0), (0, .ref (α 2)), (1, .int mo), (2, .ref (α (33 + 4 * i)))]) hx hb dX1_dig_1 rfl hl (by decide) rfl (fun ls hl => ?_)
  refine lv_iconst (v := 0) hx hb dX1_dig_2 (by decide) ?_
  refine lv_istore (lv' := [(4, .int 0), (3, .int 0), (0, .ref (α 2)), (1, .int mo), (2, .ref (α (33 + 4 * i)))]) hx hb dX1_dig_3 hl (by decide) rfl (fun ls hl => ?_)
  exact lpX1_dig_5 i ly mo X hsz hr hlk hN hz hly  (ly + 1) 0 0 σ (by omega) (by omega) rfl rfl _ _ I ls (lv_sub hl [2, 3, 4, 1, 0] rfl)
end
section
variable {l : Launch} {g : wG} {α : Nat → Nat} {N : Nat} {σ : wS} {p : Program} {e : Env} {s : State} {m : MethodId} {args : Array Value} {below : List Frame} {meth : Method} {c : Code}
set_option maxHeartbeats 4000000 in
set_option maxRecDepth 100000 in
theorem ctX4_tonsAt (l : Launch) (g : wG) (α : Nat → Nat) (N : Nat) (σ : wS) (pl d : Nat) (hN : 32 ≤ N) (hd : σ.1 0 6 = nI d) (hd200 : d ≤ 200) : Met l yX4_tonsAt (wM yX4_tonsAt cX4_tonsAt 2 (some FieldType.int)) ({ frames := 1, cells := 0, slots := 0, locals := 21 } : Room) (wPc g α N σ [.ref (α 0), .int (nI pl)]) (vp_Si (fun r => r = taF (σ.1 1 d) pl)) 0 0 (fun _ => False) := by
  refine w_enterS (by decide) (Nat.le_of_ble_eq_true rfl) (fun p e s m args below meth c X I hr hlk ls hl => ?_)
  have hx := X.1.1
  have hb := X.1.2.1
  have hl : lv_has ls 2 [(0, .ref (α 0)), (1, .int (nI pl))] := hl
  refine lv_iload_n hx hb dX4_tonsAt_0 rfl (lv_at hl 1 rfl) ?_
  refine lv_iconst (v := 2) hx hb dX4_tonsAt_1 (by decide) ?_
  refine lv_icmp_ge (tgt := 19) hx hb dX4_tonsAt_2 (by decide) (fun c_2 => ?_) (fun c_2 => ?_)
  ·
    refine lv_aload_n hx hb dX4_tonsAt_19 rfl (lv_at hl 0 rfl) ?_
    refine lv_aload_n hx hb dX4_tonsAt_20 rfl (lv_at hl 0 rfl) ?_
    refine fg4_6 X I (by omega) kfX4_43 dX4_tonsAt_21 ?_
    refine w_eqi hd ?_
    refine w_vSi X I 0 (by omega) rfl rfl (As := [.int (nI d)]) (rest := []) (ctX4_lightersShut l g α N σ d hN (by omega)) (wM_V kmX4_231 ki_X4_lightersShut ks_X4_lightersShut kn_X4 kc_X4_lightersShut) rfl rfl (n := 1) (by decide +kernel) rfl ⟨by decide, by decide⟩ hl.1 rfl (Nat.le_of_ble_eq_true rfl) ⟨Nat.zero_le _, Nat.zero_le _⟩ dX4_tonsAt_24 (fun r_24 q_24 => ?_)
    by_cases p_24 : 7 < σ.1 1 d
    ·
      obtain rfl : r_24 = 1 := Eq.trans q_24 (if_pos p_24)
      refine lv_if_eq (tgt := 34) hx hb dX4_tonsAt_27 (by decide) (fun cc => absurd cc (by decide)) (fun _ => ?_)
      refine lv_iconst (v := 0) hx hb dX4_tonsAt_30 (by decide) ?_
      refine lv_goto (tgt := 36) hx hb dX4_tonsAt_31 (by decide) ?_
      exact w_iretS X hr hlk (by simp [taF, c_2, p_24]) dX4_tonsAt_36
    ·
      obtain rfl : r_24 = 0 := Eq.trans q_24 (if_neg p_24)
      refine lv_if_eq (tgt := 34) hx hb dX4_tonsAt_27 (by decide) (fun _ => ?_) (fun cc => absurd cc (by decide))
      refine lv_bipush (v := 15) hx hb dX4_tonsAt_34 (by decide) ?_
      exact w_iretS X hr hlk (by simp [taF, c_2, p_24]) dX4_tonsAt_36
  ·
    refine lv_aload_n hx hb dX4_tonsAt_5 rfl (lv_at hl 0 rfl) ?_
    refine lv_aload_n hx hb dX4_tonsAt_6 rfl (lv_at hl 0 rfl) ?_
    refine fg4_6 X I (by omega) kfX4_43 dX4_tonsAt_7 ?_
    refine w_eqi hd ?_
    refine w_vSi X I 0 (by omega) rfl rfl (As := [.int (nI d)]) (rest := []) (ctX4_chutesShut l g α N σ d hN (by omega)) (wM_V kmX4_228 ki_X4_chutesShut ks_X4_chutesShut kn_X4 kc_X4_chutesShut) rfl rfl (n := 1) (by decide +kernel) rfl ⟨by decide, by decide⟩ hl.1 rfl (Nat.le_of_ble_eq_true rfl) ⟨Nat.zero_le _, Nat.zero_le _⟩ dX4_tonsAt_10 (fun r_10 q_10 => ?_)
    by_cases p_10 : 4 < σ.1 1 d
    ·
      obtain rfl : r_10 = 1 := Eq.trans q_10 (if_pos p_10)
      refine lv_if_ne (tgt := 19) hx hb dX4_tonsAt_13 (by decide) (fun _ => ?_) (fun cc => absurd cc (by decide))
      refine lv_aload_n hx hb dX4_tonsAt_19 rfl (lv_at hl 0 rfl) ?_
      refine lv_aload_n hx hb dX4_tonsAt_20 rfl (lv_at hl 0 rfl) ?_
      refine fg4_6 X I (by omega) kfX4_43 dX4_tonsAt_21 ?_
      refine w_eqi hd ?_
      refine w_vSi X I 0 (by omega) rfl rfl (As := [.int (nI d)]) (rest := []) (ctX4_lightersShut l g α N σ d hN (by omega)) (wM_V kmX4_231 ki_X4_lightersShut ks_X4_lightersShut kn_X4 kc_X4_lightersShut) rfl rfl (n := 1) (by decide +kernel) rfl ⟨by decide, by decide⟩ hl.1 rfl (Nat.le_of_ble_eq_true rfl) ⟨Nat.zero_le _, Nat.zero_le _⟩ dX4_tonsAt_24 (fun r_24 q_24 => ?_)
      by_cases p_24 : 7 < σ.1 1 d
      ·
        obtain rfl : r_24 = 1 := Eq.trans q_24 (if_pos p_24)
        refine lv_if_eq (tgt := 34) hx hb dX4_tonsAt_27 (by decide) (fun cc => absurd cc (by decide)) (fun _ => ?_)
        refine lv_iconst (v := 0) hx hb dX4_tonsAt_30 (by decide) ?_
        refine lv_goto (tgt := 36) hx hb dX4_tonsAt_31 (by decide) ?_
        exact w_iretS X hr hlk (by simp [taF, c_2, p_10, p_24]) dX4_tonsAt_36
      ·
        obtain rfl : r_24 = 0 := Eq.trans q_24 (if_neg p_24)
        refine lv_if_eq (tgt := 34) hx hb dX4_tonsAt_27 (by decide) (fun _ => ?_) (fun cc => absurd cc (by decide))
        refine lv_bipush (v := 15) hx hb dX4_tonsAt_34 (by decide) ?_
        exact w_iretS X hr hlk (by simp [taF, c_2, p_10, p_24]) dX4_tonsAt_36
    ·
      obtain rfl : r_10 = 0 := Eq.trans q_10 (if_neg p_10)
      refine lv_if_ne (tgt := 19) hx hb dX4_tonsAt_13 (by decide) (fun cc => absurd cc (by decide)) (fun _ => ?_)
      refine lv_bipush (v := 60) hx hb dX4_tonsAt_16 (by decide) ?_
      exact w_iretS X hr hlk (by simp [taF, c_2, p_10]) dX4_tonsAt_18
end
