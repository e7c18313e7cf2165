section
variable {l : Launch} {g : wG} {α : Nat → Nat} {N : Nat} {σ : wS} {p : Program} {e : Env} {s : State} {m : MethodId} {args : Array Value} {below : List Frame} {meth : Method} {c : Code}
set_option maxHeartbeats 4000000 in
set_option maxRecDepth 100000 in
theorem ctX4_within (l : Launch) (g : wG) (α : Nat → Nat) (N : Nat) (σ : wS) (a b c' : Int32)  : Met l yX4_within (wM yX4_within cX4_within 3 (some FieldType.boolean)) ({ frames := 0, cells := 0, slots := 0, locals := 0 } : Room) (wPc g α N σ [.int a, .int b, .int c']) (vp_Si (fun r => r = if ¬ a < b ∧ ¬ c' < a then 1 else 0)) 0 0 (fun _ => False) := by
  refine w_enterS (by decide) (Nat.le_of_ble_eq_true rfl) (fun p e s m args below meth c X I hr hlk ls hl => ?_)
  have hx := X.1.1
  have hb := X.1.2.1
  have hl : lv_has ls 3 [(0, .int a), (1, .int b), (2, .int c')] := hl
  refine lv_iload_n hx hb dX4_within_0 rfl (lv_at hl 0 rfl) ?_
  refine lv_iload_n hx hb dX4_within_1 rfl (lv_at hl 1 rfl) ?_
  refine lv_icmp_lt (tgt := 14) hx hb dX4_within_2 (by decide) (fun c_2 => ?_) (fun c_2 => ?_)
  ·
    refine lv_iconst (v := 0) hx hb dX4_within_14 (by decide) ?_
    exact w_zretS X hr hlk (Or.inl rfl) (by simp [c_2]) dX4_within_15
  ·
    refine lv_iload_n hx hb dX4_within_5 rfl (lv_at hl 0 rfl) ?_
    refine lv_iload_n hx hb dX4_within_6 rfl (lv_at hl 2 rfl) ?_
    refine lv_icmp_gt (tgt := 14) hx hb dX4_within_7 (by decide) (fun c_7 => ?_) (fun c_7 => ?_)
    ·
      refine lv_iconst (v := 0) hx hb dX4_within_14 (by decide) ?_
      exact w_zretS X hr hlk (Or.inl rfl) (by simp [c_2, c_7]) dX4_within_15
    ·
      refine lv_iconst (v := 1) hx hb dX4_within_10 (by decide) ?_
      refine lv_goto (tgt := 15) hx hb dX4_within_11 (by decide) ?_
      exact w_zretS X hr hlk (Or.inr rfl) (by simp [c_2, c_7]) dX4_within_15
end
section
variable {l : Launch} {g : wG} {α : Nat → Nat} {N : Nat} {σ : wS} {p : Program} {e : Env} {s : State} {m : MethodId} {args : Array Value} {below : List Frame} {meth : Method} {c : Code}
set_option maxHeartbeats 4000000 in
set_option maxRecDepth 100000 in
theorem ctX5_in (l : Launch) (g : wG) (α : Nat → Nat) (N : Nat) (σ : wS) (a b c' : Int32)  : Met l yX5_in (wM yX5_in cX5_in 3 (some FieldType.boolean)) ({ frames := 0, cells := 0, slots := 0, locals := 0 } : Room) (wPc g α N σ [.int a, .int b, .int c']) (vp_Si (fun r => r = if ¬ a < b ∧ ¬ c' < a then 1 else 0)) 0 0 (fun _ => False) := by
  refine w_enterS (by decide) (Nat.le_of_ble_eq_true rfl) (fun p e s m args below meth c X I hr hlk ls hl => ?_)
  have hx := X.1.1
  have hb := X.1.2.1
  have hl : lv_has ls 3 [(0, .int a), (1, .int b), (2, .int c')] := hl
  refine lv_iload_n hx hb dX5_in_0 rfl (lv_at hl 0 rfl) ?_
  refine lv_iload_n hx hb dX5_in_1 rfl (lv_at hl 1 rfl) ?_
  refine lv_icmp_lt (tgt := 14) hx hb dX5_in_2 (by decide) (fun c_2 => ?_) (fun c_2 => ?_)
  ·
    refine lv_iconst (v := 0) hx hb dX5_in_14 (by decide) ?_
    exact w_zretS X hr hlk (Or.inl rfl) (by simp [c_2]) dX5_in_15
  ·
    refine lv_iload_n hx hb dX5_in_5 rfl (lv_at hl 0 rfl) ?_
    refine lv_iload_n hx hb dX5_in_6 rfl (lv_at hl 2 rfl) ?_
    refine lv_icmp_gt (tgt := 14) hx hb dX5_in_7 (by decide) (fun c_7 => ?_) (fun c_7 => ?_)
    ·
      refine lv_iconst (v := 0) hx hb dX5_in_14 (by decide) ?_
      exact w_zretS X hr hlk (Or.inl rfl) (by simp [c_2, c_7]) dX5_in_15
    ·
      refine lv_iconst (v := 1) hx hb dX5_in_10 (by decide) ?_
      refine lv_goto (tgt := 15) hx hb dX5_in_11 (by decide) ?_
      exact w_zretS X hr hlk (Or.inr rfl) (by simp [c_2, c_7]) dX5_in_15
end
section
variable {l : Launch} {g : wG} {α : Nat → Nat} {N : Nat} {σ : wS} {p : Program} {e : Env} {s : State} {m : MethodId} {args : Array Value} {below : List Frame} {meth : Method} {c : Code}
set_option maxHeartbeats 4000000 in
set_option maxRecDepth 100000 in
theorem ctX1_has (l : Launch) (g : wG) (α : Nat → Nat) (N : Nat) (σ : wS) (a : Int32) (hN : 32 ≤ N) : Met l yX1_has (wM yX1_has cX1_has 2 (some FieldType.boolean)) ({ frames := 0, cells := 0, slots := 0, locals := 0 } : Room) (wPc g α N σ [.ref (α 2), .int a]) (vp_Si (fun r => r = if ¬ a < 0 ∧ ¬ σ.1 2 2 ≤ a then 1 else 0)) 0 0 (fun _ => False) := by
  refine w_enterS (by decide) (Nat.le_of_ble_eq_true rfl) (fun p e s m args below meth c X I hr hlk ls hl => ?_)
  have hx := X.1.1
  have hb := X.1.2.1
  have hl : lv_has ls 2 [(0, .ref (α 2)), (1, .int a)] := hl
  refine lv_iload_n hx hb dX1_has_0 rfl (lv_at hl 1 rfl) ?_
  refine lv_if_lt (tgt := 16) hx hb dX1_has_1 (by decide) (fun c_1 => ?_) (fun c_1 => ?_)
  ·
    refine lv_iconst (v := 0) hx hb dX1_has_16 (by decide) ?_
    exact w_zretS X hr hlk (Or.inl rfl) (by simp [c_1]) dX1_has_17
  ·
    refine lv_iload_n hx hb dX1_has_4 rfl (lv_at hl 1 rfl) ?_
    refine lv_aload_n hx hb dX1_has_5 rfl (lv_at hl 0 rfl) ?_
    refine fg1_2 X I (by omega) kfX1_18 dX1_has_6 ?_
    refine lv_icmp_ge (tgt := 16) hx hb dX1_has_9 (by decide) (fun c_9 => ?_) (fun c_9 => ?_)
    ·
      refine lv_iconst (v := 0) hx hb dX1_has_16 (by decide) ?_
      exact w_zretS X hr hlk (Or.inl rfl) (by simp [c_1, c_9]) dX1_has_17
    ·
      refine lv_iconst (v := 1) hx hb dX1_has_12 (by decide) ?_
      refine lv_goto (tgt := 17) hx hb dX1_has_13 (by decide) ?_
      exact w_zretS X hr hlk (Or.inr rfl) (by simp [c_1, c_9]) dX1_has_17
end
section
variable {l : Launch} {g : wG} {α : Nat → Nat} {N : Nat} {σ : wS} {p : Program} {e : Env} {s : State} {m : MethodId} {args : Array Value} {below : List Frame} {meth : Method} {c : Code}
set_option maxHeartbeats 4000000 in
set_option maxRecDepth 100000 in
theorem ctX3_isLoaded (l : Launch) (g : wG) (α : Nat → Nat) (N : Nat) (σ : wS) (i : Nat) (hN : 36 + 4 * i ≤ N) : Met l yX3_isLoaded (wM yX3_isLoaded cX3_isLoaded 1 (some FieldType.boolean)) ({ frames := 0, cells := 0, slots := 0, locals := 0 } : Room) (wPc g α N σ [.ref (α (32 + 4 * i))]) (vp_Si (fun r => r = if ¬ σ.1 (32 + 4 * i) 9 = (-9) then 1 else 0)) 0 0 (fun _ => False) := by
  refine w_enterS (by decide) (Nat.le_of_ble_eq_true rfl) (fun p e s m args below meth c X I hr hlk ls hl => ?_)
  have hx := X.1.1
  have hb := X.1.2.1
  have hl : lv_has ls 1 [(0, .ref (α (32 + 4 * i)))] := hl
  refine lv_aload_n hx hb dX3_isLoaded_0 rfl (lv_at hl 0 rfl) ?_
  refine fg3_9 X I i (by omega) kfX3_25 dX3_isLoaded_1 ?_
  refine lv_bipush (v := (-9)) hx hb dX3_isLoaded_4 (by decide) ?_
  refine lv_icmp_eq (tgt := 13) hx hb dX3_isLoaded_6 (by decide) (fun c_6 => ?_) (fun c_6 => ?_)
  ·
    refine lv_iconst (v := 0) hx hb dX3_isLoaded_13 (by decide) ?_
    exact w_zretS X hr hlk (Or.inl rfl) (by simp [c_6]) dX3_isLoaded_14
  ·
    refine lv_iconst (v := 1) hx hb dX3_isLoaded_9 (by decide) ?_
    refine lv_goto (tgt := 14) hx hb dX3_isLoaded_10 (by decide) ?_
    exact w_zretS X hr hlk (Or.inr rfl) (by simp [c_6]) dX3_isLoaded_14
end
section
variable {l : Launch} {g : wG} {α : Nat → Nat} {N : Nat} {σ : wS} {p : Program} {e : Env} {s : State} {m : MethodId} {args : Array Value} {below : List Frame} {meth : Method} {c : Code}
set_option maxHeartbeats 4000000 in
set_option maxRecDepth 100000 in
theorem ctX3_isDry (l : Launch) (g : wG) (α : Nat → Nat) (N : Nat) (σ : wS) (i : Nat) (hN : 36 + 4 * i ≤ N) : Met l yX3_isDry (wM yX3_isDry cX3_isDry 1 (some FieldType.boolean)) ({ frames := 1, cells := 0, slots := 0, locals := 20 } : Room) (wPc g α N σ [.ref (α (32 + 4 * i))]) (vp_Si (fun r => r = if σ.1 (32 + 4 * i) 9 = (-9) ∧ σ.1 (32 + 4 * i) 8 = 0 then 1 else 0)) 0 0 (fun _ => False) := by
  refine w_enterS (by decide) (Nat.le_of_ble_eq_true rfl) (fun p e s m args below meth c X I hr hlk ls hl => ?_)
  have hx := X.1.1
  have hb := X.1.2.1
  have hl : lv_has ls 1 [(0, .ref (α (32 + 4 * i)))] := hl
  refine lv_aload_n hx hb dX3_isDry_0 rfl (lv_at hl 0 rfl) ?_
  refine w_vSi X I (32 + 4 * i) (by omega) (wc_ship g α i _ _ _) rfl (As := []) (rest := []) (ctX3_isLoaded l g α N σ _ (by first | assumption | omega)) (wM_V kmX3_43 ki_X3_isLoaded ks_X3_isLoaded kn_X3 kc_X3_isLoaded) rfl rfl (n := 0) (by decide +kernel) rfl ⟨by decide, by decide⟩ hl.1 rfl (Nat.le_of_ble_eq_true rfl) ⟨Nat.zero_le _, Nat.zero_le _⟩ dX3_isDry_1 (fun r_1 q_1 => ?_)
  by_cases p_1 : ¬ σ.1 (32 + 4 * i) 9 = (-9)
  ·
    obtain rfl : r_1 = 1 := Eq.trans q_1 (if_pos p_1)
    refine lv_if_ne (tgt := 18) hx hb dX3_isDry_4 (by decide) (fun _ => ?_) (fun cc => absurd cc (by decide))
    refine lv_iconst (v := 0) hx hb dX3_isDry_18 (by decide) ?_
    exact w_zretS X hr hlk (Or.inl rfl) (by simp [p_1]) dX3_isDry_19
  ·
    obtain rfl : r_1 = 0 := Eq.trans q_1 (if_neg p_1)
    refine lv_if_ne (tgt := 18) hx hb dX3_isDry_4 (by decide) (fun cc => absurd cc (by decide)) (fun _ => ?_)
    refine lv_aload_n hx hb dX3_isDry_7 rfl (lv_at hl 0 rfl) ?_
    refine fg3_8 X I i (by omega) kfX3_40 dX3_isDry_8 ?_
    refine lv_if_ne (tgt := 18) hx hb dX3_isDry_11 (by decide) (fun c_11 => ?_) (fun c_11 => ?_)
    ·
      refine lv_iconst (v := 0) hx hb dX3_isDry_18 (by decide) ?_
      exact w_zretS X hr hlk (Or.inl rfl) (by simp [p_1, c_11]) dX3_isDry_19
    ·
      refine lv_iconst (v := 1) hx hb dX3_isDry_14 (by decide) ?_
      refine lv_goto (tgt := 19) hx hb dX3_isDry_15 (by decide) ?_
      exact w_zretS X hr hlk (Or.inr rfl) (by simp [p_1, c_11]) dX3_isDry_19
end
section
variable {l : Launch} {g : wG} {α : Nat → Nat} {N : Nat} {σ : wS} {p : Program} {e : Env} {s : State} {m : MethodId} {args : Array Value} {below : List Frame} {meth : Method} {c : Code}
set_option maxHeartbeats 4000000 in
set_option maxRecDepth 100000 in
theorem ctX3_agreed (l : Launch) (g : wG) (α : Nat → Nat) (N : Nat) (σ : wS) (i k : Nat) (hN : 36 + 4 * i ≤ N) (hk : k < 6) : Met l yX3_agreed (wM yX3_agreed cX3_agreed 2 (some FieldType.boolean)) ({ frames := 0, cells := 0, slots := 0, locals := 0 } : Room) (wPc g α N σ [.ref (α (32 + 4 * i)), .int (nI k)]) (vp_Si (fun r => r = if σ.1 (34 + 4 * i) k = 1 then 1 else 0)) 0 0 (fun _ => False) := by
  refine w_enterS (by decide) (Nat.le_of_ble_eq_true rfl) (fun p e s m args below meth c X I hr hlk ls hl => ?_)
  have hx := X.1.1
  have hb := X.1.2.1
  have hl : lv_has ls 2 [(0, .ref (α (32 + 4 * i))), (1, .int (nI k))] := hl
  refine lv_aload_n hx hb dX3_agreed_0 rfl (lv_at hl 0 rfl) ?_
  refine fg3_4 X I i (by omega) kfX3_15 dX3_agreed_1 ?_
  refine lv_iload_n hx hb dX3_agreed_4 rfl (lv_at hl 1 rfl) ?_
  refine w_ld X I (34 + 4 * i) (by omega) (n := 6) (k := k) (fun _ _ _ => wc_terms g α i _ _ _) rfl (by omega) (by decide) dX3_agreed_5 ?_
  refine lv_iconst (v := 1) hx hb dX3_agreed_6 (by decide) ?_
  refine lv_icmp_ne (tgt := 14) hx hb dX3_agreed_7 (by decide) (fun c_7 => ?_) (fun c_7 => ?_)
  ·
    refine lv_iconst (v := 0) hx hb dX3_agreed_14 (by decide) ?_
    exact w_zretS X hr hlk (Or.inl rfl) (by simp [c_7]) dX3_agreed_15
  ·
    refine lv_iconst (v := 1) hx hb dX3_agreed_10 (by decide) ?_
    refine lv_goto (tgt := 15) hx hb dX3_agreed_11 (by decide) ?_
    exact w_zretS X hr hlk (Or.inr rfl) (by simp [c_7]) dX3_agreed_15
end
section
variable {l : Launch} {g : wG} {α : Nat → Nat} {N : Nat} {σ : wS} {p : Program} {e : Env} {s : State} {m : MethodId} {args : Array Value} {below : List Frame} {meth : Method} {c : Code}
/-- a TURN: by the arrival, the number, the kind, the day -/
def tnF (ar nu ki day : Int32) : Int32 := if ki = 0 then 10 * ar + nu else if ki = 1 then 10 * ar + nu - 500 else if 9 ≤ day - ar then 10 * ar + nu - 500 else 10 * ar + nu - 500 + 5000
set_option maxHeartbeats 4000000 in
set_option maxRecDepth 100000 in
theorem ctX3_turnOn (l : Launch) (g : wG) (α : Nat → Nat) (N : Nat) (σ : wS) (i : Nat) (a : Int32) (hN : 36 + 4 * i ≤ N) : Met l yX3_turnOn (wM yX3_turnOn cX3_turnOn 4 (some FieldType.int)) ({ frames := 0, cells := 0, slots := 0, locals := 0 } : Room) (wPc g α N σ [.ref (α (32 + 4 * i)), .int a]) (vp_Si (fun r => r = tnF (σ.1 (32 + 4 * i) 2) (σ.1 (32 + 4 * i) 0) (σ.1 (32 + 4 * i) 1) a)) 0 0 (fun _ => False) := by
  refine w_enterS (by decide) (Nat.le_of_ble_eq_true rfl) (fun p e s m args below meth c X I hr hlk ls hl => ?_)
  have hx := X.1.1
  have hb := X.1.2.1
  have hl : lv_has ls 4 [(0, .ref (α (32 + 4 * i))), (1, .int a)] := hl
  refine lv_bipush (v := 10) hx hb dX3_turnOn_0 (by decide) ?_
  refine lv_aload_n hx hb dX3_turnOn_2 rfl (lv_at hl 0 rfl) ?_
  refine fg3_2 X I i (by omega) kfX3_34 dX3_turnOn_3 ?_
  refine lv_imul hx hb dX3_turnOn_6 ?_
  refine lv_aload_n hx hb dX3_turnOn_7 rfl (lv_at hl 0 rfl) ?_
  refine fg3_0 X I i (by omega) kfX3_28 dX3_turnOn_8 ?_
  refine lv_iadd hx hb dX3_turnOn_11 ?_
  refine lv_istore_n (lv' := [(2, .int ((10 * (σ.1 (32 + 4 * i) 2)) + (σ.1 (32 + 4 * i) 0))), (0, .ref (α (32 + 4 * i))), (1, .int a)]) hx hb dX3_turnOn_12 rfl hl (by decide) rfl (fun ls hl => ?_)
  refine lv_aload_n hx hb dX3_turnOn_13 rfl (lv_at hl 1 rfl) ?_
  refine fg3_1 X I i (by omega) kfX3_31 dX3_turnOn_14 ?_
  refine lv_if_ne (tgt := 22) hx hb dX3_turnOn_17 (by decide) (fun c_17 => ?_) (fun c_17 => ?_)
  ·
    refine lv_iload_n hx hb dX3_turnOn_22 rfl (lv_at hl 0 rfl) ?_
    refine lv_sipush (v := 500) hx hb dX3_turnOn_23 (by decide) ?_
    refine lv_isub hx hb dX3_turnOn_26 ?_
    refine lv_istore_n (lv' := [(3, .int (((10 * (σ.1 (32 + 4 * i) 2)) + (σ.1 (32 + 4 * i) 0)) - 500)), (2, .int ((10 * (σ.1 (32 + 4 * i) 2)) + (σ.1 (32 + 4 * i) 0))), (0, .ref (α (32 + 4 * i))), (1, .int a)]) hx hb dX3_turnOn_27 rfl hl (by decide) rfl (fun ls hl => ?_)
    refine lv_aload_n hx hb dX3_turnOn_28 rfl (lv_at hl 2 rfl) ?_
    refine fg3_1 X I i (by omega) kfX3_31 dX3_turnOn_29 ?_
    refine lv_iconst (v := 1) hx hb dX3_turnOn_32 (by decide) ?_
    refine lv_icmp_eq (tgt := 47) hx hb dX3_turnOn_33 (by decide) (fun c_33 => ?_) (fun c_33 => ?_)
    ·
      refine lv_iload_n hx hb dX3_turnOn_47 rfl (lv_at hl 0 rfl) ?_
      exact w_iretS X hr hlk (by simp [tnF, c_17, c_33]) dX3_turnOn_48
    ·
      refine lv_iload_n hx hb dX3_turnOn_36 rfl (lv_at hl 3 rfl) ?_
      refine lv_aload_n hx hb dX3_turnOn_37 rfl (lv_at hl 2 rfl) ?_
      refine fg3_2 X I i (by omega) kfX3_34 dX3_turnOn_38 ?_
      refine lv_isub hx hb dX3_turnOn_41 ?_
      refine lv_bipush (v := 9) hx hb dX3_turnOn_42 (by decide) ?_
      refine lv_icmp_lt (tgt := 49) hx hb dX3_turnOn_44 (by decide) (fun c_44 => ?_) (fun c_44 => ?_)
      ·
        refine lv_iload_n hx hb dX3_turnOn_49 rfl (lv_at hl 0 rfl) ?_
        refine lv_sipush (v := 5000) hx hb dX3_turnOn_50 (by decide) ?_
        refine lv_iadd hx hb dX3_turnOn_53 ?_
        exact w_iretS X hr hlk (by simp [tnF, c_17, c_33, c_44]) dX3_turnOn_54
      ·
        refine lv_iload_n hx hb dX3_turnOn_47 rfl (lv_at hl 0 rfl) ?_
        exact w_iretS X hr hlk (by simp [tnF, c_17, c_33, c_44]) dX3_turnOn_48
  ·
    refine lv_iload_n hx hb dX3_turnOn_20 rfl (lv_at hl 0 rfl) ?_
    exact w_iretS X hr hlk (by simp [tnF, c_17]) dX3_turnOn_21
end
section
variable {l : Launch} {g : wG} {α : Nat → Nat} {N : Nat} {σ : wS} {p : Program} {e : Env} {s : State} {m : MethodId} {args : Array Value} {below : List Frame} {meth : Method} {c : Code}
set_option maxHeartbeats 4000000 in
set_option maxRecDepth 100000 in
theorem ctX4_chutesShut (l : Launch) (g : wG) (α : Nat → Nat) (N : Nat) (σ : wS) (k : Nat) (hN : 32 ≤ N) (hk : k < 201) : Met l yX4_chutesShut (wM yX4_chutesShut cX4_chutesShut 2 (some FieldType.boolean)) ({ frames := 0, cells := 0, slots := 0, locals := 0 } : Room) (wPc g α N σ [.ref (α 0), .int (nI k)]) (vp_Si (fun r => r = if 4 < σ.1 1 k then 1 else 0)) 0 0 (fun _ => False) := by
  refine w_enterS (by decide) (Nat.le_of_ble_eq_true rfl) (fun p e s m args below meth c X I hr hlk ls hl => ?_)
  have hx := X.1.1
  have hb := X.1.2.1
  have hl : lv_has ls 2 [(0, .ref (α 0)), (1, .int (nI k))] := hl
  refine lv_aload_n hx hb dX4_chutesShut_0 rfl (lv_at hl 0 rfl) ?_
  refine fg4_0 X I (by omega) kfX4_9 dX4_chutesShut_1 ?_
  refine lv_iload_n hx hb dX4_chutesShut_4 rfl (lv_at hl 1 rfl) ?_
  refine w_ld X I 1 (by omega) (n := 201) (k := k) (fun _ _ _ => rfl) rfl (by omega) (by decide) dX4_chutesShut_5 ?_
  refine lv_iconst (v := 4) hx hb dX4_chutesShut_6 (by decide) ?_
  refine lv_icmp_le (tgt := 14) hx hb dX4_chutesShut_7 (by decide) (fun c_7 => ?_) (fun c_7 => ?_)
  ·
    refine lv_iconst (v := 0) hx hb dX4_chutesShut_14 (by decide) ?_
    exact w_zretS X hr hlk (Or.inl rfl) (by simp [c_7]) dX4_chutesShut_15
  ·
    refine lv_iconst (v := 1) hx hb dX4_chutesShut_10 (by decide) ?_
    refine lv_goto (tgt := 15) hx hb dX4_chutesShut_11 (by decide) ?_
    exact w_zretS X hr hlk (Or.inr rfl) (by simp [c_7]) dX4_chutesShut_15
end
section
variable {l : Launch} {g : wG} {α : Nat → Nat} {N : Nat} {σ : wS} {p : Program} {e : Env} {s : State} {m : MethodId} {args : Array Value} {below : List Frame} {meth : Method} {c : Code}
set_option maxHeartbeats 4000000 in
set_option maxRecDepth 100000 in
theorem ctX4_lightersShut (l : Launch) (g : wG) (α : Nat → Nat) (N : Nat) (σ : wS) (k : Nat) (hN : 32 ≤ N) (hk : k < 201) : Met l yX4_lightersShut (wM yX4_lightersShut cX4_lightersShut 2 (some FieldType.boolean)) ({ frames := 0, cells := 0, slots := 0, locals := 0 } : Room) (wPc g α N σ [.ref (α 0), .int (nI k)]) (vp_Si (fun r => r = if 7 < σ.1 1 k then 1 else 0)) 0 0 (fun _ => False) := by
  refine w_enterS (by decide) (Nat.le_of_ble_eq_true rfl) (fun p e s m args below meth c X I hr hlk ls hl => ?_)
  have hx := X.1.1
  have hb := X.1.2.1
  have hl : lv_has ls 2 [(0, .ref (α 0)), (1, .int (nI k))] := hl
  refine lv_aload_n hx hb dX4_lightersShut_0 rfl (lv_at hl 0 rfl) ?_
  refine fg4_0 X I (by omega) kfX4_9 dX4_lightersShut_1 ?_
  refine lv_iload_n hx hb dX4_lightersShut_4 rfl (lv_at hl 1 rfl) ?_
  refine w_ld X I 1 (by omega) (n := 201) (k := k) (fun _ _ _ => rfl) rfl (by omega) (by decide) dX4_lightersShut_5 ?_
  refine lv_bipush (v := 7) hx hb dX4_lightersShut_6 (by decide) ?_
  refine lv_icmp_le (tgt := 15) hx hb dX4_lightersShut_8 (by decide) (fun c_8 => ?_) (fun c_8 => ?_)
  ·
    refine lv_iconst (v := 0) hx hb dX4_lightersShut_15 (by decide) ?_
    exact w_zretS X hr hlk (Or.inl rfl) (by simp [c_8]) dX4_lightersShut_16
  ·
    refine lv_iconst (v := 1) hx hb dX4_lightersShut_11 (by decide) ?_
    refine lv_goto (tgt := 16) hx hb dX4_lightersShut_12 (by decide) ?_
    exact w_zretS X hr hlk (Or.inr rfl) (by simp [c_8]) dX4_lightersShut_16
end
section
variable {l : Launch} {g : wG} {α : Nat → Nat} {N : Nat} {σ : wS} {p : Program} {e : Env} {s : State} {m : MethodId} {args : Array Value} {below : List Frame} {meth : Method} {c : Code}
set_option maxHeartbeats 4000000 in
set_option maxRecDepth 100000 in
theorem lpX1_worthOf_4 (i ly : Nat) (X : wX p s m args c cX1_worthOf 4 RX1 g) (I : wI g α N (fun _ => True) s.heap s.heap [] σ) (hr : meth.sig.returnType = (some FieldType.int)) (hlk : meth.locks = false) (hN : 36 + 4 * i ≤ N) (hz : σ.1 2 2 = nI ly) (hly : ly ≤ 6) : ∀ (fu : Nat) (k : Nat) (acc : Int32), ly + 1 ≤ k + fu → k ≤ ly → acc = smI (fun k => σ.1 (33 + 4 * i) k * σ.1 4 k) k → ∀ ls : Array Slot, lv_has ls 4 [(0, .ref (α 2)), (1, .ref (α (33 + 4 * i))), (2, .int acc), (3, .int (nI k))] → W p l e ({ frames := 0, cells := 0, slots := 0, locals := 0 } : Room) s m args below meth c s.heap [] 0 0 (MQ below (vp_Si (fun r => r = smI (fun k => σ.1 (33 + 4 * i) k * σ.1 4 k) ly)) args s 0 0 (fun _ => False)) (F0 m 4 ls []) := by
  have hx := X.1.1
  have hb := X.1.2.1
  intro fu
  induction fu with
  | zero =>
    intro k acc hfu hk ha
    exact absurd hfu (by omega)
  | succ fu ih =>
    intro k acc hfu hk ha ls hl
    refine lv_iload_n hx hb dX1_worthOf_4 rfl (lv_at hl 3 rfl) ?_
    refine lv_aload_n hx hb dX1_worthOf_5 rfl (lv_at hl 0 rfl) ?_
    refine fg1_2 X I (by omega) kfX1_18 dX1_worthOf_6 ?_
    refine w_eqi hz ?_
    refine lv_icmp_ge (tgt := 31) hx hb dX1_worthOf_9 (by decide) (fun c_9 => ?_) (fun c_9 => ?_)
    ·
      have e : k = ly := by have := nI_le' c_9 (by omega) (by omega); omega
      refine lv_iload_n hx hb dX1_worthOf_31 rfl (lv_at hl 2 rfl) ?_
      exact w_iretS X hr hlk (by rw [ha, e]) dX1_worthOf_32
    ·
      have hlt : k < ly := by
        rcases Nat.lt_or_ge k ly with q | q
        · exact q
        · exact absurd (nI_le q (by omega)) c_9
      refine lv_iload_n hx hb dX1_worthOf_12 rfl (lv_at hl 2 rfl) ?_
      refine lv_aload_n hx hb dX1_worthOf_13 rfl (lv_at hl 1 rfl) ?_
      refine lv_iload_n hx hb dX1_worthOf_14 rfl (lv_at hl 3 rfl) ?_
      refine w_ld X I (33 + 4 * i) (by omega) (n := 6) (k := k) (fun _ _ _ => wc_cargo g α i _ _ _) rfl (by omega) (by decide) dX1_worthOf_15 ?_
      refine lv_aload_n hx hb dX1_worthOf_16 rfl (lv_at hl 0 rfl) ?_
      refine fg1_1 X I (by omega) kfX1_15 dX1_worthOf_17 ?_
      refine lv_iload_n hx hb dX1_worthOf_20 rfl (lv_at hl 3 rfl) ?_
      refine w_ld X I 4 (by omega) (n := 6) (k := k) (fun _ _ _ => rfl) rfl (by omega) (by decide) dX1_worthOf_21 ?_
      refine lv_imul hx hb dX1_worthOf_22 ?_
      refine lv_iadd hx hb dX1_worthOf_23 ?_
      refine lv_istore_n (lv' := [(2, .int (acc + ((σ.1 (33 + 4 * i) k) * (σ.1 4 k)))), (0, .ref (α 2)), (1, .ref (α (33 + 4 * i))), (3, .int (nI k))]) hx hb dX1_worthOf_24 rfl hl (by decide) rfl (fun ls hl => ?_)
      refine lv_iinc (v := nI (k + 1)) (lv' := [(3, .int (nI (k + 1))), (2, .int (acc + ((σ.1 (33 + 4 * i) k) * (σ.1 4 k)))), (0, .ref (α 2)), (1, .ref (α (33 + 4 * i)))]) hx hb dX1_worthOf_25 hl (k := 3) rfl (nI_1 _) (by decide) rfl (fun ls hl => ?_)
      refine lv_goto (tgt := 4) hx hb dX1_worthOf_28 (by decide) ?_
      exact ih (k + 1) (acc + ((σ.1 (33 + 4 * i) k) * (σ.1 4 k))) (by omega) (by omega) (by rw [ha]; rfl) ls (lv_sub hl [2, 3, 1, 0] rfl)
set_option maxHeartbeats 4000000 in
set_option maxRecDepth 100000 in
theorem ctX1_worthOf (l : Launch) (g : wG) (α : Nat → Nat) (N : Nat) (σ : wS) (i ly : Nat) (hN : 36 + 4 * i ≤ N) (hz : σ.1 2 2 = nI ly) (hly : ly ≤ 6) : Met l yX1_worthOf (wM yX1_worthOf cX1_worthOf 4 (some FieldType.int)) ({ frames := 0, cells := 0, slots := 0, locals := 0 } : Room) (wPc g α N σ [.ref (α 2), .ref (α (33 + 4 * i))]) (vp_Si (fun r => r = smI (fun k => σ.1 (33 + 4 * i) k * σ.1 4 k) ly)) 0 0 (fun _ => False) := by
  refine w_enterS (by decide) (Nat.le_of_ble_eq_true rfl) (fun p e s m args below meth c X I hr hlk ls hl => ?_)
  have hx := X.1.1
  have hb := X.1.2.1
  have hl : lv_has ls 4 [(0, .ref (α 2)), (1, .ref (α (33 + 4 * i)))] := hl
  refine lv_iconst (v := 0) hx hb dX1_worthOf_0 (by decide) ?_
  refine lv_istore_n (lv' := [(2, .int 0), (0, .ref (α 2)), (1, .ref (α (33 + 4 * i)))]) hx hb dX1_worthOf_1 rfl hl (by decide) rfl (fun ls hl => ?_)
  refine lv_iconst (v := 0) hx hb dX1_worthOf_2 (by decide) ?_
  refine lv_istore_n (lv' := [(3, .int 0), (2, .int 0), (0, .ref (α 2)), (1, .ref (α (33 + 4 * i)))]) hx hb dX1_worthOf_3 rfl hl (by decide) rfl (fun ls hl => ?_)
  exact lpX1_worthOf_4 i ly X I hr hlk hN hz hly  (ly + 1) 0 0 (by omega) (by omega) rfl ls (lv_sub hl [2, 3, 1, 0] rfl)
end
section
variable {l : Launch} {g : wG} {α : Nat → Nat} {N : Nat} {σ : wS} {p : Program} {e : Env} {s : State} {m : MethodId} {args : Array Value} {below : List Frame} {meth : Method} {c : Code}
set_option maxHeartbeats 4000000 in
set_option maxRecDepth 100000 in
theorem ctX5_isLoaded (l : Launch) (g : wG) (α : Nat → Nat) (N : Nat) (σ : wS) (i : Nat) (hN : 32 ≤ N) (hi : i < 10) : Met l yX5_isLoaded (wM yX5_isLoaded cX5_isLoaded 2 (some FieldType.boolean)) ({ frames := 0, cells := 0, slots := 0, locals := 0 } : Room) (wPc g α N σ [.ref (α 14), .int (nI i)]) (vp_Si (fun r => r = if ¬ σ.1 22 i = (-9) then 1 else 0)) 0 0 (fun _ => False) := by
  refine w_enterS (by decide) (Nat.le_of_ble_eq_true rfl) (fun p e s m args below meth c X I hr hlk ls hl => ?_)
  have hx := X.1.1
  have hb := X.1.2.1
  have hl : lv_has ls 2 [(0, .ref (α 14)), (1, .int (nI i))] := hl
  refine lv_aload_n hx hb dX5_isLoaded_0 rfl (lv_at hl 0 rfl) ?_
  refine fg5_12 X I (by omega) kfX5_31 dX5_isLoaded_1 ?_
  refine lv_iload_n hx hb dX5_isLoaded_4 rfl (lv_at hl 1 rfl) ?_
  refine w_ld X I 22 (by omega) (n := 10) (k := i) (fun _ _ _ => rfl) rfl (by omega) (by decide) dX5_isLoaded_5 ?_
  refine lv_bipush (v := (-9)) hx hb dX5_isLoaded_6 (by decide) ?_
  refine lv_icmp_eq (tgt := 15) hx hb dX5_isLoaded_8 (by decide) (fun c_8 => ?_) (fun c_8 => ?_)
  ·
    refine lv_iconst (v := 0) hx hb dX5_isLoaded_15 (by decide) ?_
    exact w_zretS X hr hlk (Or.inl rfl) (by simp [c_8]) dX5_isLoaded_16
  ·
    refine lv_iconst (v := 1) hx hb dX5_isLoaded_11 (by decide) ?_
    refine lv_goto (tgt := 16) hx hb dX5_isLoaded_12 (by decide) ?_
    exact w_zretS X hr hlk (Or.inr rfl) (by simp [c_8]) dX5_isLoaded_16
end
