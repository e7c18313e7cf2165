theorem wc_nr {g : wG} {α : Nat → Nat} {i : Nat} {v : Nat → Int32} {t : Int64} {r r' : Nat → Option Nat} (h5 : i ≠ 5) (h6 : i ≠ 6) : wc g α i v t r = wc g α i v t r' := by
  rcases Nat.lt_or_ge i 32 with q | q
  · match i, q with
    | 0, _ => rfl
    | 1, _ => rfl
    | 2, _ => rfl
    | 3, _ => rfl
    | 4, _ => rfl
    | 5, _ => omega
    | 6, _ => omega
    | 7, _ => rfl
    | 8, _ => rfl
    | 9, _ => rfl
    | 10, _ => rfl
    | 11, _ => rfl
    | 12, _ => rfl
    | 13, _ => rfl
    | 14, _ => rfl
    | 15, _ => rfl
    | 16, _ => rfl
    | 17, _ => rfl
    | 18, _ => rfl
    | 19, _ => rfl
    | 20, _ => rfl
    | 21, _ => rfl
    | 22, _ => rfl
    | 23, _ => rfl
    | 24, _ => rfl
    | 25, _ => rfl
    | 26, _ => rfl
    | 27, _ => rfl
    | 28, _ => rfl
    | 29, _ => rfl
    | 30, _ => rfl
    | 31, _ => rfl
    | j + 32, hj => omega
  · obtain ⟨j, rfl⟩ : ∃ j, i = j + 32 := ⟨i - 32, by omega⟩
    rfl
/-- a new ship's row; the state with it -/
def shRow (n : Nat) (k : Int32) (d : Nat) (w wa : Int32) : Nat → Int32 := fun j => if j = 0 then nI n else if j = 1 then k else if j = 2 then nI d else if j = 6 then w else if j = 8 then wa else if j = 9 then (-9) else 0
def shB (σ : wS) (n : Nat) (k : Int32) (d : Nat) (w wa : Int32) : wS := (fun i => if i = 32 + 4 * n then shRow n k d w wa else if 32 + 4 * n < i then (fun _ => 0) else σ.1 i, σ.2)
def shS (σ : wS) (n : Nat) (k : Int32) (d : Nat) (w wa : Int32) : wS := wu (wuR (shB σ n k d w wa) 5 n (some (32 + 4 * n))) 0 7 (nI (n + 1))
theorem shB_o {σ : wS} {n : Nat} {k : Int32} {d : Nat} {w wa : Int32} {i : Nat} (h : i < 32 + 4 * n) : (shB σ n k d w wa).1 i = σ.1 i := (if_neg (by omega)).trans (if_neg (by omega))
theorem shB_s {σ : wS} {n : Nat} {k : Int32} {d : Nat} {w wa : Int32} : (shB σ n k d w wa).1 (32 + 4 * n) = shRow n k d w wa := if_pos rfl
theorem shB_z {σ : wS} {n : Nat} {k : Int32} {d : Nat} {w wa : Int32} {i : Nat} (h : 32 + 4 * n < i) : (shB σ n k d w wa).1 i = fun _ => 0 := (if_neg (by omega)).trans (if_pos h)
def alN (α : Nat → Nat) (N q : Nat) (u : Nat → Nat) : Nat → Nat := fun i => if i < N then α i else if i = N then q else u (i - N - 1)
theorem alN_o {α : Nat → Nat} {N q i : Nat} {u : Nat → Nat} (h : i < N) : alN α N q u i = α i := if_pos h
theorem wc_al {g : wG} {α β : Nat → Nat} {n i : Nat} {v : Nat → Int32} {t : Int64} {r : Nat → Option Nat} (h : ∀ j, j < 32 + 4 * n → β j = α j) (hi : i < 32 + 4 * n) (hr : ∀ j x, r j = some x → x < 32 + 4 * n) : wc g β i v t r = wc g α i v t r := by
  have hm : ∀ j, (r j).map β = (r j).map α := fun j => by
    cases e : r j with
    | none => rfl
    | some x => exact congrArg some (h x (hr j x e))
  rcases Nat.lt_or_ge i 32 with q | q
  · have hs : ∀ j, j < 32 → β j = α j := fun j hj => h j (by omega)
    have hfun : (fun j => (r j).map β) = (fun j => (r j).map α) := funext hm
    match i, q with
    | 0, _ => simp only [wc, hs 1 (by decide), hs 2 (by decide), hs 5 (by decide), hs 6 (by decide), hs 7 (by decide), hs 10 (by decide)]
    | 1, _ => rfl
    | 2, _ => simp only [wc, hs 3 (by decide), hs 4 (by decide)]
    | 3, _ => rfl
    | 4, _ => rfl
    | 5, _ => simp only [wc, hfun]
    | 6, _ => simp only [wc, hfun]
    | 7, _ => simp only [wc, hs 8 (by decide), hs 9 (by decide)]
    | 8, _ => rfl
    | 9, _ => rfl
    | 10, _ => simp only [wc, hs 11 (by decide), hs 12 (by decide), hs 13 (by decide)]
    | 11, _ => rfl
    | 12, _ => rfl
    | 13, _ => rfl
    | 14, _ => simp only [wc, hs 15 (by decide), hs 16 (by decide), hs 17 (by decide), hs 18 (by decide), hs 19 (by decide), hs 20 (by decide), hs 21 (by decide), hs 22 (by decide), hs 23 (by decide), hs 24 (by decide), hs 25 (by decide), hs 26 (by decide), hs 27 (by decide), hs 28 (by decide), hs 29 (by decide), hs 30 (by decide), hs 31 (by decide)]
    | 15, _ => rfl
    | 16, _ => rfl
    | 17, _ => rfl
    | 18, _ => rfl
    | 19, _ => rfl
    | 20, _ => rfl
    | 21, _ => rfl
    | 22, _ => rfl
    | 23, _ => rfl
    | 24, _ => rfl
    | 25, _ => rfl
    | 26, _ => rfl
    | 27, _ => rfl
    | 28, _ => rfl
    | 29, _ => rfl
    | 30, _ => rfl
    | 31, _ => rfl
    | j + 32, hj => omega
  · obtain ⟨j, rfl⟩ : ∃ j, i = j + 32 := ⟨i - 32, by omega⟩
    show (if j % 4 = 0 then _ else _) = (if j % 4 = 0 then _ else _)
    by_cases h4 : j % 4 = 0
    · rw [if_pos h4, if_pos h4, h (j + 33) (by omega), h (j + 34) (by omega), h (j + 35) (by omega)]
    · rw [if_neg h4, if_neg h4]
/-- the world with the new ship's four cells -/
theorem wld_ship {g : wG} {α : Nat → Nat} {σ : wS} {n q : Nat} {u : Nat → Nat} {k : Int32} {d : Nat} {w wa : Int32} (hr : ∀ i j x, i = 5 ∨ i = 6 → σ.2.2 i j = some x → x < 32 + 4 * n) : wld g α σ (32 + 4 * n) ++ [(q, .inr (3, [.int (nI n), .int k, .int (nI d), .ref (u 0), .ref (u 1), .ref (u 2), .int w, .int 0, .int wa, .int (-9)])), (u 0, .inl (g.2 0, 6, .inl (fun _ => 0))), (u 1, .inl (g.2 0, 6, .inl (fun _ => 0))), (u 2, .inl (g.2 0, 200, .inl (fun _ => 0)))] = wld g (alN α (32 + 4 * n) q u) (shB σ n k d w wa) (32 + 4 * n + 4) := by
  have hlen : (wld g α σ (32 + 4 * n)).length = 32 + 4 * n := by simp [wld]
  apply List.ext_getElem?
  intro i
  rcases Nat.lt_or_ge i (32 + 4 * n) with z | z
  · rw [List.getElem?_append_left (by rw [hlen]; exact z), wld_get z, wld_get (by omega), alN_o z, shB_o z]
    congr 2
    by_cases h56 : i = 5 ∨ i = 6
    · exact (wc_al (fun j hj => alN_o hj) z (fun j x => hr i j x h56)).symm
    · have h5 : i ≠ 5 := by omega
      have h6 : i ≠ 6 := by omega
      exact (wc_nr (r' := fun _ => none) h5 h6).trans ((wc_al (fun j hj => alN_o hj) z (fun j x e => by cases e)).symm.trans (wc_nr h5 h6))
  · rw [List.getElem?_append_right (by rw [hlen]; exact z), hlen]
    rcases Nat.lt_or_ge i (32 + 4 * n + 4) with y | y
    · rw [wld_get y]
      rcases (show i = 32 + 4 * n ∨ i = 33 + 4 * n ∨ i = 34 + 4 * n ∨ i = 35 + 4 * n by omega) with rfl | rfl | rfl | rfl
      · rw [Nat.sub_self, shB_s, wc_ship]
        simp [alN, show 33 + 4 * n - (32 + 4 * n) - 1 = 0 by omega, show 34 + 4 * n - (32 + 4 * n) - 1 = 1 by omega, show 35 + 4 * n - (32 + 4 * n) - 1 = 2 by omega, show ¬ 33 + 4 * n = 32 + 4 * n by omega, show ¬ 34 + 4 * n = 32 + 4 * n by omega, show ¬ 35 + 4 * n = 32 + 4 * n by omega, shRow]
      · rw [show 33 + 4 * n - (32 + 4 * n) = 1 by omega, shB_z (by omega), wc_cargo]
        simp [alN, show 33 + 4 * n - (32 + 4 * n) - 1 = 0 by omega, show ¬ 33 + 4 * n = 32 + 4 * n by omega]
      · rw [show 34 + 4 * n - (32 + 4 * n) = 2 by omega, shB_z (by omega), wc_terms]
        simp [alN, show 34 + 4 * n - (32 + 4 * n) - 1 = 1 by omega, show ¬ 34 + 4 * n = 32 + 4 * n by omega]
      · rw [show 35 + 4 * n - (32 + 4 * n) = 3 by omega, shB_z (by omega), wc_log]
        simp [alN, show 35 + 4 * n - (32 + 4 * n) - 1 = 2 by omega, show ¬ 35 + 4 * n = 32 + 4 * n by omega]
    · rw [List.getElem?_eq_none (by simp; omega), List.getElem?_eq_none (by simp [wld]; omega)]
theorem w_grow {A0 : Nat → Prop} {D : va_G} {cl : List vw_C} {w0 w1 : va_W} {c0 : Nat × va_E} {H H1 : Heap} (hP : va_P D cl (w0 ++ [c0]) H) (hD : va_D A0 (w0 ++ [c0])) (hk : ∀ q : Nat, q < H.size → ¬ va_A [c0] H.size q → H1[q]? = H[q]?) (hF : ∀ q, va_A [c0] H.size q → A0 q) (hP1 : va_P D cl w1 H1) (hD1 : va_D (va_A [c0] H.size) w1) : va_P D cl (w0 ++ w1) H1 ∧ va_D A0 (w0 ++ w1) := by
  have hP2 : va_P D cl ([c0] ++ w0) H := va_P.swap (a := []) (b := w0) (c := [c0]) hP
  have hD2 : va_D A0 ([c0] ++ w0) := va_D.swap (a := []) (b := w0) (c := [c0]) hD
  obtain ⟨h1, h2⟩ := va_joinQ (X := [c0]) (cx := [c0]) (wr := []) (w1 := w1) (pl := w0) hP2 hD2 [0] [] rfl rfl rfl (by decide) hk hF hP1 hD1
  exact ⟨va_P.swap (a := []) (b := w1) (c := w0) h1, va_D.swap (a := []) (b := w1) (c := w0) h2⟩
theorem va_P_left {D : va_G} {cl : List vw_C} {w0 w1 : va_W} {H : Heap} (hP : va_P D cl (w0 ++ w1) H) : va_P D cl w0 H := fun k q hk => hP k q (by rw [List.getElem?_append_left (List.getElem?_eq_some_iff.mp hk).1]; exact hk)
theorem va_D_left {A : Nat → Prop} {w0 w1 : va_W} (hD : va_D A (w0 ++ w1)) : va_D A w0 := hD.by id (fun k q hk => by show (w0 ++ w1)[k]? = _; rw [List.getElem?_append_left (List.getElem?_eq_some_iff.mp hk).1]; exact hk) (fun i j _ _ e => e)
section
variable {p : Program} {l : Launch} {e : Env} {R : Room} {s : State} {m : MethodId} {args : Array Value} {below : List Frame} {meth : Method} {c : Code} {H : Heap} {locs : List Loc} {cells slots : Nat} {Q : State → Prop} {ls : Array Slot} {g : wG} {α : Nat → Nat} {N : Nat} {A : Nat → Prop} {H0 : Heap} {σ : wS}
theorem ship_tail (X : wX p s m args c cX4_ship 4 RX4 g) (I : wI g α N A H0 H locs σ) (n : Nat) (hn10 : n < 10) (hN : N = 36 + 4 * n) (h07 : σ.1 0 7 = nI n) (hl : lv_has ls 4 [(0, .ref (α 0))])
    (kk : ∀ (H1 : Heap) (locs1 : List Loc), wI g α N A H0 H1 locs1 (wu (wuR σ 5 n (some (32 + 4 * n))) 0 7 (nI (n + 1))) → W p l e R s m args below meth c H1 locs1 cells slots Q (F0 m 87 ls [.int (nI n)])) : W p l e R s m args below meth c H locs cells slots Q (F0 m 70 ls [.ref (α (32 + 4 * n)), .int (nI n), .ref (α 5)]) := by
  have hx := X.1.1
  have hb := X.1.2.1
  refine w_stq X I 5 (by omega) (n := 10) (k := n) (fun _ _ _ => rfl) rfl (by omega) (by decide) (by omega) (wc_ship g α n _ _ _) dX4_ship_70 (fun H locs I => ?_)
  refine lv_aload_n hx hb dX4_ship_71 rfl (lv_at hl 0 rfl) ?_
  refine lv_dup hx hb dX4_ship_72 rfl ?_
  refine fg4_7 X I (by omega) kfX4_47 dX4_ship_73 ?_
  refine w_eqi (y := nI n) h07 ?_
  refine lv_iconst (v := 1) hx hb dX4_ship_76 (by decide) ?_
  refine lv_iadd hx hb dX4_ship_77 ?_
  refine w_eqi (y := nI (n + 1)) (nI_1 _) ?_
  refine fp4_7 X I (by omega) kfX4_47 dX4_ship_78 (fun H locs I => ?_)
  refine lv_aload_n hx hb dX4_ship_81 rfl (lv_at hl 0 rfl) ?_
  refine fg4_7 X I (by omega) kfX4_47 dX4_ship_82 ?_
  refine w_eqi (y := nI (n + 1)) wu_s ?_
  refine lv_iconst (v := 1) hx hb dX4_ship_85 (by decide) ?_
  refine lv_isub hx hb dX4_ship_86 ?_
  refine w_eqi (y := nI n) (nI_pred _) ?_
  exact kk H locs I
end
section
variable {l : Launch} {g : wG} {α : Nat → Nat} {N : Nat} {σ : wS} {p : Program} {e : Env} {s : State} {m : MethodId} {args : Array Value} {below : List Frame} {meth : Method} {c : Code}
set_option maxHeartbeats 1000000 in
set_option maxRecDepth 100000 in
theorem ctX4_ship (l : Launch) (g : wG) (α : Nat → Nat) (N : Nat) (σ : wS) (sz : Nat) (k w wa : Int32) (n d : Nat) (hn : σ.1 0 7 = nI n) (hn10 : n ≤ 10) (hN : 32 + 4 * n ≤ N) (hd : σ.1 0 6 = nI d) (hNe : N = 32 + 4 * n) (hRb : ∀ i j x, i = 5 ∨ i = 6 → σ.2.2 i j = some x → x < 32 + 4 * n) : Met l yX4_ship (wM yX4_ship cX4_ship 4 (some FieldType.int)) ({ frames := 2, cells := 4, slots := 222, locals := 60 } : Room) (wPs g α N sz σ [.ref (α 0), .int k, .int w, .int wa]) (va_Qi (fun (r : Int32) (u : wS × (Nat → Nat) × Nat) => r = (mShF σ n d k w wa).1 ∧ ((((¬ k < 0 ∧ ¬ 2 < k) ∧ (¬ w < 1 ∧ ¬ 900 < w) ∧ (¬ wa < 1 ∧ ¬ 90 < wa) ∧ nI n < 10) ∧ u.1 = shS σ n k d w wa ∧ u.2.2 = 32 + 4 * n + 4 ∧ ∀ i, i < 32 + 4 * n → u.2.1 i = α i) ∨ (¬ ((¬ k < 0 ∧ ¬ 2 < k) ∧ (¬ w < 1 ∧ ¬ 900 < w) ∧ (¬ wa < 1 ∧ ¬ 90 < wa) ∧ nI n < 10) ∧ u = (σ, α, N)))) (fun u t => va_P g.1 vwCl (wld g u.2.1 u.1 u.2.2) t.heap ∧ va_D (wA α N sz) (wld g u.2.1 u.1 u.2.2)) (wA α N sz)) 4 222 (wA α N sz) := by
  refine w_enter (by decide) (Nat.le_of_ble_eq_true rfl) (fun p e s m args below meth c hsz X I hr hlk ls hl => ?_)
  have hA : ∀ q, s.heap.size ≤ q → wA α N sz q := fun q h => Or.inr (by omega)
  have hx := X.1.1
  have hb := X.1.2.1
  have hl : lv_has ls 4 [(0, .ref (α 0)), (1, .int k), (2, .int w), (3, .int wa)] := hl
  refine lv_iload_n hx hb dX4_ship_0 rfl (lv_at hl 1 rfl) ?_
  refine lv_iconst (v := 0) hx hb dX4_ship_1 (by decide) ?_
  refine lv_iconst (v := 2) hx hb dX4_ship_2 (by decide) ?_
  refine w_sSi X I (As := [.int k, .int 0, .int 2]) (rest := []) (ctX4_within l g α N σ _ _ _ ) (wM_S kmX4_57 kt_X4_within kn_X4 kc_X4_within) rfl rfl (n := 3) (by decide +kernel) rfl ⟨by decide, by decide⟩ hl.1 rfl (Nat.le_of_ble_eq_true rfl) ⟨Nat.zero_le _, Nat.zero_le _⟩ dX4_ship_3 (fun r_3 q_3 => ?_)
  by_cases p_3 : ¬ k < 0 ∧ ¬ 2 < k
  ·
    obtain rfl : r_3 = 1 := Eq.trans q_3 (if_pos p_3)
    refine lv_if_eq (tgt := 30) hx hb dX4_ship_6 (by decide) (fun cc => absurd cc (by decide)) (fun _ => ?_)
    refine lv_iload_n hx hb dX4_ship_9 rfl (lv_at hl 2 rfl) ?_
    refine lv_iconst (v := 1) hx hb dX4_ship_10 (by decide) ?_
    refine lv_sipush (v := 900) hx hb dX4_ship_11 (by decide) ?_
    refine w_sSi X I (As := [.int w, .int 1, .int 900]) (rest := []) (ctX4_within l g α N σ _ _ _ ) (wM_S kmX4_57 kt_X4_within kn_X4 kc_X4_within) rfl rfl (n := 3) (by decide +kernel) rfl ⟨by decide, by decide⟩ hl.1 rfl (Nat.le_of_ble_eq_true rfl) ⟨Nat.zero_le _, Nat.zero_le _⟩ dX4_ship_14 (fun r_14 q_14 => ?_)
    by_cases p_14 : ¬ w < 1 ∧ ¬ 900 < w
    ·
      obtain rfl : r_14 = 1 := Eq.trans q_14 (if_pos p_14)
      refine lv_if_eq (tgt := 30) hx hb dX4_ship_17 (by decide) (fun cc => absurd cc (by decide)) (fun _ => ?_)
      refine lv_iload_n hx hb dX4_ship_20 rfl (lv_at hl 3 rfl) ?_
      refine lv_iconst (v := 1) hx hb dX4_ship_21 (by decide) ?_
      refine lv_bipush (v := 90) hx hb dX4_ship_22 (by decide) ?_
      refine w_sSi X I (As := [.int wa, .int 1, .int 90]) (rest := []) (ctX4_within l g α N σ _ _ _ ) (wM_S kmX4_57 kt_X4_within kn_X4 kc_X4_within) rfl rfl (n := 3) (by decide +kernel) rfl ⟨by decide, by decide⟩ hl.1 rfl (Nat.le_of_ble_eq_true rfl) ⟨Nat.zero_le _, Nat.zero_le _⟩ dX4_ship_24 (fun r_24 q_24 => ?_)
      by_cases p_24 : ¬ wa < 1 ∧ ¬ 90 < wa
      ·
        obtain rfl : r_24 = 1 := Eq.trans q_24 (if_pos p_24)
        refine lv_if_ne (tgt := 32) hx hb dX4_ship_27 (by decide) (fun _ => ?_) (fun cc => absurd cc (by decide))
        refine lv_aload_n hx hb dX4_ship_32 rfl (lv_at hl 0 rfl) ?_
        refine fg4_7 X I (by omega) kfX4_47 dX4_ship_33 ?_
        refine w_eqi (y := nI n) hn ?_
        refine lv_bipush (v := 10) hx hb dX4_ship_36 (by decide) ?_
        refine lv_icmp_lt (tgt := 44) hx hb dX4_ship_38 (by decide) (fun c_38 => ?_) (fun c_38 => ?_)
        ·
          have hlt : n < 10 := nI_lt' (b := 10) c_38 (by omega) (by decide)
          refine lv_aload_n hx hb dX4_ship_44 rfl (lv_at hl 0 rfl) ?_
          refine fg4_2 X I (by omega) kfX4_22 dX4_ship_45 ?_
          refine lv_aload_n hx hb dX4_ship_48 rfl (lv_at hl 0 rfl) ?_
          refine fg4_7 X I (by omega) kfX4_47 dX4_ship_49 ?_
          refine w_eqi (y := nI n) hn ?_
          have hNe2 : N = 32 + 4 * n := hNe
          subst hNe2
          refine va_new (ci := 3) (fs := [.int 0, .int 0, .int 0, .null, .null, .null, .int 0, .int 0, .int 0, .int 0]) (C := RX3) (T := TX3) (N := 10) hx hb X.1.2.2.2.2 inX3 tyX3 tyX3_ok X.1.2.2.2.1 (X.1.2.2.2.2 _ klX4_20) (X.1.2.2.2.2 _ kq_X3) (X.1.2.2.2.2 _ kn_X3) X.2 I.1 I.2.1 I.2.2 hA rfl (fun j hj => by rcases (show j = 0 ∨ j = 1 ∨ j = 2 ∨ j = 3 ∨ j = 4 ∨ j = 5 ∨ j = 6 ∨ j = 7 ∨ j = 8 ∨ j = 9 by omega) with rfl | rfl | rfl | rfl | rfl | rfl | rfl | rfl | rfl | rfl <;> rfl) (Nat.le_of_ble_eq_true rfl) (Nat.le_of_ble_eq_true rfl) dX4_ship_52 (fun q H hP hD hS => ?_)
          have I : wI g α (32 + 4 * n) (wA α (32 + 4 * n) sz) s.heap H [] σ := ⟨va_P_left hP, va_D_left hD, hS⟩
          refine lv_dup hx hb dX4_ship_55 rfl ?_
          refine lv_aload_n hx hb dX4_ship_56 rfl (lv_at hl 0 rfl) ?_
          refine fg4_7 X I (by omega) kfX4_47 dX4_ship_57 ?_
          refine w_eqi (y := nI n) hn ?_
          refine lv_iload_n hx hb dX4_ship_60 rfl (lv_at hl 1 rfl) ?_
          refine lv_aload_n hx hb dX4_ship_61 rfl (lv_at hl 0 rfl) ?_
          refine fg4_6 X I (by omega) kfX4_43 dX4_ship_62 ?_
          refine w_eqi (y := nI d) hd ?_
          refine lv_iload_n hx hb dX4_ship_65 rfl (lv_at hl 2 rfl) ?_
          refine lv_iload_n hx hb dX4_ship_66 rfl (lv_at hl 3 rfl) ?_
          have hFc : ∀ z, va_A [(q, .inr (3, [.int 0, .int 0, .int 0, .null, .null, .null, .int 0, .int 0, .int 0, .int 0]))] H.size z → wA α (32 + 4 * n) sz z := fun z h => by
            rcases h with ⟨k0, e0, h⟩ | h
            · have h1 : k0 = 0 := by have := (List.getElem?_eq_some_iff.mp h).1; simp at this; omega
              subst h1; cases h
              exact hD.2 (wld g α σ (32 + 4 * n)).length (q, .inr (3, [.int 0, .int 0, .int 0, .null, .null, .null, .int 0, .int 0, .int 0, .int 0])) (by rw [List.getElem?_append_right (Nat.le_refl _), Nat.sub_self]; rfl)
            · exact hA z (Nat.le_trans hS.1 h)
          have hPc : va_P g.1 vwCl [(q, .inr (3, [.int 0, .int 0, .int 0, .null, .null, .null, .int 0, .int 0, .int 0, .int 0]))] H := fun k0 z hk0 => hP ((wld g α σ (32 + 4 * n)).length + k0) z (by rw [List.getElem?_append_right (Nat.le_add_right _ _), Nat.add_sub_cancel_left]; exact hk0)
          have hDc : va_D (fun _ => True) [(q, .inr (3, [.int 0, .int 0, .int 0, .null, .null, .null, .int 0, .int 0, .int 0, .int 0]))] := ⟨fun i j x y hi hj _ => by have h1 := (List.getElem?_eq_some_iff.mp hi).1; have h2 := (List.getElem?_eq_some_iff.mp hj).1; simp at h1 h2; omega, fun _ _ _ => trivial⟩
          refine va_callv (va_runI (As := [.int (nI n), .int k, .int (nI d), .int w, .int wa]) (rest := [.ref q, .int (nI n), .ref (α 5)]) X.1 (kX3_init l g q H.size (nI n) k (nI d) w wa) (cwI 5 X.1.2.2.2.2 (wM_I kc_X3_init) rfl rfl rfl (X.1.2.2.2.2 _ kn_X3) (X.1.2.2.2.2 _ kmX4_75) (X.1.2.2.2.2 _ ki_X3_init) rfl (by decide +kernel) ⟨by decide, by decide⟩) ⟨kPc_blind, fun U hU hW => ⟨rfl, by rw [hU], by rw [hU]; exact hPc, va_K.moved hW.alike X.2, hDc⟩⟩ rfl rfl hl.1 rfl (lv_room (Nat.le_of_ble_eq_true rfl)) dX4_ship_67 ⟨Nat.le_of_ble_eq_true rfl, Nat.le_of_ble_eq_true rfl⟩) hS (fun z _ h => hFc z h) hFc (fun u t H1 locs ht hvm hw hB hz1 hk1 hS => ?_)
          obtain ⟨hP1, hD1⟩ := hB
          rw [ht] at hP1
          obtain ⟨hP, hD⟩ := w_grow hP hD hk1 hFc hP1 hD1
          rw [wld_ship hRb] at hP hD
          have eq0 : alN α (32 + 4 * n) q u (32 + 4 * n) = q := (if_neg (by omega)).trans (if_pos rfl)
          have eq5 : alN α (32 + 4 * n) q u 5 = α 5 := alN_o (by omega)
          have eqh : alN α (32 + 4 * n) q u 0 = α 0 := alN_o (by omega)
          refine W.eq (g2 := F0 m 70 ls [.ref (alN α (32 + 4 * n) q u (32 + 4 * n)), .int (nI n), .ref (alN α (32 + 4 * n) q u 5)]) (by rw [eq0, eq5]) ?_
          have hl2 : lv_has ls 4 [(0, .ref (alN α (32 + 4 * n) q u 0))] := by rw [eqh]; exact lv_sub hl [0] rfl
          refine ship_tail X (⟨hP, hD, hS⟩ : wI g (alN α (32 + 4 * n) q u) (32 + 4 * n + 4) (wA α (32 + 4 * n) sz) s.heap H1 locs (shB σ n k d w wa)) n (by omega) (by omega) (by rw [shB_o (by omega)]; exact hn) hl2 (fun H locs I => ?_)
          refine W.widen (k := 4) (n := 222) (Nat.le_of_ble_eq_true rfl) (Nat.le_of_ble_eq_true rfl) ?_
          exact W.iret hx hb hr (fun t ht hW => ⟨⟨nI n, (shS σ n k d w wa, alN α (32 + 4 * n) q u, 32 + 4 * n + 4), rfl, ⟨by rw [mShF, if_pos p_3, if_pos p_14, if_pos p_24, if_pos c_38], Or.inl ⟨⟨p_3, p_14, p_24, c_38⟩, rfl, rfl, fun i hi => alN_o hi⟩⟩, ⟨by show va_P _ _ _ t.heap; rw [ht]; exact I.1, I.2.1⟩⟩, I.2.2.F ht⟩) I.2.2.2.2 dX4_ship_87
        ·
          refine lv_bipush (v := (-3)) hx hb dX4_ship_41 (by decide) ?_
          refine W.widen (k := 4) (n := 222) (Nat.zero_le _) (Nat.zero_le _) ?_
          exact W.iret hx hb hr (fun t ht hW => ⟨⟨(-3), (σ, α, N), rfl, (⟨by rw [mShF, if_pos p_3, if_pos p_14, if_pos p_24, if_neg c_38], Or.inr ⟨fun z => c_38 z.2.2.2, rfl⟩⟩), ⟨by show va_P _ _ _ t.heap; rw [ht]; exact I.1, I.2.1⟩⟩, I.2.2.F ht⟩) I.2.2.2.2 dX4_ship_43
      ·
        obtain rfl : r_24 = 0 := Eq.trans q_24 (if_neg p_24)
        refine lv_if_ne (tgt := 32) hx hb dX4_ship_27 (by decide) (fun cc => absurd cc (by decide)) (fun _ => ?_)
        refine lv_iconst (v := (-1)) hx hb dX4_ship_30 (by decide) ?_
        refine W.widen (k := 4) (n := 222) (Nat.zero_le _) (Nat.zero_le _) ?_
        exact W.iret hx hb hr (fun t ht hW => ⟨⟨(-1), (σ, α, N), rfl, (⟨by rw [mShF, if_pos p_3, if_pos p_14, if_neg p_24], Or.inr ⟨fun z => p_24 z.2.2.1, rfl⟩⟩), ⟨by show va_P _ _ _ t.heap; rw [ht]; exact I.1, I.2.1⟩⟩, I.2.2.F ht⟩) I.2.2.2.2 dX4_ship_31
    ·
      obtain rfl : r_14 = 0 := Eq.trans q_14 (if_neg p_14)
      refine lv_if_eq (tgt := 30) hx hb dX4_ship_17 (by decide) (fun _ => ?_) (fun cc => absurd cc (by decide))
      refine lv_iconst (v := (-1)) hx hb dX4_ship_30 (by decide) ?_
      refine W.widen (k := 4) (n := 222) (Nat.zero_le _) (Nat.zero_le _) ?_
      exact W.iret hx hb hr (fun t ht hW => ⟨⟨(-1), (σ, α, N), rfl, (⟨by rw [mShF, if_pos p_3, if_neg p_14], Or.inr ⟨fun z => p_14 z.2.1, rfl⟩⟩), ⟨by show va_P _ _ _ t.heap; rw [ht]; exact I.1, I.2.1⟩⟩, I.2.2.F ht⟩) I.2.2.2.2 dX4_ship_31
  ·
    obtain rfl : r_3 = 0 := Eq.trans q_3 (if_neg p_3)
    refine lv_if_eq (tgt := 30) hx hb dX4_ship_6 (by decide) (fun _ => ?_) (fun cc => absurd cc (by decide))
    refine lv_iconst (v := (-1)) hx hb dX4_ship_30 (by decide) ?_
    refine W.widen (k := 4) (n := 222) (Nat.zero_le _) (Nat.zero_le _) ?_
    exact W.iret hx hb hr (fun t ht hW => ⟨⟨(-1), (σ, α, N), rfl, (⟨by rw [mShF, if_neg p_3], Or.inr ⟨fun z => p_3 z.1, rfl⟩⟩), ⟨by show va_P _ _ _ t.heap; rw [ht]; exact I.1, I.2.1⟩⟩, I.2.2.F ht⟩) I.2.2.2.2 dX4_ship_31
end
