section
variable {l : Launch} {g : wG} {α : Nat → Nat} {N : Nat} {σ : wS} {p : Program} {e : Env} {s : State} {m : MethodId} {args : Array Value} {below : List Frame} {meth : Method} {c : Code}
set_option maxHeartbeats 1000000 in
set_option maxRecDepth 100000 in
theorem lpX5_goes_346 {sz : Nat} (n d ly z : Nat) (f : Nat → Nat) (X : wX p s m args c cX5_goes 8 RX5 g) (hsz : s.heap.size = sz) (hr : meth.sig.returnType = (none : Option FieldType)) (hlk : meth.locks = false) (hN : 32 ≤ N) (hn10 : n ≤ 10) (hd200 : d < 200) (hly : ly ≤ 6) (hgo : GO σ f z n d ly) : ∀ (fu : Nat) (k : Nat) (sm : Int32) (all : Int32) (τ : wS), n + 1 ≤ k + fu → k ≤ n → τ = (gF (mdS σ d n) f (σ.1 15 d) d ly z).1 → all = (gF (mdS σ d n) f (σ.1 15 d) d ly z).2 → sm = smI (fun i => if ¬ τ.1 22 i = (-9) then 0 else τ.1 20 i) k → ∀ (H : Heap) (locs : List Loc), wI g α N (wA α N sz) s.heap H locs τ → ∀ ls : Array Slot, lv_has ls 8 [(0, .ref (α 14)), (3, .int all), (6, .int sm), (7, .int (nI k))] → W p l e ({ frames := 1, cells := 0, slots := 0, locals := 25 } : Room) s m args below meth c H locs 0 0 (MQ below (va_Qv (fun τ => τ = dyM σ f z n d ly) (wB g α N) (wA α N sz)) args s 0 0 (wA α N sz)) (F0 m 346 ls []) := by
  have hA : ∀ q, s.heap.size ≤ q → wA α N sz q := fun q h => Or.inr (by omega)
  have hx := X.1.1
  have hb := X.1.2.1
  intro fu
  induction fu with
  | zero =>
    intro k sm all τ hfu hk hτ hall hsm
    exact absurd hfu (by omega)
  | succ fu ih =>
    intro k sm all τ hfu hk hτ hall hsm H locs I ls hl
    obtain ⟨hn, hd, hz, hki, hsel, hend, hz10⟩ := id hgo
    have h7 : τ.1 14 7 = nI n := by rw [hτ]; exact (gF_o _ _ _ _ _ (by decide) (by decide) (by decide) (by decide) (by decide) (by decide) _).trans ((mdS_o σ d (by decide) (by decide) (by decide) _).trans hn)
    have h2 : τ.1 14 2 = nI d := by rw [hτ]; exact (gF_o _ _ _ _ _ (by decide) (by decide) (by decide) (by decide) (by decide) (by decide) _).trans ((mdS_o σ d (by decide) (by decide) (by decide) _).trans hd)
    have h4 : τ.1 14 4 = nI ly := by rw [hτ]; exact (gF_o _ _ _ _ _ (by decide) (by decide) (by decide) (by decide) (by decide) (by decide) _).trans ((mdS_o σ d (by decide) (by decide) (by decide) _).trans hz)
    have h18 : τ.1 14 18 = σ.1 14 18 := by rw [hτ]; exact (gF_o _ _ _ _ _ (by decide) (by decide) (by decide) (by decide) (by decide) (by decide) _).trans (mdS_o σ d (by decide) (by decide) (by decide) _)
    have h19 : τ.1 14 19 = σ.1 14 19 := by rw [hτ]; exact (gF_o _ _ _ _ _ (by decide) (by decide) (by decide) (by decide) (by decide) (by decide) _).trans (mdS_o σ d (by decide) (by decide) (by decide) _)
    refine lv_iload hx hb dX5_goes_346 (lv_at hl 3 rfl) ?_
    refine lv_aload_n hx hb dX5_goes_348 rfl (lv_at hl 0 rfl) ?_
    refine fg5_7 X I (by omega) kfX5_79 dX5_goes_349 ?_
    refine w_eqi (y := nI n) h7 ?_
    refine lv_icmp_ge (tgt := 386) hx hb dX5_goes_352 (by decide) (fun c_352 => ?_) (fun c_352 => ?_)
    ·
      have e : k = n := by have := nI_le' c_352 (by omega) (by omega); omega
      refine lv_aload_n hx hb dX5_goes_386 rfl (lv_at hl 0 rfl) ?_
      refine fg5_15 X I (by omega) kfX5_40 dX5_goes_387 ?_
      refine lv_aload_n hx hb dX5_goes_390 rfl (lv_at hl 0 rfl) ?_
      refine fg5_2 X I (by omega) kfX5_76 dX5_goes_391 ?_
      refine w_eqi (y := nI d) h2 ?_
      refine lv_iload hx hb dX5_goes_394 (lv_at hl 2 rfl) ?_
      refine w_st X I 25 (by omega) (n := 201) (k := d) (fun _ _ _ => rfl) rfl (by omega) (by decide) dX5_goes_396 (fun H locs I => ?_)
      refine lv_aload_n hx hb dX5_goes_397 rfl (lv_at hl 0 rfl) ?_
      refine fg5_16 X I (by omega) kfX5_43 dX5_goes_398 ?_
      refine lv_aload_n hx hb dX5_goes_401 rfl (lv_at hl 0 rfl) ?_
      refine fg5_2 X I (by omega) kfX5_76 dX5_goes_402 ?_
      refine w_eqi (y := τ.1 14 2) (wu_o (by decide)) ?_
      refine w_eqi (y := nI d) h2 ?_
      refine lv_iload_n hx hb dX5_goes_405 rfl (lv_at hl 1 rfl) ?_
      refine w_st X I 26 (by omega) (n := 201) (k := d) (fun _ _ _ => rfl) rfl (by omega) (by decide) dX5_goes_406 (fun H locs I => ?_)
      refine lv_aload_n hx hb dX5_goes_407 rfl (lv_at hl 0 rfl) ?_
      refine fg5_17 X I (by omega) kfX5_46 dX5_goes_408 ?_
      refine lv_aload_n hx hb dX5_goes_411 rfl (lv_at hl 0 rfl) ?_
      refine fg5_2 X I (by omega) kfX5_76 dX5_goes_412 ?_
      refine w_eqi (y := τ.1 14 2) ((wu_o (by decide)).trans (wu_o (by decide))) ?_
      refine w_eqi (y := nI d) h2 ?_
      refine lv_aload_n hx hb dX5_goes_415 rfl (lv_at hl 0 rfl) ?_
      refine fg5_2 X I (by omega) kfX5_76 dX5_goes_416 ?_
      refine w_eqi (y := τ.1 14 2) ((wu_o (by decide)).trans (wu_o (by decide))) ?_
      refine w_eqi (y := nI d) h2 ?_
      refine lv_aload_n hx hb dX5_goes_419 rfl (lv_at hl 0 rfl) ?_
      refine fg5_18 X I (by omega) kfX5_49 dX5_goes_420 ?_
      refine w_eqi (y := τ.1 14 18) ((wu_o (by decide)).trans (wu_o (by decide))) ?_
      refine w_eqi (y := σ.1 14 18) h18 ?_
      refine lv_iadd hx hb dX5_goes_423 ?_
      refine w_st X I 27 (by omega) (n := 201) (k := d) (fun _ _ _ => rfl) rfl (by omega) (by decide) dX5_goes_424 (fun H locs I => ?_)
      refine lv_aload_n hx hb dX5_goes_425 rfl (lv_at hl 0 rfl) ?_
      refine lv_dup hx hb dX5_goes_426 rfl ?_
      refine fg5_19 X I (by omega) kfX5_105 dX5_goes_427 ?_
      refine w_eqi (y := τ.1 14 19) (((wu_o (by decide)).trans (wu_o (by decide))).trans (wu_o (by decide))) ?_
      refine w_eqi (y := σ.1 14 19) h19 ?_
      refine lv_iload_n hx hb dX5_goes_430 rfl (lv_at hl 1 rfl) ?_
      refine lv_iadd hx hb dX5_goes_431 ?_
      refine fp5_19 X I (by omega) kfX5_105 dX5_goes_432 (fun H locs I => ?_)
      refine lv_aload_n hx hb dX5_goes_435 rfl (lv_at hl 0 rfl) ?_
      refine lv_dup hx hb dX5_goes_436 rfl ?_
      refine fg5_2 X I (by omega) kfX5_76 dX5_goes_437 ?_
      refine w_eqi (y := τ.1 14 2) ((((wu_d (by decide)).trans (wu_o (by decide))).trans (wu_o (by decide))).trans (wu_o (by decide))) ?_
      refine w_eqi (y := nI d) h2 ?_
      refine lv_iconst (v := 1) hx hb dX5_goes_440 (by decide) ?_
      refine lv_iadd hx hb dX5_goes_441 ?_
      refine w_eqi (y := nI (d + 1)) (nI_1 _) ?_
      refine fp5_2 X I (by omega) kfX5_76 dX5_goes_442 (fun H locs I => ?_)
      exact w_vret X I hr hlk (by rw [dyM, ← hτ, ← hall, quF, ← e, ← hsm]) dX5_goes_445
    ·
      have hlt : k < n := by
        rcases Nat.lt_or_ge k n with q | q
        · exact q
        · exact absurd (nI_le q (by omega)) c_352
      refine lv_iload hx hb dX5_goes_355 (lv_at hl 2 rfl) ?_
      refine lv_aload_n hx hb dX5_goes_357 rfl (lv_at hl 0 rfl) ?_
      refine lv_iload hx hb dX5_goes_358 (lv_at hl 3 rfl) ?_
      refine w_vSi X I 14 (by omega) rfl rfl (As := [.int (nI k)]) (rest := [.int sm]) (ctX5_isLoaded l g α N τ k hN (by omega)) (wM_V kmX5_98 ki_X5_isLoaded ks_X5_isLoaded kn_X5 kc_X5_isLoaded) rfl rfl (n := 1) (by decide +kernel) rfl ⟨by decide, by decide⟩ hl.1 rfl (Nat.le_of_ble_eq_true rfl) ⟨Nat.zero_le _, Nat.zero_le _⟩ dX5_goes_360 (fun r_360 q_360 => ?_)
      by_cases p_360 : ¬ τ.1 22 k = (-9)
      ·
        obtain rfl : r_360 = 1 := Eq.trans q_360 (if_pos p_360)
        refine lv_if_eq (tgt := 370) hx hb dX5_goes_363 (by decide) (fun cc => absurd cc (by decide)) (fun _ => ?_)
        refine lv_iconst (v := 0) hx hb dX5_goes_366 (by decide) ?_
        refine lv_goto (tgt := 377) hx hb dX5_goes_367 (by decide) ?_
        refine lv_iadd hx hb dX5_goes_377 ?_
        refine lv_istore (lv' := [(6, .int (sm + 0)), (0, .ref (α 14)), (3, .int all), (7, .int (nI k))]) hx hb dX5_goes_378 hl (by decide) rfl (fun ls hl => ?_)
        refine lv_iinc (v := nI (k + 1)) (lv' := [(7, .int (nI (k + 1))), (6, .int (sm + 0)), (0, .ref (α 14)), (3, .int all)]) hx hb dX5_goes_380 hl (k := 3) rfl (nI_1 _) (by decide) rfl (fun ls hl => ?_)
        refine lv_goto (tgt := 346) hx hb dX5_goes_383 (by decide) ?_
        exact ih (k + 1) (sm + 0) all τ (by omega) (by omega) hτ hall (by rw [hsm, smI]; first | (rw [if_pos p_360]; done) | (rw [if_neg p_360]; done)) _ _ I ls (lv_sub hl [2, 3, 1, 0] rfl)
      ·
        obtain rfl : r_360 = 0 := Eq.trans q_360 (if_neg p_360)
        refine lv_if_eq (tgt := 370) hx hb dX5_goes_363 (by decide) (fun _ => ?_) (fun cc => absurd cc (by decide))
        refine lv_aload_n hx hb dX5_goes_370 rfl (lv_at hl 0 rfl) ?_
        refine fg5_10 X I (by omega) kfX5_25 dX5_goes_371 ?_
        refine lv_iload hx hb dX5_goes_374 (lv_at hl 3 rfl) ?_
        refine w_ld X I 20 (by omega) (n := 10) (k := k) (fun _ _ _ => rfl) rfl (by omega) (by decide) dX5_goes_376 ?_
        refine lv_iadd hx hb dX5_goes_377 ?_
        refine lv_istore (lv' := [(6, .int (sm + (τ.1 20 k))), (0, .ref (α 14)), (3, .int all), (7, .int (nI k))]) hx hb dX5_goes_378 hl (by decide) rfl (fun ls hl => ?_)
        refine lv_iinc (v := nI (k + 1)) (lv' := [(7, .int (nI (k + 1))), (6, .int (sm + (τ.1 20 k))), (0, .ref (α 14)), (3, .int all)]) hx hb dX5_goes_380 hl (k := 3) rfl (nI_1 _) (by decide) rfl (fun ls hl => ?_)
        refine lv_goto (tgt := 346) hx hb dX5_goes_383 (by decide) ?_
        exact ih (k + 1) (sm + (τ.1 20 k)) all τ (by omega) (by omega) hτ hall (by rw [hsm, smI]; first | (rw [if_pos p_360]; done) | (rw [if_neg p_360]; done)) _ _ I ls (lv_sub hl [2, 3, 1, 0] rfl)
set_option maxHeartbeats 1000000 in
set_option maxRecDepth 100000 in
theorem lpX5_goes_181 {sz : Nat} (n d ly z : Nat) (f : Nat → Nat) (X : wX p s m args c cX5_goes 8 RX5 g) (hsz : s.heap.size = sz) (hr : meth.sig.returnType = (none : Option FieldType)) (hlk : meth.locks = false) (hN : 32 ≤ N) (hn10 : n ≤ 10) (hd200 : d < 200) (hly : ly ≤ 6) (hgo : GO σ f z n d ly) (τ : wS) (H : Heap) (locs : List Loc) (I : wI g α N (wA α N sz) s.heap H locs τ) (hh7 : τ.1 14 7 = nI n) (hh2 : τ.1 14 2 = nI d) (hhk : ∀ i, i < n → (τ.1 18 i = 0 ∨ τ.1 18 i = 1 ∨ τ.1 18 i = 2)) (j : Nat) (ch lg all : Int32) (kk : ∀ nx : Int32, nx = lcI (slO τ d n) → ∀ ls : Array Slot, lv_has ls 8 [(0, .ref (α 14)), (1, .int ch), (2, .int lg), (3, .int all), (4, .int (nI j)), (5, .int nx)] → W p l e ({ frames := 1, cells := 0, slots := 0, locals := 25 } : Room) s m args below meth c H locs 0 0 (MQ below (va_Qv (fun τ => τ = dyM σ f z n d ly) (wB g α N) (wA α N sz)) args s 0 0 (wA α N sz)) (F0 m 237 ls [])) : ∀ (fu : Nat) (k : Nat) (nx : Int32), n + 1 ≤ k + fu → k ≤ n → nx = lcI (slO τ d k) → ∀ ls : Array Slot, lv_has ls 8 [(0, .ref (α 14)), (1, .int ch), (2, .int lg), (3, .int all), (4, .int (nI j)), (5, .int nx), (6, .int (nI k))] → W p l e ({ frames := 1, cells := 0, slots := 0, locals := 25 } : Room) s m args below meth c H locs 0 0 (MQ below (va_Qv (fun τ => τ = dyM σ f z n d ly) (wB g α N) (wA α N sz)) args s 0 0 (wA α N sz)) (F0 m 181 ls []) := by
  have hA : ∀ q, s.heap.size ≤ q → wA α N sz q := fun q h => Or.inr (by omega)
  have hx := X.1.1
  have hb := X.1.2.1
  intro fu
  induction fu with
  | zero =>
    intro k nx hfu hk hnx
    exact absurd hfu (by omega)
  | succ fu ih =>
    intro k nx hfu hk hnx ls hl
    refine lv_iload hx hb dX5_goes_181 (lv_at hl 6 rfl) ?_
    refine lv_aload_n hx hb dX5_goes_183 rfl (lv_at hl 0 rfl) ?_
    refine fg5_7 X I (by omega) kfX5_79 dX5_goes_184 ?_
    refine w_eqi (y := nI n) hh7 ?_
    refine lv_icmp_ge (tgt := 237) hx hb dX5_goes_187 (by decide) (fun c_187 => ?_) (fun c_187 => ?_)
    ·
      have e : k = n := by have := nI_le' c_187 (by omega) (by omega); omega
      exact kk nx (by rw [hnx, e]) ls (lv_sub hl [0, 1, 2, 3, 4, 5] rfl)
    ·
      have hlt : k < n := by
        rcases Nat.lt_or_ge k n with q | q
        · exact q
        · exact absurd (nI_le q (by omega)) c_187
      rcases hs : slO τ d k with _ | y
      ·
        obtain rfl : nx = (-9) := by rw [hnx, hs]; rfl
        refine lv_aload_n hx hb dX5_goes_190 rfl (lv_at hl 0 rfl) ?_
        refine fg5_24 X I (by omega) kfX5_62 dX5_goes_191 ?_
        refine lv_iload hx hb dX5_goes_194 (lv_at hl 6 rfl) ?_
        refine w_ldz X I 31 (by omega) (n := 10) (k := k) (fun _ _ _ => rfl) rfl (by omega) (by decide) dX5_goes_196 ?_
        refine lv_if_ne (tgt := 227) hx hb dX5_goes_197 (by decide) (fun c_197 => ?_) (fun c_197 => ?_)
        ·
          refine lv_iload hx hb dX5_goes_227 (lv_at hl 5 rfl) ?_
          refine lv_istore (lv' := [(5, .int (-9)), (0, .ref (α 14)), (1, .int ch), (2, .int lg), (3, .int all), (4, .int (nI j)), (6, .int (nI k))]) hx hb dX5_goes_229 hl (by decide) rfl (fun ls hl => ?_)
          refine lv_iinc (v := nI (k + 1)) (lv' := [(6, .int (nI (k + 1))), (5, .int (-9)), (0, .ref (α 14)), (1, .int ch), (2, .int lg), (3, .int all), (4, .int (nI j))]) hx hb dX5_goes_231 hl (k := 6) rfl (nI_1 _) (by decide) rfl (fun ls hl => ?_)
          refine lv_goto (tgt := 181) hx hb dX5_goes_234 (by decide) ?_
          exact ih (k + 1) (-9) (by omega) (by omega) (by rw [slO, hs]; first | (simp only [if_pos c_197]; rfl) | (simp only [if_neg c_197]; rfl) | (simp only [if_neg (fun z : _ ∧ _ => c_197 z.1)]; rfl) | (simp only [if_pos (And.intro c_197 (Int32.not_le.mp c_219))]; rfl) | (simp only [if_neg (fun z : _ ∧ _ => absurd z.2 (Int32.not_lt.mpr c_219))]; rfl)) ls (lv_sub hl [2, 3, 4, 5, 6, 1, 0] rfl)
        ·
          refine lv_iload hx hb dX5_goes_200 (lv_at hl 5 rfl) ?_
          refine lv_bipush (v := (-9)) hx hb dX5_goes_202 (by decide) ?_
          refine lv_icmp_eq (tgt := 222) hx hb dX5_goes_204 (by decide) (fun _ => ?_) (fun cc => absurd cc (by decide))
          refine lv_iload hx hb dX5_goes_222 (lv_at hl 6 rfl) ?_
          refine lv_goto (tgt := 229) hx hb dX5_goes_224 (by decide) ?_
          refine lv_istore (lv' := [(5, .int (nI k)), (0, .ref (α 14)), (1, .int ch), (2, .int lg), (3, .int all), (4, .int (nI j)), (6, .int (nI k))]) hx hb dX5_goes_229 hl (by decide) rfl (fun ls hl => ?_)
          refine lv_iinc (v := nI (k + 1)) (lv' := [(6, .int (nI (k + 1))), (5, .int (nI k)), (0, .ref (α 14)), (1, .int ch), (2, .int lg), (3, .int all), (4, .int (nI j))]) hx hb dX5_goes_231 hl (k := 6) rfl (nI_1 _) (by decide) rfl (fun ls hl => ?_)
          refine lv_goto (tgt := 181) hx hb dX5_goes_234 (by decide) ?_
          exact ih (k + 1) (nI k) (by omega) (by omega) (by rw [slO, hs]; first | (simp only [if_pos c_197]; rfl) | (simp only [if_neg c_197]; rfl) | (simp only [if_neg (fun z : _ ∧ _ => c_197 z.1)]; rfl) | (simp only [if_pos (And.intro c_197 (Int32.not_le.mp c_219))]; rfl) | (simp only [if_neg (fun z : _ ∧ _ => absurd z.2 (Int32.not_lt.mpr c_219))]; rfl)) ls (lv_sub hl [2, 3, 4, 5, 6, 1, 0] rfl)
      ·
        have hyk : y < k := slO_lt hs
        obtain rfl : nx = nI y := by rw [hnx, hs]; rfl
        refine lv_aload_n hx hb dX5_goes_190 rfl (lv_at hl 0 rfl) ?_
        refine fg5_24 X I (by omega) kfX5_62 dX5_goes_191 ?_
        refine lv_iload hx hb dX5_goes_194 (lv_at hl 6 rfl) ?_
        refine w_ldz X I 31 (by omega) (n := 10) (k := k) (fun _ _ _ => rfl) rfl (by omega) (by decide) dX5_goes_196 ?_
        refine lv_if_ne (tgt := 227) hx hb dX5_goes_197 (by decide) (fun c_197 => ?_) (fun c_197 => ?_)
        ·
          refine lv_iload hx hb dX5_goes_227 (lv_at hl 5 rfl) ?_
          refine lv_istore (lv' := [(5, .int (nI y)), (0, .ref (α 14)), (1, .int ch), (2, .int lg), (3, .int all), (4, .int (nI j)), (6, .int (nI k))]) hx hb dX5_goes_229 hl (by decide) rfl (fun ls hl => ?_)
          refine lv_iinc (v := nI (k + 1)) (lv' := [(6, .int (nI (k + 1))), (5, .int (nI y)), (0, .ref (α 14)), (1, .int ch), (2, .int lg), (3, .int all), (4, .int (nI j))]) hx hb dX5_goes_231 hl (k := 6) rfl (nI_1 _) (by decide) rfl (fun ls hl => ?_)
          refine lv_goto (tgt := 181) hx hb dX5_goes_234 (by decide) ?_
          exact ih (k + 1) (nI y) (by omega) (by omega) (by rw [slO, hs]; first | (simp only [if_pos c_197]; rfl) | (simp only [if_neg c_197]; rfl) | (simp only [if_neg (fun z : _ ∧ _ => c_197 z.1)]; rfl) | (simp only [if_pos (And.intro c_197 (Int32.not_le.mp c_219))]; rfl) | (simp only [if_neg (fun z : _ ∧ _ => absurd z.2 (Int32.not_lt.mpr c_219))]; rfl)) ls (lv_sub hl [2, 3, 4, 5, 6, 1, 0] rfl)
        ·
          refine lv_iload hx hb dX5_goes_200 (lv_at hl 5 rfl) ?_
          refine lv_bipush (v := (-9)) hx hb dX5_goes_202 (by decide) ?_
          refine lv_icmp_eq (tgt := 222) hx hb dX5_goes_204 (by decide) (fun cc => absurd cc (nI_neN (by omega) (by decide))) (fun _ => ?_)
          refine lv_aload_n hx hb dX5_goes_207 rfl (lv_at hl 0 rfl) ?_
          refine lv_iload hx hb dX5_goes_208 (lv_at hl 6 rfl) ?_
          refine w_vSi X I 14 (by omega) rfl rfl (As := [.int (nI k)]) (rest := []) (ctX5_turnOf l g α N τ k d hN hh2 (by omega) (by omega) (hhk k hlt)) (wM_V kmX5_94 ki_X5_turnOf ks_X5_turnOf kn_X5 kc_X5_turnOf) rfl rfl (n := 1) (by decide +kernel) rfl ⟨by decide, by decide⟩ hl.1 rfl (Nat.le_of_ble_eq_true rfl) ⟨Nat.zero_le _, Nat.zero_le _⟩ dX5_goes_210 (fun r_210 q_210 => ?_)
          replace q_210 : r_210 = tM τ d k := q_210
          subst q_210
          refine lv_aload_n hx hb dX5_goes_213 rfl (lv_at hl 0 rfl) ?_
          refine lv_iload hx hb dX5_goes_214 (lv_at hl 5 rfl) ?_
          refine w_vSi X I 14 (by omega) rfl rfl (As := [.int (nI y)]) (rest := [.int (tM τ d k)]) (ctX5_turnOf l g α N τ y d hN hh2 (by omega) (by omega) (hhk y (by omega))) (wM_V kmX5_94 ki_X5_turnOf ks_X5_turnOf kn_X5 kc_X5_turnOf) rfl rfl (n := 1) (by decide +kernel) rfl ⟨by decide, by decide⟩ hl.1 rfl (Nat.le_of_ble_eq_true rfl) ⟨Nat.zero_le _, Nat.zero_le _⟩ dX5_goes_216 (fun r_216 q_216 => ?_)
          replace q_216 : r_216 = tM τ d y := q_216
          subst q_216
          refine lv_icmp_ge (tgt := 227) hx hb dX5_goes_219 (by decide) (fun c_219 => ?_) (fun c_219 => ?_)
          ·
            refine lv_iload hx hb dX5_goes_227 (lv_at hl 5 rfl) ?_
            refine lv_istore (lv' := [(5, .int (nI y)), (0, .ref (α 14)), (1, .int ch), (2, .int lg), (3, .int all), (4, .int (nI j)), (6, .int (nI k))]) hx hb dX5_goes_229 hl (by decide) rfl (fun ls hl => ?_)
            refine lv_iinc (v := nI (k + 1)) (lv' := [(6, .int (nI (k + 1))), (5, .int (nI y)), (0, .ref (α 14)), (1, .int ch), (2, .int lg), (3, .int all), (4, .int (nI j))]) hx hb dX5_goes_231 hl (k := 6) rfl (nI_1 _) (by decide) rfl (fun ls hl => ?_)
            refine lv_goto (tgt := 181) hx hb dX5_goes_234 (by decide) ?_
            exact ih (k + 1) (nI y) (by omega) (by omega) (by rw [slO, hs]; first | (simp only [if_pos c_197]; rfl) | (simp only [if_neg c_197]; rfl) | (simp only [if_neg (fun z : _ ∧ _ => c_197 z.1)]; rfl) | (simp only [if_pos (And.intro c_197 (Int32.not_le.mp c_219))]; rfl) | (simp only [if_neg (fun z : _ ∧ _ => absurd z.2 (Int32.not_lt.mpr c_219))]; rfl)) ls (lv_sub hl [2, 3, 4, 5, 6, 1, 0] rfl)
          ·
            refine lv_iload hx hb dX5_goes_222 (lv_at hl 6 rfl) ?_
            refine lv_goto (tgt := 229) hx hb dX5_goes_224 (by decide) ?_
            refine lv_istore (lv' := [(5, .int (nI k)), (0, .ref (α 14)), (1, .int ch), (2, .int lg), (3, .int all), (4, .int (nI j)), (6, .int (nI k))]) hx hb dX5_goes_229 hl (by decide) rfl (fun ls hl => ?_)
            refine lv_iinc (v := nI (k + 1)) (lv' := [(6, .int (nI (k + 1))), (5, .int (nI k)), (0, .ref (α 14)), (1, .int ch), (2, .int lg), (3, .int all), (4, .int (nI j))]) hx hb dX5_goes_231 hl (k := 6) rfl (nI_1 _) (by decide) rfl (fun ls hl => ?_)
            refine lv_goto (tgt := 181) hx hb dX5_goes_234 (by decide) ?_
            exact ih (k + 1) (nI k) (by omega) (by omega) (by rw [slO, hs]; first | (simp only [if_pos c_197]; rfl) | (simp only [if_neg c_197]; rfl) | (simp only [if_neg (fun z : _ ∧ _ => c_197 z.1)]; rfl) | (simp only [if_pos (And.intro c_197 (Int32.not_le.mp c_219))]; rfl) | (simp only [if_neg (fun z : _ ∧ _ => absurd z.2 (Int32.not_lt.mpr c_219))]; rfl)) ls (lv_sub hl [2, 3, 4, 5, 6, 1, 0] rfl)
set_option maxHeartbeats 1000000 in
set_option maxRecDepth 100000 in
theorem lpX5_goes_167 {sz : Nat} (n d ly z : Nat) (f : Nat → Nat) (X : wX p s m args c cX5_goes 8 RX5 g) (hsz : s.heap.size = sz) (hr : meth.sig.returnType = (none : Option FieldType)) (hlk : meth.locks = false) (hN : 32 ≤ N) (hn10 : n ≤ 10) (hd200 : d < 200) (hly : ly ≤ 6) (hgo : GO σ f z n d ly) : ∀ (fu : Nat) (j : Nat) (b : Nat) (nx : Int32) (all : Int32) (ch : Int32) (lg : Int32) (τ : wS), z + 2 ≤ j + fu + b → b ≤ 1 → j ≤ z → (b = 0 → ¬ nx = (-9)) → (b = 1 → (nx = (-9) ∧ j = z)) → ch = (if 4 < σ.1 15 d then 0 else 1) → lg = (if 7 < σ.1 15 d then 0 else 1) → τ = (gF (mdS σ d n) f (σ.1 15 d) d ly j).1 → all = (gF (mdS σ d n) f (σ.1 15 d) d ly j).2 → ∀ (H : Heap) (locs : List Loc), wI g α N (wA α N sz) s.heap H locs τ → ∀ ls : Array Slot, lv_has ls 8 [(0, .ref (α 14)), (1, .int ch), (2, .int lg), (3, .int all), (4, .int (nI j)), (5, .int nx)] → W p l e ({ frames := 1, cells := 0, slots := 0, locals := 25 } : Room) s m args below meth c H locs 0 0 (MQ below (va_Qv (fun τ => τ = dyM σ f z n d ly) (wB g α N) (wA α N sz)) args s 0 0 (wA α N sz)) (F0 m 167 ls []) := by
  have hA : ∀ q, s.heap.size ≤ q → wA α N sz q := fun q h => Or.inr (by omega)
  have hx := X.1.1
  have hb := X.1.2.1
  intro fu
  induction fu with
  | zero =>
    intro j b nx all ch lg τ hfu hb1 hj hne heq hch hlg hτ hall
    exact absurd hfu (by omega)
  | succ fu ih =>
    intro j b nx all ch lg τ hfu hb1 hj hne heq hch hlg hτ hall H locs I ls hl
    obtain ⟨hn, hd, hz, hki, hsel, hend, hz10⟩ := id hgo
    have h7 : τ.1 14 7 = nI n := by rw [hτ]; exact (gF_o _ _ _ _ _ (by decide) (by decide) (by decide) (by decide) (by decide) (by decide) _).trans ((mdS_o σ d (by decide) (by decide) (by decide) _).trans hn)
    have h2 : τ.1 14 2 = nI d := by rw [hτ]; exact (gF_o _ _ _ _ _ (by decide) (by decide) (by decide) (by decide) (by decide) (by decide) _).trans ((mdS_o σ d (by decide) (by decide) (by decide) _).trans hd)
    have h4 : τ.1 14 4 = nI ly := by rw [hτ]; exact (gF_o _ _ _ _ _ (by decide) (by decide) (by decide) (by decide) (by decide) (by decide) _).trans ((mdS_o σ d (by decide) (by decide) (by decide) _).trans hz)
    have hch0 : ch = 0 ↔ 4 < σ.1 15 d := by rw [hch]; by_cases h : 4 < σ.1 15 d <;> simp [h]
    have hlg0 : lg = 0 ↔ 7 < σ.1 15 d := by rw [hlg]; by_cases h : 7 < σ.1 15 d <;> simp [h]
    refine lv_iload hx hb dX5_goes_167 (lv_at hl 5 rfl) ?_
    refine lv_bipush (v := (-9)) hx hb dX5_goes_169 (by decide) ?_
    refine lv_icmp_eq (tgt := 340) hx hb dX5_goes_171 (by decide) (fun c_171 => ?_) (fun c_171 => ?_)
    ·
      have hb2 : b = 1 := by
        rcases Nat.lt_or_ge b 1 with q | q
        · exact absurd c_171 (hne (by omega))
        · omega
      have hjz : j = z := (heq hb2).2
      rw [hjz] at hτ hall
      refine lv_iconst (v := 0) hx hb dX5_goes_340 (by decide) ?_
      refine lv_istore (lv' := [(6, .int 0), (0, .ref (α 14)), (1, .int ch), (2, .int lg), (3, .int all), (4, .int (nI j)), (5, .int nx)]) hx hb dX5_goes_341 hl (by decide) rfl (fun ls hl => ?_)
      refine lv_iconst (v := 0) hx hb dX5_goes_343 (by decide) ?_
      refine lv_istore (lv' := [(7, .int 0), (6, .int 0), (0, .ref (α 14)), (1, .int ch), (2, .int lg), (3, .int all), (4, .int (nI j)), (5, .int nx)]) hx hb dX5_goes_344 hl (by decide) rfl (fun ls hl => ?_)
      exact lpX5_goes_346 n d ly z f X hsz hr hlk hN hn10 hd200 hly hgo  (n + 1) 0 0 all τ (by omega) (by omega) hτ hall rfl _ _ I ls (lv_sub hl [2, 5, 1, 0] rfl)
    ·
      have hb0 : b = 0 := by
        rcases Nat.lt_or_ge b 1 with q | q
        · omega
        · exact absurd (heq (by omega)).1 c_171
      refine lv_bipush (v := (-9)) hx hb dX5_goes_174 (by decide) ?_
      refine lv_istore (lv' := [(5, .int (-9)), (0, .ref (α 14)), (1, .int ch), (2, .int lg), (3, .int all), (4, .int (nI j))]) hx hb dX5_goes_176 hl (by decide) rfl (fun ls hl => ?_)
      refine lv_iconst (v := 0) hx hb dX5_goes_178 (by decide) ?_
      refine lv_istore (lv' := [(6, .int 0), (5, .int (-9)), (0, .ref (α 14)), (1, .int ch), (2, .int lg), (3, .int all), (4, .int (nI j))]) hx hb dX5_goes_179 hl (by decide) rfl (fun ls hl => ?_)
      refine lpX5_goes_181 n d ly z f X hsz hr hlk hN hn10 hd200 hly hgo τ _ _ I h7 h2 (fun i hi => by rw [show τ.1 18 i = σ.1 18 i by rw [hτ]; exact (gF_o _ _ _ _ _ (by decide) (by decide) (by decide) (by decide) (by decide) (by decide) _).trans (mdS_o σ d (by decide) (by decide) (by decide) _)]; exact hki i hi) j ch lg all (fun nx hnx ls hl => ?_) (n + 1) 0 (-9) (by omega) (by omega) rfl ls (lv_sub hl [2, 3, 4, 5, 6, 1, 0] rfl)
      have hl : lv_has ls 8 [(0, .ref (α 14)), (1, .int ch), (2, .int lg), (3, .int all), (4, .int (nI j)), (5, .int nx)] := hl
      rcases hs : slO τ d n with _ | y
      ·
        have hjz : j = z := by
          rcases Nat.lt_or_ge j z with q | q
          · have h9 := hsel j q; rw [← hτ, hs] at h9; cases h9
          · omega
        obtain rfl : nx = (-9) := by rw [hnx, hs]; rfl
        refine lv_iload hx hb dX5_goes_237 (lv_at hl 5 rfl) ?_
        refine lv_bipush (v := (-9)) hx hb dX5_goes_239 (by decide) ?_
        refine lv_icmp_eq (tgt := 167) hx hb dX5_goes_241 (by decide) (fun _ => ?_) (fun cc => absurd cc (by decide))
        exact ih j 1 (-9) all ch lg τ (by omega) (by omega) (by omega) (fun q => by omega) (fun _ => ⟨rfl, hjz⟩) hch hlg hτ hall _ _ I ls (lv_sub hl [0, 1, 2, 3, 4, 5] rfl)
      ·
        have hjz : j < z := by
          rcases Nat.lt_or_ge j z with q | q
          · exact q
          · have h9 := hend; rw [show z = j by omega, ← hτ, hs] at h9; cases h9
        obtain rfl : y = f j := by have h9 := hsel j hjz; rw [← hτ, hs] at h9; exact Option.some.inj h9
        have hfn : f j < n := slO_lt hs
        obtain rfl : nx = nI (f j) := by rw [hnx, hs]; rfl
        refine lv_iload hx hb dX5_goes_237 (lv_at hl 5 rfl) ?_
        refine lv_bipush (v := (-9)) hx hb dX5_goes_239 (by decide) ?_
        refine lv_icmp_eq (tgt := 167) hx hb dX5_goes_241 (by decide) (fun cc => absurd cc (nI_neN (by omega) (by decide))) (fun _ => ?_)
        refine lv_aload_n hx hb dX5_goes_244 rfl (lv_at hl 0 rfl) ?_
        refine fg5_24 X I (by omega) kfX5_62 dX5_goes_245 ?_
        refine lv_iload hx hb dX5_goes_248 (lv_at hl 5 rfl) ?_
        refine lv_iconst (v := 1) hx hb dX5_goes_250 (by decide) ?_
        refine w_stz X I 31 (by omega) (n := 10) (k := f j) (fun _ _ _ => rfl) rfl (by omega) (by decide) rfl dX5_goes_251 (fun H locs I => ?_)
        refine lv_aload_n hx hb dX5_goes_252 rfl (lv_at hl 0 rfl) ?_
        refine lv_iload hx hb dX5_goes_253 (lv_at hl 5 rfl) ?_
        refine lv_iload hx hb dX5_goes_255 (lv_at hl 4 rfl) ?_
        refine lv_iconst (v := 2) hx hb dX5_goes_257 (by decide) ?_
        refine lv_icmp_ge (tgt := 270) hx hb dX5_goes_258 (by decide) (fun c_258 => ?_) (fun c_258 => ?_)
        ·
          refine lv_iload_n hx hb dX5_goes_270 rfl (lv_at hl 2 rfl) ?_
          refine lv_if_eq (tgt := 279) hx hb dX5_goes_271 (by decide) (fun c_271 => ?_) (fun c_271 => ?_)
          ·
            refine lv_iconst (v := 0) hx hb dX5_goes_279 (by decide) ?_
            refine w_eqi (y := taF (σ.1 15 d) j) (((if_neg (fun z => z.1 c_258)).trans (if_pos (hlg0.mp c_271))).symm) ?_
            refine w_vi X I hA 14 (by omega) rfl rfl (As := [.int (nI (f j)), .int (taF (σ.1 15 d) j)]) (rest := []) (ctX5_loads l g α N (wu τ 31 (f j) 1) _ (f j) ly (taF (σ.1 15 d) j) hN ((wu_o (by decide)).trans h4) hly (by omega)) (wM_V kmX5_101 ki_X5_loads ks_X5_loads kn_X5 kc_X5_loads) rfl rfl (n := 2) (by decide +kernel) rfl ⟨by decide, by decide⟩ hl.1 rfl (Nat.le_of_ble_eq_true rfl) ⟨Nat.zero_le _, Nat.zero_le _⟩ dX5_goes_280 (fun r_280 τ_280 H locs q_280 I => ?_)
            obtain ⟨rfl, rfl⟩ := q_280
            refine lv_istore (lv' := [(6, .int ((mS (wu τ 31 (f j) 1) (f j) (taF (σ.1 15 d) j) ly).2)), (0, .ref (α 14)), (1, .int ch), (2, .int lg), (3, .int all), (4, .int (nI j)), (5, .int (nI (f j)))]) hx hb dX5_goes_283 hl (by decide) rfl (fun ls hl => ?_)
            refine lv_aload_n hx hb dX5_goes_285 rfl (lv_at hl 1 rfl) ?_
            refine fg5_14 X I (by omega) kfX5_37 dX5_goes_286 ?_
            refine lv_sipush (v := 201) hx hb dX5_goes_289 (by decide) ?_
            refine lv_iload hx hb dX5_goes_292 (lv_at hl 6 rfl) ?_
            refine lv_imul hx hb dX5_goes_294 ?_
            refine w_eqi (y := nI (201 * (f j))) (pk_mul 201 _) ?_
            refine lv_aload_n hx hb dX5_goes_295 rfl (lv_at hl 1 rfl) ?_
            refine fg5_2 X I (by omega) kfX5_76 dX5_goes_296 ?_
            refine w_eqi (y := nI d) ((mS_o _ _ _ (by decide) (by decide) (by decide) _).trans ((wu_o (by decide)).trans h2)) ?_
            refine lv_iadd hx hb dX5_goes_299 ?_
            refine w_eqi (y := nI (201 * (f j) + d)) (nI_add _ _) ?_
            refine lv_iload hx hb dX5_goes_300 (lv_at hl 0 rfl) ?_
            refine w_st X I 24 (by omega) (n := 2010) (k := 201 * (f j) + d) (fun _ _ _ => rfl) rfl (by omega) (by decide) dX5_goes_302 (fun H locs I => ?_)
            refine lv_aload_n hx hb dX5_goes_303 rfl (lv_at hl 1 rfl) ?_
            refine fg5_12 X I (by omega) kfX5_31 dX5_goes_304 ?_
            refine lv_iload hx hb dX5_goes_307 (lv_at hl 6 rfl) ?_
            refine lv_aload_n hx hb dX5_goes_309 rfl (lv_at hl 1 rfl) ?_
            refine fg5_10 X I (by omega) kfX5_25 dX5_goes_310 ?_
            refine lv_iload hx hb dX5_goes_313 (lv_at hl 6 rfl) ?_
            refine w_ld X I 20 (by omega) (n := 10) (k := f j) (fun _ _ _ => rfl) rfl (by omega) (by decide) dX5_goes_315 ?_
            refine w_eqi (y := ((mS (wu τ 31 (f j) 1) (f j) (taF (σ.1 15 d) j) ly).1).1 20 (f j)) (wu_o (by decide)) ?_
            refine lv_if_ne (tgt := 326) hx hb dX5_goes_316 (by decide) (fun c_316 => ?_) (fun c_316 => ?_)
            ·
              refine lv_bipush (v := (-9)) hx hb dX5_goes_326 (by decide) ?_
              refine w_st X I 22 (by omega) (n := 10) (k := f j) (fun _ _ _ => rfl) rfl (by omega) (by decide) dX5_goes_328 (fun H locs I => ?_)
              refine lv_iload_n hx hb dX5_goes_329 rfl (lv_at hl 4 rfl) ?_
              refine lv_iload hx hb dX5_goes_330 (lv_at hl 0 rfl) ?_
              refine lv_iadd hx hb dX5_goes_332 ?_
              refine lv_istore_n (lv' := [(3, .int (all + ((mS (wu τ 31 (f j) 1) (f j) (taF (σ.1 15 d) j) ly).2))), (6, .int ((mS (wu τ 31 (f j) 1) (f j) (taF (σ.1 15 d) j) ly).2)), (0, .ref (α 14)), (1, .int ch), (2, .int lg), (4, .int (nI j)), (5, .int (nI (f j)))]) hx hb dX5_goes_333 rfl hl (by decide) rfl (fun ls hl => ?_)
              refine lv_iinc (v := nI (j + 1)) (lv' := [(4, .int (nI (j + 1))), (3, .int (all + ((mS (wu τ 31 (f j) 1) (f j) (taF (σ.1 15 d) j) ly).2))), (6, .int ((mS (wu τ 31 (f j) 1) (f j) (taF (σ.1 15 d) j) ly).2)), (0, .ref (α 14)), (1, .int ch), (2, .int lg), (5, .int (nI (f j)))]) hx hb dX5_goes_334 hl (k := 5) rfl (nI_1 _) (by decide) rfl (fun ls hl => ?_)
              refine lv_goto (tgt := 167) hx hb dX5_goes_337 (by decide) ?_
              exact ih (j + 1) 0 (nI (f j)) (all + ((mS (wu τ 31 (f j) 1) (f j) (taF (σ.1 15 d) j) ly).2)) ch lg (wu (wu (mS (wu τ 31 (f j) 1) (f j) (taF (σ.1 15 d) j) ly).1 24 (201 * (f j) + d) ((mS (wu τ 31 (f j) 1) (f j) (taF (σ.1 15 d) j) ly).2)) 22 (f j) (-9)) (by omega) (by omega) (by omega) (fun _ => nI_neN (by omega) (by decide)) (fun q => by omega) hch hlg (by rw [gF, ← hτ, glF]; first | (rw [if_pos c_316]; done) | (rw [if_neg c_316]; done)) (by rw [gF, ← hτ, ← hall]; rfl) _ _ I ls (lv_sub hl [3, 4, 5, 1, 0, 6] rfl)
            ·
              refine lv_aload_n hx hb dX5_goes_319 rfl (lv_at hl 1 rfl) ?_
              refine fg5_2 X I (by omega) kfX5_76 dX5_goes_320 ?_
              refine w_eqi (y := ((mS (wu τ 31 (f j) 1) (f j) (taF (σ.1 15 d) j) ly).1).1 14 2) (wu_o (by decide)) ?_
              refine w_eqi (y := nI d) ((mS_o _ _ _ (by decide) (by decide) (by decide) _).trans ((wu_o (by decide)).trans h2)) ?_
              refine lv_goto (tgt := 328) hx hb dX5_goes_323 (by decide) ?_
              refine w_st X I 22 (by omega) (n := 10) (k := f j) (fun _ _ _ => rfl) rfl (by omega) (by decide) dX5_goes_328 (fun H locs I => ?_)
              refine lv_iload_n hx hb dX5_goes_329 rfl (lv_at hl 4 rfl) ?_
              refine lv_iload hx hb dX5_goes_330 (lv_at hl 0 rfl) ?_
              refine lv_iadd hx hb dX5_goes_332 ?_
              refine lv_istore_n (lv' := [(3, .int (all + ((mS (wu τ 31 (f j) 1) (f j) (taF (σ.1 15 d) j) ly).2))), (6, .int ((mS (wu τ 31 (f j) 1) (f j) (taF (σ.1 15 d) j) ly).2)), (0, .ref (α 14)), (1, .int ch), (2, .int lg), (4, .int (nI j)), (5, .int (nI (f j)))]) hx hb dX5_goes_333 rfl hl (by decide) rfl (fun ls hl => ?_)
              refine lv_iinc (v := nI (j + 1)) (lv' := [(4, .int (nI (j + 1))), (3, .int (all + ((mS (wu τ 31 (f j) 1) (f j) (taF (σ.1 15 d) j) ly).2))), (6, .int ((mS (wu τ 31 (f j) 1) (f j) (taF (σ.1 15 d) j) ly).2)), (0, .ref (α 14)), (1, .int ch), (2, .int lg), (5, .int (nI (f j)))]) hx hb dX5_goes_334 hl (k := 5) rfl (nI_1 _) (by decide) rfl (fun ls hl => ?_)
              refine lv_goto (tgt := 167) hx hb dX5_goes_337 (by decide) ?_
              exact ih (j + 1) 0 (nI (f j)) (all + ((mS (wu τ 31 (f j) 1) (f j) (taF (σ.1 15 d) j) ly).2)) ch lg (wu (wu (mS (wu τ 31 (f j) 1) (f j) (taF (σ.1 15 d) j) ly).1 24 (201 * (f j) + d) ((mS (wu τ 31 (f j) 1) (f j) (taF (σ.1 15 d) j) ly).2)) 22 (f j) (nI d)) (by omega) (by omega) (by omega) (fun _ => nI_neN (by omega) (by decide)) (fun q => by omega) hch hlg (by rw [gF, ← hτ, glF]; first | (rw [if_pos c_316]; done) | (rw [if_neg c_316]; done)) (by rw [gF, ← hτ, ← hall]; rfl) _ _ I ls (lv_sub hl [3, 4, 5, 1, 0, 6] rfl)
          ·
            refine lv_bipush (v := 15) hx hb dX5_goes_274 (by decide) ?_
            refine lv_goto (tgt := 280) hx hb dX5_goes_276 (by decide) ?_
            refine w_eqi (y := taF (σ.1 15 d) j) (((if_neg (fun z => z.1 c_258)).trans (if_neg (fun z => c_271 (hlg0.mpr z)))).symm) ?_
            refine w_vi X I hA 14 (by omega) rfl rfl (As := [.int (nI (f j)), .int (taF (σ.1 15 d) j)]) (rest := []) (ctX5_loads l g α N (wu τ 31 (f j) 1) _ (f j) ly (taF (σ.1 15 d) j) hN ((wu_o (by decide)).trans h4) hly (by omega)) (wM_V kmX5_101 ki_X5_loads ks_X5_loads kn_X5 kc_X5_loads) rfl rfl (n := 2) (by decide +kernel) rfl ⟨by decide, by decide⟩ hl.1 rfl (Nat.le_of_ble_eq_true rfl) ⟨Nat.zero_le _, Nat.zero_le _⟩ dX5_goes_280 (fun r_280 τ_280 H locs q_280 I => ?_)
            obtain ⟨rfl, rfl⟩ := q_280
            refine lv_istore (lv' := [(6, .int ((mS (wu τ 31 (f j) 1) (f j) (taF (σ.1 15 d) j) ly).2)), (0, .ref (α 14)), (1, .int ch), (2, .int lg), (3, .int all), (4, .int (nI j)), (5, .int (nI (f j)))]) hx hb dX5_goes_283 hl (by decide) rfl (fun ls hl => ?_)
            refine lv_aload_n hx hb dX5_goes_285 rfl (lv_at hl 1 rfl) ?_
            refine fg5_14 X I (by omega) kfX5_37 dX5_goes_286 ?_
            refine lv_sipush (v := 201) hx hb dX5_goes_289 (by decide) ?_
            refine lv_iload hx hb dX5_goes_292 (lv_at hl 6 rfl) ?_
            refine lv_imul hx hb dX5_goes_294 ?_
            refine w_eqi (y := nI (201 * (f j))) (pk_mul 201 _) ?_
            refine lv_aload_n hx hb dX5_goes_295 rfl (lv_at hl 1 rfl) ?_
            refine fg5_2 X I (by omega) kfX5_76 dX5_goes_296 ?_
            refine w_eqi (y := nI d) ((mS_o _ _ _ (by decide) (by decide) (by decide) _).trans ((wu_o (by decide)).trans h2)) ?_
            refine lv_iadd hx hb dX5_goes_299 ?_
            refine w_eqi (y := nI (201 * (f j) + d)) (nI_add _ _) ?_
            refine lv_iload hx hb dX5_goes_300 (lv_at hl 0 rfl) ?_
            refine w_st X I 24 (by omega) (n := 2010) (k := 201 * (f j) + d) (fun _ _ _ => rfl) rfl (by omega) (by decide) dX5_goes_302 (fun H locs I => ?_)
            refine lv_aload_n hx hb dX5_goes_303 rfl (lv_at hl 1 rfl) ?_
            refine fg5_12 X I (by omega) kfX5_31 dX5_goes_304 ?_
            refine lv_iload hx hb dX5_goes_307 (lv_at hl 6 rfl) ?_
            refine lv_aload_n hx hb dX5_goes_309 rfl (lv_at hl 1 rfl) ?_
            refine fg5_10 X I (by omega) kfX5_25 dX5_goes_310 ?_
            refine lv_iload hx hb dX5_goes_313 (lv_at hl 6 rfl) ?_
            refine w_ld X I 20 (by omega) (n := 10) (k := f j) (fun _ _ _ => rfl) rfl (by omega) (by decide) dX5_goes_315 ?_
            refine w_eqi (y := ((mS (wu τ 31 (f j) 1) (f j) (taF (σ.1 15 d) j) ly).1).1 20 (f j)) (wu_o (by decide)) ?_
            refine lv_if_ne (tgt := 326) hx hb dX5_goes_316 (by decide) (fun c_316 => ?_) (fun c_316 => ?_)
            ·
              refine lv_bipush (v := (-9)) hx hb dX5_goes_326 (by decide) ?_
              refine w_st X I 22 (by omega) (n := 10) (k := f j) (fun _ _ _ => rfl) rfl (by omega) (by decide) dX5_goes_328 (fun H locs I => ?_)
              refine lv_iload_n hx hb dX5_goes_329 rfl (lv_at hl 4 rfl) ?_
              refine lv_iload hx hb dX5_goes_330 (lv_at hl 0 rfl) ?_
              refine lv_iadd hx hb dX5_goes_332 ?_
              refine lv_istore_n (lv' := [(3, .int (all + ((mS (wu τ 31 (f j) 1) (f j) (taF (σ.1 15 d) j) ly).2))), (6, .int ((mS (wu τ 31 (f j) 1) (f j) (taF (σ.1 15 d) j) ly).2)), (0, .ref (α 14)), (1, .int ch), (2, .int lg), (4, .int (nI j)), (5, .int (nI (f j)))]) hx hb dX5_goes_333 rfl hl (by decide) rfl (fun ls hl => ?_)
              refine lv_iinc (v := nI (j + 1)) (lv' := [(4, .int (nI (j + 1))), (3, .int (all + ((mS (wu τ 31 (f j) 1) (f j) (taF (σ.1 15 d) j) ly).2))), (6, .int ((mS (wu τ 31 (f j) 1) (f j) (taF (σ.1 15 d) j) ly).2)), (0, .ref (α 14)), (1, .int ch), (2, .int lg), (5, .int (nI (f j)))]) hx hb dX5_goes_334 hl (k := 5) rfl (nI_1 _) (by decide) rfl (fun ls hl => ?_)
              refine lv_goto (tgt := 167) hx hb dX5_goes_337 (by decide) ?_
              exact ih (j + 1) 0 (nI (f j)) (all + ((mS (wu τ 31 (f j) 1) (f j) (taF (σ.1 15 d) j) ly).2)) ch lg (wu (wu (mS (wu τ 31 (f j) 1) (f j) (taF (σ.1 15 d) j) ly).1 24 (201 * (f j) + d) ((mS (wu τ 31 (f j) 1) (f j) (taF (σ.1 15 d) j) ly).2)) 22 (f j) (-9)) (by omega) (by omega) (by omega) (fun _ => nI_neN (by omega) (by decide)) (fun q => by omega) hch hlg (by rw [gF, ← hτ, glF]; first | (rw [if_pos c_316]; done) | (rw [if_neg c_316]; done)) (by rw [gF, ← hτ, ← hall]; rfl) _ _ I ls (lv_sub hl [3, 4, 5, 1, 0, 6] rfl)
            ·
              refine lv_aload_n hx hb dX5_goes_319 rfl (lv_at hl 1 rfl) ?_
              refine fg5_2 X I (by omega) kfX5_76 dX5_goes_320 ?_
              refine w_eqi (y := ((mS (wu τ 31 (f j) 1) (f j) (taF (σ.1 15 d) j) ly).1).1 14 2) (wu_o (by decide)) ?_
              refine w_eqi (y := nI d) ((mS_o _ _ _ (by decide) (by decide) (by decide) _).trans ((wu_o (by decide)).trans h2)) ?_
              refine lv_goto (tgt := 328) hx hb dX5_goes_323 (by decide) ?_
              refine w_st X I 22 (by omega) (n := 10) (k := f j) (fun _ _ _ => rfl) rfl (by omega) (by decide) dX5_goes_328 (fun H locs I => ?_)
              refine lv_iload_n hx hb dX5_goes_329 rfl (lv_at hl 4 rfl) ?_
              refine lv_iload hx hb dX5_goes_330 (lv_at hl 0 rfl) ?_
              refine lv_iadd hx hb dX5_goes_332 ?_
              refine lv_istore_n (lv' := [(3, .int (all + ((mS (wu τ 31 (f j) 1) (f j) (taF (σ.1 15 d) j) ly).2))), (6, .int ((mS (wu τ 31 (f j) 1) (f j) (taF (σ.1 15 d) j) ly).2)), (0, .ref (α 14)), (1, .int ch), (2, .int lg), (4, .int (nI j)), (5, .int (nI (f j)))]) hx hb dX5_goes_333 rfl hl (by decide) rfl (fun ls hl => ?_)
              refine lv_iinc (v := nI (j + 1)) (lv' := [(4, .int (nI (j + 1))), (3, .int (all + ((mS (wu τ 31 (f j) 1) (f j) (taF (σ.1 15 d) j) ly).2))), (6, .int ((mS (wu τ 31 (f j) 1) (f j) (taF (σ.1 15 d) j) ly).2)), (0, .ref (α 14)), (1, .int ch), (2, .int lg), (5, .int (nI (f j)))]) hx hb dX5_goes_334 hl (k := 5) rfl (nI_1 _) (by decide) rfl (fun ls hl => ?_)
              refine lv_goto (tgt := 167) hx hb dX5_goes_337 (by decide) ?_
              exact ih (j + 1) 0 (nI (f j)) (all + ((mS (wu τ 31 (f j) 1) (f j) (taF (σ.1 15 d) j) ly).2)) ch lg (wu (wu (mS (wu τ 31 (f j) 1) (f j) (taF (σ.1 15 d) j) ly).1 24 (201 * (f j) + d) ((mS (wu τ 31 (f j) 1) (f j) (taF (σ.1 15 d) j) ly).2)) 22 (f j) (nI d)) (by omega) (by omega) (by omega) (fun _ => nI_neN (by omega) (by decide)) (fun q => by omega) hch hlg (by rw [gF, ← hτ, glF]; first | (rw [if_pos c_316]; done) | (rw [if_neg c_316]; done)) (by rw [gF, ← hτ, ← hall]; rfl) _ _ I ls (lv_sub hl [3, 4, 5, 1, 0, 6] rfl)
        ·
          refine lv_iload_n hx hb dX5_goes_261 rfl (lv_at hl 1 rfl) ?_
          refine lv_if_eq (tgt := 270) hx hb dX5_goes_262 (by decide) (fun c_262 => ?_) (fun c_262 => ?_)
          ·
            refine lv_iload_n hx hb dX5_goes_270 rfl (lv_at hl 2 rfl) ?_
            refine lv_if_eq (tgt := 279) hx hb dX5_goes_271 (by decide) (fun c_271 => ?_) (fun c_271 => ?_)
            ·
              refine lv_iconst (v := 0) hx hb dX5_goes_279 (by decide) ?_
              refine w_eqi (y := taF (σ.1 15 d) j) (((if_neg (fun z => z.2 (hch0.mp c_262))).trans (if_pos (hlg0.mp c_271))).symm) ?_
              refine w_vi X I hA 14 (by omega) rfl rfl (As := [.int (nI (f j)), .int (taF (σ.1 15 d) j)]) (rest := []) (ctX5_loads l g α N (wu τ 31 (f j) 1) _ (f j) ly (taF (σ.1 15 d) j) hN ((wu_o (by decide)).trans h4) hly (by omega)) (wM_V kmX5_101 ki_X5_loads ks_X5_loads kn_X5 kc_X5_loads) rfl rfl (n := 2) (by decide +kernel) rfl ⟨by decide, by decide⟩ hl.1 rfl (Nat.le_of_ble_eq_true rfl) ⟨Nat.zero_le _, Nat.zero_le _⟩ dX5_goes_280 (fun r_280 τ_280 H locs q_280 I => ?_)
              obtain ⟨rfl, rfl⟩ := q_280
              refine lv_istore (lv' := [(6, .int ((mS (wu τ 31 (f j) 1) (f j) (taF (σ.1 15 d) j) ly).2)), (0, .ref (α 14)), (1, .int ch), (2, .int lg), (3, .int all), (4, .int (nI j)), (5, .int (nI (f j)))]) hx hb dX5_goes_283 hl (by decide) rfl (fun ls hl => ?_)
              refine lv_aload_n hx hb dX5_goes_285 rfl (lv_at hl 1 rfl) ?_
              refine fg5_14 X I (by omega) kfX5_37 dX5_goes_286 ?_
              refine lv_sipush (v := 201) hx hb dX5_goes_289 (by decide) ?_
              refine lv_iload hx hb dX5_goes_292 (lv_at hl 6 rfl) ?_
              refine lv_imul hx hb dX5_goes_294 ?_
              refine w_eqi (y := nI (201 * (f j))) (pk_mul 201 _) ?_
              refine lv_aload_n hx hb dX5_goes_295 rfl (lv_at hl 1 rfl) ?_
              refine fg5_2 X I (by omega) kfX5_76 dX5_goes_296 ?_
              refine w_eqi (y := nI d) ((mS_o _ _ _ (by decide) (by decide) (by decide) _).trans ((wu_o (by decide)).trans h2)) ?_
              refine lv_iadd hx hb dX5_goes_299 ?_
              refine w_eqi (y := nI (201 * (f j) + d)) (nI_add _ _) ?_
              refine lv_iload hx hb dX5_goes_300 (lv_at hl 0 rfl) ?_
              refine w_st X I 24 (by omega) (n := 2010) (k := 201 * (f j) + d) (fun _ _ _ => rfl) rfl (by omega) (by decide) dX5_goes_302 (fun H locs I => ?_)
              refine lv_aload_n hx hb dX5_goes_303 rfl (lv_at hl 1 rfl) ?_
              refine fg5_12 X I (by omega) kfX5_31 dX5_goes_304 ?_
              refine lv_iload hx hb dX5_goes_307 (lv_at hl 6 rfl) ?_
              refine lv_aload_n hx hb dX5_goes_309 rfl (lv_at hl 1 rfl) ?_
              refine fg5_10 X I (by omega) kfX5_25 dX5_goes_310 ?_
              refine lv_iload hx hb dX5_goes_313 (lv_at hl 6 rfl) ?_
              refine w_ld X I 20 (by omega) (n := 10) (k := f j) (fun _ _ _ => rfl) rfl (by omega) (by decide) dX5_goes_315 ?_
              refine w_eqi (y := ((mS (wu τ 31 (f j) 1) (f j) (taF (σ.1 15 d) j) ly).1).1 20 (f j)) (wu_o (by decide)) ?_
              refine lv_if_ne (tgt := 326) hx hb dX5_goes_316 (by decide) (fun c_316 => ?_) (fun c_316 => ?_)
              ·
                refine lv_bipush (v := (-9)) hx hb dX5_goes_326 (by decide) ?_
                refine w_st X I 22 (by omega) (n := 10) (k := f j) (fun _ _ _ => rfl) rfl (by omega) (by decide) dX5_goes_328 (fun H locs I => ?_)
                refine lv_iload_n hx hb dX5_goes_329 rfl (lv_at hl 4 rfl) ?_
                refine lv_iload hx hb dX5_goes_330 (lv_at hl 0 rfl) ?_
                refine lv_iadd hx hb dX5_goes_332 ?_
                refine lv_istore_n (lv' := [(3, .int (all + ((mS (wu τ 31 (f j) 1) (f j) (taF (σ.1 15 d) j) ly).2))), (6, .int ((mS (wu τ 31 (f j) 1) (f j) (taF (σ.1 15 d) j) ly).2)), (0, .ref (α 14)), (1, .int ch), (2, .int lg), (4, .int (nI j)), (5, .int (nI (f j)))]) hx hb dX5_goes_333 rfl hl (by decide) rfl (fun ls hl => ?_)
                refine lv_iinc (v := nI (j + 1)) (lv' := [(4, .int (nI (j + 1))), (3, .int (all + ((mS (wu τ 31 (f j) 1) (f j) (taF (σ.1 15 d) j) ly).2))), (6, .int ((mS (wu τ 31 (f j) 1) (f j) (taF (σ.1 15 d) j) ly).2)), (0, .ref (α 14)), (1, .int ch), (2, .int lg), (5, .int (nI (f j)))]) hx hb dX5_goes_334 hl (k := 5) rfl (nI_1 _) (by decide) rfl (fun ls hl => ?_)
                refine lv_goto (tgt := 167) hx hb dX5_goes_337 (by decide) ?_
                exact ih (j + 1) 0 (nI (f j)) (all + ((mS (wu τ 31 (f j) 1) (f j) (taF (σ.1 15 d) j) ly).2)) ch lg (wu (wu (mS (wu τ 31 (f j) 1) (f j) (taF (σ.1 15 d) j) ly).1 24 (201 * (f j) + d) ((mS (wu τ 31 (f j) 1) (f j) (taF (σ.1 15 d) j) ly).2)) 22 (f j) (-9)) (by omega) (by omega) (by omega) (fun _ => nI_neN (by omega) (by decide)) (fun q => by omega) hch hlg (by rw [gF, ← hτ, glF]; first | (rw [if_pos c_316]; done) | (rw [if_neg c_316]; done)) (by rw [gF, ← hτ, ← hall]; rfl) _ _ I ls (lv_sub hl [3, 4, 5, 1, 0, 6] rfl)
              ·
                refine lv_aload_n hx hb dX5_goes_319 rfl (lv_at hl 1 rfl) ?_
                refine fg5_2 X I (by omega) kfX5_76 dX5_goes_320 ?_
                refine w_eqi (y := ((mS (wu τ 31 (f j) 1) (f j) (taF (σ.1 15 d) j) ly).1).1 14 2) (wu_o (by decide)) ?_
                refine w_eqi (y := nI d) ((mS_o _ _ _ (by decide) (by decide) (by decide) _).trans ((wu_o (by decide)).trans h2)) ?_
                refine lv_goto (tgt := 328) hx hb dX5_goes_323 (by decide) ?_
                refine w_st X I 22 (by omega) (n := 10) (k := f j) (fun _ _ _ => rfl) rfl (by omega) (by decide) dX5_goes_328 (fun H locs I => ?_)
                refine lv_iload_n hx hb dX5_goes_329 rfl (lv_at hl 4 rfl) ?_
                refine lv_iload hx hb dX5_goes_330 (lv_at hl 0 rfl) ?_
                refine lv_iadd hx hb dX5_goes_332 ?_
                refine lv_istore_n (lv' := [(3, .int (all + ((mS (wu τ 31 (f j) 1) (f j) (taF (σ.1 15 d) j) ly).2))), (6, .int ((mS (wu τ 31 (f j) 1) (f j) (taF (σ.1 15 d) j) ly).2)), (0, .ref (α 14)), (1, .int ch), (2, .int lg), (4, .int (nI j)), (5, .int (nI (f j)))]) hx hb dX5_goes_333 rfl hl (by decide) rfl (fun ls hl => ?_)
                refine lv_iinc (v := nI (j + 1)) (lv' := [(4, .int (nI (j + 1))), (3, .int (all + ((mS (wu τ 31 (f j) 1) (f j) (taF (σ.1 15 d) j) ly).2))), (6, .int ((mS (wu τ 31 (f j) 1) (f j) (taF (σ.1 15 d) j) ly).2)), (0, .ref (α 14)), (1, .int ch), (2, .int lg), (5, .int (nI (f j)))]) hx hb dX5_goes_334 hl (k := 5) rfl (nI_1 _) (by decide) rfl (fun ls hl => ?_)
                refine lv_goto (tgt := 167) hx hb dX5_goes_337 (by decide) ?_
                exact ih (j + 1) 0 (nI (f j)) (all + ((mS (wu τ 31 (f j) 1) (f j) (taF (σ.1 15 d) j) ly).2)) ch lg (wu (wu (mS (wu τ 31 (f j) 1) (f j) (taF (σ.1 15 d) j) ly).1 24 (201 * (f j) + d) ((mS (wu τ 31 (f j) 1) (f j) (taF (σ.1 15 d) j) ly).2)) 22 (f j) (nI d)) (by omega) (by omega) (by omega) (fun _ => nI_neN (by omega) (by decide)) (fun q => by omega) hch hlg (by rw [gF, ← hτ, glF]; first | (rw [if_pos c_316]; done) | (rw [if_neg c_316]; done)) (by rw [gF, ← hτ, ← hall]; rfl) _ _ I ls (lv_sub hl [3, 4, 5, 1, 0, 6] rfl)
            ·
              refine lv_bipush (v := 15) hx hb dX5_goes_274 (by decide) ?_
              refine lv_goto (tgt := 280) hx hb dX5_goes_276 (by decide) ?_
              refine w_eqi (y := taF (σ.1 15 d) j) (((if_neg (fun z => z.2 (hch0.mp c_262))).trans (if_neg (fun z => c_271 (hlg0.mpr z)))).symm) ?_
              refine w_vi X I hA 14 (by omega) rfl rfl (As := [.int (nI (f j)), .int (taF (σ.1 15 d) j)]) (rest := []) (ctX5_loads l g α N (wu τ 31 (f j) 1) _ (f j) ly (taF (σ.1 15 d) j) hN ((wu_o (by decide)).trans h4) hly (by omega)) (wM_V kmX5_101 ki_X5_loads ks_X5_loads kn_X5 kc_X5_loads) rfl rfl (n := 2) (by decide +kernel) rfl ⟨by decide, by decide⟩ hl.1 rfl (Nat.le_of_ble_eq_true rfl) ⟨Nat.zero_le _, Nat.zero_le _⟩ dX5_goes_280 (fun r_280 τ_280 H locs q_280 I => ?_)
              obtain ⟨rfl, rfl⟩ := q_280
              refine lv_istore (lv' := [(6, .int ((mS (wu τ 31 (f j) 1) (f j) (taF (σ.1 15 d) j) ly).2)), (0, .ref (α 14)), (1, .int ch), (2, .int lg), (3, .int all), (4, .int (nI j)), (5, .int (nI (f j)))]) hx hb dX5_goes_283 hl (by decide) rfl (fun ls hl => ?_)
              refine lv_aload_n hx hb dX5_goes_285 rfl (lv_at hl 1 rfl) ?_
              refine fg5_14 X I (by omega) kfX5_37 dX5_goes_286 ?_
              refine lv_sipush (v := 201) hx hb dX5_goes_289 (by decide) ?_
              refine lv_iload hx hb dX5_goes_292 (lv_at hl 6 rfl) ?_
              refine lv_imul hx hb dX5_goes_294 ?_
              refine w_eqi (y := nI (201 * (f j))) (pk_mul 201 _) ?_
              refine lv_aload_n hx hb dX5_goes_295 rfl (lv_at hl 1 rfl) ?_
              refine fg5_2 X I (by omega) kfX5_76 dX5_goes_296 ?_
              refine w_eqi (y := nI d) ((mS_o _ _ _ (by decide) (by decide) (by decide) _).trans ((wu_o (by decide)).trans h2)) ?_
              refine lv_iadd hx hb dX5_goes_299 ?_
              refine w_eqi (y := nI (201 * (f j) + d)) (nI_add _ _) ?_
              refine lv_iload hx hb dX5_goes_300 (lv_at hl 0 rfl) ?_
              refine w_st X I 24 (by omega) (n := 2010) (k := 201 * (f j) + d) (fun _ _ _ => rfl) rfl (by omega) (by decide) dX5_goes_302 (fun H locs I => ?_)
              refine lv_aload_n hx hb dX5_goes_303 rfl (lv_at hl 1 rfl) ?_
              refine fg5_12 X I (by omega) kfX5_31 dX5_goes_304 ?_
              refine lv_iload hx hb dX5_goes_307 (lv_at hl 6 rfl) ?_
              refine lv_aload_n hx hb dX5_goes_309 rfl (lv_at hl 1 rfl) ?_
              refine fg5_10 X I (by omega) kfX5_25 dX5_goes_310 ?_
              refine lv_iload hx hb dX5_goes_313 (lv_at hl 6 rfl) ?_
              refine w_ld X I 20 (by omega) (n := 10) (k := f j) (fun _ _ _ => rfl) rfl (by omega) (by decide) dX5_goes_315 ?_
              refine w_eqi (y := ((mS (wu τ 31 (f j) 1) (f j) (taF (σ.1 15 d) j) ly).1).1 20 (f j)) (wu_o (by decide)) ?_
              refine lv_if_ne (tgt := 326) hx hb dX5_goes_316 (by decide) (fun c_316 => ?_) (fun c_316 => ?_)
              ·
                refine lv_bipush (v := (-9)) hx hb dX5_goes_326 (by decide) ?_
                refine w_st X I 22 (by omega) (n := 10) (k := f j) (fun _ _ _ => rfl) rfl (by omega) (by decide) dX5_goes_328 (fun H locs I => ?_)
                refine lv_iload_n hx hb dX5_goes_329 rfl (lv_at hl 4 rfl) ?_
                refine lv_iload hx hb dX5_goes_330 (lv_at hl 0 rfl) ?_
                refine lv_iadd hx hb dX5_goes_332 ?_
                refine lv_istore_n (lv' := [(3, .int (all + ((mS (wu τ 31 (f j) 1) (f j) (taF (σ.1 15 d) j) ly).2))), (6, .int ((mS (wu τ 31 (f j) 1) (f j) (taF (σ.1 15 d) j) ly).2)), (0, .ref (α 14)), (1, .int ch), (2, .int lg), (4, .int (nI j)), (5, .int (nI (f j)))]) hx hb dX5_goes_333 rfl hl (by decide) rfl (fun ls hl => ?_)
                refine lv_iinc (v := nI (j + 1)) (lv' := [(4, .int (nI (j + 1))), (3, .int (all + ((mS (wu τ 31 (f j) 1) (f j) (taF (σ.1 15 d) j) ly).2))), (6, .int ((mS (wu τ 31 (f j) 1) (f j) (taF (σ.1 15 d) j) ly).2)), (0, .ref (α 14)), (1, .int ch), (2, .int lg), (5, .int (nI (f j)))]) hx hb dX5_goes_334 hl (k := 5) rfl (nI_1 _) (by decide) rfl (fun ls hl => ?_)
                refine lv_goto (tgt := 167) hx hb dX5_goes_337 (by decide) ?_
                exact ih (j + 1) 0 (nI (f j)) (all + ((mS (wu τ 31 (f j) 1) (f j) (taF (σ.1 15 d) j) ly).2)) ch lg (wu (wu (mS (wu τ 31 (f j) 1) (f j) (taF (σ.1 15 d) j) ly).1 24 (201 * (f j) + d) ((mS (wu τ 31 (f j) 1) (f j) (taF (σ.1 15 d) j) ly).2)) 22 (f j) (-9)) (by omega) (by omega) (by omega) (fun _ => nI_neN (by omega) (by decide)) (fun q => by omega) hch hlg (by rw [gF, ← hτ, glF]; first | (rw [if_pos c_316]; done) | (rw [if_neg c_316]; done)) (by rw [gF, ← hτ, ← hall]; rfl) _ _ I ls (lv_sub hl [3, 4, 5, 1, 0, 6] rfl)
              ·
                refine lv_aload_n hx hb dX5_goes_319 rfl (lv_at hl 1 rfl) ?_
                refine fg5_2 X I (by omega) kfX5_76 dX5_goes_320 ?_
                refine w_eqi (y := ((mS (wu τ 31 (f j) 1) (f j) (taF (σ.1 15 d) j) ly).1).1 14 2) (wu_o (by decide)) ?_
                refine w_eqi (y := nI d) ((mS_o _ _ _ (by decide) (by decide) (by decide) _).trans ((wu_o (by decide)).trans h2)) ?_
                refine lv_goto (tgt := 328) hx hb dX5_goes_323 (by decide) ?_
                refine w_st X I 22 (by omega) (n := 10) (k := f j) (fun _ _ _ => rfl) rfl (by omega) (by decide) dX5_goes_328 (fun H locs I => ?_)
                refine lv_iload_n hx hb dX5_goes_329 rfl (lv_at hl 4 rfl) ?_
                refine lv_iload hx hb dX5_goes_330 (lv_at hl 0 rfl) ?_
                refine lv_iadd hx hb dX5_goes_332 ?_
                refine lv_istore_n (lv' := [(3, .int (all + ((mS (wu τ 31 (f j) 1) (f j) (taF (σ.1 15 d) j) ly).2))), (6, .int ((mS (wu τ 31 (f j) 1) (f j) (taF (σ.1 15 d) j) ly).2)), (0, .ref (α 14)), (1, .int ch), (2, .int lg), (4, .int (nI j)), (5, .int (nI (f j)))]) hx hb dX5_goes_333 rfl hl (by decide) rfl (fun ls hl => ?_)
                refine lv_iinc (v := nI (j + 1)) (lv' := [(4, .int (nI (j + 1))), (3, .int (all + ((mS (wu τ 31 (f j) 1) (f j) (taF (σ.1 15 d) j) ly).2))), (6, .int ((mS (wu τ 31 (f j) 1) (f j) (taF (σ.1 15 d) j) ly).2)), (0, .ref (α 14)), (1, .int ch), (2, .int lg), (5, .int (nI (f j)))]) hx hb dX5_goes_334 hl (k := 5) rfl (nI_1 _) (by decide) rfl (fun ls hl => ?_)
                refine lv_goto (tgt := 167) hx hb dX5_goes_337 (by decide) ?_
                exact ih (j + 1) 0 (nI (f j)) (all + ((mS (wu τ 31 (f j) 1) (f j) (taF (σ.1 15 d) j) ly).2)) ch lg (wu (wu (mS (wu τ 31 (f j) 1) (f j) (taF (σ.1 15 d) j) ly).1 24 (201 * (f j) + d) ((mS (wu τ 31 (f j) 1) (f j) (taF (σ.1 15 d) j) ly).2)) 22 (f j) (nI d)) (by omega) (by omega) (by omega) (fun _ => nI_neN (by omega) (by decide)) (fun q => by omega) hch hlg (by rw [gF, ← hτ, glF]; first | (rw [if_pos c_316]; done) | (rw [if_neg c_316]; done)) (by rw [gF, ← hτ, ← hall]; rfl) _ _ I ls (lv_sub hl [3, 4, 5, 1, 0, 6] rfl)
          ·
            refine lv_bipush (v := 60) hx hb dX5_goes_265 (by decide) ?_
            refine lv_goto (tgt := 280) hx hb dX5_goes_267 (by decide) ?_
            refine w_eqi (y := taF (σ.1 15 d) j) ((if_pos ⟨c_258, fun z => c_262 (hch0.mpr z)⟩).symm) ?_
            refine w_vi X I hA 14 (by omega) rfl rfl (As := [.int (nI (f j)), .int (taF (σ.1 15 d) j)]) (rest := []) (ctX5_loads l g α N (wu τ 31 (f j) 1) _ (f j) ly (taF (σ.1 15 d) j) hN ((wu_o (by decide)).trans h4) hly (by omega)) (wM_V kmX5_101 ki_X5_loads ks_X5_loads kn_X5 kc_X5_loads) rfl rfl (n := 2) (by decide +kernel) rfl ⟨by decide, by decide⟩ hl.1 rfl (Nat.le_of_ble_eq_true rfl) ⟨Nat.zero_le _, Nat.zero_le _⟩ dX5_goes_280 (fun r_280 τ_280 H locs q_280 I => ?_)
            obtain ⟨rfl, rfl⟩ := q_280
            refine lv_istore (lv' := [(6, .int ((mS (wu τ 31 (f j) 1) (f j) (taF (σ.1 15 d) j) ly).2)), (0, .ref (α 14)), (1, .int ch), (2, .int lg), (3, .int all), (4, .int (nI j)), (5, .int (nI (f j)))]) hx hb dX5_goes_283 hl (by decide) rfl (fun ls hl => ?_)
            refine lv_aload_n hx hb dX5_goes_285 rfl (lv_at hl 1 rfl) ?_
            refine fg5_14 X I (by omega) kfX5_37 dX5_goes_286 ?_
            refine lv_sipush (v := 201) hx hb dX5_goes_289 (by decide) ?_
            refine lv_iload hx hb dX5_goes_292 (lv_at hl 6 rfl) ?_
            refine lv_imul hx hb dX5_goes_294 ?_
            refine w_eqi (y := nI (201 * (f j))) (pk_mul 201 _) ?_
            refine lv_aload_n hx hb dX5_goes_295 rfl (lv_at hl 1 rfl) ?_
            refine fg5_2 X I (by omega) kfX5_76 dX5_goes_296 ?_
            refine w_eqi (y := nI d) ((mS_o _ _ _ (by decide) (by decide) (by decide) _).trans ((wu_o (by decide)).trans h2)) ?_
            refine lv_iadd hx hb dX5_goes_299 ?_
            refine w_eqi (y := nI (201 * (f j) + d)) (nI_add _ _) ?_
            refine lv_iload hx hb dX5_goes_300 (lv_at hl 0 rfl) ?_
            refine w_st X I 24 (by omega) (n := 2010) (k := 201 * (f j) + d) (fun _ _ _ => rfl) rfl (by omega) (by decide) dX5_goes_302 (fun H locs I => ?_)
            refine lv_aload_n hx hb dX5_goes_303 rfl (lv_at hl 1 rfl) ?_
            refine fg5_12 X I (by omega) kfX5_31 dX5_goes_304 ?_
            refine lv_iload hx hb dX5_goes_307 (lv_at hl 6 rfl) ?_
            refine lv_aload_n hx hb dX5_goes_309 rfl (lv_at hl 1 rfl) ?_
            refine fg5_10 X I (by omega) kfX5_25 dX5_goes_310 ?_
            refine lv_iload hx hb dX5_goes_313 (lv_at hl 6 rfl) ?_
            refine w_ld X I 20 (by omega) (n := 10) (k := f j) (fun _ _ _ => rfl) rfl (by omega) (by decide) dX5_goes_315 ?_
            refine w_eqi (y := ((mS (wu τ 31 (f j) 1) (f j) (taF (σ.1 15 d) j) ly).1).1 20 (f j)) (wu_o (by decide)) ?_
            refine lv_if_ne (tgt := 326) hx hb dX5_goes_316 (by decide) (fun c_316 => ?_) (fun c_316 => ?_)
            ·
              refine lv_bipush (v := (-9)) hx hb dX5_goes_326 (by decide) ?_
              refine w_st X I 22 (by omega) (n := 10) (k := f j) (fun _ _ _ => rfl) rfl (by omega) (by decide) dX5_goes_328 (fun H locs I => ?_)
              refine lv_iload_n hx hb dX5_goes_329 rfl (lv_at hl 4 rfl) ?_
              refine lv_iload hx hb dX5_goes_330 (lv_at hl 0 rfl) ?_
              refine lv_iadd hx hb dX5_goes_332 ?_
              refine lv_istore_n (lv' := [(3, .int (all + ((mS (wu τ 31 (f j) 1) (f j) (taF (σ.1 15 d) j) ly).2))), (6, .int ((mS (wu τ 31 (f j) 1) (f j) (taF (σ.1 15 d) j) ly).2)), (0, .ref (α 14)), (1, .int ch), (2, .int lg), (4, .int (nI j)), (5, .int (nI (f j)))]) hx hb dX5_goes_333 rfl hl (by decide) rfl (fun ls hl => ?_)
              refine lv_iinc (v := nI (j + 1)) (lv' := [(4, .int (nI (j + 1))), (3, .int (all + ((mS (wu τ 31 (f j) 1) (f j) (taF (σ.1 15 d) j) ly).2))), (6, .int ((mS (wu τ 31 (f j) 1) (f j) (taF (σ.1 15 d) j) ly).2)), (0, .ref (α 14)), (1, .int ch), (2, .int lg), (5, .int (nI (f j)))]) hx hb dX5_goes_334 hl (k := 5) rfl (nI_1 _) (by decide) rfl (fun ls hl => ?_)
              refine lv_goto (tgt := 167) hx hb dX5_goes_337 (by decide) ?_
              exact ih (j + 1) 0 (nI (f j)) (all + ((mS (wu τ 31 (f j) 1) (f j) (taF (σ.1 15 d) j) ly).2)) ch lg (wu (wu (mS (wu τ 31 (f j) 1) (f j) (taF (σ.1 15 d) j) ly).1 24 (201 * (f j) + d) ((mS (wu τ 31 (f j) 1) (f j) (taF (σ.1 15 d) j) ly).2)) 22 (f j) (-9)) (by omega) (by omega) (by omega) (fun _ => nI_neN (by omega) (by decide)) (fun q => by omega) hch hlg (by rw [gF, ← hτ, glF]; first | (rw [if_pos c_316]; done) | (rw [if_neg c_316]; done)) (by rw [gF, ← hτ, ← hall]; rfl) _ _ I ls (lv_sub hl [3, 4, 5, 1, 0, 6] rfl)
            ·
              refine lv_aload_n hx hb dX5_goes_319 rfl (lv_at hl 1 rfl) ?_
              refine fg5_2 X I (by omega) kfX5_76 dX5_goes_320 ?_
              refine w_eqi (y := ((mS (wu τ 31 (f j) 1) (f j) (taF (σ.1 15 d) j) ly).1).1 14 2) (wu_o (by decide)) ?_
              refine w_eqi (y := nI d) ((mS_o _ _ _ (by decide) (by decide) (by decide) _).trans ((wu_o (by decide)).trans h2)) ?_
              refine lv_goto (tgt := 328) hx hb dX5_goes_323 (by decide) ?_
              refine w_st X I 22 (by omega) (n := 10) (k := f j) (fun _ _ _ => rfl) rfl (by omega) (by decide) dX5_goes_328 (fun H locs I => ?_)
              refine lv_iload_n hx hb dX5_goes_329 rfl (lv_at hl 4 rfl) ?_
              refine lv_iload hx hb dX5_goes_330 (lv_at hl 0 rfl) ?_
              refine lv_iadd hx hb dX5_goes_332 ?_
              refine lv_istore_n (lv' := [(3, .int (all + ((mS (wu τ 31 (f j) 1) (f j) (taF (σ.1 15 d) j) ly).2))), (6, .int ((mS (wu τ 31 (f j) 1) (f j) (taF (σ.1 15 d) j) ly).2)), (0, .ref (α 14)), (1, .int ch), (2, .int lg), (4, .int (nI j)), (5, .int (nI (f j)))]) hx hb dX5_goes_333 rfl hl (by decide) rfl (fun ls hl => ?_)
              refine lv_iinc (v := nI (j + 1)) (lv' := [(4, .int (nI (j + 1))), (3, .int (all + ((mS (wu τ 31 (f j) 1) (f j) (taF (σ.1 15 d) j) ly).2))), (6, .int ((mS (wu τ 31 (f j) 1) (f j) (taF (σ.1 15 d) j) ly).2)), (0, .ref (α 14)), (1, .int ch), (2, .int lg), (5, .int (nI (f j)))]) hx hb dX5_goes_334 hl (k := 5) rfl (nI_1 _) (by decide) rfl (fun ls hl => ?_)
              refine lv_goto (tgt := 167) hx hb dX5_goes_337 (by decide) ?_
              exact ih (j + 1) 0 (nI (f j)) (all + ((mS (wu τ 31 (f j) 1) (f j) (taF (σ.1 15 d) j) ly).2)) ch lg (wu (wu (mS (wu τ 31 (f j) 1) (f j) (taF (σ.1 15 d) j) ly).1 24 (201 * (f j) + d) ((mS (wu τ 31 (f j) 1) (f j) (taF (σ.1 15 d) j) ly).2)) 22 (f j) (nI d)) (by omega) (by omega) (by omega) (fun _ => nI_neN (by omega) (by decide)) (fun q => by omega) hch hlg (by rw [gF, ← hτ, glF]; first | (rw [if_pos c_316]; done) | (rw [if_neg c_316]; done)) (by rw [gF, ← hτ, ← hall]; rfl) _ _ I ls (lv_sub hl [3, 4, 5, 1, 0, 6] rfl)
set_option maxHeartbeats 1000000 in
set_option maxRecDepth 100000 in
theorem lpX5_goes_2 {sz : Nat} (n d ly z : Nat) (f : Nat → Nat) (X : wX p s m args c cX5_goes 8 RX5 g) (hsz : s.heap.size = sz) (hr : meth.sig.returnType = (none : Option FieldType)) (hlk : meth.locks = false) (hN : 32 ≤ N) (hn10 : n ≤ 10) (hd200 : d < 200) (hly : ly ≤ 6) (hgo : GO σ f z n d ly) : ∀ (fu : Nat) (k : Nat) (τ : wS), n + 1 ≤ k + fu → k ≤ n → τ = mdS σ d k → ∀ (H : Heap) (locs : List Loc), wI g α N (wA α N sz) s.heap H locs τ → ∀ ls : Array Slot, lv_has ls 8 [(0, .ref (α 14)), (1, .int (nI k))] → W p l e ({ frames := 1, cells := 0, slots := 0, locals := 25 } : Room) s m args below meth c H locs 0 0 (MQ below (va_Qv (fun τ => τ = dyM σ f z n d ly) (wB g α N) (wA α N sz)) args s 0 0 (wA α N sz)) (F0 m 2 ls []) := by
  have hA : ∀ q, s.heap.size ≤ q → wA α N sz q := fun q h => Or.inr (by omega)
  have hx := X.1.1
  have hb := X.1.2.1
  intro fu
  induction fu with
  | zero =>
    intro k τ hfu hk hτ
    exact absurd hfu (by omega)
  | succ fu ih =>
    intro k τ hfu hk hτ H locs I ls hl
    obtain ⟨hn, hd, hz, hki, hsel, hend, hz10⟩ := id hgo
    have h7 : τ.1 14 7 = nI n := by rw [hτ]; exact (mdS_o σ d (by decide) (by decide) (by decide) _).trans hn
    have h2 : τ.1 14 2 = nI d := by rw [hτ]; exact (mdS_o σ d (by decide) (by decide) (by decide) _).trans hd
    have h15 : τ.1 15 d = σ.1 15 d := by rw [hτ]; exact mdS_o σ d (by decide) (by decide) (by decide) _
    refine lv_iload_n hx hb dX5_goes_2 rfl (lv_at hl 1 rfl) ?_
    refine lv_aload_n hx hb dX5_goes_3 rfl (lv_at hl 0 rfl) ?_
    refine fg5_7 X I (by omega) kfX5_79 dX5_goes_4 ?_
    refine w_eqi (y := nI n) h7 ?_
    refine lv_icmp_ge (tgt := 120) hx hb dX5_goes_7 (by decide) (fun c_7 => ?_) (fun c_7 => ?_)
    ·
      have e : k = n := by have := nI_le' c_7 (by omega) (by omega); omega
      refine lv_aload_n hx hb dX5_goes_120 rfl (lv_at hl 0 rfl) ?_
      refine fg5_3 X I (by omega) kfX5_7 dX5_goes_121 ?_
      refine lv_aload_n hx hb dX5_goes_124 rfl (lv_at hl 0 rfl) ?_
      refine fg5_2 X I (by omega) kfX5_76 dX5_goes_125 ?_
      refine w_eqi (y := nI d) h2 ?_
      refine w_ld X I 15 (by omega) (n := 201) (k := d) (fun _ _ _ => rfl) rfl (by omega) (by decide) dX5_goes_128 ?_
      refine w_eqi (y := σ.1 15 d) h15 ?_
      refine lv_iconst (v := 4) hx hb dX5_goes_129 (by decide) ?_
      refine lv_icmp_gt (tgt := 137) hx hb dX5_goes_130 (by decide) (fun c_130 => ?_) (fun c_130 => ?_)
      ·
        refine lv_iconst (v := 0) hx hb dX5_goes_137 (by decide) ?_
        refine lv_istore_n (lv' := [(1, .int 0), (0, .ref (α 14))]) hx hb dX5_goes_138 rfl hl (by decide) rfl (fun ls hl => ?_)
        refine lv_aload_n hx hb dX5_goes_139 rfl (lv_at hl 1 rfl) ?_
        refine fg5_3 X I (by omega) kfX5_7 dX5_goes_140 ?_
        refine lv_aload_n hx hb dX5_goes_143 rfl (lv_at hl 1 rfl) ?_
        refine fg5_2 X I (by omega) kfX5_76 dX5_goes_144 ?_
        refine w_eqi (y := nI d) h2 ?_
        refine w_ld X I 15 (by omega) (n := 201) (k := d) (fun _ _ _ => rfl) rfl (by omega) (by decide) dX5_goes_147 ?_
        refine w_eqi (y := σ.1 15 d) h15 ?_
        refine lv_bipush (v := 7) hx hb dX5_goes_148 (by decide) ?_
        refine lv_icmp_gt (tgt := 157) hx hb dX5_goes_150 (by decide) (fun c_150 => ?_) (fun c_150 => ?_)
        ·
          refine lv_iconst (v := 0) hx hb dX5_goes_157 (by decide) ?_
          refine lv_istore_n (lv' := [(2, .int 0), (1, .int 0), (0, .ref (α 14))]) hx hb dX5_goes_158 rfl hl (by decide) rfl (fun ls hl => ?_)
          refine lv_iconst (v := 0) hx hb dX5_goes_159 (by decide) ?_
          refine lv_istore_n (lv' := [(3, .int 0), (2, .int 0), (1, .int 0), (0, .ref (α 14))]) hx hb dX5_goes_160 rfl hl (by decide) rfl (fun ls hl => ?_)
          refine lv_iconst (v := 0) hx hb dX5_goes_161 (by decide) ?_
          refine lv_istore (lv' := [(4, .int 0), (3, .int 0), (2, .int 0), (1, .int 0), (0, .ref (α 14))]) hx hb dX5_goes_162 hl (by decide) rfl (fun ls hl => ?_)
          refine lv_iconst (v := 0) hx hb dX5_goes_164 (by decide) ?_
          refine lv_istore (lv' := [(5, .int 0), (4, .int 0), (3, .int 0), (2, .int 0), (1, .int 0), (0, .ref (α 14))]) hx hb dX5_goes_165 hl (by decide) rfl (fun ls hl => ?_)
          exact lpX5_goes_167 n d ly z f X hsz hr hlk hN hn10 hd200 hly hgo  (z + 2) 0 0 0 0 0 0 τ (by omega) (by omega) (by omega) (fun _ => by decide) (fun q => by omega) (by first | exact (if_pos c_130).symm | exact (if_neg c_130).symm) (by first | exact (if_pos c_150).symm | exact (if_neg c_150).symm) (by rw [hτ, e]; rfl) rfl _ _ I ls (lv_sub hl [5, 4, 3, 2, 1, 0] rfl)
        ·
          refine lv_iconst (v := 1) hx hb dX5_goes_153 (by decide) ?_
          refine lv_goto (tgt := 158) hx hb dX5_goes_154 (by decide) ?_
          refine lv_istore_n (lv' := [(2, .int 1), (1, .int 0), (0, .ref (α 14))]) hx hb dX5_goes_158 rfl hl (by decide) rfl (fun ls hl => ?_)
          refine lv_iconst (v := 0) hx hb dX5_goes_159 (by decide) ?_
          refine lv_istore_n (lv' := [(3, .int 0), (2, .int 1), (1, .int 0), (0, .ref (α 14))]) hx hb dX5_goes_160 rfl hl (by decide) rfl (fun ls hl => ?_)
          refine lv_iconst (v := 0) hx hb dX5_goes_161 (by decide) ?_
          refine lv_istore (lv' := [(4, .int 0), (3, .int 0), (2, .int 1), (1, .int 0), (0, .ref (α 14))]) hx hb dX5_goes_162 hl (by decide) rfl (fun ls hl => ?_)
          refine lv_iconst (v := 0) hx hb dX5_goes_164 (by decide) ?_
          refine lv_istore (lv' := [(5, .int 0), (4, .int 0), (3, .int 0), (2, .int 1), (1, .int 0), (0, .ref (α 14))]) hx hb dX5_goes_165 hl (by decide) rfl (fun ls hl => ?_)
          exact lpX5_goes_167 n d ly z f X hsz hr hlk hN hn10 hd200 hly hgo  (z + 2) 0 0 0 0 0 1 τ (by omega) (by omega) (by omega) (fun _ => by decide) (fun q => by omega) (by first | exact (if_pos c_130).symm | exact (if_neg c_130).symm) (by first | exact (if_pos c_150).symm | exact (if_neg c_150).symm) (by rw [hτ, e]; rfl) rfl _ _ I ls (lv_sub hl [5, 4, 3, 2, 1, 0] rfl)
      ·
        refine lv_iconst (v := 1) hx hb dX5_goes_133 (by decide) ?_
        refine lv_goto (tgt := 138) hx hb dX5_goes_134 (by decide) ?_
        refine lv_istore_n (lv' := [(1, .int 1), (0, .ref (α 14))]) hx hb dX5_goes_138 rfl hl (by decide) rfl (fun ls hl => ?_)
        refine lv_aload_n hx hb dX5_goes_139 rfl (lv_at hl 1 rfl) ?_
        refine fg5_3 X I (by omega) kfX5_7 dX5_goes_140 ?_
        refine lv_aload_n hx hb dX5_goes_143 rfl (lv_at hl 1 rfl) ?_
        refine fg5_2 X I (by omega) kfX5_76 dX5_goes_144 ?_
        refine w_eqi (y := nI d) h2 ?_
        refine w_ld X I 15 (by omega) (n := 201) (k := d) (fun _ _ _ => rfl) rfl (by omega) (by decide) dX5_goes_147 ?_
        refine w_eqi (y := σ.1 15 d) h15 ?_
        refine lv_bipush (v := 7) hx hb dX5_goes_148 (by decide) ?_
        refine lv_icmp_gt (tgt := 157) hx hb dX5_goes_150 (by decide) (fun c_150 => ?_) (fun c_150 => ?_)
        ·
          refine lv_iconst (v := 0) hx hb dX5_goes_157 (by decide) ?_
          refine lv_istore_n (lv' := [(2, .int 0), (1, .int 1), (0, .ref (α 14))]) hx hb dX5_goes_158 rfl hl (by decide) rfl (fun ls hl => ?_)
          refine lv_iconst (v := 0) hx hb dX5_goes_159 (by decide) ?_
          refine lv_istore_n (lv' := [(3, .int 0), (2, .int 0), (1, .int 1), (0, .ref (α 14))]) hx hb dX5_goes_160 rfl hl (by decide) rfl (fun ls hl => ?_)
          refine lv_iconst (v := 0) hx hb dX5_goes_161 (by decide) ?_
          refine lv_istore (lv' := [(4, .int 0), (3, .int 0), (2, .int 0), (1, .int 1), (0, .ref (α 14))]) hx hb dX5_goes_162 hl (by decide) rfl (fun ls hl => ?_)
          refine lv_iconst (v := 0) hx hb dX5_goes_164 (by decide) ?_
          refine lv_istore (lv' := [(5, .int 0), (4, .int 0), (3, .int 0), (2, .int 0), (1, .int 1), (0, .ref (α 14))]) hx hb dX5_goes_165 hl (by decide) rfl (fun ls hl => ?_)
          exact lpX5_goes_167 n d ly z f X hsz hr hlk hN hn10 hd200 hly hgo  (z + 2) 0 0 0 0 1 0 τ (by omega) (by omega) (by omega) (fun _ => by decide) (fun q => by omega) (by first | exact (if_pos c_130).symm | exact (if_neg c_130).symm) (by first | exact (if_pos c_150).symm | exact (if_neg c_150).symm) (by rw [hτ, e]; rfl) rfl _ _ I ls (lv_sub hl [5, 4, 3, 2, 1, 0] rfl)
        ·
          refine lv_iconst (v := 1) hx hb dX5_goes_153 (by decide) ?_
          refine lv_goto (tgt := 158) hx hb dX5_goes_154 (by decide) ?_
          refine lv_istore_n (lv' := [(2, .int 1), (1, .int 1), (0, .ref (α 14))]) hx hb dX5_goes_158 rfl hl (by decide) rfl (fun ls hl => ?_)
          refine lv_iconst (v := 0) hx hb dX5_goes_159 (by decide) ?_
          refine lv_istore_n (lv' := [(3, .int 0), (2, .int 1), (1, .int 1), (0, .ref (α 14))]) hx hb dX5_goes_160 rfl hl (by decide) rfl (fun ls hl => ?_)
          refine lv_iconst (v := 0) hx hb dX5_goes_161 (by decide) ?_
          refine lv_istore (lv' := [(4, .int 0), (3, .int 0), (2, .int 1), (1, .int 1), (0, .ref (α 14))]) hx hb dX5_goes_162 hl (by decide) rfl (fun ls hl => ?_)
          refine lv_iconst (v := 0) hx hb dX5_goes_164 (by decide) ?_
          refine lv_istore (lv' := [(5, .int 0), (4, .int 0), (3, .int 0), (2, .int 1), (1, .int 1), (0, .ref (α 14))]) hx hb dX5_goes_165 hl (by decide) rfl (fun ls hl => ?_)
          exact lpX5_goes_167 n d ly z f X hsz hr hlk hN hn10 hd200 hly hgo  (z + 2) 0 0 0 0 1 1 τ (by omega) (by omega) (by omega) (fun _ => by decide) (fun q => by omega) (by first | exact (if_pos c_130).symm | exact (if_neg c_130).symm) (by first | exact (if_pos c_150).symm | exact (if_neg c_150).symm) (by rw [hτ, e]; rfl) rfl _ _ I ls (lv_sub hl [5, 4, 3, 2, 1, 0] rfl)
    ·
      have hlt : k < n := by
        rcases Nat.lt_or_ge k n with q | q
        · exact q
        · exact absurd (nI_le q (by omega)) c_7
      refine lv_aload_n hx hb dX5_goes_10 rfl (lv_at hl 0 rfl) ?_
      refine fg5_14 X I (by omega) kfX5_37 dX5_goes_11 ?_
      refine lv_sipush (v := 201) hx hb dX5_goes_14 (by decide) ?_
      refine lv_iload_n hx hb dX5_goes_17 rfl (lv_at hl 1 rfl) ?_
      refine lv_imul hx hb dX5_goes_18 ?_
      refine w_eqi (y := nI (201 * k)) (pk_mul 201 _) ?_
      refine lv_aload_n hx hb dX5_goes_19 rfl (lv_at hl 0 rfl) ?_
      refine fg5_2 X I (by omega) kfX5_76 dX5_goes_20 ?_
      refine w_eqi (y := nI d) h2 ?_
      refine lv_iadd hx hb dX5_goes_23 ?_
      refine w_eqi (y := nI (201 * k + d)) (nI_add _ _) ?_
      refine lv_iconst (v := 0) hx hb dX5_goes_24 (by decide) ?_
      refine w_st X I 24 (by omega) (n := 2010) (k := 201 * k + d) (fun _ _ _ => rfl) rfl (by omega) (by decide) dX5_goes_25 (fun H locs I => ?_)
      refine lv_aload_n hx hb dX5_goes_26 rfl (lv_at hl 0 rfl) ?_
      refine lv_iload_n hx hb dX5_goes_27 rfl (lv_at hl 1 rfl) ?_
      refine w_vSi X I 14 (by omega) rfl rfl (As := [.int (nI k)]) (rest := []) (ctX5_isLoaded l g α N (wu τ 24 (201 * k + d) 0) k hN (by omega)) (wM_V kmX5_98 ki_X5_isLoaded ks_X5_isLoaded kn_X5 kc_X5_isLoaded) rfl rfl (n := 1) (by decide +kernel) rfl ⟨by decide, by decide⟩ hl.1 rfl (Nat.le_of_ble_eq_true rfl) ⟨Nat.zero_le _, Nat.zero_le _⟩ dX5_goes_28 (fun r_28 q_28 => ?_)
      by_cases p_28 : ¬ τ.1 22 k = (-9)
      ·
        obtain rfl : r_28 = 1 := Eq.trans q_28 (if_pos p_28)
        refine lv_if_ne (tgt := 86) hx hb dX5_goes_31 (by decide) (fun _ => ?_) (fun cc => absurd cc (by decide))
        refine lv_aload_n hx hb dX5_goes_86 rfl (lv_at hl 0 rfl) ?_
        refine fg5_24 X I (by omega) kfX5_62 dX5_goes_87 ?_
        refine lv_iload_n hx hb dX5_goes_90 rfl (lv_at hl 1 rfl) ?_
        refine lv_aload_n hx hb dX5_goes_91 rfl (lv_at hl 0 rfl) ?_
        refine lv_iload_n hx hb dX5_goes_92 rfl (lv_at hl 1 rfl) ?_
        refine w_vSi X I 14 (by omega) rfl rfl (As := [.int (nI k)]) (rest := [.int (nI k), .ref (α 31)]) (ctX5_isLoaded l g α N (wu τ 24 (201 * k + d) 0) k hN (by omega)) (wM_V kmX5_98 ki_X5_isLoaded ks_X5_isLoaded kn_X5 kc_X5_isLoaded) rfl rfl (n := 1) (by decide +kernel) rfl ⟨by decide, by decide⟩ hl.1 rfl (Nat.le_of_ble_eq_true rfl) ⟨Nat.zero_le _, Nat.zero_le _⟩ dX5_goes_93 (fun r_93 q_93 => ?_)
        obtain rfl : r_93 = 1 := Eq.trans q_93 (if_pos p_28)
        refine lv_if_ne (tgt := 108) hx hb dX5_goes_96 (by decide) (fun _ => ?_) (fun cc => absurd cc (by decide))
        refine lv_iconst (v := 1) hx hb dX5_goes_108 (by decide) ?_
        refine lv_goto (tgt := 113) hx hb dX5_goes_109 (by decide) ?_
        refine w_stz X I 31 (by omega) (n := 10) (k := k) (fun _ _ _ => rfl) rfl (by omega) (by decide) rfl dX5_goes_113 (fun H locs I => ?_)
        refine lv_iinc (v := nI (k + 1)) (lv' := [(1, .int (nI (k + 1))), (0, .ref (α 14))]) hx hb dX5_goes_114 hl (k := 1) rfl (nI_1 _) (by decide) rfl (fun ls hl => ?_)
        refine lv_goto (tgt := 2) hx hb dX5_goes_117 (by decide) ?_
        exact ih (k + 1) (wu (wu τ 24 (201 * k + d) 0) 31 k 1) (by omega) (by omega) (by rw [mdS, ← hτ, mdF]; first | (rw [if_pos p_28]; done) | (rw [if_neg p_28, if_pos c_47, if_pos c_77]; done) | (rw [if_neg p_28, if_pos c_47, if_neg c_77]; done) | (rw [if_neg p_28, if_neg c_47, if_pos c_77]; done) | (rw [if_neg p_28, if_neg c_47, if_neg c_77]; done)) _ _ I ls (lv_sub hl [1, 0] rfl)
      ·
        obtain rfl : r_28 = 0 := Eq.trans q_28 (if_neg p_28)
        refine lv_if_ne (tgt := 86) hx hb dX5_goes_31 (by decide) (fun cc => absurd cc (by decide)) (fun _ => ?_)
        refine lv_aload_n hx hb dX5_goes_34 rfl (lv_at hl 0 rfl) ?_
        refine fg5_11 X I (by omega) kfX5_28 dX5_goes_35 ?_
        refine lv_iload_n hx hb dX5_goes_38 rfl (lv_at hl 1 rfl) ?_
        refine lv_dup2_11 hx hb dX5_goes_39 rfl rfl ?_
        refine w_ld X I 21 (by omega) (n := 10) (k := k) (fun _ _ _ => rfl) rfl (by omega) (by decide) dX5_goes_40 ?_
        refine w_eqi (y := τ.1 21 k) (wu_o (by decide)) ?_
        refine lv_aload_n hx hb dX5_goes_41 rfl (lv_at hl 0 rfl) ?_
        refine fg5_11 X I (by omega) kfX5_28 dX5_goes_42 ?_
        refine lv_iload_n hx hb dX5_goes_45 rfl (lv_at hl 1 rfl) ?_
        refine w_ld X I 21 (by omega) (n := 10) (k := k) (fun _ _ _ => rfl) rfl (by omega) (by decide) dX5_goes_46 ?_
        refine w_eqi (y := τ.1 21 k) (wu_o (by decide)) ?_
        refine lv_if_le (tgt := 54) hx hb dX5_goes_47 (by decide) (fun c_47 => ?_) (fun c_47 => ?_)
        ·
          refine lv_iconst (v := 0) hx hb dX5_goes_54 (by decide) ?_
          refine lv_isub hx hb dX5_goes_55 ?_
          refine w_st X I 21 (by omega) (n := 10) (k := k) (fun _ _ _ => rfl) rfl (by omega) (by decide) dX5_goes_56 (fun H locs I => ?_)
          refine lv_aload_n hx hb dX5_goes_57 rfl (lv_at hl 0 rfl) ?_
          refine fg5_14 X I (by omega) kfX5_37 dX5_goes_58 ?_
          refine lv_sipush (v := 201) hx hb dX5_goes_61 (by decide) ?_
          refine lv_iload_n hx hb dX5_goes_64 rfl (lv_at hl 1 rfl) ?_
          refine lv_imul hx hb dX5_goes_65 ?_
          refine w_eqi (y := nI (201 * k)) (pk_mul 201 _) ?_
          refine lv_aload_n hx hb dX5_goes_66 rfl (lv_at hl 0 rfl) ?_
          refine fg5_2 X I (by omega) kfX5_76 dX5_goes_67 ?_
          refine w_eqi (y := τ.1 14 2) ((wu_o (by decide)).trans (wu_o (by decide))) ?_
          refine w_eqi (y := nI d) h2 ?_
          refine lv_iadd hx hb dX5_goes_70 ?_
          refine w_eqi (y := nI (201 * k + d)) (nI_add _ _) ?_
          refine lv_aload_n hx hb dX5_goes_71 rfl (lv_at hl 0 rfl) ?_
          refine fg5_11 X I (by omega) kfX5_28 dX5_goes_72 ?_
          refine lv_iload_n hx hb dX5_goes_75 rfl (lv_at hl 1 rfl) ?_
          refine w_ld X I 21 (by omega) (n := 10) (k := k) (fun _ _ _ => rfl) rfl (by omega) (by decide) dX5_goes_76 ?_
          refine w_eqi (y := (τ.1 21 k) - 0) wu_s ?_
          refine lv_if_ne (tgt := 84) hx hb dX5_goes_77 (by decide) (fun c_77 => ?_) (fun c_77 => ?_)
          ·
            refine lv_iconst (v := 0) hx hb dX5_goes_84 (by decide) ?_
            refine w_st X I 24 (by omega) (n := 2010) (k := 201 * k + d) (fun _ _ _ => rfl) rfl (by omega) (by decide) dX5_goes_85 (fun H locs I => ?_)
            refine lv_aload_n hx hb dX5_goes_86 rfl (lv_at hl 0 rfl) ?_
            refine fg5_24 X I (by omega) kfX5_62 dX5_goes_87 ?_
            refine lv_iload_n hx hb dX5_goes_90 rfl (lv_at hl 1 rfl) ?_
            refine lv_aload_n hx hb dX5_goes_91 rfl (lv_at hl 0 rfl) ?_
            refine lv_iload_n hx hb dX5_goes_92 rfl (lv_at hl 1 rfl) ?_
            refine w_vSi X I 14 (by omega) rfl rfl (As := [.int (nI k)]) (rest := [.int (nI k), .ref (α 31)]) (ctX5_isLoaded l g α N (wu (wu (wu τ 24 (201 * k + d) 0) 21 k ((τ.1 21 k) - 0)) 24 (201 * k + d) 0) k hN (by omega)) (wM_V kmX5_98 ki_X5_isLoaded ks_X5_isLoaded kn_X5 kc_X5_isLoaded) rfl rfl (n := 1) (by decide +kernel) rfl ⟨by decide, by decide⟩ hl.1 rfl (Nat.le_of_ble_eq_true rfl) ⟨Nat.zero_le _, Nat.zero_le _⟩ dX5_goes_93 (fun r_93 q_93 => ?_)
            obtain rfl : r_93 = 0 := Eq.trans q_93 (if_neg p_28)
            refine lv_if_ne (tgt := 108) hx hb dX5_goes_96 (by decide) (fun cc => absurd cc (by decide)) (fun _ => ?_)
            refine lv_aload_n hx hb dX5_goes_99 rfl (lv_at hl 0 rfl) ?_
            refine fg5_11 X I (by omega) kfX5_28 dX5_goes_100 ?_
            refine lv_iload_n hx hb dX5_goes_103 rfl (lv_at hl 1 rfl) ?_
            refine w_ld X I 21 (by omega) (n := 10) (k := k) (fun _ _ _ => rfl) rfl (by omega) (by decide) dX5_goes_104 ?_
            refine w_eqi (y := (τ.1 21 k) - 0) ((wu_o (by decide)).trans (wu_s)) ?_
            refine lv_if_ne (tgt := 112) hx hb dX5_goes_105 (by decide) (fun _ => ?_) (fun cc => absurd cc c_77)
            refine lv_iconst (v := 0) hx hb dX5_goes_112 (by decide) ?_
            refine w_stz X I 31 (by omega) (n := 10) (k := k) (fun _ _ _ => rfl) rfl (by omega) (by decide) rfl dX5_goes_113 (fun H locs I => ?_)
            refine lv_iinc (v := nI (k + 1)) (lv' := [(1, .int (nI (k + 1))), (0, .ref (α 14))]) hx hb dX5_goes_114 hl (k := 1) rfl (nI_1 _) (by decide) rfl (fun ls hl => ?_)
            refine lv_goto (tgt := 2) hx hb dX5_goes_117 (by decide) ?_
            exact ih (k + 1) (wu (wu (wu (wu τ 24 (201 * k + d) 0) 21 k ((τ.1 21 k) - 0)) 24 (201 * k + d) 0) 31 k 0) (by omega) (by omega) (by rw [mdS, ← hτ, mdF]; first | (rw [if_pos p_28]; done) | (rw [if_neg p_28, if_pos c_47, if_pos c_77]; done) | (rw [if_neg p_28, if_pos c_47, if_neg c_77]; done) | (rw [if_neg p_28, if_neg c_47, if_pos c_77]; done) | (rw [if_neg p_28, if_neg c_47, if_neg c_77]; done)) _ _ I ls (lv_sub hl [1, 0] rfl)
          ·
            refine lv_iconst (v := (-1)) hx hb dX5_goes_80 (by decide) ?_
            refine lv_goto (tgt := 85) hx hb dX5_goes_81 (by decide) ?_
            refine w_st X I 24 (by omega) (n := 2010) (k := 201 * k + d) (fun _ _ _ => rfl) rfl (by omega) (by decide) dX5_goes_85 (fun H locs I => ?_)
            refine lv_aload_n hx hb dX5_goes_86 rfl (lv_at hl 0 rfl) ?_
            refine fg5_24 X I (by omega) kfX5_62 dX5_goes_87 ?_
            refine lv_iload_n hx hb dX5_goes_90 rfl (lv_at hl 1 rfl) ?_
            refine lv_aload_n hx hb dX5_goes_91 rfl (lv_at hl 0 rfl) ?_
            refine lv_iload_n hx hb dX5_goes_92 rfl (lv_at hl 1 rfl) ?_
            refine w_vSi X I 14 (by omega) rfl rfl (As := [.int (nI k)]) (rest := [.int (nI k), .ref (α 31)]) (ctX5_isLoaded l g α N (wu (wu (wu τ 24 (201 * k + d) 0) 21 k ((τ.1 21 k) - 0)) 24 (201 * k + d) (-1)) k hN (by omega)) (wM_V kmX5_98 ki_X5_isLoaded ks_X5_isLoaded kn_X5 kc_X5_isLoaded) rfl rfl (n := 1) (by decide +kernel) rfl ⟨by decide, by decide⟩ hl.1 rfl (Nat.le_of_ble_eq_true rfl) ⟨Nat.zero_le _, Nat.zero_le _⟩ dX5_goes_93 (fun r_93 q_93 => ?_)
            obtain rfl : r_93 = 0 := Eq.trans q_93 (if_neg p_28)
            refine lv_if_ne (tgt := 108) hx hb dX5_goes_96 (by decide) (fun cc => absurd cc (by decide)) (fun _ => ?_)
            refine lv_aload_n hx hb dX5_goes_99 rfl (lv_at hl 0 rfl) ?_
            refine fg5_11 X I (by omega) kfX5_28 dX5_goes_100 ?_
            refine lv_iload_n hx hb dX5_goes_103 rfl (lv_at hl 1 rfl) ?_
            refine w_ld X I 21 (by omega) (n := 10) (k := k) (fun _ _ _ => rfl) rfl (by omega) (by decide) dX5_goes_104 ?_
            refine w_eqi (y := (τ.1 21 k) - 0) ((wu_o (by decide)).trans (wu_s)) ?_
            refine lv_if_ne (tgt := 112) hx hb dX5_goes_105 (by decide) (fun cc => absurd c_77 cc) (fun _ => ?_)
            refine lv_iconst (v := 1) hx hb dX5_goes_108 (by decide) ?_
            refine lv_goto (tgt := 113) hx hb dX5_goes_109 (by decide) ?_
            refine w_stz X I 31 (by omega) (n := 10) (k := k) (fun _ _ _ => rfl) rfl (by omega) (by decide) rfl dX5_goes_113 (fun H locs I => ?_)
            refine lv_iinc (v := nI (k + 1)) (lv' := [(1, .int (nI (k + 1))), (0, .ref (α 14))]) hx hb dX5_goes_114 hl (k := 1) rfl (nI_1 _) (by decide) rfl (fun ls hl => ?_)
            refine lv_goto (tgt := 2) hx hb dX5_goes_117 (by decide) ?_
            exact ih (k + 1) (wu (wu (wu (wu τ 24 (201 * k + d) 0) 21 k ((τ.1 21 k) - 0)) 24 (201 * k + d) (-1)) 31 k 1) (by omega) (by omega) (by rw [mdS, ← hτ, mdF]; first | (rw [if_pos p_28]; done) | (rw [if_neg p_28, if_pos c_47, if_pos c_77]; done) | (rw [if_neg p_28, if_pos c_47, if_neg c_77]; done) | (rw [if_neg p_28, if_neg c_47, if_pos c_77]; done) | (rw [if_neg p_28, if_neg c_47, if_neg c_77]; done)) _ _ I ls (lv_sub hl [1, 0] rfl)
        ·
          refine lv_iconst (v := 1) hx hb dX5_goes_50 (by decide) ?_
          refine lv_goto (tgt := 55) hx hb dX5_goes_51 (by decide) ?_
          refine lv_isub hx hb dX5_goes_55 ?_
          refine w_st X I 21 (by omega) (n := 10) (k := k) (fun _ _ _ => rfl) rfl (by omega) (by decide) dX5_goes_56 (fun H locs I => ?_)
          refine lv_aload_n hx hb dX5_goes_57 rfl (lv_at hl 0 rfl) ?_
          refine fg5_14 X I (by omega) kfX5_37 dX5_goes_58 ?_
          refine lv_sipush (v := 201) hx hb dX5_goes_61 (by decide) ?_
          refine lv_iload_n hx hb dX5_goes_64 rfl (lv_at hl 1 rfl) ?_
          refine lv_imul hx hb dX5_goes_65 ?_
          refine w_eqi (y := nI (201 * k)) (pk_mul 201 _) ?_
          refine lv_aload_n hx hb dX5_goes_66 rfl (lv_at hl 0 rfl) ?_
          refine fg5_2 X I (by omega) kfX5_76 dX5_goes_67 ?_
          refine w_eqi (y := τ.1 14 2) ((wu_o (by decide)).trans (wu_o (by decide))) ?_
          refine w_eqi (y := nI d) h2 ?_
          refine lv_iadd hx hb dX5_goes_70 ?_
          refine w_eqi (y := nI (201 * k + d)) (nI_add _ _) ?_
          refine lv_aload_n hx hb dX5_goes_71 rfl (lv_at hl 0 rfl) ?_
          refine fg5_11 X I (by omega) kfX5_28 dX5_goes_72 ?_
          refine lv_iload_n hx hb dX5_goes_75 rfl (lv_at hl 1 rfl) ?_
          refine w_ld X I 21 (by omega) (n := 10) (k := k) (fun _ _ _ => rfl) rfl (by omega) (by decide) dX5_goes_76 ?_
          refine w_eqi (y := (τ.1 21 k) - 1) wu_s ?_
          refine lv_if_ne (tgt := 84) hx hb dX5_goes_77 (by decide) (fun c_77 => ?_) (fun c_77 => ?_)
          ·
            refine lv_iconst (v := 0) hx hb dX5_goes_84 (by decide) ?_
            refine w_st X I 24 (by omega) (n := 2010) (k := 201 * k + d) (fun _ _ _ => rfl) rfl (by omega) (by decide) dX5_goes_85 (fun H locs I => ?_)
            refine lv_aload_n hx hb dX5_goes_86 rfl (lv_at hl 0 rfl) ?_
            refine fg5_24 X I (by omega) kfX5_62 dX5_goes_87 ?_
            refine lv_iload_n hx hb dX5_goes_90 rfl (lv_at hl 1 rfl) ?_
            refine lv_aload_n hx hb dX5_goes_91 rfl (lv_at hl 0 rfl) ?_
            refine lv_iload_n hx hb dX5_goes_92 rfl (lv_at hl 1 rfl) ?_
            refine w_vSi X I 14 (by omega) rfl rfl (As := [.int (nI k)]) (rest := [.int (nI k), .ref (α 31)]) (ctX5_isLoaded l g α N (wu (wu (wu τ 24 (201 * k + d) 0) 21 k ((τ.1 21 k) - 1)) 24 (201 * k + d) 0) k hN (by omega)) (wM_V kmX5_98 ki_X5_isLoaded ks_X5_isLoaded kn_X5 kc_X5_isLoaded) rfl rfl (n := 1) (by decide +kernel) rfl ⟨by decide, by decide⟩ hl.1 rfl (Nat.le_of_ble_eq_true rfl) ⟨Nat.zero_le _, Nat.zero_le _⟩ dX5_goes_93 (fun r_93 q_93 => ?_)
            obtain rfl : r_93 = 0 := Eq.trans q_93 (if_neg p_28)
            refine lv_if_ne (tgt := 108) hx hb dX5_goes_96 (by decide) (fun cc => absurd cc (by decide)) (fun _ => ?_)
            refine lv_aload_n hx hb dX5_goes_99 rfl (lv_at hl 0 rfl) ?_
            refine fg5_11 X I (by omega) kfX5_28 dX5_goes_100 ?_
            refine lv_iload_n hx hb dX5_goes_103 rfl (lv_at hl 1 rfl) ?_
            refine w_ld X I 21 (by omega) (n := 10) (k := k) (fun _ _ _ => rfl) rfl (by omega) (by decide) dX5_goes_104 ?_
            refine w_eqi (y := (τ.1 21 k) - 1) ((wu_o (by decide)).trans (wu_s)) ?_
            refine lv_if_ne (tgt := 112) hx hb dX5_goes_105 (by decide) (fun _ => ?_) (fun cc => absurd cc c_77)
            refine lv_iconst (v := 0) hx hb dX5_goes_112 (by decide) ?_
            refine w_stz X I 31 (by omega) (n := 10) (k := k) (fun _ _ _ => rfl) rfl (by omega) (by decide) rfl dX5_goes_113 (fun H locs I => ?_)
            refine lv_iinc (v := nI (k + 1)) (lv' := [(1, .int (nI (k + 1))), (0, .ref (α 14))]) hx hb dX5_goes_114 hl (k := 1) rfl (nI_1 _) (by decide) rfl (fun ls hl => ?_)
            refine lv_goto (tgt := 2) hx hb dX5_goes_117 (by decide) ?_
            exact ih (k + 1) (wu (wu (wu (wu τ 24 (201 * k + d) 0) 21 k ((τ.1 21 k) - 1)) 24 (201 * k + d) 0) 31 k 0) (by omega) (by omega) (by rw [mdS, ← hτ, mdF]; first | (rw [if_pos p_28]; done) | (rw [if_neg p_28, if_pos c_47, if_pos c_77]; done) | (rw [if_neg p_28, if_pos c_47, if_neg c_77]; done) | (rw [if_neg p_28, if_neg c_47, if_pos c_77]; done) | (rw [if_neg p_28, if_neg c_47, if_neg c_77]; done)) _ _ I ls (lv_sub hl [1, 0] rfl)
          ·
            refine lv_iconst (v := (-1)) hx hb dX5_goes_80 (by decide) ?_
            refine lv_goto (tgt := 85) hx hb dX5_goes_81 (by decide) ?_
            refine w_st X I 24 (by omega) (n := 2010) (k := 201 * k + d) (fun _ _ _ => rfl) rfl (by omega) (by decide) dX5_goes_85 (fun H locs I => ?_)
            refine lv_aload_n hx hb dX5_goes_86 rfl (lv_at hl 0 rfl) ?_
            refine fg5_24 X I (by omega) kfX5_62 dX5_goes_87 ?_
            refine lv_iload_n hx hb dX5_goes_90 rfl (lv_at hl 1 rfl) ?_
            refine lv_aload_n hx hb dX5_goes_91 rfl (lv_at hl 0 rfl) ?_
            refine lv_iload_n hx hb dX5_goes_92 rfl (lv_at hl 1 rfl) ?_
            refine w_vSi X I 14 (by omega) rfl rfl (As := [.int (nI k)]) (rest := [.int (nI k), .ref (α 31)]) (ctX5_isLoaded l g α N (wu (wu (wu τ 24 (201 * k + d) 0) 21 k ((τ.1 21 k) - 1)) 24 (201 * k + d) (-1)) k hN (by omega)) (wM_V kmX5_98 ki_X5_isLoaded ks_X5_isLoaded kn_X5 kc_X5_isLoaded) rfl rfl (n := 1) (by decide +kernel) rfl ⟨by decide, by decide⟩ hl.1 rfl (Nat.le_of_ble_eq_true rfl) ⟨Nat.zero_le _, Nat.zero_le _⟩ dX5_goes_93 (fun r_93 q_93 => ?_)
            obtain rfl : r_93 = 0 := Eq.trans q_93 (if_neg p_28)
            refine lv_if_ne (tgt := 108) hx hb dX5_goes_96 (by decide) (fun cc => absurd cc (by decide)) (fun _ => ?_)
            refine lv_aload_n hx hb dX5_goes_99 rfl (lv_at hl 0 rfl) ?_
            refine fg5_11 X I (by omega) kfX5_28 dX5_goes_100 ?_
            refine lv_iload_n hx hb dX5_goes_103 rfl (lv_at hl 1 rfl) ?_
            refine w_ld X I 21 (by omega) (n := 10) (k := k) (fun _ _ _ => rfl) rfl (by omega) (by decide) dX5_goes_104 ?_
            refine w_eqi (y := (τ.1 21 k) - 1) ((wu_o (by decide)).trans (wu_s)) ?_
            refine lv_if_ne (tgt := 112) hx hb dX5_goes_105 (by decide) (fun cc => absurd c_77 cc) (fun _ => ?_)
            refine lv_iconst (v := 1) hx hb dX5_goes_108 (by decide) ?_
            refine lv_goto (tgt := 113) hx hb dX5_goes_109 (by decide) ?_
            refine w_stz X I 31 (by omega) (n := 10) (k := k) (fun _ _ _ => rfl) rfl (by omega) (by decide) rfl dX5_goes_113 (fun H locs I => ?_)
            refine lv_iinc (v := nI (k + 1)) (lv' := [(1, .int (nI (k + 1))), (0, .ref (α 14))]) hx hb dX5_goes_114 hl (k := 1) rfl (nI_1 _) (by decide) rfl (fun ls hl => ?_)
            refine lv_goto (tgt := 2) hx hb dX5_goes_117 (by decide) ?_
            exact ih (k + 1) (wu (wu (wu (wu τ 24 (201 * k + d) 0) 21 k ((τ.1 21 k) - 1)) 24 (201 * k + d) (-1)) 31 k 1) (by omega) (by omega) (by rw [mdS, ← hτ, mdF]; first | (rw [if_pos p_28]; done) | (rw [if_neg p_28, if_pos c_47, if_pos c_77]; done) | (rw [if_neg p_28, if_pos c_47, if_neg c_77]; done) | (rw [if_neg p_28, if_neg c_47, if_pos c_77]; done) | (rw [if_neg p_28, if_neg c_47, if_neg c_77]; done)) _ _ I ls (lv_sub hl [1, 0] rfl)
set_option maxHeartbeats 1000000 in
set_option maxRecDepth 100000 in
theorem ctX5_goes (l : Launch) (g : wG) (α : Nat → Nat) (N : Nat) (σ : wS) (sz : Nat) (n d ly z : Nat) (f : Nat → Nat) (hN : 32 ≤ N) (hn10 : n ≤ 10) (hd200 : d < 200) (hly : ly ≤ 6) (hgo : GO σ f z n d ly) : Met l yX5_goes (wM yX5_goes cX5_goes 8 (none : Option FieldType)) ({ frames := 1, cells := 0, slots := 0, locals := 25 } : Room) (wPs g α N sz σ [.ref (α 14)]) (va_Qv (fun τ => τ = dyM σ f z n d ly) (wB g α N) (wA α N sz)) 0 0 (wA α N sz) := by
  refine w_enter (by decide) (Nat.le_of_ble_eq_true rfl) (fun p e s m args below meth c hsz X I hr hlk ls hl => ?_)
  have hA : ∀ q, s.heap.size ≤ q → wA α N sz q := fun q h => Or.inr (by omega)
  have hx := X.1.1
  have hb := X.1.2.1
  have hl : lv_has ls 8 [(0, .ref (α 14))] := hl
  refine lv_iconst (v := 0) hx hb dX5_goes_0 (by decide) ?_
  refine lv_istore_n (lv' := [(1, .int 0), (0, .ref (α 14))]) hx hb dX5_goes_1 rfl hl (by decide) rfl (fun ls hl => ?_)
  exact lpX5_goes_2 n d ly z f X hsz hr hlk hN hn10 hd200 hly hgo  (n + 1) 0 σ (by omega) (by omega) rfl _ _ I ls (lv_sub hl [1, 0] rfl)
end
section
variable {l : Launch} {g : wG} {α : Nat → Nat} {N : Nat} {σ : wS} {p : Program} {e : Env} {s : State} {m : MethodId} {args : Array Value} {below : List Frame} {meth : Method} {c : Code}
set_option maxHeartbeats 1000000 in
set_option maxRecDepth 100000 in
theorem lpX5_days_34 {sz : Nat} (b : Int32) (n d ly : Nat) (ms : Nat → wS) (fs : Nat → Nat → Nat) (zs : Nat → Nat) (X : wX p s m args c cX5_days 3 RX5 g) (hsz : s.heap.size = sz) (hr : meth.sig.returnType = (some FieldType.int)) (hlk : meth.locks = false) (hN : 32 ≤ N) (hn10 : n ≤ 10) (hly : ly ≤ 6) (hd : σ.1 14 2 = nI d) (hd200 : d ≤ 200) (h0 : ms 0 = wu σ 14 0 0) (hst : ∀ m2, b = nI m2 → d + m2 ≤ 200 → ∀ j, j < m2 → GO (ms j) (fs j) (zs j) n (d + j) ly ∧ ms (j + 1) = dyM (ms j) (fs j) (zs j) n (d + j) ly) : ∀ (fu : Nat) (m2 : Nat) (j : Nat) (τ : wS), m2 + 1 ≤ j + fu → b = nI m2 → ¬ b < 1 ∧ ¬ 20 < b → nI d + b ≤ 200 → m2 ≤ 20 ∧ d + m2 ≤ 200 → j ≤ m2 → τ = ms j → τ.1 14 2 = nI (d + j) → ∀ (H : Heap) (locs : List Loc), wI g α N (wA α N sz) s.heap H locs τ → ∀ ls : Array Slot, lv_has ls 3 [(0, .ref (α 14)), (1, .int (nI m2)), (2, .int (nI j))] → W p l e ({ frames := 2, cells := 0, slots := 0, locals := 52 } : Room) s m args below meth c H locs 0 0 (MQ below (va_Qi (fun r τ => (r, τ) = if ¬ b < 1 ∧ ¬ 20 < b then (if nI d + b ≤ 200 then (nI (d + b.toNatClampNeg), ms b.toNatClampNeg) else ((-2), wu σ 14 0 0)) else ((-1), wu σ 14 0 0)) (wB g α N) (wA α N sz)) args s 0 0 (wA α N sz)) (F0 m 34 ls []) := by
  have hA : ∀ q, s.heap.size ≤ q → wA α N sz q := fun q h => Or.inr (by omega)
  have hx := X.1.1
  have hb := X.1.2.1
  intro fu
  induction fu with
  | zero =>
    intro m2 j τ hfu hb2 hp1 hp2 hm hj hτ h2
    exact absurd hfu (by omega)
  | succ fu ih =>
    intro m2 j τ hfu hb2 hp1 hp2 hm hj hτ h2 H locs I ls hl
    refine lv_iload_n hx hb dX5_days_34 rfl (lv_at hl 2 rfl) ?_
    refine lv_iload_n hx hb dX5_days_35 rfl (lv_at hl 1 rfl) ?_
    refine lv_icmp_ge (tgt := 49) hx hb dX5_days_36 (by decide) (fun c_36 => ?_) (fun c_36 => ?_)
    ·
      have e : j = m2 := by have := nI_le' c_36 (by omega) (by omega); omega
      refine lv_aload_n hx hb dX5_days_49 rfl (lv_at hl 0 rfl) ?_
      refine fg5_2 X I (by omega) kfX5_76 dX5_days_50 ?_
      refine w_eqi (y := nI (d + j)) h2 ?_
      exact w_iret X I hr hlk (by first | exact (if_neg p_9).symm | (rw [if_pos p_9, if_neg c_26]; done) | (rw [if_pos hp1, if_pos hp2, hb2, nI_clamp (by omega), hτ, e]; done)) dX5_days_53
    ·
      have hlt : j < m2 := by
        rcases Nat.lt_or_ge j m2 with q | q
        · exact q
        · exact absurd (nI_le q (by omega)) c_36
      have hgo := hst m2 hb2 hm.2 j hlt
      refine lv_aload_n hx hb dX5_days_39 rfl (lv_at hl 0 rfl) ?_
      refine w_vv X I hA 14 (by omega) rfl rfl (As := []) (rest := []) (ctX5_goes l g α N τ _ n (d + j) ly (zs j) (fs j) hN hn10 (by omega) hly (by rw [hτ]; exact hgo.1)) (wM_V kmX5_108 ki_X5_goes ks_X5_goes kn_X5 kc_X5_goes) rfl rfl (n := 0) (by decide +kernel) rfl ⟨by decide, by decide⟩ hl.1 rfl (Nat.le_of_ble_eq_true rfl) ⟨Nat.zero_le _, Nat.zero_le _⟩ dX5_days_40 (fun τ2 H locs q_40 I => ?_)
      replace q_40 : τ2 = dyM τ (fs j) (zs j) n (d + j) ly := q_40
      refine lv_iinc (v := nI (j + 1)) (lv' := [(2, .int (nI (j + 1))), (0, .ref (α 14)), (1, .int (nI m2))]) hx hb dX5_days_43 hl (k := 2) rfl (nI_1 _) (by decide) rfl (fun ls hl => ?_)
      refine lv_goto (tgt := 34) hx hb dX5_days_46 (by decide) ?_
      exact ih m2 (j + 1) τ2 (by omega) hb2 hp1 hp2 hm (by omega) (by rw [q_40, hτ]; exact (hgo.2).symm) (by rw [q_40, dyM]; exact wu_s) _ _ I ls (lv_sub hl [1, 2, 0] rfl)
set_option maxHeartbeats 1000000 in
set_option maxRecDepth 100000 in
theorem ctX5_days (l : Launch) (g : wG) (α : Nat → Nat) (N : Nat) (σ : wS) (sz : Nat) (b : Int32) (n d ly : Nat) (ms : Nat → wS) (fs : Nat → Nat → Nat) (zs : Nat → Nat) (hN : 32 ≤ N) (hn10 : n ≤ 10) (hly : ly ≤ 6) (hd : σ.1 14 2 = nI d) (hd200 : d ≤ 200) (h0 : ms 0 = wu σ 14 0 0) (hst : ∀ m2, b = nI m2 → d + m2 ≤ 200 → ∀ j, j < m2 → GO (ms j) (fs j) (zs j) n (d + j) ly ∧ ms (j + 1) = dyM (ms j) (fs j) (zs j) n (d + j) ly) : Met l yX5_days (wM yX5_days cX5_days 3 (some FieldType.int)) ({ frames := 2, cells := 0, slots := 0, locals := 52 } : Room) (wPs g α N sz σ [.ref (α 14), .int b]) (va_Qi (fun r τ => (r, τ) = if ¬ b < 1 ∧ ¬ 20 < b then (if nI d + b ≤ 200 then (nI (d + b.toNatClampNeg), ms b.toNatClampNeg) else ((-2), wu σ 14 0 0)) else ((-1), wu σ 14 0 0)) (wB g α N) (wA α N sz)) 0 0 (wA α N sz) := by
  refine w_enter (by decide) (Nat.le_of_ble_eq_true rfl) (fun p e s m args below meth c hsz X I hr hlk ls hl => ?_)
  have hA : ∀ q, s.heap.size ≤ q → wA α N sz q := fun q h => Or.inr (by omega)
  have hx := X.1.1
  have hb := X.1.2.1
  have hl : lv_has ls 3 [(0, .ref (α 14)), (1, .int b)] := hl
  refine lv_aload_n hx hb dX5_days_0 rfl (lv_at hl 0 rfl) ?_
  refine lv_iconst (v := 0) hx hb dX5_days_1 (by decide) ?_
  refine fp5_0 X I (by omega) kfX5_66 dX5_days_2 (fun H locs I => ?_)
  refine lv_iload_n hx hb dX5_days_5 rfl (lv_at hl 1 rfl) ?_
  refine lv_iconst (v := 1) hx hb dX5_days_6 (by decide) ?_
  refine lv_bipush (v := 20) hx hb dX5_days_7 (by decide) ?_
  refine w_sSi X I (As := [.int b, .int 1, .int 20]) (rest := []) (ctX5_in l g α N (wu σ 14 0 0) _ _ _ ) (wM_S kmX5_69 kt_X5_in kn_X5 kc_X5_in) rfl rfl (n := 3) (by decide +kernel) rfl ⟨by decide, by decide⟩ hl.1 rfl (Nat.le_of_ble_eq_true rfl) ⟨Nat.zero_le _, Nat.zero_le _⟩ dX5_days_9 (fun r_9 q_9 => ?_)
  by_cases p_9 : ¬ b < 1 ∧ ¬ 20 < b
  ·
    obtain rfl : r_9 = 1 := Eq.trans q_9 (if_pos p_9)
    refine lv_if_ne (tgt := 17) hx hb dX5_days_12 (by decide) (fun _ => ?_) (fun cc => absurd cc (by decide))
    refine lv_aload_n hx hb dX5_days_17 rfl (lv_at hl 0 rfl) ?_
    refine fg5_2 X I (by omega) kfX5_76 dX5_days_18 ?_
    refine w_eqi (y := σ.1 14 2) (wu_d (by decide)) ?_
    refine w_eqi (y := nI d) hd ?_
    refine lv_iload_n hx hb dX5_days_21 rfl (lv_at hl 1 rfl) ?_
    refine lv_iadd hx hb dX5_days_22 ?_
    refine lv_sipush (v := 200) hx hb dX5_days_23 (by decide) ?_
    refine lv_icmp_le (tgt := 32) hx hb dX5_days_26 (by decide) (fun c_26 => ?_) (fun c_26 => ?_)
    ·
      obtain ⟨m2, hm2, rfl⟩ : ∃ m2, m2 ≤ 20 ∧ b = nI m2 := nI_btw (n := 20) (fun z => p_9.1 (Int32.lt_trans z (by decide))) p_9.2 (by decide)
      have hm : d + m2 ≤ 200 := by rw [nI_add] at c_26; exact nI_le' (b := 200) c_26 (by omega) (by decide)
      refine lv_iconst (v := 0) hx hb dX5_days_32 (by decide) ?_
      refine lv_istore_n (lv' := [(2, .int 0), (0, .ref (α 14)), (1, .int (nI m2))]) hx hb dX5_days_33 rfl hl (by decide) rfl (fun ls hl => ?_)
      exact lpX5_days_34 (nI m2) n d ly ms fs zs X hsz hr hlk hN hn10 hly hd hd200 h0 hst  (m2 + 1) m2 0 (wu σ 14 0 0) (by omega) rfl p_9 c_26 (⟨hm2, hm⟩) (by omega) h0.symm hd _ _ I ls (lv_sub hl [1, 2, 0] rfl)
    ·
      refine lv_bipush (v := (-2)) hx hb dX5_days_29 (by decide) ?_
      exact w_iret X I hr hlk (by first | exact (if_neg p_9).symm | (rw [if_pos p_9, if_neg c_26]; done) | (rw [if_pos hp1, if_pos hp2, hb2, nI_clamp (by omega), hτ, e]; done)) dX5_days_31
  ·
    obtain rfl : r_9 = 0 := Eq.trans q_9 (if_neg p_9)
    refine lv_if_ne (tgt := 17) hx hb dX5_days_12 (by decide) (fun cc => absurd cc (by decide)) (fun _ => ?_)
    refine lv_iconst (v := (-1)) hx hb dX5_days_15 (by decide) ?_
    exact w_iret X I hr hlk (by first | exact (if_neg p_9).symm | (rw [if_pos p_9, if_neg c_26]; done) | (rw [if_pos hp1, if_pos hp2, hb2, nI_clamp (by omega), hτ, e]; done)) dX5_days_16
end
