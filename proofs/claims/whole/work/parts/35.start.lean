/-! the law's loop, and its start -/
theorem kls : Cond.laysStatic "RockRoad" "TRACE_OF_KIND" "[I" ∈ lw_tbl := List.mem_of_getElem? (i := 218) (by decide +kernel)
theorem law_end {i L : Nat} (hL : L ≤ 2048) (hi : i ≤ L) (h : ¬ nI L - 4 < nI i) : i + 4 ≤ L := by
  rw [Int32.lt_iff_toInt_lt, show nI L - 4 = nI L - nI 4 from rfl, pk_sub_toInt (by omega) (by decide), nI_toInt (by omega)] at h
  omega
section LAW2
variable {p : Program} {l : Launch} {e : Env} {s : State} {m : MethodId} {below : List Frame} {meth : Method} {c : Code} {b L : Nat} {xs : Nat → Int32} {g : wG} {q0 q14 : Nat}
set_option maxHeartbeats 4000000 in
set_option maxRecDepth 100000 in
theorem law_loop (hL : L ≤ 2048) (C : LX p s m c b L xs g) (hr : meth.sig.returnType = ret) (hlocks : meth.locks = false) :
    ∀ (k i : Nat), i ≤ L → L + 1 ≤ i + k → ∀ (H : Heap) (locs : List Loc), LW g s H locs q0 q14 → ∀ (ls : Array Slot), lv_has ls 4 [(0, .ref b), (1, .ref q0), (2, .ref q14), (3, .int (nI i))] → W p l e room_1 s m #[Value.ref b] below meth c H locs (32 + i) (3955 + 56 * i) (lw_Z below #[Value.ref b] s) (F0 m 18 ls []) := by
  have X := C.1
  have hX := C.2.1
  have hbl := C.2.2.1
  have hx := X.1.1
  have hb := X.1.2.1
  have hbA : ¬ lA s b := Nat.not_le.mpr hbl
  intro k
  induction k with
  | zero =>
    intro i h1 h2
    exact absurd h2 (by omega)
  | succ k ih =>
    intro i hi hik H locs J ls hl
    have hS : va_S (lA s) s.heap H locs := by
      obtain ⟨α, n, σ, d, ly, dr, -, -, I, -⟩ := J
      exact I.2.2
    refine lv_iload_n hx hb dL_law_18 rfl (lv_at hl 3 rfl) ?_
    refine lv_aload_n hx hb dL_law_19 rfl (lv_at hl 0 rfl) ?_
    refine va_slen hx hb hX hbl hbA hS dL_law_20 ?_
    refine lv_iconst (v := 4) hx hb dL_law_21 (by decide) ?_
    refine lv_isub hx hb dL_law_22 ?_
    refine lv_icmp_gt (tgt := 789) hx hb dL_law_23 (by decide) (fun c_23 => ?_) (fun c_23 => ?_)
    · refine lv_iconst (v := 1) hx hb dL_law_789 (by decide) ?_
      refine va_forget (fun q hq => hS.2.2 q hq) ?_
      refine W.widen (k := 600000) (n := 7302250) (by omega) (by omega) ?_
      exact lw_ret hx hb hr hlocks dL_law_790
    · have hi4 : i + 4 ≤ L := law_end hL hi c_23
      have hcs : 32 + i + 4 ≤ room_1.cells ∧ 3955 + 56 * i + 224 ≤ room_1.slots := ⟨Nat.le_trans (show 32 + i + 4 ≤ 2084 by omega) (Nat.le_of_ble_eq_true rfl), Nat.le_trans (show 3955 + 56 * i + 224 ≤ 200000 by omega) (Nat.le_of_ble_eq_true rfl)⟩
      have hk : ∀ (H : Heap) (locs : List Loc), LW g s H locs q0 q14 → W p l e room_1 s m #[Value.ref b] below meth c H locs (32 + i + 4) (3955 + 56 * i + 224) (lw_Z below #[Value.ref b] s) (F0 m 783 ls []) := by
        intro H locs J
        refine lv_iinc (v := nI (i + 4)) (lv' := [(3, .int (nI (i + 4))), (0, .ref b), (1, .ref q0), (2, .ref q14)]) hx hb dL_law_783 hl (k := 3) rfl (nI_add i 4) (by decide) rfl (fun ls hl => ?_)
        refine lv_goto (tgt := 18) hx hb dL_law_786 (by decide) ?_
        refine W.widen (k := 32 + (i + 4)) (n := 3955 + 56 * (i + 4)) (by omega) (by omega) ?_
        exact ih (i + 4) hi4 (by omega) H locs J ls (lv_sub hl [1, 2, 3, 0] rfl)
      refine lv_aload_n hx hb dL_law_26 rfl (lv_at hl 0 rfl) ?_
      refine lv_iload_n hx hb dL_law_27 rfl (lv_at hl 3 rfl) ?_
      refine va_sld hx hb hX hbl hbA hS (vp_in_nI (by omega) (by omega)) dL_law_28 ?_
      refine lv_bipush (v := 31) hx hb dL_law_29 (by decide) ?_
      refine lv_iand hx hb dL_law_31 ?_
      rcases ix2 (xs (nI i).toNatClampNeg &&& 31) (n := 22) (by decide) with z | ⟨k2, hk2, ek⟩
      · refine lv_tableOut (tgt := 783) hx hb dL_law_32 ?_ (by decide) ?_
        · rcases z with z | z
          · left; rw [Int32.lt_iff_toInt_lt] at z; exact z
          · right
            rw [Int32.le_iff_toInt_le, nI_toInt (by decide)] at z
            omega
        · exact W.widen (k := 32 + i + 4) (n := 3955 + 56 * i + 224) (by omega) (by omega) (hk H locs J)
      · refine w_eqi (y := nI k2) ek ?_
        rcases (show k2 = 0 ∨ k2 = 1 ∨ k2 = 2 ∨ k2 = 3 ∨ k2 = 4 ∨ k2 = 5 ∨ k2 = 6 ∨ k2 = 7 ∨ k2 = 8 ∨ k2 = 9 ∨ k2 = 10 ∨ k2 = 11 ∨ k2 = 12 ∨ k2 = 13 ∨ k2 = 14 ∨ k2 = 15 ∨ k2 = 16 ∨ k2 = 17 ∨ k2 = 18 ∨ k2 = 19 ∨ k2 = 20 ∨ k2 = 21 by omega) with rfl | rfl | rfl | rfl | rfl | rfl | rfl | rfl | rfl | rfl | rfl | rfl | rfl | rfl | rfl | rfl | rfl | rfl | rfl | rfl | rfl | rfl
        · refine lv_tableIn (tgt := 136) (off := 104) hx hb dL_law_32 (by decide) (by decide) (by decide +kernel) (by decide) ?_
          exact lk_0 C J hi4 hL hcs hl hk
        · refine lv_tableIn (tgt := 169) (off := 137) hx hb dL_law_32 (by decide) (by decide) (by decide +kernel) (by decide) ?_
          exact lk_1 C J hi4 hL hcs hl hk
        · refine lv_tableIn (tgt := 192) (off := 160) hx hb dL_law_32 (by decide) (by decide) (by decide +kernel) (by decide) ?_
          exact lk_2 C J hi4 hL hcs hl hk
        · refine lv_tableIn (tgt := 225) (off := 193) hx hb dL_law_32 (by decide) (by decide) (by decide +kernel) (by decide) ?_
          exact lk_3 C J hi4 hL hcs hl hk
        · refine lv_tableIn (tgt := 268) (off := 236) hx hb dL_law_32 (by decide) (by decide) (by decide +kernel) (by decide) ?_
          exact lk_4 C J hi4 hL hcs hl hk
        · refine lv_tableIn (tgt := 291) (off := 259) hx hb dL_law_32 (by decide) (by decide) (by decide +kernel) (by decide) ?_
          exact lk_5 C J hi4 hL hcs hl hk
        · refine lv_tableIn (tgt := 314) (off := 282) hx hb dL_law_32 (by decide) (by decide) (by decide +kernel) (by decide) ?_
          exact lk_6 C J hi4 hL hcs hl hk
        · refine lv_tableIn (tgt := 347) (off := 315) hx hb dL_law_32 (by decide) (by decide) (by decide +kernel) (by decide) ?_
          exact lk_7 C J hi4 hL hcs hl hk
        · refine lv_tableIn (tgt := 380) (off := 348) hx hb dL_law_32 (by decide) (by decide) (by decide +kernel) (by decide) ?_
          exact lk_8 C J hi4 hL hcs hl hk
        · refine lv_tableIn (tgt := 413) (off := 381) hx hb dL_law_32 (by decide) (by decide) (by decide +kernel) (by decide) ?_
          exact lk_9 C J hi4 hL hcs hl hk
        · refine lv_tableIn (tgt := 446) (off := 414) hx hb dL_law_32 (by decide) (by decide) (by decide +kernel) (by decide) ?_
          exact lk_10 C J hi4 hL hcs hl hk
        · refine lv_tableIn (tgt := 479) (off := 447) hx hb dL_law_32 (by decide) (by decide) (by decide +kernel) (by decide) ?_
          exact lk_11 C J hi4 hL hcs hl hk
        · refine lv_tableIn (tgt := 542) (off := 510) hx hb dL_law_32 (by decide) (by decide) (by decide +kernel) (by decide) ?_
          exact lk_12 C J hi4 hL hcs hl hk
        · refine lv_tableIn (tgt := 555) (off := 523) hx hb dL_law_32 (by decide) (by decide) (by decide +kernel) (by decide) ?_
          exact lk_13 C J hi4 hL hcs hl hk
        · refine lv_tableIn (tgt := 578) (off := 546) hx hb dL_law_32 (by decide) (by decide) (by decide +kernel) (by decide) ?_
          exact lk_14 C J hi4 hL hcs hl hk
        · refine lv_tableIn (tgt := 611) (off := 579) hx hb dL_law_32 (by decide) (by decide) (by decide +kernel) (by decide) ?_
          exact lk_15 C J hi4 hL hcs hl hk
        · refine lv_tableIn (tgt := 644) (off := 612) hx hb dL_law_32 (by decide) (by decide) (by decide +kernel) (by decide) ?_
          exact lk_16 C J hi4 hL hcs hl hk
        · refine lv_tableIn (tgt := 677) (off := 645) hx hb dL_law_32 (by decide) (by decide) (by decide +kernel) (by decide) ?_
          exact lk_17 C J hi4 hL hcs hl hk
        · refine lv_tableIn (tgt := 700) (off := 668) hx hb dL_law_32 (by decide) (by decide) (by decide +kernel) (by decide) ?_
          exact lk_18 C J hi4 hL hcs hl hk
        · refine lv_tableIn (tgt := 733) (off := 701) hx hb dL_law_32 (by decide) (by decide) (by decide +kernel) (by decide) ?_
          exact lk_19 C J hi4 hL hcs hl hk
        · refine lv_tableIn (tgt := 746) (off := 714) hx hb dL_law_32 (by decide) (by decide) (by decide +kernel) (by decide) ?_
          exact lk_20 C J hi4 hL hcs hl hk
        · refine lv_tableIn (tgt := 769) (off := 737) hx hb dL_law_32 (by decide) (by decide) (by decide +kernel) (by decide) ?_
          exact lk_21 C J hi4 hL hcs hl hk
end LAW2
def al0 (h h5 : Nat) (u v : Nat → Nat) : Nat → Nat := fun i => if i = 0 then h else if i < 14 then u (i - 1) else if i = 14 then h5 else v (i - 15)
def s0 : wS := (fun i => if i = 0 then (fun k => if k = 8 then 20 else 0) else if i = 14 then (fun k => if k = 18 then 20 else 0) else (fun _ => 0), fun _ => 0, fun _ _ => none)
set_option maxRecDepth 100000 in
theorem wld0 (g : wG) (h h5 : Nat) (u v : Nat → Nat) : wld g (al0 h h5 u v) s0 32 = [(h, .inr (4, [.ref (u 0), .ref (u 1), .ref (u 4), .ref (u 5), .ref (u 6), .ref (u 9), .int 0, .int 0, .int 20, .long 0])), ((u 0), .inl (g.2 0, 201, .inl (fun _ => 0))), ((u 1), .inr (1, [.ref (u 2), .ref (u 3), .int 0])), ((u 2), .inl (g.2 0, 6, .inl (fun _ => 0))), ((u 3), .inl (g.2 0, 6, .inl (fun _ => 0))), ((u 4), .inl (g.2 2, 10, .inr (.inr (.inr (.inr (fun _ => none)))))), ((u 5), .inl (g.2 2, 10, .inr (.inr (.inr (.inr (fun _ => none)))))), ((u 6), .inr (0, [.ref (u 7), .ref (u 8), .int 0])), ((u 7), .inl (g.2 0, 30, .inl (fun _ => 0))), ((u 8), .inl (g.2 0, 6, .inl (fun _ => 0))), ((u 9), .inr (2, [.ref (u 10), .ref (u 11), .ref (u 12)])), ((u 10), .inl (g.2 0, 200, .inl (fun _ => 0))), ((u 11), .inl (g.2 0, 200, .inl (fun _ => 0))), ((u 12), .inl (g.2 0, 200, .inl (fun _ => 0)))] ++ [(h5, .inr (5, [.int 0, .long 0, .int 0, .ref (v 0), .int 0, .ref (v 1), .ref (v 2), .int 0, .ref (v 3), .ref (v 4), .ref (v 5), .ref (v 6), .ref (v 7), .ref (v 8), .ref (v 9), .ref (v 10), .ref (v 11), .ref (v 12), .int 20, .int 0, .ref (v 13), .int 0, .ref (v 14), .ref (v 15), .ref (v 16)])), ((v 0), .inl (g.2 0, 201, .inl (fun _ => 0))), ((v 1), .inl (g.2 0, 6, .inl (fun _ => 0))), ((v 2), .inl (g.2 0, 6, .inl (fun _ => 0))), ((v 3), .inl (g.2 0, 10, .inl (fun _ => 0))), ((v 4), .inl (g.2 0, 10, .inl (fun _ => 0))), ((v 5), .inl (g.2 0, 10, .inl (fun _ => 0))), ((v 6), .inl (g.2 0, 10, .inl (fun _ => 0))), ((v 7), .inl (g.2 0, 10, .inl (fun _ => 0))), ((v 8), .inl (g.2 0, 60, .inl (fun _ => 0))), ((v 9), .inl (g.2 0, 2010, .inl (fun _ => 0))), ((v 10), .inl (g.2 0, 201, .inl (fun _ => 0))), ((v 11), .inl (g.2 0, 201, .inl (fun _ => 0))), ((v 12), .inl (g.2 0, 201, .inl (fun _ => 0))), ((v 13), .inl (g.2 0, 30, .inl (fun _ => 0))), ((v 14), .inl (g.2 0, 60, .inl (fun _ => 0))), ((v 15), .inl (g.2 0, 6, .inl (fun _ => 0))), ((v 16), .inl (g.2 1, 10, .inl (fun _ => 0)))] := rfl
theorem Rel0 : Rel s0 s0 0 0 0 0 := by
  refine ⟨⟨by decide, by decide, by decide, by decide⟩, ⟨rfl, rfl, rfl, rfl⟩, ⟨rfl, rfl, rfl, rfl⟩, ⟨rfl, rfl, rfl⟩, ⟨fun _ => rfl, fun j hj => absurd hj (by omega), fun j hj => absurd hj (by omega)⟩, fun j hj => absurd hj (by omega), ⟨fun _ => 0, fun k hk => absurd hk (by omega)⟩, fun i hi => absurd hi (by omega), fun i _ _ => ⟨fun _ _ => ⟨rfl, rfl⟩, fun _ _ => rfl⟩, fun k hk => absurd hk (by omega), fun i j q _ hq => by cases hq⟩
theorem start_g {s : State} {b : Nat} (hts : ∀ w ∈ lw_tbl, w.before #[Value.ref b] s = true) : ∃ g : wG, va_K g.1 vwCl (wtys g) s := by
  have hta : ∀ w ∈ lw_all, w.before #[Value.ref b] s = true := fun w h => hts w (List.mem_filter.mp h).1
  obtain ⟨c0, i0, k0⟩ := u_known (C := RX0) (T := TX0) (N := 3) (n := 3) hta inX0 (hta _ kq_X0)
  obtain ⟨c1, i1, k1⟩ := u_known (C := RX1) (T := TX1) (N := 3) (n := 3) hta inX1 (hta _ kq_X1)
  obtain ⟨c2, i2, k2⟩ := u_known (C := RX2) (T := TX2) (N := 3) (n := 3) hta inX2 (hta _ kq_X2)
  obtain ⟨c3, i3, k3⟩ := u_known (C := RX3) (T := TX3) (N := 10) (n := 10) hta inX3 (hta _ kq_X3)
  obtain ⟨c4, i4, k4⟩ := u_known (C := RX4) (T := TX4) (N := 10) (n := 10) hta inX4 (hta _ kq_X4)
  obtain ⟨c5, i5, k5⟩ := u_known (C := RX5) (T := TX5) (N := 25) (n := 25) hta inX5 (hta _ kq_X5)
  obtain ⟨a0, y0, p0, f0, g0, h0⟩ := Cond.arrayClass_spec (hta _ ka_int)
  obtain ⟨a1, y1, p1, f1, g1, h1⟩ := Cond.arrayClass_spec (hta _ ka_boolean)
  obtain ⟨p2, a2, y2, e2, -, g2, h2, f2⟩ := Cond.arrayOver_spec (hts _ kao)
  refine ⟨((fun k => if k = 0 then c0 else if k = 1 then c1 else if k = 2 then c2 else if k = 3 then c3 else if k = 4 then c4 else c5, fun k => if k = 0 then i0 else if k = 1 then i1 else if k = 2 then i2 else if k = 3 then i3 else if k = 4 then i4 else i5), fun k => if k = 0 then a0 else if k = 1 then a1 else a2), ?_, ?_⟩
  · intro k q hq
    match k, hq with
    | 0, hq => cases hq; exact k0
    | 1, hq => cases hq; exact k1
    | 2, hq => cases hq; exact k2
    | 3, hq => cases hq; exact k3
    | 4, hq => cases hq; exact k4
    | 5, hq => cases hq; exact k5
    | k + 6, hq => simp [vwCl] at hq
  · intro k q hq
    match k, hq with
    | 0, hq => cases hq; exact ⟨fun n z => ⟨fun k h => (by cases h), y0, g0, p0, h0⟩, f0⟩
    | 1, hq => cases hq; exact ⟨fun n z => ⟨fun k h => (by cases h), y1, g1, p1, h1⟩, f1⟩
    | 2, hq => cases hq; exact ⟨fun n z => ⟨fun k h => (by cases h), y2, g2, p2, h2⟩, y2, p2, g2, h2, e2, f2⟩
    | k + 3, hq => simp [wtys] at hq
theorem start_T {s : State} {b : Nat} (hts : ∀ w ∈ lw_tbl, w.before #[Value.ref b] s = true) (hgv : (Jvm.Cond.and given_1 narrow_1).before #[Value.ref b] s = true) : LT s := by
  have hs := flat_of_before _ hgv
  have hA : ∀ a : Nat, a < s.heap.size → ¬ lA s a := fun a h => Nat.not_le.mpr h
  have harr : (Cond.arrayOf (.static "RockRoad" "TRACE_OF_KIND" "[I") .int).before #[Value.ref b] s = true := hs _ (by decide +kernel)
  have hlen : (Cond.eq (.length (.static "RockRoad" "TRACE_OF_KIND" "[I")) (.int 3)).before #[Value.ref b] s = true := hs _ (by decide +kernel)
  have h0 : (Cond.eq (.elem (.static "RockRoad" "TRACE_OF_KIND" "[I") (.int 0)) (.int 1)).before #[Value.ref b] s = true := hs _ (by decide +kernel)
  have h1 : (Cond.eq (.elem (.static "RockRoad" "TRACE_OF_KIND" "[I") (.int 1)) (.int 11)).before #[Value.ref b] s = true := hs _ (by decide +kernel)
  have h2 : (Cond.eq (.elem (.static "RockRoad" "TRACE_OF_KIND" "[I") (.int 2)) (.int 111)).before #[Value.ref b] s = true := hs _ (by decide +kernel)
  obtain ⟨t, ht, hT⟩ := va_Tof (N := 3) (f := fun j => .int (trT j)) (A := lA s) (by decide) harr (va_eqt hlen) (fun j hj => by
    rcases (show j = 0 ∨ j = 1 ∨ j = 2 by omega) with rfl | rfl | rfl
    · exact va_eqt h0
    · exact va_eqt h1
    · exact va_eqt h2) hA
  exact ⟨t, va_Zof (hts _ kls) (hts _ (List.mem_filter.mp kn_X4).1) ht hA, hT⟩
set_option maxHeartbeats 4000000 in
set_option maxRecDepth 100000 in
theorem whole_start {p : Program} {e : Env} {s : State} {m : MethodId} {below : List Frame} {meth : Method} {c : Code} (l : Launch) {b L : Nat} {xs : Nat → Int32} (hL : L ≤ 2048) (C0 : lw_At p s m meth c b L xs) : W p l e room_1 s m #[Value.ref b] below meth c s.heap [] 0 0 (lw_Z below #[Value.ref b] s) (entryFrame m ([Value.ref b] : List Value).toArray 4) := by
  obtain ⟨hx, hb, hr, hml, hown, hts0, hX, hbl, hlocks, hgv⟩ := C0
  have hA : ∀ q : Nat, s.heap.size ≤ q → lA s q := fun _ h => h
  obtain ⟨g, hK⟩ := start_g hts0
  have hLT := start_T hts0 hgv
  have hts : ∀ w ∈ lw_all, w.before #[Value.ref b] s = true := fun w h => hts0 w (List.mem_filter.mp h).1
  have hb : c.code = cL_law := hb
  have hown : s.vm.findClass RL = some m.cls := hown
  have hao : va_AO "RockRoad$Ship" s := va_AO.of (hts0 _ kao)
  have hn15 : va_Nw (.methodLinkNest RX4 15 yX1_init "RockRoad") s := va_Nw.of rfl (hts0 _ kmnX4_15)
  have hn31 : va_Nw (.methodLinkNest RX4 31 yX0_init "RockRoad") s := va_Nw.of rfl (hts0 _ kmnX4_31)
  have hn38 : va_Nw (.methodLinkNest RX4 38 yX2_init "RockRoad") s := va_Nw.of rfl (hts0 _ kmnX4_38)
  have hS : va_S (lA s) s.heap s.heap [] := va_S.rf
  have hP : va_P g.1 vwCl [] s.heap := fun k q h => by simp at h
  have hD : va_D (lA s) [] := ⟨fun i j p q h => by simp at h, fun k q h => by simp at h⟩
  have hl := lv_entry ([.ref b]) (n := 4) (Nat.le_of_ble_eq_true rfl)
  rw [lg_entry_eq]
  generalize (lg_sl ([.ref b]) ++ List.replicate (4 - (lg_sl ([.ref b])).length) Slot.unset).toArray = ls at hl ⊢
  have hl : lv_has ls 4 [(0, .ref b)] := hl
  refine va_new (ci := 4) (fs := [.null, .null, .null, .null, .null, .null, .int 0, .int 0, .int 0, .long 0]) (C := RX4) (T := TX4) (N := 10) hx hb hts inX4 tyX4 tyX4_ok hown (hts _ klL_7) (hts _ kq_X4) (hts _ kn_X4) hK hP hD hS hA rfl (fun j hj => by rcases (show j = 0 ∨ j = 1 ∨ j = 2 ∨ j = 3 ∨ j = 4 ∨ j = 5 ∨ j = 6 ∨ j = 7 ∨ j = 8 ∨ j = 9 by omega) with rfl | rfl | rfl | rfl | rfl | rfl | rfl | rfl | rfl | rfl <;> rfl) (Nat.le_of_ble_eq_true rfl) (Nat.le_of_ble_eq_true rfl) dL_law_0 (fun h H hP hD hS => ?_)
  have hP : va_P g.1 vwCl [(h, .inr (4, [.null, .null, .null, .null, .null, .null, .int 0, .int 0, .int 0, .long 0]))] H := hP
  have hD : va_D (lA s) [(h, .inr (4, [.null, .null, .null, .null, .null, .null, .int 0, .int 0, .int 0, .long 0]))] := hD
  refine W.widen (k := 1) (n := 10) (by omega) (by omega) ?_
  refine lv_dup hx hb dL_law_3 rfl ?_
  have hFc := va_free (wc := [(h, .inr (4, [.null, .null, .null, .null, .null, .null, .int 0, .int 0, .int 0, .long 0]))]) hD hS hA [0] rfl
  refine va_callv (va_runI (As := []) (rest := [.ref h]) ⟨hx, hb, hml, hown, hts⟩ (kX4_init l g h H.size) (cwI 0 hts (wM_I kc_X4_init) rfl rfl rfl (hts _ kn_X4) (hts _ kmL_9) (hts _ ki_X4_init) rfl (by decide +kernel) ⟨Nat.le_of_ble_eq_true rfl, Nat.le_of_ble_eq_true rfl⟩) ⟨fun a U f mk q => by
      obtain ⟨q0, q1, qP, qK, qD, n1, n2, n3, qa⟩ := q
      exact ⟨q0, q1, qP, va_K.moved (u := U) (U := U.calling f mk a) (Vm.Alike.refl U.vm) qK, qD, va_Nw.same rfl rfl n1, va_Nw.same rfl rfl n2, va_Nw.same rfl rfl n3, va_AO.moved (u := U) (U := U.calling f mk a) (Vm.Alike.refl U.vm) qa⟩, fun U hU hW => ⟨rfl, by rw [hU], by rw [hU]; exact hP, va_K.moved hW.alike hK, hD.weaken (fun _ _ _ _ => trivial), va_Nw.warmM hW hn15, va_Nw.warmM hW hn31, va_Nw.warmM hW hn38, va_AO.moved hW.alike hao⟩⟩ rfl rfl hl.1 rfl (lv_room (Nat.le_of_ble_eq_true rfl)) dL_law_4 ⟨Nat.le_of_ble_eq_true rfl, Nat.le_of_ble_eq_true rfl⟩) hS (fun q _ h => hFc q h) hFc (fun u t H1 locs ht hvm hw hB hz1 hk1 hS => ?_)
  obtain ⟨hP1, hD1⟩ := hB
  rw [ht] at hP1
  obtain ⟨hP, hD⟩ := va_join (wr := []) (w1 := [(h, .inr (4, [.ref (u 0), .ref (u 1), .ref (u 4), .ref (u 5), .ref (u 6), .ref (u 9), .int 0, .int 0, .int 20, .long 0])), ((u 0), .inl (g.2 0, 201, .inl (fun _ => 0))), ((u 1), .inr (1, [.ref (u 2), .ref (u 3), .int 0])), ((u 2), .inl (g.2 0, 6, .inl (fun _ => 0))), ((u 3), .inl (g.2 0, 6, .inl (fun _ => 0))), ((u 4), .inl (g.2 2, 10, .inr (.inr (.inr (.inr (fun _ => none)))))), ((u 5), .inl (g.2 2, 10, .inr (.inr (.inr (.inr (fun _ => none)))))), ((u 6), .inr (0, [.ref (u 7), .ref (u 8), .int 0])), ((u 7), .inl (g.2 0, 30, .inl (fun _ => 0))), ((u 8), .inl (g.2 0, 6, .inl (fun _ => 0))), ((u 9), .inr (2, [.ref (u 10), .ref (u 11), .ref (u 12)])), ((u 10), .inl (g.2 0, 200, .inl (fun _ => 0))), ((u 11), .inl (g.2 0, 200, .inl (fun _ => 0))), ((u 12), .inl (g.2 0, 200, .inl (fun _ => 0)))]) hP hD [0] [] rfl rfl (by decide) (by decide) hk1 hFc hP1 hD1
  clear hFc hP1 hD1 hk1 hz1 ht hw
  generalize H1 = H at hP hS ⊢
  have hP : va_P g.1 vwCl ([(h, .inr (4, [.ref (u 0), .ref (u 1), .ref (u 4), .ref (u 5), .ref (u 6), .ref (u 9), .int 0, .int 0, .int 20, .long 0])), ((u 0), .inl (g.2 0, 201, .inl (fun _ => 0))), ((u 1), .inr (1, [.ref (u 2), .ref (u 3), .int 0])), ((u 2), .inl (g.2 0, 6, .inl (fun _ => 0))), ((u 3), .inl (g.2 0, 6, .inl (fun _ => 0))), ((u 4), .inl (g.2 2, 10, .inr (.inr (.inr (.inr (fun _ => none)))))), ((u 5), .inl (g.2 2, 10, .inr (.inr (.inr (.inr (fun _ => none)))))), ((u 6), .inr (0, [.ref (u 7), .ref (u 8), .int 0])), ((u 7), .inl (g.2 0, 30, .inl (fun _ => 0))), ((u 8), .inl (g.2 0, 6, .inl (fun _ => 0))), ((u 9), .inr (2, [.ref (u 10), .ref (u 11), .ref (u 12)])), ((u 10), .inl (g.2 0, 200, .inl (fun _ => 0))), ((u 11), .inl (g.2 0, 200, .inl (fun _ => 0))), ((u 12), .inl (g.2 0, 200, .inl (fun _ => 0)))]) H := hP
  have hD : va_D (lA s) ([(h, .inr (4, [.ref (u 0), .ref (u 1), .ref (u 4), .ref (u 5), .ref (u 6), .ref (u 9), .int 0, .int 0, .int 20, .long 0])), ((u 0), .inl (g.2 0, 201, .inl (fun _ => 0))), ((u 1), .inr (1, [.ref (u 2), .ref (u 3), .int 0])), ((u 2), .inl (g.2 0, 6, .inl (fun _ => 0))), ((u 3), .inl (g.2 0, 6, .inl (fun _ => 0))), ((u 4), .inl (g.2 2, 10, .inr (.inr (.inr (.inr (fun _ => none)))))), ((u 5), .inl (g.2 2, 10, .inr (.inr (.inr (.inr (fun _ => none)))))), ((u 6), .inr (0, [.ref (u 7), .ref (u 8), .int 0])), ((u 7), .inl (g.2 0, 30, .inl (fun _ => 0))), ((u 8), .inl (g.2 0, 6, .inl (fun _ => 0))), ((u 9), .inr (2, [.ref (u 10), .ref (u 11), .ref (u 12)])), ((u 10), .inl (g.2 0, 200, .inl (fun _ => 0))), ((u 11), .inl (g.2 0, 200, .inl (fun _ => 0))), ((u 12), .inl (g.2 0, 200, .inl (fun _ => 0)))]) := hD
  refine W.widen (k := 14) (n := 888) (by omega) (by omega) ?_
  refine lv_astore_n (lv' := [(1, .ref h), (0, .ref b)]) hx hb dL_law_7 rfl hl (by decide) rfl (fun ls hl => ?_)
  refine va_new (ci := 5) (fs := [.int 0, .long 0, .int 0, .null, .int 0, .null, .null, .int 0, .null, .null, .null, .null, .null, .null, .null, .null, .null, .null, .int 0, .int 0, .null, .int 0, .null, .null, .null]) (C := RX5) (T := TX5) (N := 25) hx hb hts inX5 tyX5 tyX5_ok hown (hts _ klL_10) (hts _ kq_X5) (hts _ kn_X5) hK hP hD hS hA rfl (fun j hj => by rcases (show j = 0 ∨ j = 1 ∨ j = 2 ∨ j = 3 ∨ j = 4 ∨ j = 5 ∨ j = 6 ∨ j = 7 ∨ j = 8 ∨ j = 9 ∨ j = 10 ∨ j = 11 ∨ j = 12 ∨ j = 13 ∨ j = 14 ∨ j = 15 ∨ j = 16 ∨ j = 17 ∨ j = 18 ∨ j = 19 ∨ j = 20 ∨ j = 21 ∨ j = 22 ∨ j = 23 ∨ j = 24 by omega) with rfl | rfl | rfl | rfl | rfl | rfl | rfl | rfl | rfl | rfl | rfl | rfl | rfl | rfl | rfl | rfl | rfl | rfl | rfl | rfl | rfl | rfl | rfl | rfl | rfl <;> rfl) (Nat.le_of_ble_eq_true rfl) (Nat.le_of_ble_eq_true rfl) dL_law_8 (fun h5 H hP hD hS => ?_)
  refine W.widen (k := 15) (n := 913) (by omega) (by omega) ?_
  refine lv_dup hx hb dL_law_11 rfl ?_
  have hFc := va_free (wc := [(h5, .inr (5, [.int 0, .long 0, .int 0, .null, .int 0, .null, .null, .int 0, .null, .null, .null, .null, .null, .null, .null, .null, .null, .null, .int 0, .int 0, .null, .int 0, .null, .null, .null]))]) hD hS hA [14] rfl
  have hPc := hP.sub (ws' := [(h5, .inr (5, [.int 0, .long 0, .int 0, .null, .int 0, .null, .null, .int 0, .null, .null, .null, .null, .null, .null, .null, .null, .null, .null, .int 0, .int 0, .null, .int 0, .null, .null, .null]))]) [14] rfl
  have hDc := hD.sub (ws' := [(h5, .inr (5, [.int 0, .long 0, .int 0, .null, .int 0, .null, .null, .int 0, .null, .null, .null, .null, .null, .null, .null, .null, .null, .null, .int 0, .int 0, .null, .int 0, .null, .null, .null]))]) [14] (by decide) rfl
  refine va_callv (va_runI (As := []) (rest := [.ref h5]) ⟨hx, hb, hml, hown, hts⟩ (kX5_init l g h5 H.size) (cwI 0 hts (wM_I kc_X5_init) rfl rfl rfl (hts _ kn_X5) (hts _ kmL_12) (hts _ ki_X5_init) rfl (by decide +kernel) ⟨Nat.le_of_ble_eq_true rfl, Nat.le_of_ble_eq_true rfl⟩) ⟨kPc_blind, fun U hU hW => ⟨rfl, by rw [hU], by rw [hU]; exact hPc, va_K.moved hW.alike hK, hDc.weaken (fun _ _ _ _ => trivial)⟩⟩ rfl rfl hl.1 rfl (lv_room (Nat.le_of_ble_eq_true rfl)) dL_law_12 ⟨Nat.le_of_ble_eq_true rfl, Nat.le_of_ble_eq_true rfl⟩) hS (fun q _ h => hFc q h) hFc (fun v t H1 locs ht hvm hw hB hz1 hk1 hS => ?_)
  obtain ⟨hP1, hD1⟩ := hB
  rw [ht] at hP1
  obtain ⟨hP, hD⟩ := va_join (wr := [(h, .inr (4, [.ref (u 0), .ref (u 1), .ref (u 4), .ref (u 5), .ref (u 6), .ref (u 9), .int 0, .int 0, .int 20, .long 0])), ((u 0), .inl (g.2 0, 201, .inl (fun _ => 0))), ((u 1), .inr (1, [.ref (u 2), .ref (u 3), .int 0])), ((u 2), .inl (g.2 0, 6, .inl (fun _ => 0))), ((u 3), .inl (g.2 0, 6, .inl (fun _ => 0))), ((u 4), .inl (g.2 2, 10, .inr (.inr (.inr (.inr (fun _ => none)))))), ((u 5), .inl (g.2 2, 10, .inr (.inr (.inr (.inr (fun _ => none)))))), ((u 6), .inr (0, [.ref (u 7), .ref (u 8), .int 0])), ((u 7), .inl (g.2 0, 30, .inl (fun _ => 0))), ((u 8), .inl (g.2 0, 6, .inl (fun _ => 0))), ((u 9), .inr (2, [.ref (u 10), .ref (u 11), .ref (u 12)])), ((u 10), .inl (g.2 0, 200, .inl (fun _ => 0))), ((u 11), .inl (g.2 0, 200, .inl (fun _ => 0))), ((u 12), .inl (g.2 0, 200, .inl (fun _ => 0)))]) (w1 := [(h5, .inr (5, [.int 0, .long 0, .int 0, .ref (v 0), .int 0, .ref (v 1), .ref (v 2), .int 0, .ref (v 3), .ref (v 4), .ref (v 5), .ref (v 6), .ref (v 7), .ref (v 8), .ref (v 9), .ref (v 10), .ref (v 11), .ref (v 12), .int 20, .int 0, .ref (v 13), .int 0, .ref (v 14), .ref (v 15), .ref (v 16)])), ((v 0), .inl (g.2 0, 201, .inl (fun _ => 0))), ((v 1), .inl (g.2 0, 6, .inl (fun _ => 0))), ((v 2), .inl (g.2 0, 6, .inl (fun _ => 0))), ((v 3), .inl (g.2 0, 10, .inl (fun _ => 0))), ((v 4), .inl (g.2 0, 10, .inl (fun _ => 0))), ((v 5), .inl (g.2 0, 10, .inl (fun _ => 0))), ((v 6), .inl (g.2 0, 10, .inl (fun _ => 0))), ((v 7), .inl (g.2 0, 10, .inl (fun _ => 0))), ((v 8), .inl (g.2 0, 60, .inl (fun _ => 0))), ((v 9), .inl (g.2 0, 2010, .inl (fun _ => 0))), ((v 10), .inl (g.2 0, 201, .inl (fun _ => 0))), ((v 11), .inl (g.2 0, 201, .inl (fun _ => 0))), ((v 12), .inl (g.2 0, 201, .inl (fun _ => 0))), ((v 13), .inl (g.2 0, 30, .inl (fun _ => 0))), ((v 14), .inl (g.2 0, 60, .inl (fun _ => 0))), ((v 15), .inl (g.2 0, 6, .inl (fun _ => 0))), ((v 16), .inl (g.2 1, 10, .inl (fun _ => 0)))]) hP hD [14] [0, 1, 2, 3, 4, 5, 6, 7, 8, 9, 10, 11, 12, 13] rfl rfl (by decide) (by decide) hk1 hFc hP1 hD1
  clear hFc hP1 hD1 hk1 hz1 ht hw hPc hDc
  rw [← wld0] at hP hD
  refine W.widen (k := 32) (n := 3955) (by omega) (by omega) ?_
  refine lv_astore_n (lv' := [(2, .ref h5), (1, .ref h), (0, .ref b)]) hx hb dL_law_15 rfl hl (by decide) rfl (fun ls hl => ?_)
  refine lv_iconst (v := 0) hx hb dL_law_16 (by decide) ?_
  refine lv_istore_n (lv' := [(3, .int 0), (2, .ref h5), (1, .ref h), (0, .ref b)]) hx hb dL_law_17 rfl hl (by decide) rfl (fun ls hl => ?_)
  exact law_loop hL ⟨⟨⟨hx, hb, hml, hown, hts⟩, hK⟩, hX, hbl, hLT⟩ hr hlocks (L + 1) 0 (Nat.zero_le _) (by omega) H1 locs ⟨al0 h h5 u v, 0, s0, 0, 0, 0, rfl, rfl, ⟨hP, hD, hS⟩, Rel0⟩ ls (lv_sub hl [3, 2, 1, 0] rfl)
