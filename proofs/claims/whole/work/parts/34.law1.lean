/-! the law, call by call -/
abbrev lA (s : State) : Nat → Prop := fun q => s.heap.size ≤ q
def LT (s : State) : Prop := ∃ t : Nat, va_Z "RockRoad" "TRACE_OF_KIND" "[I" (.ref t) (lA s) s s.heap ∧ va_T .int t 3 (fun j => .int (trT j)) (lA s) s s.heap
def LW (g : wG) (s : State) (H : Heap) (locs : List Loc) (q0 q14 : Nat) : Prop := ∃ (α : Nat → Nat) (n : Nat) (σ : wS) (d ly dr : Nat), α 0 = q0 ∧ α 14 = q14 ∧ wI g α (32 + 4 * n) (lA s) s.heap H locs σ ∧ Rel σ σ n d ly dr
def LX (p : Program) (s : State) (m : MethodId) (c : Code) (b L : Nat) (xs : Nat → Int32) (g : wG) : Prop := wX p s m #[Value.ref b] c cL_law 4 RL g ∧ va_X b L xs s s.heap ∧ b < s.heap.size ∧ LT s
theorem Rel_fin {τ τ2 : wS} {n d ly dr : Nat} (h : Rel τ τ2 n d ly dr) (k : KX τ τ2) : Rel τ2 τ2 n d ly dr := Rel_K h k KM_rf
theorem Rel_q {σ : wS} {n d ly dr : Nat} (h : Rel σ σ n d ly dr) : Rel (wu σ 14 0 0) (wu σ 14 0 0) n d ly dr := Rel_fin (Rel_z h) (KX_wu KX_rf (by omega) (by omega))
section LR
variable {p : Program} {l : Launch} {e : Env} {R : Room} {s : State} {m : MethodId} {args : Array Value} {below : List Frame} {meth : Method} {c : Code} {H : Heap} {locs : List Loc} {cells slots : Nat} {Q : State → Prop}
variable {pc : Nat} {ls : Array Slot} {rest st0 : List Value} {g : wG} {α : Nat → Nat} {N : Nat} {A : Nat → Prop} {H0 : Heap} {σ : wS} {own : String} {cc : ByteArray} {nL : Nat}
variable {y : MethodName} {bytes : ByteArray} {maxL n index : Nat} {ret : Option FieldType} {rm : Room} {As : List Value} {C : String} {T : u_T} {ci Nf : Nat} {fs : List Value}
theorem w_vSl {post : Int64 → Prop} (X : wX p s m args c cc nL own g) (I : wI g α N A H0 H locs σ) (i : Nat) (hi : i < N) (he : wc g α i (σ.1 i) (σ.2.1 i) (σ.2.2 i) = .inr (ci, fs)) (hc : vwCl[ci]? = some (C, T, Nf)) (hM : Met l y (wM y bytes maxL ret) rm (wPc g α N σ (.ref (α i) :: As)) (vp_Sl post) 0 0 (fun _ => False)) (hG : GoodIn lw_all (wsV own index C y (wM y bytes maxL ret))) (hrc : rm.cells = 0) (hrs : rm.slots = 0)
    (hd : y.cls = C ∧ y.cls ≠ "java/lang/invoke/MethodHandle" ∧ y.cls ≠ "java/lang/invoke/VarHandle" ∧ (parseMethodDescriptor y.desc).map (fun d => d.parameters.length) = some n) (hn : As.length = n) (hR : rm.frames + 1 ≤ R.frames ∧ 8 + (maxL + 11) + rm.locals ≤ R.locals) (hls : ls.size = nL) (hst : st0 = As.reverse ++ .ref (α i) :: rest) (hW : (rest.map fun v => v.category).sum ≤ 8) (hcs : cells ≤ R.cells ∧ slots ≤ R.slots) (hdg : decode cc pc = .ok (.invokevirtual index, 3))
    (kk : ∀ r : Int64, post r → W p l e R s m args below meth c H locs cells slots Q (F0 m (pc + 3) ls (.long r :: rest))) : W p l e R s m args below meth c H locs cells slots Q (F0 m pc ls st0) :=
  vp_callSl (w_runVS X I i hi he hc hM hG hrc hrs hd hn hR hls hst hW hcs hdg) kk
/-- a call whose start knows more -/
theorem w_viE {post : Int32 → wS → Prop} {E : State → Prop} (hEb : ∀ (U : State) (f : JFrame) (mk : MethodId) (a : Array Value), E U → E (U.calling f mk a)) (hE : ∀ U : State, U.heap = H → s.vm.Alike U.vm → E U) (X : wX p s m args c cc nL own g) (I : wI g α N A H0 H locs σ) (hA : ∀ q, H0.size ≤ q → A q) (i : Nat) (hi : i < N) (he : wc g α i (σ.1 i) (σ.2.1 i) (σ.2.2 i) = .inr (ci, fs)) (hc : vwCl[ci]? = some (C, T, Nf)) (hM : Met l y (wM y bytes maxL ret) rm (wPe g α N H.size σ E (.ref (α i) :: As)) (va_Qi post (wB g α N) (wA α N H.size)) 0 0 (wA α N H.size)) (hG : GoodIn lw_all (wsV own index C y (wM y bytes maxL ret))) (hrc : rm.cells = 0) (hrs : rm.slots = 0)
    (hd : y.cls = C ∧ y.cls ≠ "java/lang/invoke/MethodHandle" ∧ y.cls ≠ "java/lang/invoke/VarHandle" ∧ (parseMethodDescriptor y.desc).map (fun d => d.parameters.length) = some n) (hn : As.length = n) (hR : rm.frames + 1 ≤ R.frames ∧ 8 + (maxL + 11) + rm.locals ≤ R.locals) (hls : ls.size = nL) (hst : st0 = As.reverse ++ .ref (α i) :: rest) (hW : (rest.map fun v => v.category).sum ≤ 8) (hcs : cells ≤ R.cells ∧ slots ≤ R.slots) (hdg : decode cc pc = .ok (.invokevirtual index, 3))
    (kk : ∀ (r : Int32) (σ' : wS) (H1 : Heap) (locs1 : List Loc), post r σ' → wI g α N A H0 H1 locs1 σ' → W p l e R s m args below meth c H1 locs1 cells slots Q (F0 m (pc + 3) ls (.int r :: rest))) : W p l e R s m args below meth c H locs cells slots Q (F0 m pc ls st0) :=
  va_calli (va_runV (g := F0 m pc ls st0) X.1 hM (cwV n X.1.2.2.2.2 hG rfl hrc hrs hd hR) ⟨fun a U f mk q => by
      obtain ⟨q0, ⟨q1, qP, qK, qD⟩, qE⟩ := q
      exact ⟨q0, ⟨q1, qP, va_K.moved (u := U) (U := U.calling f mk a) (Vm.Alike.refl U.vm) qK, qD⟩, hEb U f mk a qE⟩, va_recv X.2 I.1 hc ((wld_get hi).trans (by rw [he])), fun U hU hW => ⟨rfl, ⟨by rw [hU], by rw [hU]; exact I.1, va_K.moved hW.alike X.2, I.2.1.weaken (fun _ _ _ _ => trivial)⟩, hE U hU hW.alike⟩⟩ rfl hn hls hst (lv_room hW) hdg hcs) I.2.2 (fun q _ h => wA_in I hA q h) (fun q h => wA_in I hA q h) (fun r u t H1 locs1 ht _ hp hB _ _ hS => kk r u H1 locs1 hp ⟨by rw [← ht]; exact hB, wD_same I.2.1, hS⟩)
/-- a call that makes a ship -/
theorem w_viN {post : Int32 → wS × (Nat → Nat) × Nat → Prop} {mc ms : Nat} (X : wX p s m args c cc nL own g) (I : wI g α N A H0 H locs σ) (hA : ∀ q, H0.size ≤ q → A q) (i : Nat) (hi : i < N) (he : wc g α i (σ.1 i) (σ.2.1 i) (σ.2.2 i) = .inr (ci, fs)) (hc : vwCl[ci]? = some (C, T, Nf)) (hM : Met l y (wM y bytes maxL ret) rm (wPs g α N H.size σ (.ref (α i) :: As)) (va_Qi post (fun u t => va_P g.1 vwCl (wld g u.2.1 u.1 u.2.2) t.heap ∧ va_D (wA α N H.size) (wld g u.2.1 u.1 u.2.2)) (wA α N H.size)) mc ms (wA α N H.size)) (hG : GoodIn lw_all (wsV own index C y (wM y bytes maxL ret))) (hrc : rm.cells = mc) (hrs : rm.slots = ms)
    (hd : y.cls = C ∧ y.cls ≠ "java/lang/invoke/MethodHandle" ∧ y.cls ≠ "java/lang/invoke/VarHandle" ∧ (parseMethodDescriptor y.desc).map (fun d => d.parameters.length) = some n) (hn : As.length = n) (hR : rm.frames + 1 ≤ R.frames ∧ 8 + (maxL + 11) + rm.locals ≤ R.locals) (hls : ls.size = nL) (hst : st0 = As.reverse ++ .ref (α i) :: rest) (hW : (rest.map fun v => v.category).sum ≤ 8) (hcs : cells + mc ≤ R.cells ∧ slots + ms ≤ R.slots) (hdg : decode cc pc = .ok (.invokevirtual index, 3))
    (kk : ∀ (r : Int32) (u : wS × (Nat → Nat) × Nat) (H1 : Heap) (locs1 : List Loc), post r u → wI g u.2.1 u.2.2 A H0 H1 locs1 u.1 → W p l e R s m args below meth c H1 locs1 (cells + mc) (slots + ms) Q (F0 m (pc + 3) ls (.int r :: rest))) : W p l e R s m args below meth c H locs cells slots Q (F0 m pc ls st0) :=
  va_calli (va_runV (g := F0 m pc ls st0) X.1 hM (cwV n X.1.2.2.2.2 hG rfl hrc hrs hd hR) ⟨wPs_blind, va_recv X.2 I.1 hc ((wld_get hi).trans (by rw [he])), fun U hU hW => ⟨rfl, by rw [hU], by rw [hU]; exact I.1, va_K.moved hW.alike X.2, I.2.1.weaken (fun _ _ _ _ => trivial)⟩⟩ rfl hn hls hst (lv_room hW) hdg hcs) I.2.2 (fun q _ h => wA_in I hA q h) (fun q h => wA_in I hA q h) (fun r u t H1 locs1 ht _ hp hB _ _ hS => kk r u H1 locs1 hp ⟨by rw [← ht]; exact hB.1, hB.2.weaken (fun _ q _ h => wA_in I hA q.1 h), hS⟩)
end LR
set_option maxHeartbeats 1000000 in
set_option maxRecDepth 100000 in
theorem ctX5_days2 (l : Launch) (g : wG) (α : Nat → Nat) (N : Nat) (σ : wS) (sz : Nat) (b : Int32) (n d ly : Nat) (ms : Nat → wS) (fs : Nat → Nat → Nat) (zs : Nat → Nat) (hN : 32 ≤ N) (hn10 : n ≤ 10) (hly : ly ≤ 6) (hd : σ.1 14 2 = nI d) (hd200 : d ≤ 200) (h0 : ms 0 = wu σ 14 0 0) (hst : ∀ m2, b = nI m2 → (¬ b < 1 ∧ ¬ 20 < b) → d + m2 ≤ 200 → ∀ j, j < m2 → GO (ms j) (fs j) (zs j) n (d + j) ly ∧ ms (j + 1) = dyM (ms j) (fs j) (zs j) n (d + j) ly) : Met l yX5_days (wM yX5_days cX5_days 3 (some FieldType.int)) ({ frames := 2, cells := 0, slots := 0, locals := 52 } : Room) (wPs g α N sz σ [.ref (α 14), .int b]) (va_Qi (fun r τ => (r, τ) = if ¬ b < 1 ∧ ¬ 20 < b then (if nI d + b ≤ 200 then (nI (d + b.toNatClampNeg), ms b.toNatClampNeg) else ((-2), wu σ 14 0 0)) else ((-1), wu σ 14 0 0)) (wB g α N) (wA α N sz)) 0 0 (wA α N sz) := by
  refine w_enter (by decide) (Nat.le_of_ble_eq_true rfl) (fun p e s m args below meth c hsz X I hr hlk ls hl => ?_)
  have hA : ∀ q, s.heap.size ≤ q → wA α N sz q := fun q h => Or.inr (by omega)
  have hx := X.1.1
  have hb := X.1.2.1
  have hl : lv_has ls 3 [(0, .ref (α 14)), (1, .int b)] := hl
  refine lv_aload_n hx hb dX5_days_0 rfl (lv_at hl 0 rfl) ?_
  refine lv_iconst (v := 0) hx hb dX5_days_1 (by decide) ?_
  refine fp5_0 X I (by omega) kfX5_66 dX5_days_2 (fun H locs I => ?_)
  refine lv_iload_n hx hb dX5_days_5 rfl (lv_at hl 1 rfl) ?_
  refine lv_iconst (v := 1) hx hb dX5_days_6 (by decide) ?_
  refine lv_bipush (v := 20) hx hb dX5_days_7 (by decide) ?_
  refine w_sSi X I (As := [.int b, .int 1, .int 20]) (rest := []) (ctX5_in l g α N (wu σ 14 0 0) _ _ _ ) (wM_S kmX5_69 kt_X5_in kn_X5 kc_X5_in) rfl rfl (n := 3) (by decide +kernel) rfl ⟨by decide, by decide⟩ hl.1 rfl (Nat.le_of_ble_eq_true rfl) ⟨Nat.zero_le _, Nat.zero_le _⟩ dX5_days_9 (fun r_9 q_9 => ?_)
  by_cases p_9 : ¬ b < 1 ∧ ¬ 20 < b
  ·
    obtain rfl : r_9 = 1 := Eq.trans q_9 (if_pos p_9)
    refine lv_if_ne (tgt := 17) hx hb dX5_days_12 (by decide) (fun _ => ?_) (fun cc => absurd cc (by decide))
    refine lv_aload_n hx hb dX5_days_17 rfl (lv_at hl 0 rfl) ?_
    refine fg5_2 X I (by omega) kfX5_76 dX5_days_18 ?_
    refine w_eqi (y := σ.1 14 2) (wu_d (by decide)) ?_
    refine w_eqi (y := nI d) hd ?_
    refine lv_iload_n hx hb dX5_days_21 rfl (lv_at hl 1 rfl) ?_
    refine lv_iadd hx hb dX5_days_22 ?_
    refine lv_sipush (v := 200) hx hb dX5_days_23 (by decide) ?_
    refine lv_icmp_le (tgt := 32) hx hb dX5_days_26 (by decide) (fun c_26 => ?_) (fun c_26 => ?_)
    ·
      obtain ⟨m2, hm2, rfl⟩ : ∃ m2, m2 ≤ 20 ∧ b = nI m2 := nI_btw (n := 20) (fun z => p_9.1 (Int32.lt_trans z (by decide))) p_9.2 (by decide)
      have hm : d + m2 ≤ 200 := by rw [nI_add] at c_26; exact nI_le' (b := 200) c_26 (by omega) (by decide)
      refine lv_iconst (v := 0) hx hb dX5_days_32 (by decide) ?_
      refine lv_istore_n (lv' := [(2, .int 0), (0, .ref (α 14)), (1, .int (nI m2))]) hx hb dX5_days_33 rfl hl (by decide) rfl (fun ls hl => ?_)
      exact lpX5_days_34 (nI m2) n d ly ms fs zs X hsz hr hlk hN hn10 hly hd hd200 h0 (fun m3 e3 => hst m3 e3 p_9)  (m2 + 1) m2 0 (wu σ 14 0 0) (by omega) rfl p_9 c_26 (⟨hm2, hm⟩) (by omega) h0.symm hd _ _ I ls (lv_sub hl [1, 2, 0] rfl)
    ·
      refine lv_bipush (v := (-2)) hx hb dX5_days_29 (by decide) ?_
      exact w_iret X I hr hlk (by first | exact (if_neg p_9).symm | (rw [if_pos p_9, if_neg c_26]; done) | (rw [if_pos hp1, if_pos hp2, hb2, nI_clamp (by omega), hτ, e]; done)) dX5_days_31
  ·
    obtain rfl : r_9 = 0 := Eq.trans q_9 (if_neg p_9)
    refine lv_if_ne (tgt := 17) hx hb dX5_days_12 (by decide) (fun cc => absurd cc (by decide)) (fun _ => ?_)
    refine lv_iconst (v := (-1)) hx hb dX5_days_15 (by decide) ?_
    exact w_iret X I hr hlk (by first | exact (if_neg p_9).symm | (rw [if_pos p_9, if_neg c_26]; done) | (rw [if_pos hp1, if_pos hp2, hb2, nI_clamp (by omega), hτ, e]; done)) dX5_days_16
theorem lg_self (x : Int64) : lg_cmp x x = 0 := by unfold lg_cmp; simp
section LAW
variable {p : Program} {l : Launch} {e : Env} {s : State} {m : MethodId} {below : List Frame} {meth : Method} {c : Code} {b L : Nat} {xs : Nat → Int32} {g : wG} {cells slots : Nat} {Q : State → Prop} {H : Heap} {locs : List Loc} {i : Nat} {q0 q14 : Nat} {ls : Array Slot}
set_option maxHeartbeats 1000000 in
set_option maxRecDepth 100000 in
theorem lk_0 (C : LX p s m c b L xs g) (J : LW g s H locs q0 q14) (hi : i + 4 ≤ L) (hL : L ≤ 2048) (hcs : cells + 4 ≤ room_1.cells ∧ slots + 224 ≤ room_1.slots) (hl : lv_has ls 4 [(0, .ref b), (1, .ref q0), (2, .ref q14), (3, .int (nI i))]) (kk : ∀ (H : Heap) (locs : List Loc), LW g s H locs q0 q14 → W p l e room_1 s m #[Value.ref b] below meth c H locs (cells + 4) (slots + 224) Q (F0 m 783 ls [])) : W p l e room_1 s m #[Value.ref b] below meth c H locs cells slots Q (F0 m 136 ls []) := by
  obtain ⟨X, hX, hbl, hT⟩ := C
  have hx := X.1.1
  have hb := X.1.2.1
  have hbA : ¬ lA s b := Nat.not_le.mpr hbl
  have hA : ∀ q, s.heap.size ≤ q → lA s q := fun _ h => h
  have hc0 : cells ≤ room_1.cells ∧ slots ≤ room_1.slots := ⟨Nat.le_trans (Nat.le_add_right _ 4) hcs.1, Nat.le_trans (Nat.le_add_right _ 224) hcs.2⟩
  obtain ⟨α, n, σ, d, ly, dr, rfl, rfl, I, hR⟩ := J
  have hd200 : d ≤ 200 := hR.1.1
  have hn10 : n ≤ 10 := hR.1.2.1
  have hly6 : ly ≤ 6 := hR.1.2.2.1
  have hdr30 : dr ≤ 30 := hR.1.2.2.2
  have v1 : vp_in (nI i + 1) L := by rw [nI_1]; exact vp_in_nI (by omega) (by omega)
  have v2 : vp_in (nI i + 2) L := by rw [show nI i + 2 = nI (i + 2) from nI_add i 2]; exact vp_in_nI (by omega) (by omega)
  have v3 : vp_in (nI i + 3) L := by rw [show nI i + 3 = nI (i + 3) from nI_add i 3]; exact vp_in_nI (by omega) (by omega)
  have h5 := hR.2.2.2.2.2.2.2.2.2.1
  have h6 := hR.2.2.2.2.2.2.2.2.2.2
  refine lv_aload_n hx hb dL_law_136 rfl (lv_at hl 1 rfl) ?_
  refine lv_aload_n hx hb dL_law_137 rfl (lv_at hl 0 rfl) ?_
  refine lv_iload_n hx hb dL_law_138 rfl (lv_at hl 3 rfl) ?_
  refine lv_iconst (v := 1) hx hb dL_law_139 (by decide) ?_
  refine lv_iadd hx hb dL_law_140 ?_
  refine va_sld hx hb hX hbl hbA I.2.2 v1 dL_law_141 ?_
  refine lv_aload_n hx hb dL_law_142 rfl (lv_at hl 0 rfl) ?_
  refine lv_iload_n hx hb dL_law_143 rfl (lv_at hl 3 rfl) ?_
  refine lv_iconst (v := 2) hx hb dL_law_144 (by decide) ?_
  refine lv_iadd hx hb dL_law_145 ?_
  refine va_sld hx hb hX hbl hbA I.2.2 v2 dL_law_146 ?_
  refine w_vi X I hA 0 (by omega) rfl rfl (As := [.int (xs (nI i + 1).toNatClampNeg), .int (xs (nI i + 2).toNatClampNeg)]) (rest := []) (ctX4_layer l g α (32 + 4 * n) σ _ (xs (nI i + 1).toNatClampNeg) (xs (nI i + 2).toNatClampNeg) ly (by omega) hR.2.1.2.2.1 hly6) (wM_V kmL_13 ki_X4_layer ks_X4_layer kn_X4 kc_X4_layer) rfl rfl (n := 2) (by decide +kernel) rfl ⟨Nat.le_of_ble_eq_true rfl, Nat.le_of_ble_eq_true rfl⟩ hl.1 rfl (Nat.le_of_ble_eq_true rfl) hc0 dL_law_147 (fun r1 τ H locs k1 I => ?_)
  have k1 : (r1, τ) = laF σ ly (xs (nI i + 1).toNatClampNeg) (xs (nI i + 2).toNatClampNeg) := k1
  obtain rfl : r1 = (laF σ ly (xs (nI i + 1).toNatClampNeg) (xs (nI i + 2).toNatClampNeg)).1 := congrArg Prod.fst k1
  obtain rfl : τ = (laF σ ly (xs (nI i + 1).toNatClampNeg) (xs (nI i + 2).toNatClampNeg)).2 := congrArg Prod.snd k1
  have h1 : Rel σ (laF σ ly (xs (nI i + 1).toNatClampNeg) (xs (nI i + 2).toNatClampNeg)).2 n d ly dr := Rel_K hR KX_rf (kM_layer)
  refine lv_aload_n hx hb dL_law_150 rfl (lv_at hl 2 rfl) ?_
  refine lv_aload_n hx hb dL_law_151 rfl (lv_at hl 0 rfl) ?_
  refine lv_iload_n hx hb dL_law_152 rfl (lv_at hl 3 rfl) ?_
  refine lv_iconst (v := 1) hx hb dL_law_153 (by decide) ?_
  refine lv_iadd hx hb dL_law_154 ?_
  refine va_sld hx hb hX hbl hbA I.2.2 v1 dL_law_155 ?_
  refine lv_aload_n hx hb dL_law_156 rfl (lv_at hl 0 rfl) ?_
  refine lv_iload_n hx hb dL_law_157 rfl (lv_at hl 3 rfl) ?_
  refine lv_iconst (v := 2) hx hb dL_law_158 (by decide) ?_
  refine lv_iadd hx hb dL_law_159 ?_
  refine va_sld hx hb hX hbl hbA I.2.2 v2 dL_law_160 ?_
  refine w_vi X I hA 14 (by omega) rfl rfl (As := [.int (xs (nI i + 1).toNatClampNeg), .int (xs (nI i + 2).toNatClampNeg)]) (rest := [.int (laF σ ly (xs (nI i + 1).toNatClampNeg) (xs (nI i + 2).toNatClampNeg)).1]) (ctX5_layer l g α (32 + 4 * n) (laF σ ly (xs (nI i + 1).toNatClampNeg) (xs (nI i + 2).toNatClampNeg)).2 _ (xs (nI i + 1).toNatClampNeg) (xs (nI i + 2).toNatClampNeg) ly (by omega) h1.2.2.1.2.2.1 hly6) (wM_V kmL_17 ki_X5_layer ks_X5_layer kn_X5 kc_X5_layer) rfl rfl (n := 2) (by decide +kernel) rfl ⟨Nat.le_of_ble_eq_true rfl, Nat.le_of_ble_eq_true rfl⟩ hl.1 rfl (Nat.le_of_ble_eq_true rfl) hc0 dL_law_161 (fun r2 τ2 H locs k2 I => ?_)
  have k2 : (r2, τ2) = mLaF (laF σ ly (xs (nI i + 1).toNatClampNeg) (xs (nI i + 2).toNatClampNeg)).2 ly (xs (nI i + 1).toNatClampNeg) (xs (nI i + 2).toNatClampNeg) := k2
  obtain rfl : r2 = (mLaF (laF σ ly (xs (nI i + 1).toNatClampNeg) (xs (nI i + 2).toNatClampNeg)).2 ly (xs (nI i + 1).toNatClampNeg) (xs (nI i + 2).toNatClampNeg)).1 := congrArg Prod.fst k2
  obtain rfl : τ2 = (mLaF (laF σ ly (xs (nI i + 1).toNatClampNeg) (xs (nI i + 2).toNatClampNeg)).2 ly (xs (nI i + 1).toNatClampNeg) (xs (nI i + 2).toNatClampNeg)).2 := congrArg Prod.snd k2
  obtain ⟨k3, ly2, k4⟩ := s_layer h1
  refine lv_icmp_eq (tgt := 783) hx hb dL_law_164 (by decide) (fun _ => ?_) (fun z => absurd (k3) z)
  refine W.widen (k := cells + 4) (n := slots + 224) (by omega) (by omega) ?_
  exact kk H locs ⟨α, n, _, d, ly2, dr, rfl, rfl, I, Rel_fin k4 kX_layer⟩
set_option maxHeartbeats 1000000 in
set_option maxRecDepth 100000 in
theorem lk_1 (C : LX p s m c b L xs g) (J : LW g s H locs q0 q14) (hi : i + 4 ≤ L) (hL : L ≤ 2048) (hcs : cells + 4 ≤ room_1.cells ∧ slots + 224 ≤ room_1.slots) (hl : lv_has ls 4 [(0, .ref b), (1, .ref q0), (2, .ref q14), (3, .int (nI i))]) (kk : ∀ (H : Heap) (locs : List Loc), LW g s H locs q0 q14 → W p l e room_1 s m #[Value.ref b] below meth c H locs (cells + 4) (slots + 224) Q (F0 m 783 ls [])) : W p l e room_1 s m #[Value.ref b] below meth c H locs cells slots Q (F0 m 169 ls []) := by
  obtain ⟨X, hX, hbl, hT⟩ := C
  have hx := X.1.1
  have hb := X.1.2.1
  have hbA : ¬ lA s b := Nat.not_le.mpr hbl
  have hA : ∀ q, s.heap.size ≤ q → lA s q := fun _ h => h
  have hc0 : cells ≤ room_1.cells ∧ slots ≤ room_1.slots := ⟨Nat.le_trans (Nat.le_add_right _ 4) hcs.1, Nat.le_trans (Nat.le_add_right _ 224) hcs.2⟩
  obtain ⟨α, n, σ, d, ly, dr, rfl, rfl, I, hR⟩ := J
  have hd200 : d ≤ 200 := hR.1.1
  have hn10 : n ≤ 10 := hR.1.2.1
  have hly6 : ly ≤ 6 := hR.1.2.2.1
  have hdr30 : dr ≤ 30 := hR.1.2.2.2
  have v1 : vp_in (nI i + 1) L := by rw [nI_1]; exact vp_in_nI (by omega) (by omega)
  have v2 : vp_in (nI i + 2) L := by rw [show nI i + 2 = nI (i + 2) from nI_add i 2]; exact vp_in_nI (by omega) (by omega)
  have v3 : vp_in (nI i + 3) L := by rw [show nI i + 3 = nI (i + 3) from nI_add i 3]; exact vp_in_nI (by omega) (by omega)
  have h5 := hR.2.2.2.2.2.2.2.2.2.1
  have h6 := hR.2.2.2.2.2.2.2.2.2.2
  refine lv_aload_n hx hb dL_law_169 rfl (lv_at hl 1 rfl) ?_
  refine lv_aload_n hx hb dL_law_170 rfl (lv_at hl 0 rfl) ?_
  refine lv_iload_n hx hb dL_law_171 rfl (lv_at hl 3 rfl) ?_
  refine lv_iconst (v := 1) hx hb dL_law_172 (by decide) ?_
  refine lv_iadd hx hb dL_law_173 ?_
  refine va_sld hx hb hX hbl hbA I.2.2 v1 dL_law_174 ?_
  refine w_vSi X I 0 (by omega) rfl rfl (As := [.int (xs (nI i + 1).toNatClampNeg)]) (rest := []) (ctX4_left l g α (32 + 4 * n) σ (xs (nI i + 1).toNatClampNeg) ly (by omega) hR.2.1.2.2.1 hly6) (wM_V kmL_18 ki_X4_left ks_X4_left kn_X4 kc_X4_left) rfl rfl (n := 1) (by decide +kernel) rfl ⟨Nat.le_of_ble_eq_true rfl, Nat.le_of_ble_eq_true rfl⟩ hl.1 rfl (Nat.le_of_ble_eq_true rfl) hc0 dL_law_175 (fun r1 k1 => ?_)
  refine lv_aload_n hx hb dL_law_178 rfl (lv_at hl 2 rfl) ?_
  refine lv_aload_n hx hb dL_law_179 rfl (lv_at hl 0 rfl) ?_
  refine lv_iload_n hx hb dL_law_180 rfl (lv_at hl 3 rfl) ?_
  refine lv_iconst (v := 1) hx hb dL_law_181 (by decide) ?_
  refine lv_iadd hx hb dL_law_182 ?_
  refine va_sld hx hb hX hbl hbA I.2.2 v1 dL_law_183 ?_
  refine w_vi X I hA 14 (by omega) rfl rfl (As := [.int (xs (nI i + 1).toNatClampNeg)]) (rest := [.int r1]) (ctX5_left l g α (32 + 4 * n) σ _ (xs (nI i + 1).toNatClampNeg) ly (by omega) hR.2.2.1.2.2.1 hly6) (wM_V kmL_22 ki_X5_left ks_X5_left kn_X5 kc_X5_left) rfl rfl (n := 1) (by decide +kernel) rfl ⟨Nat.le_of_ble_eq_true rfl, Nat.le_of_ble_eq_true rfl⟩ hl.1 rfl (Nat.le_of_ble_eq_true rfl) hc0 dL_law_184 (fun r2 τ H locs k2 I => ?_)
  obtain ⟨k2, rfl⟩ := k2
  refine lv_icmp_eq (tgt := 783) hx hb dL_law_187 (by decide) (fun _ => ?_) (fun z => absurd (k1.trans ((q_left hR).trans k2.symm)) z)
  refine W.widen (k := cells + 4) (n := slots + 224) (by omega) (by omega) ?_
  exact kk H locs ⟨α, n, _, d, ly, dr, rfl, rfl, I, Rel_q hR⟩
set_option maxHeartbeats 1000000 in
set_option maxRecDepth 100000 in
theorem lk_2 (C : LX p s m c b L xs g) (J : LW g s H locs q0 q14) (hi : i + 4 ≤ L) (hL : L ≤ 2048) (hcs : cells + 4 ≤ room_1.cells ∧ slots + 224 ≤ room_1.slots) (hl : lv_has ls 4 [(0, .ref b), (1, .ref q0), (2, .ref q14), (3, .int (nI i))]) (kk : ∀ (H : Heap) (locs : List Loc), LW g s H locs q0 q14 → W p l e room_1 s m #[Value.ref b] below meth c H locs (cells + 4) (slots + 224) Q (F0 m 783 ls [])) : W p l e room_1 s m #[Value.ref b] below meth c H locs cells slots Q (F0 m 192 ls []) := by
  obtain ⟨X, hX, hbl, hT⟩ := C
  have hx := X.1.1
  have hb := X.1.2.1
  have hbA : ¬ lA s b := Nat.not_le.mpr hbl
  have hA : ∀ q, s.heap.size ≤ q → lA s q := fun _ h => h
  have hc0 : cells ≤ room_1.cells ∧ slots ≤ room_1.slots := ⟨Nat.le_trans (Nat.le_add_right _ 4) hcs.1, Nat.le_trans (Nat.le_add_right _ 224) hcs.2⟩
  obtain ⟨α, n, σ, d, ly, dr, rfl, rfl, I, hR⟩ := J
  have hd200 : d ≤ 200 := hR.1.1
  have hn10 : n ≤ 10 := hR.1.2.1
  have hly6 : ly ≤ 6 := hR.1.2.2.1
  have hdr30 : dr ≤ 30 := hR.1.2.2.2
  have v1 : vp_in (nI i + 1) L := by rw [nI_1]; exact vp_in_nI (by omega) (by omega)
  have v2 : vp_in (nI i + 2) L := by rw [show nI i + 2 = nI (i + 2) from nI_add i 2]; exact vp_in_nI (by omega) (by omega)
  have v3 : vp_in (nI i + 3) L := by rw [show nI i + 3 = nI (i + 3) from nI_add i 3]; exact vp_in_nI (by omega) (by omega)
  have h5 := hR.2.2.2.2.2.2.2.2.2.1
  have h6 := hR.2.2.2.2.2.2.2.2.2.2
  refine lv_aload_n hx hb dL_law_192 rfl (lv_at hl 1 rfl) ?_
  refine lv_aload_n hx hb dL_law_193 rfl (lv_at hl 0 rfl) ?_
  refine lv_iload_n hx hb dL_law_194 rfl (lv_at hl 3 rfl) ?_
  refine lv_iconst (v := 1) hx hb dL_law_195 (by decide) ?_
  refine lv_iadd hx hb dL_law_196 ?_
  refine va_sld hx hb hX hbl hbA I.2.2 v1 dL_law_197 ?_
  refine lv_aload_n hx hb dL_law_198 rfl (lv_at hl 0 rfl) ?_
  refine lv_iload_n hx hb dL_law_199 rfl (lv_at hl 3 rfl) ?_
  refine lv_iconst (v := 2) hx hb dL_law_200 (by decide) ?_
  refine lv_iadd hx hb dL_law_201 ?_
  refine va_sld hx hb hX hbl hbA I.2.2 v2 dL_law_202 ?_
  refine w_vi X I hA 0 (by omega) rfl rfl (As := [.int (xs (nI i + 1).toNatClampNeg), .int (xs (nI i + 2).toNatClampNeg)]) (rest := []) (ctX4_swell l g α (32 + 4 * n) σ _ (xs (nI i + 1).toNatClampNeg) (xs (nI i + 2).toNatClampNeg) d (by omega) hR.2.1.1 hd200) (wM_V kmL_23 ki_X4_swell ks_X4_swell kn_X4 kc_X4_swell) rfl rfl (n := 2) (by decide +kernel) rfl ⟨Nat.le_of_ble_eq_true rfl, Nat.le_of_ble_eq_true rfl⟩ hl.1 rfl (Nat.le_of_ble_eq_true rfl) hc0 dL_law_203 (fun r1 τ H locs k1 I => ?_)
  have k1 : (r1, τ) = swF σ d (xs (nI i + 1).toNatClampNeg) (xs (nI i + 2).toNatClampNeg) := k1
  obtain rfl : r1 = (swF σ d (xs (nI i + 1).toNatClampNeg) (xs (nI i + 2).toNatClampNeg)).1 := congrArg Prod.fst k1
  obtain rfl : τ = (swF σ d (xs (nI i + 1).toNatClampNeg) (xs (nI i + 2).toNatClampNeg)).2 := congrArg Prod.snd k1
  have h1 : Rel σ (swF σ d (xs (nI i + 1).toNatClampNeg) (xs (nI i + 2).toNatClampNeg)).2 n d ly dr := Rel_K hR KX_rf (kM_swell)
  refine lv_aload_n hx hb dL_law_206 rfl (lv_at hl 2 rfl) ?_
  refine lv_aload_n hx hb dL_law_207 rfl (lv_at hl 0 rfl) ?_
  refine lv_iload_n hx hb dL_law_208 rfl (lv_at hl 3 rfl) ?_
  refine lv_iconst (v := 1) hx hb dL_law_209 (by decide) ?_
  refine lv_iadd hx hb dL_law_210 ?_
  refine va_sld hx hb hX hbl hbA I.2.2 v1 dL_law_211 ?_
  refine lv_aload_n hx hb dL_law_212 rfl (lv_at hl 0 rfl) ?_
  refine lv_iload_n hx hb dL_law_213 rfl (lv_at hl 3 rfl) ?_
  refine lv_iconst (v := 2) hx hb dL_law_214 (by decide) ?_
  refine lv_iadd hx hb dL_law_215 ?_
  refine va_sld hx hb hX hbl hbA I.2.2 v2 dL_law_216 ?_
  refine w_vi X I hA 14 (by omega) rfl rfl (As := [.int (xs (nI i + 1).toNatClampNeg), .int (xs (nI i + 2).toNatClampNeg)]) (rest := [.int (swF σ d (xs (nI i + 1).toNatClampNeg) (xs (nI i + 2).toNatClampNeg)).1]) (ctX5_swell l g α (32 + 4 * n) (swF σ d (xs (nI i + 1).toNatClampNeg) (xs (nI i + 2).toNatClampNeg)).2 _ (xs (nI i + 1).toNatClampNeg) (xs (nI i + 2).toNatClampNeg) d (by omega) h1.2.2.1.1 hd200) (wM_V kmL_26 ki_X5_swell ks_X5_swell kn_X5 kc_X5_swell) rfl rfl (n := 2) (by decide +kernel) rfl ⟨Nat.le_of_ble_eq_true rfl, Nat.le_of_ble_eq_true rfl⟩ hl.1 rfl (Nat.le_of_ble_eq_true rfl) hc0 dL_law_217 (fun r2 τ2 H locs k2 I => ?_)
  have k2 : (r2, τ2) = mSwF (swF σ d (xs (nI i + 1).toNatClampNeg) (xs (nI i + 2).toNatClampNeg)).2 d (xs (nI i + 1).toNatClampNeg) (xs (nI i + 2).toNatClampNeg) := k2
  obtain rfl : r2 = (mSwF (swF σ d (xs (nI i + 1).toNatClampNeg) (xs (nI i + 2).toNatClampNeg)).2 d (xs (nI i + 1).toNatClampNeg) (xs (nI i + 2).toNatClampNeg)).1 := congrArg Prod.fst k2
  obtain rfl : τ2 = (mSwF (swF σ d (xs (nI i + 1).toNatClampNeg) (xs (nI i + 2).toNatClampNeg)).2 d (xs (nI i + 1).toNatClampNeg) (xs (nI i + 2).toNatClampNeg)).2 := congrArg Prod.snd k2
  obtain ⟨k3, k4⟩ := s_swell h1
  refine lv_icmp_eq (tgt := 783) hx hb dL_law_220 (by decide) (fun _ => ?_) (fun z => absurd (k3) z)
  refine W.widen (k := cells + 4) (n := slots + 224) (by omega) (by omega) ?_
  exact kk H locs ⟨α, n, _, d, ly, dr, rfl, rfl, I, Rel_fin k4 kX_swell⟩
set_option maxHeartbeats 1000000 in
set_option maxRecDepth 100000 in
theorem lk_3 (C : LX p s m c b L xs g) (J : LW g s H locs q0 q14) (hi : i + 4 ≤ L) (hL : L ≤ 2048) (hcs : cells + 4 ≤ room_1.cells ∧ slots + 224 ≤ room_1.slots) (hl : lv_has ls 4 [(0, .ref b), (1, .ref q0), (2, .ref q14), (3, .int (nI i))]) (kk : ∀ (H : Heap) (locs : List Loc), LW g s H locs q0 q14 → W p l e room_1 s m #[Value.ref b] below meth c H locs (cells + 4) (slots + 224) Q (F0 m 783 ls [])) : W p l e room_1 s m #[Value.ref b] below meth c H locs cells slots Q (F0 m 225 ls []) := by
  obtain ⟨X, hX, hbl, hT⟩ := C
  have hx := X.1.1
  have hb := X.1.2.1
  have hbA : ¬ lA s b := Nat.not_le.mpr hbl
  have hA : ∀ q, s.heap.size ≤ q → lA s q := fun _ h => h
  have hc0 : cells ≤ room_1.cells ∧ slots ≤ room_1.slots := ⟨Nat.le_trans (Nat.le_add_right _ 4) hcs.1, Nat.le_trans (Nat.le_add_right _ 224) hcs.2⟩
  obtain ⟨α, n, σ, d, ly, dr, rfl, rfl, I, hR⟩ := J
  have hd200 : d ≤ 200 := hR.1.1
  have hn10 : n ≤ 10 := hR.1.2.1
  have hly6 : ly ≤ 6 := hR.1.2.2.1
  have hdr30 : dr ≤ 30 := hR.1.2.2.2
  have v1 : vp_in (nI i + 1) L := by rw [nI_1]; exact vp_in_nI (by omega) (by omega)
  have v2 : vp_in (nI i + 2) L := by rw [show nI i + 2 = nI (i + 2) from nI_add i 2]; exact vp_in_nI (by omega) (by omega)
  have v3 : vp_in (nI i + 3) L := by rw [show nI i + 3 = nI (i + 3) from nI_add i 3]; exact vp_in_nI (by omega) (by omega)
  have h5 := hR.2.2.2.2.2.2.2.2.2.1
  have h6 := hR.2.2.2.2.2.2.2.2.2.2
  have hcN : cells + 4 ≤ room_1.cells ∧ slots + 222 ≤ room_1.slots := ⟨hcs.1, Nat.le_trans (by omega) hcs.2⟩
  refine lv_aload_n hx hb dL_law_225 rfl (lv_at hl 1 rfl) ?_
  refine lv_aload_n hx hb dL_law_226 rfl (lv_at hl 0 rfl) ?_
  refine lv_iload_n hx hb dL_law_227 rfl (lv_at hl 3 rfl) ?_
  refine lv_iconst (v := 1) hx hb dL_law_228 (by decide) ?_
  refine lv_iadd hx hb dL_law_229 ?_
  refine va_sld hx hb hX hbl hbA I.2.2 v1 dL_law_230 ?_
  refine lv_aload_n hx hb dL_law_231 rfl (lv_at hl 0 rfl) ?_
  refine lv_iload_n hx hb dL_law_232 rfl (lv_at hl 3 rfl) ?_
  refine lv_iconst (v := 2) hx hb dL_law_233 (by decide) ?_
  refine lv_iadd hx hb dL_law_234 ?_
  refine va_sld hx hb hX hbl hbA I.2.2 v2 dL_law_235 ?_
  refine lv_aload_n hx hb dL_law_236 rfl (lv_at hl 0 rfl) ?_
  refine lv_iload_n hx hb dL_law_237 rfl (lv_at hl 3 rfl) ?_
  refine lv_iconst (v := 3) hx hb dL_law_238 (by decide) ?_
  refine lv_iadd hx hb dL_law_239 ?_
  refine va_sld hx hb hX hbl hbA I.2.2 v3 dL_law_240 ?_
  refine w_viN X I hA 0 (by omega) rfl rfl (As := [.int (xs (nI i + 1).toNatClampNeg), .int (xs (nI i + 2).toNatClampNeg), .int (xs (nI i + 3).toNatClampNeg)]) (rest := []) (ctX4_ship l g α (32 + 4 * n) σ _ (xs (nI i + 1).toNatClampNeg) (xs (nI i + 2).toNatClampNeg) (xs (nI i + 3).toNatClampNeg) n d hR.2.1.2.1 hn10 (by omega) hR.2.1.1 rfl h6) (wM_V kmL_27 ki_X4_ship ks_X4_ship kn_X4 kc_X4_ship) rfl rfl (n := 3) (by decide +kernel) rfl ⟨Nat.le_of_ble_eq_true rfl, Nat.le_of_ble_eq_true rfl⟩ hl.1 rfl (Nat.le_of_ble_eq_true rfl) hcN dL_law_241 (fun r1 u H locs k1 I => ?_)
  obtain ⟨τ, α2, N2⟩ := u
  obtain ⟨k1, k5⟩ := k1
  have hcM : cells + 4 ≤ room_1.cells ∧ slots + 222 ≤ room_1.slots := hcN
  have I : wI g α2 N2 (lA s) s.heap H locs τ := I
  have hnn : n < 11 := by omega
  have k5 : (((¬ (xs (nI i + 1).toNatClampNeg) < 0 ∧ ¬ 2 < (xs (nI i + 1).toNatClampNeg)) ∧ (¬ (xs (nI i + 2).toNatClampNeg) < 1 ∧ ¬ 900 < (xs (nI i + 2).toNatClampNeg)) ∧ (¬ (xs (nI i + 3).toNatClampNeg) < 1 ∧ ¬ 90 < (xs (nI i + 3).toNatClampNeg)) ∧ nI n < 10) ∧ τ = shS σ n (xs (nI i + 1).toNatClampNeg) d (xs (nI i + 2).toNatClampNeg) (xs (nI i + 3).toNatClampNeg) ∧ N2 = 32 + 4 * n + 4 ∧ ∀ i, i < 32 + 4 * n → α2 i = α i) ∨ (¬ ((¬ (xs (nI i + 1).toNatClampNeg) < 0 ∧ ¬ 2 < (xs (nI i + 1).toNatClampNeg)) ∧ (¬ (xs (nI i + 2).toNatClampNeg) < 1 ∧ ¬ 900 < (xs (nI i + 2).toNatClampNeg)) ∧ (¬ (xs (nI i + 3).toNatClampNeg) < 1 ∧ ¬ 90 < (xs (nI i + 3).toNatClampNeg)) ∧ nI n < 10) ∧ (τ, α2, N2) = (σ, α, 32 + 4 * n)) := k5
  rcases k5 with ⟨ok, rfl, rfl, hα⟩ | ⟨ok, k5⟩
  ·
    have e0 : α2 0 = α 0 := hα 0 (by omega)
    have e14 : α2 14 = α 14 := hα 14 (by omega)
    have hl : lv_has ls 4 [(0, .ref b), (1, .ref (α2 0)), (2, .ref (α2 14)), (3, .int (nI i))] := by rw [e0, e14]; exact hl
    have h1 : Rel σ (shS σ n (xs (nI i + 1).toNatClampNeg) d (xs (nI i + 2).toNatClampNeg) (xs (nI i + 3).toNatClampNeg)) n d ly dr := Rel_K hR KX_rf kM_ship
    refine lv_aload_n hx hb dL_law_244 rfl (lv_at hl 2 rfl) ?_
    refine lv_aload_n hx hb dL_law_245 rfl (lv_at hl 0 rfl) ?_
    refine lv_iload_n hx hb dL_law_246 rfl (lv_at hl 3 rfl) ?_
    refine lv_iconst (v := 1) hx hb dL_law_247 (by decide) ?_
    refine lv_iadd hx hb dL_law_248 ?_
    refine va_sld hx hb hX hbl hbA I.2.2 v1 dL_law_249 ?_
    refine lv_aload_n hx hb dL_law_250 rfl (lv_at hl 0 rfl) ?_
    refine lv_iload_n hx hb dL_law_251 rfl (lv_at hl 3 rfl) ?_
    refine lv_iconst (v := 2) hx hb dL_law_252 (by decide) ?_
    refine lv_iadd hx hb dL_law_253 ?_
    refine va_sld hx hb hX hbl hbA I.2.2 v2 dL_law_254 ?_
    refine lv_aload_n hx hb dL_law_255 rfl (lv_at hl 0 rfl) ?_
    refine lv_iload_n hx hb dL_law_256 rfl (lv_at hl 3 rfl) ?_
    refine lv_iconst (v := 3) hx hb dL_law_257 (by decide) ?_
    refine lv_iadd hx hb dL_law_258 ?_
    refine va_sld hx hb hX hbl hbA I.2.2 v3 dL_law_259 ?_
    have hc0 := hcM
    refine w_vi X I hA 14 (by omega) rfl rfl (As := [.int (xs (nI i + 1).toNatClampNeg), .int (xs (nI i + 2).toNatClampNeg), .int (xs (nI i + 3).toNatClampNeg)]) (rest := [.int r1]) (ctX5_ship l g α2 (32 + 4 * n + 4) (shS σ n (xs (nI i + 1).toNatClampNeg) d (xs (nI i + 2).toNatClampNeg) (xs (nI i + 3).toNatClampNeg)) _ (xs (nI i + 1).toNatClampNeg) (xs (nI i + 2).toNatClampNeg) (xs (nI i + 3).toNatClampNeg) n d h1.2.2.1.2.1 hn10 (by omega) h1.2.2.1.1 hd200) (wM_V kmL_31 ki_X5_ship ks_X5_ship kn_X5 kc_X5_ship) rfl rfl (n := 3) (by decide +kernel) rfl ⟨Nat.le_of_ble_eq_true rfl, Nat.le_of_ble_eq_true rfl⟩ hl.1 rfl (Nat.le_of_ble_eq_true rfl) hc0 dL_law_260 (fun r2 τ2 H locs k2 I => ?_)
    have k2 : (r2, τ2) = mShF (shS σ n (xs (nI i + 1).toNatClampNeg) d (xs (nI i + 2).toNatClampNeg) (xs (nI i + 3).toNatClampNeg)) n d (xs (nI i + 1).toNatClampNeg) (xs (nI i + 2).toNatClampNeg) (xs (nI i + 3).toNatClampNeg) := k2
    have k6 : r2 = (mShF (shS σ n (xs (nI i + 1).toNatClampNeg) d (xs (nI i + 2).toNatClampNeg) (xs (nI i + 3).toNatClampNeg)) n d (xs (nI i + 1).toNatClampNeg) (xs (nI i + 2).toNatClampNeg) (xs (nI i + 3).toNatClampNeg)).1 := congrArg Prod.fst k2
    have k7 : τ2 = (mShF (shS σ n (xs (nI i + 1).toNatClampNeg) d (xs (nI i + 2).toNatClampNeg) (xs (nI i + 3).toNatClampNeg)) n d (xs (nI i + 1).toNatClampNeg) (xs (nI i + 2).toNatClampNeg) (xs (nI i + 3).toNatClampNeg)).2 := congrArg Prod.snd k2
    have k8 : Rel τ2 τ2 (n + 1) d ly dr := by
      have q := Rel_fin (s_ship h1 ok) (by have := kX_ship (σ := (shS σ n (xs (nI i + 1).toNatClampNeg) d (xs (nI i + 2).toNatClampNeg) (xs (nI i + 3).toNatClampNeg))) (n := n) (d := d) (k := (xs (nI i + 1).toNatClampNeg)) (w := (xs (nI i + 2).toNatClampNeg)) (wa := (xs (nI i + 3).toNatClampNeg)); rw [shp_ok ok] at this; exact this)
      rw [k7, shp_ok ok]; exact q
    refine lv_icmp_eq (tgt := 783) hx hb dL_law_263 (by decide) (fun _ => ?_) (fun z => absurd (k1.trans (shp_1.trans k6.symm)) z)
    refine W.widen (k := cells + 4) (n := slots + 224) (by omega) (by omega) ?_
    exact kk H locs ⟨α2, n + 1, τ2, d, ly, dr, e0, e14, (show 32 + 4 * n + 4 = 32 + 4 * (n + 1) by omega) ▸ I, k8⟩
  ·
    cases k5
    refine lv_aload_n hx hb dL_law_244 rfl (lv_at hl 2 rfl) ?_
    refine lv_aload_n hx hb dL_law_245 rfl (lv_at hl 0 rfl) ?_
    refine lv_iload_n hx hb dL_law_246 rfl (lv_at hl 3 rfl) ?_
    refine lv_iconst (v := 1) hx hb dL_law_247 (by decide) ?_
    refine lv_iadd hx hb dL_law_248 ?_
    refine va_sld hx hb hX hbl hbA I.2.2 v1 dL_law_249 ?_
    refine lv_aload_n hx hb dL_law_250 rfl (lv_at hl 0 rfl) ?_
    refine lv_iload_n hx hb dL_law_251 rfl (lv_at hl 3 rfl) ?_
    refine lv_iconst (v := 2) hx hb dL_law_252 (by decide) ?_
    refine lv_iadd hx hb dL_law_253 ?_
    refine va_sld hx hb hX hbl hbA I.2.2 v2 dL_law_254 ?_
    refine lv_aload_n hx hb dL_law_255 rfl (lv_at hl 0 rfl) ?_
    refine lv_iload_n hx hb dL_law_256 rfl (lv_at hl 3 rfl) ?_
    refine lv_iconst (v := 3) hx hb dL_law_257 (by decide) ?_
    refine lv_iadd hx hb dL_law_258 ?_
    refine va_sld hx hb hX hbl hbA I.2.2 v3 dL_law_259 ?_
    have hc0 := hcM
    refine w_vi X I hA 14 (by omega) rfl rfl (As := [.int (xs (nI i + 1).toNatClampNeg), .int (xs (nI i + 2).toNatClampNeg), .int (xs (nI i + 3).toNatClampNeg)]) (rest := [.int r1]) (ctX5_ship l g α (32 + 4 * n) σ _ (xs (nI i + 1).toNatClampNeg) (xs (nI i + 2).toNatClampNeg) (xs (nI i + 3).toNatClampNeg) n d hR.2.2.1.2.1 hn10 (by omega) hR.2.2.1.1 hd200) (wM_V kmL_31 ki_X5_ship ks_X5_ship kn_X5 kc_X5_ship) rfl rfl (n := 3) (by decide +kernel) rfl ⟨Nat.le_of_ble_eq_true rfl, Nat.le_of_ble_eq_true rfl⟩ hl.1 rfl (Nat.le_of_ble_eq_true rfl) hc0 dL_law_260 (fun r2 τ2 H locs k2 I => ?_)
    have k2 : (r2, τ2) = mShF σ n d (xs (nI i + 1).toNatClampNeg) (xs (nI i + 2).toNatClampNeg) (xs (nI i + 3).toNatClampNeg) := k2
    have k6 : r2 = (mShF σ n d (xs (nI i + 1).toNatClampNeg) (xs (nI i + 2).toNatClampNeg) (xs (nI i + 3).toNatClampNeg)).1 := congrArg Prod.fst k2
    obtain rfl : τ2 = wu σ 14 0 0 := (congrArg Prod.snd k2).trans (shp_no ok)
    refine lv_icmp_eq (tgt := 783) hx hb dL_law_263 (by decide) (fun _ => ?_) (fun z => absurd (k1.trans k6.symm) z)
    refine W.widen (k := cells + 4) (n := slots + 224) (by omega) (by omega) ?_
    exact kk H locs ⟨α, n, _, d, ly, dr, rfl, rfl, I, Rel_q hR⟩
set_option maxHeartbeats 1000000 in
set_option maxRecDepth 100000 in
theorem lk_4 (C : LX p s m c b L xs g) (J : LW g s H locs q0 q14) (hi : i + 4 ≤ L) (hL : L ≤ 2048) (hcs : cells + 4 ≤ room_1.cells ∧ slots + 224 ≤ room_1.slots) (hl : lv_has ls 4 [(0, .ref b), (1, .ref q0), (2, .ref q14), (3, .int (nI i))]) (kk : ∀ (H : Heap) (locs : List Loc), LW g s H locs q0 q14 → W p l e room_1 s m #[Value.ref b] below meth c H locs (cells + 4) (slots + 224) Q (F0 m 783 ls [])) : W p l e room_1 s m #[Value.ref b] below meth c H locs cells slots Q (F0 m 268 ls []) := by
  obtain ⟨X, hX, hbl, hT⟩ := C
  have hx := X.1.1
  have hb := X.1.2.1
  have hbA : ¬ lA s b := Nat.not_le.mpr hbl
  have hA : ∀ q, s.heap.size ≤ q → lA s q := fun _ h => h
  have hc0 : cells ≤ room_1.cells ∧ slots ≤ room_1.slots := ⟨Nat.le_trans (Nat.le_add_right _ 4) hcs.1, Nat.le_trans (Nat.le_add_right _ 224) hcs.2⟩
  obtain ⟨α, n, σ, d, ly, dr, rfl, rfl, I, hR⟩ := J
  have hd200 : d ≤ 200 := hR.1.1
  have hn10 : n ≤ 10 := hR.1.2.1
  have hly6 : ly ≤ 6 := hR.1.2.2.1
  have hdr30 : dr ≤ 30 := hR.1.2.2.2
  have v1 : vp_in (nI i + 1) L := by rw [nI_1]; exact vp_in_nI (by omega) (by omega)
  have v2 : vp_in (nI i + 2) L := by rw [show nI i + 2 = nI (i + 2) from nI_add i 2]; exact vp_in_nI (by omega) (by omega)
  have v3 : vp_in (nI i + 3) L := by rw [show nI i + 3 = nI (i + 3) from nI_add i 3]; exact vp_in_nI (by omega) (by omega)
  have h5 := hR.2.2.2.2.2.2.2.2.2.1
  have h6 := hR.2.2.2.2.2.2.2.2.2.2
  have hki : ∀ i, i < n → (σ.1 (32 + 4 * i) 1 = 0 ∨ σ.1 (32 + 4 * i) 1 = 1 ∨ σ.1 (32 + 4 * i) 1 = 2) := fun i hi => by rw [(hR.2.2.2.2.2.2.2.1 i hi).1.2.1]; exact (hR.2.2.2.2.2.2.2.1 i hi).1.2.2
  obtain ⟨t, hZ, hTT⟩ := hT
  have hEb : ∀ (U : State) (f : JFrame) (mk : MethodId) (a : Array Value), trE (wA α (32 + 4 * n) H.size) U → trE (wA α (32 + 4 * n) H.size) (U.calling f mk a) := fun U f mk a q => by
    obtain ⟨t, q1, q2⟩ := q
    exact ⟨t, va_Z.moved (u := U) (U := U.calling f mk a) (Vm.Alike.refl U.vm) q1, va_T.moved (u := U) (U := U.calling f mk a) (Vm.Alike.refl U.vm) q2⟩
  have hE : ∀ U : State, U.heap = H → s.vm.Alike U.vm → trE (wA α (32 + 4 * n) H.size) U := fun U hU hvm => by
    refine ⟨t, ?_, ?_⟩
    · rw [hU]; exact ((hZ.kept I.2.2.2.1).narrow (fun q h => wA_in I hA q h)).moved hvm
    · rw [hU]; exact ((hTT.kept I.2.2.2.1).narrow (fun q h => wA_in I hA q h)).moved hvm
  refine lv_aload_n hx hb dL_law_268 rfl (lv_at hl 1 rfl) ?_
  refine lv_aload_n hx hb dL_law_269 rfl (lv_at hl 0 rfl) ?_
  refine lv_iload_n hx hb dL_law_270 rfl (lv_at hl 3 rfl) ?_
  refine lv_iconst (v := 1) hx hb dL_law_271 (by decide) ?_
  refine lv_iadd hx hb dL_law_272 ?_
  refine va_sld hx hb hX hbl hbA I.2.2 v1 dL_law_273 ?_
  refine w_viE hEb hE X I hA 0 (by omega) rfl rfl (As := [.int (xs (nI i + 1).toNatClampNeg)]) (rest := []) (ctX4_turn l g α (32 + 4 * n) σ _ (xs (nI i + 1).toNatClampNeg) n d hR.2.1.2.1 hn10 (by omega) hR.2.1.1 hd200 h5 hki) (wM_V kmL_32 ki_X4_turn ks_X4_turn kn_X4 kc_X4_turn) rfl rfl (n := 1) (by decide +kernel) rfl ⟨Nat.le_of_ble_eq_true rfl, Nat.le_of_ble_eq_true rfl⟩ hl.1 rfl (Nat.le_of_ble_eq_true rfl) hc0 dL_law_274 (fun r1 τ H locs k1 I => ?_)
  have k1 : (r1, τ) = tuF σ n d (xs (nI i + 1).toNatClampNeg) := k1
  obtain rfl : r1 = (tuF σ n d (xs (nI i + 1).toNatClampNeg)).1 := congrArg Prod.fst k1
  obtain rfl : τ = (tuF σ n d (xs (nI i + 1).toNatClampNeg)).2 := congrArg Prod.snd k1
  have h1 : Rel σ (tuF σ n d (xs (nI i + 1).toNatClampNeg)).2 n d ly dr := Rel_K hR KX_rf (kM_turn hn10)
  have hkm : ∀ q, q < n → ((tuF σ n d (xs (nI i + 1).toNatClampNeg)).2.1 18 q = 0 ∨ (tuF σ n d (xs (nI i + 1).toNatClampNeg)).2.1 18 q = 1 ∨ (tuF σ n d (xs (nI i + 1).toNatClampNeg)).2.1 18 q = 2) := fun q hq => (h1.2.2.2.2.2.2.2.1 q hq).1.2.2
  refine lv_aload_n hx hb dL_law_277 rfl (lv_at hl 2 rfl) ?_
  refine lv_aload_n hx hb dL_law_278 rfl (lv_at hl 0 rfl) ?_
  refine lv_iload_n hx hb dL_law_279 rfl (lv_at hl 3 rfl) ?_
  refine lv_iconst (v := 1) hx hb dL_law_280 (by decide) ?_
  refine lv_iadd hx hb dL_law_281 ?_
  refine va_sld hx hb hX hbl hbA I.2.2 v1 dL_law_282 ?_
  refine w_vi X I hA 14 (by omega) rfl rfl (As := [.int (xs (nI i + 1).toNatClampNeg)]) (rest := [.int (tuF σ n d (xs (nI i + 1).toNatClampNeg)).1]) (ctX5_turn l g α (32 + 4 * n) (tuF σ n d (xs (nI i + 1).toNatClampNeg)).2 _ (xs (nI i + 1).toNatClampNeg) n d h1.2.2.1.2.1 hn10 (by omega) h1.2.2.1.1 hd200 hkm) (wM_V kmL_35 ki_X5_turn ks_X5_turn kn_X5 kc_X5_turn) rfl rfl (n := 1) (by decide +kernel) rfl ⟨Nat.le_of_ble_eq_true rfl, Nat.le_of_ble_eq_true rfl⟩ hl.1 rfl (Nat.le_of_ble_eq_true rfl) hc0 dL_law_283 (fun r2 τ2 H locs k2 I => ?_)
  have k2 : (r2, τ2) = mTuF (tuF σ n d (xs (nI i + 1).toNatClampNeg)).2 n d (xs (nI i + 1).toNatClampNeg) := k2
  obtain rfl : r2 = (mTuF (tuF σ n d (xs (nI i + 1).toNatClampNeg)).2 n d (xs (nI i + 1).toNatClampNeg)).1 := congrArg Prod.fst k2
  obtain rfl : τ2 = (mTuF (tuF σ n d (xs (nI i + 1).toNatClampNeg)).2 n d (xs (nI i + 1).toNatClampNeg)).2 := congrArg Prod.snd k2
  obtain ⟨k3, k4⟩ := s_turn h1
  refine lv_icmp_eq (tgt := 783) hx hb dL_law_286 (by decide) (fun _ => ?_) (fun z => absurd (k3) z)
  refine W.widen (k := cells + 4) (n := slots + 224) (by omega) (by omega) ?_
  exact kk H locs ⟨α, n, _, d, ly, dr, rfl, rfl, I, Rel_fin k4 (kX_turn hn10)⟩
set_option maxHeartbeats 1000000 in
set_option maxRecDepth 100000 in
theorem lk_5 (C : LX p s m c b L xs g) (J : LW g s H locs q0 q14) (hi : i + 4 ≤ L) (hL : L ≤ 2048) (hcs : cells + 4 ≤ room_1.cells ∧ slots + 224 ≤ room_1.slots) (hl : lv_has ls 4 [(0, .ref b), (1, .ref q0), (2, .ref q14), (3, .int (nI i))]) (kk : ∀ (H : Heap) (locs : List Loc), LW g s H locs q0 q14 → W p l e room_1 s m #[Value.ref b] below meth c H locs (cells + 4) (slots + 224) Q (F0 m 783 ls [])) : W p l e room_1 s m #[Value.ref b] below meth c H locs cells slots Q (F0 m 291 ls []) := by
  obtain ⟨X, hX, hbl, hT⟩ := C
  have hx := X.1.1
  have hb := X.1.2.1
  have hbA : ¬ lA s b := Nat.not_le.mpr hbl
  have hA : ∀ q, s.heap.size ≤ q → lA s q := fun _ h => h
  have hc0 : cells ≤ room_1.cells ∧ slots ≤ room_1.slots := ⟨Nat.le_trans (Nat.le_add_right _ 4) hcs.1, Nat.le_trans (Nat.le_add_right _ 224) hcs.2⟩
  obtain ⟨α, n, σ, d, ly, dr, rfl, rfl, I, hR⟩ := J
  have hd200 : d ≤ 200 := hR.1.1
  have hn10 : n ≤ 10 := hR.1.2.1
  have hly6 : ly ≤ 6 := hR.1.2.2.1
  have hdr30 : dr ≤ 30 := hR.1.2.2.2
  have v1 : vp_in (nI i + 1) L := by rw [nI_1]; exact vp_in_nI (by omega) (by omega)
  have v2 : vp_in (nI i + 2) L := by rw [show nI i + 2 = nI (i + 2) from nI_add i 2]; exact vp_in_nI (by omega) (by omega)
  have v3 : vp_in (nI i + 3) L := by rw [show nI i + 3 = nI (i + 3) from nI_add i 3]; exact vp_in_nI (by omega) (by omega)
  have h5 := hR.2.2.2.2.2.2.2.2.2.1
  have h6 := hR.2.2.2.2.2.2.2.2.2.2
  refine lv_aload_n hx hb dL_law_291 rfl (lv_at hl 1 rfl) ?_
  refine lv_aload_n hx hb dL_law_292 rfl (lv_at hl 0 rfl) ?_
  refine lv_iload_n hx hb dL_law_293 rfl (lv_at hl 3 rfl) ?_
  refine lv_iconst (v := 1) hx hb dL_law_294 (by decide) ?_
  refine lv_iadd hx hb dL_law_295 ?_
  refine va_sld hx hb hX hbl hbA I.2.2 v1 dL_law_296 ?_
  refine w_vi X I hA 0 (by omega) rfl rfl (As := [.int (xs (nI i + 1).toNatClampNeg)]) (rest := []) (ctX4_days l g α (32 + 4 * n) σ _ (xs (nI i + 1).toNatClampNeg) n d ly hR.2.1.2.1 hn10 (by omega) hR.2.1.1 hd200 hR.2.1.2.2.1 hly6 h5 (fun k y => h6 6 k y (Or.inr rfl))) (wM_V kmL_36 ki_X4_days ks_X4_days kn_X4 kc_X4_days) rfl rfl (n := 1) (by decide +kernel) rfl ⟨Nat.le_of_ble_eq_true rfl, Nat.le_of_ble_eq_true rfl⟩ hl.1 rfl (Nat.le_of_ble_eq_true rfl) hc0 dL_law_297 (fun r1 τ H locs k1 I => ?_)
  rcases k1 with ⟨m2, eb, p1, p2, hm, k1, hch⟩ | ⟨p1, p2, k1, eτ⟩ | ⟨p1, k1, eτ⟩
  ·
    have h1 : Rel σ τ n d ly dr := Rel_K hR KX_rf (kM_days m2 τ hch)
    obtain ⟨ms, fs, zs, g0, g1, g2⟩ := days_all (Rel_z h1) m2 τ hm hch
    refine lv_aload_n hx hb dL_law_300 rfl (lv_at hl 2 rfl) ?_
    refine lv_aload_n hx hb dL_law_301 rfl (lv_at hl 0 rfl) ?_
    refine lv_iload_n hx hb dL_law_302 rfl (lv_at hl 3 rfl) ?_
    refine lv_iconst (v := 1) hx hb dL_law_303 (by decide) ?_
    refine lv_iadd hx hb dL_law_304 ?_
    refine va_sld hx hb hX hbl hbA I.2.2 v1 dL_law_305 ?_
    refine w_vi X I hA 14 (by omega) rfl rfl (As := [.int (xs (nI i + 1).toNatClampNeg)]) (rest := [.int r1]) (ctX5_days2 l g α (32 + 4 * n) τ _ (xs (nI i + 1).toNatClampNeg) n d ly ms fs zs (by omega) hn10 hly6 h1.2.2.1.1 hd200 g0 (fun m3 e3 _ h3 j hj => g1 j (by (obtain rfl : m2 = m3 := (nI_eq (by omega) (by omega)).mp (eb.symm.trans e3)); exact hj))) (wM_V kmL_39 ki_X5_days ks_X5_days kn_X5 kc_X5_days) rfl rfl (n := 1) (by decide +kernel) rfl ⟨Nat.le_of_ble_eq_true rfl, Nat.le_of_ble_eq_true rfl⟩ hl.1 rfl (Nat.le_of_ble_eq_true rfl) hc0 dL_law_306 (fun r2 τ2 H locs k2 I => ?_)
    rw [if_pos p1, if_pos p2, eb, nI_clamp (by omega)] at k2
    obtain rfl : r2 = nI (d + m2) := congrArg Prod.fst k2
    obtain rfl : τ2 = ms m2 := congrArg Prod.snd k2
    have k5 : KX τ (ms 0) := by rw [g0]; exact KX_wu KX_rf (by omega) (by omega)
    refine lv_icmp_eq (tgt := 783) hx hb dL_law_309 (by decide) (fun _ => ?_) (fun z => absurd k1 z)
    refine W.widen (k := cells + 4) (n := slots + 224) (by omega) (by omega) ?_
    exact kk H locs ⟨α, n, _, d + m2, ly, dr, rfl, rfl, I, Rel_fin g2 (KX_tr k5 (kX_days g1))⟩
  ·
    rw [eτ] at I
    refine lv_aload_n hx hb dL_law_300 rfl (lv_at hl 2 rfl) ?_
    refine lv_aload_n hx hb dL_law_301 rfl (lv_at hl 0 rfl) ?_
    refine lv_iload_n hx hb dL_law_302 rfl (lv_at hl 3 rfl) ?_
    refine lv_iconst (v := 1) hx hb dL_law_303 (by decide) ?_
    refine lv_iadd hx hb dL_law_304 ?_
    refine va_sld hx hb hX hbl hbA I.2.2 v1 dL_law_305 ?_
    refine w_vi X I hA 14 (by omega) rfl rfl (As := [.int (xs (nI i + 1).toNatClampNeg)]) (rest := [.int r1]) (ctX5_days2 l g α (32 + 4 * n) σ _ (xs (nI i + 1).toNatClampNeg) n d ly (fun _ => wu σ 14 0 0) (fun _ _ => 0) (fun _ => 0) (by omega) hn10 hly6 hR.2.2.1.1 hd200 rfl (fun m3 e3 q3 h3 j hj => absurd (by (rw [e3, nI_add]); exact nI_le (b := 200) h3 (by decide)) p2)) (wM_V kmL_39 ki_X5_days ks_X5_days kn_X5 kc_X5_days) rfl rfl (n := 1) (by decide +kernel) rfl ⟨Nat.le_of_ble_eq_true rfl, Nat.le_of_ble_eq_true rfl⟩ hl.1 rfl (Nat.le_of_ble_eq_true rfl) hc0 dL_law_306 (fun r2 τ2 H locs k2 I => ?_)
    rw [if_pos p1, if_neg p2] at k2
    have k3 : r2 = r1 := (congrArg Prod.fst k2).trans k1.symm
    obtain rfl : τ2 = wu σ 14 0 0 := congrArg Prod.snd k2
    refine lv_icmp_eq (tgt := 783) hx hb dL_law_309 (by decide) (fun _ => ?_) (fun z => absurd k3.symm z)
    refine W.widen (k := cells + 4) (n := slots + 224) (by omega) (by omega) ?_
    exact kk H locs ⟨α, n, _, d, ly, dr, rfl, rfl, I, Rel_q hR⟩
  ·
    rw [eτ] at I
    refine lv_aload_n hx hb dL_law_300 rfl (lv_at hl 2 rfl) ?_
    refine lv_aload_n hx hb dL_law_301 rfl (lv_at hl 0 rfl) ?_
    refine lv_iload_n hx hb dL_law_302 rfl (lv_at hl 3 rfl) ?_
    refine lv_iconst (v := 1) hx hb dL_law_303 (by decide) ?_
    refine lv_iadd hx hb dL_law_304 ?_
    refine va_sld hx hb hX hbl hbA I.2.2 v1 dL_law_305 ?_
    refine w_vi X I hA 14 (by omega) rfl rfl (As := [.int (xs (nI i + 1).toNatClampNeg)]) (rest := [.int r1]) (ctX5_days2 l g α (32 + 4 * n) σ _ (xs (nI i + 1).toNatClampNeg) n d ly (fun _ => wu σ 14 0 0) (fun _ _ => 0) (fun _ => 0) (by omega) hn10 hly6 hR.2.2.1.1 hd200 rfl (fun m3 e3 q3 h3 j hj => absurd q3 p1)) (wM_V kmL_39 ki_X5_days ks_X5_days kn_X5 kc_X5_days) rfl rfl (n := 1) (by decide +kernel) rfl ⟨Nat.le_of_ble_eq_true rfl, Nat.le_of_ble_eq_true rfl⟩ hl.1 rfl (Nat.le_of_ble_eq_true rfl) hc0 dL_law_306 (fun r2 τ2 H locs k2 I => ?_)
    rw [if_neg p1] at k2
    have k3 : r2 = r1 := (congrArg Prod.fst k2).trans k1.symm
    obtain rfl : τ2 = wu σ 14 0 0 := congrArg Prod.snd k2
    refine lv_icmp_eq (tgt := 783) hx hb dL_law_309 (by decide) (fun _ => ?_) (fun z => absurd k3.symm z)
    refine W.widen (k := cells + 4) (n := slots + 224) (by omega) (by omega) ?_
    exact kk H locs ⟨α, n, _, d, ly, dr, rfl, rfl, I, Rel_q hR⟩
set_option maxHeartbeats 1000000 in
set_option maxRecDepth 100000 in
theorem lk_6 (C : LX p s m c b L xs g) (J : LW g s H locs q0 q14) (hi : i + 4 ≤ L) (hL : L ≤ 2048) (hcs : cells + 4 ≤ room_1.cells ∧ slots + 224 ≤ room_1.slots) (hl : lv_has ls 4 [(0, .ref b), (1, .ref q0), (2, .ref q14), (3, .int (nI i))]) (kk : ∀ (H : Heap) (locs : List Loc), LW g s H locs q0 q14 → W p l e room_1 s m #[Value.ref b] below meth c H locs (cells + 4) (slots + 224) Q (F0 m 783 ls [])) : W p l e room_1 s m #[Value.ref b] below meth c H locs cells slots Q (F0 m 314 ls []) := by
  obtain ⟨X, hX, hbl, hT⟩ := C
  have hx := X.1.1
  have hb := X.1.2.1
  have hbA : ¬ lA s b := Nat.not_le.mpr hbl
  have hA : ∀ q, s.heap.size ≤ q → lA s q := fun _ h => h
  have hc0 : cells ≤ room_1.cells ∧ slots ≤ room_1.slots := ⟨Nat.le_trans (Nat.le_add_right _ 4) hcs.1, Nat.le_trans (Nat.le_add_right _ 224) hcs.2⟩
  obtain ⟨α, n, σ, d, ly, dr, rfl, rfl, I, hR⟩ := J
  have hd200 : d ≤ 200 := hR.1.1
  have hn10 : n ≤ 10 := hR.1.2.1
  have hly6 : ly ≤ 6 := hR.1.2.2.1
  have hdr30 : dr ≤ 30 := hR.1.2.2.2
  have v1 : vp_in (nI i + 1) L := by rw [nI_1]; exact vp_in_nI (by omega) (by omega)
  have v2 : vp_in (nI i + 2) L := by rw [show nI i + 2 = nI (i + 2) from nI_add i 2]; exact vp_in_nI (by omega) (by omega)
  have v3 : vp_in (nI i + 3) L := by rw [show nI i + 3 = nI (i + 3) from nI_add i 3]; exact vp_in_nI (by omega) (by omega)
  have h5 := hR.2.2.2.2.2.2.2.2.2.1
  have h6 := hR.2.2.2.2.2.2.2.2.2.2
  refine lv_aload_n hx hb dL_law_314 rfl (lv_at hl 1 rfl) ?_
  refine lv_aload_n hx hb dL_law_315 rfl (lv_at hl 0 rfl) ?_
  refine lv_iload_n hx hb dL_law_316 rfl (lv_at hl 3 rfl) ?_
  refine lv_iconst (v := 1) hx hb dL_law_317 (by decide) ?_
  refine lv_iadd hx hb dL_law_318 ?_
  refine va_sld hx hb hX hbl hbA I.2.2 v1 dL_law_319 ?_
  refine lv_aload_n hx hb dL_law_320 rfl (lv_at hl 0 rfl) ?_
  refine lv_iload_n hx hb dL_law_321 rfl (lv_at hl 3 rfl) ?_
  refine lv_iconst (v := 2) hx hb dL_law_322 (by decide) ?_
  refine lv_iadd hx hb dL_law_323 ?_
  refine va_sld hx hb hX hbl hbA I.2.2 v2 dL_law_324 ?_
  refine w_vSi X I 0 (by omega) rfl rfl (As := [.int (xs (nI i + 1).toNatClampNeg), .int (xs (nI i + 2).toNatClampNeg)]) (rest := []) (ctX4_about l g α (32 + 4 * n) σ (xs (nI i + 1).toNatClampNeg) (xs (nI i + 2).toNatClampNeg) n ly hR.2.1.2.1 hn10 (by omega) hR.2.1.2.2.1 hly6 h5) (wM_V kmL_40 ki_X4_about ks_X4_about kn_X4 kc_X4_about) rfl rfl (n := 2) (by decide +kernel) rfl ⟨Nat.le_of_ble_eq_true rfl, Nat.le_of_ble_eq_true rfl⟩ hl.1 rfl (Nat.le_of_ble_eq_true rfl) hc0 dL_law_325 (fun r1 k1 => ?_)
  refine lv_aload_n hx hb dL_law_328 rfl (lv_at hl 2 rfl) ?_
  refine lv_aload_n hx hb dL_law_329 rfl (lv_at hl 0 rfl) ?_
  refine lv_iload_n hx hb dL_law_330 rfl (lv_at hl 3 rfl) ?_
  refine lv_iconst (v := 1) hx hb dL_law_331 (by decide) ?_
  refine lv_iadd hx hb dL_law_332 ?_
  refine va_sld hx hb hX hbl hbA I.2.2 v1 dL_law_333 ?_
  refine lv_aload_n hx hb dL_law_334 rfl (lv_at hl 0 rfl) ?_
  refine lv_iload_n hx hb dL_law_335 rfl (lv_at hl 3 rfl) ?_
  refine lv_iconst (v := 2) hx hb dL_law_336 (by decide) ?_
  refine lv_iadd hx hb dL_law_337 ?_
  refine va_sld hx hb hX hbl hbA I.2.2 v2 dL_law_338 ?_
  refine w_vi X I hA 14 (by omega) rfl rfl (As := [.int (xs (nI i + 1).toNatClampNeg), .int (xs (nI i + 2).toNatClampNeg)]) (rest := [.int r1]) (ctX5_about l g α (32 + 4 * n) σ _ (xs (nI i + 1).toNatClampNeg) (xs (nI i + 2).toNatClampNeg) n ly hR.2.2.1.2.1 hn10 (by omega) hR.2.2.1.2.2.1 hly6) (wM_V kmL_43 ki_X5_about ks_X5_about kn_X5 kc_X5_about) rfl rfl (n := 2) (by decide +kernel) rfl ⟨Nat.le_of_ble_eq_true rfl, Nat.le_of_ble_eq_true rfl⟩ hl.1 rfl (Nat.le_of_ble_eq_true rfl) hc0 dL_law_339 (fun r2 τ H locs k2 I => ?_)
  obtain ⟨k2, rfl⟩ := k2
  refine lv_icmp_eq (tgt := 783) hx hb dL_law_342 (by decide) (fun _ => ?_) (fun z => absurd (k1.trans ((q_about hR).trans k2.symm)) z)
  refine W.widen (k := cells + 4) (n := slots + 224) (by omega) (by omega) ?_
  exact kk H locs ⟨α, n, _, d, ly, dr, rfl, rfl, I, Rel_q hR⟩
set_option maxHeartbeats 1000000 in
set_option maxRecDepth 100000 in
theorem lk_7 (C : LX p s m c b L xs g) (J : LW g s H locs q0 q14) (hi : i + 4 ≤ L) (hL : L ≤ 2048) (hcs : cells + 4 ≤ room_1.cells ∧ slots + 224 ≤ room_1.slots) (hl : lv_has ls 4 [(0, .ref b), (1, .ref q0), (2, .ref q14), (3, .int (nI i))]) (kk : ∀ (H : Heap) (locs : List Loc), LW g s H locs q0 q14 → W p l e room_1 s m #[Value.ref b] below meth c H locs (cells + 4) (slots + 224) Q (F0 m 783 ls [])) : W p l e room_1 s m #[Value.ref b] below meth c H locs cells slots Q (F0 m 347 ls []) := by
  obtain ⟨X, hX, hbl, hT⟩ := C
  have hx := X.1.1
  have hb := X.1.2.1
  have hbA : ¬ lA s b := Nat.not_le.mpr hbl
  have hA : ∀ q, s.heap.size ≤ q → lA s q := fun _ h => h
  have hc0 : cells ≤ room_1.cells ∧ slots ≤ room_1.slots := ⟨Nat.le_trans (Nat.le_add_right _ 4) hcs.1, Nat.le_trans (Nat.le_add_right _ 224) hcs.2⟩
  obtain ⟨α, n, σ, d, ly, dr, rfl, rfl, I, hR⟩ := J
  have hd200 : d ≤ 200 := hR.1.1
  have hn10 : n ≤ 10 := hR.1.2.1
  have hly6 : ly ≤ 6 := hR.1.2.2.1
  have hdr30 : dr ≤ 30 := hR.1.2.2.2
  have v1 : vp_in (nI i + 1) L := by rw [nI_1]; exact vp_in_nI (by omega) (by omega)
  have v2 : vp_in (nI i + 2) L := by rw [show nI i + 2 = nI (i + 2) from nI_add i 2]; exact vp_in_nI (by omega) (by omega)
  have v3 : vp_in (nI i + 3) L := by rw [show nI i + 3 = nI (i + 3) from nI_add i 3]; exact vp_in_nI (by omega) (by omega)
  have h5 := hR.2.2.2.2.2.2.2.2.2.1
  have h6 := hR.2.2.2.2.2.2.2.2.2.2
  refine lv_aload_n hx hb dL_law_347 rfl (lv_at hl 1 rfl) ?_
  refine lv_aload_n hx hb dL_law_348 rfl (lv_at hl 0 rfl) ?_
  refine lv_iload_n hx hb dL_law_349 rfl (lv_at hl 3 rfl) ?_
  refine lv_iconst (v := 1) hx hb dL_law_350 (by decide) ?_
  refine lv_iadd hx hb dL_law_351 ?_
  refine va_sld hx hb hX hbl hbA I.2.2 v1 dL_law_352 ?_
  refine lv_aload_n hx hb dL_law_353 rfl (lv_at hl 0 rfl) ?_
  refine lv_iload_n hx hb dL_law_354 rfl (lv_at hl 3 rfl) ?_
  refine lv_iconst (v := 2) hx hb dL_law_355 (by decide) ?_
  refine lv_iadd hx hb dL_law_356 ?_
  refine va_sld hx hb hX hbl hbA I.2.2 v2 dL_law_357 ?_
  refine w_vSi X I 0 (by omega) rfl rfl (As := [.int (xs (nI i + 1).toNatClampNeg), .int (xs (nI i + 2).toNatClampNeg)]) (rest := []) (ctX4_cargo l g α (32 + 4 * n) σ (xs (nI i + 1).toNatClampNeg) (xs (nI i + 2).toNatClampNeg) n ly hR.2.1.2.1 hn10 (by omega) hR.2.1.2.2.1 hly6 h5) (wM_V kmL_44 ki_X4_cargo ks_X4_cargo kn_X4 kc_X4_cargo) rfl rfl (n := 2) (by decide +kernel) rfl ⟨Nat.le_of_ble_eq_true rfl, Nat.le_of_ble_eq_true rfl⟩ hl.1 rfl (Nat.le_of_ble_eq_true rfl) hc0 dL_law_358 (fun r1 k1 => ?_)
  refine lv_aload_n hx hb dL_law_361 rfl (lv_at hl 2 rfl) ?_
  refine lv_aload_n hx hb dL_law_362 rfl (lv_at hl 0 rfl) ?_
  refine lv_iload_n hx hb dL_law_363 rfl (lv_at hl 3 rfl) ?_
  refine lv_iconst (v := 1) hx hb dL_law_364 (by decide) ?_
  refine lv_iadd hx hb dL_law_365 ?_
  refine va_sld hx hb hX hbl hbA I.2.2 v1 dL_law_366 ?_
  refine lv_aload_n hx hb dL_law_367 rfl (lv_at hl 0 rfl) ?_
  refine lv_iload_n hx hb dL_law_368 rfl (lv_at hl 3 rfl) ?_
  refine lv_iconst (v := 2) hx hb dL_law_369 (by decide) ?_
  refine lv_iadd hx hb dL_law_370 ?_
  refine va_sld hx hb hX hbl hbA I.2.2 v2 dL_law_371 ?_
  refine w_vi X I hA 14 (by omega) rfl rfl (As := [.int (xs (nI i + 1).toNatClampNeg), .int (xs (nI i + 2).toNatClampNeg)]) (rest := [.int r1]) (ctX5_cargo l g α (32 + 4 * n) σ _ (xs (nI i + 1).toNatClampNeg) (xs (nI i + 2).toNatClampNeg) n ly hR.2.2.1.2.1 hn10 (by omega) hR.2.2.1.2.2.1 hly6) (wM_V kmL_47 ki_X5_cargo ks_X5_cargo kn_X5 kc_X5_cargo) rfl rfl (n := 2) (by decide +kernel) rfl ⟨Nat.le_of_ble_eq_true rfl, Nat.le_of_ble_eq_true rfl⟩ hl.1 rfl (Nat.le_of_ble_eq_true rfl) hc0 dL_law_372 (fun r2 τ H locs k2 I => ?_)
  obtain ⟨k2, rfl⟩ := k2
  refine lv_icmp_eq (tgt := 783) hx hb dL_law_375 (by decide) (fun _ => ?_) (fun z => absurd (k1.trans ((q_cargo hR).trans k2.symm)) z)
  refine W.widen (k := cells + 4) (n := slots + 224) (by omega) (by omega) ?_
  exact kk H locs ⟨α, n, _, d, ly, dr, rfl, rfl, I, Rel_q hR⟩
set_option maxHeartbeats 1000000 in
set_option maxRecDepth 100000 in
theorem lk_8 (C : LX p s m c b L xs g) (J : LW g s H locs q0 q14) (hi : i + 4 ≤ L) (hL : L ≤ 2048) (hcs : cells + 4 ≤ room_1.cells ∧ slots + 224 ≤ room_1.slots) (hl : lv_has ls 4 [(0, .ref b), (1, .ref q0), (2, .ref q14), (3, .int (nI i))]) (kk : ∀ (H : Heap) (locs : List Loc), LW g s H locs q0 q14 → W p l e room_1 s m #[Value.ref b] below meth c H locs (cells + 4) (slots + 224) Q (F0 m 783 ls [])) : W p l e room_1 s m #[Value.ref b] below meth c H locs cells slots Q (F0 m 380 ls []) := by
  obtain ⟨X, hX, hbl, hT⟩ := C
  have hx := X.1.1
  have hb := X.1.2.1
  have hbA : ¬ lA s b := Nat.not_le.mpr hbl
  have hA : ∀ q, s.heap.size ≤ q → lA s q := fun _ h => h
  have hc0 : cells ≤ room_1.cells ∧ slots ≤ room_1.slots := ⟨Nat.le_trans (Nat.le_add_right _ 4) hcs.1, Nat.le_trans (Nat.le_add_right _ 224) hcs.2⟩
  obtain ⟨α, n, σ, d, ly, dr, rfl, rfl, I, hR⟩ := J
  have hd200 : d ≤ 200 := hR.1.1
  have hn10 : n ≤ 10 := hR.1.2.1
  have hly6 : ly ≤ 6 := hR.1.2.2.1
  have hdr30 : dr ≤ 30 := hR.1.2.2.2
  have v1 : vp_in (nI i + 1) L := by rw [nI_1]; exact vp_in_nI (by omega) (by omega)
  have v2 : vp_in (nI i + 2) L := by rw [show nI i + 2 = nI (i + 2) from nI_add i 2]; exact vp_in_nI (by omega) (by omega)
  have v3 : vp_in (nI i + 3) L := by rw [show nI i + 3 = nI (i + 3) from nI_add i 3]; exact vp_in_nI (by omega) (by omega)
  have h5 := hR.2.2.2.2.2.2.2.2.2.1
  have h6 := hR.2.2.2.2.2.2.2.2.2.2
  refine lv_aload_n hx hb dL_law_380 rfl (lv_at hl 1 rfl) ?_
  refine lv_aload_n hx hb dL_law_381 rfl (lv_at hl 0 rfl) ?_
  refine lv_iload_n hx hb dL_law_382 rfl (lv_at hl 3 rfl) ?_
  refine lv_iconst (v := 1) hx hb dL_law_383 (by decide) ?_
  refine lv_iadd hx hb dL_law_384 ?_
  refine va_sld hx hb hX hbl hbA I.2.2 v1 dL_law_385 ?_
  refine lv_aload_n hx hb dL_law_386 rfl (lv_at hl 0 rfl) ?_
  refine lv_iload_n hx hb dL_law_387 rfl (lv_at hl 3 rfl) ?_
  refine lv_iconst (v := 2) hx hb dL_law_388 (by decide) ?_
  refine lv_iadd hx hb dL_law_389 ?_
  refine va_sld hx hb hX hbl hbA I.2.2 v2 dL_law_390 ?_
  refine w_vSi X I 0 (by omega) rfl rfl (As := [.int (xs (nI i + 1).toNatClampNeg), .int (xs (nI i + 2).toNatClampNeg)]) (rest := []) (ctX4_loaded l g α (32 + 4 * n) σ (xs (nI i + 1).toNatClampNeg) (xs (nI i + 2).toNatClampNeg) n d hR.2.1.2.1 hn10 (by omega) hR.2.1.1 hd200 h5) (wM_V kmL_48 ki_X4_loaded ks_X4_loaded kn_X4 kc_X4_loaded) rfl rfl (n := 2) (by decide +kernel) rfl ⟨Nat.le_of_ble_eq_true rfl, Nat.le_of_ble_eq_true rfl⟩ hl.1 rfl (Nat.le_of_ble_eq_true rfl) hc0 dL_law_391 (fun r1 k1 => ?_)
  refine lv_aload_n hx hb dL_law_394 rfl (lv_at hl 2 rfl) ?_
  refine lv_aload_n hx hb dL_law_395 rfl (lv_at hl 0 rfl) ?_
  refine lv_iload_n hx hb dL_law_396 rfl (lv_at hl 3 rfl) ?_
  refine lv_iconst (v := 1) hx hb dL_law_397 (by decide) ?_
  refine lv_iadd hx hb dL_law_398 ?_
  refine va_sld hx hb hX hbl hbA I.2.2 v1 dL_law_399 ?_
  refine lv_aload_n hx hb dL_law_400 rfl (lv_at hl 0 rfl) ?_
  refine lv_iload_n hx hb dL_law_401 rfl (lv_at hl 3 rfl) ?_
  refine lv_iconst (v := 2) hx hb dL_law_402 (by decide) ?_
  refine lv_iadd hx hb dL_law_403 ?_
  refine va_sld hx hb hX hbl hbA I.2.2 v2 dL_law_404 ?_
  refine w_vi X I hA 14 (by omega) rfl rfl (As := [.int (xs (nI i + 1).toNatClampNeg), .int (xs (nI i + 2).toNatClampNeg)]) (rest := [.int r1]) (ctX5_loaded l g α (32 + 4 * n) σ _ (xs (nI i + 1).toNatClampNeg) (xs (nI i + 2).toNatClampNeg) n d hR.2.2.1.2.1 hn10 (by omega) hR.2.2.1.1 hd200) (wM_V kmL_51 ki_X5_loaded ks_X5_loaded kn_X5 kc_X5_loaded) rfl rfl (n := 2) (by decide +kernel) rfl ⟨Nat.le_of_ble_eq_true rfl, Nat.le_of_ble_eq_true rfl⟩ hl.1 rfl (Nat.le_of_ble_eq_true rfl) hc0 dL_law_405 (fun r2 τ H locs k2 I => ?_)
  obtain ⟨k2, rfl⟩ := k2
  refine lv_icmp_eq (tgt := 783) hx hb dL_law_408 (by decide) (fun _ => ?_) (fun z => absurd (k1.trans ((q_loaded hR).trans k2.symm)) z)
  refine W.widen (k := cells + 4) (n := slots + 224) (by omega) (by omega) ?_
  exact kk H locs ⟨α, n, _, d, ly, dr, rfl, rfl, I, Rel_q hR⟩
set_option maxHeartbeats 1000000 in
set_option maxRecDepth 100000 in
theorem lk_9 (C : LX p s m c b L xs g) (J : LW g s H locs q0 q14) (hi : i + 4 ≤ L) (hL : L ≤ 2048) (hcs : cells + 4 ≤ room_1.cells ∧ slots + 224 ≤ room_1.slots) (hl : lv_has ls 4 [(0, .ref b), (1, .ref q0), (2, .ref q14), (3, .int (nI i))]) (kk : ∀ (H : Heap) (locs : List Loc), LW g s H locs q0 q14 → W p l e room_1 s m #[Value.ref b] below meth c H locs (cells + 4) (slots + 224) Q (F0 m 783 ls [])) : W p l e room_1 s m #[Value.ref b] below meth c H locs cells slots Q (F0 m 413 ls []) := by
  obtain ⟨X, hX, hbl, hT⟩ := C
  have hx := X.1.1
  have hb := X.1.2.1
  have hbA : ¬ lA s b := Nat.not_le.mpr hbl
  have hA : ∀ q, s.heap.size ≤ q → lA s q := fun _ h => h
  have hc0 : cells ≤ room_1.cells ∧ slots ≤ room_1.slots := ⟨Nat.le_trans (Nat.le_add_right _ 4) hcs.1, Nat.le_trans (Nat.le_add_right _ 224) hcs.2⟩
  obtain ⟨α, n, σ, d, ly, dr, rfl, rfl, I, hR⟩ := J
  have hd200 : d ≤ 200 := hR.1.1
  have hn10 : n ≤ 10 := hR.1.2.1
  have hly6 : ly ≤ 6 := hR.1.2.2.1
  have hdr30 : dr ≤ 30 := hR.1.2.2.2
  have v1 : vp_in (nI i + 1) L := by rw [nI_1]; exact vp_in_nI (by omega) (by omega)
  have v2 : vp_in (nI i + 2) L := by rw [show nI i + 2 = nI (i + 2) from nI_add i 2]; exact vp_in_nI (by omega) (by omega)
  have v3 : vp_in (nI i + 3) L := by rw [show nI i + 3 = nI (i + 3) from nI_add i 3]; exact vp_in_nI (by omega) (by omega)
  have h5 := hR.2.2.2.2.2.2.2.2.2.1
  have h6 := hR.2.2.2.2.2.2.2.2.2.2
  refine lv_aload_n hx hb dL_law_413 rfl (lv_at hl 1 rfl) ?_
  refine lv_aload_n hx hb dL_law_414 rfl (lv_at hl 0 rfl) ?_
  refine lv_iload_n hx hb dL_law_415 rfl (lv_at hl 3 rfl) ?_
  refine lv_iconst (v := 1) hx hb dL_law_416 (by decide) ?_
  refine lv_iadd hx hb dL_law_417 ?_
  refine va_sld hx hb hX hbl hbA I.2.2 v1 dL_law_418 ?_
  refine lv_aload_n hx hb dL_law_419 rfl (lv_at hl 0 rfl) ?_
  refine lv_iload_n hx hb dL_law_420 rfl (lv_at hl 3 rfl) ?_
  refine lv_iconst (v := 2) hx hb dL_law_421 (by decide) ?_
  refine lv_iadd hx hb dL_law_422 ?_
  refine va_sld hx hb hX hbl hbA I.2.2 v2 dL_law_423 ?_
  refine w_vi X I hA 0 (by omega) rfl rfl (As := [.int (xs (nI i + 1).toNatClampNeg), .int (xs (nI i + 2).toNatClampNeg)]) (rest := []) (ctX4_boat l g α (32 + 4 * n) σ _ (xs (nI i + 1).toNatClampNeg) (xs (nI i + 2).toNatClampNeg) n hR.2.1.2.1 hn10 (by omega) h5) (wM_V kmL_52 ki_X4_boat ks_X4_boat kn_X4 kc_X4_boat) rfl rfl (n := 2) (by decide +kernel) rfl ⟨Nat.le_of_ble_eq_true rfl, Nat.le_of_ble_eq_true rfl⟩ hl.1 rfl (Nat.le_of_ble_eq_true rfl) hc0 dL_law_424 (fun r1 τ H locs k1 I => ?_)
  have k1 : (r1, τ) = spQ n (xs (nI i + 1).toNatClampNeg) ((-1), σ) (fun k => boF σ k (xs (nI i + 2).toNatClampNeg)) := k1
  obtain rfl : r1 = (spQ n (xs (nI i + 1).toNatClampNeg) ((-1), σ) (fun k => boF σ k (xs (nI i + 2).toNatClampNeg))).1 := congrArg Prod.fst k1
  obtain rfl : τ = (spQ n (xs (nI i + 1).toNatClampNeg) ((-1), σ) (fun k => boF σ k (xs (nI i + 2).toNatClampNeg))).2 := congrArg Prod.snd k1
  have h1 : Rel σ (spQ n (xs (nI i + 1).toNatClampNeg) ((-1), σ) (fun k => boF σ k (xs (nI i + 2).toNatClampNeg))).2 n d ly dr := Rel_K hR KX_rf (kM_boat hn10)
  refine lv_aload_n hx hb dL_law_427 rfl (lv_at hl 2 rfl) ?_
  refine lv_aload_n hx hb dL_law_428 rfl (lv_at hl 0 rfl) ?_
  refine lv_iload_n hx hb dL_law_429 rfl (lv_at hl 3 rfl) ?_
  refine lv_iconst (v := 1) hx hb dL_law_430 (by decide) ?_
  refine lv_iadd hx hb dL_law_431 ?_
  refine va_sld hx hb hX hbl hbA I.2.2 v1 dL_law_432 ?_
  refine lv_aload_n hx hb dL_law_433 rfl (lv_at hl 0 rfl) ?_
  refine lv_iload_n hx hb dL_law_434 rfl (lv_at hl 3 rfl) ?_
  refine lv_iconst (v := 2) hx hb dL_law_435 (by decide) ?_
  refine lv_iadd hx hb dL_law_436 ?_
  refine va_sld hx hb hX hbl hbA I.2.2 v2 dL_law_437 ?_
  refine w_vi X I hA 14 (by omega) rfl rfl (As := [.int (xs (nI i + 1).toNatClampNeg), .int (xs (nI i + 2).toNatClampNeg)]) (rest := [.int (spQ n (xs (nI i + 1).toNatClampNeg) ((-1), σ) (fun k => boF σ k (xs (nI i + 2).toNatClampNeg))).1]) (ctX5_boat l g α (32 + 4 * n) (spQ n (xs (nI i + 1).toNatClampNeg) ((-1), σ) (fun k => boF σ k (xs (nI i + 2).toNatClampNeg))).2 _ (xs (nI i + 1).toNatClampNeg) (xs (nI i + 2).toNatClampNeg) n h1.2.2.1.2.1 hn10 (by omega)) (wM_V kmL_55 ki_X5_boat ks_X5_boat kn_X5 kc_X5_boat) rfl rfl (n := 2) (by decide +kernel) rfl ⟨Nat.le_of_ble_eq_true rfl, Nat.le_of_ble_eq_true rfl⟩ hl.1 rfl (Nat.le_of_ble_eq_true rfl) hc0 dL_law_438 (fun r2 τ2 H locs k2 I => ?_)
  have k2 : (r2, τ2) = spQ n (xs (nI i + 1).toNatClampNeg) ((-1), wu (spQ n (xs (nI i + 1).toNatClampNeg) ((-1), σ) (fun k => boF σ k (xs (nI i + 2).toNatClampNeg))).2 14 0 0) (fun k => mBoF (spQ n (xs (nI i + 1).toNatClampNeg) ((-1), σ) (fun k => boF σ k (xs (nI i + 2).toNatClampNeg))).2 k (xs (nI i + 2).toNatClampNeg)) := k2
  obtain rfl : r2 = (spQ n (xs (nI i + 1).toNatClampNeg) ((-1), wu (spQ n (xs (nI i + 1).toNatClampNeg) ((-1), σ) (fun k => boF σ k (xs (nI i + 2).toNatClampNeg))).2 14 0 0) (fun k => mBoF (spQ n (xs (nI i + 1).toNatClampNeg) ((-1), σ) (fun k => boF σ k (xs (nI i + 2).toNatClampNeg))).2 k (xs (nI i + 2).toNatClampNeg))).1 := congrArg Prod.fst k2
  obtain rfl : τ2 = (spQ n (xs (nI i + 1).toNatClampNeg) ((-1), wu (spQ n (xs (nI i + 1).toNatClampNeg) ((-1), σ) (fun k => boF σ k (xs (nI i + 2).toNatClampNeg))).2 14 0 0) (fun k => mBoF (spQ n (xs (nI i + 1).toNatClampNeg) ((-1), σ) (fun k => boF σ k (xs (nI i + 2).toNatClampNeg))).2 k (xs (nI i + 2).toNatClampNeg))).2 := congrArg Prod.snd k2
  obtain ⟨k3, k4⟩ := s_boat h1
  refine lv_icmp_eq (tgt := 783) hx hb dL_law_441 (by decide) (fun _ => ?_) (fun z => absurd (k3) z)
  refine W.widen (k := cells + 4) (n := slots + 224) (by omega) (by omega) ?_
  exact kk H locs ⟨α, n, _, d, ly, dr, rfl, rfl, I, Rel_fin k4 (kX_boat hn10)⟩
set_option maxHeartbeats 1000000 in
set_option maxRecDepth 100000 in
theorem lk_10 (C : LX p s m c b L xs g) (J : LW g s H locs q0 q14) (hi : i + 4 ≤ L) (hL : L ≤ 2048) (hcs : cells + 4 ≤ room_1.cells ∧ slots + 224 ≤ room_1.slots) (hl : lv_has ls 4 [(0, .ref b), (1, .ref q0), (2, .ref q14), (3, .int (nI i))]) (kk : ∀ (H : Heap) (locs : List Loc), LW g s H locs q0 q14 → W p l e room_1 s m #[Value.ref b] below meth c H locs (cells + 4) (slots + 224) Q (F0 m 783 ls [])) : W p l e room_1 s m #[Value.ref b] below meth c H locs cells slots Q (F0 m 446 ls []) := by
  obtain ⟨X, hX, hbl, hT⟩ := C
  have hx := X.1.1
  have hb := X.1.2.1
  have hbA : ¬ lA s b := Nat.not_le.mpr hbl
  have hA : ∀ q, s.heap.size ≤ q → lA s q := fun _ h => h
  have hc0 : cells ≤ room_1.cells ∧ slots ≤ room_1.slots := ⟨Nat.le_trans (Nat.le_add_right _ 4) hcs.1, Nat.le_trans (Nat.le_add_right _ 224) hcs.2⟩
  obtain ⟨α, n, σ, d, ly, dr, rfl, rfl, I, hR⟩ := J
  have hd200 : d ≤ 200 := hR.1.1
  have hn10 : n ≤ 10 := hR.1.2.1
  have hly6 : ly ≤ 6 := hR.1.2.2.1
  have hdr30 : dr ≤ 30 := hR.1.2.2.2
  have v1 : vp_in (nI i + 1) L := by rw [nI_1]; exact vp_in_nI (by omega) (by omega)
  have v2 : vp_in (nI i + 2) L := by rw [show nI i + 2 = nI (i + 2) from nI_add i 2]; exact vp_in_nI (by omega) (by omega)
  have v3 : vp_in (nI i + 3) L := by rw [show nI i + 3 = nI (i + 3) from nI_add i 3]; exact vp_in_nI (by omega) (by omega)
  have h5 := hR.2.2.2.2.2.2.2.2.2.1
  have h6 := hR.2.2.2.2.2.2.2.2.2.2
  refine lv_aload_n hx hb dL_law_446 rfl (lv_at hl 1 rfl) ?_
  refine lv_aload_n hx hb dL_law_447 rfl (lv_at hl 0 rfl) ?_
  refine lv_iload_n hx hb dL_law_448 rfl (lv_at hl 3 rfl) ?_
  refine lv_iconst (v := 1) hx hb dL_law_449 (by decide) ?_
  refine lv_iadd hx hb dL_law_450 ?_
  refine va_sld hx hb hX hbl hbA I.2.2 v1 dL_law_451 ?_
  refine lv_aload_n hx hb dL_law_452 rfl (lv_at hl 0 rfl) ?_
  refine lv_iload_n hx hb dL_law_453 rfl (lv_at hl 3 rfl) ?_
  refine lv_iconst (v := 2) hx hb dL_law_454 (by decide) ?_
  refine lv_iadd hx hb dL_law_455 ?_
  refine va_sld hx hb hX hbl hbA I.2.2 v2 dL_law_456 ?_
  refine w_vSi X I 0 (by omega) rfl rfl (As := [.int (xs (nI i + 1).toNatClampNeg), .int (xs (nI i + 2).toNatClampNeg)]) (rest := []) (ctX4_sample l g α (32 + 4 * n) σ (xs (nI i + 1).toNatClampNeg) (xs (nI i + 2).toNatClampNeg) n ly hR.2.1.2.1 hn10 (by omega) hR.2.1.2.2.1 hly6 h5) (wM_V kmL_56 ki_X4_sample ks_X4_sample kn_X4 kc_X4_sample) rfl rfl (n := 2) (by decide +kernel) rfl ⟨Nat.le_of_ble_eq_true rfl, Nat.le_of_ble_eq_true rfl⟩ hl.1 rfl (Nat.le_of_ble_eq_true rfl) hc0 dL_law_457 (fun r1 k1 => ?_)
  refine lv_aload_n hx hb dL_law_460 rfl (lv_at hl 2 rfl) ?_
  refine lv_aload_n hx hb dL_law_461 rfl (lv_at hl 0 rfl) ?_
  refine lv_iload_n hx hb dL_law_462 rfl (lv_at hl 3 rfl) ?_
  refine lv_iconst (v := 1) hx hb dL_law_463 (by decide) ?_
  refine lv_iadd hx hb dL_law_464 ?_
  refine va_sld hx hb hX hbl hbA I.2.2 v1 dL_law_465 ?_
  refine lv_aload_n hx hb dL_law_466 rfl (lv_at hl 0 rfl) ?_
  refine lv_iload_n hx hb dL_law_467 rfl (lv_at hl 3 rfl) ?_
  refine lv_iconst (v := 2) hx hb dL_law_468 (by decide) ?_
  refine lv_iadd hx hb dL_law_469 ?_
  refine va_sld hx hb hX hbl hbA I.2.2 v2 dL_law_470 ?_
  refine w_vi X I hA 14 (by omega) rfl rfl (As := [.int (xs (nI i + 1).toNatClampNeg), .int (xs (nI i + 2).toNatClampNeg)]) (rest := [.int r1]) (ctX5_sample l g α (32 + 4 * n) σ _ (xs (nI i + 1).toNatClampNeg) (xs (nI i + 2).toNatClampNeg) n ly hR.2.2.1.2.1 hn10 (by omega) hR.2.2.1.2.2.1 hly6) (wM_V kmL_59 ki_X5_sample ks_X5_sample kn_X5 kc_X5_sample) rfl rfl (n := 2) (by decide +kernel) rfl ⟨Nat.le_of_ble_eq_true rfl, Nat.le_of_ble_eq_true rfl⟩ hl.1 rfl (Nat.le_of_ble_eq_true rfl) hc0 dL_law_471 (fun r2 τ H locs k2 I => ?_)
  obtain ⟨k2, rfl⟩ := k2
  refine lv_icmp_eq (tgt := 783) hx hb dL_law_474 (by decide) (fun _ => ?_) (fun z => absurd (k1.trans ((q_sample hR).trans k2.symm)) z)
  refine W.widen (k := cells + 4) (n := slots + 224) (by omega) (by omega) ?_
  exact kk H locs ⟨α, n, _, d, ly, dr, rfl, rfl, I, Rel_q hR⟩
set_option maxHeartbeats 1000000 in
set_option maxRecDepth 100000 in
theorem lk_11 (C : LX p s m c b L xs g) (J : LW g s H locs q0 q14) (hi : i + 4 ≤ L) (hL : L ≤ 2048) (hcs : cells + 4 ≤ room_1.cells ∧ slots + 224 ≤ room_1.slots) (hl : lv_has ls 4 [(0, .ref b), (1, .ref q0), (2, .ref q14), (3, .int (nI i))]) (kk : ∀ (H : Heap) (locs : List Loc), LW g s H locs q0 q14 → W p l e room_1 s m #[Value.ref b] below meth c H locs (cells + 4) (slots + 224) Q (F0 m 783 ls [])) : W p l e room_1 s m #[Value.ref b] below meth c H locs cells slots Q (F0 m 479 ls []) := by
  obtain ⟨X, hX, hbl, hT⟩ := C
  have hx := X.1.1
  have hb := X.1.2.1
  have hbA : ¬ lA s b := Nat.not_le.mpr hbl
  have hA : ∀ q, s.heap.size ≤ q → lA s q := fun _ h => h
  have hc0 : cells ≤ room_1.cells ∧ slots ≤ room_1.slots := ⟨Nat.le_trans (Nat.le_add_right _ 4) hcs.1, Nat.le_trans (Nat.le_add_right _ 224) hcs.2⟩
  obtain ⟨α, n, σ, d, ly, dr, rfl, rfl, I, hR⟩ := J
  have hd200 : d ≤ 200 := hR.1.1
  have hn10 : n ≤ 10 := hR.1.2.1
  have hly6 : ly ≤ 6 := hR.1.2.2.1
  have hdr30 : dr ≤ 30 := hR.1.2.2.2
  have v1 : vp_in (nI i + 1) L := by rw [nI_1]; exact vp_in_nI (by omega) (by omega)
  have v2 : vp_in (nI i + 2) L := by rw [show nI i + 2 = nI (i + 2) from nI_add i 2]; exact vp_in_nI (by omega) (by omega)
  have v3 : vp_in (nI i + 3) L := by rw [show nI i + 3 = nI (i + 3) from nI_add i 3]; exact vp_in_nI (by omega) (by omega)
  have h5 := hR.2.2.2.2.2.2.2.2.2.1
  have h6 := hR.2.2.2.2.2.2.2.2.2.2
  refine lv_aload_n hx hb dL_law_479 rfl (lv_at hl 1 rfl) ?_
  refine lv_aload_n hx hb dL_law_480 rfl (lv_at hl 0 rfl) ?_
  refine lv_iload_n hx hb dL_law_481 rfl (lv_at hl 3 rfl) ?_
  refine lv_iconst (v := 1) hx hb dL_law_482 (by decide) ?_
  refine lv_iadd hx hb dL_law_483 ?_
  refine va_sld hx hb hX hbl hbA I.2.2 v1 dL_law_484 ?_
  refine lv_i2l hx hb dL_law_485 rfl ?_
  refine lv_bipush (v := 32) hx hb dL_law_486 (by decide) ?_
  refine lv_lshl hx hb dL_law_488 rfl ?_
  refine lv_aload_n hx hb dL_law_489 rfl (lv_at hl 0 rfl) ?_
  refine lv_iload_n hx hb dL_law_490 rfl (lv_at hl 3 rfl) ?_
  refine lv_iconst (v := 2) hx hb dL_law_491 (by decide) ?_
  refine lv_iadd hx hb dL_law_492 ?_
  refine va_sld hx hb hX hbl hbA I.2.2 v2 dL_law_493 ?_
  refine lv_i2l hx hb dL_law_494 rfl ?_
  refine lv_ldc2 hx hb X.1.2.2.2.1 (X.1.2.2.2.2 _ kkL_60) dL_law_495 ?_
  refine lv_land hx hb dL_law_498 ?_
  refine lv_lor hx hb dL_law_499 ?_
  refine lv_aload_n hx hb dL_law_500 rfl (lv_at hl 0 rfl) ?_
  refine lv_iload_n hx hb dL_law_501 rfl (lv_at hl 3 rfl) ?_
  refine lv_iconst (v := 3) hx hb dL_law_502 (by decide) ?_
  refine lv_iadd hx hb dL_law_503 ?_
  refine va_sld hx hb hX hbl hbA I.2.2 v3 dL_law_504 ?_
  refine w_vi X I hA 0 (by omega) rfl rfl (As := [.long (((xs (nI i + 1).toNatClampNeg).toInt64 <<< ((32 : Int32).toInt64 &&& 63)) ||| ((xs (nI i + 2).toNatClampNeg).toInt64 &&& 4294967295)), .int (xs (nI i + 3).toNatClampNeg)]) (rest := []) (ctX4_type l g α (32 + 4 * n) σ _ (((xs (nI i + 1).toNatClampNeg).toInt64 <<< ((32 : Int32).toInt64 &&& 63)) ||| ((xs (nI i + 2).toNatClampNeg).toInt64 &&& 4294967295)) (xs (nI i + 3).toNatClampNeg) dr (by omega) hR.2.1.2.2.2 hdr30) (wM_V kmL_62 ki_X4_type ks_X4_type kn_X4 kc_X4_type) rfl rfl (n := 2) (by decide +kernel) rfl ⟨Nat.le_of_ble_eq_true rfl, Nat.le_of_ble_eq_true rfl⟩ hl.1 rfl (Nat.le_of_ble_eq_true rfl) hc0 dL_law_505 (fun r1 τ H locs k1 I => ?_)
  have k1 : (r1, τ) = tyF σ dr (((xs (nI i + 1).toNatClampNeg).toInt64 <<< ((32 : Int32).toInt64 &&& 63)) ||| ((xs (nI i + 2).toNatClampNeg).toInt64 &&& 4294967295)) (xs (nI i + 3).toNatClampNeg) := k1
  obtain rfl : r1 = (tyF σ dr (((xs (nI i + 1).toNatClampNeg).toInt64 <<< ((32 : Int32).toInt64 &&& 63)) ||| ((xs (nI i + 2).toNatClampNeg).toInt64 &&& 4294967295)) (xs (nI i + 3).toNatClampNeg)).1 := congrArg Prod.fst k1
  obtain rfl : τ = (tyF σ dr (((xs (nI i + 1).toNatClampNeg).toInt64 <<< ((32 : Int32).toInt64 &&& 63)) ||| ((xs (nI i + 2).toNatClampNeg).toInt64 &&& 4294967295)) (xs (nI i + 3).toNatClampNeg)).2 := congrArg Prod.snd k1
  have h1 : Rel σ (tyF σ dr (((xs (nI i + 1).toNatClampNeg).toInt64 <<< ((32 : Int32).toInt64 &&& 63)) ||| ((xs (nI i + 2).toNatClampNeg).toInt64 &&& 4294967295)) (xs (nI i + 3).toNatClampNeg)).2 n d ly dr := Rel_K hR KX_rf (kM_type)
  refine lv_aload_n hx hb dL_law_508 rfl (lv_at hl 2 rfl) ?_
  refine lv_aload_n hx hb dL_law_509 rfl (lv_at hl 0 rfl) ?_
  refine lv_iload_n hx hb dL_law_510 rfl (lv_at hl 3 rfl) ?_
  refine lv_iconst (v := 1) hx hb dL_law_511 (by decide) ?_
  refine lv_iadd hx hb dL_law_512 ?_
  refine va_sld hx hb hX hbl hbA I.2.2 v1 dL_law_513 ?_
  refine lv_i2l hx hb dL_law_514 rfl ?_
  refine lv_bipush (v := 32) hx hb dL_law_515 (by decide) ?_
  refine lv_lshl hx hb dL_law_517 rfl ?_
  refine lv_aload_n hx hb dL_law_518 rfl (lv_at hl 0 rfl) ?_
  refine lv_iload_n hx hb dL_law_519 rfl (lv_at hl 3 rfl) ?_
  refine lv_iconst (v := 2) hx hb dL_law_520 (by decide) ?_
  refine lv_iadd hx hb dL_law_521 ?_
  refine va_sld hx hb hX hbl hbA I.2.2 v2 dL_law_522 ?_
  refine lv_i2l hx hb dL_law_523 rfl ?_
  refine lv_ldc2 hx hb X.1.2.2.2.1 (X.1.2.2.2.2 _ kkL_60) dL_law_524 ?_
  refine lv_land hx hb dL_law_527 ?_
  refine lv_lor hx hb dL_law_528 ?_
  refine lv_aload_n hx hb dL_law_529 rfl (lv_at hl 0 rfl) ?_
  refine lv_iload_n hx hb dL_law_530 rfl (lv_at hl 3 rfl) ?_
  refine lv_iconst (v := 3) hx hb dL_law_531 (by decide) ?_
  refine lv_iadd hx hb dL_law_532 ?_
  refine va_sld hx hb hX hbl hbA I.2.2 v3 dL_law_533 ?_
  refine w_vi X I hA 14 (by omega) rfl rfl (As := [.long (((xs (nI i + 1).toNatClampNeg).toInt64 <<< ((32 : Int32).toInt64 &&& 63)) ||| ((xs (nI i + 2).toNatClampNeg).toInt64 &&& 4294967295)), .int (xs (nI i + 3).toNatClampNeg)]) (rest := [.int (tyF σ dr (((xs (nI i + 1).toNatClampNeg).toInt64 <<< ((32 : Int32).toInt64 &&& 63)) ||| ((xs (nI i + 2).toNatClampNeg).toInt64 &&& 4294967295)) (xs (nI i + 3).toNatClampNeg)).1]) (ctX5_type l g α (32 + 4 * n) (tyF σ dr (((xs (nI i + 1).toNatClampNeg).toInt64 <<< ((32 : Int32).toInt64 &&& 63)) ||| ((xs (nI i + 2).toNatClampNeg).toInt64 &&& 4294967295)) (xs (nI i + 3).toNatClampNeg)).2 _ (((xs (nI i + 1).toNatClampNeg).toInt64 <<< ((32 : Int32).toInt64 &&& 63)) ||| ((xs (nI i + 2).toNatClampNeg).toInt64 &&& 4294967295)) (xs (nI i + 3).toNatClampNeg) dr (by omega) h1.2.2.1.2.2.2 hdr30) (wM_V kmL_66 ki_X5_type ks_X5_type kn_X5 kc_X5_type) rfl rfl (n := 2) (by decide +kernel) rfl ⟨Nat.le_of_ble_eq_true rfl, Nat.le_of_ble_eq_true rfl⟩ hl.1 rfl (Nat.le_of_ble_eq_true rfl) hc0 dL_law_534 (fun r2 τ2 H locs k2 I => ?_)
  have k2 : (r2, τ2) = mTyF (tyF σ dr (((xs (nI i + 1).toNatClampNeg).toInt64 <<< ((32 : Int32).toInt64 &&& 63)) ||| ((xs (nI i + 2).toNatClampNeg).toInt64 &&& 4294967295)) (xs (nI i + 3).toNatClampNeg)).2 dr (((xs (nI i + 1).toNatClampNeg).toInt64 <<< ((32 : Int32).toInt64 &&& 63)) ||| ((xs (nI i + 2).toNatClampNeg).toInt64 &&& 4294967295)) (xs (nI i + 3).toNatClampNeg) := k2
  obtain rfl : r2 = (mTyF (tyF σ dr (((xs (nI i + 1).toNatClampNeg).toInt64 <<< ((32 : Int32).toInt64 &&& 63)) ||| ((xs (nI i + 2).toNatClampNeg).toInt64 &&& 4294967295)) (xs (nI i + 3).toNatClampNeg)).2 dr (((xs (nI i + 1).toNatClampNeg).toInt64 <<< ((32 : Int32).toInt64 &&& 63)) ||| ((xs (nI i + 2).toNatClampNeg).toInt64 &&& 4294967295)) (xs (nI i + 3).toNatClampNeg)).1 := congrArg Prod.fst k2
  obtain rfl : τ2 = (mTyF (tyF σ dr (((xs (nI i + 1).toNatClampNeg).toInt64 <<< ((32 : Int32).toInt64 &&& 63)) ||| ((xs (nI i + 2).toNatClampNeg).toInt64 &&& 4294967295)) (xs (nI i + 3).toNatClampNeg)).2 dr (((xs (nI i + 1).toNatClampNeg).toInt64 <<< ((32 : Int32).toInt64 &&& 63)) ||| ((xs (nI i + 2).toNatClampNeg).toInt64 &&& 4294967295)) (xs (nI i + 3).toNatClampNeg)).2 := congrArg Prod.snd k2
  obtain ⟨k3, dr2, k4⟩ := s_type h1
  refine lv_icmp_eq (tgt := 783) hx hb dL_law_537 (by decide) (fun _ => ?_) (fun z => absurd (k3) z)
  refine W.widen (k := cells + 4) (n := slots + 224) (by omega) (by omega) ?_
  exact kk H locs ⟨α, n, _, d, ly, dr2, rfl, rfl, I, Rel_fin k4 kX_type⟩
set_option maxHeartbeats 1000000 in
set_option maxRecDepth 100000 in
theorem lk_12 (C : LX p s m c b L xs g) (J : LW g s H locs q0 q14) (hi : i + 4 ≤ L) (hL : L ≤ 2048) (hcs : cells + 4 ≤ room_1.cells ∧ slots + 224 ≤ room_1.slots) (hl : lv_has ls 4 [(0, .ref b), (1, .ref q0), (2, .ref q14), (3, .int (nI i))]) (kk : ∀ (H : Heap) (locs : List Loc), LW g s H locs q0 q14 → W p l e room_1 s m #[Value.ref b] below meth c H locs (cells + 4) (slots + 224) Q (F0 m 783 ls [])) : W p l e room_1 s m #[Value.ref b] below meth c H locs cells slots Q (F0 m 542 ls []) := by
  obtain ⟨X, hX, hbl, hT⟩ := C
  have hx := X.1.1
  have hb := X.1.2.1
  have hbA : ¬ lA s b := Nat.not_le.mpr hbl
  have hA : ∀ q, s.heap.size ≤ q → lA s q := fun _ h => h
  have hc0 : cells ≤ room_1.cells ∧ slots ≤ room_1.slots := ⟨Nat.le_trans (Nat.le_add_right _ 4) hcs.1, Nat.le_trans (Nat.le_add_right _ 224) hcs.2⟩
  obtain ⟨α, n, σ, d, ly, dr, rfl, rfl, I, hR⟩ := J
  have hd200 : d ≤ 200 := hR.1.1
  have hn10 : n ≤ 10 := hR.1.2.1
  have hly6 : ly ≤ 6 := hR.1.2.2.1
  have hdr30 : dr ≤ 30 := hR.1.2.2.2
  have v1 : vp_in (nI i + 1) L := by rw [nI_1]; exact vp_in_nI (by omega) (by omega)
  have v2 : vp_in (nI i + 2) L := by rw [show nI i + 2 = nI (i + 2) from nI_add i 2]; exact vp_in_nI (by omega) (by omega)
  have v3 : vp_in (nI i + 3) L := by rw [show nI i + 3 = nI (i + 3) from nI_add i 3]; exact vp_in_nI (by omega) (by omega)
  have h5 := hR.2.2.2.2.2.2.2.2.2.1
  have h6 := hR.2.2.2.2.2.2.2.2.2.2
  refine lv_aload_n hx hb dL_law_542 rfl (lv_at hl 1 rfl) ?_
  refine w_vi X I hA 0 (by omega) rfl rfl (As := []) (rest := []) (ctX4_clear l g α (32 + 4 * n) σ _ dr (by omega) hR.2.1.2.2.2) (wM_V kmL_67 ki_X4_clear ks_X4_clear kn_X4 kc_X4_clear) rfl rfl (n := 0) (by decide +kernel) rfl ⟨Nat.le_of_ble_eq_true rfl, Nat.le_of_ble_eq_true rfl⟩ hl.1 rfl (Nat.le_of_ble_eq_true rfl) hc0 dL_law_543 (fun r1 τ H locs k1 I => ?_)
  obtain ⟨k1, rfl⟩ := k1
  have h1 : Rel σ (wu σ 7 2 0) n d ly dr := Rel_K hR KX_rf (KM_wu KM_rf (by omega))
  refine lv_aload_n hx hb dL_law_546 rfl (lv_at hl 2 rfl) ?_
  refine w_vi X I hA 14 (by omega) rfl rfl (As := []) (rest := [.int r1]) (ctX5_clear l g α (32 + 4 * n) (wu σ 7 2 0) _ dr (by omega) h1.2.2.1.2.2.2) (wM_V kmL_71 ki_X5_clear ks_X5_clear kn_X5 kc_X5_clear) rfl rfl (n := 0) (by decide +kernel) rfl ⟨Nat.le_of_ble_eq_true rfl, Nat.le_of_ble_eq_true rfl⟩ hl.1 rfl (Nat.le_of_ble_eq_true rfl) hc0 dL_law_547 (fun r2 τ2 H locs k2 I => ?_)
  obtain ⟨k2, rfl⟩ := k2
  refine lv_icmp_eq (tgt := 783) hx hb dL_law_550 (by decide) (fun _ => ?_) (fun z => absurd (k1.trans k2.symm) z)
  refine W.widen (k := cells + 4) (n := slots + 224) (by omega) (by omega) ?_
  exact kk H locs ⟨α, n, _, d, ly, 0, rfl, rfl, I, Rel_fin (s_clear h1) (KX_wu (KX_wu KX_rf (by omega) (by omega)) (by omega) (by omega))⟩
set_option maxHeartbeats 1000000 in
set_option maxRecDepth 100000 in
theorem lk_13 (C : LX p s m c b L xs g) (J : LW g s H locs q0 q14) (hi : i + 4 ≤ L) (hL : L ≤ 2048) (hcs : cells + 4 ≤ room_1.cells ∧ slots + 224 ≤ room_1.slots) (hl : lv_has ls 4 [(0, .ref b), (1, .ref q0), (2, .ref q14), (3, .int (nI i))]) (kk : ∀ (H : Heap) (locs : List Loc), LW g s H locs q0 q14 → W p l e room_1 s m #[Value.ref b] below meth c H locs (cells + 4) (slots + 224) Q (F0 m 783 ls [])) : W p l e room_1 s m #[Value.ref b] below meth c H locs cells slots Q (F0 m 555 ls []) := by
  obtain ⟨X, hX, hbl, hT⟩ := C
  have hx := X.1.1
  have hb := X.1.2.1
  have hbA : ¬ lA s b := Nat.not_le.mpr hbl
  have hA : ∀ q, s.heap.size ≤ q → lA s q := fun _ h => h
  have hc0 : cells ≤ room_1.cells ∧ slots ≤ room_1.slots := ⟨Nat.le_trans (Nat.le_add_right _ 4) hcs.1, Nat.le_trans (Nat.le_add_right _ 224) hcs.2⟩
  obtain ⟨α, n, σ, d, ly, dr, rfl, rfl, I, hR⟩ := J
  have hd200 : d ≤ 200 := hR.1.1
  have hn10 : n ≤ 10 := hR.1.2.1
  have hly6 : ly ≤ 6 := hR.1.2.2.1
  have hdr30 : dr ≤ 30 := hR.1.2.2.2
  have v1 : vp_in (nI i + 1) L := by rw [nI_1]; exact vp_in_nI (by omega) (by omega)
  have v2 : vp_in (nI i + 2) L := by rw [show nI i + 2 = nI (i + 2) from nI_add i 2]; exact vp_in_nI (by omega) (by omega)
  have v3 : vp_in (nI i + 3) L := by rw [show nI i + 3 = nI (i + 3) from nI_add i 3]; exact vp_in_nI (by omega) (by omega)
  have h5 := hR.2.2.2.2.2.2.2.2.2.1
  have h6 := hR.2.2.2.2.2.2.2.2.2.2
  refine lv_aload_n hx hb dL_law_555 rfl (lv_at hl 1 rfl) ?_
  refine lv_aload_n hx hb dL_law_556 rfl (lv_at hl 0 rfl) ?_
  refine lv_iload_n hx hb dL_law_557 rfl (lv_at hl 3 rfl) ?_
  refine lv_iconst (v := 1) hx hb dL_law_558 (by decide) ?_
  refine lv_iadd hx hb dL_law_559 ?_
  refine va_sld hx hb hX hbl hbA I.2.2 v1 dL_law_560 ?_
  refine w_vi X I hA 0 (by omega) rfl rfl (As := [.int (xs (nI i + 1).toNatClampNeg)]) (rest := []) (ctX4_charter l g α (32 + 4 * n) σ _ (xs (nI i + 1).toNatClampNeg) n dr hR.2.1.2.1 hn10 (by omega) h5 hR.2.1.2.2.2 hdr30) (wM_V kmL_72 ki_X4_charter ks_X4_charter kn_X4 kc_X4_charter) rfl rfl (n := 1) (by decide +kernel) rfl ⟨Nat.le_of_ble_eq_true rfl, Nat.le_of_ble_eq_true rfl⟩ hl.1 rfl (Nat.le_of_ble_eq_true rfl) hc0 dL_law_561 (fun r1 τ H locs k1 I => ?_)
  have k1 : CX σ (xs (nI i + 1).toNatClampNeg) n dr r1 τ := k1
  have h1 : Rel σ τ n d ly dr := Rel_K hR KX_rf (kM_charter k1)
  refine lv_aload_n hx hb dL_law_564 rfl (lv_at hl 2 rfl) ?_
  refine lv_aload_n hx hb dL_law_565 rfl (lv_at hl 0 rfl) ?_
  refine lv_iload_n hx hb dL_law_566 rfl (lv_at hl 3 rfl) ?_
  refine lv_iconst (v := 1) hx hb dL_law_567 (by decide) ?_
  refine lv_iadd hx hb dL_law_568 ?_
  refine va_sld hx hb hX hbl hbA I.2.2 v1 dL_law_569 ?_
  refine w_vi X I hA 14 (by omega) rfl rfl (As := [.int (xs (nI i + 1).toNatClampNeg)]) (rest := [.int r1]) (ctX5_charter l g α (32 + 4 * n) τ _ (xs (nI i + 1).toNatClampNeg) n dr h1.2.2.1.2.1 hn10 (by omega) h1.2.2.1.2.2.2 hdr30) (wM_V kmL_75 ki_X5_charter ks_X5_charter kn_X5 kc_X5_charter) rfl rfl (n := 1) (by decide +kernel) rfl ⟨Nat.le_of_ble_eq_true rfl, Nat.le_of_ble_eq_true rfl⟩ hl.1 rfl (Nat.le_of_ble_eq_true rfl) hc0 dL_law_570 (fun r2 τ2 H locs k2 I => ?_)
  have k2 : CM τ (xs (nI i + 1).toNatClampNeg) n dr r2 τ2 := k2
  obtain ⟨k3, dr2, k4⟩ := s_charter h1 k1 k2
  refine lv_icmp_eq (tgt := 783) hx hb dL_law_573 (by decide) (fun _ => ?_) (fun z => absurd (k3) z)
  refine W.widen (k := cells + 4) (n := slots + 224) (by omega) (by omega) ?_
  exact kk H locs ⟨α, n, _, d, ly, dr2, rfl, rfl, I, Rel_fin k4 (kX_charter k2)⟩
set_option maxHeartbeats 1000000 in
set_option maxRecDepth 100000 in
theorem lk_14 (C : LX p s m c b L xs g) (J : LW g s H locs q0 q14) (hi : i + 4 ≤ L) (hL : L ≤ 2048) (hcs : cells + 4 ≤ room_1.cells ∧ slots + 224 ≤ room_1.slots) (hl : lv_has ls 4 [(0, .ref b), (1, .ref q0), (2, .ref q14), (3, .int (nI i))]) (kk : ∀ (H : Heap) (locs : List Loc), LW g s H locs q0 q14 → W p l e room_1 s m #[Value.ref b] below meth c H locs (cells + 4) (slots + 224) Q (F0 m 783 ls [])) : W p l e room_1 s m #[Value.ref b] below meth c H locs cells slots Q (F0 m 578 ls []) := by
  obtain ⟨X, hX, hbl, hT⟩ := C
  have hx := X.1.1
  have hb := X.1.2.1
  have hbA : ¬ lA s b := Nat.not_le.mpr hbl
  have hA : ∀ q, s.heap.size ≤ q → lA s q := fun _ h => h
  have hc0 : cells ≤ room_1.cells ∧ slots ≤ room_1.slots := ⟨Nat.le_trans (Nat.le_add_right _ 4) hcs.1, Nat.le_trans (Nat.le_add_right _ 224) hcs.2⟩
  obtain ⟨α, n, σ, d, ly, dr, rfl, rfl, I, hR⟩ := J
  have hd200 : d ≤ 200 := hR.1.1
  have hn10 : n ≤ 10 := hR.1.2.1
  have hly6 : ly ≤ 6 := hR.1.2.2.1
  have hdr30 : dr ≤ 30 := hR.1.2.2.2
  have v1 : vp_in (nI i + 1) L := by rw [nI_1]; exact vp_in_nI (by omega) (by omega)
  have v2 : vp_in (nI i + 2) L := by rw [show nI i + 2 = nI (i + 2) from nI_add i 2]; exact vp_in_nI (by omega) (by omega)
  have v3 : vp_in (nI i + 3) L := by rw [show nI i + 3 = nI (i + 3) from nI_add i 3]; exact vp_in_nI (by omega) (by omega)
  have h5 := hR.2.2.2.2.2.2.2.2.2.1
  have h6 := hR.2.2.2.2.2.2.2.2.2.2
  refine lv_aload_n hx hb dL_law_578 rfl (lv_at hl 1 rfl) ?_
  refine lv_aload_n hx hb dL_law_579 rfl (lv_at hl 0 rfl) ?_
  refine lv_iload_n hx hb dL_law_580 rfl (lv_at hl 3 rfl) ?_
  refine lv_iconst (v := 1) hx hb dL_law_581 (by decide) ?_
  refine lv_iadd hx hb dL_law_582 ?_
  refine va_sld hx hb hX hbl hbA I.2.2 v1 dL_law_583 ?_
  refine lv_aload_n hx hb dL_law_584 rfl (lv_at hl 0 rfl) ?_
  refine lv_iload_n hx hb dL_law_585 rfl (lv_at hl 3 rfl) ?_
  refine lv_iconst (v := 2) hx hb dL_law_586 (by decide) ?_
  refine lv_iadd hx hb dL_law_587 ?_
  refine va_sld hx hb hX hbl hbA I.2.2 v2 dL_law_588 ?_
  refine w_vSi X I 0 (by omega) rfl rfl (As := [.int (xs (nI i + 1).toNatClampNeg), .int (xs (nI i + 2).toNatClampNeg)]) (rest := []) (ctX4_term l g α (32 + 4 * n) σ (xs (nI i + 1).toNatClampNeg) (xs (nI i + 2).toNatClampNeg) n hR.2.1.2.1 hn10 (by omega) h5) (wM_V kmL_76 ki_X4_term ks_X4_term kn_X4 kc_X4_term) rfl rfl (n := 2) (by decide +kernel) rfl ⟨Nat.le_of_ble_eq_true rfl, Nat.le_of_ble_eq_true rfl⟩ hl.1 rfl (Nat.le_of_ble_eq_true rfl) hc0 dL_law_589 (fun r1 k1 => ?_)
  refine lv_aload_n hx hb dL_law_592 rfl (lv_at hl 2 rfl) ?_
  refine lv_aload_n hx hb dL_law_593 rfl (lv_at hl 0 rfl) ?_
  refine lv_iload_n hx hb dL_law_594 rfl (lv_at hl 3 rfl) ?_
  refine lv_iconst (v := 1) hx hb dL_law_595 (by decide) ?_
  refine lv_iadd hx hb dL_law_596 ?_
  refine va_sld hx hb hX hbl hbA I.2.2 v1 dL_law_597 ?_
  refine lv_aload_n hx hb dL_law_598 rfl (lv_at hl 0 rfl) ?_
  refine lv_iload_n hx hb dL_law_599 rfl (lv_at hl 3 rfl) ?_
  refine lv_iconst (v := 2) hx hb dL_law_600 (by decide) ?_
  refine lv_iadd hx hb dL_law_601 ?_
  refine va_sld hx hb hX hbl hbA I.2.2 v2 dL_law_602 ?_
  refine w_vi X I hA 14 (by omega) rfl rfl (As := [.int (xs (nI i + 1).toNatClampNeg), .int (xs (nI i + 2).toNatClampNeg)]) (rest := [.int r1]) (ctX5_term l g α (32 + 4 * n) σ _ (xs (nI i + 1).toNatClampNeg) (xs (nI i + 2).toNatClampNeg) n hR.2.2.1.2.1 hn10 (by omega)) (wM_V kmL_79 ki_X5_term ks_X5_term kn_X5 kc_X5_term) rfl rfl (n := 2) (by decide +kernel) rfl ⟨Nat.le_of_ble_eq_true rfl, Nat.le_of_ble_eq_true rfl⟩ hl.1 rfl (Nat.le_of_ble_eq_true rfl) hc0 dL_law_603 (fun r2 τ H locs k2 I => ?_)
  obtain ⟨k2, rfl⟩ := k2
  refine lv_icmp_eq (tgt := 783) hx hb dL_law_606 (by decide) (fun _ => ?_) (fun z => absurd (k1.trans ((q_term hR).trans k2.symm)) z)
  refine W.widen (k := cells + 4) (n := slots + 224) (by omega) (by omega) ?_
  exact kk H locs ⟨α, n, _, d, ly, dr, rfl, rfl, I, Rel_q hR⟩
set_option maxHeartbeats 1000000 in
set_option maxRecDepth 100000 in
theorem lk_15 (C : LX p s m c b L xs g) (J : LW g s H locs q0 q14) (hi : i + 4 ≤ L) (hL : L ≤ 2048) (hcs : cells + 4 ≤ room_1.cells ∧ slots + 224 ≤ room_1.slots) (hl : lv_has ls 4 [(0, .ref b), (1, .ref q0), (2, .ref q14), (3, .int (nI i))]) (kk : ∀ (H : Heap) (locs : List Loc), LW g s H locs q0 q14 → W p l e room_1 s m #[Value.ref b] below meth c H locs (cells + 4) (slots + 224) Q (F0 m 783 ls [])) : W p l e room_1 s m #[Value.ref b] below meth c H locs cells slots Q (F0 m 611 ls []) := by
  obtain ⟨X, hX, hbl, hT⟩ := C
  have hx := X.1.1
  have hb := X.1.2.1
  have hbA : ¬ lA s b := Nat.not_le.mpr hbl
  have hA : ∀ q, s.heap.size ≤ q → lA s q := fun _ h => h
  have hc0 : cells ≤ room_1.cells ∧ slots ≤ room_1.slots := ⟨Nat.le_trans (Nat.le_add_right _ 4) hcs.1, Nat.le_trans (Nat.le_add_right _ 224) hcs.2⟩
  obtain ⟨α, n, σ, d, ly, dr, rfl, rfl, I, hR⟩ := J
  have hd200 : d ≤ 200 := hR.1.1
  have hn10 : n ≤ 10 := hR.1.2.1
  have hly6 : ly ≤ 6 := hR.1.2.2.1
  have hdr30 : dr ≤ 30 := hR.1.2.2.2
  have v1 : vp_in (nI i + 1) L := by rw [nI_1]; exact vp_in_nI (by omega) (by omega)
  have v2 : vp_in (nI i + 2) L := by rw [show nI i + 2 = nI (i + 2) from nI_add i 2]; exact vp_in_nI (by omega) (by omega)
  have v3 : vp_in (nI i + 3) L := by rw [show nI i + 3 = nI (i + 3) from nI_add i 3]; exact vp_in_nI (by omega) (by omega)
  have h5 := hR.2.2.2.2.2.2.2.2.2.1
  have h6 := hR.2.2.2.2.2.2.2.2.2.2
  obtain ⟨ar, en, g1, g2, g3, g4, g5, g6, g7⟩ := q_ends hR
  refine lv_aload_n hx hb dL_law_611 rfl (lv_at hl 1 rfl) ?_
  refine lv_aload_n hx hb dL_law_612 rfl (lv_at hl 0 rfl) ?_
  refine lv_iload_n hx hb dL_law_613 rfl (lv_at hl 3 rfl) ?_
  refine lv_iconst (v := 1) hx hb dL_law_614 (by decide) ?_
  refine lv_iadd hx hb dL_law_615 ?_
  refine va_sld hx hb hX hbl hbA I.2.2 v1 dL_law_616 ?_
  refine lv_aload_n hx hb dL_law_617 rfl (lv_at hl 0 rfl) ?_
  refine lv_iload_n hx hb dL_law_618 rfl (lv_at hl 3 rfl) ?_
  refine lv_iconst (v := 2) hx hb dL_law_619 (by decide) ?_
  refine lv_iadd hx hb dL_law_620 ?_
  refine va_sld hx hb hX hbl hbA I.2.2 v2 dL_law_621 ?_
  refine w_vSi X I 0 (by omega) rfl rfl (As := [.int (xs (nI i + 1).toNatClampNeg), .int (xs (nI i + 2).toNatClampNeg)]) (rest := []) (ctX4_owed l g α (32 + 4 * n) σ (xs (nI i + 1).toNatClampNeg) (xs (nI i + 2).toNatClampNeg) n d ar en hR.2.1.2.1 hn10 (by omega) hR.2.1.1 hd200 h5 g1 g2 g3 g4) (wM_V kmL_80 ki_X4_owed ks_X4_owed kn_X4 kc_X4_owed) rfl rfl (n := 2) (by decide +kernel) rfl ⟨Nat.le_of_ble_eq_true rfl, Nat.le_of_ble_eq_true rfl⟩ hl.1 rfl (Nat.le_of_ble_eq_true rfl) hc0 dL_law_622 (fun r1 k1 => ?_)
  refine lv_aload_n hx hb dL_law_625 rfl (lv_at hl 2 rfl) ?_
  refine lv_aload_n hx hb dL_law_626 rfl (lv_at hl 0 rfl) ?_
  refine lv_iload_n hx hb dL_law_627 rfl (lv_at hl 3 rfl) ?_
  refine lv_iconst (v := 1) hx hb dL_law_628 (by decide) ?_
  refine lv_iadd hx hb dL_law_629 ?_
  refine va_sld hx hb hX hbl hbA I.2.2 v1 dL_law_630 ?_
  refine lv_aload_n hx hb dL_law_631 rfl (lv_at hl 0 rfl) ?_
  refine lv_iload_n hx hb dL_law_632 rfl (lv_at hl 3 rfl) ?_
  refine lv_iconst (v := 2) hx hb dL_law_633 (by decide) ?_
  refine lv_iadd hx hb dL_law_634 ?_
  refine va_sld hx hb hX hbl hbA I.2.2 v2 dL_law_635 ?_
  refine w_vi X I hA 14 (by omega) rfl rfl (As := [.int (xs (nI i + 1).toNatClampNeg), .int (xs (nI i + 2).toNatClampNeg)]) (rest := [.int r1]) (ctX5_owed l g α (32 + 4 * n) σ _ (xs (nI i + 1).toNatClampNeg) (xs (nI i + 2).toNatClampNeg) n d ar en hR.2.2.1.2.1 hn10 (by omega) hR.2.2.1.1 hd200 g1 g2 g5 g6 g7) (wM_V kmL_83 ki_X5_owed ks_X5_owed kn_X5 kc_X5_owed) rfl rfl (n := 2) (by decide +kernel) rfl ⟨Nat.le_of_ble_eq_true rfl, Nat.le_of_ble_eq_true rfl⟩ hl.1 rfl (Nat.le_of_ble_eq_true rfl) hc0 dL_law_636 (fun r2 τ H locs k2 I => ?_)
  obtain ⟨k2, rfl⟩ := k2
  refine lv_icmp_eq (tgt := 783) hx hb dL_law_639 (by decide) (fun _ => ?_) (fun z => absurd (k1.trans ((q_owed hR g2).trans k2.symm)) z)
  refine W.widen (k := cells + 4) (n := slots + 224) (by omega) (by omega) ?_
  exact kk H locs ⟨α, n, _, d, ly, dr, rfl, rfl, I, Rel_q hR⟩
set_option maxHeartbeats 1000000 in
set_option maxRecDepth 100000 in
theorem lk_16 (C : LX p s m c b L xs g) (J : LW g s H locs q0 q14) (hi : i + 4 ≤ L) (hL : L ≤ 2048) (hcs : cells + 4 ≤ room_1.cells ∧ slots + 224 ≤ room_1.slots) (hl : lv_has ls 4 [(0, .ref b), (1, .ref q0), (2, .ref q14), (3, .int (nI i))]) (kk : ∀ (H : Heap) (locs : List Loc), LW g s H locs q0 q14 → W p l e room_1 s m #[Value.ref b] below meth c H locs (cells + 4) (slots + 224) Q (F0 m 783 ls [])) : W p l e room_1 s m #[Value.ref b] below meth c H locs cells slots Q (F0 m 644 ls []) := by
  obtain ⟨X, hX, hbl, hT⟩ := C
  have hx := X.1.1
  have hb := X.1.2.1
  have hbA : ¬ lA s b := Nat.not_le.mpr hbl
  have hA : ∀ q, s.heap.size ≤ q → lA s q := fun _ h => h
  have hc0 : cells ≤ room_1.cells ∧ slots ≤ room_1.slots := ⟨Nat.le_trans (Nat.le_add_right _ 4) hcs.1, Nat.le_trans (Nat.le_add_right _ 224) hcs.2⟩
  obtain ⟨α, n, σ, d, ly, dr, rfl, rfl, I, hR⟩ := J
  have hd200 : d ≤ 200 := hR.1.1
  have hn10 : n ≤ 10 := hR.1.2.1
  have hly6 : ly ≤ 6 := hR.1.2.2.1
  have hdr30 : dr ≤ 30 := hR.1.2.2.2
  have v1 : vp_in (nI i + 1) L := by rw [nI_1]; exact vp_in_nI (by omega) (by omega)
  have v2 : vp_in (nI i + 2) L := by rw [show nI i + 2 = nI (i + 2) from nI_add i 2]; exact vp_in_nI (by omega) (by omega)
  have v3 : vp_in (nI i + 3) L := by rw [show nI i + 3 = nI (i + 3) from nI_add i 3]; exact vp_in_nI (by omega) (by omega)
  have h5 := hR.2.2.2.2.2.2.2.2.2.1
  have h6 := hR.2.2.2.2.2.2.2.2.2.2
  obtain ⟨ar, en, g1, g2, g3, g4, g5, g6, g7⟩ := q_ends hR
  refine lv_aload_n hx hb dL_law_644 rfl (lv_at hl 1 rfl) ?_
  refine lv_aload_n hx hb dL_law_645 rfl (lv_at hl 0 rfl) ?_
  refine lv_iload_n hx hb dL_law_646 rfl (lv_at hl 3 rfl) ?_
  refine lv_iconst (v := 1) hx hb dL_law_647 (by decide) ?_
  refine lv_iadd hx hb dL_law_648 ?_
  refine va_sld hx hb hX hbl hbA I.2.2 v1 dL_law_649 ?_
  refine lv_aload_n hx hb dL_law_650 rfl (lv_at hl 0 rfl) ?_
  refine lv_iload_n hx hb dL_law_651 rfl (lv_at hl 3 rfl) ?_
  refine lv_iconst (v := 2) hx hb dL_law_652 (by decide) ?_
  refine lv_iadd hx hb dL_law_653 ?_
  refine va_sld hx hb hX hbl hbA I.2.2 v2 dL_law_654 ?_
  refine w_vSi X I 0 (by omega) rfl rfl (As := [.int (xs (nI i + 1).toNatClampNeg), .int (xs (nI i + 2).toNatClampNeg)]) (rest := []) (ctX4_shared l g α (32 + 4 * n) σ (xs (nI i + 1).toNatClampNeg) (xs (nI i + 2).toNatClampNeg) n d ar en hR.2.1.2.1 hn10 (by omega) hR.2.1.1 hd200 h5 g1 g2 g3 g4) (wM_V kmL_84 ki_X4_shared ks_X4_shared kn_X4 kc_X4_shared) rfl rfl (n := 2) (by decide +kernel) rfl ⟨Nat.le_of_ble_eq_true rfl, Nat.le_of_ble_eq_true rfl⟩ hl.1 rfl (Nat.le_of_ble_eq_true rfl) hc0 dL_law_655 (fun r1 k1 => ?_)
  refine lv_aload_n hx hb dL_law_658 rfl (lv_at hl 2 rfl) ?_
  refine lv_aload_n hx hb dL_law_659 rfl (lv_at hl 0 rfl) ?_
  refine lv_iload_n hx hb dL_law_660 rfl (lv_at hl 3 rfl) ?_
  refine lv_iconst (v := 1) hx hb dL_law_661 (by decide) ?_
  refine lv_iadd hx hb dL_law_662 ?_
  refine va_sld hx hb hX hbl hbA I.2.2 v1 dL_law_663 ?_
  refine lv_aload_n hx hb dL_law_664 rfl (lv_at hl 0 rfl) ?_
  refine lv_iload_n hx hb dL_law_665 rfl (lv_at hl 3 rfl) ?_
  refine lv_iconst (v := 2) hx hb dL_law_666 (by decide) ?_
  refine lv_iadd hx hb dL_law_667 ?_
  refine va_sld hx hb hX hbl hbA I.2.2 v2 dL_law_668 ?_
  refine w_vi X I hA 14 (by omega) rfl rfl (As := [.int (xs (nI i + 1).toNatClampNeg), .int (xs (nI i + 2).toNatClampNeg)]) (rest := [.int r1]) (ctX5_shared l g α (32 + 4 * n) σ _ (xs (nI i + 1).toNatClampNeg) (xs (nI i + 2).toNatClampNeg) n d ar en hR.2.2.1.2.1 hn10 (by omega) hR.2.2.1.1 hd200 g1 g2 g5 g6 g7) (wM_V kmL_87 ki_X5_shared ks_X5_shared kn_X5 kc_X5_shared) rfl rfl (n := 2) (by decide +kernel) rfl ⟨Nat.le_of_ble_eq_true rfl, Nat.le_of_ble_eq_true rfl⟩ hl.1 rfl (Nat.le_of_ble_eq_true rfl) hc0 dL_law_669 (fun r2 τ H locs k2 I => ?_)
  obtain ⟨k2, rfl⟩ := k2
  refine lv_icmp_eq (tgt := 783) hx hb dL_law_672 (by decide) (fun _ => ?_) (fun z => absurd (k1.trans ((q_shared hR g2).trans k2.symm)) z)
  refine W.widen (k := cells + 4) (n := slots + 224) (by omega) (by omega) ?_
  exact kk H locs ⟨α, n, _, d, ly, dr, rfl, rfl, I, Rel_q hR⟩
set_option maxHeartbeats 1000000 in
set_option maxRecDepth 100000 in
theorem lk_17 (C : LX p s m c b L xs g) (J : LW g s H locs q0 q14) (hi : i + 4 ≤ L) (hL : L ≤ 2048) (hcs : cells + 4 ≤ room_1.cells ∧ slots + 224 ≤ room_1.slots) (hl : lv_has ls 4 [(0, .ref b), (1, .ref q0), (2, .ref q14), (3, .int (nI i))]) (kk : ∀ (H : Heap) (locs : List Loc), LW g s H locs q0 q14 → W p l e room_1 s m #[Value.ref b] below meth c H locs (cells + 4) (slots + 224) Q (F0 m 783 ls [])) : W p l e room_1 s m #[Value.ref b] below meth c H locs cells slots Q (F0 m 677 ls []) := by
  obtain ⟨X, hX, hbl, hT⟩ := C
  have hx := X.1.1
  have hb := X.1.2.1
  have hbA : ¬ lA s b := Nat.not_le.mpr hbl
  have hA : ∀ q, s.heap.size ≤ q → lA s q := fun _ h => h
  have hc0 : cells ≤ room_1.cells ∧ slots ≤ room_1.slots := ⟨Nat.le_trans (Nat.le_add_right _ 4) hcs.1, Nat.le_trans (Nat.le_add_right _ 224) hcs.2⟩
  obtain ⟨α, n, σ, d, ly, dr, rfl, rfl, I, hR⟩ := J
  have hd200 : d ≤ 200 := hR.1.1
  have hn10 : n ≤ 10 := hR.1.2.1
  have hly6 : ly ≤ 6 := hR.1.2.2.1
  have hdr30 : dr ≤ 30 := hR.1.2.2.2
  have v1 : vp_in (nI i + 1) L := by rw [nI_1]; exact vp_in_nI (by omega) (by omega)
  have v2 : vp_in (nI i + 2) L := by rw [show nI i + 2 = nI (i + 2) from nI_add i 2]; exact vp_in_nI (by omega) (by omega)
  have v3 : vp_in (nI i + 3) L := by rw [show nI i + 3 = nI (i + 3) from nI_add i 3]; exact vp_in_nI (by omega) (by omega)
  have h5 := hR.2.2.2.2.2.2.2.2.2.1
  have h6 := hR.2.2.2.2.2.2.2.2.2.2
  refine lv_aload_n hx hb dL_law_677 rfl (lv_at hl 1 rfl) ?_
  refine lv_aload_n hx hb dL_law_678 rfl (lv_at hl 0 rfl) ?_
  refine lv_iload_n hx hb dL_law_679 rfl (lv_at hl 3 rfl) ?_
  refine lv_iconst (v := 1) hx hb dL_law_680 (by decide) ?_
  refine lv_iadd hx hb dL_law_681 ?_
  refine va_sld hx hb hX hbl hbA I.2.2 v1 dL_law_682 ?_
  refine w_vi X I hA 0 (by omega) rfl rfl (As := [.int (xs (nI i + 1).toNatClampNeg)]) (rest := []) (ctX4_delay l g α (32 + 4 * n) σ _ (xs (nI i + 1).toNatClampNeg) (by omega)) (wM_V kmL_88 ki_X4_delay ks_X4_delay kn_X4 kc_X4_delay) rfl rfl (n := 1) (by decide +kernel) rfl ⟨Nat.le_of_ble_eq_true rfl, Nat.le_of_ble_eq_true rfl⟩ hl.1 rfl (Nat.le_of_ble_eq_true rfl) hc0 dL_law_683 (fun r1 τ H locs k1 I => ?_)
  have k1 : (r1, τ) = dlF σ (xs (nI i + 1).toNatClampNeg) := k1
  obtain rfl : r1 = (dlF σ (xs (nI i + 1).toNatClampNeg)).1 := congrArg Prod.fst k1
  obtain rfl : τ = (dlF σ (xs (nI i + 1).toNatClampNeg)).2 := congrArg Prod.snd k1
  have h1 : Rel σ (dlF σ (xs (nI i + 1).toNatClampNeg)).2 n d ly dr := Rel_K hR KX_rf (kM_delay)
  refine lv_aload_n hx hb dL_law_686 rfl (lv_at hl 2 rfl) ?_
  refine lv_aload_n hx hb dL_law_687 rfl (lv_at hl 0 rfl) ?_
  refine lv_iload_n hx hb dL_law_688 rfl (lv_at hl 3 rfl) ?_
  refine lv_iconst (v := 1) hx hb dL_law_689 (by decide) ?_
  refine lv_iadd hx hb dL_law_690 ?_
  refine va_sld hx hb hX hbl hbA I.2.2 v1 dL_law_691 ?_
  refine w_vi X I hA 14 (by omega) rfl rfl (As := [.int (xs (nI i + 1).toNatClampNeg)]) (rest := [.int (dlF σ (xs (nI i + 1).toNatClampNeg)).1]) (ctX5_delay l g α (32 + 4 * n) (dlF σ (xs (nI i + 1).toNatClampNeg)).2 _ (xs (nI i + 1).toNatClampNeg) (by omega)) (wM_V kmL_91 ki_X5_delay ks_X5_delay kn_X5 kc_X5_delay) rfl rfl (n := 1) (by decide +kernel) rfl ⟨Nat.le_of_ble_eq_true rfl, Nat.le_of_ble_eq_true rfl⟩ hl.1 rfl (Nat.le_of_ble_eq_true rfl) hc0 dL_law_692 (fun r2 τ2 H locs k2 I => ?_)
  have k2 : (r2, τ2) = mDlF (dlF σ (xs (nI i + 1).toNatClampNeg)).2 (xs (nI i + 1).toNatClampNeg) := k2
  obtain rfl : r2 = (mDlF (dlF σ (xs (nI i + 1).toNatClampNeg)).2 (xs (nI i + 1).toNatClampNeg)).1 := congrArg Prod.fst k2
  obtain rfl : τ2 = (mDlF (dlF σ (xs (nI i + 1).toNatClampNeg)).2 (xs (nI i + 1).toNatClampNeg)).2 := congrArg Prod.snd k2
  obtain ⟨k3, k4⟩ := s_delay h1
  refine lv_icmp_eq (tgt := 783) hx hb dL_law_695 (by decide) (fun _ => ?_) (fun z => absurd (k3) z)
  refine W.widen (k := cells + 4) (n := slots + 224) (by omega) (by omega) ?_
  exact kk H locs ⟨α, n, _, d, ly, dr, rfl, rfl, I, Rel_fin k4 kX_delay⟩
set_option maxHeartbeats 1000000 in
set_option maxRecDepth 100000 in
theorem lk_18 (C : LX p s m c b L xs g) (J : LW g s H locs q0 q14) (hi : i + 4 ≤ L) (hL : L ≤ 2048) (hcs : cells + 4 ≤ room_1.cells ∧ slots + 224 ≤ room_1.slots) (hl : lv_has ls 4 [(0, .ref b), (1, .ref q0), (2, .ref q14), (3, .int (nI i))]) (kk : ∀ (H : Heap) (locs : List Loc), LW g s H locs q0 q14 → W p l e room_1 s m #[Value.ref b] below meth c H locs (cells + 4) (slots + 224) Q (F0 m 783 ls [])) : W p l e room_1 s m #[Value.ref b] below meth c H locs cells slots Q (F0 m 700 ls []) := by
  obtain ⟨X, hX, hbl, hT⟩ := C
  have hx := X.1.1
  have hb := X.1.2.1
  have hbA : ¬ lA s b := Nat.not_le.mpr hbl
  have hA : ∀ q, s.heap.size ≤ q → lA s q := fun _ h => h
  have hc0 : cells ≤ room_1.cells ∧ slots ≤ room_1.slots := ⟨Nat.le_trans (Nat.le_add_right _ 4) hcs.1, Nat.le_trans (Nat.le_add_right _ 224) hcs.2⟩
  obtain ⟨α, n, σ, d, ly, dr, rfl, rfl, I, hR⟩ := J
  have hd200 : d ≤ 200 := hR.1.1
  have hn10 : n ≤ 10 := hR.1.2.1
  have hly6 : ly ≤ 6 := hR.1.2.2.1
  have hdr30 : dr ≤ 30 := hR.1.2.2.2
  have v1 : vp_in (nI i + 1) L := by rw [nI_1]; exact vp_in_nI (by omega) (by omega)
  have v2 : vp_in (nI i + 2) L := by rw [show nI i + 2 = nI (i + 2) from nI_add i 2]; exact vp_in_nI (by omega) (by omega)
  have v3 : vp_in (nI i + 3) L := by rw [show nI i + 3 = nI (i + 3) from nI_add i 3]; exact vp_in_nI (by omega) (by omega)
  have h5 := hR.2.2.2.2.2.2.2.2.2.1
  have h6 := hR.2.2.2.2.2.2.2.2.2.2
  refine lv_aload_n hx hb dL_law_700 rfl (lv_at hl 1 rfl) ?_
  refine lv_aload_n hx hb dL_law_701 rfl (lv_at hl 0 rfl) ?_
  refine lv_iload_n hx hb dL_law_702 rfl (lv_at hl 3 rfl) ?_
  refine lv_iconst (v := 1) hx hb dL_law_703 (by decide) ?_
  refine lv_iadd hx hb dL_law_704 ?_
  refine va_sld hx hb hX hbl hbA I.2.2 v1 dL_law_705 ?_
  refine lv_aload_n hx hb dL_law_706 rfl (lv_at hl 0 rfl) ?_
  refine lv_iload_n hx hb dL_law_707 rfl (lv_at hl 3 rfl) ?_
  refine lv_iconst (v := 2) hx hb dL_law_708 (by decide) ?_
  refine lv_iadd hx hb dL_law_709 ?_
  refine va_sld hx hb hX hbl hbA I.2.2 v2 dL_law_710 ?_
  refine w_vSi X I 0 (by omega) rfl rfl (As := [.int (xs (nI i + 1).toNatClampNeg), .int (xs (nI i + 2).toNatClampNeg)]) (rest := []) (ctX4_letter l g α (32 + 4 * n) σ (xs (nI i + 1).toNatClampNeg) (xs (nI i + 2).toNatClampNeg) d (by omega) hR.2.1.1 hd200) (wM_V kmL_92 ki_X4_letter ks_X4_letter kn_X4 kc_X4_letter) rfl rfl (n := 2) (by decide +kernel) rfl ⟨Nat.le_of_ble_eq_true rfl, Nat.le_of_ble_eq_true rfl⟩ hl.1 rfl (Nat.le_of_ble_eq_true rfl) hc0 dL_law_711 (fun r1 k1 => ?_)
  refine lv_aload_n hx hb dL_law_714 rfl (lv_at hl 2 rfl) ?_
  refine lv_aload_n hx hb dL_law_715 rfl (lv_at hl 0 rfl) ?_
  refine lv_iload_n hx hb dL_law_716 rfl (lv_at hl 3 rfl) ?_
  refine lv_iconst (v := 1) hx hb dL_law_717 (by decide) ?_
  refine lv_iadd hx hb dL_law_718 ?_
  refine va_sld hx hb hX hbl hbA I.2.2 v1 dL_law_719 ?_
  refine lv_aload_n hx hb dL_law_720 rfl (lv_at hl 0 rfl) ?_
  refine lv_iload_n hx hb dL_law_721 rfl (lv_at hl 3 rfl) ?_
  refine lv_iconst (v := 2) hx hb dL_law_722 (by decide) ?_
  refine lv_iadd hx hb dL_law_723 ?_
  refine va_sld hx hb hX hbl hbA I.2.2 v2 dL_law_724 ?_
  refine w_vi X I hA 14 (by omega) rfl rfl (As := [.int (xs (nI i + 1).toNatClampNeg), .int (xs (nI i + 2).toNatClampNeg)]) (rest := [.int r1]) (ctX5_letter l g α (32 + 4 * n) σ _ (xs (nI i + 1).toNatClampNeg) (xs (nI i + 2).toNatClampNeg) d (by omega) hR.2.2.1.1 hd200) (wM_V kmL_95 ki_X5_letter ks_X5_letter kn_X5 kc_X5_letter) rfl rfl (n := 2) (by decide +kernel) rfl ⟨Nat.le_of_ble_eq_true rfl, Nat.le_of_ble_eq_true rfl⟩ hl.1 rfl (Nat.le_of_ble_eq_true rfl) hc0 dL_law_725 (fun r2 τ H locs k2 I => ?_)
  obtain ⟨k2, rfl⟩ := k2
  refine lv_icmp_eq (tgt := 783) hx hb dL_law_728 (by decide) (fun _ => ?_) (fun z => absurd (k1.trans ((q_letter hR).trans k2.symm)) z)
  refine W.widen (k := cells + 4) (n := slots + 224) (by omega) (by omega) ?_
  exact kk H locs ⟨α, n, _, d, ly, dr, rfl, rfl, I, Rel_q hR⟩
set_option maxHeartbeats 1000000 in
set_option maxRecDepth 100000 in
theorem lk_19 (C : LX p s m c b L xs g) (J : LW g s H locs q0 q14) (hi : i + 4 ≤ L) (hL : L ≤ 2048) (hcs : cells + 4 ≤ room_1.cells ∧ slots + 224 ≤ room_1.slots) (hl : lv_has ls 4 [(0, .ref b), (1, .ref q0), (2, .ref q14), (3, .int (nI i))]) (kk : ∀ (H : Heap) (locs : List Loc), LW g s H locs q0 q14 → W p l e room_1 s m #[Value.ref b] below meth c H locs (cells + 4) (slots + 224) Q (F0 m 783 ls [])) : W p l e room_1 s m #[Value.ref b] below meth c H locs cells slots Q (F0 m 733 ls []) := by
  obtain ⟨X, hX, hbl, hT⟩ := C
  have hx := X.1.1
  have hb := X.1.2.1
  have hbA : ¬ lA s b := Nat.not_le.mpr hbl
  have hA : ∀ q, s.heap.size ≤ q → lA s q := fun _ h => h
  have hc0 : cells ≤ room_1.cells ∧ slots ≤ room_1.slots := ⟨Nat.le_trans (Nat.le_add_right _ 4) hcs.1, Nat.le_trans (Nat.le_add_right _ 224) hcs.2⟩
  obtain ⟨α, n, σ, d, ly, dr, rfl, rfl, I, hR⟩ := J
  have hd200 : d ≤ 200 := hR.1.1
  have hn10 : n ≤ 10 := hR.1.2.1
  have hly6 : ly ≤ 6 := hR.1.2.2.1
  have hdr30 : dr ≤ 30 := hR.1.2.2.2
  have v1 : vp_in (nI i + 1) L := by rw [nI_1]; exact vp_in_nI (by omega) (by omega)
  have v2 : vp_in (nI i + 2) L := by rw [show nI i + 2 = nI (i + 2) from nI_add i 2]; exact vp_in_nI (by omega) (by omega)
  have v3 : vp_in (nI i + 3) L := by rw [show nI i + 3 = nI (i + 3) from nI_add i 3]; exact vp_in_nI (by omega) (by omega)
  have h5 := hR.2.2.2.2.2.2.2.2.2.1
  have h6 := hR.2.2.2.2.2.2.2.2.2.2
  refine lv_aload_n hx hb dL_law_733 rfl (lv_at hl 1 rfl) ?_
  refine w_vSi X I 0 (by omega) rfl rfl (As := []) (rest := []) (ctX4_foretold l g α (32 + 4 * n) σ d (by omega) hR.2.1.1 hd200) (wM_V kmL_96 ki_X4_foretold ks_X4_foretold kn_X4 kc_X4_foretold) rfl rfl (n := 0) (by decide +kernel) rfl ⟨Nat.le_of_ble_eq_true rfl, Nat.le_of_ble_eq_true rfl⟩ hl.1 rfl (Nat.le_of_ble_eq_true rfl) hc0 dL_law_734 (fun r1 k1 => ?_)
  refine lv_aload_n hx hb dL_law_737 rfl (lv_at hl 2 rfl) ?_
  refine w_vi X I hA 14 (by omega) rfl rfl (As := []) (rest := [.int r1]) (ctX5_foretold l g α (32 + 4 * n) σ _ d (by omega) hR.2.2.1.1 hd200) (wM_V kmL_99 ki_X5_foretold ks_X5_foretold kn_X5 kc_X5_foretold) rfl rfl (n := 0) (by decide +kernel) rfl ⟨Nat.le_of_ble_eq_true rfl, Nat.le_of_ble_eq_true rfl⟩ hl.1 rfl (Nat.le_of_ble_eq_true rfl) hc0 dL_law_738 (fun r2 τ H locs k2 I => ?_)
  obtain ⟨k2, rfl⟩ := k2
  refine lv_icmp_eq (tgt := 783) hx hb dL_law_741 (by decide) (fun _ => ?_) (fun z => absurd (k1.trans ((q_foretold hR).trans k2.symm)) z)
  refine W.widen (k := cells + 4) (n := slots + 224) (by omega) (by omega) ?_
  exact kk H locs ⟨α, n, _, d, ly, dr, rfl, rfl, I, Rel_q hR⟩
set_option maxHeartbeats 1000000 in
set_option maxRecDepth 100000 in
theorem lk_20 (C : LX p s m c b L xs g) (J : LW g s H locs q0 q14) (hi : i + 4 ≤ L) (hL : L ≤ 2048) (hcs : cells + 4 ≤ room_1.cells ∧ slots + 224 ≤ room_1.slots) (hl : lv_has ls 4 [(0, .ref b), (1, .ref q0), (2, .ref q14), (3, .int (nI i))]) (kk : ∀ (H : Heap) (locs : List Loc), LW g s H locs q0 q14 → W p l e room_1 s m #[Value.ref b] below meth c H locs (cells + 4) (slots + 224) Q (F0 m 783 ls [])) : W p l e room_1 s m #[Value.ref b] below meth c H locs cells slots Q (F0 m 746 ls []) := by
  obtain ⟨X, hX, hbl, hT⟩ := C
  have hx := X.1.1
  have hb := X.1.2.1
  have hbA : ¬ lA s b := Nat.not_le.mpr hbl
  have hA : ∀ q, s.heap.size ≤ q → lA s q := fun _ h => h
  have hc0 : cells ≤ room_1.cells ∧ slots ≤ room_1.slots := ⟨Nat.le_trans (Nat.le_add_right _ 4) hcs.1, Nat.le_trans (Nat.le_add_right _ 224) hcs.2⟩
  obtain ⟨α, n, σ, d, ly, dr, rfl, rfl, I, hR⟩ := J
  have hd200 : d ≤ 200 := hR.1.1
  have hn10 : n ≤ 10 := hR.1.2.1
  have hly6 : ly ≤ 6 := hR.1.2.2.1
  have hdr30 : dr ≤ 30 := hR.1.2.2.2
  have v1 : vp_in (nI i + 1) L := by rw [nI_1]; exact vp_in_nI (by omega) (by omega)
  have v2 : vp_in (nI i + 2) L := by rw [show nI i + 2 = nI (i + 2) from nI_add i 2]; exact vp_in_nI (by omega) (by omega)
  have v3 : vp_in (nI i + 3) L := by rw [show nI i + 3 = nI (i + 3) from nI_add i 3]; exact vp_in_nI (by omega) (by omega)
  have h5 := hR.2.2.2.2.2.2.2.2.2.1
  have h6 := hR.2.2.2.2.2.2.2.2.2.2
  refine lv_aload_n hx hb dL_law_746 rfl (lv_at hl 1 rfl) ?_
  refine lv_aload_n hx hb dL_law_747 rfl (lv_at hl 0 rfl) ?_
  refine lv_iload_n hx hb dL_law_748 rfl (lv_at hl 3 rfl) ?_
  refine lv_iconst (v := 1) hx hb dL_law_749 (by decide) ?_
  refine lv_iadd hx hb dL_law_750 ?_
  refine va_sld hx hb hX hbl hbA I.2.2 v1 dL_law_751 ?_
  refine w_vSi X I 0 (by omega) rfl rfl (As := [.int (xs (nI i + 1).toNatClampNeg)]) (rest := []) (ctX4_count l g α (32 + 4 * n) σ (xs (nI i + 1).toNatClampNeg) n d ly dr hR.2.1.2.1 hn10 (by omega) hR.2.1.1 hd200 hR.2.1.2.2.1 hly6 hR.2.1.2.2.2 hdr30 h5) (wM_V kmL_100 ki_X4_count ks_X4_count kn_X4 kc_X4_count) rfl rfl (n := 1) (by decide +kernel) rfl ⟨Nat.le_of_ble_eq_true rfl, Nat.le_of_ble_eq_true rfl⟩ hl.1 rfl (Nat.le_of_ble_eq_true rfl) hc0 dL_law_752 (fun r1 k1 => ?_)
  refine lv_aload_n hx hb dL_law_755 rfl (lv_at hl 2 rfl) ?_
  refine lv_aload_n hx hb dL_law_756 rfl (lv_at hl 0 rfl) ?_
  refine lv_iload_n hx hb dL_law_757 rfl (lv_at hl 3 rfl) ?_
  refine lv_iconst (v := 1) hx hb dL_law_758 (by decide) ?_
  refine lv_iadd hx hb dL_law_759 ?_
  refine va_sld hx hb hX hbl hbA I.2.2 v1 dL_law_760 ?_
  refine w_vi X I hA 14 (by omega) rfl rfl (As := [.int (xs (nI i + 1).toNatClampNeg)]) (rest := [.int r1]) (ctX5_count l g α (32 + 4 * n) σ _ (xs (nI i + 1).toNatClampNeg) n d ly dr hR.2.2.1.2.1 hn10 (by omega) hR.2.2.1.1 hd200 hR.2.2.1.2.2.1 hly6 hR.2.2.1.2.2.2 hdr30) (wM_V kmL_103 ki_X5_count ks_X5_count kn_X5 kc_X5_count) rfl rfl (n := 1) (by decide +kernel) rfl ⟨Nat.le_of_ble_eq_true rfl, Nat.le_of_ble_eq_true rfl⟩ hl.1 rfl (Nat.le_of_ble_eq_true rfl) hc0 dL_law_761 (fun r2 τ H locs k2 I => ?_)
  obtain ⟨k2, rfl⟩ := k2
  refine lv_icmp_eq (tgt := 783) hx hb dL_law_764 (by decide) (fun _ => ?_) (fun z => absurd (k1.trans ((q_count hR).trans k2.symm)) z)
  refine W.widen (k := cells + 4) (n := slots + 224) (by omega) (by omega) ?_
  exact kk H locs ⟨α, n, _, d, ly, dr, rfl, rfl, I, Rel_q hR⟩
set_option maxHeartbeats 1000000 in
set_option maxRecDepth 100000 in
theorem lk_21 (C : LX p s m c b L xs g) (J : LW g s H locs q0 q14) (hi : i + 4 ≤ L) (hL : L ≤ 2048) (hcs : cells + 4 ≤ room_1.cells ∧ slots + 224 ≤ room_1.slots) (hl : lv_has ls 4 [(0, .ref b), (1, .ref q0), (2, .ref q14), (3, .int (nI i))]) (kk : ∀ (H : Heap) (locs : List Loc), LW g s H locs q0 q14 → W p l e room_1 s m #[Value.ref b] below meth c H locs (cells + 4) (slots + 224) Q (F0 m 783 ls [])) : W p l e room_1 s m #[Value.ref b] below meth c H locs cells slots Q (F0 m 769 ls []) := by
  obtain ⟨X, hX, hbl, hT⟩ := C
  have hx := X.1.1
  have hb := X.1.2.1
  have hbA : ¬ lA s b := Nat.not_le.mpr hbl
  have hA : ∀ q, s.heap.size ≤ q → lA s q := fun _ h => h
  have hc0 : cells ≤ room_1.cells ∧ slots ≤ room_1.slots := ⟨Nat.le_trans (Nat.le_add_right _ 4) hcs.1, Nat.le_trans (Nat.le_add_right _ 224) hcs.2⟩
  obtain ⟨α, n, σ, d, ly, dr, rfl, rfl, I, hR⟩ := J
  have hd200 : d ≤ 200 := hR.1.1
  have hn10 : n ≤ 10 := hR.1.2.1
  have hly6 : ly ≤ 6 := hR.1.2.2.1
  have hdr30 : dr ≤ 30 := hR.1.2.2.2
  have v1 : vp_in (nI i + 1) L := by rw [nI_1]; exact vp_in_nI (by omega) (by omega)
  have v2 : vp_in (nI i + 2) L := by rw [show nI i + 2 = nI (i + 2) from nI_add i 2]; exact vp_in_nI (by omega) (by omega)
  have v3 : vp_in (nI i + 3) L := by rw [show nI i + 3 = nI (i + 3) from nI_add i 3]; exact vp_in_nI (by omega) (by omega)
  have h5 := hR.2.2.2.2.2.2.2.2.2.1
  have h6 := hR.2.2.2.2.2.2.2.2.2.2
  refine lv_aload_n hx hb dL_law_769 rfl (lv_at hl 1 rfl) ?_
  refine w_vSl X I 0 (by omega) rfl rfl (As := []) (rest := []) (ctX4_trace l g α (32 + 4 * n) σ (by omega)) (wM_V kmL_104 ki_X4_trace ks_X4_trace kn_X4 kc_X4_trace) rfl rfl (n := 0) (by decide +kernel) rfl ⟨Nat.le_of_ble_eq_true rfl, Nat.le_of_ble_eq_true rfl⟩ hl.1 rfl (Nat.le_of_ble_eq_true rfl) hc0 dL_law_770 (fun r1 k1 => ?_)
  refine lv_aload_n hx hb dL_law_773 rfl (lv_at hl 2 rfl) ?_
  refine w_vl X I hA 14 (by omega) rfl rfl (As := []) (rest := [.long r1]) (ctX5_trace l g α (32 + 4 * n) σ _ (by omega)) (wM_V kmL_108 ki_X5_trace ks_X5_trace kn_X5 kc_X5_trace) rfl rfl (n := 0) (by decide +kernel) rfl ⟨Nat.le_of_ble_eq_true rfl, Nat.le_of_ble_eq_true rfl⟩ hl.1 rfl (Nat.le_of_ble_eq_true rfl) hc0 dL_law_774 (fun r2 τ H locs k2 I => ?_)
  obtain ⟨k2, rfl⟩ := k2
  have e0 : r1 = r2 := k1.trans (hR.2.2.2.1.2.1.trans k2.symm)
  subst e0
  refine W.lcmp hx hb dL_law_777 ?_
  refine w_eqi (y := 0) (lg_self r1) ?_
  refine lv_if_eq (tgt := 783) hx hb dL_law_778 (by decide) (fun _ => ?_) (fun z => absurd rfl z)
  refine W.widen (k := cells + 4) (n := slots + 224) (by omega) (by omega) ?_
  exact kk H locs ⟨α, n, _, d, ly, dr, rfl, rfl, I, Rel_q hR⟩
end LAW
