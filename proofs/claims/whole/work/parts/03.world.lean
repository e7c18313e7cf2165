/-! MY WORLD: every cell has an id; the int slots of all cells are the rows of V, the longs T, the references (ids again) R; α tells each id's address. 0 RockRoad, 1 swells, 2 Layers, 3 tons, 4 worths, 5 ships, 6 line, 7 Draft, 8 bytes, 9 terms, 10 Letters, 11 queues, 12 dug, 13 comings; 14 Model, 15 swell, 16 tons, 17 worth, 18 kind, 19 came, 20 wants, 21 water, 22 done, 23 cargo, 24 took, 25 queue, 26 dug, 27 comes, 28 draft, 29 terms, 30 read, 31 isMet; 32 + 4 i the Ship i, then its cargo, terms, log. -/
abbrev wG : Type := va_G × (Nat → ClassId)
abbrev wS : Type := (Nat → Nat → Int32) × (Nat → Int64) × (Nat → Nat → Option Nat)
def wc (g : wG) (α : Nat → Nat) (i : Nat) (v : Nat → Int32) (t : Int64) (r : Nat → Option Nat) : va_E :=
  match i with
  | 0 => .inr (4, [.ref (α 1), .ref (α 2), .ref (α 5), .ref (α 6), .ref (α 7), .ref (α 10), .int (v 6), .int (v 7), .int (v 8), .long t])
  | 1 => .inl (g.2 0, 201, .inl v)
  | 2 => .inr (1, [.ref (α 3), .ref (α 4), .int (v 2)])
  | 3 => .inl (g.2 0, 6, .inl v)
  | 4 => .inl (g.2 0, 6, .inl v)
  | 5 => .inl (g.2 2, 10, .inr (.inr (.inr (.inr (fun j => (r j).map α)))))
  | 6 => .inl (g.2 2, 10, .inr (.inr (.inr (.inr (fun j => (r j).map α)))))
  | 7 => .inr (0, [.ref (α 8), .ref (α 9), .int (v 2)])
  | 8 => .inl (g.2 0, 30, .inl v)
  | 9 => .inl (g.2 0, 6, .inl v)
  | 10 => .inr (2, [.ref (α 11), .ref (α 12), .ref (α 13)])
  | 11 => .inl (g.2 0, 200, .inl v)
  | 12 => .inl (g.2 0, 200, .inl v)
  | 13 => .inl (g.2 0, 200, .inl v)
  | 14 => .inr (5, [.int (v 0), .long t, .int (v 2), .ref (α 15), .int (v 4), .ref (α 16), .ref (α 17), .int (v 7), .ref (α 18), .ref (α 19), .ref (α 20), .ref (α 21), .ref (α 22), .ref (α 23), .ref (α 24), .ref (α 25), .ref (α 26), .ref (α 27), .int (v 18), .int (v 19), .ref (α 28), .int (v 21), .ref (α 29), .ref (α 30), .ref (α 31)])
  | 15 => .inl (g.2 0, 201, .inl v)
  | 16 => .inl (g.2 0, 6, .inl v)
  | 17 => .inl (g.2 0, 6, .inl v)
  | 18 => .inl (g.2 0, 10, .inl v)
  | 19 => .inl (g.2 0, 10, .inl v)
  | 20 => .inl (g.2 0, 10, .inl v)
  | 21 => .inl (g.2 0, 10, .inl v)
  | 22 => .inl (g.2 0, 10, .inl v)
  | 23 => .inl (g.2 0, 60, .inl v)
  | 24 => .inl (g.2 0, 2010, .inl v)
  | 25 => .inl (g.2 0, 201, .inl v)
  | 26 => .inl (g.2 0, 201, .inl v)
  | 27 => .inl (g.2 0, 201, .inl v)
  | 28 => .inl (g.2 0, 30, .inl v)
  | 29 => .inl (g.2 0, 60, .inl v)
  | 30 => .inl (g.2 0, 6, .inl v)
  | 31 => .inl (g.2 1, 10, .inl v)
  | i + 32 => if i % 4 = 0 then .inr (3, [.int (v 0), .int (v 1), .int (v 2), .ref (α (i + 33)), .ref (α (i + 34)), .ref (α (i + 35)), .int (v 6), .int (v 7), .int (v 8), .int (v 9)]) else if i % 4 = 3 then .inl (g.2 0, 200, .inl v) else .inl (g.2 0, 6, .inl v)
theorem wc_ship (g : wG) (α : Nat → Nat) (i : Nat) (v : Nat → Int32) (t : Int64) (r : Nat → Option Nat) : wc g α (32 + 4 * i) v t r = .inr (3, [.int (v 0), .int (v 1), .int (v 2), .ref (α (33 + 4 * i)), .ref (α (34 + 4 * i)), .ref (α (35 + 4 * i)), .int (v 6), .int (v 7), .int (v 8), .int (v 9)]) := by
  rw [Nat.add_comm 32 (4 * i), Nat.add_comm 33 (4 * i), Nat.add_comm 34 (4 * i), Nat.add_comm 35 (4 * i)]
  exact if_pos (by omega)
theorem wc_cargo (g : wG) (α : Nat → Nat) (i : Nat) (v : Nat → Int32) (t : Int64) (r : Nat → Option Nat) : wc g α (33 + 4 * i) v t r = .inl (g.2 0, 6, .inl v) := by
  rw [show 33 + 4 * i = (4 * i + 1) + 32 by omega]
  exact (if_neg (by omega)).trans (if_neg (by omega))
theorem wc_terms (g : wG) (α : Nat → Nat) (i : Nat) (v : Nat → Int32) (t : Int64) (r : Nat → Option Nat) : wc g α (34 + 4 * i) v t r = .inl (g.2 0, 6, .inl v) := by
  rw [show 34 + 4 * i = (4 * i + 2) + 32 by omega]
  exact (if_neg (by omega)).trans (if_neg (by omega))
theorem wc_log (g : wG) (α : Nat → Nat) (i : Nat) (v : Nat → Int32) (t : Int64) (r : Nat → Option Nat) : wc g α (35 + 4 * i) v t r = .inl (g.2 0, 200, .inl v) := by
  rw [show 35 + 4 * i = (4 * i + 3) + 32 by omega]
  exact (if_neg (by omega)).trans (if_pos (by omega))
def wld (g : wG) (α : Nat → Nat) (σ : wS) (N : Nat) : va_W := (List.range N).map (fun i => (α i, wc g α i (σ.1 i) (σ.2.1 i) (σ.2.2 i)))
def wtys (g : wG) : List (ClassId × FieldType) := [(g.2 0, .int), (g.2 1, .boolean), (g.2 2, .object "RockRoad$Ship")]
theorem wld_get {g : wG} {α : Nat → Nat} {σ : wS} {N i : Nat} (h : i < N) : (wld g α σ N)[i]? = some (α i, wc g α i (σ.1 i) (σ.2.1 i) (σ.2.2 i)) := by
  simp [wld, List.getElem?_map, List.getElem?_range h]
theorem wld_set {g : wG} {α : Nat → Nat} {σ σ' : wS} {N i : Nat} {e : va_E} (h : i < N) (he : wc g α i (σ'.1 i) (σ'.2.1 i) (σ'.2.2 i) = e) (ho : ∀ j, j ≠ i → σ'.1 j = σ.1 j ∧ σ'.2.1 j = σ.2.1 j ∧ σ'.2.2 j = σ.2.2 j) : (wld g α σ N).set i (α i, e) = wld g α σ' N := by
  apply List.ext_getElem?
  intro j
  by_cases hj : j = i
  · subst hj
    rw [List.getElem?_set_self (by simp [wld]; exact h), wld_get h, he]
  · rw [List.getElem?_set_ne (Ne.symm hj)]
    by_cases hN : j < N
    · rw [wld_get hN, wld_get hN, (ho j hj).1, (ho j hj).2.1, (ho j hj).2.2]
    · rw [List.getElem?_eq_none (by simp [wld]; omega), List.getElem?_eq_none (by simp [wld]; omega)]
/-- writes: an int slot, a long, a reference -/
def wu (σ : wS) (i k : Nat) (x : Int32) : wS := (va_up σ.1 i (upd (σ.1 i) k x), σ.2)
def wuL (σ : wS) (i : Nat) (x : Int64) : wS := (σ.1, va_up σ.2.1 i x, σ.2.2)
def wuR (σ : wS) (i k : Nat) (x : Option Nat) : wS := (σ.1, σ.2.1, va_up σ.2.2 i (va_up (σ.2.2 i) k x))
def wX (p : Program) (s : State) (m : MethodId) (args : Array Value) (c : Code) (cc : ByteArray) (nL : Nat) (own : String) (g : wG) : Prop := CallFix p m c cc nL s args lw_all own ∧ va_K g.1 vwCl (wtys g) s
def wI (g : wG) (α : Nat → Nat) (N : Nat) (A : Nat → Prop) (H0 H : Heap) (locs : List Loc) (σ : wS) : Prop := va_P g.1 vwCl (wld g α σ N) H ∧ va_D A (wld g α σ N) ∧ va_S A H0 H locs
def wA (α : Nat → Nat) (N sz : Nat) : Nat → Prop := fun q => (∃ i, i < N ∧ q = α i) ∨ sz ≤ q
def wPc (g : wG) (α : Nat → Nat) (N : Nat) (σ : wS) (av : List Value) : Array Value → State → Prop := va_Pc av (fun U => va_P g.1 vwCl (wld g α σ N) U.heap ∧ va_K g.1 vwCl (wtys g) U ∧ va_D (fun _ => True) (wld g α σ N))
def wPs (g : wG) (α : Nat → Nat) (N sz : Nat) (σ : wS) (av : List Value) : Array Value → State → Prop := va_Pc av (fun U => U.heap.size = sz ∧ va_P g.1 vwCl (wld g α σ N) U.heap ∧ va_K g.1 vwCl (wtys g) U ∧ va_D (fun _ => True) (wld g α σ N))
theorem wPc_blind {g : wG} {α : Nat → Nat} {N : Nat} {σ : wS} {av : List Value} : FrameBlind (wPc g α N σ av) := fun a U f mk q => by
  obtain ⟨q0, qP, qK, qD⟩ := q
  exact ⟨q0, qP, va_K.moved (u := U) (U := U.calling f mk a) (Vm.Alike.refl U.vm) qK, qD⟩
theorem wPs_blind {g : wG} {α : Nat → Nat} {N sz : Nat} {σ : wS} {av : List Value} : FrameBlind (wPs g α N sz σ av) := fun a U f mk q => by
  obtain ⟨q0, q1, qP, qK, qD⟩ := q
  exact ⟨q0, q1, qP, va_K.moved (u := U) (U := U.calling f mk a) (Vm.Alike.refl U.vm) qK, qD⟩
/-- the ends of methods that read alone: an int (or a boolean), a reference; of methods that write: an int, nothing, a long -/
def wB (g : wG) (α : Nat → Nat) (N : Nat) : wS → State → Prop := fun σ t => va_P g.1 vwCl (wld g α σ N) t.heap
section WR
variable {p : Program} {l : Launch} {e : Env} {R : Room} {s : State} {m : MethodId} {args : Array Value} {below : List Frame} {meth : Method} {c : Code} {H : Heap} {locs : List Loc} {cells slots : Nat} {Q : State → Prop}
variable {pc : Nat} {ls : Array Slot} {rest : List Value} {g : wG} {α : Nat → Nat} {N : Nat} {A : Nat → Prop} {H0 : Heap} {σ : wS} {own : String} {cc : ByteArray} {nL : Nat}
theorem w_get (X : wX p s m args c cc nL own g) (I : wI g α N A H0 H locs σ) (i : Nat) (hi : i < N) {ci Nf index k : Nat} {fs : List Value} {C : String} {T : u_T} {v : Value} (he : wc g α i (σ.1 i) (σ.2.1 i) (σ.2.2 i) = .inr (ci, fs)) (hc : vwCl[ci]? = some (C, T, Nf)) (hin : ∀ w ∈ u_ws C T Nf, w ∈ lw_all) (hk : k < Nf) (hl : Cond.fieldLink own index (T k).1 (T k).2.1 (T k).2.2.1 ∈ lw_all) (hv : fs[k]? = some v) (hdg : decode cc pc = .ok (.getfield index, 3))
    (kk : W p l e R s m args below meth c H locs cells slots Q (F0 m (pc + 3) ls (v :: rest))) : W p l e R s m args below meth c H locs cells slots Q (F0 m pc ls (.ref (α i) :: rest)) :=
  va_get (D := g.1) X.1.1 X.1.2.1 X.1.2.2.2.2 hin X.1.2.2.2.1 X.2 I.1 i ((wld_get hi).trans (by rw [he])) hc k hk (X.1.2.2.2.2 _ hl) (fun _ h => h) hv hdg kk
theorem w_put (X : wX p s m args c cc nL own g) (I : wI g α N A H0 H locs σ) (i : Nat) (hi : i < N) {ci Nf index k : Nat} {fs : List Value} {C : String} {T : u_T} {x : Int32} (he : wc g α i (σ.1 i) (σ.2.1 i) (σ.2.2 i) = .inr (ci, fs)) (he2 : wc g α i (upd (σ.1 i) k x) (σ.2.1 i) (σ.2.2 i) = .inr (ci, fs.set k (.int x))) (hc : vwCl[ci]? = some (C, T, Nf)) (hin : ∀ w ∈ u_ws C T Nf, w ∈ lw_all) (ty0 : Nat → FieldType) (hty : ∀ k, k < Nf → parseFieldDescriptor (T k).2.2.1 = some (ty0 k)) (hnm : ∀ a, a < Nf → ∀ b, b < Nf → a ≠ b → (T a).2.1 ≠ (T b).2.1) (hk : k < Nf) (hl : Cond.fieldLink own index (T k).1 (T k).2.1 (T k).2.2.1 ∈ lw_all) (hfin : (T k).2.2.2 = false) (hd : parseFieldDescriptor (T k).2.2.1 = some .int) (hlf : k < fs.length) (hdg : decode cc pc = .ok (.putfield index, 3))
    (kk : ∀ (H1 : Heap) (locs1 : List Loc), wI g α N A H0 H1 locs1 (wu σ i k x) → W p l e R s m args below meth c H1 locs1 cells slots Q (F0 m (pc + 3) ls rest)) : W p l e R s m args below meth c H locs cells slots Q (F0 m pc ls (.int x :: .ref (α i) :: rest)) := by
  have hset : (wld g α σ N).set i (α i, .inr (ci, fs.set k (.int x))) = wld g α (wu σ i k x) N := wld_set hi (by rw [← he2]; simp [wu, va_up_self]) (fun j hj => ⟨by simp [wu, va_up_ne _ _ hj], rfl, rfl⟩)
  refine va_put (D := g.1) X.1.1 X.1.2.1 X.1.2.2.2.2 hin ty0 hty hnm X.1.2.2.2.1 X.2 I.1 I.2.1 I.2.2 i ((wld_get hi).trans (by rw [he])) hc k hk (X.1.2.2.2.2 _ hl) (fun _ h => h) hfin hd rfl rfl hlf hdg (fun H1 locs1 hP hD hS => ?_)
  rw [hset] at hP hD
  exact kk H1 locs1 ⟨hP, hD, hS⟩
theorem w_putL (X : wX p s m args c cc nL own g) (I : wI g α N A H0 H locs σ) (i : Nat) (hi : i < N) {ci Nf index k : Nat} {fs : List Value} {C : String} {T : u_T} {x : Int64} (he : wc g α i (σ.1 i) (σ.2.1 i) (σ.2.2 i) = .inr (ci, fs)) (he2 : wc g α i (σ.1 i) x (σ.2.2 i) = .inr (ci, fs.set k (.long x))) (hc : vwCl[ci]? = some (C, T, Nf)) (hin : ∀ w ∈ u_ws C T Nf, w ∈ lw_all) (ty0 : Nat → FieldType) (hty : ∀ k, k < Nf → parseFieldDescriptor (T k).2.2.1 = some (ty0 k)) (hnm : ∀ a, a < Nf → ∀ b, b < Nf → a ≠ b → (T a).2.1 ≠ (T b).2.1) (hk : k < Nf) (hl : Cond.fieldLink own index (T k).1 (T k).2.1 (T k).2.2.1 ∈ lw_all) (hfin : (T k).2.2.2 = false) (hd : parseFieldDescriptor (T k).2.2.1 = some .long) (hlf : k < fs.length) (hdg : decode cc pc = .ok (.putfield index, 3))
    (kk : ∀ (H1 : Heap) (locs1 : List Loc), wI g α N A H0 H1 locs1 (wuL σ i x) → W p l e R s m args below meth c H1 locs1 cells slots Q (F0 m (pc + 3) ls rest)) : W p l e R s m args below meth c H locs cells slots Q (F0 m pc ls (.long x :: .ref (α i) :: rest)) := by
  have hset : (wld g α σ N).set i (α i, .inr (ci, fs.set k (.long x))) = wld g α (wuL σ i x) N := wld_set hi (by rw [← he2]; simp [wuL, va_up_self]) (fun j hj => ⟨rfl, by simp [wuL, va_up_ne _ _ hj], rfl⟩)
  refine va_put (D := g.1) X.1.1 X.1.2.1 X.1.2.2.2.2 hin ty0 hty hnm X.1.2.2.2.1 X.2 I.1 I.2.1 I.2.2 i ((wld_get hi).trans (by rw [he])) hc k hk (X.1.2.2.2.2 _ hl) (fun _ h => h) hfin hd rfl rfl hlf hdg (fun H1 locs1 hP hD hS => ?_)
  rw [hset] at hP hD
  exact kk H1 locs1 ⟨hP, hD, hS⟩
theorem w_ld (X : wX p s m args c cc nL own g) (I : wI g α N A H0 H locs σ) (i : Nat) (hi : i < N) {n k : Nat} {x : Int32} (he : ∀ v t r, wc g α i v t r = .inl (g.2 0, n, .inl v)) (hx : x = nI k) (hk : k < n) (hn : n < 2 ^ 31) (hdg : decode cc pc = .ok (.iaload, 1))
    (kk : W p l e R s m args below meth c H locs cells slots Q (F0 m (pc + 1) ls (.int (σ.1 i k) :: rest))) : W p l e R s m args below meth c H locs cells slots Q (F0 m pc ls (.int x :: .ref (α i) :: rest)) := by
  subst hx
  refine va_iald (D := g.1) X.1.1 X.1.2.1 X.2 I.1 i 0 ((wld_get hi).trans (by rw [he])) rfl (vp_in_nI hk hn) hdg ?_
  rw [nI_clamp (by omega)]
  exact kk
theorem w_ldz (X : wX p s m args c cc nL own g) (I : wI g α N A H0 H locs σ) (i : Nat) (hi : i < N) {n k : Nat} {x : Int32} (he : ∀ v t r, wc g α i v t r = .inl (g.2 1, n, .inl v)) (hx : x = nI k) (hk : k < n) (hn : n < 2 ^ 31) (hdg : decode cc pc = .ok (.baload, 1))
    (kk : W p l e R s m args below meth c H locs cells slots Q (F0 m (pc + 1) ls (.int (σ.1 i k) :: rest))) : W p l e R s m args below meth c H locs cells slots Q (F0 m pc ls (.int x :: .ref (α i) :: rest)) := by
  subst hx
  refine va_zald (D := g.1) X.1.1 X.1.2.1 X.2 I.1 i 1 ((wld_get hi).trans (by rw [he])) rfl (vp_in_nI hk hn) hdg ?_
  rw [nI_clamp (by omega)]
  exact kk
theorem w_st (X : wX p s m args c cc nL own g) (I : wI g α N A H0 H locs σ) (i : Nat) (hi : i < N) {n k : Nat} {x y : Int32} (he : ∀ v t r, wc g α i v t r = .inl (g.2 0, n, .inl v)) (hx : x = nI k) (hk : k < n) (hn : n < 2 ^ 31) (hdg : decode cc pc = .ok (.iastore, 1))
    (kk : ∀ (H1 : Heap) (locs1 : List Loc), wI g α N A H0 H1 locs1 (wu σ i k y) → W p l e R s m args below meth c H1 locs1 cells slots Q (F0 m (pc + 1) ls rest)) : W p l e R s m args below meth c H locs cells slots Q (F0 m pc ls (.int y :: .int x :: .ref (α i) :: rest)) := by
  subst hx
  refine va_iast (D := g.1) X.1.1 X.1.2.1 X.2 I.1 I.2.1 I.2.2 i 0 ((wld_get hi).trans (by rw [he])) rfl (vp_in_nI hk hn) hdg (fun H1 locs1 hP hD hS => ?_)
  rw [nI_clamp (by omega)] at hP hD
  have hset : (wld g α σ N).set i (α i, .inl (g.2 0, n, .inl (upd (σ.1 i) k y))) = wld g α (wu σ i k y) N := wld_set hi (by rw [he]; simp [wu, va_up_self]) (fun j hj => ⟨by simp [wu, va_up_ne _ _ hj], rfl, rfl⟩)
  rw [hset] at hP hD
  exact kk H1 locs1 ⟨hP, hD, hS⟩
theorem w_stz (X : wX p s m args c cc nL own g) (I : wI g α N A H0 H locs σ) (i : Nat) (hi : i < N) {n k : Nat} {x y : Int32} (he : ∀ v t r, wc g α i v t r = .inl (g.2 1, n, .inl v)) (hx : x = nI k) (hk : k < n) (hn : n < 2 ^ 31) (hy : vp_nar .boolean y = y) (hdg : decode cc pc = .ok (.bastore, 1))
    (kk : ∀ (H1 : Heap) (locs1 : List Loc), wI g α N A H0 H1 locs1 (wu σ i k y) → W p l e R s m args below meth c H1 locs1 cells slots Q (F0 m (pc + 1) ls rest)) : W p l e R s m args below meth c H locs cells slots Q (F0 m pc ls (.int y :: .int x :: .ref (α i) :: rest)) := by
  subst hx
  refine va_zast (D := g.1) X.1.1 X.1.2.1 X.2 I.1 I.2.1 I.2.2 i 1 ((wld_get hi).trans (by rw [he])) rfl (vp_in_nI hk hn) hdg (fun H1 locs1 hP hD hS => ?_)
  rw [nI_clamp (by omega), hy] at hP hD
  have hset : (wld g α σ N).set i (α i, .inl (g.2 1, n, .inl (upd (σ.1 i) k y))) = wld g α (wu σ i k y) N := wld_set hi (by rw [he]; simp [wu, va_up_self]) (fun j hj => ⟨by simp [wu, va_up_ne _ _ hj], rfl, rfl⟩)
  rw [hset] at hP hD
  exact kk H1 locs1 ⟨hP, hD, hS⟩
theorem w_ldq (X : wX p s m args c cc nL own g) (I : wI g α N A H0 H locs σ) (i : Nat) (hi : i < N) {n k j : Nat} {x : Int32} (he : ∀ v t r, wc g α i v t r = .inl (g.2 2, n, .inr (.inr (.inr (.inr (fun j => (r j).map α)))))) (hx : x = nI k) (hk : k < n) (hn : n < 2 ^ 31) (hj : σ.2.2 i k = some j) (hdg : decode cc pc = .ok (.aaload, 1))
    (kk : W p l e R s m args below meth c H locs cells slots Q (F0 m (pc + 1) ls (.ref (α j) :: rest))) : W p l e R s m args below meth c H locs cells slots Q (F0 m pc ls (.int x :: .ref (α i) :: rest)) := by
  subst hx
  refine va_aldq (D := g.1) X.1.1 X.1.2.1 X.2 I.1 i 2 ((wld_get hi).trans (by rw [he])) rfl (vp_in_nI hk hn) hdg ?_
  rw [nI_clamp (by omega), hj]
  exact kk
theorem w_stq (X : wX p s m args c cc nL own g) (I : wI g α N A H0 H locs σ) (i : Nat) (hi : i < N) {n k j : Nat} {x : Int32} (he : ∀ v t r, wc g α i v t r = .inl (g.2 2, n, .inr (.inr (.inr (.inr (fun j => (r j).map α)))))) (hx : x = nI k) (hk : k < n) (hn : n < 2 ^ 31) (hjN : j < N) {vs : List Value} (hj : wc g α j (σ.1 j) (σ.2.1 j) (σ.2.2 j) = .inr (3, vs)) (hdg : decode cc pc = .ok (.aastore, 1))
    (kk : ∀ (H1 : Heap) (locs1 : List Loc), wI g α N A H0 H1 locs1 (wuR σ i k (some j)) → W p l e R s m args below meth c H1 locs1 cells slots Q (F0 m (pc + 1) ls rest)) : W p l e R s m args below meth c H locs cells slots Q (F0 m pc ls (.ref (α j) :: .int x :: .ref (α i) :: rest)) := by
  subst hx
  refine va_astq (D := g.1) X.1.1 X.1.2.1 X.2 I.1 I.2.1 I.2.2 i 2 j 3 ((wld_get hi).trans (by rw [he])) rfl ((wld_get hjN).trans (by rw [hj])) rfl (vp_in_nI hk hn) hdg (fun H1 locs1 hP hD hS => ?_)
  rw [nI_clamp (by omega)] at hP hD
  have hset : (wld g α σ N).set i (α i, .inl (g.2 2, n, .inr (.inr (.inr (.inr (va_up (fun j => (σ.2.2 i j).map α) k (some (α j)))))))) = wld g α (wuR σ i k (some j)) N := wld_set hi (by
      rw [he]
      have : (fun j' => ((wuR σ i k (some j)).2.2 i j').map α) = va_up (fun j => (σ.2.2 i j).map α) k (some (α j)) := by
        funext z
        by_cases hz : z = k
        · subst hz; simp [wuR, va_up]
        · simp [wuR, va_up, hz]
      rw [this]) (fun j hj => ⟨rfl, rfl, by simp [wuR, va_up_ne _ _ hj]⟩)
  rw [hset] at hP hD
  exact kk H1 locs1 ⟨hP, hD, hS⟩
/-- ends -/
theorem w_iretS {post : Int32 → Prop} {v : Int32} (X : wX p s m args c cc nL own g) (hr : meth.sig.returnType = some .int) (hlk : meth.locks = false) (hp : post v) (hdg : decode cc pc = .ok (.ireturn, 1)) : W p l e R s m args below meth c s.heap [] 0 0 (MQ below (vp_Si post) args s 0 0 (fun _ => False)) (F0 m pc ls [.int v]) :=
  W.iret X.1.1 X.1.2.1 hr (fun t ht hW => ⟨v, rfl, hp, ht⟩) (fun q h => by cases h) hdg
theorem w_zretS {post : Int32 → Prop} {v : Int32} (X : wX p s m args c cc nL own g) (hr : meth.sig.returnType = some .boolean) (hlk : meth.locks = false) (hv : v = 0 ∨ v = 1) (hp : post v) (hdg : decode cc pc = .ok (.ireturn, 1)) : W p l e R s m args below meth c s.heap [] 0 0 (MQ below (vp_Si post) args s 0 0 (fun _ => False)) (F0 m pc ls [.int v]) :=
  W.zret X.1.1 X.1.2.1 hr (by rcases hv with h | h <;> subst h <;> rfl) (fun t ht hW => ⟨v, rfl, hp, ht⟩) (fun q h => by cases h) hdg
theorem w_iret {post : Int32 → wS → Prop} {v : Int32} (X : wX p s m args c cc nL own g) (I : wI g α N A s.heap H locs σ) (hr : meth.sig.returnType = some .int) (hlk : meth.locks = false) (hp : post v σ) (hdg : decode cc pc = .ok (.ireturn, 1)) : W p l e R s m args below meth c H locs cells slots (MQ below (va_Qi post (wB g α N) A) args s cells slots A) (F0 m pc ls [.int v]) :=
  W.iret X.1.1 X.1.2.1 hr (fun t ht hW => ⟨⟨v, σ, rfl, hp, by show va_P _ _ _ t.heap; rw [ht]; exact I.1⟩, I.2.2.F ht⟩) I.2.2.2.2 hdg
theorem w_zret {post : Int32 → wS → Prop} {v : Int32} (X : wX p s m args c cc nL own g) (I : wI g α N A s.heap H locs σ) (hr : meth.sig.returnType = some .boolean) (hlk : meth.locks = false) (hv : v = 0 ∨ v = 1) (hp : post v σ) (hdg : decode cc pc = .ok (.ireturn, 1)) : W p l e R s m args below meth c H locs cells slots (MQ below (va_Qi post (wB g α N) A) args s cells slots A) (F0 m pc ls [.int v]) :=
  W.zret X.1.1 X.1.2.1 hr (by rcases hv with h | h <;> subst h <;> rfl) (fun t ht hW => ⟨⟨v, σ, rfl, hp, by show va_P _ _ _ t.heap; rw [ht]; exact I.1⟩, I.2.2.F ht⟩) I.2.2.2.2 hdg
theorem w_vret {post : wS → Prop} (X : wX p s m args c cc nL own g) (I : wI g α N A s.heap H locs σ) (hr : meth.sig.returnType = none) (hlk : meth.locks = false) (hp : post σ) (hdg : decode cc pc = .ok (.return_, 1)) : W p l e R s m args below meth c H locs cells slots (MQ below (va_Qv post (wB g α N) A) args s cells slots A) (F0 m pc ls []) :=
  W.vret X.1.1 X.1.2.1 hr (fun t ht hW => ⟨⟨σ, rfl, hp, by show va_P _ _ _ t.heap; rw [ht]; exact I.1⟩, I.2.2.F ht⟩) I.2.2.2.2 hdg
theorem w_lretS {post : Int64 → Prop} {v : Int64} (X : wX p s m args c cc nL own g) (hr : meth.sig.returnType = some .long) (hlk : meth.locks = false) (hp : post v) (hdg : decode cc pc = .ok (.lreturn, 1)) : W p l e R s m args below meth c s.heap [] 0 0 (MQ below (vp_Sl post) args s 0 0 (fun _ => False)) (F0 m pc ls [.long v]) :=
  W.lret X.1.1 X.1.2.1 hr (fun t ht hW => ⟨v, rfl, hp, ht⟩) (fun q h => by cases h) hdg
theorem w_lret {post : Int64 → wS → Prop} {v : Int64} (X : wX p s m args c cc nL own g) (I : wI g α N A s.heap H locs σ) (hr : meth.sig.returnType = some .long) (hlk : meth.locks = false) (hp : post v σ) (hdg : decode cc pc = .ok (.lreturn, 1)) : W p l e R s m args below meth c H locs cells slots (MQ below (va_Ql post (wB g α N) A) args s cells slots A) (F0 m pc ls [.long v]) :=
  W.lret X.1.1 X.1.2.1 hr (fun t ht hW => ⟨⟨v, σ, rfl, hp, by show va_P _ _ _ t.heap; rw [ht]; exact I.1⟩, I.2.2.F ht⟩) I.2.2.2.2 hdg
theorem w_aretS {post : Option Nat → Prop} {r : Option Nat} {v : Value} {C : String} (hv : v = va_rf r) (X : wX p s m args c cc nL own g) (hr : meth.sig.returnType = some (.object C)) (hlk : meth.locks = false) (hp : post r) (hdg : decode cc pc = .ok (.areturn, 1)) : W p l e R s m args below meth c s.heap [] 0 0 (MQ below (va_Sq post) args s 0 0 (fun _ => False)) (F0 m pc ls [v]) := by
  subst hv
  exact W.aret X.1.1 X.1.2.1 hr (Or.inl ⟨C, rfl⟩) (va_rf_or r) (fun t ht hW => ⟨r, rfl, hp, ht⟩) (fun q h => by cases h) hdg
end WR
section WE
variable {l : Launch} {g : wG} {α : Nat → Nat} {N : Nat} {σ : wS}
/-- the entry of a method that reads alone -/
theorem w_enterS {y : MethodName} {rm : Room} {cc : ByteArray} {maxL : Nat} {ret : Option FieldType} {Qc : Array Value → State → Outcome → State → Prop} {av : List Value} (hy : plainName y.cls = true) (hlen : (lg_sl av).length ≤ maxL)
    (body : ∀ (p : Program) (e : Env) (s : State) (m : MethodId) (args : Array Value) (below : List Frame) (meth : Method) (c : Code), wX p s m args c cc maxL y.cls g → wI g α N (fun _ => True) s.heap s.heap [] σ → meth.sig.returnType = ret → meth.locks = false → ∀ ls : Array Slot, lv_has ls maxL (lv_args 0 av) → W p l e rm s m args below meth c s.heap [] 0 0 (MQ below Qc args s 0 0 (fun _ => False)) (F0 m 0 ls [])) :
    Met l y (wM y cc maxL ret) rm (wPc g α N σ av) Qc 0 0 (fun _ => False) := by
  refine Met.ofW (cc := cc) (maxL := maxL) (ret := ret) hy rfl ?_
  intro p e s m args below meth c s₁ B hml hv
  obtain ⟨rfl, hP, hK, hD⟩ := hv
  have hl := lv_entry av hlen
  rw [lg_entry_eq]
  exact body p e s m _ below meth c ⟨⟨B.exec, B.bytes, hml, findClass_of_methodNamed B.named, fun w h => atoms_spec (ws := wM y cc maxL ret) B.pre w (List.mem_cons_of_mem _ h)⟩, hK⟩ ⟨hP, hD, va_S.rf⟩ B.returns B.notSynchronized _ hl
/-- the entry of a method that writes -/
theorem w_enter {sz mc ms : Nat} {y : MethodName} {rm : Room} {cc : ByteArray} {maxL : Nat} {ret : Option FieldType} {Qc : Array Value → State → Outcome → State → Prop} {av : List Value} (hy : plainName y.cls = true) (hlen : (lg_sl av).length ≤ maxL)
    (body : ∀ (p : Program) (e : Env) (s : State) (m : MethodId) (args : Array Value) (below : List Frame) (meth : Method) (c : Code), s.heap.size = sz → wX p s m args c cc maxL y.cls g → wI g α N (wA α N sz) s.heap s.heap [] σ → meth.sig.returnType = ret → meth.locks = false → ∀ ls : Array Slot, lv_has ls maxL (lv_args 0 av) → W p l e rm s m args below meth c s.heap [] 0 0 (MQ below Qc args s mc ms (wA α N sz)) (F0 m 0 ls [])) :
    Met l y (wM y cc maxL ret) rm (wPs g α N sz σ av) Qc mc ms (wA α N sz) := by
  refine Met.ofW (cc := cc) (maxL := maxL) (ret := ret) hy rfl ?_
  intro p e s m args below meth c s₁ B hml hv
  obtain ⟨rfl, hsz, hP, hK, hD⟩ := hv
  have hl := lv_entry av hlen
  rw [lg_entry_eq]
  refine body p e s m _ below meth c hsz ⟨⟨B.exec, B.bytes, hml, findClass_of_methodNamed B.named, fun w h => atoms_spec (ws := wM y cc maxL ret) B.pre w (List.mem_cons_of_mem _ h)⟩, hK⟩ ⟨hP, ⟨hD.1, fun k q hk => ?_⟩, va_S.rf⟩ B.returns B.notSynchronized _ hl
  refine Or.inl ⟨k, ?_, ?_⟩
  · have := (List.getElem?_eq_some_iff.mp hk).1
    simpa [wld] using this
  · have hkN : k < N := by
      have := (List.getElem?_eq_some_iff.mp hk).1
      simpa [wld] using this
    rw [wld_get hkN] at hk
    cases hk
    rfl
end WE
section WCALL
variable {p : Program} {l : Launch} {e : Env} {R : Room} {s : State} {m : MethodId} {args : Array Value} {below : List Frame} {meth : Method} {c : Code} {H : Heap} {locs : List Loc} {cells slots : Nat} {Q : State → Prop}
variable {pc : Nat} {ls : Array Slot} {rest st0 : List Value} {g : wG} {α : Nat → Nat} {N : Nat} {A : Nat → Prop} {H0 : Heap} {σ : wS} {own : String} {cc : ByteArray} {nL : Nat}
variable {y : MethodName} {bytes : ByteArray} {maxL n index : Nat} {ret : Option FieldType} {rm : Room} {As : List Value} {C : String} {T : u_T} {ci Nf : Nat} {fs : List Value}
/-- a virtual call that only reads; what it says of the state -/
theorem w_runVS (X : wX p s m args c cc nL own g) (I : wI g α N A H0 H locs σ) {Qc : Array Value → State → Outcome → State → Prop} (i : Nat) (hi : i < N) (he : wc g α i (σ.1 i) (σ.2.1 i) (σ.2.2 i) = .inr (ci, fs)) (hc : vwCl[ci]? = some (C, T, Nf)) (hM : Met l y (wM y bytes maxL ret) rm (wPc g α N σ (.ref (α i) :: As)) Qc 0 0 (fun _ => False)) (hG : GoodIn lw_all (wsV own index C y (wM y bytes maxL ret))) (hrc : rm.cells = 0) (hrs : rm.slots = 0)
    (hd : y.cls = C ∧ y.cls ≠ "java/lang/invoke/MethodHandle" ∧ y.cls ≠ "java/lang/invoke/VarHandle" ∧ (parseMethodDescriptor y.desc).map (fun d => d.parameters.length) = some n) (hn : As.length = n) (hR : rm.frames + 1 ≤ R.frames ∧ 8 + (maxL + 11) + rm.locals ≤ R.locals) (hls : ls.size = nL) (hst : st0 = As.reverse ++ .ref (α i) :: rest) (hW : (rest.map fun v => v.category).sum ≤ 8) (hcs : cells ≤ R.cells ∧ slots ≤ R.slots) (hdg : decode cc pc = .ok (.invokevirtual index, 3)) :
    CallRun p l e R s m args below meth c H locs cells slots 0 0 (F0 m pc ls st0) rest (Qc (Value.ref (α i) :: As).toArray) (fun _ => False) :=
  va_Run.run (va_runV (g := F0 m pc ls st0) X.1 hM (cwV n X.1.2.2.2.2 hG rfl hrc hrs hd hR) ⟨wPc_blind, va_recv X.2 I.1 hc ((wld_get hi).trans (by rw [he])), fun U hU hW => ⟨rfl, by rw [hU]; exact I.1, va_K.moved hW.alike X.2, I.2.1.weaken (fun _ _ _ _ => trivial)⟩⟩ rfl hn hls hst (lv_room hW) hdg hcs)
theorem w_vSi {post : Int32 → Prop} (X : wX p s m args c cc nL own g) (I : wI g α N A H0 H locs σ) (i : Nat) (hi : i < N) (he : wc g α i (σ.1 i) (σ.2.1 i) (σ.2.2 i) = .inr (ci, fs)) (hc : vwCl[ci]? = some (C, T, Nf)) (hM : Met l y (wM y bytes maxL ret) rm (wPc g α N σ (.ref (α i) :: As)) (vp_Si post) 0 0 (fun _ => False)) (hG : GoodIn lw_all (wsV own index C y (wM y bytes maxL ret))) (hrc : rm.cells = 0) (hrs : rm.slots = 0)
    (hd : y.cls = C ∧ y.cls ≠ "java/lang/invoke/MethodHandle" ∧ y.cls ≠ "java/lang/invoke/VarHandle" ∧ (parseMethodDescriptor y.desc).map (fun d => d.parameters.length) = some n) (hn : As.length = n) (hR : rm.frames + 1 ≤ R.frames ∧ 8 + (maxL + 11) + rm.locals ≤ R.locals) (hls : ls.size = nL) (hst : st0 = As.reverse ++ .ref (α i) :: rest) (hW : (rest.map fun v => v.category).sum ≤ 8) (hcs : cells ≤ R.cells ∧ slots ≤ R.slots) (hdg : decode cc pc = .ok (.invokevirtual index, 3))
    (kk : ∀ r : Int32, post r → W p l e R s m args below meth c H locs cells slots Q (F0 m (pc + 3) ls (.int r :: rest))) : W p l e R s m args below meth c H locs cells slots Q (F0 m pc ls st0) :=
  vp_callSi (w_runVS X I i hi he hc hM hG hrc hrs hd hn hR hls hst hW hcs hdg) kk
theorem w_vSq {post : Option Nat → Prop} (X : wX p s m args c cc nL own g) (I : wI g α N A H0 H locs σ) (i : Nat) (hi : i < N) (he : wc g α i (σ.1 i) (σ.2.1 i) (σ.2.2 i) = .inr (ci, fs)) (hc : vwCl[ci]? = some (C, T, Nf)) (hM : Met l y (wM y bytes maxL ret) rm (wPc g α N σ (.ref (α i) :: As)) (va_Sq post) 0 0 (fun _ => False)) (hG : GoodIn lw_all (wsV own index C y (wM y bytes maxL ret))) (hrc : rm.cells = 0) (hrs : rm.slots = 0)
    (hd : y.cls = C ∧ y.cls ≠ "java/lang/invoke/MethodHandle" ∧ y.cls ≠ "java/lang/invoke/VarHandle" ∧ (parseMethodDescriptor y.desc).map (fun d => d.parameters.length) = some n) (hn : As.length = n) (hR : rm.frames + 1 ≤ R.frames ∧ 8 + (maxL + 11) + rm.locals ≤ R.locals) (hls : ls.size = nL) (hst : st0 = As.reverse ++ .ref (α i) :: rest) (hW : (rest.map fun v => v.category).sum ≤ 8) (hcs : cells ≤ R.cells ∧ slots ≤ R.slots) (hdg : decode cc pc = .ok (.invokevirtual index, 3))
    (kk : ∀ r : Option Nat, post r → W p l e R s m args below meth c H locs cells slots Q (F0 m (pc + 3) ls (va_rf r :: rest))) : W p l e R s m args below meth c H locs cells slots Q (F0 m pc ls st0) :=
  va_csq (w_runVS X I i hi he hc hM hG hrc hrs hd hn hR hls hst hW hcs hdg) kk
/-- a static call that only reads -/
theorem w_sSi {post : Int32 → Prop} (X : wX p s m args c cc nL own g) (I : wI g α N A H0 H locs σ) (hM : Met l y (wM y bytes maxL ret) rm (wPc g α N σ As) (vp_Si post) 0 0 (fun _ => False)) (hG : GoodIn lw_all (va_wsS own index y (wM y bytes maxL ret))) (hrc : rm.cells = 0) (hrs : rm.slots = 0)
    (hd : y.cls ≠ "java/lang/invoke/MethodHandle" ∧ y.cls ≠ "java/lang/invoke/VarHandle" ∧ (parseMethodDescriptor y.desc).map (fun d => d.parameters.length) = some n) (hn : As.length = n) (hR : rm.frames + 1 ≤ R.frames ∧ 8 + (maxL + 11) + rm.locals ≤ R.locals) (hls : ls.size = nL) (hst : st0 = As.reverse ++ rest) (hW : (rest.map fun v => v.category).sum ≤ 8) (hcs : cells ≤ R.cells ∧ slots ≤ R.slots) (hdg : decode cc pc = .ok (.invokestatic index, 3))
    (kk : ∀ r : Int32, post r → W p l e R s m args below meth c H locs cells slots Q (F0 m (pc + 3) ls (.int r :: rest))) : W p l e R s m args below meth c H locs cells slots Q (F0 m pc ls st0) :=
  vp_callSi (va_Run.run (va_runS (g := F0 m pc ls st0) X.1 hM (va_cwS n X.1.2.2.2.2 hG rfl hrc hrs hd hR) ⟨wPc_blind, fun U hU hW => ⟨rfl, by rw [hU]; exact I.1, va_K.moved hW.alike X.2, I.2.1.weaken (fun _ _ _ _ => trivial)⟩⟩ rfl hn hls hst (lv_room hW) hdg hcs)) kk
theorem w_runV (X : wX p s m args c cc nL own g) (I : wI g α N A H0 H locs σ) {Qc : Array Value → State → Outcome → State → Prop} (i : Nat) (hi : i < N) (he : wc g α i (σ.1 i) (σ.2.1 i) (σ.2.2 i) = .inr (ci, fs)) (hc : vwCl[ci]? = some (C, T, Nf)) (hM : Met l y (wM y bytes maxL ret) rm (wPs g α N H.size σ (.ref (α i) :: As)) Qc 0 0 (wA α N H.size)) (hG : GoodIn lw_all (wsV own index C y (wM y bytes maxL ret))) (hrc : rm.cells = 0) (hrs : rm.slots = 0)
    (hd : y.cls = C ∧ y.cls ≠ "java/lang/invoke/MethodHandle" ∧ y.cls ≠ "java/lang/invoke/VarHandle" ∧ (parseMethodDescriptor y.desc).map (fun d => d.parameters.length) = some n) (hn : As.length = n) (hR : rm.frames + 1 ≤ R.frames ∧ 8 + (maxL + 11) + rm.locals ≤ R.locals) (hls : ls.size = nL) (hst : st0 = As.reverse ++ .ref (α i) :: rest) (hW : (rest.map fun v => v.category).sum ≤ 8) (hcs : cells ≤ R.cells ∧ slots ≤ R.slots) (hdg : decode cc pc = .ok (.invokevirtual index, 3)) :
    va_Run p l e R s m args below meth c H locs cells slots 0 0 (F0 m pc ls st0) rest (Qc (Value.ref (α i) :: As).toArray) (wA α N H.size) :=
  va_runV (g := F0 m pc ls st0) X.1 hM (cwV n X.1.2.2.2.2 hG rfl hrc hrs hd hR) ⟨wPs_blind, va_recv X.2 I.1 hc ((wld_get hi).trans (by rw [he])), fun U hU hW => ⟨rfl, by rw [hU], by rw [hU]; exact I.1, va_K.moved hW.alike X.2, I.2.1.weaken (fun _ _ _ _ => trivial)⟩⟩ rfl hn hls hst (lv_room hW) hdg hcs
/-- the callee's cells are the caller's -/
theorem wA_in (I : wI g α N A H0 H locs σ) (hA : ∀ q, H0.size ≤ q → A q) (q : Nat) (h : wA α N H.size q) : A q := by
  rcases h with ⟨i, hi, rfl⟩ | h
  · exact I.2.1.2 i _ (wld_get hi)
  · exact hA q (Nat.le_trans I.2.2.1 h)
theorem wD_same {σ' : wS} (h : va_D A (wld g α σ N)) : va_D A (wld g α σ' N) := by
  have key : ∀ (k : Nat) (q : Nat × va_E), (wld g α σ' N)[k]? = some q → ∃ q0, (wld g α σ N)[k]? = some q0 ∧ q0.1 = q.1 := by
    intro k q hk
    have hkN : k < N := by
      have := (List.getElem?_eq_some_iff.mp hk).1
      simpa [wld] using this
    rw [wld_get hkN] at hk
    cases hk
    exact ⟨_, wld_get hkN, rfl⟩
  refine ⟨fun i j x y hi hj hxy => ?_, fun k q hk => ?_⟩
  · obtain ⟨x0, h1, h2⟩ := key i x hi
    obtain ⟨y0, h3, h4⟩ := key j y hj
    exact h.1 i j x0 y0 h1 h3 (h2.trans (hxy.trans h4.symm))
  · obtain ⟨q0, h1, h2⟩ := key k q hk
    rw [← h2]
    exact h.2 k q0 h1
theorem w_vi {post : Int32 → wS → Prop} (X : wX p s m args c cc nL own g) (I : wI g α N A H0 H locs σ) (hA : ∀ q, H0.size ≤ q → A q) (i : Nat) (hi : i < N) (he : wc g α i (σ.1 i) (σ.2.1 i) (σ.2.2 i) = .inr (ci, fs)) (hc : vwCl[ci]? = some (C, T, Nf)) (hM : Met l y (wM y bytes maxL ret) rm (wPs g α N H.size σ (.ref (α i) :: As)) (va_Qi post (wB g α N) (wA α N H.size)) 0 0 (wA α N H.size)) (hG : GoodIn lw_all (wsV own index C y (wM y bytes maxL ret))) (hrc : rm.cells = 0) (hrs : rm.slots = 0)
    (hd : y.cls = C ∧ y.cls ≠ "java/lang/invoke/MethodHandle" ∧ y.cls ≠ "java/lang/invoke/VarHandle" ∧ (parseMethodDescriptor y.desc).map (fun d => d.parameters.length) = some n) (hn : As.length = n) (hR : rm.frames + 1 ≤ R.frames ∧ 8 + (maxL + 11) + rm.locals ≤ R.locals) (hls : ls.size = nL) (hst : st0 = As.reverse ++ .ref (α i) :: rest) (hW : (rest.map fun v => v.category).sum ≤ 8) (hcs : cells ≤ R.cells ∧ slots ≤ R.slots) (hdg : decode cc pc = .ok (.invokevirtual index, 3))
    (kk : ∀ (r : Int32) (σ' : wS) (H1 : Heap) (locs1 : List Loc), post r σ' → wI g α N A H0 H1 locs1 σ' → W p l e R s m args below meth c H1 locs1 cells slots Q (F0 m (pc + 3) ls (.int r :: rest))) : W p l e R s m args below meth c H locs cells slots Q (F0 m pc ls st0) :=
  va_calli (w_runV X I i hi he hc hM hG hrc hrs hd hn hR hls hst hW hcs hdg) I.2.2 (fun q _ h => wA_in I hA q h) (fun q h => wA_in I hA q h) (fun r u t H1 locs1 ht _ hp hB _ _ hS => kk r u H1 locs1 hp ⟨by rw [← ht]; exact hB, wD_same I.2.1, hS⟩)
theorem w_vl {post : Int64 → wS → Prop} (X : wX p s m args c cc nL own g) (I : wI g α N A H0 H locs σ) (hA : ∀ q, H0.size ≤ q → A q) (i : Nat) (hi : i < N) (he : wc g α i (σ.1 i) (σ.2.1 i) (σ.2.2 i) = .inr (ci, fs)) (hc : vwCl[ci]? = some (C, T, Nf)) (hM : Met l y (wM y bytes maxL ret) rm (wPs g α N H.size σ (.ref (α i) :: As)) (va_Ql post (wB g α N) (wA α N H.size)) 0 0 (wA α N H.size)) (hG : GoodIn lw_all (wsV own index C y (wM y bytes maxL ret))) (hrc : rm.cells = 0) (hrs : rm.slots = 0)
    (hd : y.cls = C ∧ y.cls ≠ "java/lang/invoke/MethodHandle" ∧ y.cls ≠ "java/lang/invoke/VarHandle" ∧ (parseMethodDescriptor y.desc).map (fun d => d.parameters.length) = some n) (hn : As.length = n) (hR : rm.frames + 1 ≤ R.frames ∧ 8 + (maxL + 11) + rm.locals ≤ R.locals) (hls : ls.size = nL) (hst : st0 = As.reverse ++ .ref (α i) :: rest) (hW : (rest.map fun v => v.category).sum ≤ 8) (hcs : cells ≤ R.cells ∧ slots ≤ R.slots) (hdg : decode cc pc = .ok (.invokevirtual index, 3))
    (kk : ∀ (r : Int64) (σ' : wS) (H1 : Heap) (locs1 : List Loc), post r σ' → wI g α N A H0 H1 locs1 σ' → W p l e R s m args below meth c H1 locs1 cells slots Q (F0 m (pc + 3) ls (.long r :: rest))) : W p l e R s m args below meth c H locs cells slots Q (F0 m pc ls st0) :=
  va_calll (w_runV X I i hi he hc hM hG hrc hrs hd hn hR hls hst hW hcs hdg) I.2.2 (fun q _ h => wA_in I hA q h) (fun q h => wA_in I hA q h) (fun r u t H1 locs1 ht _ hp hB _ _ hS => kk r u H1 locs1 hp ⟨by rw [← ht]; exact hB, wD_same I.2.1, hS⟩)
theorem w_vv {post : wS → Prop} (X : wX p s m args c cc nL own g) (I : wI g α N A H0 H locs σ) (hA : ∀ q, H0.size ≤ q → A q) (i : Nat) (hi : i < N) (he : wc g α i (σ.1 i) (σ.2.1 i) (σ.2.2 i) = .inr (ci, fs)) (hc : vwCl[ci]? = some (C, T, Nf)) (hM : Met l y (wM y bytes maxL ret) rm (wPs g α N H.size σ (.ref (α i) :: As)) (va_Qv post (wB g α N) (wA α N H.size)) 0 0 (wA α N H.size)) (hG : GoodIn lw_all (wsV own index C y (wM y bytes maxL ret))) (hrc : rm.cells = 0) (hrs : rm.slots = 0)
    (hd : y.cls = C ∧ y.cls ≠ "java/lang/invoke/MethodHandle" ∧ y.cls ≠ "java/lang/invoke/VarHandle" ∧ (parseMethodDescriptor y.desc).map (fun d => d.parameters.length) = some n) (hn : As.length = n) (hR : rm.frames + 1 ≤ R.frames ∧ 8 + (maxL + 11) + rm.locals ≤ R.locals) (hls : ls.size = nL) (hst : st0 = As.reverse ++ .ref (α i) :: rest) (hW : (rest.map fun v => v.category).sum ≤ 8) (hcs : cells ≤ R.cells ∧ slots ≤ R.slots) (hdg : decode cc pc = .ok (.invokevirtual index, 3))
    (kk : ∀ (σ' : wS) (H1 : Heap) (locs1 : List Loc), post σ' → wI g α N A H0 H1 locs1 σ' → W p l e R s m args below meth c H1 locs1 cells slots Q (F0 m (pc + 3) ls rest)) : W p l e R s m args below meth c H locs cells slots Q (F0 m pc ls st0) :=
  va_callv (w_runV X I i hi he hc hM hG hrc hrs hd hn hR hls hst hW hcs hdg) I.2.2 (fun q _ h => wA_in I hA q h) (fun q h => wA_in I hA q h) (fun u t H1 locs1 ht _ hp hB _ _ hS => kk u H1 locs1 hp ⟨by rw [← ht]; exact hB, wD_same I.2.1, hS⟩)
end WCALL
