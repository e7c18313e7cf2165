/-- a row whole -/
def wrow (σ : wS) (j : Nat) (f : Nat → Int32) : wS := (va_up σ.1 j f, σ.2)
theorem wrow_o {σ : wS} {j i k : Nat} {f : Nat → Int32} (h : i ≠ j) : (wrow σ j f).1 i k = σ.1 i k := by show va_up σ.1 j f i k = _; rw [va_up_ne _ _ h]
theorem wrow_s {σ : wS} {j k : Nat} {f : Nat → Int32} : (wrow σ j f).1 j k = f k := by show va_up σ.1 j f j k = _; rw [va_up_self]
section WCP
variable {p : Program} {l : Launch} {e : Env} {R : Room} {s : State} {m : MethodId} {args : Array Value} {below : List Frame} {meth : Method} {c : Code} {H : Heap} {locs : List Loc} {cells slots : Nat} {Q : State → Prop}
variable {pc : Nat} {ls : Array Slot} {rest : List Value} {g : wG} {α : Nat → Nat} {N : Nat} {A : Nat → Prop} {H0 : Heap} {σ : wS} {own : String} {cc : ByteArray} {nL index : Nat}
theorem w_copy (X : wX p s m args c cc nL own g) (I : wI g α N A H0 H locs σ) (i j : Nat) (hi : i < N) (hj : j < N) {n0 n1 : Nat} (hei : ∀ v t r, wc g α i v t r = .inl (g.2 0, n0, .inl v)) (hej : ∀ v t r, wc g α j v t r = .inl (g.2 0, n1, .inl v)) (h0 : 6 ≤ n0) (h1 : 6 ≤ n1) (hl : Cond.methodLink own index arraycopyName ∈ lw_all) (hls : ls.size = nL) (hfr : 1 ≤ R.frames) (hlo : (rest.map fun v => v.category).sum + (nativeFrameWords "java/lang/System" "arraycopy" 5 + 11) ≤ R.locals) (hdg : decode cc pc = .ok (.invokestatic index, 3))
    (kk : ∀ (H1 : Heap) (locs1 : List Loc), wI g α N A H0 H1 locs1 (wrow σ j (va_cpy (σ.1 i) (σ.1 j) 0 0 6)) → W p l e R s m args below meth c H1 locs1 cells slots Q (F0 m (pc + 3) ls rest)) : W p l e R s m args below meth c H locs cells slots Q (F0 m pc ls (.int 6 :: .int 0 :: .ref (α j) :: .int 0 :: .ref (α i) :: rest)) := by
  have hset : (wld g α σ N).set j (α j, .inl (g.2 0, n1, .inl (va_cpy (σ.1 i) (σ.1 j) 0 0 6))) = wld g α (wrow σ j (va_cpy (σ.1 i) (σ.1 j) 0 0 6)) N := wld_set hj (by rw [hej]; simp [wrow, va_up_self]) (fun k hk => ⟨by simp [wrow, va_up_ne _ _ hk], rfl, rfl⟩)
  refine va_copyi (D := g.1) X.1.1 X.1.2.1 (X.1.2.2.1.trans hls.symm) X.1.2.2.2.1 (X.1.2.2.2.2 _ hl) (X.1.2.2.2.2 _ kv_Sys_arraycopy) (X.1.2.2.2.2 _ kt_Sys_arraycopy) (X.1.2.2.2.2 _ kn_System) X.2 I.1 I.2.1 I.2.2 i j 0 0 (ty := .int) ((wld_get hi).trans (by rw [hei])) ((wld_get hj).trans (by rw [hej])) rfl rfl rfl (by decide) (by decide) (by decide) (show 0 + 6 ≤ n0 by omega) (show 0 + 6 ≤ n1 by omega) (fun _ _ => rfl) hfr hlo hdg (fun H1 locs1 hP hD hS => ?_)
  have hP : va_P g.1 vwCl ((wld g α σ N).set j (α j, .inl (g.2 0, n1, .inl (va_cpy (σ.1 i) (σ.1 j) 0 0 6)))) H1 := hP
  have hD : va_D A ((wld g α σ N).set j (α j, .inl (g.2 0, n1, .inl (va_cpy (σ.1 i) (σ.1 j) 0 0 6)))) := hD
  rw [hset] at hP hD
  exact kk H1 locs1 ⟨hP, hD, hS⟩
end WCP
/-- a start that knows more -/
def wPe (g : wG) (α : Nat → Nat) (N sz : Nat) (σ : wS) (E : State → Prop) (av : List Value) : Array Value → State → Prop := va_Pc av (fun U => (U.heap.size = sz ∧ va_P g.1 vwCl (wld g α σ N) U.heap ∧ va_K g.1 vwCl (wtys g) U ∧ va_D (fun _ => True) (wld g α σ N)) ∧ E U)
theorem w_enterE {l : Launch} {g : wG} {α : Nat → Nat} {N : Nat} {σ : wS} {E : State → Prop} {sz mc ms : Nat} {y : MethodName} {rm : Room} {cc : ByteArray} {maxL : Nat} {ret : Option FieldType} {Qc : Array Value → State → Outcome → State → Prop} {av : List Value} (hy : plainName y.cls = true) (hlen : (lg_sl av).length ≤ maxL)
    (body : ∀ (p : Program) (e : Env) (s : State) (m : MethodId) (args : Array Value) (below : List Frame) (meth : Method) (c : Code), E s → s.heap.size = sz → wX p s m args c cc maxL y.cls g → wI g α N (wA α N sz) s.heap s.heap [] σ → meth.sig.returnType = ret → meth.locks = false → ∀ ls : Array Slot, lv_has ls maxL (lv_args 0 av) → W p l e rm s m args below meth c s.heap [] 0 0 (MQ below Qc args s mc ms (wA α N sz)) (F0 m 0 ls [])) :
    Met l y (wM y cc maxL ret) rm (wPe g α N sz σ E av) Qc mc ms (wA α N sz) := by
  refine Met.ofW (cc := cc) (maxL := maxL) (ret := ret) hy rfl ?_
  intro p e s m args below meth c s₁ B hml hv
  obtain ⟨rfl, ⟨hsz, hP, hK, hD⟩, hE⟩ := hv
  have hl := lv_entry av hlen
  rw [lg_entry_eq]
  refine body p e s m _ below meth c hE hsz ⟨⟨B.exec, B.bytes, hml, findClass_of_methodNamed B.named, fun w h => atoms_spec (ws := wM y cc maxL ret) B.pre w (List.mem_cons_of_mem _ h)⟩, hK⟩ ⟨hP, ⟨hD.1, fun k q hk => ?_⟩, va_S.rf⟩ B.returns B.notSynchronized _ hl
  refine Or.inl ⟨k, ?_, ?_⟩
  · have := (List.getElem?_eq_some_iff.mp hk).1
    simpa [wld] using this
  · have hkN : k < N := by
      have := (List.getElem?_eq_some_iff.mp hk).1
      simpa [wld] using this
    rw [wld_get hkN] at hk
    cases hk
    rfl
/-- the class's own table of the kinds' numbers -/
def trT (j : Nat) : Int32 := if j = 0 then 1 else if j = 1 then 11 else 111
def trE (A : Nat → Prop) (U : State) : Prop := ∃ t : Nat, va_Z "RockRoad" "TRACE_OF_KIND" "[I" (.ref t) A U U.heap ∧ va_T .int t 3 (fun j => .int (trT j)) A U U.heap
def cpM (σ : wS) (k : Nat) : Nat → wS
  | 0 => σ
  | j + 1 => wu (cpM σ k j) 29 (6 * k + j) (σ.1 30 j)
theorem cpM_o (σ : wS) (k : Nat) {i q : Nat} (h : i ≠ 29) : ∀ j, (cpM σ k j).1 i q = σ.1 i q
  | 0 => rfl
  | j + 1 => (wu_o h).trans (cpM_o σ k h j)
theorem cpM_2 (σ : wS) (k : Nat) : ∀ j, (cpM σ k j).2 = σ.2
  | 0 => rfl
  | j + 1 => cpM_2 σ k j
