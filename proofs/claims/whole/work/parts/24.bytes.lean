theorem by_eq0 (v : Int64) (k : UInt64) (k2 : Int64) (n : Nat) (hn : n ≤ 56) (hk : k.toNat % 64 = n) (hk2 : (k2.toBitVec.smod 64).toNat = n) : ((v.toUInt64 >>> k).toInt64).toInt32 &&& 255 = ((v >>> k2) &&& 255).toInt32 := by
  apply Int32.toBitVec_inj.mp
  apply BitVec.eq_of_getLsbD_eq
  intro j hj
  have h255 : (255#32).getLsbD j = decide (j < 8) := by
    have : ∀ j : Fin 32, (255#32).getLsbD j.val = decide (j.val < 8) := by decide
    exact this ⟨j, hj⟩
  have h255b : (255#64).getLsbD j = decide (j < 8) := by
    have : ∀ j : Fin 32, (255#64).getLsbD j.val = decide (j.val < 8) := by decide
    exact this ⟨j, hj⟩
  have e1 : (v.toUInt64 >>> k).toBitVec.getLsbD j = v.toBitVec.getLsbD (n + j) := by
    rw [UInt64.toBitVec_shiftRight, BitVec.ushiftRight_eq', BitVec.getLsbD_ushiftRight]
    congr 2
  have e2 : j < 8 → (v >>> k2).toBitVec.getLsbD j = v.toBitVec.getLsbD (n + j) := fun h8 => by
    show (v.toBitVec.sshiftRight (k2.toBitVec.smod 64).toNat).getLsbD j = _
    rw [hk2, BitVec.getLsbD_sshiftRight]
    simp [show n + j < 64 by omega, show j < 64 by omega]
    try omega
  show ((v.toUInt64 >>> k).toBitVec.signExtend 32 &&& 255#32).getLsbD j = (((v >>> k2).toBitVec &&& 255#64).signExtend 32).getLsbD j
  rw [BitVec.getLsbD_and, h255, BitVec.getLsbD_signExtend, BitVec.getLsbD_signExtend]
  simp only [hj, decide_true, Bool.true_and, show j < 64 by omega, if_true]
  rw [BitVec.getLsbD_and, h255b, e1]
  by_cases h8 : j < 8
  · rw [e2 h8]
  · simp [h8]
theorem by_eq (v : Int64) (i : Nat) (h : i < 8) : byF v i = byM v i := by
  unfold byF byM
  rcases (show i = 0 ∨ i = 1 ∨ i = 2 ∨ i = 3 ∨ i = 4 ∨ i = 5 ∨ i = 6 ∨ i = 7 by omega) with rfl | rfl | rfl | rfl | rfl | rfl | rfl | rfl
  · exact by_eq0 v _ _ 0 (by decide) (by decide) (by decide)
  · exact by_eq0 v _ _ 8 (by decide) (by decide) (by decide)
  · exact by_eq0 v _ _ 16 (by decide) (by decide) (by decide)
  · exact by_eq0 v _ _ 24 (by decide) (by decide) (by decide)
  · exact by_eq0 v _ _ 32 (by decide) (by decide) (by decide)
  · exact by_eq0 v _ _ 40 (by decide) (by decide) (by decide)
  · exact by_eq0 v _ _ 48 (by decide) (by decide) (by decide)
  · exact by_eq0 v _ _ 56 (by decide) (by decide) (by decide)
