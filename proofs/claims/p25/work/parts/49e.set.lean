theorem b01 {y : Int32} (h : y = 0 ∨ y = 1) : ∃ t : Nat, t ≤ 1 ∧ y = nI t := by
  rcases h with rfl | rfl
  · exact ⟨0, by omega, rfl⟩
  · exact ⟨1, by omega, rfl⟩
theorem nar_b0 : vp_nar .boolean 0 = nI 0 := by decide +kernel
theorem nar_b1 : vp_nar .boolean 1 = nI 1 := by decide +kernel
theorem fnd_c (N : Nat) (x : Int64) : fX5_isFindings N x = some (if x.toInt < 0 ∨ 2 ^ 50 ≤ x.toInt then 0 else 1) := by
  unfold fX5_isFindings
  simp only [lg_cmp_lt, lg_cmp_gt]
  have e0 : (x < 0) ↔ x.toInt < 0 := by rw [Int64.lt_iff_toInt_lt]; exact Iff.rfl
  have e1 : ((1125899906842623 : Int64) < x) ↔ 2 ^ 50 ≤ x.toInt := by
    rw [Int64.lt_iff_toInt_lt, show (1125899906842623 : Int64).toInt = 1125899906842623 from rfl]
    omega
  simp only [e0, e1]
  by_cases h1 : x.toInt < 0
  · rw [if_pos h1, if_pos (Or.inl h1)]
  · by_cases h2 : (2 : Int) ^ 50 ≤ x.toInt
    · rw [if_neg h1, if_pos h2, if_pos (Or.inr h2)]
    · rw [if_neg h1, if_neg h2, if_neg (fun h => h.elim h1 h2)]
theorem fnd_of {x : Int64} (h : ¬ (x.toInt < 0 ∨ 2 ^ 50 ≤ x.toInt)) : ∃ f : Nat, f < 2 ^ 50 ∧ x = lN f := by
  refine ⟨x.toInt.toNat, by omega, Int64.toInt_inj.mp ?_⟩
  rw [lN_toInt' (by omega)]
  omega
theorem fnd_sh {a : Nat} (h : a < 2 ^ 63) : lN a >>> ((50 : Int32).toInt64 &&& 63) = lN (a / 2 ^ 50) := by
  have e : (((50 : Int32).toInt64 &&& 63).toBitVec.smod 64).toNat = 50 := by decide +kernel
  apply wb_inj
  rw [Int64.toBitVec_shiftRight, wb_tb, wb_tb]
  apply BitVec.eq_of_toInt_eq
  rw [BitVec.toInt_sshiftRight', e]
  have h1 : (BitVec.ofNat 64 a).toInt = (a : Int) := lN_toInt' h
  have h2 : (BitVec.ofNat 64 (a / 2 ^ 50)).toInt = ((a / 2 ^ 50 : Nat) : Int) := lN_toInt' (Nat.lt_of_le_of_lt (Nat.div_le_self _ _) h)
  rw [h1, h2, Int.shiftRight_eq_div_pow]
  rfl
