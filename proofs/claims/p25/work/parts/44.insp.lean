theorem spAcc_le {lv ql s st : Nat} (hql : ql ≤ 3) : spAcc lv ql s st ≤ 8 := by
  have := spA_le (lv := lv) (s := s) hql
  unfold spAcc
  split <;> omega
theorem spItems_le {lv ql tw s f st : Nat} : spItems lv ql tw s f st ≤ 50 := by
  have h1 := spSize_le (if st = 2 then spLetter lv s - 2 else spLetter lv s)
  have h2 : spSample lv s st ≤ 50 := h1
  unfold spItems
  split
  · split
    · omega
    · omega
  · exact h2
theorem c_insp {N lv ql tw s f st : Nat} (hN : 100 ≤ N) (hlv : lv ≤ 2) (hql : ql ≤ 3) (htw : tw ≤ 1) (hst : st ≤ 2) (hs : s ≤ 5000) (hf : f < 2 ^ 50) (v i b : Int32) : fX4_inspect N (nI st) (nI lv) (nI ql) (nI tw) (nI s) (lN f) v i b = some (nI (spOk lv ql tw s f st), nI (spItems lv ql tw s f st), nI (spBad lv ql tw s f st)) := by
  have hn : spSample lv s st ≤ 50 := spSize_le _
  have ha := spAcc_le (lv := lv) (s := s) (st := st) hql
  have hdir : ¬ (tw = 1 ∧ st ≠ 2 ∧ 5 ≤ spSample lv s st) → fX4_inspect_b52 N (nI lv) (nI ql) (nI tw) (nI s) (lN f) (nI st) (nI (spSample lv s st)) (nI (spAcc lv ql s st)) v i b = some (nI (spOk lv ql tw s f st), nI (spItems lv ql tw s f st), nI (spBad lv ql tw s f st)) := by
    intro hno
    have e1 : spItems lv ql tw s f st = spSample lv s st := by unfold spItems; rw [if_neg hno]
    have e2 : spBad lv ql tw s f st = spPop f (spSample lv s st) := by unfold spBad; rw [e1]
    have hp := spPop_le f (spSample lv s st)
    unfold fX4_inspect_b52 fX4_inspect_b76 fX4_inspect_b84 fX3_judge
    rw [c_first hf hn, Option.bind_some, e1, e2]
    unfold spOk
    rw [e2]
    generalize spSample lv s st = n at *
    generalize spAcc lv ql s st = a at *
    generalize spPop f n = p at *
    dsimp only
    simp only [nI_two st (by omega), show nI a + 1 = nI (a + 1) from nI_1 a, nI_ltI (show a + 1 < 2 ^ 31 by omega) (show p < 2 ^ 31 by omega), nI_ltI (show a < 2 ^ 31 by omega) (show p < 2 ^ 31 by omega)]
    by_cases h2 : st = 2
    · rw [if_pos h2]
      by_cases h3 : a + 1 < p
      · rw [if_pos h3, if_neg (show ¬ (p ≤ a ∨ st = 2 ∧ p = a + 1) by omega)]; rfl
      · rw [if_neg h3, if_pos (show (p ≤ a ∨ st = 2 ∧ p = a + 1) by omega)]; rfl
    · rw [if_neg h2]
      by_cases h3 : a < p
      · rw [if_pos h3, if_neg (show ¬ (p ≤ a ∨ st = 2 ∧ p = a + 1) by omega)]; rfl
      · rw [if_neg h3, if_pos (show (p ≤ a ∨ st = 2 ∧ p = a + 1) by omega)]; rfl
  unfold fX4_inspect
  rw [c_sample (by omega) hlv hs (by omega), Option.bind_some, c_acc (by omega) hlv hql hs (by omega), Option.bind_some]
  simp only [nI_zer tw (by omega), nI_two st (by omega), show ∀ x, (nI x < 5) ↔ (nI x < nI 5) from fun x => Iff.rfl, nI_ltI (show spSample lv s st < 2 ^ 31 by omega) (show 5 < 2 ^ 31 by omega)]
  by_cases h1 : tw = 0
  · rw [if_pos h1]; exact hdir (by omega)
  rw [if_neg h1]
  by_cases h2 : st = 2
  · rw [if_pos h2]; exact hdir (by omega)
  rw [if_neg h2]
  by_cases h3 : spSample lv s st < 5
  · rw [if_pos h3]; exact hdir (by omega)
  rw [if_neg h3]
  have hyes : tw = 1 ∧ st ≠ 2 ∧ 5 ≤ spSample lv s st := ⟨by omega, h2, by omega⟩
  have e0 : spItems lv ql tw s f st = if spPop f ((spSample lv s st * 2 + 2) / 3) ≤ spAcc lv ql s st ∧ (spAcc lv ql s st < 2 ∨ spAcc lv ql s st - 2 < spPop f ((spSample lv s st * 2 + 2) / 3)) then min (min (2 * ((spSample lv s st * 2 + 2) / 3)) s) 50 else (spSample lv s st * 2 + 2) / 3 := by unfold spItems; rw [if_pos hyes]
  have eb : spBad lv ql tw s f st = spPop f (spItems lv ql tw s f st) := rfl
  have eo : spOk lv ql tw s f st = if spBad lv ql tw s f st ≤ spAcc lv ql s st then 1 else 0 := by
    unfold spOk
    by_cases h : spBad lv ql tw s f st ≤ spAcc lv ql s st
    · rw [if_pos (Or.inl h), if_pos h]
    · rw [if_neg (by omega), if_neg h]
  have hfi : (spSample lv s st * 2 + 2) / 3 ≤ 34 := by omega
  have efi : (nI (spSample lv s st) * 2 + 2) / 3 = nI ((spSample lv s st * 2 + 2) / 3) := by
    rw [show nI (spSample lv s st) * 2 = nI (spSample lv s st * 2) from nI_mul _ 2, show nI (spSample lv s st * 2) + 2 = nI (spSample lv s st * 2 + 2) from nI_add _ 2]
    exact nI_div (b := 3) (by omega) (by omega)
  rw [efi]
  clear hdir hyes efi
  generalize (spSample lv s st * 2 + 2) / 3 = fi at *
  generalize spAcc lv ql s st = a at *
  have hp := spPop_le f fi
  unfold fX4_inspectTwice fX4_inspectTwice_b20
  rw [c_first hf (by omega), Option.bind_some]
  dsimp only
  have hc : (nI a - 2 < nI (spPop f fi)) ↔ a < spPop f fi + 2 := by
    rw [Int32.lt_iff_toInt_lt, show (2 : Int32) = nI 2 from rfl, subI (by omega) (by omega), nI_toInt (by omega)]
    omega
  simp only [hc]
  unfold fX4_inspectTwice_b56 fX4_inspectTwice_b69 fX4_inspectTwice_b74 fX3_judge
  by_cases h4 : a < spPop f fi + 2
  · rw [if_pos h4, if_pos rfl]
    simp only [nI_ltI (show a < 2 ^ 31 by omega) (show spPop f fi < 2 ^ 31 by omega)]
    by_cases h5 : a < spPop f fi
    · rw [if_pos trivial, if_pos h5, if_pos h5]
      rw [if_neg (by omega)] at e0
      rw [e0] at eb
      rw [eb] at eo
      rw [if_neg (by omega)] at eo
      rw [eo, e0, eb]
      rfl
    · rw [if_neg h5]
      rw [if_pos (by omega)] at e0
      have hz : (if (if (50 : Int32) < nI s then (50 : Int32) else nI s) < 2 * nI fi then (if (50 : Int32) < nI s then (50 : Int32) else nI s) else 2 * nI fi) = nI (min (min (2 * fi) s) 50) := by
        have q1 : ((50 : Int32) < nI s) ↔ 50 < s := nI_ltI (a := 50) (by omega) (by omega)
        have q2 : (2 : Int32) * nI fi = nI (2 * fi) := nI_mul 2 fi
        rw [q2]
        simp only [q1]
        by_cases h6 : 50 < s
        · simp only [if_pos h6, show ((50 : Int32) < nI (2 * fi)) ↔ 50 < 2 * fi from nI_ltI (a := 50) (by omega) (by omega)]
          by_cases h7 : 50 < 2 * fi
          · rw [if_pos h7, show min (min (2 * fi) s) 50 = 50 by omega]; rfl
          · rw [if_neg h7, show min (min (2 * fi) s) 50 = 2 * fi by omega]
        · simp only [if_neg h6, show (nI s < nI (2 * fi)) ↔ s < 2 * fi from nI_ltI (by omega) (by omega)]
          by_cases h7 : s < 2 * fi
          · rw [if_pos h7, show min (min (2 * fi) s) 50 = s by omega]
          · rw [if_neg h7, show min (min (2 * fi) s) 50 = 2 * fi by omega]
      rw [Option.bind_some, hz]
      have hm : min (min (2 * fi) s) 50 ≤ 50 := by omega
      generalize min (min (2 * fi) s) 50 = z at *
      rw [c_first hf hm, Option.bind_some]
      have hp2 := spPop_le f z
      rw [e0] at eb
      rw [eb] at eo
      rw [eo, e0, eb]
      dsimp only
      simp only [nI_ltI (show a < 2 ^ 31 by omega) (show spPop f z < 2 ^ 31 by omega)]
      rw [if_pos trivial, if_pos trivial]
      by_cases h8 : a < spPop f z
      · rw [if_pos h8, if_neg (show ¬ spPop f z ≤ a by omega)]; rfl
      · rw [if_neg h8, if_pos (show spPop f z ≤ a by omega)]; rfl
  · rw [if_neg h4, if_neg (by decide), if_neg (by decide)]
    rw [if_neg (by omega)] at e0
    rw [e0] at eb
    rw [eb] at eo
    rw [if_pos (by omega)] at eo
    rw [eo, e0, eb]
    rfl
theorem ud_at (f : Nat → Int32) (k : Nat) (v : Int32) : upd f k v k = v := by simp [upd]
theorem ud_ne (f : Nat → Int32) {k j : Nat} (v : Int32) (h : j ≠ k) : upd f k v j = f j := by simp [upd, h]
theorem ud_ud (f : Nat → Int32) (k : Nat) (v w : Int32) : upd (upd f k v) k w = upd f k w := by
  funext j
  by_cases h : j = k
  · rw [h, ud_at, ud_at]
  · rw [ud_ne _ _ h, ud_ne _ _ h, ud_ne _ _ h]
