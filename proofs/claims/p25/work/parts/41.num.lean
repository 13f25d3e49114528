theorem nI_sub {a b : Nat} (h : b ≤ a) : nI a - nI b = nI (a - b) := by
  have h1 : nI a = nI (a - b) + nI b := by rw [nI_add, Nat.sub_add_cancel h]
  rw [h1, Int32.add_sub_cancel]
theorem nI_dec {a : Nat} (h : 0 < a) : nI a + (-1) = nI (a - 1) := by
  rw [← nI_sub (b := 1) h, Int32.sub_eq_add_neg]; rfl
theorem nI_mul (a b : Nat) : nI a * nI b = nI (a * b) := (Int32.ofNat_mul a b).symm
theorem nI_div {a b : Nat} (ha : a < 2 ^ 31) (hb : b < 2 ^ 31) : nI a / nI b = nI (a / b) := by
  have hd : a / b < 2 ^ 31 := Nat.lt_of_le_of_lt (Nat.div_le_self a b) ha
  apply Int32.toInt_inj.mp
  rw [Int32.toInt_div, nI_toInt ha, nI_toInt hb, nI_toInt hd, ← Int.ofNat_tdiv]
  generalize a / b = c at *
  apply Int.bmod_eq_of_le <;> omega
theorem okI_nI {n M : Nat} (h : n < M) (hM : M < 2 ^ 31) : okI (nI n) M := by
  unfold okI
  exact nI_in h hM
theorem c_sampleOf (N : Nat) {l : Nat} (h : l ≤ 7) : fX4_sampleOf N (nI l) = some (nI (spSize l)) := by
  rcases (show l = 0 ∨ l = 1 ∨ l = 2 ∨ l = 3 ∨ l = 4 ∨ l = 5 ∨ l = 6 ∨ l = 7 by omega) with rfl | rfl | rfl | rfl | rfl | rfl | rfl | rfl <;> rfl
theorem c_sampleOfM (N : Nat) {l : Nat} (h : l < 2) : fX4_sampleOf N (nI l - 2) = some (nI 2) := by
  rcases (show l = 0 ∨ l = 1 by omega) with rfl | rfl <;> rfl
theorem spSize_le (l : Nat) : spSize l ≤ 50 := by unfold spSize; repeat' split
                                                  all_goals omega
theorem spSize_ge (l : Nat) : 2 ≤ spSize l := by unfold spSize; repeat' split
                                                 all_goals omega
theorem spDown_le (s : Nat) : ∀ l, spDown s l ≤ l
  | 0 => Nat.le_refl _
  | l + 1 => by unfold spDown; split; exact Nat.le_refl _; exact Nat.le_succ_of_le (spDown_le s l)
theorem spSort_le (s : Nat) : spSort s ≤ 5 := by unfold spSort; repeat' split
                                                 all_goals omega
theorem c_down (N : Nat) (lv : Int32) {s : Nat} (hs : s ≤ 5000) : ∀ (l k : Nat), l < k → l ≤ 7 → fX4_letterFor_b44 N lv k (nI s) (nI l) = some (nI (spDown s l)) := by
  intro l
  induction l with
  | zero =>
    intro k hk _
    obtain ⟨k, rfl⟩ : ∃ j, k = j + 1 := ⟨k - 1, by omega⟩
    rw [fX4_letterFor_b44, if_pos (show nI 0 ≤ (0 : Int32) by decide)]
    rfl
  | succ l ih =>
    intro k hk hl
    obtain ⟨k, rfl⟩ : ∃ j, k = j + 1 := ⟨k - 1, by omega⟩
    rw [fX4_letterFor_b44, if_neg (nI_nle (by omega) (by omega)), c_sampleOf N hl, Option.bind_some, nI_dec (by omega), Nat.add_sub_cancel, ih k (by omega) (by omega)]
    have := spSize_le (l + 1)
    simp only [nI_leI (show spSize (l + 1) < 2 ^ 31 by omega) (show s < 2 ^ 31 by omega), spDown]
    split <;> rfl
def tabT (j : Nat) : Nat := if j = 0 then 8 else if j = 1 then 15 else if j = 2 then 50 else if j = 3 then 150 else 500
theorem tabL_T {j : Nat} (h : j < 5) : tabL j = nI (tabT j) := by
  rcases (show j = 0 ∨ j = 1 ∨ j = 2 ∨ j = 3 ∨ j = 4 by omega) with rfl | rfl | rfl | rfl | rfl <;> rfl
theorem tabT_le (j : Nat) : tabT j ≤ 500 := by unfold tabT; repeat' split
                                               all_goals omega
theorem c_sort1 (N : Nat) (lv : Int32) {s c j : Nat} (hs : s ≤ 5000) (k : Nat) (hj : j < 5) : fX4_letterFor_b16 N lv (k + 1) (nI s) (nI c) 5 (nI j) = fX4_letterFor_b16 N lv k (nI s) (nI (if tabT j < s then c + 1 else c)) 5 (nI (j + 1)) := by
  have h5 : ¬ (5 : Int32) ≤ nI j := nI_ge (b := 5) hj (by omega)
  have hT := tabT_le j
  rw [fX4_letterFor_b16, if_neg h5, if_pos (okI_nI hj (by omega)), nI_clamp (by omega), tabL_T hj]
  simp only [nI_leI (show s < 2 ^ 31 by omega) (show tabT j < 2 ^ 31 by omega), fX4_letterFor_b38]
  rw [show nI j + 1 = nI (j + 1) from nI_1 j, show nI c + 1 = nI (c + 1) from nI_1 c]
  by_cases h : s ≤ tabT j
  · rw [if_pos h, if_neg (by omega)]
  · rw [if_neg h, if_pos (by omega)]
theorem c_letter {N lv s : Nat} (hN : 20 ≤ N) (hlv : lv ≤ 2) (hs : s ≤ 5000) : fX4_letterFor N (nI s) (nI lv) = some (nI (spLetter lv s)) := by
  have hS : spSort s + lv ≤ 7 := by have := spSort_le s; omega
  unfold fX4_letterFor
  have hd := c_down N (nI lv) hs (spSort s + lv) N (by omega) hS
  obtain ⟨n, hn⟩ : ∃ n, N = n + 6 := ⟨N - 6, by omega⟩
  generalize hM : (N : Nat) = M at hd ⊢
  have h0 : M = n + 6 := by omega
  have key : ∀ k, k = n + 6 → fX4_letterFor_b16 M (nI lv) k (nI s) (nI lv) 5 0 = some (nI (spLetter lv s)) := by
    intro k hk
    rw [hk]
    have e0 := c_sort1 M (nI lv) (c := lv) (j := 0) hs (n + 5) (by omega)
    generalize hc1 : (if tabT 0 < s then lv + 1 else lv) = c1 at e0
    have e1 := c_sort1 M (nI lv) (c := c1) (j := 1) hs (n + 4) (by omega)
    generalize hc2 : (if tabT 1 < s then c1 + 1 else c1) = c2 at e1
    have e2 := c_sort1 M (nI lv) (c := c2) (j := 2) hs (n + 3) (by omega)
    generalize hc3 : (if tabT 2 < s then c2 + 1 else c2) = c3 at e2
    have e3 := c_sort1 M (nI lv) (c := c3) (j := 3) hs (n + 2) (by omega)
    generalize hc4 : (if tabT 3 < s then c3 + 1 else c3) = c4 at e3
    have e4 := c_sort1 M (nI lv) (c := c4) (j := 4) hs (n + 1) (by omega)
    generalize hc5 : (if tabT 4 < s then c4 + 1 else c4) = c5 at e4
    refine e0.trans (e1.trans (e2.trans (e3.trans (e4.trans ?_))))
    rw [fX4_letterFor_b16, if_pos (show (5 : Int32) ≤ nI 5 by decide)]
    have hc : c5 = spSort s + lv := by
      simp only [tabT] at hc1 hc2 hc3 hc4 hc5
      simp at hc1 hc2 hc3 hc4 hc5
      unfold spSort
      repeat' split
      all_goals (repeat' split at *) <;> omega
    rw [hc]
    exact hd
  exact key M h0
theorem spLetter_le {lv s : Nat} (hlv : lv ≤ 2) : spLetter lv s ≤ 7 := by
  have h1 := spDown_le s (spSort s + lv)
  have h2 := spSort_le s
  unfold spLetter
  omega
theorem nI_two (st : Nat) (h : st < 2 ^ 31) : (nI st = 2) ↔ st = 2 := nI_eq (b := 2) h (by omega)
theorem nI_zer (st : Nat) (h : st < 2 ^ 31) : (nI st = 0) ↔ st = 0 := nI_eq (b := 0) h (by omega)
theorem nI_one (st : Nat) (h : st < 2 ^ 31) : (nI st = 1) ↔ st = 1 := nI_eq (b := 1) h (by omega)
theorem c_sample {N lv s st : Nat} (hN : 20 ≤ N) (hlv : lv ≤ 2) (hs : s ≤ 5000) (hst : st ≤ 3) : fX4_sampleUnder N (nI s) (nI st) (nI lv) = some (nI (spSample lv s st)) := by
  have hle := spLetter_le (s := s) hlv
  unfold fX4_sampleUnder fX4_sampleUnder_b18 spSample
  rw [c_letter hN hlv hs, Option.bind_some]
  simp only [nI_two st (by omega)]
  split
  · rcases Nat.lt_or_ge (spLetter lv s) 2 with h | h
    · rw [c_sampleOfM N h, show spLetter lv s - 2 = 0 by omega]; rfl
    · rw [show nI (spLetter lv s) - 2 = nI (spLetter lv s - 2) from nI_sub (b := 2) h, c_sampleOf N (by omega)]; rfl
  · rw [c_sampleOf N hle]; rfl
theorem spA_le {lv ql s : Nat} (hql : ql ≤ 3) : spSize (spLetter lv s) * (2 * ql + 1) ≤ 350 := by
  have := spSize_le (spLetter lv s)
  exact Nat.mul_le_mul this (show 2 * ql + 1 ≤ 7 by omega)
theorem acc_num {lv ql s : Nat} (hql : ql ≤ 3) : (nI (spSize (spLetter lv s)) * ((2 * nI ql) + 1)) / 40 = nI (spSize (spLetter lv s) * (2 * ql + 1) / 40) := by
  have := spA_le (lv := lv) (s := s) hql
  rw [show (2 : Int32) * nI ql = nI (2 * ql) from nI_mul 2 ql, show nI (2 * ql) + 1 = nI (2 * ql + 1) from nI_1 _, nI_mul]
  exact nI_div (b := 40) (by omega) (by omega)
theorem acc_tail {lv ql s st : Nat} (hql : ql ≤ 3) (hst : st ≤ 3) : (if nI st = 0 then some (nI (spSize (spLetter lv s) * (2 * ql + 1) / 40)) else if nI (spSize (spLetter lv s) * (2 * ql + 1) / 40) = 0 then some (nI (spSize (spLetter lv s) * (2 * ql + 1) / 40)) else some (nI (spSize (spLetter lv s) * (2 * ql + 1) / 40) - 1)) = some (nI (spAcc lv ql s st)) := by
  have := spA_le (lv := lv) (s := s) hql
  have ha : spSize (spLetter lv s) * (2 * ql + 1) / 40 < 2 ^ 31 := by omega
  clear this
  unfold spAcc
  generalize spSize (spLetter lv s) * (2 * ql + 1) / 40 = a at *
  simp only [nI_zer st (by omega), nI_zer a ha]
  by_cases h1 : st = 0
  · simp [h1]
  · by_cases h2 : a = 0
    · simp [h1, h2]
    · rw [if_neg h1, if_neg h2, if_neg (by omega), show nI a - 1 = nI (a - 1) from nI_sub (b := 1) (by omega)]
theorem c_acc {N lv ql s st : Nat} (hN : 20 ≤ N) (hlv : lv ≤ 2) (hql : ql ≤ 3) (hs : s ≤ 5000) (hst : st ≤ 3) : fX4_acceptingUnder N (nI s) (nI st) (nI lv) (nI ql) = some (nI (spAcc lv ql s st)) := by
  unfold fX4_acceptingUnder fX4_acceptingUnder_b29
  rw [c_letter hN hlv hs, Option.bind_some, c_sampleOf N (spLetter_le hlv), Option.bind_some, Option.bind_some, acc_num hql]
  exact acc_tail hql hst
theorem within_eq (N : Nat) (a lo hi : Int32) : fX5_isWithin N a lo hi = some (if a < lo ∨ hi < a then 0 else 1) := by
  unfold fX5_isWithin
  by_cases h1 : a < lo
  · rw [if_pos h1, if_pos (Or.inl h1)]
  · by_cases h2 : hi < a
    · rw [if_neg h1, if_pos h2, if_pos (Or.inr h2)]
    · rw [if_neg h1, if_neg h2, if_neg (fun h => h.elim h1 h2)]
theorem lot_eq (N : Nat) (a : Int32) : fX5_isLotSize N a = some (if a < 2 ∨ 5000 < a then 0 else 1) := by
  unfold fX5_isLotSize
  rw [within_eq, Option.bind_some]
  split
  · rfl
  · rfl
theorem rng {a : Int32} {lo hi : Nat} (hhi : hi < 2 ^ 31) (hlh : lo ≤ hi) (h : ¬ (a < nI lo ∨ nI hi < a)) : ∃ s : Nat, lo ≤ s ∧ s ≤ hi ∧ a = nI s := by
  have h1 : ¬ a < nI lo := fun z => h (Or.inl z)
  have h2 : ¬ nI hi < a := fun z => h (Or.inr z)
  rw [Int32.lt_iff_toInt_lt, nI_toInt (by omega)] at h1 h2
  refine ⟨a.toInt.toNat, by omega, by omega, Int32.toInt_inj.mp ?_⟩
  rw [nI_toInt (by omega)]
  omega
theorem if01 {P : Prop} [Decidable P] (h : P) : (if P then (0 : Int32) else 1) = 0 := if_pos h
theorem if10 {P : Prop} [Decidable P] (h : ¬ P) : (if P then (0 : Int32) else 1) = 1 := if_neg h
