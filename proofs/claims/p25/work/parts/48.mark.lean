def spLast (M : Nat → Nat) : Nat → Int
  | 0 => -1
  | j + 1 => if M j = 1 then (j : Int) else spLast M j
theorem spLast_iff (M : Nat → Nat) (a : Nat) : ∀ j, (spLast M j ≤ (a : Int)) ↔ ∀ k, a < k → k < j → M k ≠ 1
  | 0 => ⟨fun _ k _ h => absurd h (Nat.not_lt_zero _), fun _ => by show (-1 : Int) ≤ (a : Int); omega⟩
  | j + 1 => by
    have ih := spLast_iff M a j
    unfold spLast
    by_cases h : M j = 1
    · rw [if_pos h]
      constructor
      · intro hj k h1 h2 h3
        omega
      · intro hk
        rcases Nat.lt_or_ge a j with q | q
        · exact absurd h (hk j q (Nat.lt_succ_self j))
        · omega
    · rw [if_neg h, ih]
      constructor
      · intro hk k h1 h2
        rcases Nat.lt_or_ge k j with q | q
        · exact hk k h1 q
        · rw [show k = j by omega]; exact h
      · intro hk k h1 h2
        exact hk k h1 (by omega)
theorem spLast_ge (M : Nat → Nat) : ∀ j, -1 ≤ spLast M j ∧ spLast M j < (j : Int)
  | 0 => ⟨Int.le_refl _, by show (-1 : Int) < 0; omega⟩
  | j + 1 => by
    have ih := spLast_ge M j
    unfold spLast
    split <;> omega
theorem spMarked_iff (M : Nat → Nat) (a o : Nat) : spMarked M (a + 1) o = true ↔ ∃ k, a < k ∧ k < o + 1 ∧ M k = 1 := by
  unfold spMarked
  rw [List.any_eq_true]
  constructor
  · rintro ⟨k, hk, h⟩
    rw [List.mem_range] at hk
    rw [Bool.and_eq_true, decide_eq_true_eq, decide_eq_true_eq] at h
    exact ⟨k, h.1, hk, h.2⟩
  · rintro ⟨k, h1, h2, h3⟩
    refine ⟨k, List.mem_range.mpr h2, ?_⟩
    rw [Bool.and_eq_true, decide_eq_true_eq, decide_eq_true_eq]
    exact ⟨h1, h3⟩
theorem last_mark (M : Nat → Nat) (a o : Nat) : (spLast M (o + 1) ≤ (a : Int)) ↔ ¬ spMarked M (a + 1) o = true := by
  rw [spLast_iff, spMarked_iff]
  constructor
  · rintro h ⟨k, h1, h2, h3⟩
    exact h k h1 h2 h3
  · intro h k h1 h2 h3
    exact h ⟨k, h1, h2, h3⟩
