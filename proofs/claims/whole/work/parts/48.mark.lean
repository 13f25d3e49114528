def spLast (M : Nat → Nat) : Nat → Int
  | 0 => -1
  | j + 1 => if M j = 1 then (j : Int) else spLast M j
theorem spLast_iff (M : Nat → Nat) (a : Nat) : ∀ j, (spLast M j ≤ (a : Int)) ↔ ∀ k, a < k → k < j → M k ≠ 1
  | 0 => ⟨fun _ k _ h => absurd h (Nat.not_lt_zero _), fun _ => by show (-1 : Int) ≤ (a : Int); omega⟩
  | j + 1 => by
    have ih := spLast_iff M a j
    unfold spLast
    by_cases h : M j = 1
    · rw [if_pos h]
      constructor
      · intro hj k h1 h2 h3
        omega
      · intro hk
        rcases Nat.lt_or_ge a j with q | q
        · exact absurd h (hk j q (Nat.lt_succ_self j))
        · omega
    · rw [if_neg h, ih]
      constructor
      · intro hk k h1 h2
        rcases Nat.lt_or_ge k j with q | q
        · exact hk k h1 q
        · rw [show k = j by omega]; exact h
      · intro hk k h1 h2
        exact hk k h1 (by omega)
theorem spLast_ge (M : Nat → Nat) : ∀ j, -1 ≤ spLast M j ∧ spLast M j < (j : Int)
  | 0 => ⟨Int.le_refl _, by show (-1 : Int) < 0; omega⟩
  | j + 1 => by
    have ih := spLast_ge M j
    unfold spLast
    split <;> omega
theorem spMarked_iff (M : Nat → Nat) (a o : Nat) : spMarked M (a + 1) o = true ↔ ∃ k, a < k ∧ k < o + 1 ∧ M k = 1 := by
  unfold spMarked
  rw [List.any_eq_true]
  constructor
  · rintro ⟨k, hk, h⟩
    rw [List.mem_range] at hk
    rw [Bool.and_eq_true, decide_eq_true_eq, decide_eq_true_eq] at h
    exact ⟨k, h.1, hk, h.2⟩
  · rintro ⟨k, h1, h2, h3⟩
    refine ⟨k, List.mem_range.mpr h2, ?_⟩
    rw [Bool.and_eq_true, decide_eq_true_eq, decide_eq_true_eq]
    exact ⟨h1, h3⟩
theorem last_mark (M : Nat → Nat) (a o : Nat) : (spLast M (o + 1) ≤ (a : Int)) ↔ ¬ spMarked M (a + 1) o = true := by
  rw [spLast_iff, spMarked_iff]
  constructor
  · rintro h ⟨k, h1, h2, h3⟩
    exact h k h1 h2 h3
  · intro h k h1 h2 h3
    exact h ⟨k, h1, h2, h3⟩
theorem r_marked {N o : Nat} (hN : 1000 ≤ N) (ho : o < 200) {M : Nat → Nat} {mk : Nat → Int32} (hM : ∀ k, k < 200 → M k ≤ 1) (hmk : ∀ k, k < 200 → mk k = nI (M k)) (a : Nat) (ha : a < 200) : ∃ r, r ≤ 1 ∧ fX6_isMarked N (nI a + 1) (nI o) mk = some (nI r) ∧ (r = 1 ↔ spMarked M (a + 1) o = true) := by
  have key : ∀ (d j k is : Nat), 200 + 1 = j + d → d < k → is ≤ 1 → ∃ r, r ≤ 1 ∧ fX6_isMarked_b5 N mk k (nI o) (nI is) (nI j) = some (nI r) ∧ (r = 1 ↔ is = 1 ∨ ∃ m, j ≤ m ∧ m < o + 1 ∧ M m = 1) := by
    intro d
    induction d with
    | zero =>
      intro j k is hd hk his
      obtain ⟨k, rfl⟩ : ∃ q, k = q + 1 := ⟨k - 1, by omega⟩
      refine ⟨is, his, ?_, ⟨fun z => Or.inl z, fun z => z.elim id (fun ⟨m, h1, h2, _⟩ => by omega)⟩⟩
      rw [fX6_isMarked_b5, if_pos (nI_lt (by omega) (by omega)), if_pos]
      rcases (show is = 0 ∨ is = 1 by omega) with rfl | rfl
      · exact Or.inl rfl
      · exact Or.inr rfl
    | succ d ih =>
      intro j k is hd hk his
      obtain ⟨k, rfl⟩ : ∃ q, k = q + 1 := ⟨k - 1, by omega⟩
      by_cases hjo : o < j
      · refine ⟨is, his, ?_, ⟨fun z => Or.inl z, fun z => z.elim id (fun ⟨m, h1, h2, _⟩ => by omega)⟩⟩
        rw [fX6_isMarked_b5, if_pos (nI_lt hjo (by omega)), if_pos]
        rcases (show is = 0 ∨ is = 1 by omega) with rfl | rfl
        · exact Or.inl rfl
        · exact Or.inr rfl
      · rw [fX6_isMarked_b5, if_neg (nI_nlt (by omega) (by omega))]
        unfold fX6_isMarked_b26 fX6_isMarked_b31
        have hMj := hM j (by omega)
        rcases (show is = 0 ∨ is = 1 by omega) with rfl | rfl
        · rw [if_pos (show nI 0 = (0 : Int32) from rfl), if_pos (okI_nI (by omega) (by omega)), nI_clamp (by omega), hmk j (by omega)]
          simp only [nI_one (M j) (by omega)]
          by_cases hm : M j = 1
          · rw [if_pos hm, nI_1]
            obtain ⟨r, r1, r2, r3⟩ := ih (j + 1) k 1 (by omega) (by omega) (Nat.le_refl _)
            exact ⟨r, r1, r2, ⟨fun _ => Or.inr ⟨j, Nat.le_refl _, by omega, hm⟩, fun _ => r3.mpr (Or.inl rfl)⟩⟩
          · rw [if_neg hm, nI_1]
            obtain ⟨r, r1, r2, r3⟩ := ih (j + 1) k 0 (by omega) (by omega) (by omega)
            refine ⟨r, r1, r2, r3.trans ⟨fun z => z.elim (fun q => absurd q (by omega)) (fun ⟨m, h1, h2, h3⟩ => Or.inr ⟨m, by omega, h2, h3⟩), fun z => z.elim (fun q => absurd q (by omega)) (fun ⟨m, h1, h2, h3⟩ => Or.inr ⟨m, ?_, h2, h3⟩)⟩⟩
            rcases Nat.lt_or_ge j m with q | q
            · exact q
            · exfalso
              rw [show m = j by omega] at h3
              exact hm h3
        · rw [if_neg (show ¬ nI 1 = (0 : Int32) by decide), nI_1]
          obtain ⟨r, r1, r2, r3⟩ := ih (j + 1) k 1 (by omega) (by omega) (Nat.le_refl _)
          exact ⟨r, r1, r2, ⟨fun _ => Or.inl rfl, fun _ => r3.mpr (Or.inl rfl)⟩⟩
  obtain ⟨r, r1, r2, r3⟩ := key (200 - a) (a + 1) N 0 (by omega) (by omega) (by omega)
  refine ⟨r, r1, ?_, ?_⟩
  · unfold fX6_isMarked
    rw [nI_1]
    exact r2
  · rw [spMarked_iff, r3]
    constructor
    · rintro (h | ⟨m, h1, h2, h3⟩)
      · omega
      · exact ⟨m, h1, h2, h3⟩
    · rintro ⟨m, h1, h2, h3⟩
      exact Or.inr ⟨m, h1, h2, h3⟩
