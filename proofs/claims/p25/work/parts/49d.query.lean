theorem order_eq (N : Nat) (a : Int32) : fX5_isOrder N a = some (if a < 0 ∨ 199 < a then 0 else 1) := by
  unfold fX5_isOrder
  by_cases h1 : a < 0
  · rw [if_pos h1, if_pos (Or.inl h1)]
  · by_cases h2 : 200 ≤ a
    · rw [if_neg h1, if_pos h2, if_pos (Or.inr (by rw [Int32.lt_iff_toInt_lt]; rw [Int32.le_iff_toInt_le] at h2; have e1 : (199 : Int32).toInt = 199 := rfl; have e2 : (200 : Int32).toInt = 200 := rfl; omega))]
    · rw [if_neg h1, if_neg h2, if_neg (fun h => h.elim h1 (fun h3 => h2 (by rw [Int32.lt_iff_toInt_lt] at h3; rw [Int32.le_iff_toInt_le]; have e1 : (199 : Int32).toInt = 199 := rfl; have e2 : (200 : Int32).toInt = 200 := rfl; omega)))]
theorem c_find {N n : Nat} {O S F M : Nat → Nat} (hl : LOTS n O S F) {la : Nat → Option Nat} {ma pO pZ : Nat → Int32} {pF : Nat → Int64} {pL : List Nat} (hT : CTAB n O S F M la ma pL pO pZ pF) (y : Int32) : (∃ i, i < n ∧ y = nI (O i) ∧ ∃ a, la (O i) = some a ∧ a ∈ pL ∧ fX5_findLot N y la = some (some a)) ∨ ((∀ i, i < n → y ≠ nI (O i)) ∧ fX5_findLot N y la = some none) := by
  obtain ⟨t1, t2, t3⟩ := hT
  unfold fX5_findLot
  rw [order_eq, Option.bind_some]
  by_cases h : y < 0 ∨ 199 < y
  · right
    rw [if01 h]
    refine ⟨fun i hi z => ?_, rfl⟩
    have := (hl.2.1 i hi).1
    rw [z] at h
    exact h.elim (nI_pos (by omega)) (fun q => by have := (nI_ltI (a := 199) (b := O i) (by omega) (by omega)).mp q; omega)
  · rw [if10 h, if_neg (by decide)]
    obtain ⟨o, -, ho, rfl⟩ := rng (lo := 0) (hi := 199) (by omega) (by omega) h
    rw [if_pos (okI_nI (by omega) (by omega)), nI_clamp (by omega), Option.bind_some]
    cases hla : la o with
    | none =>
      right
      refine ⟨fun i hi z => ?_, rfl⟩
      have hO := (hl.2.1 i hi).1
      have := (nI_eq (a := o) (b := O i) (by omega) (by omega)).mp z
      obtain ⟨a, hq⟩ := t3 i hi
      rw [← this, hla] at hq
      cases hq
    | some a =>
      left
      obtain ⟨q1, q2, i, hi, hOi, -, -⟩ := t2 o (by omega) a hla
      exact ⟨i, hi, by rw [hOi], a, by rw [hOi]; exact hla, q1, rfl⟩
def spCnt (y : Int32) (v : Nat → Nat) : Nat → Nat
  | 0 => 0
  | c + 1 => spCnt y v c + if nI (v c) = y then 1 else 0
theorem cc_walk {N n : Nat} {O : Nat → Nat} {la : Nat → Option Nat} {pL : List Nat} {pV : Nat → Int32} {v : Nat → Nat} (hn : n ≤ 60) (hO : ∀ i j, i < j → j < n → O i < O j) (h1 : ∀ o, o < 200 → ∀ a, la o = some a → a ∈ pL ∧ ∃ i, i < n ∧ O i = o) (h2 : ∀ i, i < n → ∃ a, la (O i) = some a) (h3 : ∀ i, i < n → O i < 200) (hv : ∀ i, i < n → ∀ a, la (O i) = some a → pV a = nI (v i)) (y : Int32) : ∀ (d j k c : Nat), 200 = j + d → d < k → c ≤ n → (∀ i, i < c → O i < j) → (∀ i, c ≤ i → i < n → j ≤ O i) → fX5_count_b33 N la pL pV k y (nI (spCnt y v c)) 200 (nI j) = some (.inr (nI (spCnt y v n))) := by
  intro d
  induction d with
  | zero =>
    intro j k c hd hk hc ha hb
    obtain ⟨k, rfl⟩ : ∃ q, k = q + 1 := ⟨k - 1, by omega⟩
    have hcn : c = n := by
      rcases Nat.lt_or_ge c n with q | q
      · have := hb c (Nat.le_refl _) q
        have := h3 c q
        omega
      · omega
    subst hcn
    rw [fX5_count_b33, if_pos (show (200 : Int32) ≤ nI j from nI_le (a := 200) (by omega) (by omega))]
  | succ d ih =>
    intro j k c hd hk hc ha hb
    obtain ⟨k, rfl⟩ : ∃ q, k = q + 1 := ⟨k - 1, by omega⟩
    have e0 : ∀ x2, fX5_count_b33 N la pL pV (k + 1) y x2 200 (nI j) = (match la j with | none => fX5_count_b33 N la pL pV k y x2 200 (nI (j + 1)) | some a => (if a ∈ pL then (if pV a = y then fX5_count_b33 N la pL pV k y (x2 + 1) 200 (nI (j + 1)) else fX5_count_b33 N la pL pV k y x2 200 (nI (j + 1))) else none)) := by
      intro x2
      rw [fX5_count_b33, if_neg (show ¬ (200 : Int32) ≤ nI j from nI_ge (b := 200) (by omega) (by omega)), if_pos (okI_nI (by omega) (by omega)), nI_clamp (by omega), Option.bind_some]
      unfold fX5_count_b63
      rw [nI_1]
      cases la j <;> rfl
    rw [e0]
    cases hla : la j with
    | none =>
      have hne : ∀ i, i < n → O i ≠ j := fun i hi z => by
        obtain ⟨a, hq⟩ := h2 i hi
        rw [z, hla] at hq
        cases hq
      exact ih (j + 1) k c (by omega) (by omega) hc (fun i hi => by have := ha i hi; omega) (fun i hi hin => by have := hb i hi hin; have := hne i hin; omega)
    | some a =>
      obtain ⟨hmem, i, hi, hOi⟩ := h1 j (by omega) a hla
      have hic : i = c := by
        rcases Nat.lt_trichotomy i c with q | q | q
        · have := ha i q; omega
        · exact q
        · have := hO c i q hi
          have := hb c (Nat.le_refl _) (by omega)
          omega
      subst hic
      have hih := ih (j + 1) k (i + 1) (by omega) (by omega) (by omega) (fun q hq => by
        rcases Nat.lt_or_ge q i with z | z
        · have := ha q z; omega
        · have : q = i := by omega
          subst this; omega) (fun q hq hqn => by have := hO i q (by omega) hqn; omega)
      have hva := hv i hi a (by rw [hOi]; exact hla)
      dsimp only
      rw [if_pos hmem, hva]
      rw [show spCnt y v (i + 1) = spCnt y v i + if nI (v i) = y then 1 else 0 from rfl] at hih
      by_cases hy : nI (v i) = y
      · rw [if_pos hy] at hih ⊢
        rw [nI_1]
        exact hih
      · rw [if_neg hy, Nat.add_zero] at hih
        rw [if_neg hy]
        exact hih
