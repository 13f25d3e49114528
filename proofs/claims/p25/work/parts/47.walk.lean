theorem at_walk {N n : Nat} {O : Nat → Nat} {la : Nat → Option Nat} (hn : n ≤ 60) (hO : ∀ i j, i < j → j < n → O i < O j) (h1 : ∀ o, o < 200 → ∀ a, la o = some a → ∃ i, i < n ∧ O i = o) (h2 : ∀ i, i < n → ∃ a, la (O i) = some a) (h3 : ∀ i, i < n → O i < 200) (y : Int32) : ∀ (d j k c : Nat), 200 = j + d → d < k → c ≤ n → (∀ i, i < c → O i < j) → (∀ i, c ≤ i → i < n → j ≤ O i) → (∀ p, c ≤ p → p < n → y = nI p → fX5_orderAt_b4 N la k y (nI c) (nI j) = some (.inr (nI (O p)))) ∧ ((∀ p, c ≤ p → p < n → y ≠ nI p) → fX5_orderAt_b4 N la k y (nI c) (nI j) = some (.inl 3)) := by
  intro d
  induction d with
  | zero =>
    intro j k c hd hk hc ha hb
    obtain ⟨k, rfl⟩ : ∃ q, k = q + 1 := ⟨k - 1, by omega⟩
    refine ⟨fun p hp hpn _ => ?_, fun _ => ?_⟩
    · have := hb p hp hpn
      have := h3 p hpn
      omega
    · rw [fX5_orderAt_b4, if_pos (show (200 : Int32) ≤ nI j from nI_le (a := 200) (by omega) (by omega))]
  | succ d ih =>
    intro j k c hd hk hc ha hb
    obtain ⟨k, rfl⟩ : ∃ q, k = q + 1 := ⟨k - 1, by omega⟩
    have e0 : fX5_orderAt_b4 N la (k + 1) y (nI c) (nI j) = (match la j with | none => fX5_orderAt_b4 N la k y (nI c) (nI (j + 1)) | some _ => (if nI c = y then some (.inr (nI j)) else fX5_orderAt_b4 N la k y (nI (c + 1)) (nI (j + 1)))) := by
      rw [fX5_orderAt_b4, if_neg (show ¬ (200 : Int32) ≤ nI j from nI_ge (b := 200) (by omega) (by omega)), if_pos (okI_nI (by omega) (by omega)), nI_clamp (by omega), Option.bind_some]
      unfold fX5_orderAt_b30
      rw [nI_1, nI_1]
      cases la j <;> rfl
    rw [e0]
    cases hla : la j with
    | none =>
      have hne : ∀ i, i < n → O i ≠ j := fun i hi z => by
        obtain ⟨a, hq⟩ := h2 i hi
        rw [z, hla] at hq
        cases hq
      exact ih (j + 1) k c (by omega) (by omega) hc (fun i hi => by have := ha i hi; omega) (fun i hi hin => by have := hb i hi hin; have := hne i hin; omega)
    | some a =>
      obtain ⟨i, hi, hOi⟩ := h1 j (by omega) a hla
      have hic : i = c := by
        rcases Nat.lt_trichotomy i c with q | q | q
        · have := ha i q; omega
        · exact q
        · have := hO c i q hi
          have := hb c (Nat.le_refl _) (by omega)
          omega
      subst hic
      have hih := ih (j + 1) k (i + 1) (by omega) (by omega) (by omega) (fun q hq => by
        rcases Nat.lt_or_ge q i with z | z
        · have := ha q z; omega
        · have : q = i := by omega
          subst this; omega) (fun q hq hqn => by have := hO i q (by omega) hqn; omega)
      dsimp only
      refine ⟨fun p hp hpn hy => ?_, fun hno => ?_⟩
      · by_cases hpi : p = i
        · subst hpi
          rw [if_pos hy.symm, hOi]
        · rw [if_neg (fun z => by rw [hy] at z; have := (nI_eq (by omega) (by omega)).mp z; omega)]
          exact hih.1 p (by omega) hpn hy
      · rw [if_neg (fun z => hno i (Nat.le_refl _) hi z.symm)]
        exact hih.2 (fun p hp hpn => hno p (by omega) hpn)
