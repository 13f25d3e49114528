theorem at_walk {N n : Nat} {O : Nat → Nat} {la : Nat → Option Nat} (hn : n ≤ 60) (hO : ∀ i j, i < j → j < n → O i < O j) (h1 : ∀ o, o < 200 → ∀ a, la o = some a → ∃ i, i < n ∧ O i = o) (h2 : ∀ i, i < n → ∃ a, la (O i) = some a) (h3 : ∀ i, i < n → O i < 200) (y : Int32) : ∀ (d j k c : Nat), 200 = j + d → d < k → c ≤ n → (∀ i, i < c → O i < j) → (∀ i, c ≤ i → i < n → j ≤ O i) → (∀ p, c ≤ p → p < n → y = nI p → fX5_orderAt_b4 N la k y (nI c) (nI j) = some (.inr (nI (O p)))) ∧ ((∀ p, c ≤ p → p < n → y ≠ nI p) → fX5_orderAt_b4 N la k y (nI c) (nI j) = some (.inl 3)) := by
  intro d
  induction d with
  | zero =>
    intro j k c hd hk hc ha hb
    obtain ⟨k, rfl⟩ : ∃ q, k = q + 1 := ⟨k - 1, by omega⟩
    refine ⟨fun p hp hpn _ => ?_, fun _ => ?_⟩
    · have := hb p hp hpn
      have := h3 p hpn
      omega
    · rw [fX5_orderAt_b4, if_pos (show (200 : Int32) ≤ nI j from nI_le (a := 200) (by omega) (by omega))]
  | succ d ih =>
    intro j k c hd hk hc ha hb
    obtain ⟨k, rfl⟩ : ∃ q, k = q + 1 := ⟨k - 1, by omega⟩
    have e0 : fX5_orderAt_b4 N la (k + 1) y (nI c) (nI j) = (match la j with | none => fX5_orderAt_b4 N la k y (nI c) (nI (j + 1)) | some _ => (if nI c = y then some (.inr (nI j)) else fX5_orderAt_b4 N la k y (nI (c + 1)) (nI (j + 1)))) := by
      rw [fX5_orderAt_b4, if_neg (show ¬ (200 : Int32) ≤ nI j from nI_ge (b := 200) (by omega) (by omega)), if_pos (okI_nI (by omega) (by omega)), nI_clamp (by omega), Option.bind_some]
      unfold fX5_orderAt_b30
      rw [nI_1, nI_1]
      cases la j <;> rfl
    rw [e0]
    cases hla : la j with
    | none =>
      have hne : ∀ i, i < n → O i ≠ j := fun i hi z => by
        obtain ⟨a, hq⟩ := h2 i hi
        rw [z, hla] at hq
        cases hq
      exact ih (j + 1) k c (by omega) (by omega) hc (fun i hi => by have := ha i hi; omega) (fun i hi hin => by have := hb i hi hin; have := hne i hin; omega)
    | some a =>
      obtain ⟨i, hi, hOi⟩ := h1 j (by omega) a hla
      have hic : i = c := by
        rcases Nat.lt_trichotomy i c with q | q | q
        · have := ha i q; omega
        · exact q
        · have := hO c i q hi
          have := hb c (Nat.le_refl _) (by omega)
          omega
      subst hic
      have hih := ih (j + 1) k (i + 1) (by omega) (by omega) (by omega) (fun q hq => by
        rcases Nat.lt_or_ge q i with z | z
        · have := ha q z; omega
        · have : q = i := by omega
          subst this; omega) (fun q hq hqn => by have := hO i q (by omega) hqn; omega)
      dsimp only
      refine ⟨fun p hp hpn hy => ?_, fun hno => ?_⟩
      · by_cases hpi : p = i
        · subst hpi
          rw [if_pos hy.symm, hOi]
        · rw [if_neg (fun z => by rw [hy] at z; have := (nI_eq (by omega) (by omega)).mp z; omega)]
          exact hih.1 p (by omega) hpn hy
      · rw [if_neg (fun z => hno i (Nat.le_refl _) hi z.symm)]
        exact hih.2 (fun p hp hpn => hno p (by omega) hpn)
theorem Q_orderAt {N n : Nat} (hN : 1000 ≤ N) {O S F M : Nat → Nat} {la : Nat → Option Nat} {ma mk mo ms pO pZ : Nat → Int32} {mf pF : Nat → Int64} {pL : List Nat} (hl : LOTS n O S F) (hM : MARR n O S F M mk mo ms mf) (hT : CTAB n O S F M la ma pL pO pZ pF) (y1 th : Int32) : (fX5_orderAt N y1 la = some (.inl 3) ∧ fX6_orderAt N y1 (nI n) th mo = some (0, 1)) ∨ ∃ v, fX5_orderAt N y1 la = some (.inr v) ∧ fX6_orderAt N y1 (nI n) th mo = some (v, 0) := by
  obtain ⟨hn, hr, hs⟩ := hl
  obtain ⟨t1, t2, t3⟩ := hT
  have hw := at_walk (N := N) hn hs (fun o ho a h => by obtain ⟨-, -, i, hi, hO, -⟩ := t2 o ho a h; exact ⟨i, hi, hO⟩) t3 (fun i hi => (hr i hi).1) y1 200 0 N 0 (by omega) (by omega) (Nat.zero_le _) (fun i hi => absurd hi (Nat.not_lt_zero _)) (fun i _ _ => Nat.zero_le _)
  unfold fX6_orderAt
  rw [in_eq, Option.bind_some]
  by_cases h : y1 < 0 ∨ nI n - 1 < y1
  · left
    rw [if01 h]
    refine ⟨hw.2 (fun p _ hp z => ?_), rfl⟩
    rw [z, Int32.lt_iff_toInt_lt, Int32.lt_iff_toInt_lt, show (1 : Int32) = nI 1 from rfl, subI (by omega) (by omega), nI_toInt (by omega)] at h
    have : (0 : Int32).toInt = 0 := rfl
    omega
  · right
    rw [if10 h]
    have hp : ∃ p, p < n ∧ y1 = nI p := by
      have h1 : ¬ y1 < 0 := fun z => h (Or.inl z)
      have h2 : ¬ nI n - 1 < y1 := fun z => h (Or.inr z)
      rw [Int32.lt_iff_toInt_lt] at h1 h2
      rw [show (1 : Int32) = nI 1 from rfl, subI (by omega) (by omega)] at h2
      have z0 : (0 : Int32).toInt = 0 := rfl
      refine ⟨y1.toInt.toNat, by omega, Int32.toInt_inj.mp ?_⟩
      rw [nI_toInt (by omega)]
      omega
    obtain ⟨p, hpn, rfl⟩ := hp
    refine ⟨nI (O p), hw.1 p (Nat.zero_le _) hpn rfl, ?_⟩
    rw [if_neg (by decide)]
    unfold fX6_orderAt_b20
    rw [if_pos rfl, if_pos (okI_nI (by omega) (by omega)), nI_clamp (by omega), (hM.1 p hpn).1]
    rfl
theorem r_place {N n : Nat} (hN : 1000 ≤ N) (hn : n ≤ 60) {O : Nat → Nat} {mo : Nat → Int32} (hmo : ∀ i, i < n → mo i = nI (O i)) (y : Int32) : (∃ i, i < n ∧ y = nI (O i) ∧ (∀ j, j < i → y ≠ nI (O j)) ∧ fX6_place N y (nI n) mo = some (nI i)) ∨ ((∀ i, i < n → y ≠ nI (O i)) ∧ fX6_place N y (nI n) mo = some (nI n)) := by
  have key : ∀ (d j k : Nat), n = j + d → d < k → (∀ i, i < j → y ≠ nI (O i)) → (∃ i, i < n ∧ y = nI (O i) ∧ (∀ q, q < i → y ≠ nI (O q)) ∧ fX6_place_b2 N (nI n) mo k y (nI j) = some (nI i)) ∨ ((∀ i, i < n → y ≠ nI (O i)) ∧ fX6_place_b2 N (nI n) mo k y (nI j) = some (nI n)) := by
    intro d
    induction d with
    | zero =>
      intro j k hd hk hj
      obtain ⟨k, rfl⟩ : ∃ q, k = q + 1 := ⟨k - 1, by omega⟩
      have e : j = n := by omega
      subst e
      exact Or.inr ⟨hj, by rw [fX6_place_b2, if_pos (nI_le (Nat.le_refl _) (by omega))]⟩
    | succ d ih =>
      intro j k hd hk hj
      obtain ⟨k, rfl⟩ : ∃ q, k = q + 1 := ⟨k - 1, by omega⟩
      have e0 : fX6_place_b2 N (nI n) mo (k + 1) y (nI j) = if nI (O j) = y then some (nI j) else fX6_place_b2 N (nI n) mo k y (nI (j + 1)) := by
        rw [fX6_place_b2, if_neg (nI_ge (by omega) (by omega)), if_pos (okI_nI (by omega) (by omega)), nI_clamp (by omega), hmo j (by omega), nI_1]
      rw [e0]
      by_cases h : nI (O j) = y
      · exact Or.inl ⟨j, by omega, h.symm, hj, if_pos h⟩
      · rw [if_neg h]
        refine ih (j + 1) k (by omega) (by omega) (fun i hi => ?_)
        rcases Nat.lt_or_ge i j with q | q
        · exact hj i q
        · rw [show i = j by omega]
          exact fun z => h z.symm
  exact key n 0 N (by omega) (by omega) (fun i hi => absurd hi (Nat.not_lt_zero _))
