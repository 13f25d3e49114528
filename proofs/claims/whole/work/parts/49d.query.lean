theorem order_eq (N : Nat) (a : Int32) : fX5_isOrder N a = some (if a < 0 ∨ 199 < a then 0 else 1) := by
  unfold fX5_isOrder
  by_cases h1 : a < 0
  · rw [if_pos h1, if_pos (Or.inl h1)]
  · by_cases h2 : 200 ≤ a
    · rw [if_neg h1, if_pos h2, if_pos (Or.inr (by rw [Int32.lt_iff_toInt_lt]; rw [Int32.le_iff_toInt_le] at h2; have e1 : (199 : Int32).toInt = 199 := rfl; have e2 : (200 : Int32).toInt = 200 := rfl; omega))]
    · rw [if_neg h1, if_neg h2, if_neg (fun h => h.elim h1 (fun h3 => h2 (by rw [Int32.lt_iff_toInt_lt] at h3; rw [Int32.le_iff_toInt_le]; have e1 : (199 : Int32).toInt = 199 := rfl; have e2 : (200 : Int32).toInt = 200 := rfl; omega)))]
theorem c_find {N n : Nat} {O S F M : Nat → Nat} (hl : LOTS n O S F) {la : Nat → Option Nat} {ma pO pZ : Nat → Int32} {pF : Nat → Int64} {pL : List Nat} (hT : CTAB n O S F M la ma pL pO pZ pF) (y : Int32) : (∃ i, i < n ∧ y = nI (O i) ∧ ∃ a, la (O i) = some a ∧ a ∈ pL ∧ fX5_findLot N y la = some (some a)) ∨ ((∀ i, i < n → y ≠ nI (O i)) ∧ fX5_findLot N y la = some none) := by
  obtain ⟨t1, t2, t3⟩ := hT
  unfold fX5_findLot
  rw [order_eq, Option.bind_some]
  by_cases h : y < 0 ∨ 199 < y
  · right
    rw [if01 h]
    refine ⟨fun i hi z => ?_, rfl⟩
    have := (hl.2.1 i hi).1
    rw [z] at h
    exact h.elim (nI_pos (by omega)) (fun q => by have := (nI_ltI (a := 199) (b := O i) (by omega) (by omega)).mp q; omega)
  · rw [if10 h, if_neg (by decide)]
    obtain ⟨o, -, ho, rfl⟩ := rng (lo := 0) (hi := 199) (by omega) (by omega) h
    rw [if_pos (okI_nI (by omega) (by omega)), nI_clamp (by omega), Option.bind_some]
    cases hla : la o with
    | none =>
      right
      refine ⟨fun i hi z => ?_, rfl⟩
      have hO := (hl.2.1 i hi).1
      have := (nI_eq (a := o) (b := O i) (by omega) (by omega)).mp z
      obtain ⟨a, hq⟩ := t3 i hi
      rw [← this, hla] at hq
      cases hq
    | some a =>
      left
      obtain ⟨q1, q2, i, hi, hOi, -, -⟩ := t2 o (by omega) a hla
      exact ⟨i, hi, by rw [hOi], a, by rw [hOi]; exact hla, q1, rfl⟩
theorem r_look {N n lv ql tw sd rt : Nat} (hN : 1000 ≤ N) (hcf : CFG lv ql tw sd rt) {O S F M : Nat → Nat} (hl : LOTS n O S F) {mk mo ms : Nat → Int32} {mf : Nat → Int64} (hM : MARR n O S F M mk mo ms mf) (hM1 : ∀ k, k < 200 → M k ≤ 1) (y st sk ln th : Int32) (mv mt mi mb mr : Nat → Int32) : (∃ i, i < n ∧ y = nI (O i) ∧ ∃ r, fX6_looked N y (nI lv) (nI ql) (nI tw) (nI sd) (nI rt) (nI n) st sk ln th mk mo ms mf mv mt mi mb mr = some r ∧ r.1 = nI i ∧ r.2.2.2.2.1 = 0 ∧ MG lv ql tw sd rt n O S F M r.2.2.2.2.2.1 r.2.2.2.2.2.2.1 r.2.2.2.2.2.2.2.1 r.2.2.2.2.2.2.2.2.1) ∨ ((∀ i, i < n → y ≠ nI (O i)) ∧ ∃ r, fX6_looked N y (nI lv) (nI ql) (nI tw) (nI sd) (nI rt) (nI n) st sk ln th mk mo ms mf mv mt mi mb mr = some r ∧ r.1 = -1 ∧ r.2.2.2.2.1 = 1) := by
  have hn := hl.1
  obtain ⟨r, r1, -, -, r4⟩ := r_goes (N := N) hN hcf hl hM hM1 st sk ln mv mt mi mb mr
  unfold fX6_looked fX6_looked_b20
  rw [r1]
  rcases r_place (N := N) (O := O) (mo := mo) hN hl.1 (fun i hi => (hM.1 i hi).1) y with ⟨i, hi, hy, -, z⟩ | ⟨hno, z⟩
  · left
    refine ⟨i, hi, hy, ?_⟩
    rw [z, Option.bind_some, if_neg (fun q => by have := (nI_eq (a := i) (b := n) (by omega) (by omega)).mp q; omega), Option.bind_some, if_pos rfl]
    exact ⟨_, rfl, rfl, rfl, r4⟩
  · right
    refine ⟨hno, ?_⟩
    rw [z, Option.bind_some, if_pos rfl, Option.bind_some, if_neg (by decide)]
    exact ⟨_, rfl, rfl, rfl⟩
theorem Q_verdict {N n lv ql tw sd rt : Nat} (hN : 1000 ≤ N) (hcf : CFG lv ql tw sd rt) {O S F M : Nat → Nat} (hl : LOTS n O S F) {mk mo ms : Nat → Int32} {mf : Nat → Int64} (hM : MARR n O S F M mk mo ms mf) {la : Nat → Option Nat} {ma pO pZ : Nat → Int32} {pF : Nat → Int64} {pL : List Nat} (hT : CTAB n O S F M la ma pL pO pZ pF) {cst csk : Int32} {pV pT pI pB : Nat → Int32} (hD : DER lv ql tw sd rt n O S F M la cst csk pV pT pI pB) (y st sk ln th : Int32) (mv mt mi mb mr : Nat → Int32) : (fX5_verdict N y la pL pV = some (.inl 2) ∧ ∃ rm, fX6_verdict N y (nI lv) (nI ql) (nI tw) (nI sd) (nI rt) (nI n) st sk ln th mk mo ms mf mv mt mi mb mr = some rm ∧ rm.2.2.2.2.1 = 1) ∨ ∃ v, fX5_verdict N y la pL pV = some (.inr v) ∧ ∃ rm, fX6_verdict N y (nI lv) (nI ql) (nI tw) (nI sd) (nI rt) (nI n) st sk ln th mk mo ms mf mv mt mi mb mr = some rm ∧ rm.2.2.2.2.1 = 0 ∧ v = rm.1 := by
  have hn := hl.1
  unfold fX5_verdict fX6_verdict
  rcases r_look (N := N) hN hcf hl hM (fun k hk => (hT.1 k hk).1) y st sk ln th mv mt mi mb mr with ⟨i, hi, hy, r, z1, z2, z3, z4⟩ | ⟨hno, r, z1, z2, z3⟩
  · right
    rcases c_find (N := N) hl hT y with ⟨j, hj, hyj, a, h1, h2, h3⟩ | ⟨hno, -⟩
    · have hOO := (nI_eq (a := O i) (b := O j) (by have := (hl.2.1 i hi).1; omega) (by have := (hl.2.1 j hj).1; omega)).mp (hy.symm.trans hyj)
      have hij : i = j := by
        rcases Nat.lt_trichotomy i j with q | q | q
        · have := hl.2.2 i j q hj; omega
        · exact q
        · have := hl.2.2 j i q hi; omega
      subst hij
      rw [h3, Option.bind_some, z1, Option.bind_some]
      dsimp only
      rw [if_pos h2, z2, if_pos (nI_pos' (by omega)), if_pos (okI_nI (by omega) (by omega)), nI_clamp (by omega)]
      exact ⟨_, rfl, _, rfl, z3, (hD.2.2 i hi a h1).1.trans (z4 i hi).1.symm⟩
    · exact absurd hy (hno i hi)
  · left
    rcases c_find (N := N) hl hT y with ⟨j, hj, hyj, -⟩ | ⟨-, h3⟩
    · exact absurd hyj (hno j hj)
    · rw [h3, Option.bind_some, z1, Option.bind_some, z2, if_neg (by decide)]
      exact ⟨rfl, _, rfl, z3⟩
theorem Q_stateAt {N n lv ql tw sd rt : Nat} (hN : 1000 ≤ N) (hcf : CFG lv ql tw sd rt) {O S F M : Nat → Nat} (hl : LOTS n O S F) {mk mo ms : Nat → Int32} {mf : Nat → Int64} (hM : MARR n O S F M mk mo ms mf) {la : Nat → Option Nat} {ma pO pZ : Nat → Int32} {pF : Nat → Int64} {pL : List Nat} (hT : CTAB n O S F M la ma pL pO pZ pF) {cst csk : Int32} {pV pT pI pB : Nat → Int32} (hD : DER lv ql tw sd rt n O S F M la cst csk pV pT pI pB) (y st sk ln th : Int32) (mv mt mi mb mr : Nat → Int32) : (fX5_stateAt N y la pL pT = some (.inl 2) ∧ ∃ rm, fX6_stateAt N y (nI lv) (nI ql) (nI tw) (nI sd) (nI rt) (nI n) st sk ln th mk mo ms mf mv mt mi mb mr = some rm ∧ rm.2.2.2.2.1 = 1) ∨ ∃ v, fX5_stateAt N y la pL pT = some (.inr v) ∧ ∃ rm, fX6_stateAt N y (nI lv) (nI ql) (nI tw) (nI sd) (nI rt) (nI n) st sk ln th mk mo ms mf mv mt mi mb mr = some rm ∧ rm.2.2.2.2.1 = 0 ∧ v = rm.1 := by
  have hn := hl.1
  unfold fX5_stateAt fX6_stateAt
  rcases r_look (N := N) hN hcf hl hM (fun k hk => (hT.1 k hk).1) y st sk ln th mv mt mi mb mr with ⟨i, hi, hy, r, z1, z2, z3, z4⟩ | ⟨hno, r, z1, z2, z3⟩
  · right
    rcases c_find (N := N) hl hT y with ⟨j, hj, hyj, a, h1, h2, h3⟩ | ⟨hno, -⟩
    · have hOO := (nI_eq (a := O i) (b := O j) (by have := (hl.2.1 i hi).1; omega) (by have := (hl.2.1 j hj).1; omega)).mp (hy.symm.trans hyj)
      have hij : i = j := by
        rcases Nat.lt_trichotomy i j with q | q | q
        · have := hl.2.2 i j q hj; omega
        · exact q
        · have := hl.2.2 j i q hi; omega
      subst hij
      rw [h3, Option.bind_some, z1, Option.bind_some]
      dsimp only
      rw [if_pos h2, z2, if_pos (nI_pos' (by omega)), if_pos (okI_nI (by omega) (by omega)), nI_clamp (by omega)]
      exact ⟨_, rfl, _, rfl, z3, (hD.2.2 i hi a h1).2.1.trans (z4 i hi).2.1.symm⟩
    · exact absurd hy (hno i hi)
  · left
    rcases c_find (N := N) hl hT y with ⟨j, hj, hyj, -⟩ | ⟨-, h3⟩
    · exact absurd hyj (hno j hj)
    · rw [h3, Option.bind_some, z1, Option.bind_some, z2, if_neg (by decide)]
      exact ⟨rfl, _, rfl, z3⟩
theorem Q_inspected {N n lv ql tw sd rt : Nat} (hN : 1000 ≤ N) (hcf : CFG lv ql tw sd rt) {O S F M : Nat → Nat} (hl : LOTS n O S F) {mk mo ms : Nat → Int32} {mf : Nat → Int64} (hM : MARR n O S F M mk mo ms mf) {la : Nat → Option Nat} {ma pO pZ : Nat → Int32} {pF : Nat → Int64} {pL : List Nat} (hT : CTAB n O S F M la ma pL pO pZ pF) {cst csk : Int32} {pV pT pI pB : Nat → Int32} (hD : DER lv ql tw sd rt n O S F M la cst csk pV pT pI pB) (y st sk ln th : Int32) (mv mt mi mb mr : Nat → Int32) : (fX5_inspected N y la pL pI = some (.inl 2) ∧ ∃ rm, fX6_inspected N y (nI lv) (nI ql) (nI tw) (nI sd) (nI rt) (nI n) st sk ln th mk mo ms mf mv mt mi mb mr = some rm ∧ rm.2.2.2.2.1 = 1) ∨ ∃ v, fX5_inspected N y la pL pI = some (.inr v) ∧ ∃ rm, fX6_inspected N y (nI lv) (nI ql) (nI tw) (nI sd) (nI rt) (nI n) st sk ln th mk mo ms mf mv mt mi mb mr = some rm ∧ rm.2.2.2.2.1 = 0 ∧ v = rm.1 := by
  have hn := hl.1
  unfold fX5_inspected fX6_inspected
  rcases r_look (N := N) hN hcf hl hM (fun k hk => (hT.1 k hk).1) y st sk ln th mv mt mi mb mr with ⟨i, hi, hy, r, z1, z2, z3, z4⟩ | ⟨hno, r, z1, z2, z3⟩
  · right
    rcases c_find (N := N) hl hT y with ⟨j, hj, hyj, a, h1, h2, h3⟩ | ⟨hno, -⟩
    · have hOO := (nI_eq (a := O i) (b := O j) (by have := (hl.2.1 i hi).1; omega) (by have := (hl.2.1 j hj).1; omega)).mp (hy.symm.trans hyj)
      have hij : i = j := by
        rcases Nat.lt_trichotomy i j with q | q | q
        · have := hl.2.2 i j q hj; omega
        · exact q
        · have := hl.2.2 j i q hi; omega
      subst hij
      rw [h3, Option.bind_some, z1, Option.bind_some]
      dsimp only
      rw [if_pos h2, z2, if_pos (nI_pos' (by omega)), if_pos (okI_nI (by omega) (by omega)), nI_clamp (by omega)]
      exact ⟨_, rfl, _, rfl, z3, (hD.2.2 i hi a h1).2.2.1.trans (z4 i hi).2.2.1.symm⟩
    · exact absurd hy (hno i hi)
  · left
    rcases c_find (N := N) hl hT y with ⟨j, hj, hyj, -⟩ | ⟨-, h3⟩
    · exact absurd hyj (hno j hj)
    · rw [h3, Option.bind_some, z1, Option.bind_some, z2, if_neg (by decide)]
      exact ⟨rfl, _, rfl, z3⟩
theorem Q_badIn {N n lv ql tw sd rt : Nat} (hN : 1000 ≤ N) (hcf : CFG lv ql tw sd rt) {O S F M : Nat → Nat} (hl : LOTS n O S F) {mk mo ms : Nat → Int32} {mf : Nat → Int64} (hM : MARR n O S F M mk mo ms mf) {la : Nat → Option Nat} {ma pO pZ : Nat → Int32} {pF : Nat → Int64} {pL : List Nat} (hT : CTAB n O S F M la ma pL pO pZ pF) {cst csk : Int32} {pV pT pI pB : Nat → Int32} (hD : DER lv ql tw sd rt n O S F M la cst csk pV pT pI pB) (y st sk ln th : Int32) (mv mt mi mb mr : Nat → Int32) : (fX5_badIn N y la pL pB = some (.inl 2) ∧ ∃ rm, fX6_badIn N y (nI lv) (nI ql) (nI tw) (nI sd) (nI rt) (nI n) st sk ln th mk mo ms mf mv mt mi mb mr = some rm ∧ rm.2.2.2.2.1 = 1) ∨ ∃ v, fX5_badIn N y la pL pB = some (.inr v) ∧ ∃ rm, fX6_badIn N y (nI lv) (nI ql) (nI tw) (nI sd) (nI rt) (nI n) st sk ln th mk mo ms mf mv mt mi mb mr = some rm ∧ rm.2.2.2.2.1 = 0 ∧ v = rm.1 := by
  have hn := hl.1
  unfold fX5_badIn fX6_badIn
  rcases r_look (N := N) hN hcf hl hM (fun k hk => (hT.1 k hk).1) y st sk ln th mv mt mi mb mr with ⟨i, hi, hy, r, z1, z2, z3, z4⟩ | ⟨hno, r, z1, z2, z3⟩
  · right
    rcases c_find (N := N) hl hT y with ⟨j, hj, hyj, a, h1, h2, h3⟩ | ⟨hno, -⟩
    · have hOO := (nI_eq (a := O i) (b := O j) (by have := (hl.2.1 i hi).1; omega) (by have := (hl.2.1 j hj).1; omega)).mp (hy.symm.trans hyj)
      have hij : i = j := by
        rcases Nat.lt_trichotomy i j with q | q | q
        · have := hl.2.2 i j q hj; omega
        · exact q
        · have := hl.2.2 j i q hi; omega
      subst hij
      rw [h3, Option.bind_some, z1, Option.bind_some]
      dsimp only
      rw [if_pos h2, z2, if_pos (nI_pos' (by omega)), if_pos (okI_nI (by omega) (by omega)), nI_clamp (by omega)]
      exact ⟨_, rfl, _, rfl, z3, (hD.2.2 i hi a h1).2.2.2.trans (z4 i hi).2.2.2.symm⟩
    · exact absurd hy (hno i hi)
  · left
    rcases c_find (N := N) hl hT y with ⟨j, hj, hyj, -⟩ | ⟨-, h3⟩
    · exact absurd hyj (hno j hj)
    · rw [h3, Option.bind_some, z1, Option.bind_some, z2, if_neg (by decide)]
      exact ⟨rfl, _, rfl, z3⟩
def spCnt (y : Int32) (v : Nat → Nat) : Nat → Nat
  | 0 => 0
  | c + 1 => spCnt y v c + if nI (v c) = y then 1 else 0
theorem cc_walk {N n : Nat} {O : Nat → Nat} {la : Nat → Option Nat} {pL : List Nat} {pV : Nat → Int32} {v : Nat → Nat} (hn : n ≤ 60) (hO : ∀ i j, i < j → j < n → O i < O j) (h1 : ∀ o, o < 200 → ∀ a, la o = some a → a ∈ pL ∧ ∃ i, i < n ∧ O i = o) (h2 : ∀ i, i < n → ∃ a, la (O i) = some a) (h3 : ∀ i, i < n → O i < 200) (hv : ∀ i, i < n → ∀ a, la (O i) = some a → pV a = nI (v i)) (y : Int32) : ∀ (d j k c : Nat), 200 = j + d → d < k → c ≤ n → (∀ i, i < c → O i < j) → (∀ i, c ≤ i → i < n → j ≤ O i) → fX5_count_b33 N la pL pV k y (nI (spCnt y v c)) 200 (nI j) = some (.inr (nI (spCnt y v n))) := by
  intro d
  induction d with
  | zero =>
    intro j k c hd hk hc ha hb
    obtain ⟨k, rfl⟩ : ∃ q, k = q + 1 := ⟨k - 1, by omega⟩
    have hcn : c = n := by
      rcases Nat.lt_or_ge c n with q | q
      · have := hb c (Nat.le_refl _) q
        have := h3 c q
        omega
      · omega
    subst hcn
    rw [fX5_count_b33, if_pos (show (200 : Int32) ≤ nI j from nI_le (a := 200) (by omega) (by omega))]
  | succ d ih =>
    intro j k c hd hk hc ha hb
    obtain ⟨k, rfl⟩ : ∃ q, k = q + 1 := ⟨k - 1, by omega⟩
    have e0 : ∀ x2, fX5_count_b33 N la pL pV (k + 1) y x2 200 (nI j) = (match la j with | none => fX5_count_b33 N la pL pV k y x2 200 (nI (j + 1)) | some a => (if a ∈ pL then (if pV a = y then fX5_count_b33 N la pL pV k y (x2 + 1) 200 (nI (j + 1)) else fX5_count_b33 N la pL pV k y x2 200 (nI (j + 1))) else none)) := by
      intro x2
      rw [fX5_count_b33, if_neg (show ¬ (200 : Int32) ≤ nI j from nI_ge (b := 200) (by omega) (by omega)), if_pos (okI_nI (by omega) (by omega)), nI_clamp (by omega), Option.bind_some]
      unfold fX5_count_b63
      rw [nI_1]
      cases la j <;> rfl
    rw [e0]
    cases hla : la j with
    | none =>
      have hne : ∀ i, i < n → O i ≠ j := fun i hi z => by
        obtain ⟨a, hq⟩ := h2 i hi
        rw [z, hla] at hq
        cases hq
      exact ih (j + 1) k c (by omega) (by omega) hc (fun i hi => by have := ha i hi; omega) (fun i hi hin => by have := hb i hi hin; have := hne i hin; omega)
    | some a =>
      obtain ⟨hmem, i, hi, hOi⟩ := h1 j (by omega) a hla
      have hic : i = c := by
        rcases Nat.lt_trichotomy i c with q | q | q
        · have := ha i q; omega
        · exact q
        · have := hO c i q hi
          have := hb c (Nat.le_refl _) (by omega)
          omega
      subst hic
      have hih := ih (j + 1) k (i + 1) (by omega) (by omega) (by omega) (fun q hq => by
        rcases Nat.lt_or_ge q i with z | z
        · have := ha q z; omega
        · have : q = i := by omega
          subst this; omega) (fun q hq hqn => by have := hO i q (by omega) hqn; omega)
      have hva := hv i hi a (by rw [hOi]; exact hla)
      dsimp only
      rw [if_pos hmem, hva]
      rw [show spCnt y v (i + 1) = spCnt y v i + if nI (v i) = y then 1 else 0 from rfl] at hih
      by_cases hy : nI (v i) = y
      · rw [if_pos hy] at hih ⊢
        rw [nI_1]
        exact hih
      · rw [if_neg hy, Nat.add_zero] at hih
        rw [if_neg hy]
        exact hih
theorem rc_walk {N n : Nat} (hn : n ≤ 60) {v : Nat → Nat} {mk mo ms : Nat → Int32} {mf : Nat → Int64} {mv : Nat → Int32} (hv : ∀ i, i < n → mv i = nI (v i)) (p1 p2 p3 p4 p5 y st sk ln : Int32) (mt mi mb mr : Nat → Int32) : ∀ (d k c : Nat), n = c + d → d < k → fX6_count_b26 N p1 p2 p3 p4 p5 (nI n) mk mo ms mf k y (nI (spCnt y v c)) (nI c) st sk ln 0 mv mt mi mb mr = some (nI (spCnt y v n), st, sk, ln, 0, mv, mt, mi, mb, mr) := by
  intro d
  induction d with
  | zero =>
    intro k c hd hk
    obtain ⟨k, rfl⟩ : ∃ q, k = q + 1 := ⟨k - 1, by omega⟩
    have e : c = n := by omega
    subst e
    rw [fX6_count_b26, if_pos (nI_le (Nat.le_refl _) (by omega))]
  | succ d ih =>
    intro k c hd hk
    obtain ⟨k, rfl⟩ : ∃ q, k = q + 1 := ⟨k - 1, by omega⟩
    have hih := ih k (c + 1) (by omega) (by omega)
    rw [fX6_count_b26, if_neg (nI_ge (by omega) (by omega)), if_pos rfl, if_pos (okI_nI (by omega) (by omega)), nI_clamp (by omega), hv c (by omega)]
    unfold fX6_count_b57
    dsimp only
    simp only [nI_1]
    rw [show spCnt y v (c + 1) = spCnt y v c + if nI (v c) = y then 1 else 0 from rfl] at hih
    by_cases hy : nI (v c) = y
    · rw [if_pos hy] at hih ⊢
      exact hih
    · rw [if_neg hy, Nat.add_zero] at hih
      rw [if_neg hy, show nI (spCnt y v c) + 0 = nI (spCnt y v c) from Int32.add_zero _]
      exact hih
theorem Q_count {N n lv ql tw sd rt : Nat} (hN : 1000 ≤ N) (hcf : CFG lv ql tw sd rt) {O S F M : Nat → Nat} (hl : LOTS n O S F) {mk mo ms : Nat → Int32} {mf : Nat → Int64} (hM : MARR n O S F M mk mo ms mf) {la : Nat → Option Nat} {ma pO pZ : Nat → Int32} {pF : Nat → Int64} {pL : List Nat} (hT : CTAB n O S F M la ma pL pO pZ pF) {cst csk : Int32} {pV pT pI pB : Nat → Int32} (hD : DER lv ql tw sd rt n O S F M la cst csk pV pT pI pB) (y st sk ln th : Int32) (mv mt mi mb mr : Nat → Int32) : (fX5_count N y la pL pV = some (.inl 1) ∧ ∃ rm, fX6_count N y (nI lv) (nI ql) (nI tw) (nI sd) (nI rt) (nI n) st sk ln th mk mo ms mf mv mt mi mb mr = some rm ∧ rm.2.2.2.2.1 = 1) ∨ ∃ v, fX5_count N y la pL pV = some (.inr v) ∧ ∃ rm, fX6_count N y (nI lv) (nI ql) (nI tw) (nI sd) (nI rt) (nI n) st sk ln th mk mo ms mf mv mt mi mb mr = some rm ∧ rm.2.2.2.2.1 = 0 ∧ v = rm.1 := by
  have hn := hl.1
  obtain ⟨r, r1, -, -, r4⟩ := r_goes (N := N) hN hcf hl hM (fun k hk => (hT.1 k hk).1) st sk ln mv mt mi mb mr
  unfold fX5_count fX6_count fX6_count_b15
  rw [within_eq, in_eq, r1, Option.bind_some, Option.bind_some, Option.bind_some, Option.bind_some]
  by_cases h : y < 0 ∨ 3 < y
  · left
    rw [if01 h, if_pos rfl, if_pos rfl]
    refine ⟨rfl, ?_⟩
    obtain ⟨k, rfl⟩ : ∃ q, N = q + 1 := ⟨N - 1, by omega⟩
    rw [fX6_count_b26]
    by_cases h0 : nI n ≤ 0
    · rw [if_pos h0]
      exact ⟨_, rfl, rfl⟩
    · rw [if_neg h0, if_neg (by decide)]
      exact ⟨_, rfl, rfl⟩
  · right
    rw [if10 h, if_neg (by decide), if_neg (by decide)]
    have e1 := cc_walk (N := N) (pL := pL) (pV := pV) (v := fun i => ov (spOut lv ql tw sd rt M O S F i)) hn hl.2.2 (fun o ho a ha => by obtain ⟨q1, -, i, hi, hO, -⟩ := hT.2.1 o ho a ha; exact ⟨q1, i, hi, hO⟩) hT.2.2 (fun i hi => (hl.2.1 i hi).1) (fun i hi a ha => (hD.2.2 i hi a ha).1) y 200 0 N 0 (by omega) (by omega) (Nat.zero_le _) (fun i hi => absurd hi (Nat.not_lt_zero _)) (fun i _ _ => Nat.zero_le _)
    have e2 := rc_walk (N := N) (mk := mk) (mo := mo) (ms := ms) (mf := mf) hn (fun i hi => (r4 i hi).1) (nI lv) (nI ql) (nI tw) (nI sd) (nI rt) y r.1 r.2.1 r.2.2.1 r.2.2.2.2.1 r.2.2.2.2.2.1 r.2.2.2.2.2.2.1 r.2.2.2.2.2.2.2 n N 0 (by omega) (by omega)
    exact ⟨_, e1, _, e2, rfl, rfl⟩
theorem Q_state {N n lv ql tw sd rt : Nat} (hN : 1000 ≤ N) (hcf : CFG lv ql tw sd rt) {O S F M : Nat → Nat} (hl : LOTS n O S F) {mk mo ms : Nat → Int32} {mf : Nat → Int64} (hM : MARR n O S F M mk mo ms mf) {la : Nat → Option Nat} {ma pO pZ : Nat → Int32} {pF : Nat → Int64} {pL : List Nat} (hT : CTAB n O S F M la ma pL pO pZ pF) {cst csk : Int32} {pV pT pI pB : Nat → Int32} (hD : DER lv ql tw sd rt n O S F M la cst csk pV pT pI pB) (st sk ln th : Int32) (mv mt mi mb mr : Nat → Int32) : ∃ rm, fX6_state N (nI lv) (nI ql) (nI tw) (nI sd) (nI rt) (nI n) st sk ln th mk mo ms mf mv mt mi mb mr = some rm ∧ cst = rm.1 := by
  obtain ⟨r, r1, r2, -, -⟩ := r_goes (N := N) hN hcf hl hM (fun k hk => (hT.1 k hk).1) st sk ln mv mt mi mb mr
  unfold fX6_state
  rw [r1, Option.bind_some]
  exact ⟨_, rfl, hD.1.trans r2.symm⟩
theorem Q_isSkipping {N n lv ql tw sd rt : Nat} (hN : 1000 ≤ N) (hcf : CFG lv ql tw sd rt) {O S F M : Nat → Nat} (hl : LOTS n O S F) {mk mo ms : Nat → Int32} {mf : Nat → Int64} (hM : MARR n O S F M mk mo ms mf) {la : Nat → Option Nat} {ma pO pZ : Nat → Int32} {pF : Nat → Int64} {pL : List Nat} (hT : CTAB n O S F M la ma pL pO pZ pF) {cst csk : Int32} {pV pT pI pB : Nat → Int32} (hD : DER lv ql tw sd rt n O S F M la cst csk pV pT pI pB) (st sk ln th : Int32) (mv mt mi mb mr : Nat → Int32) : fX5_isSkipping N csk = some csk ∧ ∃ rm, fX6_isSkipping N (nI lv) (nI ql) (nI tw) (nI sd) (nI rt) (nI n) st sk ln th mk mo ms mf mv mt mi mb mr = some rm ∧ csk = rm.1 := by
  obtain ⟨r, r1, -, r3, -⟩ := r_goes (N := N) hN hcf hl hM (fun k hk => (hT.1 k hk).1) st sk ln mv mt mi mb mr
  have hW := WI_W (M := M) hcf hl n (Nat.le_refl _)
  have hb : nI (wsk (spW lv ql tw sd rt M O S F n)) = 0 ∨ nI (wsk (spW lv ql tw sd rt M O S F n)) = 1 := by
    have := hW.2.1
    rcases (show wsk (spW lv ql tw sd rt M O S F n) = 0 ∨ wsk (spW lv ql tw sd rt M O S F n) = 1 by omega) with q | q
    · rw [q]; exact Or.inl rfl
    · rw [q]; exact Or.inr rfl
  have e : csk = nI (wsk (spW lv ql tw sd rt M O S F n)) := hD.2.1
  unfold fX5_isSkipping fX6_isSkipping
  rw [r1, Option.bind_some, r3, if_pos hb, e, if_pos hb]
  exact ⟨rfl, _, rfl, rfl⟩
