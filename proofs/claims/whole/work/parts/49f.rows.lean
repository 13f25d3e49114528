theorem mono_le {n : Nat} {O : Nat → Nat} (h : ∀ i j, i < j → j < n → O i < O j) {i j : Nat} (hij : i ≤ j) (hj : j < n) : O i ≤ O j := by
  rcases Nat.lt_or_ge i j with q | q
  · exact Nat.le_of_lt (h i j q hj)
  · rw [show i = j by omega]; exact Nat.le_refl _
theorem mono_inj {n : Nat} {O : Nat → Nat} (h : ∀ i j, i < j → j < n → O i < O j) {i j : Nat} (hi : i < n) (hj : j < n) (e : O i = O j) : i = j := by
  rcases Nat.lt_trichotomy i j with q | q | q
  · have := h i j q hj; omega
  · exact q
  · have := h j i q hi; omega
/-- a row without its place i -/
def cutAt (i : Nat) (f : Nat → Nat) (k : Nat) : Nat := if k < i then f k else f (k + 1)
theorem cut_lo {i k : Nat} (f : Nat → Nat) (h : k < i) : cutAt i f k = f k := if_pos h
theorem cut_hi {i k : Nat} (f : Nat → Nat) (h : i ≤ k) : cutAt i f k = f (k + 1) := if_neg (by omega)
/-- a row with v put in at place p -/
def putAt (p v : Nat) (f : Nat → Nat) (k : Nat) : Nat := if k < p then f k else if k = p then v else f (k - 1)
theorem put_lo {p v k : Nat} (f : Nat → Nat) (h : k < p) : putAt p v f k = f k := if_pos h
theorem put_at (p v : Nat) (f : Nat → Nat) : putAt p v f p = v := by unfold putAt; rw [if_neg (by omega), if_pos rfl]
theorem put_hi {p v k : Nat} (f : Nat → Nat) (h : p < k) : putAt p v f k = f (k - 1) := by unfold putAt; rw [if_neg (by omega), if_neg (by omega)]
theorem strike_walk {N n i : Nat} (hn : n < 60) {O S F : Nat → Nat} (th : Int32) : ∀ (d k j : Nat) (mo ms : Nat → Int32) (mf : Nat → Int64), n = j + d → d < k → i ≤ j → (∀ q, q < j → mo q = nI (cutAt i O q) ∧ ms q = nI (cutAt i S q) ∧ mf q = lN (cutAt i F q)) → (∀ q, j ≤ q → q ≤ n → mo q = nI (O q) ∧ ms q = nI (S q) ∧ mf q = lN (F q)) → ∃ mo' ms' mf', fX6_strike_b44 N k (nI j) (nI n) th mo ms mf = some (nI n, nI n, th, mo', ms', mf') ∧ ∀ q, q < n → mo' q = nI (cutAt i O q) ∧ ms' q = nI (cutAt i S q) ∧ mf' q = lN (cutAt i F q) := by
  intro d
  induction d with
  | zero =>
    intro k j mo ms mf hd hk hij h1 h2
    obtain ⟨k, rfl⟩ : ∃ q, k = q + 1 := ⟨k - 1, by omega⟩
    have e : j = n := by omega
    subst e
    exact ⟨mo, ms, mf, by rw [fX6_strike_b44, if_pos (nI_le (Nat.le_refl _) (by omega))], h1⟩
  | succ d ih =>
    intro k j mo ms mf hd hk hij h1 h2
    obtain ⟨k, rfl⟩ : ∃ q, k = q + 1 := ⟨k - 1, by omega⟩
    have o1 := okI_nI (n := j + 1) (M := 60) (by omega) (by omega)
    have o2 := okI_nI (n := j) (M := 60) (by omega) (by omega)
    obtain ⟨e1, e2, e3⟩ := h2 (j + 1) (by omega) (by omega)
    rw [fX6_strike_b44, if_neg (nI_ge (by omega) (by omega)), nI_1, if_pos o1, if_pos o2, if_pos o1, if_pos o2, if_pos o1, if_pos o2, nI_clamp (by omega), nI_clamp (by omega)]
    refine ih k (j + 1) _ _ _ (by omega) (by omega) (by omega) (fun q hq => ?_) (fun q hq1 hq2 => ?_)
    · by_cases hqj : q = j
      · subst hqj
        rw [ud_at, ud_at, pk_uLs, cut_hi _ hij, cut_hi _ hij, cut_hi _ hij]
        exact ⟨e1, e2, e3⟩
      · rw [ud_ne _ _ hqj, ud_ne _ _ hqj, pk_uLn hqj]
        exact h1 q (by omega)
    · rw [ud_ne _ _ (by omega), ud_ne _ _ (by omega), pk_uLn (by omega)]
      exact h2 q (by omega) hq2
theorem cut_lots {n i : Nat} {O S F : Nat → Nat} (hl : LOTS (n + 1) O S F) : LOTS n (cutAt i O) (cutAt i S) (cutAt i F) := by
  obtain ⟨h1, h2, h3⟩ := hl
  refine ⟨by omega, fun k hk => ?_, fun a b hab hb => ?_⟩
  · by_cases h : k < i
    · rw [cut_lo _ h, cut_lo _ h, cut_lo _ h]; exact h2 k (by omega)
    · rw [cut_hi _ (by omega), cut_hi _ (by omega), cut_hi _ (by omega)]; exact h2 (k + 1) (by omega)
  · by_cases h : a < i
    · by_cases h' : b < i
      · rw [cut_lo _ h, cut_lo _ h']; exact h3 a b hab (by omega)
      · rw [cut_lo _ h, cut_hi _ (by omega)]; exact h3 a (b + 1) (by omega) (by omega)
    · rw [cut_hi _ (by omega), cut_hi _ (by omega)]; exact h3 (a + 1) (b + 1) (by omega) (by omega)
theorem cut_tab {n i : Nat} {O S F M : Nat → Nat} (hl : LOTS (n + 1) O S F) (hi : i < n + 1) {la : Nat → Option Nat} {ma pO pZ : Nat → Int32} {pF : Nat → Int64} {pL : List Nat} (hT : CTAB (n + 1) O S F M la ma pL pO pZ pF) : CTAB n (cutAt i O) (cutAt i S) (cutAt i F) M (va_up la (O i) none) ma pL pO pZ pF := by
  obtain ⟨t1, t2, t3⟩ := hT
  refine ⟨t1, fun o ho a ha => ?_, fun k hk => ?_⟩
  · by_cases hoi : o = O i
    · simp [va_up, hoi] at ha
    · have ha' : la o = some a := by simpa [va_up, hoi] using ha
      obtain ⟨c1, c2, k, hk, hOk, c3, c4⟩ := t2 o ho a ha'
      have hki : k ≠ i := fun e => hoi (by rw [← hOk, e])
      refine ⟨c1, c2, ?_⟩
      by_cases h : k < i
      · exact ⟨k, by omega, by rw [cut_lo _ h]; exact hOk, by rw [cut_lo _ h]; exact c3, by rw [cut_lo _ h]; exact c4⟩
      · have e : k - 1 + 1 = k := by omega
        exact ⟨k - 1, by omega, by rw [cut_hi _ (by omega), e]; exact hOk, by rw [cut_hi _ (by omega), e]; exact c3, by rw [cut_hi _ (by omega), e]; exact c4⟩
  · have key : ∀ k, k < n + 1 → k ≠ i → ∃ a, va_up la (O i) none (O k) = some a := by
      intro k hk hki
      have hne : O k ≠ O i := fun e => hki (mono_inj hl.2.2 hk hi e)
      obtain ⟨a, ha⟩ := t3 k hk
      exact ⟨a, by simpa [va_up, hne] using ha⟩
    by_cases h : k < i
    · rw [cut_lo _ h]; exact key k (by omega) (by omega)
    · rw [cut_hi _ (by omega)]; exact key (k + 1) (by omega) (by omega)
theorem Q_strike {N n lv ql tw sd rt : Nat} (hN : 1000 ≤ N) (hcf : CFG lv ql tw sd rt) {O S F M : Nat → Nat} (hl : LOTS n O S F) {la : Nat → Option Nat} {ma pO pZ : Nat → Int32} {pF : Nat → Int64} {pL : List Nat} (hT : CTAB n O S F M la ma pL pO pZ pF) {mk mo ms : Nat → Int32} {mf : Nat → Int64} (hM : MARR n O S F M mk mo ms mf) (st sk ch ac pa ln : Int32) (hr hb pV pT pI pB : Nat → Int32) (y1 th : Int32) : (fX5_strike N y1 (nI n) la ma (nI lv) (nI ql) (nI tw) (nI sd) (nI rt) st sk ch ac pa ln hr hb pL pO pZ pF pV pT pI pB = some (.inl 2) ∧ fX6_strike N y1 (nI n) th mo ms mf = some (0, nI n, 1, mo, ms, mf)) ∨ ∃ n' O' S' F' q v mo' ms' mf', fX5_strike N y1 (nI n) la ma (nI lv) (nI ql) (nI tw) (nI sd) (nI rt) st sk ch ac pa ln hr hb pL pO pZ pF pV pT pI pB = some (.inr q) ∧ fX6_strike N y1 (nI n) th mo ms mf = some (v, nI n', 0, mo', ms', mf') ∧ q.1 = v ∧ q.2.1 = nI n' ∧ LOTS n' O' S' F' ∧ CTAB n' O' S' F' M q.2.2.1 ma pL pO pZ pF ∧ MARR n' O' S' F' M mk mo' ms' mf' ∧ DER lv ql tw sd rt n' O' S' F' M q.2.2.1 q.2.2.2.1 q.2.2.2.2.1 q.2.2.2.2.2.2.2.2.2.2.2.1 q.2.2.2.2.2.2.2.2.2.2.2.2.1 q.2.2.2.2.2.2.2.2.2.2.2.2.2.1 q.2.2.2.2.2.2.2.2.2.2.2.2.2.2 := by
  have hn := hl.1
  unfold fX5_strike fX6_strike fX5_strike_b16
  rw [order_eq, Option.bind_some]
  rcases r_place (N := N) (O := O) (mo := mo) hN hl.1 (fun i hi => (hM.1 i hi).1) y1 with ⟨i, hi, hy, -, z⟩ | ⟨hno, z⟩
  · right
    obtain ⟨n, rfl⟩ : ∃ q, n = q + 1 := ⟨n - 1, by omega⟩
    have hO := (hl.2.1 i hi).1
    obtain ⟨a, ha⟩ := hT.2.2 i hi
    have hT' := cut_tab hl hi hT
    have hl' := cut_lots (i := i) hl
    obtain ⟨r, r1, r2⟩ := c_judge (N := N) hN hcf hl' hT' st sk ch ac pa ln hr hb pV pT pI pB
    obtain ⟨mo', ms', mf', w1, w2⟩ := strike_walk (N := N) (n := n) (i := i) (O := O) (S := S) (F := F) (by omega) 0 (n - i) N i mo ms mf (by omega) (by omega) (Nat.le_refl _) (fun q hq => by rw [cut_lo _ hq, cut_lo _ hq, cut_lo _ hq]; exact hM.1 q (by omega)) (fun q _ hq => hM.1 q (by omega))
    subst hy
    refine ⟨n, cutAt i O, cutAt i S, cutAt i F, (nI (n + 1) - 1, nI (n + 1) - 1, va_up la (O i) none, r.1, r.2.1, r.2.2.1, r.2.2.2.1, r.2.2.2.2.1, r.2.2.2.2.2.1, r.2.2.2.2.2.2.1, r.2.2.2.2.2.2.2.1, r.2.2.2.2.2.2.2.2.1, r.2.2.2.2.2.2.2.2.2.1, r.2.2.2.2.2.2.2.2.2.2.1, r.2.2.2.2.2.2.2.2.2.2.2), nI n, mo', ms', mf', ?_, ?_, ?_, ?_, hl', hT', ⟨w2, hM.2⟩, r2⟩
    · rw [if10 (show ¬ (nI (O i) < 0 ∨ 199 < nI (O i)) from fun h => h.elim (nI_pos (by omega)) (fun q => by have := (nI_ltI (a := 199) (b := O i) (by omega) (by omega)).mp q; omega))]
      simp only [if_neg (show ¬ (1 : Int32) = 0 by decide), if_pos (okI_nI hO (show 200 < 2 ^ 31 by omega)), nI_clamp (show O i < 2 ^ 31 by omega), ha, Option.bind_some, r1]
    · rw [z, Option.bind_some, if_neg (fun q => by have := (nI_eq (a := i) (b := n + 1) (by omega) (by omega)).mp q; omega)]
      unfold fX6_strike_b20
      rw [if_pos (by decide), nI_pred]
      exact w1
    · exact nI_pred n
    · exact nI_pred n
  · left
    constructor
    · by_cases h : y1 < 0 ∨ 199 < y1
      · rw [if01 h]; rfl
      · rw [if10 h, if_neg (by decide)]
        obtain ⟨o, -, ho, rfl⟩ := rng (lo := 0) (hi := 199) (by omega) (by omega) h
        simp only [if_pos (okI_nI (show o < 200 by omega) (show 200 < 2 ^ 31 by omega)), nI_clamp (show o < 2 ^ 31 by omega), Option.bind_some]
        cases hla : la o with
        | none => rfl
        | some a =>
          obtain ⟨-, -, k, hk, hOk, -⟩ := hT.2.1 o (by omega) a hla
          exact absurd (by rw [hOk]) (hno k hk)
    · rw [z, Option.bind_some, if_pos rfl]
      unfold fX6_strike_b20
      rw [if_neg (by decide)]
theorem rec_walk {N n o s f : Nat} (hn : n < 60) (ho : o < 200) {O S F : Nat → Nat} (hO : ∀ i, i < n → O i < 200) (hO2 : ∀ i j, i < j → j < n → O i < O j) (hne : ∀ i, i < n → O i ≠ o) (th : Int32) : ∀ (j k : Nat) (mo ms : Nat → Int32) (mf : Nat → Int64), j ≤ n → j < k → (∀ q, j ≤ q → q < n → o < O q) → (∀ q, q < j → mo q = nI (O q) ∧ ms q = nI (S q) ∧ mf q = lN (F q)) → (∀ q, j < q → q ≤ n → mo q = nI (O (q - 1)) ∧ ms q = nI (S (q - 1)) ∧ mf q = lN (F (q - 1))) → ∃ p mo' ms' mf', p ≤ n ∧ (∀ q, q < p → O q < o) ∧ (∀ q, p ≤ q → q < n → o < O q) ∧ fX6_record_b73 N k (nI o) (nI s) (lN f) (nI j) (nI n) th mo ms mf = some (nI (n + 1), nI (n + 1), th, mo', ms', mf') ∧ ∀ q, q < n + 1 → mo' q = nI (putAt p o O q) ∧ ms' q = nI (putAt p s S q) ∧ mf' q = lN (putAt p f F q) := by
  intro j
  -- the place is found
  have fin : ∀ (j k : Nat) (mo ms : Nat → Int32) (mf : Nat → Int64), j ≤ n → (∀ q, j ≤ q → q < n → o < O q) → (∀ q, q < j → O q < o) → (∀ q, q < j → mo q = nI (O q) ∧ ms q = nI (S q) ∧ mf q = lN (F q)) → (∀ q, j < q → q ≤ n → mo q = nI (O (q - 1)) ∧ ms q = nI (S (q - 1)) ∧ mf q = lN (F (q - 1))) → ∃ p mo' ms' mf', p ≤ n ∧ (∀ q, q < p → O q < o) ∧ (∀ q, p ≤ q → q < n → o < O q) ∧ fX6_record_b145 N (nI o) (nI s) (lN f) (nI j) (nI n) th mo ms mf = some (nI (n + 1), nI (n + 1), th, mo', ms', mf') ∧ ∀ q, q < n + 1 → mo' q = nI (putAt p o O q) ∧ ms' q = nI (putAt p s S q) ∧ mf' q = lN (putAt p f F q) := by
    intro j k mo ms mf hj h1 h2 h3 h4
    have ok := okI_nI (n := j) (M := 60) (by omega) (by omega)
    refine ⟨j, _, _, _, hj, h2, h1, by unfold fX6_record_b145; rw [if_pos ok, if_pos ok, if_pos ok, nI_1, nI_clamp (by omega)], fun q hq => ?_⟩
    rcases Nat.lt_trichotomy q j with z | z | z
    · rw [ud_ne _ _ (by omega), ud_ne _ _ (by omega), pk_uLn (by omega), put_lo _ z, put_lo _ z, put_lo _ z]
      exact h3 q z
    · subst z
      rw [ud_at, ud_at, pk_uLs, put_at, put_at, put_at]
      exact ⟨rfl, rfl, rfl⟩
    · rw [ud_ne _ _ (by omega), ud_ne _ _ (by omega), pk_uLn (by omega), put_hi _ z, put_hi _ z, put_hi _ z]
      exact h4 q z (by omega)
  induction j with
  | zero =>
    intro k mo ms mf hj hk h1 h2 h3
    obtain ⟨k, rfl⟩ : ∃ q, k = q + 1 := ⟨k - 1, by omega⟩
    rw [fX6_record_b73, if_pos (show nI 0 ≤ (0 : Int32) by decide)]
    exact fin 0 k mo ms mf hj h1 (fun q hq => absurd hq (Nat.not_lt_zero _)) h2 h3
  | succ j ih =>
    intro k mo ms mf hj hk h1 h2 h3
    obtain ⟨k, rfl⟩ : ∃ q, k = q + 1 := ⟨k - 1, by omega⟩
    have o1 := okI_nI (n := j + 1) (M := 60) (by omega) (by omega)
    have o2 := okI_nI (n := j) (M := 60) (by omega) (by omega)
    obtain ⟨e1, e2, e3⟩ := h2 j (by omega)
    have hOj := hO j (by omega)
    rw [fX6_record_b73, if_neg (nI_nle (by omega) (by omega)), nI_pred]
    simp only [if_pos o2, if_pos o1, nI_clamp (show j < 2 ^ 31 by omega), nI_clamp (show j + 1 < 2 ^ 31 by omega), e1, e2, e3, nI_leI (show O j < 2 ^ 31 by omega) (show o < 2 ^ 31 by omega)]
    by_cases h : O j ≤ o
    · rw [if_pos h]
      refine fin (j + 1) k mo ms mf hj h1 (fun q hq => ?_) h2 h3
      have a1 := mono_le hO2 (show q ≤ j by omega) (by omega)
      have a2 := hne j (by omega)
      omega
    · rw [if_neg h, nI_dec1]
      refine ih k _ _ _ (by omega) (by omega) (fun q hq1 hq2 => ?_) (fun q hq => ?_) (fun q hq1 hq2 => ?_)
      · by_cases hqj : q = j
        · subst hqj; omega
        · exact h1 q (by omega) hq2
      · rw [ud_ne _ _ (by omega), ud_ne _ _ (by omega), pk_uLn (by omega)]
        exact h2 q (by omega)
      · by_cases hqj : q = j + 1
        · subst hqj
          rw [ud_at, ud_at, pk_uLs]
          exact ⟨rfl, rfl, rfl⟩
        · rw [ud_ne _ _ hqj, ud_ne _ _ hqj, pk_uLn hqj]
          exact h3 q (by omega) hq2
theorem put_lots {n p o s f : Nat} (hn : n < 60) (ho : o < 200) (hs2 : 2 ≤ s) (hs : s ≤ 5000) (hf : f < 2 ^ 50) {O S F : Nat → Nat} (hl : LOTS n O S F) (hp : p ≤ n) (h1 : ∀ q, q < p → O q < o) (h2 : ∀ q, p ≤ q → q < n → o < O q) : LOTS (n + 1) (putAt p o O) (putAt p s S) (putAt p f F) := by
  obtain ⟨a1, a2, a3⟩ := hl
  refine ⟨by omega, fun k hk => ?_, fun a b hab hb => ?_⟩
  · rcases Nat.lt_trichotomy k p with z | z | z
    · rw [put_lo _ z, put_lo _ z, put_lo _ z]; exact a2 k (by omega)
    · subst z
      rw [put_at, put_at, put_at]; exact ⟨ho, hs2, hs, hf⟩
    · rw [put_hi _ z, put_hi _ z, put_hi _ z]; exact a2 (k - 1) (by omega)
  · rcases Nat.lt_trichotomy b p with z | z | z
    · rw [put_lo _ z, put_lo _ (by omega)]; exact a3 a b hab (by omega)
    · subst z
      rw [put_at, put_lo _ hab]; exact h1 a hab
    · rw [put_hi _ z]
      rcases Nat.lt_trichotomy a p with y | y | y
      · rw [put_lo _ y]
        exact Nat.lt_trans (h1 a y) (h2 (b - 1) (by omega) (by omega))
      · subst y
        rw [put_at]; exact h2 (b - 1) (by omega) (by omega)
      · rw [put_hi _ y]; exact a3 (a - 1) (b - 1) (by omega) (by omega)
theorem put_tab {n p o s f q : Nat} (hn : n < 60) (ho : o < 200) {O S F M : Nat → Nat} (hl : LOTS n O S F) (hp : p ≤ n) (h1 : ∀ q, q < p → O q < o) (h2 : ∀ q, p ≤ q → q < n → o < O q) {la : Nat → Option Nat} {ma pO pZ : Nat → Int32} {pF : Nat → Int64} {pL : List Nat} (hq : q ∉ pL) (hT : CTAB n O S F M la ma pL pO pZ pF) : CTAB (n + 1) (putAt p o O) (putAt p s S) (putAt p f F) M (va_up la o (some q)) ma (pL ++ [q]) (va_up pO q (nI o)) (va_up pZ q (nI s)) (va_up pF q (lN f)) := by
  obtain ⟨t1, t2, t3⟩ := hT
  have hne : ∀ k, k < n → O k ≠ o := fun k hk e => by
    rcases Nat.lt_or_ge k p with z | z
    · have := h1 k z; omega
    · have := h2 k z hk; omega
  refine ⟨t1, fun o' ho' a ha => ?_, fun k hk => ?_⟩
  · by_cases hoo : o' = o
    · subst hoo
      have e : q = a := by simpa [va_up] using ha
      subst e
      refine ⟨by simp, by rw [up_at]; rfl, p, by omega, put_at _ _ _, by rw [up_at, put_at]; rfl, by rw [put_at]; simp [va_up]; rfl⟩
    · have ha' : la o' = some a := by simpa [va_up, hoo] using ha
      obtain ⟨c1, c2, k, hk, hOk, c3, c4⟩ := t2 o' ho' a ha'
      have haq : a ≠ q := fun e => hq (e ▸ c1)
      refine ⟨by simp [c1], by rw [up_ne _ _ haq]; exact c2, ?_⟩
      rw [up_ne _ _ haq, show va_up pF q (lN f) a = pF a by simp [va_up, haq]]
      by_cases h : k < p
      · exact ⟨k, by omega, by rw [put_lo _ h]; exact hOk, by rw [put_lo _ h]; exact c3, by rw [put_lo _ h]; exact c4⟩
      · exact ⟨k + 1, by omega, by rw [put_hi _ (by omega)]; exact hOk, by rw [put_hi _ (by omega)]; exact c3, by rw [put_hi _ (by omega)]; exact c4⟩
  · have key : ∀ k, k < n → ∃ a, va_up la o (some q) (O k) = some a := by
      intro k hk
      obtain ⟨a, ha⟩ := t3 k hk
      exact ⟨a, by simpa [va_up, hne k hk] using ha⟩
    rcases Nat.lt_trichotomy k p with z | z | z
    · rw [put_lo _ z]; exact key k (by omega)
    · subst z
      rw [put_at]; exact ⟨q, by simp [va_up]⟩
    · rw [put_hi _ z]; exact key (k - 1) (by omega)
theorem Q_record {N n lv ql tw sd rt : Nat} (hN : 1000 ≤ N) (hcf : CFG lv ql tw sd rt) {O S F M : Nat → Nat} (hl : LOTS n O S F) {la : Nat → Option Nat} {ma pO pZ : Nat → Int32} {pF : Nat → Int64} {pL : List Nat} (hT : CTAB n O S F M la ma pL pO pZ pF) {mk mo ms : Nat → Int32} {mf : Nat → Int64} (hM : MARR n O S F M mk mo ms mf) (st sk ch ac pa ln : Int32) (hr hb pV pT pI pB : Nat → Int32) (y1 y2 th : Int32) (y3 : Int64) : (fX5_record N y1 y2 y3 (nI n) la ma (nI lv) (nI ql) (nI tw) (nI sd) (nI rt) st sk ch ac pa ln hr hb pL pO pZ pF pV pT pI pB = some (.inl 1) ∧ ∃ v, fX6_record N y1 y2 y3 (nI n) th mo ms mf = some (v, nI n, 1, mo, ms, mf)) ∨ (fX5_record N y1 y2 y3 (nI n) la ma (nI lv) (nI ql) (nI tw) (nI sd) (nI rt) st sk ch ac pa ln hr hb pL pO pZ pF pV pT pI pB = some (.inl 2) ∧ ∃ v, fX6_record N y1 y2 y3 (nI n) th mo ms mf = some (v, nI n, 2, mo, ms, mf)) ∨ ∃ n' O' S' F' g x mo' ms' mf', fX5_record N y1 y2 y3 (nI n) la ma (nI lv) (nI ql) (nI tw) (nI sd) (nI rt) st sk ch ac pa ln hr hb pL pO pZ pF pV pT pI pB = some (.inr g) ∧ fX6_record N y1 y2 y3 (nI n) th mo ms mf = some (x, nI n', 0, mo', ms', mf') ∧ LOTS n' O' S' F' ∧ MARR n' O' S' F' M mk mo' ms' mf' ∧ ∀ q, q ∉ pL → ∃ v, g q = some v ∧ (v.1) = x ∧ (v.2.1) = nI n' ∧ CTAB n' O' S' F' M (v.2.2.1) ma (v.2.2.2.2.2.2.2.2.2.2.2.1) (v.2.2.2.2.2.2.2.2.2.2.2.2.1) (v.2.2.2.2.2.2.2.2.2.2.2.2.2.1) (v.2.2.2.2.2.2.2.2.2.2.2.2.2.2.1) ∧ DER lv ql tw sd rt n' O' S' F' M (v.2.2.1) (v.2.2.2.1) (v.2.2.2.2.1) (v.2.2.2.2.2.2.2.2.2.2.2.2.2.2.2.1) (v.2.2.2.2.2.2.2.2.2.2.2.2.2.2.2.2.1) (v.2.2.2.2.2.2.2.2.2.2.2.2.2.2.2.2.2.1) (v.2.2.2.2.2.2.2.2.2.2.2.2.2.2.2.2.2.2) := by
  have hn := hl.1
  unfold fX5_record fX6_record fX5_record_b21 fX6_record_b34 fX5_record_b49 fX6_record_b61 fX6_fails
  simp only [order_eq, in_eq, lot_eq, fnd_c, fnd_r, Option.bind_some]
  by_cases h : y1 < 0 ∨ 199 < y1
  · left
    rw [if01 h]
    exact ⟨rfl, _, rfl⟩
  by_cases h' : y2 < 2 ∨ 5000 < y2
  · left
    rw [if10 h, if01 h']
    exact ⟨rfl, _, rfl⟩
  by_cases h'' : y3.toInt < 0 ∨ 2 ^ 50 ≤ y3.toInt
  · left
    rw [if10 h, if10 h', if01 h'']
    exact ⟨rfl, _, rfl⟩
  right
  rw [if10 h, if10 h', if10 h'']
  obtain ⟨o, -, ho, rfl⟩ := rng (lo := 0) (hi := 199) (by omega) (by omega) h
  obtain ⟨s, hs2, hs, rfl⟩ := rng (lo := 2) (hi := 5000) (by omega) (by omega) h'
  obtain ⟨f, hf, rfl⟩ := fnd_of h''
  have ok := okI_nI (n := o) (M := 200) (by omega) (by omega)
  simp only [if_neg (show ¬ (1 : Int32) = 0 by decide), if_pos ok, nI_clamp (show o < 2 ^ 31 by omega), Option.bind_some]
  rcases r_place (N := N) (O := O) (mo := mo) hN hl.1 (fun i hi => (hM.1 i hi).1) (nI o) with ⟨i, hi, hy, -, z⟩ | ⟨hno, z⟩
  · left
    have hOi := (nI_eq (a := o) (b := O i) (by omega) (by have := (hl.2.1 i hi).1; omega)).mp hy
    obtain ⟨a, ha⟩ := hT.2.2 i hi
    have ha' : la o = some a := by rw [hOi]; exact ha
    rw [ha', z, Option.bind_some, if_pos (nI_lt hi (by omega))]
    exact ⟨rfl, _, rfl⟩
  · have hne : ∀ i, i < n → O i ≠ o := fun i hi e => hno i hi (by rw [e])
    have hla : la o = none := by
      cases hla : la o with
      | none => rfl
      | some a =>
        obtain ⟨-, -, k, hk, hOk, -⟩ := hT.2.1 o (by omega) a hla
        exact absurd hOk (hne k hk)
    rw [hla, z, Option.bind_some, if_neg (nI_nlt (Nat.le_refl _) (by omega))]
    dsimp only
    have e60 : (nI n = 60) ↔ n = 60 := nI_eq (b := 60) (by omega) (by omega)
    have l60 : (nI n < 60) ↔ n < 60 := nI_ltI (b := 60) (by omega) (by omega)
    simp only [e60, l60]
    by_cases h60 : n = 60
    · left
      rw [if_neg (by omega), if_pos h60]
      exact ⟨rfl, _, rfl⟩
    · right
      rw [if_pos (show n < 60 by omega), if_neg h60]
      obtain ⟨p, mo', ms', mf', p1, p2, p3, p4, p5⟩ := rec_walk (N := N) (o := o) (s := s) (f := f) (S := S) (F := F) (show n < 60 by omega) (by omega) (fun i hi => (hl.2.1 i hi).1) hl.2.2 hne 0 n N mo ms mf (Nat.le_refl _) (by omega) (fun q h1 h2 => by omega) (fun q hq => hM.1 q hq) (fun q h1 h2 => by omega)
      have hl' := put_lots (s := s) (f := f) (show n < 60 by omega) (show o < 200 by omega) hs2 hs hf hl p1 p2 p3
      refine ⟨n + 1, putAt p o O, putAt p s S, putAt p f F, _, nI (n + 1), mo', ms', mf', rfl, p4, hl', ⟨p5, hM.2⟩, fun q hq => ?_⟩
      have hT' := put_tab (s := s) (f := f) (show n < 60 by omega) (show o < 200 by omega) hl p1 p2 p3 hq hT
      obtain ⟨r, r1, r2⟩ := c_judge (N := N) hN hcf hl' hT' st sk ch ac pa ln hr hb (va_up pV q 0) (va_up pT q 0) (va_up pI q 0) (va_up pB q 0)
      unfold fX3_init
      rw [Option.bind_some, if_pos (by simp)]
      dsimp only
      rw [r1, Option.bind_some]
      exact ⟨(nI n + 1, nI n + 1, va_up la o (some q), r.1, r.2.1, r.2.2.1, r.2.2.2.1, r.2.2.2.2.1, r.2.2.2.2.2.1, r.2.2.2.2.2.2.1, r.2.2.2.2.2.2.2.1, pL ++ [q], va_up pO q (nI o), va_up pZ q (nI s), va_up pF q (lN f), r.2.2.2.2.2.2.2.2.1, r.2.2.2.2.2.2.2.2.2.1, r.2.2.2.2.2.2.2.2.2.2.1, r.2.2.2.2.2.2.2.2.2.2.2), rfl, nI_1 n, nI_1 n, hT', r2⟩
