theorem mono_le {n : Nat} {O : Nat → Nat} (h : ∀ i j, i < j → j < n → O i < O j) {i j : Nat} (hij : i ≤ j) (hj : j < n) : O i ≤ O j := by
  rcases Nat.lt_or_ge i j with q | q
  · exact Nat.le_of_lt (h i j q hj)
  · rw [show i = j by omega]; exact Nat.le_refl _
theorem mono_inj {n : Nat} {O : Nat → Nat} (h : ∀ i j, i < j → j < n → O i < O j) {i j : Nat} (hi : i < n) (hj : j < n) (e : O i = O j) : i = j := by
  rcases Nat.lt_trichotomy i j with q | q | q
  · have := h i j q hj; omega
  · exact q
  · have := h j i q hi; omega
/-- a row without its place i -/
def cutAt (i : Nat) (f : Nat → Nat) (k : Nat) : Nat := if k < i then f k else f (k + 1)
theorem cut_lo {i k : Nat} (f : Nat → Nat) (h : k < i) : cutAt i f k = f k := if_pos h
theorem cut_hi {i k : Nat} (f : Nat → Nat) (h : i ≤ k) : cutAt i f k = f (k + 1) := if_neg (by omega)
/-- a row with v put in at place p -/
def putAt (p v : Nat) (f : Nat → Nat) (k : Nat) : Nat := if k < p then f k else if k = p then v else f (k - 1)
theorem put_lo {p v k : Nat} (f : Nat → Nat) (h : k < p) : putAt p v f k = f k := if_pos h
theorem put_at (p v : Nat) (f : Nat → Nat) : putAt p v f p = v := by unfold putAt; rw [if_neg (by omega), if_pos rfl]
theorem put_hi {p v k : Nat} (f : Nat → Nat) (h : p < k) : putAt p v f k = f (k - 1) := by unfold putAt; rw [if_neg (by omega), if_neg (by omega)]
theorem cut_lots {n i : Nat} {O S F : Nat → Nat} (hl : LOTS (n + 1) O S F) : LOTS n (cutAt i O) (cutAt i S) (cutAt i F) := by
  obtain ⟨h1, h2, h3⟩ := hl
  refine ⟨by omega, fun k hk => ?_, fun a b hab hb => ?_⟩
  · by_cases h : k < i
    · rw [cut_lo _ h, cut_lo _ h, cut_lo _ h]; exact h2 k (by omega)
    · rw [cut_hi _ (by omega), cut_hi _ (by omega), cut_hi _ (by omega)]; exact h2 (k + 1) (by omega)
  · by_cases h : a < i
    · by_cases h' : b < i
      · rw [cut_lo _ h, cut_lo _ h']; exact h3 a b hab (by omega)
      · rw [cut_lo _ h, cut_hi _ (by omega)]; exact h3 a (b + 1) (by omega) (by omega)
    · rw [cut_hi _ (by omega), cut_hi _ (by omega)]; exact h3 (a + 1) (b + 1) (by omega) (by omega)
theorem cut_tab {n i : Nat} {O S F M : Nat → Nat} (hl : LOTS (n + 1) O S F) (hi : i < n + 1) {la : Nat → Option Nat} {ma pO pZ : Nat → Int32} {pF : Nat → Int64} {pL : List Nat} (hT : CTAB (n + 1) O S F M la ma pL pO pZ pF) : CTAB n (cutAt i O) (cutAt i S) (cutAt i F) M (va_up la (O i) none) ma pL pO pZ pF := by
  obtain ⟨t1, t2, t3⟩ := hT
  refine ⟨t1, fun o ho a ha => ?_, fun k hk => ?_⟩
  · by_cases hoi : o = O i
    · simp [va_up, hoi] at ha
    · have ha' : la o = some a := by simpa [va_up, hoi] using ha
      obtain ⟨c1, c2, k, hk, hOk, c3, c4⟩ := t2 o ho a ha'
      have hki : k ≠ i := fun e => hoi (by rw [← hOk, e])
      refine ⟨c1, c2, ?_⟩
      by_cases h : k < i
      · exact ⟨k, by omega, by rw [cut_lo _ h]; exact hOk, by rw [cut_lo _ h]; exact c3, by rw [cut_lo _ h]; exact c4⟩
      · have e : k - 1 + 1 = k := by omega
        exact ⟨k - 1, by omega, by rw [cut_hi _ (by omega), e]; exact hOk, by rw [cut_hi _ (by omega), e]; exact c3, by rw [cut_hi _ (by omega), e]; exact c4⟩
  · have key : ∀ k, k < n + 1 → k ≠ i → ∃ a, va_up la (O i) none (O k) = some a := by
      intro k hk hki
      have hne : O k ≠ O i := fun e => hki (mono_inj hl.2.2 hk hi e)
      obtain ⟨a, ha⟩ := t3 k hk
      exact ⟨a, by simpa [va_up, hne] using ha⟩
    by_cases h : k < i
    · rw [cut_lo _ h]; exact key k (by omega) (by omega)
    · rw [cut_hi _ (by omega)]; exact key (k + 1) (by omega) (by omega)
theorem put_lots {n p o s f : Nat} (hn : n < 60) (ho : o < 200) (hs2 : 2 ≤ s) (hs : s ≤ 5000) (hf : f < 2 ^ 50) {O S F : Nat → Nat} (hl : LOTS n O S F) (hp : p ≤ n) (h1 : ∀ q, q < p → O q < o) (h2 : ∀ q, p ≤ q → q < n → o < O q) : LOTS (n + 1) (putAt p o O) (putAt p s S) (putAt p f F) := by
  obtain ⟨a1, a2, a3⟩ := hl
  refine ⟨by omega, fun k hk => ?_, fun a b hab hb => ?_⟩
  · rcases Nat.lt_trichotomy k p with z | z | z
    · rw [put_lo _ z, put_lo _ z, put_lo _ z]; exact a2 k (by omega)
    · subst z
      rw [put_at, put_at, put_at]; exact ⟨ho, hs2, hs, hf⟩
    · rw [put_hi _ z, put_hi _ z, put_hi _ z]; exact a2 (k - 1) (by omega)
  · rcases Nat.lt_trichotomy b p with z | z | z
    · rw [put_lo _ z, put_lo _ (by omega)]; exact a3 a b hab (by omega)
    · subst z
      rw [put_at, put_lo _ hab]; exact h1 a hab
    · rw [put_hi _ z]
      rcases Nat.lt_trichotomy a p with y | y | y
      · rw [put_lo _ y]
        exact Nat.lt_trans (h1 a y) (h2 (b - 1) (by omega) (by omega))
      · subst y
        rw [put_at]; exact h2 (b - 1) (by omega) (by omega)
      · rw [put_hi _ y]; exact a3 (a - 1) (b - 1) (by omega) (by omega)
theorem put_tab {n p o s f q : Nat} (hn : n < 60) (ho : o < 200) {O S F M : Nat → Nat} (hl : LOTS n O S F) (hp : p ≤ n) (h1 : ∀ q, q < p → O q < o) (h2 : ∀ q, p ≤ q → q < n → o < O q) {la : Nat → Option Nat} {ma pO pZ : Nat → Int32} {pF : Nat → Int64} {pL : List Nat} (hq : q ∉ pL) (hT : CTAB n O S F M la ma pL pO pZ pF) : CTAB (n + 1) (putAt p o O) (putAt p s S) (putAt p f F) M (va_up la o (some q)) ma (pL ++ [q]) (va_up pO q (nI o)) (va_up pZ q (nI s)) (va_up pF q (lN f)) := by
  obtain ⟨t1, t2, t3⟩ := hT
  have hne : ∀ k, k < n → O k ≠ o := fun k hk e => by
    rcases Nat.lt_or_ge k p with z | z
    · have := h1 k z; omega
    · have := h2 k z hk; omega
  refine ⟨t1, fun o' ho' a ha => ?_, fun k hk => ?_⟩
  · by_cases hoo : o' = o
    · subst hoo
      have e : q = a := by simpa [va_up] using ha
      subst e
      refine ⟨by simp, by rw [up_at]; rfl, p, by omega, put_at _ _ _, by rw [up_at, put_at]; rfl, by rw [put_at]; simp [va_up]; rfl⟩
    · have ha' : la o' = some a := by simpa [va_up, hoo] using ha
      obtain ⟨c1, c2, k, hk, hOk, c3, c4⟩ := t2 o' ho' a ha'
      have haq : a ≠ q := fun e => hq (e ▸ c1)
      refine ⟨by simp [c1], by rw [up_ne _ _ haq]; exact c2, ?_⟩
      rw [up_ne _ _ haq, show va_up pF q (lN f) a = pF a by simp [va_up, haq]]
      by_cases h : k < p
      · exact ⟨k, by omega, by rw [put_lo _ h]; exact hOk, by rw [put_lo _ h]; exact c3, by rw [put_lo _ h]; exact c4⟩
      · exact ⟨k + 1, by omega, by rw [put_hi _ (by omega)]; exact hOk, by rw [put_hi _ (by omega)]; exact c3, by rw [put_hi _ (by omega)]; exact c4⟩
  · have key : ∀ k, k < n → ∃ a, va_up la o (some q) (O k) = some a := by
      intro k hk
      obtain ⟨a, ha⟩ := t3 k hk
      exact ⟨a, by simpa [va_up, hne k hk] using ha⟩
    rcases Nat.lt_trichotomy k p with z | z | z
    · rw [put_lo _ z]; exact key k (by omega)
    · subst z
      rw [put_at]; exact ⟨q, by simp [va_up]⟩
    · rw [put_hi _ z]; exact key (k - 1) (by omega)
