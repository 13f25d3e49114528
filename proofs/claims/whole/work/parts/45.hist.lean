def spFl (x : Nat × Nat) : Nat := if x.1 = 0 then 1 else 0
def HC (hr hb : Nat → Int32) : List (Nat × Nat) → Prop
  | [] => True
  | x :: t => hr t.length = nI (spFl x) ∧ hb t.length = nI x.2 ∧ HC hr hb t
def HM (mr mv mb : Nat → Int32) : List (Nat × Nat) → Prop
  | [] => True
  | x :: t => (∃ p, p < 60 ∧ mr t.length = nI p ∧ mv p = nI x.1 ∧ mb p = nI x.2) ∧ HM mr mv mb t
/-- verdicts are 0 or 1, bad items at most 50 -/
def HB : List (Nat × Nat) → Prop
  | [] => True
  | x :: t => (x.1 ≤ 1 ∧ x.2 ≤ 50) ∧ HB t
theorem spRef_le : ∀ (n : Nat) (h : List (Nat × Nat)), spRef n h ≤ h.length
  | 0, _ => Nat.zero_le _
  | n + 1, [] => Nat.zero_le _
  | n + 1, x :: t => by
    have := spRef_le n t
    show (if x.1 = 0 then 1 else 0) + spRef n t ≤ t.length + 1
    split <;> omega
theorem spSum_le : ∀ (n : Nat) (h : List (Nat × Nat)), HB h → spSum n h ≤ 50 * h.length
  | 0, _, _ => Nat.zero_le _
  | n + 1, [], _ => Nat.zero_le _
  | n + 1, x :: t, hb => by
    have := spSum_le n t hb.2
    have := hb.1.2
    show x.2 + spSum n t ≤ 50 * (t.length + 1)
    omega
theorem spRef_all : ∀ (n : Nat) (h : List (Nat × Nat)), h.length ≤ n → spRef n h = spRef h.length h
  | 0, h, e => by rw [show h.length = 0 by omega]
  | n + 1, [], _ => rfl
  | n + 1, x :: t, e => by
    have e' : t.length ≤ n := Nat.le_of_succ_le_succ e
    show (if x.1 = 0 then 1 else 0) + spRef n t = (if x.1 = 0 then 1 else 0) + spRef t.length t
    rw [spRef_all n t e']
theorem spSum_all : ∀ (n : Nat) (h : List (Nat × Nat)), h.length ≤ n → spSum n h = spSum h.length h
  | 0, h, e => by rw [show h.length = 0 by omega]
  | n + 1, [], _ => rfl
  | n + 1, x :: t, e => by
    have e' : t.length ≤ n := Nat.le_of_succ_le_succ e
    show x.2 + spSum n t = x.2 + spSum t.length t
    rw [spSum_all n t e']
/-- the oldest of the n + 1 newest, and what the class keeps of it -/
theorem HC_split (hr hb : Nat → Int32) : ∀ (h : List (Nat × Nat)) (n : Nat), HC hr hb h → n < h.length → ∃ x : Nat × Nat, hr (h.length - 1 - n) = nI (spFl x) ∧ hb (h.length - 1 - n) = nI x.2 ∧ spRef (n + 1) h = spRef n h + spFl x ∧ spSum (n + 1) h = spSum n h + x.2
  | [], n, _, hn => absurd hn (Nat.not_lt_zero _)
  | x :: t, 0, hc, _ => by
    refine ⟨x, ?_, ?_, ?_, ?_⟩
    · exact hc.1
    · exact hc.2.1
    · show (if x.1 = 0 then 1 else 0) + spRef 0 t = 0 + spFl x
      unfold spFl; rw [show spRef 0 t = 0 by cases t <;> rfl]; omega
    · show x.2 + spSum 0 t = 0 + x.2
      rw [show spSum 0 t = 0 by cases t <;> rfl]; omega
  | x :: t, n + 1, hc, hn => by
    have hn' : n < t.length := Nat.lt_of_succ_lt_succ hn
    obtain ⟨y, h1, h2, h3, h4⟩ := HC_split hr hb t n hc.2.2 hn'
    have e : (x :: t).length - 1 - (n + 1) = t.length - 1 - n := by show t.length + 1 - 1 - (n + 1) = _; omega
    refine ⟨y, by rw [e]; exact h1, by rw [e]; exact h2, ?_, ?_⟩
    · show (if x.1 = 0 then 1 else 0) + spRef (n + 1) t = (if x.1 = 0 then 1 else 0) + spRef n t + spFl y
      omega
    · show x.2 + spSum (n + 1) t = x.2 + spSum n t + y.2
      omega
theorem spFl_le (x : Nat × Nat) : spFl x ≤ 1 := by unfold spFl; split <;> omega
theorem c_ref_b {N : Nat} {hr hb : Nat → Int32} {h : List (Nat × Nat)} (hc : HC hr hb h) (hl : h.length ≤ 60) : ∀ (d k c : Nat), d ≤ h.length → d < k → fX2_refusedInLast_b24 N (nI h.length) hr k (nI c) (nI (h.length - d)) = some (nI (c + spRef d h)) := by
  intro d
  induction d with
  | zero =>
    intro k c _ hk
    obtain ⟨k, rfl⟩ : ∃ q, k = q + 1 := ⟨k - 1, by omega⟩
    rw [fX2_refusedInLast_b24, if_neg (nI_pos (by omega)), if_pos (nI_le (by omega) (by omega)), show spRef 0 h = 0 by cases h <;> rfl, Nat.add_zero]
  | succ d ih =>
    intro k c hd hk
    obtain ⟨k, rfl⟩ : ∃ q, k = q + 1 := ⟨k - 1, by omega⟩
    obtain ⟨x, h1, -, h3, -⟩ := HC_split hr hb h d hc hd
    have hx := spFl_le x
    rw [show h.length - 1 - d = h.length - (d + 1) by omega] at h1
    rw [fX2_refusedInLast_b24, if_neg (nI_pos (by omega)), if_neg (nI_ge (by omega) (by omega)), if_neg (show ¬ (60 : Int32) ≤ nI (h.length - (d + 1)) from nI_ge (b := 60) (by omega) (by omega)), if_pos (okI_nI (by omega) (by omega)), nI_clamp (by omega), h1]
    unfold fX2_refusedInLast_b58
    have e1 : nI (h.length - (d + 1)) + 1 = nI (h.length - d) := by rw [nI_1]; congr 1; omega
    have e2 : nI c + 1 = nI (c + 1) := nI_1 c
    simp only [nI_zer (spFl x) (by omega)]
    rw [e1, e2, h3]
    by_cases hz : spFl x = 0
    · rw [if_pos hz, ih k c (by omega) (by omega), hz, Nat.add_zero]
    · rw [if_neg hz, ih k (c + 1) (by omega) (by omega), show spFl x = 1 by omega]
      congr 2
      omega
theorem c_ref {N : Nat} (hN : 100 ≤ N) {hr hb : Nat → Int32} {h : List (Nat × Nat)} (hc : HC hr hb h) (hl : h.length ≤ 60) {w : Nat} (hw : w ≤ 60) : fX2_refusedInLast N (nI w) (nI h.length) hr = some (nI (spRef w h)) := by
  unfold fX2_refusedInLast fX2_refusedInLast_b20
  simp only [nI_leI (show h.length < 2 ^ 31 by omega) (show w < 2 ^ 31 by omega)]
  by_cases hle : h.length ≤ w
  · rw [if_pos hle]
    have := c_ref_b (N := N) hc hl h.length N 0 (Nat.le_refl _) (by omega)
    rw [Nat.sub_self, Nat.zero_add, ← spRef_all w h hle] at this
    exact this
  · rw [if_neg hle, nI_sub (by omega)]
    have := c_ref_b (N := N) hc hl w N 0 (by omega) (by omega)
    rw [Nat.zero_add] at this
    exact this
theorem c_sum_b {N : Nat} {hr hb : Nat → Int32} {h : List (Nat × Nat)} (hc : HC hr hb h) (hl : h.length ≤ 60) : ∀ (d k c : Nat), d ≤ h.length → d < k → fX2_badInLast_b24 N (nI h.length) hb k (nI c) (nI (h.length - d)) = some (nI (c + spSum d h)) := by
  intro d
  induction d with
  | zero =>
    intro k c _ hk
    obtain ⟨k, rfl⟩ : ∃ q, k = q + 1 := ⟨k - 1, by omega⟩
    rw [fX2_badInLast_b24, if_neg (nI_pos (by omega)), if_pos (nI_le (by omega) (by omega)), show spSum 0 h = 0 by cases h <;> rfl, Nat.add_zero]
  | succ d ih =>
    intro k c hd hk
    obtain ⟨k, rfl⟩ : ∃ q, k = q + 1 := ⟨k - 1, by omega⟩
    obtain ⟨x, -, h2, -, h4⟩ := HC_split hr hb h d hc hd
    rw [show h.length - 1 - d = h.length - (d + 1) by omega] at h2
    have e1 : nI (h.length - (d + 1)) + 1 = nI (h.length - d) := by rw [nI_1]; congr 1; omega
    rw [fX2_badInLast_b24, if_neg (nI_pos (by omega)), if_neg (nI_ge (by omega) (by omega)), if_neg (show ¬ (60 : Int32) ≤ nI (h.length - (d + 1)) from nI_ge (b := 60) (by omega) (by omega)), if_pos (okI_nI (by omega) (by omega)), nI_clamp (by omega), h2, nI_add, Option.bind_some, e1, ih k (c + x.2) (by omega) (by omega), h4]
    congr 2
    omega
theorem c_sum {N : Nat} (hN : 100 ≤ N) {hr hb : Nat → Int32} {h : List (Nat × Nat)} (hc : HC hr hb h) (hl : h.length ≤ 60) {w : Nat} (hw : w ≤ 60) : fX2_badInLast N (nI w) (nI h.length) hb = some (nI (spSum w h)) := by
  unfold fX2_badInLast fX2_badInLast_b20
  simp only [nI_leI (show h.length < 2 ^ 31 by omega) (show w < 2 ^ 31 by omega)]
  by_cases hle : h.length ≤ w
  · rw [if_pos hle]
    have := c_sum_b (N := N) hc hl h.length N 0 (Nat.le_refl _) (by omega)
    rw [Nat.sub_self, Nat.zero_add, ← spSum_all w h hle] at this
    exact this
  · rw [if_neg hle, nI_sub (by omega)]
    have := c_sum_b (N := N) hc hl w N 0 (by omega) (by omega)
    rw [Nat.zero_add] at this
    exact this
