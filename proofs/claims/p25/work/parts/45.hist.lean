def spFl (x : Nat × Nat) : Nat := if x.1 = 0 then 1 else 0
def HC (hr hb : Nat → Int32) : List (Nat × Nat) → Prop
  | [] => True
  | x :: t => hr t.length = nI (spFl x) ∧ hb t.length = nI x.2 ∧ HC hr hb t
def HM (mr mv mb : Nat → Int32) : List (Nat × Nat) → Prop
  | [] => True
  | x :: t => (∃ p, p < 60 ∧ mr t.length = nI p ∧ mv p = nI x.1 ∧ mb p = nI x.2) ∧ HM mr mv mb t
/-- verdicts are 0 or 1, bad items at most 50 -/
def HB : List (Nat × Nat) → Prop
  | [] => True
  | x :: t => (x.1 ≤ 1 ∧ x.2 ≤ 50) ∧ HB t
theorem spRef_le : ∀ (n : Nat) (h : List (Nat × Nat)), spRef n h ≤ h.length
  | 0, _ => Nat.zero_le _
  | n + 1, [] => Nat.zero_le _
  | n + 1, x :: t => by
    have := spRef_le n t
    show (if x.1 = 0 then 1 else 0) + spRef n t ≤ t.length + 1
    split <;> omega
theorem spSum_le : ∀ (n : Nat) (h : List (Nat × Nat)), HB h → spSum n h ≤ 50 * h.length
  | 0, _, _ => Nat.zero_le _
  | n + 1, [], _ => Nat.zero_le _
  | n + 1, x :: t, hb => by
    have := spSum_le n t hb.2
    have := hb.1.2
    show x.2 + spSum n t ≤ 50 * (t.length + 1)
    omega
theorem spRef_all : ∀ (n : Nat) (h : List (Nat × Nat)), h.length ≤ n → spRef n h = spRef h.length h
  | 0, h, e => by rw [show h.length = 0 by omega]
  | n + 1, [], _ => rfl
  | n + 1, x :: t, e => by
    have e' : t.length ≤ n := Nat.le_of_succ_le_succ e
    show (if x.1 = 0 then 1 else 0) + spRef n t = (if x.1 = 0 then 1 else 0) + spRef t.length t
    rw [spRef_all n t e']
theorem spSum_all : ∀ (n : Nat) (h : List (Nat × Nat)), h.length ≤ n → spSum n h = spSum h.length h
  | 0, h, e => by rw [show h.length = 0 by omega]
  | n + 1, [], _ => rfl
  | n + 1, x :: t, e => by
    have e' : t.length ≤ n := Nat.le_of_succ_le_succ e
    show x.2 + spSum n t = x.2 + spSum t.length t
    rw [spSum_all n t e']
/-- the oldest of the n + 1 newest, and what the class keeps of it -/
theorem HC_split (hr hb : Nat → Int32) : ∀ (h : List (Nat × Nat)) (n : Nat), HC hr hb h → n < h.length → ∃ x : Nat × Nat, hr (h.length - 1 - n) = nI (spFl x) ∧ hb (h.length - 1 - n) = nI x.2 ∧ spRef (n + 1) h = spRef n h + spFl x ∧ spSum (n + 1) h = spSum n h + x.2
  | [], n, _, hn => absurd hn (Nat.not_lt_zero _)
  | x :: t, 0, hc, _ => by
    refine ⟨x, ?_, ?_, ?_, ?_⟩
    · exact hc.1
    · exact hc.2.1
    · show (if x.1 = 0 then 1 else 0) + spRef 0 t = 0 + spFl x
      unfold spFl; rw [show spRef 0 t = 0 by cases t <;> rfl]; omega
    · show x.2 + spSum 0 t = 0 + x.2
      rw [show spSum 0 t = 0 by cases t <;> rfl]; omega
  | x :: t, n + 1, hc, hn => by
    have hn' : n < t.length := Nat.lt_of_succ_lt_succ hn
    obtain ⟨y, h1, h2, h3, h4⟩ := HC_split hr hb t n hc.2.2 hn'
    have e : (x :: t).length - 1 - (n + 1) = t.length - 1 - n := by show t.length + 1 - 1 - (n + 1) = _; omega
    refine ⟨y, by rw [e]; exact h1, by rw [e]; exact h2, ?_, ?_⟩
    · show (if x.1 = 0 then 1 else 0) + spRef (n + 1) t = (if x.1 = 0 then 1 else 0) + spRef n t + spFl y
      omega
    · show x.2 + spSum (n + 1) t = x.2 + spSum n t + y.2
      omega
theorem spFl_le (x : Nat × Nat) : spFl x ≤ 1 := by unfold spFl; split <;> omega
theorem c_ref_b {N : Nat} {hr hb : Nat → Int32} {h : List (Nat × Nat)} (hc : HC hr hb h) (hl : h.length ≤ 60) : ∀ (d k c : Nat), d ≤ h.length → d < k → fX2_refusedInLast_b24 N (nI h.length) hr k (nI c) (nI (h.length - d)) = some (nI (c + spRef d h)) := by
  intro d
  induction d with
  | zero =>
    intro k c _ hk
    obtain ⟨k, rfl⟩ : ∃ q, k = q + 1 := ⟨k - 1, by omega⟩
    rw [fX2_refusedInLast_b24, if_neg (nI_pos (by omega)), if_pos (nI_le (by omega) (by omega)), show spRef 0 h = 0 by cases h <;> rfl, Nat.add_zero]
  | succ d ih =>
    intro k c hd hk
    obtain ⟨k, rfl⟩ : ∃ q, k = q + 1 := ⟨k - 1, by omega⟩
    obtain ⟨x, h1, -, h3, -⟩ := HC_split hr hb h d hc hd
    have hx := spFl_le x
    rw [show h.length - 1 - d = h.length - (d + 1) by omega] at h1
    rw [fX2_refusedInLast_b24, if_neg (nI_pos (by omega)), if_neg (nI_ge (by omega) (by omega)), if_neg (show ¬ (60 : Int32) ≤ nI (h.length - (d + 1)) from nI_ge (b := 60) (by omega) (by omega)), if_pos (okI_nI (by omega) (by omega)), nI_clamp (by omega), h1]
    unfold fX2_refusedInLast_b58
    have e1 : nI (h.length - (d + 1)) + 1 = nI (h.length - d) := by rw [nI_1]; congr 1; omega
    have e2 : nI c + 1 = nI (c + 1) := nI_1 c
    simp only [nI_zer (spFl x) (by omega)]
    rw [e1, e2, h3]
    by_cases hz : spFl x = 0
    · rw [if_pos hz, ih k c (by omega) (by omega), hz, Nat.add_zero]
    · rw [if_neg hz, ih k (c + 1) (by omega) (by omega), show spFl x = 1 by omega]
      congr 2
      omega
theorem c_ref {N : Nat} (hN : 100 ≤ N) {hr hb : Nat → Int32} {h : List (Nat × Nat)} (hc : HC hr hb h) (hl : h.length ≤ 60) {w : Nat} (hw : w ≤ 60) : fX2_refusedInLast N (nI w) (nI h.length) hr = some (nI (spRef w h)) := by
  unfold fX2_refusedInLast fX2_refusedInLast_b20
  simp only [nI_leI (show h.length < 2 ^ 31 by omega) (show w < 2 ^ 31 by omega)]
  by_cases hle : h.length ≤ w
  · rw [if_pos hle]
    have := c_ref_b (N := N) hc hl h.length N 0 (Nat.le_refl _) (by omega)
    rw [Nat.sub_self, Nat.zero_add, ← spRef_all w h hle] at this
    exact this
  · rw [if_neg hle, nI_sub (by omega)]
    have := c_ref_b (N := N) hc hl w N 0 (by omega) (by omega)
    rw [Nat.zero_add] at this
    exact this
theorem c_sum_b {N : Nat} {hr hb : Nat → Int32} {h : List (Nat × Nat)} (hc : HC hr hb h) (hl : h.length ≤ 60) : ∀ (d k c : Nat), d ≤ h.length → d < k → fX2_badInLast_b24 N (nI h.length) hb k (nI c) (nI (h.length - d)) = some (nI (c + spSum d h)) := by
  intro d
  induction d with
  | zero =>
    intro k c _ hk
    obtain ⟨k, rfl⟩ : ∃ q, k = q + 1 := ⟨k - 1, by omega⟩
    rw [fX2_badInLast_b24, if_neg (nI_pos (by omega)), if_pos (nI_le (by omega) (by omega)), show spSum 0 h = 0 by cases h <;> rfl, Nat.add_zero]
  | succ d ih =>
    intro k c hd hk
    obtain ⟨k, rfl⟩ : ∃ q, k = q + 1 := ⟨k - 1, by omega⟩
    obtain ⟨x, -, h2, -, h4⟩ := HC_split hr hb h d hc hd
    rw [show h.length - 1 - d = h.length - (d + 1) by omega] at h2
    have e1 : nI (h.length - (d + 1)) + 1 = nI (h.length - d) := by rw [nI_1]; congr 1; omega
    rw [fX2_badInLast_b24, if_neg (nI_pos (by omega)), if_neg (nI_ge (by omega) (by omega)), if_neg (show ¬ (60 : Int32) ≤ nI (h.length - (d + 1)) from nI_ge (b := 60) (by omega) (by omega)), if_pos (okI_nI (by omega) (by omega)), nI_clamp (by omega), h2, nI_add, Option.bind_some, e1, ih k (c + x.2) (by omega) (by omega), h4]
    congr 2
    omega
theorem c_sum {N : Nat} (hN : 100 ≤ N) {hr hb : Nat → Int32} {h : List (Nat × Nat)} (hc : HC hr hb h) (hl : h.length ≤ 60) {w : Nat} (hw : w ≤ 60) : fX2_badInLast N (nI w) (nI h.length) hb = some (nI (spSum w h)) := by
  unfold fX2_badInLast fX2_badInLast_b20
  simp only [nI_leI (show h.length < 2 ^ 31 by omega) (show w < 2 ^ 31 by omega)]
  by_cases hle : h.length ≤ w
  · rw [if_pos hle]
    have := c_sum_b (N := N) hc hl h.length N 0 (Nat.le_refl _) (by omega)
    rw [Nat.sub_self, Nat.zero_add, ← spSum_all w h hle] at this
    exact this
  · rw [if_neg hle, nI_sub (by omega)]
    have := c_sum_b (N := N) hc hl w N 0 (by omega) (by omega)
    rw [Nat.zero_add] at this
    exact this
/-- the invariants of the history under each inspection -/
def HI (st : Nat) (h : List (Nat × Nat)) : Prop := HB h ∧ (st = 0 → spRef 5 h ≤ 1) ∧ (st = 1 → spRef 60 h ≤ 4)
theorem c_last {N : Nat} (hN : 100 ≤ N) {hr hb : Nat → Int32} {h : List (Nat × Nat)} (hc : HC hr hb h) (hl : h.length ≤ 60) {w : Nat} (hw : w ≤ 60) : fX2_lastWereAccepted N (nI w) (nI h.length) hr = some (nI (if w ≤ h.length ∧ spRef w h = 0 then 1 else 0)) := by
  have hr := spRef_le w h
  unfold fX2_lastWereAccepted
  simp only [nI_ltI (show h.length < 2 ^ 31 by omega) (show w < 2 ^ 31 by omega)]
  by_cases h1 : h.length < w
  · rw [if_pos h1, if_neg (show ¬ (w ≤ h.length ∧ spRef w h = 0) by omega)]; rfl
  · rw [if_neg h1, c_ref hN hc hl hw, Option.bind_some]
    simp only [nI_zer (spRef w h) (by omega)]
    by_cases h2 : spRef w h = 0
    · rw [if_pos h2, if_pos (show w ≤ h.length ∧ spRef w h = 0 by omega)]; rfl
    · rw [if_neg h2, if_neg (show ¬ (w ≤ h.length ∧ spRef w h = 0) by omega)]; rfl
theorem spRef_mono : ∀ (n m : Nat) (h : List (Nat × Nat)), n ≤ m → spRef n h ≤ spRef m h
  | 0, _, _, _ => Nat.zero_le _
  | n + 1, m, [], _ => Nat.zero_le _
  | n + 1, 0, _, e => absurd e (by omega)
  | n + 1, m + 1, x :: t, e => by
    have := spRef_mono n m t (by omega)
    show (if x.1 = 0 then 1 else 0) + spRef n t ≤ (if x.1 = 0 then 1 else 0) + spRef m t
    omega
theorem spRef_cons (n : Nat) (x : Nat × Nat) (t : List (Nat × Nat)) : spRef (n + 1) (x :: t) = spFl x + spRef n t := rfl
theorem spRef_succ : ∀ (n : Nat) (h : List (Nat × Nat)), spRef (n + 1) h ≤ spRef n h + 1
  | 0, [] => Nat.zero_le _
  | 0, x :: t => by
    rw [spRef_cons, show spRef 0 t = 0 by cases t <;> rfl]
    have := spFl_le x
    omega
  | n + 1, [] => Nat.zero_le _
  | n + 1, x :: t => by
    have := spRef_succ n t
    rw [spRef_cons, spRef_cons]
    omega
/-- the class's order of looking comes to the same, for the history that there can be -/
theorem c_next {N lv ql sd st s bd : Nat} (hN : 100 ≤ N) (hlv : lv ≤ 2) (hql : ql ≤ 3) (hs : s ≤ 5000) (hsd : sd ≤ 1) (hst : st ≤ 2) (hbd : bd ≤ 50) {hr hb : Nat → Int32} {x : Nat × Nat} {t : List (Nat × Nat)} (hc : HC hr hb (x :: t)) (hl : (x :: t).length ≤ 60) (hi : HI st t) (hB : HB (x :: t)) : fX0_nextBehind N (nI sd) (nI st) (nI (x :: t).length) hr hb (nI lv) (nI ql) (nI s) (nI bd) = some (nI (spBehind sd st (x :: t) (if spAcc lv ql s 2 < bd then 1 else 0))) := by
  have r5 := spRef_le 5 (x :: t)
  have r10 := spRef_le 10 (x :: t)
  have r60 := spRef_le 60 (x :: t)
  have s10 := spSum_le 10 (x :: t) hB
  have hac := spAcc_le (lv := lv) (s := s) (st := 2) hql
  unfold fX0_nextBehind spBehind
  simp only [nI_zer st (by omega), nI_one st (by omega)]
  by_cases h0 : st = 0
  · rw [if_pos h0, if_pos h0]
    unfold fX0_behindNormal fX0_behindNormal_b43 fX0_behindNormal_b44
    rw [show (5 : Int32) = nI 5 from rfl, show (10 : Int32) = nI 10 from rfl, c_ref hN hc hl (by omega), c_last hN hc hl (by omega), c_sum hN hc hl (by omega)]
    simp only [Option.bind_some, show (nI (spRef 5 (x :: t)) < 2) ↔ spRef 5 (x :: t) < 2 from nI_ltI (b := 2) (by omega) (by omega), nI_zer sd (by omega), show ((4 : Int32) < nI (spSum 10 (x :: t))) ↔ 4 < spSum 10 (x :: t) from nI_ltI (a := 4) (by omega) (by omega)]
    by_cases h1 : spRef 5 (x :: t) < 2
    · rw [if_pos h1, if_neg (show ¬ 2 ≤ spRef 5 (x :: t) by omega)]
      by_cases h2 : 10 ≤ (x :: t).length ∧ spRef 10 (x :: t) = 0
      · rw [if_pos h2, if_neg (by decide)]
        by_cases h3 : 4 < spSum 10 (x :: t)
        · rw [if_pos h3, if_neg (show ¬ (sd = 1 ∧ 10 ≤ (x :: t).length ∧ spRef 10 (x :: t) = 0 ∧ spSum 10 (x :: t) ≤ 4) by omega)]; rfl
        · rw [if_neg h3, if_neg (by decide)]
          by_cases h4 : sd = 0
          · rw [if_pos h4, if_neg (show ¬ (sd = 1 ∧ 10 ≤ (x :: t).length ∧ spRef 10 (x :: t) = 0 ∧ spSum 10 (x :: t) ≤ 4) by omega)]; rfl
          · rw [if_neg h4, if_pos (show (sd = 1 ∧ 10 ≤ (x :: t).length ∧ spRef 10 (x :: t) = 0 ∧ spSum 10 (x :: t) ≤ 4) by omega)]; rfl
      · rw [if_neg h2, if_neg (show ¬ (sd = 1 ∧ 10 ≤ (x :: t).length ∧ spRef 10 (x :: t) = 0 ∧ spSum 10 (x :: t) ≤ 4) by omega)]; rfl
    · rw [if_neg h1, if_pos (show 2 ≤ spRef 5 (x :: t) by omega)]; rfl
  rw [if_neg h0, if_neg h0]
  by_cases h1 : st = 1
  · rw [if_pos h1, if_pos h1]
    unfold fX0_behindTightened
    rw [show fX2_lastWereAccepted N 5 (nI (x :: t).length) hr = _ from c_last (w := 5) hN hc hl (by omega), show fX2_refusedInLast N 60 (nI (x :: t).length) hr = _ from c_ref (w := 60) hN hc hl (by omega)]
    simp only [Option.bind_some, show (nI (spRef 60 (x :: t)) < 5) ↔ spRef 60 (x :: t) < 5 from nI_ltI (b := 5) (by omega) (by omega)]
    by_cases h2 : 5 ≤ (x :: t).length ∧ spRef 5 (x :: t) = 0
    · -- the newest is accepted, so no more are refused than before
      have e1 : spRef 5 (x :: t) = spFl x + spRef 4 t := spRef_cons 4 x t
      have e2 : spRef 60 (x :: t) = spFl x + spRef 59 t := spRef_cons 59 x t
      have e3 := hi.2.2 h1
      have e4 := spRef_mono 59 60 t (by omega)
      rw [if_pos h2, if_neg (by decide), if_neg (show ¬ 5 ≤ spRef 60 (x :: t) by omega), if_pos h2]; rfl
    · rw [if_neg h2, if_pos (show nI 0 = 0 from rfl)]
      by_cases h3 : spRef 60 (x :: t) < 5
      · rw [if_pos h3, if_neg (show ¬ 5 ≤ spRef 60 (x :: t) by omega), if_neg h2]; rfl
      · rw [if_neg h3, if_pos (show 5 ≤ spRef 60 (x :: t) by omega)]; rfl
  · rw [if_neg h1, if_neg h1, show (2 : Int32) = nI 2 from rfl, c_acc (by omega) hlv hql hs (by omega), Option.bind_some]
    unfold fX0_nextBehind_b46
    simp only [nI_leI (show bd < 2 ^ 31 by omega) (show spAcc lv ql s 2 < 2 ^ 31 by omega)]
    by_cases h2 : bd ≤ spAcc lv ql s 2
    · rw [if_pos h2, if_neg (show ¬ spAcc lv ql s 2 < bd by omega)]; rfl
    · rw [if_neg h2, if_pos (show spAcc lv ql s 2 < bd by omega)]; rfl
theorem spRef_nil (n : Nat) : spRef n [] = 0 := by cases n <;> rfl
theorem spSum_nil (n : Nat) : spSum n [] = 0 := by cases n <;> rfl
theorem spRef_0 (t : List (Nat × Nat)) : spRef 0 t = 0 := by cases t <;> rfl
theorem spSum_0 (t : List (Nat × Nat)) : spSum 0 t = 0 := by cases t <;> rfl
theorem nI_dec1 (a : Nat) : nI (a + 1) + (-1) = nI a := by rw [nI_dec (by omega), Nat.add_sub_cancel]
theorem nI_m1 (a : Nat) : nI a + (-1) = nI a - 1 := (Int32.sub_eq_add_neg (nI a) 1).symm
