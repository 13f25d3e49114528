/-- the class's numbers behind the lots so far -/
def CR (w : SpW) (st sk ch ac pa ln : Int32) (hr hb : Nat → Int32) : Prop :=
  st = nI (wst w) ∧ sk = nI (wsk w) ∧ (wst w = 3 → ch = nI (wstp w)) ∧ (wsk w = 0 → ac = nI (wgood w)) ∧ (wsk w = 1 → pa = nI (wturn w)) ∧ ln = nI (wh w).length ∧ HC hr hb (wh w)
def WI (n : Nat) (w : SpW) : Prop :=
  wst w ≤ 3 ∧ wsk w ≤ 1 ∧ (wh w).length ≤ n ∧ HI (wst w) (wh w) ∧ (wst w = 1 → wsk w = 0) ∧ (wst w = 3 → wsk w = 0) ∧ wgood w ≤ n ∧ wturn w ≤ n
theorem HC_upd {hr hb : Nat → Int32} (a b : Int32) {k : Nat} : ∀ (t : List (Nat × Nat)), t.length ≤ k → HC hr hb t → HC (upd hr k a) (upd hb k b) t
  | [], _, _ => trivial
  | x :: t, hk, h => by
    have hk' : t.length + 1 ≤ k := hk
    exact ⟨by rw [ud_ne _ _ (by omega)]; exact h.1, by rw [ud_ne _ _ (by omega)]; exact h.2.1, HC_upd a b t (by omega) h.2.2⟩
theorem spOk_le {lv ql tw s f st : Nat} : spOk lv ql tw s f st ≤ 1 := by unfold spOk; split <;> omega
theorem spBad_le {lv ql tw s f st : Nat} : spBad lv ql tw s f st ≤ 50 := Nat.le_trans (spPop_le _ _) spItems_le
theorem spEnds_le {lv ql tw s f st : Nat} : spEnds lv ql tw s f st ≤ 1 := by unfold spEnds; split <;> omega
theorem c_add {N : Nat} {hr hb : Nat → Int32} {h : List (Nat × Nat)} (hc : HC hr hb h) (hl : h.length < 60) {ok bd : Nat} (hok : ok ≤ 1) : ∃ hr' hb', fX2_add N (nI h.length) hr hb (nI ok) (nI bd) = some (nI (h.length + 1), hr', hb') ∧ HC hr' hb' ((ok, bd) :: h) := by
  refine ⟨upd hr h.length (nI (spFl (ok, bd))), upd hb h.length (nI bd), ?_, ⟨ud_at _ _ _, ud_at _ _ _, HC_upd _ _ h (Nat.le_refl _) hc⟩⟩
  unfold fX2_add fX2_add_b37
  have ok60 := okI_nI (M := 60) hl (by omega)
  rw [if_neg (nI_pos (by omega)), if_pos (show nI h.length < 60 from nI_lt (b := 60) hl (by omega))]
  simp only [if_pos ok60, nI_clamp (show h.length < 2 ^ 31 by omega), nI_1]
  have e1 : vp_nar FieldType.boolean 1 = nI 1 := by decide +kernel
  have e0 : vp_nar FieldType.boolean 0 = nI 0 := by decide +kernel
  rw [e1, e0]
  rcases (show ok = 0 ∨ ok = 1 by omega) with rfl | rfl
  · rw [if_pos (show nI 0 = (0 : Int32) from rfl)]; rfl
  · rw [if_neg (show ¬ nI 1 = (0 : Int32) by decide)]; rfl
theorem spBehind_ends {lv ql sd tw s f st : Nat} (hst : st ≤ 2) (h : List (Nat × Nat)) : spBehind sd st h (if spAcc lv ql s 2 < spBad lv ql tw s f st then 1 else 0) = spBehind sd st h (spEnds lv ql tw s f st) := by
  unfold spBehind
  by_cases h0 : st = 0
  · rw [if_pos h0, if_pos h0]
  by_cases h1 : st = 1
  · rw [if_neg h0, if_neg h0, if_pos h1, if_pos h1]
  · have h2 : st = 2 := by omega
    subst h2
    unfold spEnds
    simp
theorem spBehind_le (sd st : Nat) (h : List (Nat × Nat)) (e : Nat) : spBehind sd st h e ≤ 3 := by
  unfold spBehind
  repeat' split
  all_goals omega
/-- what the next inspection tells of the history -/
theorem next_inv {sd st e ok bd : Nat} {t : List (Nat × Nat)} (hst : st ≤ 2) (hi : HI st t) (hok : ok ≤ 1) (hbd : bd ≤ 50) : HI (spBehind sd st ((ok, bd) :: t) e) (if spBehind sd st ((ok, bd) :: t) e = st then (ok, bd) :: t else []) ∧ (spBehind sd st ((ok, bd) :: t) e = 3 → st = 1) ∧ (spBehind sd st ((ok, bd) :: t) e = 1 → st = 1 ∨ ok = 0) := by
  have hB : HB ((ok, bd) :: t) := ⟨⟨hok, hbd⟩, hi.1⟩
  have e5 : spRef 5 ((ok, bd) :: t) = spFl (ok, bd) + spRef 4 t := spRef_cons 4 _ t
  have m5 := spRef_mono 4 5 t (by omega)
  have hfl : ok = 1 → spFl (ok, bd) = 0 := fun z => by unfold spFl; rw [if_neg (show ¬ (ok, bd).1 = 0 by show ¬ ok = 0; omega)]
  have c0 : st = 0 → spBehind sd st ((ok, bd) :: t) e = (if 2 ≤ spRef 5 ((ok, bd) :: t) then 1 else if sd = 1 ∧ 10 ≤ ((ok, bd) :: t).length ∧ spRef 10 ((ok, bd) :: t) = 0 ∧ spSum 10 ((ok, bd) :: t) ≤ 4 then 2 else 0) := fun z => by unfold spBehind; rw [if_pos z]
  have c1 : st = 1 → spBehind sd st ((ok, bd) :: t) e = (if 5 ≤ spRef 60 ((ok, bd) :: t) then 3 else if 5 ≤ ((ok, bd) :: t).length ∧ spRef 5 ((ok, bd) :: t) = 0 then 0 else 1) := fun z => by unfold spBehind; rw [if_neg (by omega), if_pos z]
  have c2 : st = 2 → spBehind sd st ((ok, bd) :: t) e = (if e = 1 then 0 else 2) := fun z => by unfold spBehind; rw [if_neg (by omega), if_neg (by omega)]
  generalize spBehind sd st ((ok, bd) :: t) e = nx at *
  refine ⟨?_, ?_, ?_⟩
  · by_cases hn : nx = st
    · rw [if_pos hn]
      refine ⟨hB, fun z => ?_, fun z => ?_⟩
      · have := c0 (by omega)
        by_cases h2 : 2 ≤ spRef 5 ((ok, bd) :: t)
        · rw [if_pos h2] at this; omega
        · omega
      · have := c1 (by omega)
        by_cases h2 : 5 ≤ spRef 60 ((ok, bd) :: t)
        · rw [if_pos h2] at this; omega
        · omega
    · rw [if_neg hn]
      exact ⟨trivial, fun _ => by rw [spRef_nil]; omega, fun _ => by rw [spRef_nil]; omega⟩
  · intro z
    rcases (show st = 0 ∨ st = 1 ∨ st = 2 by omega) with q | q | q
    · have := c0 q
      repeat' split at this
      all_goals omega
    · exact q
    · have := c2 q
      split at this <;> omega
  · intro z
    rcases (show st = 0 ∨ st = 1 ∨ st = 2 by omega) with q | q | q
    · right
      have := c0 q
      have h1 := hi.2.1 q
      by_cases h2 : 2 ≤ spRef 5 ((ok, bd) :: t)
      · rcases (show ok = 0 ∨ ok = 1 by omega) with r | r
        · exact r
        · have := hfl r; omega
      · rw [if_neg h2] at this
        split at this <;> omega
    · exact Or.inl q
    · have := c2 q
      split at this <;> omega
theorem c_count {N rt s0 nx ok g sk : Nat} (hrt : rt ≤ 5) (hs0 : s0 ≤ 3) (hnx : nx ≤ 3) (hok : ok ≤ 1) (hsk : sk ≤ 1) (hg : g ≤ 100) (h1 : s0 = 1 → sk = 0) (hx : nx = 1 → s0 = 1 ∨ ok = 0) {ac pa : Int32} (hac : sk = 0 → ac = nI g) (hpa : sk = 1 → pa = 0) : ∃ ac' pa', fX0_countForSkipping N (nI rt) (nI nx) (nI sk) ac pa (nI ok) (nI s0) = some (nI (if (if sk = 1 then ok else if 0 < rt ∧ 8 ≤ (if s0 ≠ 1 ∧ ok = 1 ∧ sk = 0 then g + 1 else 0) then 1 else 0) = 1 ∧ nx ≠ 1 then 1 else 0), ac', pa') ∧ ((if (if sk = 1 then ok else if 0 < rt ∧ 8 ≤ (if s0 ≠ 1 ∧ ok = 1 ∧ sk = 0 then g + 1 else 0) then 1 else 0) = 1 ∧ nx ≠ 1 then 1 else 0) = 0 → ac' = nI (if s0 ≠ 1 ∧ ok = 1 ∧ sk = 0 then g + 1 else 0)) ∧ ((if (if sk = 1 then ok else if 0 < rt ∧ 8 ≤ (if s0 ≠ 1 ∧ ok = 1 ∧ sk = 0 then g + 1 else 0) then 1 else 0) = 1 ∧ nx ≠ 1 then 1 else 0) = 1 → pa' = 0) := by
  unfold fX0_countForSkipping fX0_countForSkipping_b23
  simp only [nI_zer ok (by omega), nI_one s0 (by omega), nI_one nx (by omega), nI_zer sk (by omega), show (nI rt ≤ 0) ↔ rt ≤ 0 from nI_leI (b := 0) (by omega) (by omega)]
  by_cases a1 : ok = 0
  · subst a1
    refine ⟨0, pa, ?_, ?_, ?_⟩
    · rw [if_pos rfl]
      rcases (show sk = 0 ∨ sk = 1 by omega) with rfl | rfl <;> simp <;> rfl
    · intro _; simp; rfl
    · rcases (show sk = 0 ∨ sk = 1 by omega) with rfl | rfl <;> simp
  have a2 : ok = 1 := by omega
  subst a2
  rw [if_neg a1]
  by_cases b1 : s0 = 1
  · have z := h1 b1
    subst z
    refine ⟨0, pa, ?_, ?_, ?_⟩
    · rw [if_pos b1]; simp [b1]; rfl
    · intro _; simp [b1]; rfl
    · simp [b1]
  rw [if_neg b1]
  have nx1 : ¬ nx = 1 := fun z => by rcases hx z with q | q <;> omega
  rw [if_neg nx1]
  rcases (show sk = 0 ∨ sk = 1 by omega) with rfl | rfl
  · rw [if_pos rfl, hac rfl, show nI g + 1 = nI (g + 1) from nI_1 g]
    simp only [show (nI (g + 1) < 8) ↔ g + 1 < 8 from nI_ltI (b := 8) (by omega) (by omega)]
    by_cases c1 : rt ≤ 0
    · refine ⟨nI (g + 1), pa, ?_, ?_, ?_⟩
      · rw [if_pos c1]; simp [show ¬ 0 < rt by omega]
      · intro _; simp [b1]
      · simp [show ¬ 0 < rt by omega]
    · rw [if_neg c1]
      by_cases c2 : g + 1 < 8
      · refine ⟨nI (g + 1), pa, ?_, ?_, ?_⟩
        · rw [if_pos c2]; simp [b1, show ¬ 8 ≤ g + 1 by omega]
        · intro _; simp [b1]
        · simp [b1, show ¬ 8 ≤ g + 1 by omega]
      · refine ⟨nI (g + 1), 0, ?_, ?_, ?_⟩
        · rw [if_neg c2]; simp [b1, nx1, show 8 ≤ g + 1 by omega, show 0 < rt by omega]; rfl
        · intro _; simp [b1]
        · intro _; rfl
  · refine ⟨ac + 1, pa, ?_, ?_, ?_⟩
    · rw [if_neg (by decide)]; simp [nx1]
    · simp [nx1]
    · intro _; exact hpa rfl
