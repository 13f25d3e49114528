/-- the class's numbers behind the lots so far -/
def CR (w : SpW) (st sk ch ac pa ln : Int32) (hr hb : Nat → Int32) : Prop :=
  st = nI (wst w) ∧ sk = nI (wsk w) ∧ (wst w = 3 → ch = nI (wstp w)) ∧ (wsk w = 0 → ac = nI (wgood w)) ∧ (wsk w = 1 → pa = nI (wturn w)) ∧ ln = nI (wh w).length ∧ HC hr hb (wh w)
def WI (n : Nat) (w : SpW) : Prop :=
  wst w ≤ 3 ∧ wsk w ≤ 1 ∧ (wh w).length ≤ n ∧ HI (wst w) (wh w) ∧ (wst w = 1 → wsk w = 0) ∧ (wst w = 3 → wsk w = 0) ∧ wgood w ≤ n ∧ wturn w ≤ n
theorem HC_upd {hr hb : Nat → Int32} (a b : Int32) {k : Nat} : ∀ (t : List (Nat × Nat)), t.length ≤ k → HC hr hb t → HC (upd hr k a) (upd hb k b) t
  | [], _, _ => trivial
  | x :: t, hk, h => by
    have hk' : t.length + 1 ≤ k := hk
    exact ⟨by rw [ud_ne _ _ (by omega)]; exact h.1, by rw [ud_ne _ _ (by omega)]; exact h.2.1, HC_upd a b t (by omega) h.2.2⟩
theorem spOk_le {lv ql tw s f st : Nat} : spOk lv ql tw s f st ≤ 1 := by unfold spOk; split <;> omega
theorem spBad_le {lv ql tw s f st : Nat} : spBad lv ql tw s f st ≤ 50 := Nat.le_trans (spPop_le _ _) spItems_le
theorem spEnds_le {lv ql tw s f st : Nat} : spEnds lv ql tw s f st ≤ 1 := by unfold spEnds; split <;> omega
theorem c_add {N : Nat} {hr hb : Nat → Int32} {h : List (Nat × Nat)} (hc : HC hr hb h) (hl : h.length < 60) {ok bd : Nat} (hok : ok ≤ 1) : ∃ hr' hb', fX2_add N (nI h.length) hr hb (nI ok) (nI bd) = some (nI (h.length + 1), hr', hb') ∧ HC hr' hb' ((ok, bd) :: h) := by
  refine ⟨upd hr h.length (nI (spFl (ok, bd))), upd hb h.length (nI bd), ?_, ⟨ud_at _ _ _, ud_at _ _ _, HC_upd _ _ h (Nat.le_refl _) hc⟩⟩
  unfold fX2_add fX2_add_b37
  have ok60 := okI_nI (M := 60) hl (by omega)
  rw [if_neg (nI_pos (by omega)), if_pos (show nI h.length < 60 from nI_lt (b := 60) hl (by omega))]
  simp only [if_pos ok60, nI_clamp (show h.length < 2 ^ 31 by omega), nI_1]
  have e1 : vp_nar FieldType.boolean 1 = nI 1 := by decide +kernel
  have e0 : vp_nar FieldType.boolean 0 = nI 0 := by decide +kernel
  rw [e1, e0]
  rcases (show ok = 0 ∨ ok = 1 by omega) with rfl | rfl
  · rw [if_pos (show nI 0 = (0 : Int32) from rfl)]; rfl
  · rw [if_neg (show ¬ nI 1 = (0 : Int32) by decide)]; rfl
theorem spBehind_ends {lv ql sd tw s f st : Nat} (hst : st ≤ 2) (h : List (Nat × Nat)) : spBehind sd st h (if spAcc lv ql s 2 < spBad lv ql tw s f st then 1 else 0) = spBehind sd st h (spEnds lv ql tw s f st) := by
  unfold spBehind
  by_cases h0 : st = 0
  · rw [if_pos h0, if_pos h0]
  by_cases h1 : st = 1
  · rw [if_neg h0, if_neg h0, if_pos h1, if_pos h1]
  · have h2 : st = 2 := by omega
    subst h2
    unfold spEnds
    simp
theorem spBehind_le (sd st : Nat) (h : List (Nat × Nat)) (e : Nat) : spBehind sd st h e ≤ 3 := by
  unfold spBehind
  repeat' split
  all_goals omega
/-- what the next inspection tells of the history -/
theorem next_inv {sd st e ok bd : Nat} {t : List (Nat × Nat)} (hst : st ≤ 2) (hi : HI st t) (hok : ok ≤ 1) (hbd : bd ≤ 50) : HI (spBehind sd st ((ok, bd) :: t) e) (if spBehind sd st ((ok, bd) :: t) e = st then (ok, bd) :: t else []) ∧ (spBehind sd st ((ok, bd) :: t) e = 3 → st = 1) ∧ (spBehind sd st ((ok, bd) :: t) e = 1 → st = 1 ∨ ok = 0) := by
  have hB : HB ((ok, bd) :: t) := ⟨⟨hok, hbd⟩, hi.1⟩
  have e5 : spRef 5 ((ok, bd) :: t) = spFl (ok, bd) + spRef 4 t := spRef_cons 4 _ t
  have m5 := spRef_mono 4 5 t (by omega)
  have hfl : ok = 1 → spFl (ok, bd) = 0 := fun z => by unfold spFl; rw [if_neg (show ¬ (ok, bd).1 = 0 by show ¬ ok = 0; omega)]
  have c0 : st = 0 → spBehind sd st ((ok, bd) :: t) e = (if 2 ≤ spRef 5 ((ok, bd) :: t) then 1 else if sd = 1 ∧ 10 ≤ ((ok, bd) :: t).length ∧ spRef 10 ((ok, bd) :: t) = 0 ∧ spSum 10 ((ok, bd) :: t) ≤ 4 then 2 else 0) := fun z => by unfold spBehind; rw [if_pos z]
  have c1 : st = 1 → spBehind sd st ((ok, bd) :: t) e = (if 5 ≤ spRef 60 ((ok, bd) :: t) then 3 else if 5 ≤ ((ok, bd) :: t).length ∧ spRef 5 ((ok, bd) :: t) = 0 then 0 else 1) := fun z => by unfold spBehind; rw [if_neg (by omega), if_pos z]
  have c2 : st = 2 → spBehind sd st ((ok, bd) :: t) e = (if e = 1 then 0 else 2) := fun z => by unfold spBehind; rw [if_neg (by omega), if_neg (by omega)]
  generalize spBehind sd st ((ok, bd) :: t) e = nx at *
  refine ⟨?_, ?_, ?_⟩
  · by_cases hn : nx = st
    · rw [if_pos hn]
      refine ⟨hB, fun z => ?_, fun z => ?_⟩
      · have := c0 (by omega)
        by_cases h2 : 2 ≤ spRef 5 ((ok, bd) :: t)
        · rw [if_pos h2] at this; omega
        · omega
      · have := c1 (by omega)
        by_cases h2 : 5 ≤ spRef 60 ((ok, bd) :: t)
        · rw [if_pos h2] at this; omega
        · omega
    · rw [if_neg hn]
      exact ⟨trivial, fun _ => by rw [spRef_nil]; omega, fun _ => by rw [spRef_nil]; omega⟩
  · intro z
    rcases (show st = 0 ∨ st = 1 ∨ st = 2 by omega) with q | q | q
    · have := c0 q
      repeat' split at this
      all_goals omega
    · exact q
    · have := c2 q
      split at this <;> omega
  · intro z
    rcases (show st = 0 ∨ st = 1 ∨ st = 2 by omega) with q | q | q
    · right
      have := c0 q
      have h1 := hi.2.1 q
      by_cases h2 : 2 ≤ spRef 5 ((ok, bd) :: t)
      · rcases (show ok = 0 ∨ ok = 1 by omega) with r | r
        · exact r
        · have := hfl r; omega
      · rw [if_neg h2] at this
        split at this <;> omega
    · exact Or.inl q
    · have := c2 q
      split at this <;> omega
theorem c_count {N rt s0 nx ok g sk : Nat} (hrt : rt ≤ 5) (hs0 : s0 ≤ 3) (hnx : nx ≤ 3) (hok : ok ≤ 1) (hsk : sk ≤ 1) (hg : g ≤ 100) (h1 : s0 = 1 → sk = 0) (hx : nx = 1 → s0 = 1 ∨ ok = 0) {ac pa : Int32} (hac : sk = 0 → ac = nI g) (hpa : sk = 1 → pa = 0) : ∃ ac' pa', fX0_countForSkipping N (nI rt) (nI nx) (nI sk) ac pa (nI ok) (nI s0) = some (nI (if (if sk = 1 then ok else if 0 < rt ∧ 8 ≤ (if s0 ≠ 1 ∧ ok = 1 ∧ sk = 0 then g + 1 else 0) then 1 else 0) = 1 ∧ nx ≠ 1 then 1 else 0), ac', pa') ∧ ((if (if sk = 1 then ok else if 0 < rt ∧ 8 ≤ (if s0 ≠ 1 ∧ ok = 1 ∧ sk = 0 then g + 1 else 0) then 1 else 0) = 1 ∧ nx ≠ 1 then 1 else 0) = 0 → ac' = nI (if s0 ≠ 1 ∧ ok = 1 ∧ sk = 0 then g + 1 else 0)) ∧ ((if (if sk = 1 then ok else if 0 < rt ∧ 8 ≤ (if s0 ≠ 1 ∧ ok = 1 ∧ sk = 0 then g + 1 else 0) then 1 else 0) = 1 ∧ nx ≠ 1 then 1 else 0) = 1 → pa' = 0) := by
  unfold fX0_countForSkipping fX0_countForSkipping_b23
  simp only [nI_zer ok (by omega), nI_one s0 (by omega), nI_one nx (by omega), nI_zer sk (by omega), show (nI rt ≤ 0) ↔ rt ≤ 0 from nI_leI (b := 0) (by omega) (by omega)]
  by_cases a1 : ok = 0
  · subst a1
    refine ⟨0, pa, ?_, ?_, ?_⟩
    · rw [if_pos rfl]
      rcases (show sk = 0 ∨ sk = 1 by omega) with rfl | rfl <;> simp <;> rfl
    · intro _; simp; rfl
    · rcases (show sk = 0 ∨ sk = 1 by omega) with rfl | rfl <;> simp
  have a2 : ok = 1 := by omega
  subst a2
  rw [if_neg a1]
  by_cases b1 : s0 = 1
  · have z := h1 b1
    subst z
    refine ⟨0, pa, ?_, ?_, ?_⟩
    · rw [if_pos b1]; simp [b1]; rfl
    · intro _; simp [b1]; rfl
    · simp [b1]
  rw [if_neg b1]
  have nx1 : ¬ nx = 1 := fun z => by rcases hx z with q | q <;> omega
  rw [if_neg nx1]
  rcases (show sk = 0 ∨ sk = 1 by omega) with rfl | rfl
  · rw [if_pos rfl, hac rfl, show nI g + 1 = nI (g + 1) from nI_1 g]
    simp only [show (nI (g + 1) < 8) ↔ g + 1 < 8 from nI_ltI (b := 8) (by omega) (by omega)]
    by_cases c1 : rt ≤ 0
    · refine ⟨nI (g + 1), pa, ?_, ?_, ?_⟩
      · rw [if_pos c1]; simp [show ¬ 0 < rt by omega]
      · intro _; simp [b1]
      · simp [show ¬ 0 < rt by omega]
    · rw [if_neg c1]
      by_cases c2 : g + 1 < 8
      · refine ⟨nI (g + 1), pa, ?_, ?_, ?_⟩
        · rw [if_pos c2]; simp [b1, show ¬ 8 ≤ g + 1 by omega]
        · intro _; simp [b1]
        · simp [b1, show ¬ 8 ≤ g + 1 by omega]
      · refine ⟨nI (g + 1), 0, ?_, ?_, ?_⟩
        · rw [if_neg c2]; simp [b1, nx1, show 8 ≤ g + 1 by omega, show 0 < rt by omega]; rfl
        · intro _; simp [b1]
        · intro _; rfl
  · refine ⟨ac + 1, pa, ?_, ?_, ?_⟩
    · rw [if_neg (by decide)]; simp [nx1]
    · simp [nx1]
    · intro _; exact hpa rfl
theorem ite10_le (P : Prop) [Decidable P] : (if P then 1 else 0) ≤ 1 := by split <;> omega
theorem c_passB {N n lv ql tw sd rt o s f : Nat} (hN : 100 ≤ N) (hcf : CFG lv ql tw sd rt) (hs : s ≤ 5000) (hf : f < 2 ^ 50) (hn : n < 60) {w : SpW} (hw : WI n w) {st sk ch ac pa ln : Int32} {hr hb : Nat → Int32} (hc : CR w st sk ch ac pa ln hr hb) (v t i b : Int32) : ∃ r, fX0_pass_b21 N (nI sd) (nI rt) (nI lv) (nI ql) (nI tw) (nI o) (nI s) (lN f) st sk ch ac pa ln hr hb v t i b = some r ∧ CR (spStepB lv ql tw sd rt o s f w).1 r.1 r.2.1 r.2.2.1 r.2.2.2.1 r.2.2.2.2.1 r.2.2.2.2.2.1 r.2.2.2.2.2.2.1 r.2.2.2.2.2.2.2.1 ∧ WI (n + 1) (spStepB lv ql tw sd rt o s f w).1 ∧ r.2.2.2.2.2.2.2.2.1 = nI (ov (spStepB lv ql tw sd rt o s f w).2) ∧ r.2.2.2.2.2.2.2.2.2.1 = nI (ot (spStepB lv ql tw sd rt o s f w).2) ∧ r.2.2.2.2.2.2.2.2.2.2.1 = nI (oi (spStepB lv ql tw sd rt o s f w).2) ∧ r.2.2.2.2.2.2.2.2.2.2.2 = nI (ob (spStepB lv ql tw sd rt o s f w).2) := by
  obtain ⟨w1, w2, w3, w4, w5, w6⟩ := w
  obtain ⟨hlv, hql, htw, hsd, hrt⟩ := hcf
  obtain ⟨h1, h2, h3, h4, h5, h6, h7, h8⟩ := hw
  obtain ⟨rfl, rfl, c3, c4, c5, rfl, c7⟩ := hc
  dsimp only [wst, wsk, wstp, wgood, wturn, wh] at h1 h2 h3 h4 h5 h6 h7 h8 c3 c4 c5 c7 ⊢
  unfold fX0_pass_b21
  have e3 : (nI w1 = 3) ↔ w1 = 3 := nI_eq (b := 3) (by omega) (by omega)
  by_cases q3 : w1 = 3
  · subst q3
    have z2 : w2 = 0 := h6 rfl
    subst z2
    refine ⟨_, by rw [if_pos (show nI 3 = (3 : Int32) from rfl)]; rfl, ?_⟩
    unfold spStepB spTurn
    dsimp only [wst, wsk, wstp, wgood, wturn, wh, ov, ot, oi, ob]
    rw [if_pos rfl]
    exact ⟨⟨rfl, rfl, c3, c4, fun z => absurd z (by show ¬ (0 : Nat) = 1; omega), rfl, c7⟩, ⟨h1, h2, Nat.le_succ_of_le h3, h4, h5, h6, Nat.le_succ_of_le h7, by show w5 + 0 ≤ n + 1; omega⟩, rfl, rfl, rfl, rfl⟩
  · rw [if_neg (fun z => q3 (e3.mp z))]
    have hst : w1 ≤ 2 := by omega
    -- the lot that is inspected, whatever the class's turn says
    have insp : ∀ pa' : Int32, (w2 = 1 → pa' = 0) → ¬ (w2 = 1 ∧ w5 + 1 < rt) → ∃ r, ((fX4_inspect N (nI w1) (nI lv) (nI ql) (nI tw) (nI s) (lN f) v i b).bind fun r_5 => ((fX2_add N (nI w6.length) hr hb r_5.1 r_5.2.2).bind fun r_7 => ((fX0_nextBehind N (nI sd) (nI w1) r_7.1 r_7.2.1 r_7.2.2 (nI lv) (nI ql) (nI s) r_5.2.2).bind fun r_9 => (if r_9 = nI w1 then fX0_pass_b108 N (nI sd) (nI rt) (nI lv) (nI ql) (nI tw) (nI o) (nI s) (lN f) (nI w1) (nI w2) ch ac pa' r_7.1 r_7.2.1 r_7.2.2 r_5.1 (nI w1) r_5.2.1 r_5.2.2 else ((fX0_begin N r_9 (nI w1) r_7.1).bind fun r_12 => fX0_pass_b108 N (nI sd) (nI rt) (nI lv) (nI ql) (nI tw) (nI o) (nI s) (lN f) r_12.1 (nI w2) (nI o) ac pa' r_12.2 r_7.2.1 r_7.2.2 r_5.1 (nI w1) r_5.2.1 r_5.2.2))))) = some r ∧ CR (spInsp lv ql tw sd rt o s f (w1, w2, w3, w4, w5, w6)).1 r.1 r.2.1 r.2.2.1 r.2.2.2.1 r.2.2.2.2.1 r.2.2.2.2.2.1 r.2.2.2.2.2.2.1 r.2.2.2.2.2.2.2.1 ∧ WI (n + 1) (spInsp lv ql tw sd rt o s f (w1, w2, w3, w4, w5, w6)).1 ∧ r.2.2.2.2.2.2.2.2.1 = nI (ov (spInsp lv ql tw sd rt o s f (w1, w2, w3, w4, w5, w6)).2) ∧ r.2.2.2.2.2.2.2.2.2.1 = nI (ot (spInsp lv ql tw sd rt o s f (w1, w2, w3, w4, w5, w6)).2) ∧ r.2.2.2.2.2.2.2.2.2.2.1 = nI (oi (spInsp lv ql tw sd rt o s f (w1, w2, w3, w4, w5, w6)).2) ∧ r.2.2.2.2.2.2.2.2.2.2.2 = nI (ob (spInsp lv ql tw sd rt o s f (w1, w2, w3, w4, w5, w6)).2) := by
      intro pa' hpa' hno
      have hl6 : w6.length ≤ n := h3
      have hbd := spBad_le (lv := lv) (ql := ql) (tw := tw) (s := s) (f := f) (st := w1)
      have hok := spOk_le (lv := lv) (ql := ql) (tw := tw) (s := s) (f := f) (st := w1)
      obtain ⟨hr', hb', e1, e2⟩ := c_add (N := N) c7 (by omega) (bd := spBad lv ql tw s f w1) hok
      have e3 := c_next (sd := sd) (lv := lv) (ql := ql) (s := s) (st := w1) hN hlv hql hs hsd hst hbd e2 (by show w6.length + 1 ≤ 60; omega) h4 ⟨⟨hok, hbd⟩, h4.1⟩
      rw [spBehind_ends hst] at e3
      obtain ⟨i1, i3, i4⟩ := next_inv (sd := sd) (e := spEnds lv ql tw s f w1) hst h4 hok hbd
      have hle := spBehind_le sd w1 ((spOk lv ql tw s f w1, spBad lv ql tw s f w1) :: w6) (spEnds lv ql tw s f w1)
      rw [c_insp hN hlv hql htw hst hs hf, Option.bind_some]
      dsimp only
      rw [e1, Option.bind_some]
      dsimp only
      rw [show nI (w6.length + 1) = nI ((spOk lv ql tw s f w1, spBad lv ql tw s f w1) :: w6).length from rfl, e3, Option.bind_some]
      unfold spInsp
      dsimp only [wst, wsk, wstp, wgood, wturn, wh, ov, ot, oi, ob]
      generalize hnxe : spBehind sd w1 ((spOk lv ql tw s f w1, spBad lv ql tw s f w1) :: w6) (spEnds lv ql tw s f w1) = nx at *
      obtain ⟨ac', pa2, k1, k2, k3⟩ := c_count (N := N) (rt := rt) (s0 := w1) (nx := nx) (ok := spOk lv ql tw s f w1) (g := w4) (sk := w2) (by omega) (by omega) hle hok h2 (by show w4 ≤ 100; have : w4 ≤ n := h7; omega) h5 i4 (ac := ac) (pa := pa') c4 hpa'
      have hgd : (if w1 ≠ 1 ∧ spOk lv ql tw s f w1 = 1 ∧ w2 = 0 then w4 + 1 else 0) ≤ n + 1 := by
        have : w4 ≤ n := h7
        split <;> omega
      have hs3 : nx = 3 → (if (if w2 = 1 then spOk lv ql tw s f w1 else if 0 < rt ∧ 8 ≤ (if w1 ≠ 1 ∧ spOk lv ql tw s f w1 = 1 ∧ w2 = 0 then w4 + 1 else 0) then 1 else 0) = 1 ∧ nx ≠ 1 then 1 else 0) = 0 := by
        intro z
        have z1 := i3 z
        have z2 := h5 z1
        simp [z1, z2]
      have hs1 : nx = 1 → (if (if w2 = 1 then spOk lv ql tw s f w1 else if 0 < rt ∧ 8 ≤ (if w1 ≠ 1 ∧ spOk lv ql tw s f w1 = 1 ∧ w2 = 0 then w4 + 1 else 0) then 1 else 0) = 1 ∧ nx ≠ 1 then 1 else 0) = 0 := by
        intro z
        simp [z]
      have hs2 : (if (if w2 = 1 then spOk lv ql tw s f w1 else if 0 < rt ∧ 8 ≤ (if w1 ≠ 1 ∧ spOk lv ql tw s f w1 = 1 ∧ w2 = 0 then w4 + 1 else 0) then 1 else 0) = 1 ∧ nx ≠ 1 then 1 else 0) ≤ 1 := ite10_le _
      generalize (if (if w2 = 1 then spOk lv ql tw s f w1 else if 0 < rt ∧ 8 ≤ (if w1 ≠ 1 ∧ spOk lv ql tw s f w1 = 1 ∧ w2 = 0 then w4 + 1 else 0) then 1 else 0) = 1 ∧ nx ≠ 1 then 1 else 0) = SK at *
      generalize (if w1 ≠ 1 ∧ spOk lv ql tw s f w1 = 1 ∧ w2 = 0 then w4 + 1 else 0) = GD at *
      have hWI : WI (n + 1) (nx, SK, if nx = 3 then o else w3, GD, 0, if nx = w1 then (spOk lv ql tw s f w1, spBad lv ql tw s f w1) :: w6 else []) := by
        refine ⟨hle, hs2, ?_, i1, hs1, hs3, hgd, Nat.zero_le _⟩
        show (if nx = w1 then (spOk lv ql tw s f w1, spBad lv ql tw s f w1) :: w6 else []).length ≤ n + 1
        split
        · show w6.length + 1 ≤ n + 1; omega
        · exact Nat.zero_le _
      have heq : (nI nx = nI w1) ↔ nx = w1 := nI_eq (by omega) (by omega)
      unfold fX0_pass_b108 fX0_begin fX2_clear
      by_cases hn : nx = w1
      · have hn3 : ¬ nx = 3 := by omega
        have k1' := k1
        rw [hn] at k1'
        refine ⟨_, by rw [if_pos (heq.mpr hn), k1']; rfl, ?_⟩
        rw [if_neg hn3, if_pos hn] at hWI ⊢
        exact ⟨⟨heq.mpr hn |>.symm, rfl, fun z => absurd z hn3, k2, k3, rfl, e2⟩, hWI, rfl, rfl, rfl, rfl⟩
      · refine ⟨_, by rw [if_neg (fun z => hn (heq.mp z)), Option.bind_some, Option.bind_some]; dsimp only; rw [k1]; rfl, ?_⟩
        rw [if_neg hn] at hWI ⊢
        refine ⟨⟨rfl, rfl, fun z => ?_, k2, k3, rfl, trivial⟩, hWI, rfl, rfl, rfl, rfl⟩
        have z' : nx = 3 := z
        show nI o = nI (if nx = 3 then o else w3)
        rw [if_pos z']
    unfold fX0_isPassedOver
    simp only [nI_zer w2 (by omega)]
    by_cases k2 : w2 = 0
    · obtain ⟨r, r1, r2⟩ := insp pa (by omega) (by omega)
      refine ⟨r, by rw [if_pos k2, Option.bind_some, if_pos rfl]; exact r1, ?_⟩
      rw [show spStepB lv ql tw sd rt o s f (w1, w2, w3, w4, w5, w6) = spInsp lv ql tw sd rt o s f (w1, w2, w3, w4, w5, w6) by
        unfold spStepB; rw [if_neg q3, if_neg (show ¬ (w2 = 1 ∧ w5 + 1 < rt) by omega)]]
      exact r2
    · have k1 : w2 = 1 := by omega
      have hpa : pa = nI w5 := c5 k1
      have hle : (nI rt ≤ pa + 1) ↔ rt ≤ w5 + 1 := by
        rw [hpa, show nI w5 + 1 = nI (w5 + 1) from nI_1 w5]
        exact nI_leI (by omega) (by omega)
      by_cases k3 : rt ≤ w5 + 1
      · obtain ⟨r, r1, r2⟩ := insp 0 (fun _ => rfl) (by omega)
        refine ⟨r, by rw [if_neg k2, if_pos (hle.mpr k3), Option.bind_some, if_pos rfl]; exact r1, ?_⟩
        rw [show spStepB lv ql tw sd rt o s f (w1, w2, w3, w4, w5, w6) = spInsp lv ql tw sd rt o s f (w1, w2, w3, w4, w5, w6) by
          unfold spStepB; rw [if_neg q3, if_neg (show ¬ (w2 = 1 ∧ w5 + 1 < rt) by omega)]]
        exact r2
      · refine ⟨_, by rw [if_neg k2, if_neg (fun z => k3 (hle.mp z)), Option.bind_some, if_neg (show ¬ (1 : Int32) = 0 by decide)]; rfl, ?_⟩
        have e : spStepB lv ql tw sd rt o s f (w1, w2, w3, w4, w5, w6) = (spTurn (w1, w2, w3, w4, w5, w6), (2, w1, 0, 0)) := by
          unfold spStepB; rw [if_neg q3, if_pos (show (w2 = 1 ∧ w5 + 1 < rt) by omega)]
        rw [e]
        refine ⟨⟨rfl, rfl, c3, c4, fun _ => ?_, rfl, c7⟩, ⟨h1, h2, Nat.le_succ_of_le h3, h4, h5, h6, Nat.le_succ_of_le h7, by show w5 + w2 ≤ n + 1; omega⟩, rfl, rfl, rfl, rfl⟩
        show pa + 1 = nI (w5 + w2)
        rw [hpa, k1]
        exact nI_1 w5
theorem c_pass {N n lv ql tw sd rt o s f : Nat} (hN : 100 ≤ N) (hcf : CFG lv ql tw sd rt) (hs : s ≤ 5000) (hf : f < 2 ^ 50) (hn : n < 60) {w : SpW} (hw : WI n w) {st sk ch ac pa ln : Int32} {hr hb : Nat → Int32} (hc : CR w st sk ch ac pa ln hr hb) {M : Nat → Nat} {p2 : Int32} (hmk : wst w = 3 → ((p2 ≤ ch) ↔ ¬ spMarked M (wstp w + 1) o = true)) (v t i b : Int32) : ∃ r, fX0_pass N p2 (nI sd) (nI rt) st sk ch ac pa ln hr hb (nI lv) (nI ql) (nI tw) (nI o) (nI s) (lN f) v t i b = some r ∧ CR (spStep lv ql tw sd rt M o s f w).1 r.1 r.2.1 r.2.2.1 r.2.2.2.1 r.2.2.2.2.1 r.2.2.2.2.2.1 r.2.2.2.2.2.2.1 r.2.2.2.2.2.2.2.1 ∧ WI (n + 1) (spStep lv ql tw sd rt M o s f w).1 ∧ r.2.2.2.2.2.2.2.2.1 = nI (ov (spStep lv ql tw sd rt M o s f w).2) ∧ r.2.2.2.2.2.2.2.2.2.1 = nI (ot (spStep lv ql tw sd rt M o s f w).2) ∧ r.2.2.2.2.2.2.2.2.2.2.1 = nI (oi (spStep lv ql tw sd rt M o s f w).2) ∧ r.2.2.2.2.2.2.2.2.2.2.2 = nI (ob (spStep lv ql tw sd rt M o s f w).2) := by
  have e3 : (st = 3) ↔ wst w = 3 := by
    rw [hc.1]
    have := hw.1
    exact nI_eq (b := 3) (by omega) (by omega)
  unfold fX0_pass spStep
  by_cases q3 : wst w = 3
  · rw [if_pos (e3.mpr q3)]
    by_cases qm : spMarked M (wstp w + 1) o = true
    · have ew : spWake M o w = (1, wsk w, wstp w, wgood w, wturn w, []) := by unfold spWake; rw [if_pos ⟨q3, qm⟩]
      rw [if_neg (fun z => (hmk q3).mp z qm), ew]
      obtain ⟨h1, h2, h3, h4, h5, h6, h7, h8⟩ := hw
      obtain ⟨c1, c2, c3, c4, c5, c6, c7⟩ := hc
      have z := h6 q3
      exact c_passB hN hcf hs hf hn (w := (1, wsk w, wstp w, wgood w, wturn w, [])) ⟨by show 1 ≤ 3; omega, h2, Nat.zero_le _, ⟨trivial, fun _ => by rw [spRef_nil]; omega, fun _ => by rw [spRef_nil]; omega⟩, fun _ => z, fun _ => z, h7, h8⟩ (st := 1) (ln := 0) ⟨rfl, c2, fun q => absurd q (by show ¬ (1 : Nat) = 3; omega), c4, c5, rfl, trivial⟩ v t i b
    · have ew : spWake M o w = w := by unfold spWake; rw [if_neg (fun z => qm z.2)]
      rw [if_pos ((hmk q3).mpr qm), ew]
      exact c_passB hN hcf hs hf hn hw hc v t i b
  · have ew : spWake M o w = w := by unfold spWake; rw [if_neg (fun z => q3 z.1)]
    rw [if_neg (fun z => q3 (e3.mp z)), ew]
    exact c_passB hN hcf hs hf hn hw hc v t i b

