theorem spStep_stp {lv ql tw sd rt o s f : Nat} {M : Nat → Nat} {w : SpW} (hw : wstp w < 200) (ho : o < 200) : wstp (spStep lv ql tw sd rt M o s f w).1 < 200 := by
  have h1 : wstp (spWake M o w) < 200 := by
    unfold spWake
    split
    · exact hw
    · exact hw
  unfold spStep spStepB
  generalize spWake M o w = v at *
  split
  · exact h1
  · split
    · exact h1
    · unfold spInsp
      show (if _ = 3 then o else wstp v) < 200
      split
      · exact ho
      · exact h1
theorem spW_stp {lv ql tw sd rt n : Nat} {M O S F : Nat → Nat} (hO : ∀ i, i < n → O i < 200) : ∀ c, c ≤ n → wstp (spW lv ql tw sd rt M O S F c) < 200
  | 0, _ => by show 0 < 200; omega
  | c + 1, h => spStep_stp (spW_stp hO c (by omega)) (hO c (by omega))
/-- what the class keeps of the lots gone through so far -/
def PG (lv ql tw sd rt c : Nat) (O S F M : Nat → Nat) (la_f : Nat → Option Nat) (pV pT pI pB : Nat → Int32) : Prop :=
  ∀ i, i < c → ∀ a, la_f (O i) = some a → pV a = nI (ov (spOut lv ql tw sd rt M O S F i)) ∧ pT a = nI (ot (spOut lv ql tw sd rt M O S F i)) ∧
    pI a = nI (oi (spOut lv ql tw sd rt M O S F i)) ∧ pB a = nI (ob (spOut lv ql tw sd rt M O S F i))
theorem up_at (f : Nat → Int32) (k : Nat) (v : Int32) : va_up f k v k = v := by simp [va_up]
theorem up_ne (f : Nat → Int32) {k j : Nat} (v : Int32) (h : j ≠ k) : va_up f k v j = f j := by simp [va_up, h]
theorem ja_step {N lv ql tw sd rt : Nat} {M : Nat → Nat} {la : Nat → Option Nat} {ma pO pZ : Nat → Int32} {pF : Nat → Int64} {pL : List Nat} {j : Nat} (hj : j < 200) (hm : M j ≤ 1 ∧ ma j = Int32.ofNat (M j)) (k : Nat) (x1 st sk ch ac pa ln : Int32) (hr hb pV pT pI pB : Nat → Int32) : fX5_judgeAll_b11 N la ma (nI lv) (nI ql) (nI tw) (nI sd) (nI rt) pL pO pZ pF (k + 1) x1 (nI j) st sk ch ac pa ln hr hb pV pT pI pB = (match la j with
    | none => fX5_judgeAll_b11 N la ma (nI lv) (nI ql) (nI tw) (nI sd) (nI rt) pL pO pZ pF k (if M j = 1 then nI j else x1) (nI (j + 1)) st sk ch ac pa ln hr hb pV pT pI pB
    | some a => (if a ∈ pL then ((fX0_pass N (if M j = 1 then nI j else x1) (nI sd) (nI rt) st sk ch ac pa ln hr hb (nI lv) (nI ql) (nI tw) (pO a) (pZ a) (pF a) (pV a) (pT a) (pI a) (pB a)).bind fun r => fX5_judgeAll_b11 N la ma (nI lv) (nI ql) (nI tw) (nI sd) (nI rt) pL pO pZ pF k (if M j = 1 then nI j else x1) (nI (j + 1)) r.1 r.2.1 r.2.2.1 r.2.2.2.1 r.2.2.2.2.1 r.2.2.2.2.2.1 r.2.2.2.2.2.2.1 r.2.2.2.2.2.2.2.1 (va_up pV a r.2.2.2.2.2.2.2.2.1) (va_up pT a r.2.2.2.2.2.2.2.2.2.1) (va_up pI a r.2.2.2.2.2.2.2.2.2.2.1) (va_up pB a r.2.2.2.2.2.2.2.2.2.2.2)) else none)) := by
  have e2 : ma j = nI (M j) := hm.2
  rw [fX5_judgeAll_b11, if_neg (show ¬ (200 : Int32) ≤ nI j from nI_ge (b := 200) (by omega) (by omega)), if_pos (okI_nI (by omega) (by omega)), nI_clamp (by omega), e2]
  unfold fX5_judgeAll_b29 fX5_judgeAll_b53
  simp only [if_pos (okI_nI (show j < 200 by omega) (show 200 < 2 ^ 31 by omega)), nI_clamp (show j < 2 ^ 31 by omega), Option.bind_some, nI_1, nI_zer (M j) (by omega)]
  by_cases h : M j = 1
  · rw [if_neg (show ¬ M j = 0 by omega), if_pos h]
    cases la j <;> rfl
  · rw [if_pos (show M j = 0 by omega), if_neg h]
    cases la j <;> rfl
theorem judge_walk {N n lv ql tw sd rt : Nat} (hN : 1000 ≤ N) (hcf : CFG lv ql tw sd rt) {O S F M : Nat → Nat} (hl : LOTS n O S F) {la : Nat → Option Nat} {ma pO pZ : Nat → Int32} {pF : Nat → Int64} {pL : List Nat} (hT : CTAB n O S F M la ma pL pO pZ pF) : ∀ (d j k c : Nat) (x1 st sk ch ac pa ln : Int32) (hr hb pV pT pI pB : Nat → Int32), 200 = j + d → d < k → c ≤ n → (∀ i, i < c → O i < j) → (∀ i, c ≤ i → i < n → j ≤ O i) → x1.toInt = spLast M j → WI c (spW lv ql tw sd rt M O S F c) → CR (spW lv ql tw sd rt M O S F c) st sk ch ac pa ln hr hb → PG lv ql tw sd rt c O S F M la pV pT pI pB → ∃ r, fX5_judgeAll_b11 N la ma (nI lv) (nI ql) (nI tw) (nI sd) (nI rt) pL pO pZ pF k x1 (nI j) st sk ch ac pa ln hr hb pV pT pI pB = some r ∧ DER lv ql tw sd rt n O S F M la r.1 r.2.1 r.2.2.2.2.2.2.2.2.1 r.2.2.2.2.2.2.2.2.2.1 r.2.2.2.2.2.2.2.2.2.2.1 r.2.2.2.2.2.2.2.2.2.2.2 := by
  obtain ⟨hn, hrg, hs⟩ := hl
  obtain ⟨t1, t2, t3⟩ := hT
  intro d
  induction d with
  | zero =>
    intro j k c x1 st sk ch ac pa ln hr hb pV pT pI pB hd hk hc ha hb' hx hW hC hP
    obtain ⟨k, rfl⟩ : ∃ q, k = q + 1 := ⟨k - 1, by omega⟩
    have hcn : c = n := by
      rcases Nat.lt_or_ge c n with q | q
      · have := hb' c (Nat.le_refl _) q
        have := (hrg c q).1
        omega
      · omega
    subst hcn
    refine ⟨_, by rw [fX5_judgeAll_b11, if_pos (show (200 : Int32) ≤ nI j from nI_le (a := 200) (by omega) (by omega))], ?_⟩
    exact ⟨hC.1, hC.2.1, hP⟩
  | succ d ih =>
    intro j k c x1 st sk ch ac pa ln hr hb pV pT pI pB hd hk hc ha hb' hx hW hC hP
    obtain ⟨k, rfl⟩ : ∃ q, k = q + 1 := ⟨k - 1, by omega⟩
    rw [ja_step (by omega) (t1 j (by omega))]
    have hx' : (if M j = 1 then nI j else x1).toInt = spLast M (j + 1) := by
      unfold spLast
      by_cases h : M j = 1
      · rw [if_pos h, if_pos h]
        exact nI_toInt (by omega)
      · rw [if_neg h, if_neg h]
        exact hx
    generalize (if M j = 1 then nI j else x1) = x1' at *
    cases hla : la j with
    | none =>
      have hne : ∀ i, i < n → O i ≠ j := fun i hi z => by
        obtain ⟨a, hq⟩ := t3 i hi
        rw [z, hla] at hq
        cases hq
      dsimp only
      exact ih (j + 1) k c x1' st sk ch ac pa ln hr hb pV pT pI pB (by omega) (by omega) hc (fun i hi => by have := ha i hi; omega) (fun i hi hin => by have := hb' i hi hin; have := hne i hin; omega) hx' hW hC hP
    | some a =>
      obtain ⟨q1, q2, i, hi, hOi, q3, q4⟩ := t2 j (by omega) a hla
      have hic : i = c := by
        rcases Nat.lt_trichotomy i c with q | q | q
        · have := ha i q; omega
        · exact q
        · have := hs c i q hi
          have := hb' c (Nat.le_refl _) (by omega)
          omega
      subst hic
      have hmk : wst (spW lv ql tw sd rt M O S F i) = 3 → ((x1' ≤ ch) ↔ ¬ spMarked M (wstp (spW lv ql tw sd rt M O S F i) + 1) (O i) = true) := by
        intro h3
        have hst := spW_stp (lv := lv) (ql := ql) (tw := tw) (sd := sd) (rt := rt) (M := M) (S := S) (F := F) (fun i hi => (hrg i hi).1) i (by omega)
        rw [← last_mark, hOi, Int32.le_iff_toInt_le, hC.2.2.1 h3, nI_toInt (by omega), hx']
      obtain ⟨r, r1, r2, r3, r4, r5, r6, r7⟩ := c_pass (N := N) (n := i) (o := O i) (by omega) hcf (hrg i hi).2.2.1 (hrg i hi).2.2.2 (by omega) hW hC hmk (pV a) (pT a) (pI a) (pB a)
      dsimp only
      rw [if_pos q1, q2, q3, q4, ← hOi]
      rw [show fX0_pass N x1' (nI sd) (nI rt) st sk ch ac pa ln hr hb (nI lv) (nI ql) (nI tw) (Int32.ofNat (O i)) (Int32.ofNat (S i)) (Int64.ofNat (F i)) (pV a) (pT a) (pI a) (pB a) = some r from r1, Option.bind_some]
      rw [hOi]
      refine ih (j + 1) k (i + 1) x1' _ _ _ _ _ _ _ _ _ _ _ _ (by omega) (by omega) (by omega) (fun q hq => by
        rcases Nat.lt_or_ge q i with z | z
        · have := ha q z; omega
        · have : q = i := by omega
          subst this; omega) (fun q hq hqn => by have := hs i q (by omega) hqn; omega) hx' r3 r2 ?_
      intro q hq a' ha'
      by_cases hqi : q = i
      · subst hqi
        have : a' = a := by rw [hOi, hla] at ha'; cases ha'; rfl
        subst this
        rw [up_at, up_at, up_at, up_at]
        exact ⟨r4, r5, r6, r7⟩
      · have hne : a' ≠ a := by
          intro z
          have hOq := hs q i (by omega) hi
          have := (t2 (O q) (by omega) a' ha').2.1
          rw [z, q2] at this
          have := (nI_eq (a := j) (b := O q) (by omega) (by omega)).mp this
          omega
        rw [up_ne _ _ hne, up_ne _ _ hne, up_ne _ _ hne, up_ne _ _ hne]
        exact hP q (by omega) a' ha'
theorem c_judge {N n lv ql tw sd rt : Nat} (hN : 1000 ≤ N) (hcf : CFG lv ql tw sd rt) {O S F M : Nat → Nat} (hl : LOTS n O S F) {la : Nat → Option Nat} {ma pO pZ : Nat → Int32} {pF : Nat → Int64} {pL : List Nat} (hT : CTAB n O S F M la ma pL pO pZ pF) (st sk ch ac pa ln : Int32) (hr hb pV pT pI pB : Nat → Int32) : ∃ r, fX5_judgeAll N la ma (nI lv) (nI ql) (nI tw) (nI sd) (nI rt) st sk ch ac pa ln hr hb pL pO pZ pF pV pT pI pB = some r ∧ DER lv ql tw sd rt n O S F M la r.1 r.2.1 r.2.2.2.2.2.2.2.2.1 r.2.2.2.2.2.2.2.2.2.1 r.2.2.2.2.2.2.2.2.2.2.1 r.2.2.2.2.2.2.2.2.2.2.2 := by
  unfold fX5_judgeAll fX0_restart fX0_begin fX2_clear
  rw [Option.bind_some, Option.bind_some, Option.bind_some]
  exact judge_walk hN hcf hl hT 200 0 N 0 (-1) 0 0 ch 0 pa 0 hr hb pV pT pI pB (by omega) (by omega) (Nat.zero_le _) (fun i hi => absurd hi (Nat.not_lt_zero _)) (fun i _ _ => Nat.zero_le _) rfl ⟨Nat.zero_le _, Nat.zero_le _, Nat.zero_le _, ⟨trivial, fun _ => Nat.zero_le _, fun _ => Nat.zero_le _⟩, fun _ => rfl, fun _ => rfl, Nat.zero_le _, Nat.zero_le _⟩ ⟨rfl, rfl, fun z => absurd z (by show ¬ (0 : Nat) = 3; omega), fun _ => rfl, fun z => absurd z (by show ¬ (0 : Nat) = 1; omega), rfl, trivial⟩ (fun i hi => absurd hi (Nat.not_lt_zero _))

