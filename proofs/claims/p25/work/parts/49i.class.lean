-- the class's calls over what the lots are: what each answers, what the lots are then
def updF (F : Nat → Nat) (i f : Nat) (k : Nat) : Nat := if k = i then f else F k
theorem updF_at (F : Nat → Nat) (i f : Nat) : updF F i f i = f := if_pos rfl
theorem updF_ne (F : Nat → Nat) {i k : Nat} (f : Nat) (h : k ≠ i) : updF F i f k = F k := if_neg h
theorem k_split {o : Nat} {O : Nat → Nat} : ∀ (n : Nat), (∀ i j, i < j → j < n → O i < O j) → (∀ i, i < n → O i ≠ o) → ∃ p, p ≤ n ∧ (∀ q, q < p → O q < o) ∧ (∀ q, p ≤ q → q < n → o < O q)
  | 0, _, _ => ⟨0, Nat.le_refl _, fun q h => absurd h (Nat.not_lt_zero _), fun q _ h => absurd h (Nat.not_lt_zero _)⟩
  | n + 1, h, hne => by
    obtain ⟨p, p1, p2, p3⟩ := k_split n (fun i j a b => h i j a (by omega)) (fun i hi => hne i (by omega))
    have e := hne n (by omega)
    by_cases c : O n < o
    · refine ⟨n + 1, Nat.le_refl _, fun q hq => ?_, fun q a b => by omega⟩
      by_cases z : q = n
      · rw [z]; exact c
      · have := h q n (by omega) (by omega); omega
    · refine ⟨p, by omega, p2, fun q a b => ?_⟩
      by_cases z : q = n
      · rw [z]; omega
      · exact p3 q a (by omega)
theorem spW_cg {lv ql tw sd rt : Nat} {M O S F O' S' F' : Nat → Nat} : ∀ c, (∀ k, k < c → O' k = O k ∧ S' k = S k ∧ F' k = F k) → spW lv ql tw sd rt M O' S' F' c = spW lv ql tw sd rt M O S F c
  | 0, _ => rfl
  | c + 1, h => by
    obtain ⟨a, b, d⟩ := h c (by omega)
    show (spStep lv ql tw sd rt M (O' c) (S' c) (F' c) (spW lv ql tw sd rt M O' S' F' c)).1 = _
    rw [spW_cg c (fun k hk => h k (by omega)), a, b, d]
    rfl
theorem spOut_cg {lv ql tw sd rt : Nat} {M O S F O' S' F' : Nat → Nat} {c : Nat} (h : ∀ k, k < c + 1 → O' k = O k ∧ S' k = S k ∧ F' k = F k) : spOut lv ql tw sd rt M O' S' F' c = spOut lv ql tw sd rt M O S F c := by
  obtain ⟨a, b, d⟩ := h c (by omega)
  unfold spOut
  rw [spW_cg c (fun k hk => h k (by omega)), a, b, d]
section K
variable {N n lv ql tw sd rt : Nat} {O S F M : Nat → Nat} {la : Nat → Option Nat} {ma pO pZ : Nat → Int32} {pF : Nat → Int64} {pL : List Nat} {cst csk : Int32} {pV pT pI pB : Nat → Int32}
theorem k_find (hl : LOTS n O S F) (hT : CTAB n O S F M la ma pL pO pZ pF) {i : Nat} (hi : i < n) : ∃ a, la (O i) = some a ∧ a ∈ pL ∧ fX5_findLot N (nI (O i)) la = some (some a) := by
  rcases c_find (N := N) hl hT (nI (O i)) with ⟨j, hj, hy, a, h1, h2, h3⟩ | ⟨hno, -⟩
  · have hOO := (nI_eq (a := O i) (b := O j) (by have := (hl.2.1 i hi).1; omega) (by have := (hl.2.1 j hj).1; omega)).mp hy
    rw [← hOO] at h1
    exact ⟨a, h1, h2, h3⟩
  · exact absurd rfl (hno i hi)
theorem K_verdict (hl : LOTS n O S F) (hT : CTAB n O S F M la ma pL pO pZ pF) (hD : DER lv ql tw sd rt n O S F M la cst csk pV pT pI pB) {i : Nat} (hi : i < n) : fX5_verdict N (nI (O i)) la pL pV = some (.inr (nI (ov (spOut lv ql tw sd rt M O S F i)))) := by
  obtain ⟨a, h1, h2, h3⟩ := k_find (N := N) hl hT hi
  unfold fX5_verdict
  rw [h3, Option.bind_some]
  dsimp only
  rw [if_pos h2]
  exact congrArg (fun z => some (Sum.inr z)) (hD.2.2 i hi a h1).1
theorem K_stateAt (hl : LOTS n O S F) (hT : CTAB n O S F M la ma pL pO pZ pF) (hD : DER lv ql tw sd rt n O S F M la cst csk pV pT pI pB) {i : Nat} (hi : i < n) : fX5_stateAt N (nI (O i)) la pL pT = some (.inr (nI (ot (spOut lv ql tw sd rt M O S F i)))) := by
  obtain ⟨a, h1, h2, h3⟩ := k_find (N := N) hl hT hi
  unfold fX5_stateAt
  rw [h3, Option.bind_some]
  dsimp only
  rw [if_pos h2]
  exact congrArg (fun z => some (Sum.inr z)) (hD.2.2 i hi a h1).2.1
theorem K_inspected (hl : LOTS n O S F) (hT : CTAB n O S F M la ma pL pO pZ pF) (hD : DER lv ql tw sd rt n O S F M la cst csk pV pT pI pB) {i : Nat} (hi : i < n) : fX5_inspected N (nI (O i)) la pL pI = some (.inr (nI (oi (spOut lv ql tw sd rt M O S F i)))) := by
  obtain ⟨a, h1, h2, h3⟩ := k_find (N := N) hl hT hi
  unfold fX5_inspected
  rw [h3, Option.bind_some]
  dsimp only
  rw [if_pos h2]
  exact congrArg (fun z => some (Sum.inr z)) (hD.2.2 i hi a h1).2.2.1
theorem K_badIn (hl : LOTS n O S F) (hT : CTAB n O S F M la ma pL pO pZ pF) (hD : DER lv ql tw sd rt n O S F M la cst csk pV pT pI pB) {i : Nat} (hi : i < n) : fX5_badIn N (nI (O i)) la pL pB = some (.inr (nI (ob (spOut lv ql tw sd rt M O S F i)))) := by
  obtain ⟨a, h1, h2, h3⟩ := k_find (N := N) hl hT hi
  unfold fX5_badIn
  rw [h3, Option.bind_some]
  dsimp only
  rw [if_pos h2]
  exact congrArg (fun z => some (Sum.inr z)) (hD.2.2 i hi a h1).2.2.2
theorem K_orderAt (hN : 1000 ≤ N) (hl : LOTS n O S F) (hT : CTAB n O S F M la ma pL pO pZ pF) {p : Nat} (hp : p < n) : fX5_orderAt N (nI p) la = some (.inr (nI (O p))) := by
  obtain ⟨hn, hr, hs⟩ := hl
  obtain ⟨t1, t2, t3⟩ := hT
  have hw := at_walk (N := N) hn hs (fun o ho a h => by obtain ⟨-, -, i, hi, hO, -⟩ := t2 o ho a h; exact ⟨i, hi, hO⟩) t3 (fun i hi => (hr i hi).1) (nI p) 200 0 N 0 (by omega) (by omega) (Nat.zero_le _) (fun i hi => absurd hi (Nat.not_lt_zero _)) (fun i _ _ => Nat.zero_le _)
  exact hw.1 p (Nat.zero_le _) hp rfl
theorem in3 {v : Nat} (hv : v ≤ 3) : ¬ (nI v < 0 ∨ 3 < nI v) := fun h => h.elim (nI_pos (by omega)) (fun q => by have := (nI_ltI (a := 3) (b := v) (by omega) (by omega)).mp q; omega)
theorem K_count (hN : 1000 ≤ N) (hl : LOTS n O S F) (hT : CTAB n O S F M la ma pL pO pZ pF) (hD : DER lv ql tw sd rt n O S F M la cst csk pV pT pI pB) {v : Nat} (hv : v ≤ 3) : fX5_count N (nI v) la pL pV = some (.inr (nI (spCnt (nI v) (fun i => ov (spOut lv ql tw sd rt M O S F i)) n))) := by
  have hn := hl.1
  unfold fX5_count
  rw [within_eq, Option.bind_some, if10 (in3 hv), if_neg (by decide)]
  exact cc_walk (N := N) (pL := pL) (pV := pV) (v := fun i => ov (spOut lv ql tw sd rt M O S F i)) hn hl.2.2 (fun o ho a ha => by obtain ⟨q1, -, i, hi, hO, -⟩ := hT.2.1 o ho a ha; exact ⟨q1, i, hi, hO⟩) hT.2.2 (fun i hi => (hl.2.1 i hi).1) (fun i hi a ha => (hD.2.2 i hi a ha).1) (nI v) 200 0 N 0 (by omega) (by omega) (Nat.zero_le _) (fun i hi => absurd hi (Nat.not_lt_zero _)) (fun i _ _ => Nat.zero_le _)
theorem K_skip (hcf : CFG lv ql tw sd rt) (hl : LOTS n O S F) (hD : DER lv ql tw sd rt n O S F M la cst csk pV pT pI pB) : fX5_isSkipping N csk = some csk := by
  have hW := WI_W (M := M) hcf hl n (Nat.le_refl _)
  have hb : nI (wsk (spW lv ql tw sd rt M O S F n)) = 0 ∨ nI (wsk (spW lv ql tw sd rt M O S F n)) = 1 := by
    have := hW.2.1
    rcases (show wsk (spW lv ql tw sd rt M O S F n) = 0 ∨ wsk (spW lv ql tw sd rt M O S F n) = 1 by omega) with q | q
    · rw [q]; exact Or.inl rfl
    · rw [q]; exact Or.inr rfl
  have e : csk = nI (wsk (spW lv ql tw sd rt M O S F n)) := hD.2.1
  unfold fX5_isSkipping
  rw [e, if_pos hb]
theorem K_correct (hN : 1000 ≤ N) (hcf : CFG lv ql tw sd rt) (hl : LOTS n O S F) (hT : CTAB n O S F M la ma pL pO pZ pF) (st sk ch ac pa ln : Int32) (hr hb pV pT pI pB : Nat → Int32) {i f : Nat} (hi : i < n) (hf : f < 2 ^ 50) : ∃ q, fX5_correct N (nI (O i)) (lN f) la ma (nI lv) (nI ql) (nI tw) (nI sd) (nI rt) st sk ch ac pa ln hr hb pL pO pZ pF pV pT pI pB = some (.inr q) ∧ q.1 = lN (F i) ∧ LOTS n O S (updF F i f) ∧ CTAB n O S (updF F i f) M la ma pL pO pZ q.2.2.2.2.2.2.2.2.2.1 ∧ DER lv ql tw sd rt n O S (updF F i f) M la q.2.1 q.2.2.1 q.2.2.2.2.2.2.2.2.2.2.1 q.2.2.2.2.2.2.2.2.2.2.2.1 q.2.2.2.2.2.2.2.2.2.2.2.2.1 q.2.2.2.2.2.2.2.2.2.2.2.2.2 := by
  obtain ⟨a, h1, h2, h3⟩ := k_find (N := N) hl hT hi
  obtain ⟨t1, t2, t3⟩ := hT
  unfold fX5_correct
  rw [fnd_c, Option.bind_some, if10 (show ¬ ((lN f).toInt < 0 ∨ 2 ^ 50 ≤ (lN f).toInt) by rw [lN_toInt' (by omega)]; omega), if_neg (by decide)]
  have hl' : LOTS n O S (updF F i f) := by
    refine ⟨hl.1, fun k hk => ?_, hl.2.2⟩
    obtain ⟨b1, b2, b3, b4⟩ := hl.2.1 k hk
    refine ⟨b1, b2, b3, ?_⟩
    by_cases hki : k = i
    · rw [hki, updF_at]; exact hf
    · rw [updF_ne _ _ hki]; exact b4
  obtain ⟨-, qO, k0, hk0, hOk0, -, pFa⟩ := t2 (O i) (hl.2.1 i hi).1 a h1
  have hT' : CTAB n O S (updF F i f) M la ma pL pO pZ (va_up pF a (lN f)) := by
    refine ⟨t1, fun o ho a' ha' => ?_, t3⟩
    obtain ⟨c1, c2, k, hk, hOk, c3, c4⟩ := t2 o ho a' ha'
    refine ⟨c1, c2, k, hk, hOk, c3, ?_⟩
    by_cases hki : k = i
    · have : a' = a := by
        rw [hki] at hOk
        rw [← hOk, h1] at ha'
        cases ha'
        rfl
      rw [this, hki, updF_at]
      simp [va_up]
      rfl
    · have hne : a' ≠ a := by
        intro e
        rw [e, qO] at c2
        have := (nI_eq (a := O i) (b := o) (by have := (hl.2.1 i hi).1; omega) (by omega)).mp c2
        rw [← hOk] at this
        exact hki (mono_inj hl.2.2 hk hi this.symm)
      rw [updF_ne _ _ hki]
      simp only [va_up, if_neg hne]
      exact c4
  have hk0i : k0 = i := mono_inj hl.2.2 hk0 hi hOk0
  rw [hk0i] at pFa
  obtain ⟨r, r1, r2⟩ := c_judge (N := N) hN hcf hl' hT' st sk ch ac pa ln hr hb pV pT pI pB
  refine ⟨(pF a, r.1, r.2.1, r.2.2.1, r.2.2.2.1, r.2.2.2.2.1, r.2.2.2.2.2.1, r.2.2.2.2.2.2.1, r.2.2.2.2.2.2.2.1, va_up pF a (lN f), r.2.2.2.2.2.2.2.2.1, r.2.2.2.2.2.2.2.2.2.1, r.2.2.2.2.2.2.2.2.2.2.1, r.2.2.2.2.2.2.2.2.2.2.2), ?_, pFa, hl', hT', r2⟩
  rw [h3, Option.bind_some]
  dsimp only
  rw [if_pos h2, if_pos h2, r1]
  rfl
theorem K_strike (hN : 1000 ≤ N) (hcf : CFG lv ql tw sd rt) (hl : LOTS (n + 1) O S F) (hT : CTAB (n + 1) O S F M la ma pL pO pZ pF) (st sk ch ac pa ln : Int32) (hr hb pV pT pI pB : Nat → Int32) {i : Nat} (hi : i < n + 1) : ∃ q, fX5_strike N (nI (O i)) (nI (n + 1)) la ma (nI lv) (nI ql) (nI tw) (nI sd) (nI rt) st sk ch ac pa ln hr hb pL pO pZ pF pV pT pI pB = some (.inr q) ∧ q.1 = nI n ∧ q.2.1 = nI n ∧ LOTS n (cutAt i O) (cutAt i S) (cutAt i F) ∧ CTAB n (cutAt i O) (cutAt i S) (cutAt i F) M q.2.2.1 ma pL pO pZ pF ∧ DER lv ql tw sd rt n (cutAt i O) (cutAt i S) (cutAt i F) M q.2.2.1 q.2.2.2.1 q.2.2.2.2.1 q.2.2.2.2.2.2.2.2.2.2.2.1 q.2.2.2.2.2.2.2.2.2.2.2.2.1 q.2.2.2.2.2.2.2.2.2.2.2.2.2.1 q.2.2.2.2.2.2.2.2.2.2.2.2.2.2 := by
  have hO := (hl.2.1 i hi).1
  obtain ⟨a, ha⟩ := hT.2.2 i hi
  have hT' := cut_tab hl hi hT
  have hl' := cut_lots (i := i) hl
  obtain ⟨r, r1, r2⟩ := c_judge (N := N) hN hcf hl' hT' st sk ch ac pa ln hr hb pV pT pI pB
  refine ⟨(nI (n + 1) - 1, nI (n + 1) - 1, va_up la (O i) none, r.1, r.2.1, r.2.2.1, r.2.2.2.1, r.2.2.2.2.1, r.2.2.2.2.2.1, r.2.2.2.2.2.2.1, r.2.2.2.2.2.2.2.1, r.2.2.2.2.2.2.2.2.1, r.2.2.2.2.2.2.2.2.2.1, r.2.2.2.2.2.2.2.2.2.2.1, r.2.2.2.2.2.2.2.2.2.2.2), ?_, nI_pred n, nI_pred n, hl', hT', r2⟩
  unfold fX5_strike fX5_strike_b16
  rw [order_eq, Option.bind_some]
  rw [if10 (show ¬ (nI (O i) < 0 ∨ 199 < nI (O i)) from fun h => h.elim (nI_pos (by omega)) (fun q => by have := (nI_ltI (a := 199) (b := O i) (by omega) (by omega)).mp q; omega))]
  simp only [if_neg (show ¬ (1 : Int32) = 0 by decide), if_pos (okI_nI hO (show 200 < 2 ^ 31 by omega)), nI_clamp (show O i < 2 ^ 31 by omega), ha, Option.bind_some, r1]
theorem K_noStrike (hl : LOTS n O S F) (hT : CTAB n O S F M la ma pL pO pZ pF) (x p1 p2 p3 p4 p5 st sk ch ac pa ln : Int32) (hr hb pV pT pI pB : Nat → Int32) {y : Int32} (hno : ∀ i, i < n → y ≠ nI (O i)) : fX5_strike N y x la ma p1 p2 p3 p4 p5 st sk ch ac pa ln hr hb pL pO pZ pF pV pT pI pB = some (.inl 2) := by
  unfold fX5_strike fX5_strike_b16
  rw [order_eq, Option.bind_some]
  by_cases h : y < 0 ∨ 199 < y
  · rw [if01 h]; rfl
  · rw [if10 h, if_neg (by decide)]
    obtain ⟨o, -, ho, rfl⟩ := rng (lo := 0) (hi := 199) (by omega) (by omega) h
    simp only [if_pos (okI_nI (show o < 200 by omega) (show 200 < 2 ^ 31 by omega)), nI_clamp (show o < 2 ^ 31 by omega), Option.bind_some]
    cases hla : la o with
    | none => rfl
    | some a =>
      obtain ⟨-, -, k, hk, hOk, -⟩ := hT.2.1 o (by omega) a hla
      exact absurd (by rw [hOk]) (hno k hk)
theorem k_recHead {o s f : Nat} (ho : o < 200) (hs2 : 2 ≤ s) (hs : s ≤ 5000) (hf : f < 2 ^ 50) : ¬ (nI o < 0 ∨ 199 < nI o) ∧ ¬ (nI s < 2 ∨ 5000 < nI s) ∧ ¬ ((lN f).toInt < 0 ∨ 2 ^ 50 ≤ (lN f).toInt) := by
  refine ⟨fun h => h.elim (nI_pos (by omega)) (fun q => ?_), fun h => h.elim (fun q => ?_) (fun q => ?_), ?_⟩
  · have := (nI_ltI (a := 199) (b := o) (by omega) (by omega)).mp q; omega
  · have := (nI_ltI (a := s) (b := 2) (by omega) (by omega)).mp q; omega
  · have := (nI_ltI (a := 5000) (b := s) (by omega) (by omega)).mp q; omega
  · rw [lN_toInt' (by omega)]; omega
theorem K_noRecord (hl : LOTS n O S F) (hT : CTAB n O S F M la ma pL pO pZ pF) (p1 p2 p3 p4 p5 st sk ch ac pa ln : Int32) (hr hb pV pT pI pB : Nat → Int32) {o s f : Nat} (ho : o < 200) (hs2 : 2 ≤ s) (hs : s ≤ 5000) (hf : f < 2 ^ 50) (h : n = 60 ∨ ∃ i, i < n ∧ O i = o) : fX5_record N (nI o) (nI s) (lN f) (nI n) la ma p1 p2 p3 p4 p5 st sk ch ac pa ln hr hb pL pO pZ pF pV pT pI pB = some (.inl 2) := by
  have hn := hl.1
  obtain ⟨h1, h2, h3⟩ := k_recHead ho hs2 hs hf
  unfold fX5_record fX5_record_b21 fX5_record_b49
  simp only [order_eq, lot_eq, fnd_c, Option.bind_some]
  rw [if10 h1, if10 h2, if10 h3]
  simp only [if_neg (show ¬ (1 : Int32) = 0 by decide), if_pos (okI_nI ho (show 200 < 2 ^ 31 by omega)), nI_clamp (show o < 2 ^ 31 by omega), Option.bind_some]
  cases hla : la o with
  | some a => rfl
  | none =>
    rcases h with h | ⟨i, hi, hO⟩
    · dsimp only
      have l60 : (nI n < 60) ↔ n < 60 := nI_ltI (b := 60) (by omega) (by omega)
      simp only [l60]
      rw [if_neg (by omega)]
    · obtain ⟨a, ha⟩ := hT.2.2 i hi
      rw [hO, hla] at ha
      cases ha
theorem K_record (hN : 1000 ≤ N) (hcf : CFG lv ql tw sd rt) (hl : LOTS n O S F) (hT : CTAB n O S F M la ma pL pO pZ pF) (st sk ch ac pa ln : Int32) (hr hb pV pT pI pB : Nat → Int32) {o s f : Nat} (ho : o < 200) (hs2 : 2 ≤ s) (hs : s ≤ 5000) (hf : f < 2 ^ 50) (h60 : n < 60) (hne : ∀ i, i < n → O i ≠ o) : ∃ p g, p ≤ n ∧ (∀ q, q < p → O q < o) ∧ (∀ q, p ≤ q → q < n → o < O q) ∧ fX5_record N (nI o) (nI s) (lN f) (nI n) la ma (nI lv) (nI ql) (nI tw) (nI sd) (nI rt) st sk ch ac pa ln hr hb pL pO pZ pF pV pT pI pB = some (.inr g) ∧ LOTS (n + 1) (putAt p o O) (putAt p s S) (putAt p f F) ∧ ∀ q, q ∉ pL → ∃ v, g q = some v ∧ (v.1) = nI (n + 1) ∧ (v.2.1) = nI (n + 1) ∧ CTAB (n + 1) (putAt p o O) (putAt p s S) (putAt p f F) M (v.2.2.1) ma (v.2.2.2.2.2.2.2.2.2.2.2.1) (v.2.2.2.2.2.2.2.2.2.2.2.2.1) (v.2.2.2.2.2.2.2.2.2.2.2.2.2.1) (v.2.2.2.2.2.2.2.2.2.2.2.2.2.2.1) ∧ DER lv ql tw sd rt (n + 1) (putAt p o O) (putAt p s S) (putAt p f F) M (v.2.2.1) (v.2.2.2.1) (v.2.2.2.2.1) (v.2.2.2.2.2.2.2.2.2.2.2.2.2.2.2.1) (v.2.2.2.2.2.2.2.2.2.2.2.2.2.2.2.2.1) (v.2.2.2.2.2.2.2.2.2.2.2.2.2.2.2.2.2.1) (v.2.2.2.2.2.2.2.2.2.2.2.2.2.2.2.2.2.2) := by
  have hn := hl.1
  obtain ⟨h1, h2, h3⟩ := k_recHead ho hs2 hs hf
  obtain ⟨p, p1, p2, p3⟩ := k_split n hl.2.2 hne
  have hla : la o = none := by
    cases hla : la o with
    | none => rfl
    | some a =>
      obtain ⟨-, -, k, hk, hOk, -⟩ := hT.2.1 o (by omega) a hla
      exact absurd hOk (hne k hk)
  unfold fX5_record fX5_record_b21 fX5_record_b49
  simp only [order_eq, lot_eq, fnd_c, Option.bind_some]
  rw [if10 h1, if10 h2, if10 h3]
  simp only [if_neg (show ¬ (1 : Int32) = 0 by decide), if_pos (okI_nI ho (show 200 < 2 ^ 31 by omega)), nI_clamp (show o < 2 ^ 31 by omega), Option.bind_some]
  rw [hla]
  dsimp only
  have l60 : (nI n < 60) ↔ n < 60 := nI_ltI (b := 60) (by omega) (by omega)
  simp only [l60]
  rw [if_pos h60]
  have hl' := put_lots (s := s) (f := f) h60 ho hs2 hs hf hl p1 p2 p3
  refine ⟨p, _, p1, p2, p3, rfl, hl', fun q hq => ?_⟩
  have hT' := put_tab (s := s) (f := f) h60 ho hl p1 p2 p3 hq hT
  obtain ⟨r, r1, r2⟩ := c_judge (N := N) hN hcf hl' hT' st sk ch ac pa ln hr hb (va_up pV q 0) (va_up pT q 0) (va_up pI q 0) (va_up pB q 0)
  unfold fX3_init
  rw [Option.bind_some, if_pos (by simp)]
  dsimp only
  rw [r1, Option.bind_some]
  exact ⟨(nI n + 1, nI n + 1, va_up la o (some q), r.1, r.2.1, r.2.2.1, r.2.2.2.1, r.2.2.2.2.1, r.2.2.2.2.2.1, r.2.2.2.2.2.2.1, r.2.2.2.2.2.2.2.1, pL ++ [q], va_up pO q (nI o), va_up pZ q (nI s), va_up pF q (lN f), r.2.2.2.2.2.2.2.2.1, r.2.2.2.2.2.2.2.2.2.1, r.2.2.2.2.2.2.2.2.2.2.1, r.2.2.2.2.2.2.2.2.2.2.2), rfl, nI_1 n, nI_1 n, hT', r2⟩
theorem K_setPlan (hN : 1000 ≤ N) (hcf : CFG lv ql tw sd rt) (hl : LOTS n O S F) (hT : CTAB n O S F M la ma pL pO pZ pF) (st sk ch ac pa ln : Int32) (hr hb pV pT pI pB : Nat → Int32) {lv' ql' : Nat} (h2 : lv' ≤ 2) (h4 : ql' ≤ 3) : ∃ q, CFG lv' ql' tw sd rt ∧ fX5_setPlan N (nI lv') (nI ql') la ma (nI lv) (nI ql) (nI tw) (nI sd) (nI rt) st sk ch ac pa ln hr hb pL pO pZ pF pV pT pI pB = some (.inr q) ∧ q.1 = nI lv' ∧ q.2.1 = nI ql' ∧ DER lv' ql' tw sd rt n O S F M la q.2.2.1 q.2.2.2.1 q.2.2.2.2.2.2.2.2.2.2.1 q.2.2.2.2.2.2.2.2.2.2.2.1 q.2.2.2.2.2.2.2.2.2.2.2.2.1 q.2.2.2.2.2.2.2.2.2.2.2.2.2 := by
  have hcf' : CFG lv' ql' tw sd rt := ⟨h2, h4, hcf.2.2⟩
  obtain ⟨r, r1, r2⟩ := c_judge (N := N) hN hcf' hl hT st sk ch ac pa ln hr hb pV pT pI pB
  refine ⟨(nI lv', nI ql', r.1, r.2.1, r.2.2.1, r.2.2.2.1, r.2.2.2.2.1, r.2.2.2.2.2.1, r.2.2.2.2.2.2.1, r.2.2.2.2.2.2.2.1, r.2.2.2.2.2.2.2.2.1, r.2.2.2.2.2.2.2.2.2.1, r.2.2.2.2.2.2.2.2.2.2.1, r.2.2.2.2.2.2.2.2.2.2.2), hcf', ?_, rfl, rfl, r2⟩
  unfold fX5_setPlan fX5_setPlan_b18
  rw [within_eq, within_eq, Option.bind_some, Option.bind_some]
  rw [if10 (show ¬ (nI lv' < 0 ∨ 2 < nI lv') from fun h => h.elim (nI_pos (by omega)) (fun q => by have := (nI_ltI (a := 2) (b := lv') (by omega) (by omega)).mp q; omega)), if10 (in3 h4)]
  rw [if_neg (by decide), if_neg (by decide), r1]
  rfl
theorem K_setWays (hN : 1000 ≤ N) (hcf : CFG lv ql tw sd rt) (hl : LOTS n O S F) (hT : CTAB n O S F M la ma pL pO pZ pF) (st sk ch ac pa ln : Int32) (hr hb pV pT pI pB : Nat → Int32) {tw' sd' rt' : Nat} (ht : tw' ≤ 1) (hs : sd' ≤ 1) (hrt : rt' = 0 ∨ (2 ≤ rt' ∧ rt' ≤ 5)) : ∃ q, CFG lv ql tw' sd' rt' ∧ fX5_setWays N (nI tw') (nI sd') (nI rt') la ma (nI lv) (nI ql) (nI tw) (nI sd) (nI rt) st sk ch ac pa ln hr hb pL pO pZ pF pV pT pI pB = some (.inr q) ∧ q.1 = nI tw' ∧ q.2.1 = nI sd' ∧ q.2.2.1 = nI rt' ∧ DER lv ql tw' sd' rt' n O S F M la q.2.2.2.1 q.2.2.2.2.1 q.2.2.2.2.2.2.2.2.2.2.2.1 q.2.2.2.2.2.2.2.2.2.2.2.2.1 q.2.2.2.2.2.2.2.2.2.2.2.2.2.1 q.2.2.2.2.2.2.2.2.2.2.2.2.2.2 := by
  have b1 : ∀ t : Nat, t ≤ 1 → nI t = 0 ∨ nI t = 1 := fun t h => by
    rcases (show t = 0 ∨ t = 1 by omega) with q | q
    · rw [q]; exact Or.inl rfl
    · rw [q]; exact Or.inr rfl
  have hcf' : CFG lv ql tw' sd' rt' := ⟨hcf.1, hcf.2.1, ht, hs, hrt⟩
  obtain ⟨r, r1, r2⟩ := c_judge (N := N) hN hcf' hl hT st sk ch ac pa ln hr hb pV pT pI pB
  refine ⟨(nI tw', nI sd', nI rt', r.1, r.2.1, r.2.2.1, r.2.2.2.1, r.2.2.2.2.1, r.2.2.2.2.2.1, r.2.2.2.2.2.2.1, r.2.2.2.2.2.2.2.1, r.2.2.2.2.2.2.2.2.1, r.2.2.2.2.2.2.2.2.2.1, r.2.2.2.2.2.2.2.2.2.2.1, r.2.2.2.2.2.2.2.2.2.2.2), hcf', ?_, rfl, rfl, rfl, r2⟩
  have fin : fX5_setWays_b23 N la ma (nI lv) (nI ql) pL pO pZ pF (nI tw') (nI sd') (nI rt') (nI tw) (nI sd) (nI rt) st sk ch ac pa ln hr hb pV pT pI pB = some (.inr (nI tw', nI sd', nI rt', r.1, r.2.1, r.2.2.1, r.2.2.2.1, r.2.2.2.2.1, r.2.2.2.2.2.1, r.2.2.2.2.2.2.1, r.2.2.2.2.2.2.2.1, r.2.2.2.2.2.2.2.2.1, r.2.2.2.2.2.2.2.2.2.1, r.2.2.2.2.2.2.2.2.2.2.1, r.2.2.2.2.2.2.2.2.2.2.2)) := by
    unfold fX5_setWays_b23
    rw [if_pos (b1 tw' ht), if_pos (b1 sd' hs), r1]
    rfl
  unfold fX5_setWays
  rcases hrt with rfl | ⟨h2, h5⟩
  · rw [if_pos nI_0]; exact fin
  · rw [if_neg (nI_ne0 (by omega) (by omega)), within_eq, Option.bind_some, if10 (show ¬ (nI rt' < 2 ∨ 5 < nI rt') from fun h => h.elim (fun q => by have := (nI_ltI (a := rt') (b := 2) (by omega) (by omega)).mp q; omega) (fun q => by have := (nI_ltI (a := 5) (b := rt') (by omega) (by omega)).mp q; omega)), if_neg (by decide)]
    exact fin
theorem K_toggle (hN : 1000 ≤ N) (hcf : CFG lv ql tw sd rt) (hl : LOTS n O S F) (hT : CTAB n O S F M la ma pL pO pZ pF) (st sk ch ac pa ln : Int32) (hr hb pV pT pI pB : Nat → Int32) {o : Nat} (ho : o < 200) : ∃ M' q, fX5_toggleMark N (nI o) la ma (nI lv) (nI ql) (nI tw) (nI sd) (nI rt) st sk ch ac pa ln hr hb pL pO pZ pF pV pT pI pB = some (.inr q) ∧ q.1 = nI (M' o) ∧ M' o = 1 - M o ∧ CTAB n O S F M' la q.2.1 pL pO pZ pF ∧ DER lv ql tw sd rt n O S F M' la q.2.2.1 q.2.2.2.1 q.2.2.2.2.2.2.2.2.2.2.1 q.2.2.2.2.2.2.2.2.2.2.2.1 q.2.2.2.2.2.2.2.2.2.2.2.2.1 q.2.2.2.2.2.2.2.2.2.2.2.2.2 := by
  obtain ⟨t1, t2, t3⟩ := hT
  have ok := okI_nI (n := o) (M := 200) (by omega) (by omega)
  have ecl := nI_clamp (show o < 2 ^ 31 by omega)
  obtain ⟨m1, m2⟩ := t1 o (by omega)
  have fin : ∀ y2 b, b = 1 - M o → vp_nar .boolean y2 = nI b → ∃ M' q, fX5_toggleMark_b36 N la (nI lv) (nI ql) (nI tw) (nI sd) (nI rt) pL pO pZ pF (nI o) (nI o) y2 ma st sk ch ac pa ln hr hb pV pT pI pB = some (.inr q) ∧ q.1 = nI (M' o) ∧ M' o = 1 - M o ∧ CTAB n O S F M' la q.2.1 pL pO pZ pF ∧ DER lv ql tw sd rt n O S F M' la q.2.2.1 q.2.2.2.1 q.2.2.2.2.2.2.2.2.2.2.1 q.2.2.2.2.2.2.2.2.2.2.2.1 q.2.2.2.2.2.2.2.2.2.2.2.2.1 q.2.2.2.2.2.2.2.2.2.2.2.2.2 := by
    intro y2 b hb' hy2
    have hT' : CTAB n O S F (updF M o b) la (upd ma o (nI b)) pL pO pZ pF := by
      refine ⟨fun k hk => ?_, t2, t3⟩
      by_cases hko : k = o
      · subst hko
        rw [ud_at, updF_at]
        exact ⟨by omega, rfl⟩
      · rw [ud_ne _ _ hko, updF_ne _ _ hko]
        exact t1 k hk
    obtain ⟨r, r1, r2⟩ := c_judge (N := N) hN hcf hl hT' st sk ch ac pa ln hr hb pV pT pI pB
    have hb2 : nI b = 0 ∨ nI b = 1 := by
      rcases (show b = 0 ∨ b = 1 by omega) with q | q
      · rw [q]; exact Or.inl rfl
      · rw [q]; exact Or.inr rfl
    refine ⟨updF M o b, (nI b, upd ma o (nI b), r.1, r.2.1, r.2.2.1, r.2.2.2.1, r.2.2.2.2.1, r.2.2.2.2.2.1, r.2.2.2.2.2.2.1, r.2.2.2.2.2.2.2.1, r.2.2.2.2.2.2.2.2.1, r.2.2.2.2.2.2.2.2.2.1, r.2.2.2.2.2.2.2.2.2.2.1, r.2.2.2.2.2.2.2.2.2.2.2), ?_, by rw [updF_at], by rw [updF_at]; exact hb', hT', r2⟩
    unfold fX5_toggleMark_b36
    simp only [if_pos ok, ecl, hy2, r1, Option.bind_some, ud_at, if_pos hb2]
  unfold fX5_toggleMark
  rw [order_eq, Option.bind_some]
  rw [if10 (show ¬ (nI o < 0 ∨ 199 < nI o) from fun h => h.elim (nI_pos (by omega)) (fun q => by have := (nI_ltI (a := 199) (b := o) (by omega) (by omega)).mp q; omega)), if_neg (show ¬ (1 : Int32) = 0 by decide)]
  rw [if_pos ok, ecl, show ma o = nI (M o) from m2]
  simp only [nI_zer (M o) (by omega)]
  by_cases hm : M o = 0
  · rw [if_pos hm]
    exact fin 1 1 (by omega) nar_b1
  · rw [if_neg hm]
    exact fin 0 0 (by omega) nar_b0
end K
