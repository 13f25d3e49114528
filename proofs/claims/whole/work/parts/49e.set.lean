theorem Q_setPlan {N n lv ql tw sd rt : Nat} (hN : 1000 ≤ N) (hcf : CFG lv ql tw sd rt) {O S F M : Nat → Nat} (hl : LOTS n O S F) {la : Nat → Option Nat} {ma pO pZ : Nat → Int32} {pF : Nat → Int64} {pL : List Nat} (hT : CTAB n O S F M la ma pL pO pZ pF) (st sk ch ac pa ln : Int32) (hr hb pV pT pI pB : Nat → Int32) (y1 y2 th : Int32) : (fX5_setPlan N y1 y2 la ma (nI lv) (nI ql) (nI tw) (nI sd) (nI rt) st sk ch ac pa ln hr hb pL pO pZ pF pV pT pI pB = some (.inl 1) ∧ fX6_setPlan N y1 y2 (nI lv) (nI ql) th = some (nI lv, nI ql, 1)) ∨ ∃ lv' ql' q, CFG lv' ql' tw sd rt ∧ fX5_setPlan N y1 y2 la ma (nI lv) (nI ql) (nI tw) (nI sd) (nI rt) st sk ch ac pa ln hr hb pL pO pZ pF pV pT pI pB = some (.inr q) ∧ fX6_setPlan N y1 y2 (nI lv) (nI ql) th = some (nI lv', nI ql', 0) ∧ q.1 = nI lv' ∧ q.2.1 = nI ql' ∧ DER lv' ql' tw sd rt n O S F M la q.2.2.1 q.2.2.2.1 q.2.2.2.2.2.2.2.2.2.2.1 q.2.2.2.2.2.2.2.2.2.2.2.1 q.2.2.2.2.2.2.2.2.2.2.2.2.1 q.2.2.2.2.2.2.2.2.2.2.2.2.2 := by
  unfold fX5_setPlan fX6_setPlan fX5_setPlan_b18 fX6_setPlan_b23 fX6_setPlan_b24
  rw [within_eq, within_eq, in_eq, in_eq, Option.bind_some, Option.bind_some, Option.bind_some, Option.bind_some]
  by_cases h : y1 < 0 ∨ 2 < y1
  · left
    rw [if01 h]
    exact ⟨rfl, rfl⟩
  by_cases h' : y2 < 0 ∨ 3 < y2
  · left
    rw [if10 h, if01 h']
    exact ⟨rfl, rfl⟩
  · right
    rw [if10 h, if10 h']
    obtain ⟨lv', -, h2, rfl⟩ := rng (lo := 0) (hi := 2) (by omega) (by omega) h
    obtain ⟨ql', -, h4, rfl⟩ := rng (lo := 0) (hi := 3) (by omega) (by omega) h'
    have hcf' : CFG lv' ql' tw sd rt := ⟨h2, h4, hcf.2.2⟩
    obtain ⟨r, r1, r2⟩ := c_judge (N := N) hN hcf' hl hT st sk ch ac pa ln hr hb pV pT pI pB
    refine ⟨lv', ql', (nI lv', nI ql', r.1, r.2.1, r.2.2.1, r.2.2.2.1, r.2.2.2.2.1, r.2.2.2.2.2.1, r.2.2.2.2.2.2.1, r.2.2.2.2.2.2.2.1, r.2.2.2.2.2.2.2.2.1, r.2.2.2.2.2.2.2.2.2.1, r.2.2.2.2.2.2.2.2.2.2.1, r.2.2.2.2.2.2.2.2.2.2.2), hcf', ?_, rfl, rfl, rfl, r2⟩
    rw [if_neg (by decide), if_neg (by decide), r1]
    rfl
theorem b01 {y : Int32} (h : y = 0 ∨ y = 1) : ∃ t : Nat, t ≤ 1 ∧ y = nI t := by
  rcases h with rfl | rfl
  · exact ⟨0, by omega, rfl⟩
  · exact ⟨1, by omega, rfl⟩
theorem Q_setWays {N n lv ql tw sd rt : Nat} (hN : 1000 ≤ N) (hcf : CFG lv ql tw sd rt) {O S F M : Nat → Nat} (hl : LOTS n O S F) {la : Nat → Option Nat} {ma pO pZ : Nat → Int32} {pF : Nat → Int64} {pL : List Nat} (hT : CTAB n O S F M la ma pL pO pZ pF) (st sk ch ac pa ln : Int32) (hr hb pV pT pI pB : Nat → Int32) (y1 y2 y3 th : Int32) (hb0 : y1 = 0 ∨ y1 = 1) (hb1 : y2 = 0 ∨ y2 = 1) : (fX5_setWays N y1 y2 y3 la ma (nI lv) (nI ql) (nI tw) (nI sd) (nI rt) st sk ch ac pa ln hr hb pL pO pZ pF pV pT pI pB = some (.inl 1) ∧ fX6_setWays N y1 y2 y3 (nI tw) (nI sd) (nI rt) th = some (nI tw, nI sd, nI rt, 1)) ∨ ∃ tw' sd' rt' q, CFG lv ql tw' sd' rt' ∧ fX5_setWays N y1 y2 y3 la ma (nI lv) (nI ql) (nI tw) (nI sd) (nI rt) st sk ch ac pa ln hr hb pL pO pZ pF pV pT pI pB = some (.inr q) ∧ fX6_setWays N y1 y2 y3 (nI tw) (nI sd) (nI rt) th = some (nI tw', nI sd', nI rt', 0) ∧ q.1 = nI tw' ∧ q.2.1 = nI sd' ∧ q.2.2.1 = nI rt' ∧ DER lv ql tw' sd' rt' n O S F M la q.2.2.2.1 q.2.2.2.2.1 q.2.2.2.2.2.2.2.2.2.2.2.1 q.2.2.2.2.2.2.2.2.2.2.2.2.1 q.2.2.2.2.2.2.2.2.2.2.2.2.2.1 q.2.2.2.2.2.2.2.2.2.2.2.2.2.2 := by
  obtain ⟨tw', t1, rfl⟩ := b01 hb0
  obtain ⟨sd', s1, rfl⟩ := b01 hb1
  have fin : ∀ rt', (rt' = 0 ∨ (2 ≤ rt' ∧ rt' ≤ 5)) → ∃ q, CFG lv ql tw' sd' rt' ∧ fX5_setWays_b23 N la ma (nI lv) (nI ql) pL pO pZ pF (nI tw') (nI sd') (nI rt') (nI tw) (nI sd) (nI rt) st sk ch ac pa ln hr hb pV pT pI pB = some (.inr q) ∧ q.1 = nI tw' ∧ q.2.1 = nI sd' ∧ q.2.2.1 = nI rt' ∧ DER lv ql tw' sd' rt' n O S F M la q.2.2.2.1 q.2.2.2.2.1 q.2.2.2.2.2.2.2.2.2.2.2.1 q.2.2.2.2.2.2.2.2.2.2.2.2.1 q.2.2.2.2.2.2.2.2.2.2.2.2.2.1 q.2.2.2.2.2.2.2.2.2.2.2.2.2.2 := by
    intro rt' hrt
    have hcf' : CFG lv ql tw' sd' rt' := ⟨hcf.1, hcf.2.1, t1, s1, hrt⟩
    obtain ⟨r, r1, r2⟩ := c_judge (N := N) hN hcf' hl hT st sk ch ac pa ln hr hb pV pT pI pB
    refine ⟨(nI tw', nI sd', nI rt', r.1, r.2.1, r.2.2.1, r.2.2.2.1, r.2.2.2.2.1, r.2.2.2.2.2.1, r.2.2.2.2.2.2.1, r.2.2.2.2.2.2.2.1, r.2.2.2.2.2.2.2.2.1, r.2.2.2.2.2.2.2.2.2.1, r.2.2.2.2.2.2.2.2.2.2.1, r.2.2.2.2.2.2.2.2.2.2.2), hcf', ?_, rfl, rfl, rfl, r2⟩
    unfold fX5_setWays_b23
    rw [if_pos hb0, if_pos hb1, r1]
    rfl
  have fim : ∀ y3, fX6_setWays_b14 N (nI tw') (nI sd') y3 (nI tw) (nI sd) (nI rt) th = some (nI tw', nI sd', y3, 0) := by
    intro y3
    unfold fX6_setWays_b14 fX6_setWays_b19
    rw [if_pos rfl, if_pos hb0, if_pos hb1]
  unfold fX5_setWays fX6_setWays
  by_cases h0 : y3 = 0
  · right
    rw [if_pos h0, if_pos h0]
    obtain ⟨q, z1, z2, z3⟩ := fin 0 (Or.inl rfl)
    exact ⟨tw', sd', 0, q, z1, by rw [h0]; exact z2, by rw [h0]; exact fim 0, z3⟩
  rw [if_neg h0, if_neg h0, within_eq, in_eq, Option.bind_some, Option.bind_some]
  by_cases h : y3 < 2 ∨ 5 < y3
  · left
    rw [if01 h]
    refine ⟨rfl, ?_⟩
    rw [if_pos rfl]
    unfold fX6_setWays_b19
    rw [if_neg (by decide)]
  · right
    rw [if10 h]
    obtain ⟨rt', h1, h2, rfl⟩ := rng (lo := 2) (hi := 5) (by omega) (by omega) h
    obtain ⟨q, z1, z2, z3⟩ := fin rt' (Or.inr ⟨h1, h2⟩)
    exact ⟨tw', sd', rt', q, z1, by rw [if_neg (by decide)]; exact z2, by rw [if_neg (by decide)]; exact fim _, z3⟩
theorem nar_b0 : vp_nar .boolean 0 = nI 0 := by decide +kernel
theorem nar_b1 : vp_nar .boolean 1 = nI 1 := by decide +kernel
theorem Q_toggleMark {N n lv ql tw sd rt : Nat} (hN : 1000 ≤ N) (hcf : CFG lv ql tw sd rt) {O S F M : Nat → Nat} (hl : LOTS n O S F) {la : Nat → Option Nat} {ma pO pZ : Nat → Int32} {pF : Nat → Int64} {pL : List Nat} (hT : CTAB n O S F M la ma pL pO pZ pF) {mk mo ms : Nat → Int32} {mf : Nat → Int64} (hM : MARR n O S F M mk mo ms mf) (st sk ch ac pa ln : Int32) (hr hb pV pT pI pB : Nat → Int32) (y1 th : Int32) : (fX5_toggleMark N y1 la ma (nI lv) (nI ql) (nI tw) (nI sd) (nI rt) st sk ch ac pa ln hr hb pL pO pZ pF pV pT pI pB = some (.inl 1) ∧ fX6_toggleMark N y1 th mk = some (0, 1, mk)) ∨ ∃ M' q v mk', fX5_toggleMark N y1 la ma (nI lv) (nI ql) (nI tw) (nI sd) (nI rt) st sk ch ac pa ln hr hb pL pO pZ pF pV pT pI pB = some (.inr q) ∧ fX6_toggleMark N y1 th mk = some (v, 0, mk') ∧ q.1 = v ∧ CTAB n O S F M' la q.2.1 pL pO pZ pF ∧ MARR n O S F M' mk' mo ms mf ∧ DER lv ql tw sd rt n O S F M' la q.2.2.1 q.2.2.2.1 q.2.2.2.2.2.2.2.2.2.2.1 q.2.2.2.2.2.2.2.2.2.2.2.1 q.2.2.2.2.2.2.2.2.2.2.2.2.1 q.2.2.2.2.2.2.2.2.2.2.2.2.2 := by
  obtain ⟨t1, t2, t3⟩ := hT
  unfold fX5_toggleMark fX6_toggleMark
  rw [order_eq, in_eq, Option.bind_some, Option.bind_some]
  by_cases h : y1 < 0 ∨ 199 < y1
  · left
    rw [if01 h]
    exact ⟨rfl, rfl⟩
  · right
    rw [if10 h, if_neg (show ¬ (1 : Int32) = 0 by decide), if_neg (show ¬ (1 : Int32) = 0 by decide)]
    obtain ⟨o, -, ho, rfl⟩ := rng (lo := 0) (hi := 199) (by omega) (by omega) h
    have ok := okI_nI (n := o) (M := 200) (by omega) (by omega)
    have ecl := nI_clamp (show o < 2 ^ 31 by omega)
    obtain ⟨m1, m2⟩ := t1 o (by omega)
    have m3 := hM.2 o (by omega)
    have fin : ∀ y2 b, b = 1 - M o → vp_nar .boolean y2 = nI b → ∃ M' q v mk', fX5_toggleMark_b36 N la (nI lv) (nI ql) (nI tw) (nI sd) (nI rt) pL pO pZ pF (nI o) (nI o) y2 ma st sk ch ac pa ln hr hb pV pT pI pB = some (.inr q) ∧ fX6_toggleMark_b17 N (nI o) 0 th mk = some (v, 0, mk') ∧ q.1 = v ∧ CTAB n O S F M' la q.2.1 pL pO pZ pF ∧ MARR n O S F M' mk' mo ms mf ∧ DER lv ql tw sd rt n O S F M' la q.2.2.1 q.2.2.2.1 q.2.2.2.2.2.2.2.2.2.2.1 q.2.2.2.2.2.2.2.2.2.2.2.1 q.2.2.2.2.2.2.2.2.2.2.2.2.1 q.2.2.2.2.2.2.2.2.2.2.2.2.2 := by
      intro y2 b hb' hy2
      have hMM : ∀ k, k ≠ o → (fun k => if k = o then b else M k) k = M k := fun k hk => if_neg hk
      have hMo : (fun k => if k = o then b else M k) o = b := if_pos rfl
      have hT' : CTAB n O S F (fun k => if k = o then b else M k) la (upd ma o (nI b)) pL pO pZ pF := by
        refine ⟨fun k hk => ?_, t2, t3⟩
        by_cases hko : k = o
        · subst hko
          rw [ud_at, hMo]
          exact ⟨by omega, rfl⟩
        · rw [ud_ne _ _ hko, hMM k hko]
          exact t1 k hk
      obtain ⟨r, r1, r2⟩ := c_judge (N := N) hN hcf hl hT' st sk ch ac pa ln hr hb pV pT pI pB
      have hb2 : nI b = 0 ∨ nI b = 1 := by
        rcases (show b = 0 ∨ b = 1 by omega) with q | q
        · rw [q]; exact Or.inl rfl
        · rw [q]; exact Or.inr rfl
      have em : (1 : Int32) - mk o = nI b := by
        rw [m3, hb']
        exact nI_sub (a := 1) m1
      refine ⟨fun k => if k = o then b else M k, (nI b, upd ma o (nI b), r.1, r.2.1, r.2.2.1, r.2.2.2.1, r.2.2.2.2.1, r.2.2.2.2.2.1, r.2.2.2.2.2.2.1, r.2.2.2.2.2.2.2.1, r.2.2.2.2.2.2.2.2.1, r.2.2.2.2.2.2.2.2.2.1, r.2.2.2.2.2.2.2.2.2.2.1, r.2.2.2.2.2.2.2.2.2.2.2), nI b, upd mk o (nI b), ?_, ?_, rfl, hT', ⟨hM.1, fun k hk => ?_⟩, r2⟩
      · unfold fX5_toggleMark_b36
        simp only [if_pos ok, ecl, hy2, r1, Option.bind_some, ud_at, if_pos hb2]
      · unfold fX6_toggleMark_b17
        rw [if_pos (by decide)]
        simp only [if_pos ok, ecl, em, ud_at]
        rcases (show b = 0 ∨ b = 1 by omega) with q | q
        · rw [q]; rfl
        · rw [q]; rfl
      · by_cases hko : k = o
        · subst hko
          rw [ud_at, hMo]
          rfl
        · rw [ud_ne _ _ hko, hMM k hko]
          exact hM.2 k hk
    rw [if_pos ok, ecl, show ma o = nI (M o) from m2]
    simp only [nI_zer (M o) (by omega)]
    by_cases hm : M o = 0
    · rw [if_pos hm]
      exact fin 1 1 (by omega) nar_b1
    · rw [if_neg hm]
      exact fin 0 0 (by omega) nar_b0
theorem fnd_c (N : Nat) (x : Int64) : fX5_isFindings N x = some (if x.toInt < 0 ∨ 2 ^ 50 ≤ x.toInt then 0 else 1) := by
  unfold fX5_isFindings
  simp only [lg_cmp_lt, lg_cmp_gt]
  have e0 : (x < 0) ↔ x.toInt < 0 := by rw [Int64.lt_iff_toInt_lt]; exact Iff.rfl
  have e1 : ((1125899906842623 : Int64) < x) ↔ 2 ^ 50 ≤ x.toInt := by
    rw [Int64.lt_iff_toInt_lt, show (1125899906842623 : Int64).toInt = 1125899906842623 from rfl]
    omega
  simp only [e0, e1]
  by_cases h1 : x.toInt < 0
  · rw [if_pos h1, if_pos (Or.inl h1)]
  · by_cases h2 : (2 : Int) ^ 50 ≤ x.toInt
    · rw [if_neg h1, if_pos h2, if_pos (Or.inr h2)]
    · rw [if_neg h1, if_neg h2, if_neg (fun h => h.elim h1 h2)]
theorem fnd_of {x : Int64} (h : ¬ (x.toInt < 0 ∨ 2 ^ 50 ≤ x.toInt)) : ∃ f : Nat, f < 2 ^ 50 ∧ x = lN f := by
  refine ⟨x.toInt.toNat, by omega, Int64.toInt_inj.mp ?_⟩
  rw [lN_toInt' (by omega)]
  omega
theorem fnd_sh {a : Nat} (h : a < 2 ^ 63) : lN a >>> ((50 : Int32).toInt64 &&& 63) = lN (a / 2 ^ 50) := by
  have e : (((50 : Int32).toInt64 &&& 63).toBitVec.smod 64).toNat = 50 := by decide +kernel
  apply wb_inj
  rw [Int64.toBitVec_shiftRight, wb_tb, wb_tb]
  apply BitVec.eq_of_toInt_eq
  rw [BitVec.toInt_sshiftRight', e]
  have h1 : (BitVec.ofNat 64 a).toInt = (a : Int) := lN_toInt' h
  have h2 : (BitVec.ofNat 64 (a / 2 ^ 50)).toInt = ((a / 2 ^ 50 : Nat) : Int) := lN_toInt' (Nat.lt_of_le_of_lt (Nat.div_le_self _ _) h)
  rw [h1, h2, Int.shiftRight_eq_div_pow]
  rfl
theorem fnd_r (N : Nat) (x : Int64) : fX6_areFindings N x = some (if x.toInt < 0 ∨ 2 ^ 50 ≤ x.toInt then 0 else 1) := by
  unfold fX6_areFindings
  simp only [lg_cmp_lt, lg_cmp_eq]
  have e0 : (x < 0) ↔ x.toInt < 0 := by rw [Int64.lt_iff_toInt_lt]; exact Iff.rfl
  simp only [e0]
  by_cases h1 : x.toInt < 0
  · rw [if_pos h1, if_pos (Or.inl h1)]
  · obtain ⟨a, ha, rfl⟩ : ∃ a : Nat, a < 2 ^ 63 ∧ x = lN a := by
      have hlt : x.toInt < 2 ^ 63 := Int64.toInt_lt x
      refine ⟨x.toInt.toNat, by omega, Int64.toInt_inj.mp ?_⟩
      rw [lN_toInt' (by omega)]
      omega
    rw [if_neg h1, fnd_sh ha, lN_toInt' ha]
    have e : (lN (a / 2 ^ 50) = 0) ↔ a < 2 ^ 50 := by
      have hd : a / 2 ^ 50 < 2 ^ 63 := Nat.lt_of_le_of_lt (Nat.div_le_self _ _) ha
      rw [← Int64.toInt_inj, lN_toInt' hd, show (0 : Int64).toInt = 0 from rfl]
      omega
    simp only [e]
    by_cases h2 : a < 2 ^ 50
    · rw [if_pos h2, if_neg (by omega)]
    · rw [if_neg h2, if_pos (by omega)]
theorem Q_correct {N n lv ql tw sd rt : Nat} (hN : 1000 ≤ N) (hcf : CFG lv ql tw sd rt) {O S F M : Nat → Nat} (hl : LOTS n O S F) {la : Nat → Option Nat} {ma pO pZ : Nat → Int32} {pF : Nat → Int64} {pL : List Nat} (hT : CTAB n O S F M la ma pL pO pZ pF) {mk mo ms : Nat → Int32} {mf : Nat → Int64} (hM : MARR n O S F M mk mo ms mf) (st sk ch ac pa ln : Int32) (hr hb pV pT pI pB : Nat → Int32) (y1 th : Int32) (y2 : Int64) : (fX5_correct N y1 y2 la ma (nI lv) (nI ql) (nI tw) (nI sd) (nI rt) st sk ch ac pa ln hr hb pL pO pZ pF pV pT pI pB = some (.inl 1) ∧ ∃ v, fX6_correct N y1 y2 (nI n) th mo mf = some (v, 1, mf)) ∨ (fX5_correct N y1 y2 la ma (nI lv) (nI ql) (nI tw) (nI sd) (nI rt) st sk ch ac pa ln hr hb pL pO pZ pF pV pT pI pB = some (.inl 2) ∧ ∃ v, fX6_correct N y1 y2 (nI n) th mo mf = some (v, 2, mf)) ∨ ∃ F' q v mf', fX5_correct N y1 y2 la ma (nI lv) (nI ql) (nI tw) (nI sd) (nI rt) st sk ch ac pa ln hr hb pL pO pZ pF pV pT pI pB = some (.inr q) ∧ fX6_correct N y1 y2 (nI n) th mo mf = some (v, 0, mf') ∧ q.1 = v ∧ LOTS n O S F' ∧ CTAB n O S F' M la ma pL pO pZ q.2.2.2.2.2.2.2.2.2.1 ∧ MARR n O S F' M mk mo ms mf' ∧ DER lv ql tw sd rt n O S F' M la q.2.1 q.2.2.1 q.2.2.2.2.2.2.2.2.2.2.1 q.2.2.2.2.2.2.2.2.2.2.2.1 q.2.2.2.2.2.2.2.2.2.2.2.2.1 q.2.2.2.2.2.2.2.2.2.2.2.2.2 := by
  have hn := hl.1
  have hfind := c_find (N := N) hl hT y1
  obtain ⟨t1, t2, t3⟩ := hT
  unfold fX5_correct fX6_correct
  rw [fnd_c, fnd_r, Option.bind_some, Option.bind_some]
  by_cases h : y2.toInt < 0 ∨ 2 ^ 50 ≤ y2.toInt
  · left
    rw [if01 h]
    exact ⟨rfl, _, rfl⟩
  right
  rw [if10 h, if_neg (by decide), if_neg (by decide)]
  obtain ⟨f, hf, rfl⟩ := fnd_of h
  rcases r_place (N := N) (O := O) (mo := mo) hN hl.1 (fun i hi => (hM.1 i hi).1) y1 with ⟨i, hi, hy, -, z⟩ | ⟨hno, z⟩
  · right
    rcases hfind with ⟨j, hj, hyj, a, h1, h2, h3⟩ | ⟨hno, -⟩
    · have hOO := (nI_eq (a := O i) (b := O j) (by have := (hl.2.1 i hi).1; omega) (by have := (hl.2.1 j hj).1; omega)).mp (hy.symm.trans hyj)
      have hij : i = j := by
        rcases Nat.lt_trichotomy i j with q | q | q
        · have := hl.2.2 i j q hj; omega
        · exact q
        · have := hl.2.2 j i q hi; omega
      subst hij
      have hFi : (fun k => if k = i then f else F k) i = f := if_pos rfl
      have hFk : ∀ k, k ≠ i → (fun k => if k = i then f else F k) k = F k := fun k hk => if_neg hk
      have hl' : LOTS n O S (fun k => if k = i then f else F k) := by
        refine ⟨hl.1, fun k hk => ?_, hl.2.2⟩
        obtain ⟨b1, b2, b3, b4⟩ := hl.2.1 k hk
        refine ⟨b1, b2, b3, ?_⟩
        by_cases hki : k = i
        · rw [hki, hFi]; exact hf
        · rw [hFk k hki]; exact b4
      obtain ⟨-, qO, -⟩ := t2 (O i) (hl.2.1 i hi).1 a h1
      have hT' : CTAB n O S (fun k => if k = i then f else F k) M la ma pL pO pZ (va_up pF a (lN f)) := by
        refine ⟨t1, fun o ho a' ha' => ?_, t3⟩
        obtain ⟨c1, c2, k, hk, hOk, c3, c4⟩ := t2 o ho a' ha'
        refine ⟨c1, c2, k, hk, hOk, c3, ?_⟩
        by_cases hki : k = i
        · have : a' = a := by
            rw [hki] at hOk
            rw [← hOk, h1] at ha'
            cases ha'
            rfl
          rw [this, hki, hFi]
          simp [va_up]
          rfl
        · have hne : a' ≠ a := by
            intro e
            rw [e, qO] at c2
            have := (nI_eq (a := O i) (b := o) (by have := (hl.2.1 i hi).1; omega) (by omega)).mp c2
            rw [← hOk] at this
            rcases Nat.lt_trichotomy k i with q | q | q
            · have := hl.2.2 k i q hi; omega
            · exact hki q
            · have := hl.2.2 i k q hk; omega
          rw [hFk k hki]
          simp only [va_up, if_neg hne]
          exact c4
      obtain ⟨r, r1, r2⟩ := c_judge (N := N) hN hcf hl' hT' st sk ch ac pa ln hr hb pV pT pI pB
      obtain ⟨-, -, k0, hk0, hOk0, -, pFa⟩ := t2 (O i) (hl.2.1 i hi).1 a h1
      have hk0i : k0 = i := by
        rcases Nat.lt_trichotomy k0 i with q | q | q
        · have := hl.2.2 k0 i q hi; omega
        · exact q
        · have := hl.2.2 i k0 q hk0; omega
      rw [hk0i] at pFa
      refine ⟨fun k => if k = i then f else F k, (pF a, r.1, r.2.1, r.2.2.1, r.2.2.2.1, r.2.2.2.2.1, r.2.2.2.2.2.1, r.2.2.2.2.2.2.1, r.2.2.2.2.2.2.2.1, va_up pF a (lN f), r.2.2.2.2.2.2.2.2.1, r.2.2.2.2.2.2.2.2.2.1, r.2.2.2.2.2.2.2.2.2.2.1, r.2.2.2.2.2.2.2.2.2.2.2), mf i, vp_updL mf i (lN f), ?_, ?_, ?_, hl', hT', ⟨fun k hk => ?_, hM.2⟩, r2⟩
      · rw [h3, Option.bind_some]
        dsimp only
        rw [if_pos h2, if_pos h2, r1]
        rfl
      · rw [z, Option.bind_some, if_neg (fun q => by have := (nI_eq (a := i) (b := n) (by omega) (by omega)).mp q; omega), if_pos (okI_nI (by omega) (by omega)), if_pos (okI_nI (by omega) (by omega)), nI_clamp (by omega)]
      · exact pFa.trans (hM.1 i hi).2.2.symm
      · refine ⟨(hM.1 k hk).1, (hM.1 k hk).2.1, ?_⟩
        by_cases hki : k = i
        · rw [hki, hFi, pk_uLs]; rfl
        · rw [hFk k hki, pk_uLn hki]; exact (hM.1 k hk).2.2
    · exact absurd hy (hno i hi)
  · left
    rcases hfind with ⟨j, hj, hyj, -⟩ | ⟨-, h3⟩
    · exact absurd hyj (hno j hj)
    · rw [h3, Option.bind_some, z, Option.bind_some, if_pos rfl]
      exact ⟨rfl, _, rfl⟩
