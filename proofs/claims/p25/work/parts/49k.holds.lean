-- what is told of lots fits together
def OKO (o : SpO) : Prop := ov o ≤ 3 ∧ ot o ≤ 3 ∧ (ov o = 3 ↔ ot o = 3) ∧ (ov o < 2 → 1 ≤ oi o) ∧ (2 ≤ ov o → oi o = 0) ∧ ob o ≤ oi o ∧ oi o ≤ 50
theorem spItems_ge {lv ql tw s f st : Nat} (hs : 2 ≤ s) : 1 ≤ spItems lv ql tw s f st := by
  have h : 2 ≤ spSample lv s st := spSize_ge _
  unfold spItems
  split
  · split
    · omega
    · omega
  · omega
theorem stepB_ok {lv ql tw sd rt o s f : Nat} (hs : 2 ≤ s) (w : SpW) (hw : wst w ≤ 3) : OKO (spStepB lv ql tw sd rt o s f w).2 := by
  unfold spStepB
  by_cases h1 : wst w = 3
  · rw [if_pos h1]
    show 3 ≤ 3 ∧ 3 ≤ 3 ∧ (3 = 3 ↔ 3 = 3) ∧ (3 < 2 → 1 ≤ 0) ∧ (2 ≤ 3 → 0 = 0) ∧ 0 ≤ 0 ∧ 0 ≤ 50
    omega
  rw [if_neg h1]
  by_cases h2 : wsk w = 1 ∧ wturn w + 1 < rt
  · rw [if_pos h2]
    show 2 ≤ 3 ∧ wst w ≤ 3 ∧ (2 = 3 ↔ wst w = 3) ∧ (2 < 2 → 1 ≤ 0) ∧ (2 ≤ 2 → 0 = 0) ∧ 0 ≤ 0 ∧ 0 ≤ 50
    omega
  · rw [if_neg h2]
    have a1 := spOk_le (lv := lv) (ql := ql) (tw := tw) (s := s) (f := f) (st := wst w)
    have a2 := spItems_ge (lv := lv) (ql := ql) (tw := tw) (f := f) (st := wst w) hs
    have a3 := spItems_le (lv := lv) (ql := ql) (tw := tw) (s := s) (f := f) (st := wst w)
    have a4 : spBad lv ql tw s f (wst w) ≤ spItems lv ql tw s f (wst w) := spPop_le _ _
    show spOk lv ql tw s f (wst w) ≤ 3 ∧ wst w ≤ 3 ∧ (spOk lv ql tw s f (wst w) = 3 ↔ wst w = 3) ∧ (spOk lv ql tw s f (wst w) < 2 → 1 ≤ spItems lv ql tw s f (wst w)) ∧ (2 ≤ spOk lv ql tw s f (wst w) → spItems lv ql tw s f (wst w) = 0) ∧ spBad lv ql tw s f (wst w) ≤ spItems lv ql tw s f (wst w) ∧ spItems lv ql tw s f (wst w) ≤ 50
    omega
theorem spOut_ok {n lv ql tw sd rt : Nat} (hcf : CFG lv ql tw sd rt) {O S F M : Nat → Nat} (hl : LOTS n O S F) {i : Nat} (hi : i < n) : OKO (spOut lv ql tw sd rt M O S F i) := by
  have hW := (WI_W (M := M) hcf hl i (by omega)).1
  unfold spOut spStep
  refine stepB_ok (hl.2.1 i hi).2.1 _ ?_
  unfold spWake
  split
  · show 1 ≤ 3
    omega
  · exact hW
section H
variable {N : Nat} {lc cst csk : Int32} {la : Nat → Option Nat} {pL : List Nat} {pV pT pI pB : Nat → Int32}
theorem holds_b164 (rec_30 : Int32 → Int32 → Int32 → Int32 → Option (Int32)) {o it bd : Nat} (h1 : bd ≤ it) (h2 : it ≤ 50) (hb : fX5_badIn N (nI o) la pL pB = some (.inr (nI bd))) (x1 x3 x4 y : Int32) : fL_holds_b164 N lc la cst csk pL pV pT pI pB rec_30 x1 x3 x4 (nI o) (nI it) y y = rec_30 x1 1 x3 (x4 + 1) := by
  unfold fL_holds_b164
  rw [if_pos rfl, hb, Option.bind_some, Sum.elim_inr, if_neg (nI_nlt h1 (by omega)), Option.bind_some, Sum.elim_inr, if_neg (nI_pos (by omega)), if_neg (show ¬ 50 < nI it from fun q => by have := (nI_ltI (a := 50) (b := it) (by omega) (by omega)).mp q; omega)]
  rfl
theorem holds_b107 (rec_30 : Int32 → Int32 → Int32 → Int32 → Option (Int32)) {o v t it bd : Nat} (hO : OKO (v, t, it, bd)) (hb : fX5_badIn N (nI o) la pL pB = some (.inr (nI bd))) (x1 x3 x4 : Int32) : fL_holds_b107 N lc la cst csk pL pV pT pI pB rec_30 x1 x3 x4 (nI o) (nI v) (nI t) (nI it) = rec_30 x1 1 x3 (x4 + 1) := by
  obtain ⟨o1, o2, o3, o4, o5, o6, o7⟩ := hO
  have o1 : v ≤ 3 := o1
  have o2 : t ≤ 3 := o2
  have o3 : v = 3 ↔ t = 3 := o3
  have o4 : v < 2 → 1 ≤ it := o4
  have o5 : 2 ≤ v → it = 0 := o5
  have o6 : bd ≤ it := o6
  have o7 : it ≤ 50 := o7
  have tail := fun y => holds_b164 (N := N) (lc := lc) (cst := cst) (csk := csk) (pV := pV) (pT := pT) (pI := pI) rec_30 o6 o7 hb x1 x3 x4 y
  have e3 : (nI v = 3) ↔ v = 3 := nI_eq (b := 3) (by omega) (by omega)
  have f3 : (nI t = 3) ↔ t = 3 := nI_eq (b := 3) (by omega) (by omega)
  have g0 : (nI it ≤ 0) ↔ it ≤ 0 := nI_leI (b := 0) (by omega) (by omega)
  have h2 : (2 ≤ nI v) ↔ 2 ≤ v := nI_leI (a := 2) (by omega) (by omega)
  unfold fL_holds_b107
  rw [if_neg (nI_pos (by omega)), if_neg (show ¬ 3 < nI v from fun q => by have := (nI_ltI (a := 3) (b := v) (by omega) (by omega)).mp q; omega)]
  unfold fL_holds_b129 fL_holds_b140 fL_holds_b153
  simp only [e3, f3, g0, h2]
  by_cases c3 : v = 3
  · rw [if_pos c3, if_pos (o3.mp c3), if_pos trivial, if_pos (show it ≤ 0 by have := o5 (by omega); omega), if_pos (show 2 ≤ v by omega)]
    exact tail 0
  · rw [if_neg c3, if_neg (fun q => c3 (o3.mpr q)), if_pos trivial]
    by_cases c2 : 2 ≤ v
    · rw [if_pos (show it ≤ 0 by have := o5 c2; omega), if_pos c2]
      exact tail 0
    · rw [if_neg (show ¬ it ≤ 0 by have := o4 (by omega); omega), if_neg c2]
      exact tail 1
end H
theorem cnt_s (y : Int32) (v : Nat → Nat) (c : Nat) : spCnt y v (c + 1) = spCnt y v c + if nI (v c) = y then 1 else 0 := rfl
theorem cnt_le (y : Int32) (v : Nat → Nat) : ∀ c, spCnt y v c ≤ c
  | 0 => Nat.le_refl _
  | c + 1 => by
    have := cnt_le y v c
    rw [cnt_s]
    split <;> omega
theorem cnt_k {v : Nat → Nat} {c k : Nat} (hv : v c ≤ 3) (hk : k ≤ 3) : spCnt (nI k) v (c + 1) = spCnt (nI k) v c + if v c = k then 1 else 0 := by
  have e : (nI (v c) = nI k) ↔ v c = k := nI_eq (by omega) (by omega)
  rw [cnt_s]
  simp only [e]
theorem cnt4 {v : Nat → Nat} : ∀ n, (∀ i, i < n → v i ≤ 3) → spCnt (nI 0) v n + spCnt (nI 1) v n + spCnt (nI 2) v n + spCnt (nI 3) v n = n
  | 0, _ => rfl
  | n + 1, h => by
    have ih := cnt4 n (fun i hi => h i (by omega))
    have hv := h n (by omega)
    rw [cnt_k hv (by omega), cnt_k hv (by omega), cnt_k hv (by omega), cnt_k hv (by omega)]
    rcases (show v n = 0 ∨ v n = 1 ∨ v n = 2 ∨ v n = 3 by omega) with q | q | q | q
    · rw [if_pos q, if_neg (by omega), if_neg (by omega), if_neg (by omega)]; omega
    · rw [if_neg (by omega), if_pos q, if_neg (by omega), if_neg (by omega)]; omega
    · rw [if_neg (by omega), if_neg (by omega), if_pos q, if_neg (by omega)]; omega
    · rw [if_neg (by omega), if_neg (by omega), if_neg (by omega), if_pos q]; omega
section H2
variable {N n lv ql tw sd rt : Nat} {O S F M : Nat → Nat} {la : Nat → Option Nat} {ma pO pZ : Nat → Int32} {pF : Nat → Int64} {pL : List Nat} {cst csk : Int32} {pV pT pI pB : Nat → Int32}
theorem holds_206 (hN : 1000 ≤ N) (hcf : CFG lv ql tw sd rt) (hl : LOTS n O S F) (hT : CTAB n O S F M la ma pL pO pZ pF) (hD : DER lv ql tw sd rt n O S F M la cst csk pV pT pI pB) : fL_holds_b206 N (nI n) la cst csk pL pV pT pI pB (nI n) 1 (nI (spCnt (nI 0) (fun i => ov (spOut lv ql tw sd rt M O S F i)) n + spCnt (nI 1) (fun i => ov (spOut lv ql tw sd rt M O S F i)) n)) = some 1 := by
  have hn := hl.1
  have hW := WI_W (M := M) hcf hl n (Nat.le_refl _)
  have e1 : cst = nI (wst (spW lv ql tw sd rt M O S F n)) := hD.1
  have e2 : csk = nI (wsk (spW lv ql tw sd rt M O S F n)) := hD.2.1
  have w3 : wst (spW lv ql tw sd rt M O S F n) ≤ 3 := hW.1
  have hk := K_skip (N := N) hcf hl hD
  have k0 := K_count (N := N) hN hl hT hD (v := 0) (by omega)
  have k1 := K_count (N := N) hN hl hT hD (v := 1) (by omega)
  have hs : fX5_state N cst = some (nI (wst (spW lv ql tw sd rt M O S F n))) := by rw [e1]; rfl
  unfold fL_holds_b206
  rw [if_neg (by decide), show fX5_lots N (nI n) = some (nI n) from rfl, Option.bind_some, if_pos rfl]
  rw [show fX5_count N 0 la pL pV = _ from k0, Option.bind_some, Sum.elim_inr, show fX5_count N 1 la pL pV = _ from k1, Option.bind_some, Sum.elim_inr]
  rw [nI_add, if_pos rfl, hs, Option.bind_some, if_neg (nI_pos (by omega)), Option.bind_some]
  rw [if_neg (show ¬ 3 < nI (wst (spW lv ql tw sd rt M O S F n)) from fun q => by have := (nI_ltI (a := 3) (b := wst (spW lv ql tw sd rt M O S F n)) (by omega) (by omega)).mp q; omega)]
  rw [Option.bind_some]
  by_cases h : 0 < n
  · rw [if_pos (show 0 < nI n from nI_lt (a := 0) h (by omega))]
    rfl
  · obtain rfl : n = 0 := by omega
    rw [if_neg (show ¬ 0 < nI 0 from nI_nlt (a := 0) (Nat.le_refl _) (by omega)), Option.bind_some, if_pos (show nI (wst (spW lv ql tw sd rt M O S F 0)) = 0 from rfl), hk, Option.bind_some, if_pos (show csk = 0 from e2)]
    rfl
theorem holds_b30 (hN : 1000 ≤ N) (hcf : CFG lv ql tw sd rt) (hl : LOTS n O S F) (hT : CTAB n O S F M la ma pL pO pZ pF) (hD : DER lv ql tw sd rt n O S F M la cst csk pV pT pI pB) : ∀ (d c k : Nat), n = c + d → d < k → fL_holds_b30 N (nI n) la cst csk pL pV pT pI pB k (nI n) 1 (nI (spCnt (nI 0) (fun i => ov (spOut lv ql tw sd rt M O S F i)) c + spCnt (nI 1) (fun i => ov (spOut lv ql tw sd rt M O S F i)) c)) (nI c) = some 1 := by
  have hn := hl.1
  intro d
  induction d with
  | zero =>
    intro c k hd hk
    obtain ⟨k, rfl⟩ : ∃ q, k = q + 1 := ⟨k - 1, by omega⟩
    obtain rfl : n = c := by omega
    rw [fL_holds_b30, show fX5_lots N (nI n) = some (nI n) from rfl, Option.bind_some, if_pos (nI_le (Nat.le_refl _) (by omega))]
    exact holds_206 hN hcf hl hT hD
  | succ d ih =>
    intro c k hd hk
    obtain ⟨k, rfl⟩ : ∃ q, k = q + 1 := ⟨k - 1, by omega⟩
    have hc : c < n := by omega
    have hO := spOut_ok (M := M) hcf hl hc
    have hv : ov (spOut lv ql tw sd rt M O S F c) ≤ 3 := hO.1
    have hbad := K_badIn (N := N) hl hT hD hc
    have ih1 := ih (c + 1) k (by omega) (by omega)
    rw [fL_holds_b30, show fX5_lots N (nI n) = some (nI n) from rfl, Option.bind_some, if_neg (nI_ge hc (by omega)), if_neg (by decide)]
    rw [K_orderAt hN hl hT hc, Option.bind_some, Sum.elim_inr, K_verdict hl hT hD hc, Option.bind_some, Sum.elim_inr, K_stateAt hl hT hD hc, Option.bind_some, Sum.elim_inr, K_inspected hl hT hD hc, Option.bind_some, Sum.elim_inr]
    have h87 : ∀ y : Nat, fL_holds_b87 N (nI n) la cst csk pL pV pT pI pB (fun x1 x2 x3 x4 => fL_holds_b30 N (nI n) la cst csk pL pV pT pI pB k x1 x2 x3 x4) (nI n) (nI c) (nI (O c)) (nI (ov (spOut lv ql tw sd rt M O S F c))) (nI (ot (spOut lv ql tw sd rt M O S F c))) (nI (oi (spOut lv ql tw sd rt M O S F c))) (nI (spCnt (nI 0) (fun i => ov (spOut lv ql tw sd rt M O S F i)) c + spCnt (nI 1) (fun i => ov (spOut lv ql tw sd rt M O S F i)) c)) (nI y) = fL_holds_b30 N (nI n) la cst csk pL pV pT pI pB k (nI n) 1 (nI (spCnt (nI 0) (fun i => ov (spOut lv ql tw sd rt M O S F i)) c + spCnt (nI 1) (fun i => ov (spOut lv ql tw sd rt M O S F i)) c + y)) (nI (c + 1)) := by
      intro y
      have b107 := fun x3 => holds_b107 (N := N) (lc := nI n) (cst := cst) (csk := csk) (pV := pV) (pT := pT) (pI := pI) (fun x1 x2 x3 x4 => fL_holds_b30 N (nI n) la cst csk pL pV pT pI pB k x1 x2 x3 x4) (v := ov (spOut lv ql tw sd rt M O S F c)) (t := ot (spOut lv ql tw sd rt M O S F c)) (it := oi (spOut lv ql tw sd rt M O S F c)) (bd := ob (spOut lv ql tw sd rt M O S F c)) hO hbad (nI n) x3 (nI c)
      unfold fL_holds_b87
      rw [nI_add]
      by_cases c0 : c = 0
      · rw [if_pos (show nI c = 0 by rw [c0]; rfl), b107]
        rw [nI_1]
      · obtain ⟨c', rfl⟩ : ∃ q, c = q + 1 := ⟨c - 1, by omega⟩
        rw [if_neg (nI_ne0 (by omega) (by omega)), nI_pred, K_orderAt hN hl hT (show c' < n by omega), Option.bind_some, Sum.elim_inr]
        have hlt := hl.2.2 c' (c' + 1) (by omega) hc
        have h200 := (hl.2.1 (c' + 1) hc).1
        rw [if_neg (nI_ge hlt (by omega)), b107]
        rw [nI_1]
    have e2 : (2 ≤ nI (ov (spOut lv ql tw sd rt M O S F c))) ↔ 2 ≤ ov (spOut lv ql tw sd rt M O S F c) := nI_leI (a := 2) (by omega) (by omega)
    simp only [e2]
    have c0 := cnt_k (v := fun i => ov (spOut lv ql tw sd rt M O S F i)) (c := c) (k := 0) hv (by omega)
    have c1 := cnt_k (v := fun i => ov (spOut lv ql tw sd rt M O S F i)) (c := c) (k := 1) hv (by omega)
    rw [c0, c1] at ih1
    by_cases q : 2 ≤ ov (spOut lv ql tw sd rt M O S F c)
    · rw [if_pos q]
      refine (h87 0).trans ?_
      rw [if_neg (by omega), if_neg (by omega)] at ih1
      exact ih1
    · rw [if_neg q]
      refine (h87 1).trans ?_
      rw [← ih1]
      congr 2
      by_cases z : ov (spOut lv ql tw sd rt M O S F c) = 0
      · rw [if_pos z, if_neg (by omega)]; omega
      · rw [if_neg z, if_pos (by omega)]; omega
def cntU (v : Nat → Nat) (n : Nat) : Nat → Nat
  | 0 => 0
  | j + 1 => cntU v n j + spCnt (nI j) v n
theorem holds_b6 (hN : 1000 ≤ N) (hcf : CFG lv ql tw sd rt) (hl : LOTS n O S F) (hT : CTAB n O S F M la ma pL pO pZ pF) (hD : DER lv ql tw sd rt n O S F M la cst csk pV pT pI pB) : ∀ (d j k : Nat), 4 = j + d → d < k → fL_holds_b6 N (nI n) la cst csk pL pV pT pI pB k (nI (cntU (fun i => ov (spOut lv ql tw sd rt M O S F i)) n j)) 1 (nI j) = some 1 := by
  have hn := hl.1
  intro d
  induction d with
  | zero =>
    intro j k hd hk
    obtain ⟨k, rfl⟩ : ∃ q, k = q + 1 := ⟨k - 1, by omega⟩
    obtain rfl : j = 4 := by omega
    have e4 : cntU (fun i => ov (spOut lv ql tw sd rt M O S F i)) n 4 = n := by
      have := cnt4 (v := fun i => ov (spOut lv ql tw sd rt M O S F i)) n (fun i hi => (spOut_ok (M := M) hcf hl hi).1)
      have e : ∀ v : Nat → Nat, cntU v n 4 = 0 + spCnt (nI 0) v n + spCnt (nI 1) v n + spCnt (nI 2) v n + spCnt (nI 3) v n := fun _ => rfl
      rw [e, Nat.zero_add]
      exact this
    rw [fL_holds_b6, e4, if_pos (show 4 ≤ nI 4 from nI_le (a := 4) (Nat.le_refl _) (by omega))]
    exact holds_b30 hN hcf hl hT hD n 0 N (by omega) (by omega)
  | succ d ih =>
    intro j k hd hk
    obtain ⟨k, rfl⟩ : ∃ q, k = q + 1 := ⟨k - 1, by omega⟩
    rw [fL_holds_b6, if_neg (show ¬ 4 ≤ nI j from nI_ge (b := 4) (by omega) (by omega)), K_count hN hl hT hD (show j ≤ 3 by omega), Option.bind_some, Sum.elim_inr, nI_add, nI_1]
    exact ih (j + 1) k (by omega) (by omega)
theorem P_holds (hN : 1000 ≤ N) (hcf : CFG lv ql tw sd rt) (hl : LOTS n O S F) (hT : CTAB n O S F M la ma pL pO pZ pF) (hD : DER lv ql tw sd rt n O S F M la cst csk pV pT pI pB) : fL_holds N (nI n) la cst csk pL pV pT pI pB = some 1 :=
  holds_b6 hN hcf hl hT hD 4 0 N rfl (by omega)
end H2
