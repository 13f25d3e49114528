theorem HC_ex : ∀ (h : List (Nat × Nat)), ∃ hr hb : Nat → Int32, HC hr hb h
  | [] => ⟨fun _ => 0, fun _ => 0, trivial⟩
  | x :: t => by
    obtain ⟨hr, hb, h⟩ := HC_ex t
    exact ⟨upd hr t.length (nI (spFl x)), upd hb t.length (nI x.2), ud_at _ _ _, ud_at _ _ _, HC_upd _ _ t (Nat.le_refl _) h⟩
theorem WI_step {n lv ql tw sd rt o s f : Nat} (hcf : CFG lv ql tw sd rt) (hs : s ≤ 5000) (hf : f < 2 ^ 50) (hn : n < 60) {M : Nat → Nat} {w : SpW} (hw : WI n w) (hstp : wstp w < 200) : WI (n + 1) (spStep lv ql tw sd rt M o s f w).1 := by
  obtain ⟨hr, hb, hc⟩ := HC_ex (wh w)
  have hmk : wst w = 3 → (((if spMarked M (wstp w + 1) o = true then nI 200 else nI 0) ≤ nI (wstp w)) ↔ ¬ spMarked M (wstp w + 1) o = true) := by
    intro _
    by_cases h : spMarked M (wstp w + 1) o = true
    · rw [if_pos h]
      exact ⟨fun z => absurd z (nI_ge hstp (by omega)), fun z => absurd h z⟩
    · rw [if_neg h]
      exact ⟨fun _ => h, fun _ => nI_le (Nat.zero_le _) (by omega)⟩
  obtain ⟨r, -, -, h, -⟩ := c_pass (N := 100) (o := o) (Nat.le_refl _) hcf hs hf hn hw (st := nI (wst w)) (sk := nI (wsk w)) (ch := nI (wstp w)) (ac := nI (wgood w)) (pa := nI (wturn w)) (ln := nI (wh w).length) ⟨rfl, rfl, fun _ => rfl, fun _ => rfl, fun _ => rfl, rfl, hc⟩ hmk 0 0 0 0
  exact h
theorem WI_0 : WI 0 (0, 0, 0, 0, 0, []) :=
  ⟨Nat.zero_le _, Nat.zero_le _, Nat.zero_le _, ⟨trivial, fun _ => Nat.zero_le _, fun _ => Nat.zero_le _⟩, fun _ => rfl, fun _ => rfl, Nat.zero_le _, Nat.zero_le _⟩
theorem WI_W {n lv ql tw sd rt : Nat} (hcf : CFG lv ql tw sd rt) {O S F M : Nat → Nat} (hl : LOTS n O S F) : ∀ c, c ≤ n → WI c (spW lv ql tw sd rt M O S F c)
  | 0, _ => WI_0
  | c + 1, h => by
    have h60 := hl.1
    exact WI_step hcf (hl.2.1 c (by omega)).2.2.1 (hl.2.1 c (by omega)).2.2.2 (by omega) (WI_W hcf hl c (by omega)) (spW_stp (fun i hi => (hl.2.1 i hi).1) c (by omega))
/-- the reference's history: as HM, its places lie before c -/
def HP (c : Nat) (mr mv mb : Nat → Int32) : List (Nat × Nat) → Prop
  | [] => True
  | x :: t => (∃ p, p < c ∧ mr t.length = nI p ∧ mv p = nI x.1 ∧ mb p = nI x.2) ∧ HP c mr mv mb t
theorem HP_HM {c : Nat} (hc : c ≤ 60) {mr mv mb : Nat → Int32} : ∀ (t : List (Nat × Nat)), HP c mr mv mb t → HM mr mv mb t
  | [], _ => trivial
  | x :: t, h => by
    obtain ⟨⟨p, h1, h2, h3, h4⟩, h5⟩ := h
    exact ⟨⟨p, by omega, h2, h3, h4⟩, HP_HM hc t h5⟩
theorem HP_next {c : Nat} {mr mv mb : Nat → Int32} (a b : Int32) : ∀ (t : List (Nat × Nat)), HP c mr mv mb t → HP (c + 1) mr (upd mv c a) (upd mb c b) t
  | [], _ => trivial
  | x :: t, h => by
    obtain ⟨⟨p, h1, h2, h3, h4⟩, h5⟩ := h
    exact ⟨⟨p, by omega, h2, by rw [ud_ne _ _ (by omega)]; exact h3, by rw [ud_ne _ _ (by omega)]; exact h4⟩, HP_next a b t h5⟩
theorem HP_mr {c k : Nat} {mr mv mb : Nat → Int32} (a : Int32) : ∀ (t : List (Nat × Nat)), t.length ≤ k → HP c mr mv mb t → HP c (upd mr k a) mv mb t
  | [], _, _ => trivial
  | x :: t, hk, h => by
    have hk' : t.length + 1 ≤ k := hk
    obtain ⟨⟨p, h1, h2, h3, h4⟩, h5⟩ := h
    exact ⟨⟨p, h1, by rw [ud_ne _ _ (by omega)]; exact h2, h3, h4⟩, HP_mr a t (by omega) h5⟩
/-- the reference's numbers behind the first c lots -/
def GR (c : Nat) (w : SpW) (x1 x2 x3 st sk ln : Int32) (mv mb mr : Nat → Int32) : Prop :=
  st = nI (wst w) ∧ sk = nI (wsk w) ∧ (wst w = 3 → x1 = nI (wstp w)) ∧ x2 = nI (wgood w) ∧ x3 = nI (wturn w) ∧ ln = nI (wh w).length ∧ HP c mr mv mb (wh w)
theorem r_passB {N lv ql tw sd rt n c o s f : Nat} (hN : 100 ≤ N) (hcf : CFG lv ql tw sd rt) (hs2 : 2 ≤ s) (hs : s ≤ 5000) (hf : f < 2 ^ 50) (hc : c < 60) {mk mo ms : Nat → Int32} {mf : Nat → Int64} (hmo : mo c = nI o) (hms : ms c = nI s) (hmf : mf c = lN f) {w : SpW} (hw : WI c w) {x1 x2 x3 st sk ln : Int32} {mv mb mr : Nat → Int32} (mt mi : Nat → Int32) (hg : GR c w x1 x2 x3 st sk ln mv mb mr) (rec_24 : Int32 → Int32 → Int32 → Int32 → Int32 → Int32 → Int32 → (Nat → Int32) → (Nat → Int32) → (Nat → Int32) → (Nat → Int32) → (Nat → Int32) → Option (Int32 × Int32 × Int32 × (Nat → Int32) × (Nat → Int32) × (Nat → Int32) × (Nat → Int32) × (Nat → Int32))) : ∃ y1 y2 y3 st' sk' ln' mr', fX6_goesThrough_b68 N (nI lv) (nI ql) (nI tw) (nI sd) (nI rt) (nI n) mk mo ms mf rec_24 x1 x2 x3 (nI c) st sk ln mv mt mi mb mr = rec_24 y1 y2 y3 (nI (c + 1)) st' sk' ln' (upd mv c (nI (ov (spStepB lv ql tw sd rt o s f w).2))) (upd mt c (nI (ot (spStepB lv ql tw sd rt o s f w).2))) (upd mi c (nI (oi (spStepB lv ql tw sd rt o s f w).2))) (upd mb c (nI (ob (spStepB lv ql tw sd rt o s f w).2))) mr' ∧ GR (c + 1) (spStepB lv ql tw sd rt o s f w).1 y1 y2 y3 st' sk' ln' (upd mv c (nI (ov (spStepB lv ql tw sd rt o s f w).2))) (upd mb c (nI (ob (spStepB lv ql tw sd rt o s f w).2))) mr' := by
  obtain ⟨w1, w2, w3, w4, w5, w6⟩ := w
  obtain ⟨hlv, hql, htw, hsd, hrt⟩ := hcf
  obtain ⟨h1, h2, h3, h4, h5, h6, h7, h8⟩ := hw
  obtain ⟨rfl, rfl, g3, rfl, rfl, rfl, g7⟩ := hg
  dsimp only [wst, wsk, wstp, wgood, wturn, wh] at h1 h2 h3 h4 h5 h6 h7 h8 g3 g7 ⊢
  have ok := okI_nI (M := 60) hc (by omega)
  have ecl := nI_clamp (show c < 2 ^ 31 by omega)
  have e81 : fX6_goesThrough_b68 N (nI lv) (nI ql) (nI tw) (nI sd) (nI rt) (nI n) mk mo ms mf rec_24 x1 (nI w4) (nI w5) (nI c) (nI w1) (nI w2) (nI w6.length) mv mt mi mb mr = fX6_goesThrough_b81 N (nI lv) (nI ql) (nI tw) (nI sd) (nI rt) (nI n) mk mo ms mf rec_24 x1 (nI w4) (nI c) (nI w5) (nI w2) (nI w1) (nI w2) (nI w6.length) mv mt mi mb mr := by
    unfold fX6_goesThrough_b68
    simp only [nI_zer w2 (by omega)]
    rcases (show w2 = 0 ∨ w2 = 1 by omega) with rfl | rfl
    · rfl
    · rfl
  rw [e81]
  unfold fX6_goesThrough_b81
  have et : nI w5 + nI w2 = nI (w5 + w2) := nI_add w5 w2
  have e3 : (nI w1 = 3) ↔ w1 = 3 := nI_eq (b := 3) (by omega) (by omega)
  simp only [et, e3, nI_zer w2 (by omega), nI_leI (show rt < 2 ^ 31 by omega) (show w5 + w2 < 2 ^ 31 by omega)]
  -- a lot that is not inspected
  have hno : ∀ v, (if w1 = 3 then (3 : Nat) else 2) = v → ∃ y1 y2 y3 st' sk' ln' mr', fX6_goesThrough_b106 N (nI lv) (nI ql) (nI tw) (nI sd) (nI rt) (nI n) mk mo ms mf rec_24 x1 (nI w4) (nI (w5 + w2)) (nI c) (nI w1) (nI w2) (nI w6.length) mv mt mi mb mr = rec_24 y1 y2 y3 (nI (c + 1)) st' sk' ln' (upd mv c (nI v)) (upd mt c (nI w1)) (upd mi c (nI 0)) (upd mb c (nI 0)) mr' ∧ GR (c + 1) (w1, w2, w3, w4, w5 + w2, w6) y1 y2 y3 st' sk' ln' (upd mv c (nI v)) (upd mb c (nI 0)) mr' := by
    intro v hv
    refine ⟨x1, nI w4, nI (w5 + w2), nI w1, nI w2, nI w6.length, mr, ?_, rfl, rfl, g3, rfl, rfl, rfl, HP_next _ _ _ g7⟩
    unfold fX6_goesThrough_b106 fX6_goesThrough_b125 fX6_goesThrough_b344
    simp only [if_pos ok, ecl, e3, nI_1]
    rw [← hv]
    by_cases q3 : w1 = 3
    · rw [if_pos q3, if_pos q3]; rfl
    · rw [if_neg q3, if_neg q3]; rfl
  by_cases q3 : w1 = 3
  · rw [if_pos q3]
    obtain ⟨y1, y2, y3, st', sk', ln', mr', z1, z2⟩ := hno 3 (if_pos q3)
    refine ⟨y1, y2, y3, st', sk', ln', mr', ?_⟩
    have e : spStepB lv ql tw sd rt o s f (w1, w2, w3, w4, w5, w6) = (spTurn (w1, w2, w3, w4, w5, w6), (3, 3, 0, 0)) := by
      unfold spStepB; rw [if_pos q3]
    rw [e, z1]
    refine ⟨?_, z2⟩
    rw [q3]
  rw [if_neg q3]
  -- the lot that is inspected
  have hst : w1 ≤ 2 := by omega
  have insp : ∃ y1 y2 y3 st' sk' ln' mr', fX6_goesThrough_b156 N (nI lv) (nI ql) (nI tw) (nI sd) (nI rt) (nI n) mk mo ms mf rec_24 x1 (nI w4) (nI c) (nI w1) (nI w2) (nI w6.length) mv mt mi mb mr = rec_24 y1 y2 y3 (nI (c + 1)) st' sk' ln' (upd mv c (nI (ov (spInsp lv ql tw sd rt o s f (w1, w2, w3, w4, w5, w6)).2))) (upd mt c (nI (ot (spInsp lv ql tw sd rt o s f (w1, w2, w3, w4, w5, w6)).2))) (upd mi c (nI (oi (spInsp lv ql tw sd rt o s f (w1, w2, w3, w4, w5, w6)).2))) (upd mb c (nI (ob (spInsp lv ql tw sd rt o s f (w1, w2, w3, w4, w5, w6)).2))) mr' ∧ GR (c + 1) (spInsp lv ql tw sd rt o s f (w1, w2, w3, w4, w5, w6)).1 y1 y2 y3 st' sk' ln' (upd mv c (nI (ov (spInsp lv ql tw sd rt o s f (w1, w2, w3, w4, w5, w6)).2))) (upd mb c (nI (ob (spInsp lv ql tw sd rt o s f (w1, w2, w3, w4, w5, w6)).2))) mr' := by
    have hok := spOk_le (lv := lv) (ql := ql) (tw := tw) (s := s) (f := f) (st := w1)
    have hbd := spBad_le (lv := lv) (ql := ql) (tw := tw) (s := s) (f := f) (st := w1)
    have hen := spEnds_le (lv := lv) (ql := ql) (tw := tw) (s := s) (f := f) (st := w1)
    have hbh := spBehind_le sd w1 ((spOk lv ql tw s f w1, spBad lv ql tw s f w1) :: w6) (spEnds lv ql tw s f w1)
    have hP1 : HP (c + 1) (upd mr w6.length (nI c)) (upd mv c (nI (spOk lv ql tw s f w1))) (upd mb c (nI (spBad lv ql tw s f w1))) ((spOk lv ql tw s f w1, spBad lv ql tw s f w1) :: w6) :=
      ⟨⟨c, by omega, ud_at _ _ _, ud_at _ _ _, ud_at _ _ _⟩, HP_mr _ _ (Nat.le_refl _) (HP_next _ _ _ g7)⟩
    have ebh := r_behind (N := N) hN hsd hst hen (HP_HM (by omega) _ hP1) ⟨⟨hok, hbd⟩, h4.1⟩ (by show w6.length + 1 ≤ 60; omega)
    unfold fX6_goesThrough_b156 spInsp
    dsimp only [wst, wsk, wstp, wgood, wturn, wh, ov, ot, oi, ob]
    rw [r_insp hN hlv hql htw hst hs hs2 hf hc hms hmf, Option.bind_some]
    dsimp only
    simp only [if_pos ok, ecl, ud_at, nI_one w1 (by omega), nI_one (spOk lv ql tw s f w1) (by omega), nI_zer w2 (by omega)]
    generalize spBehind sd w1 ((spOk lv ql tw s f w1, spBad lv ql tw s f w1) :: w6) (spEnds lv ql tw s f w1) = nx at *
    generalize spEnds lv ql tw s f w1 = en at *
    generalize spOk lv ql tw s f w1 = vok at *
    generalize spBad lv ql tw s f w1 = vbd at *
    generalize spItems lv ql tw s f w1 = vit at *
    have hgd : (if w1 ≠ 1 ∧ vok = 1 ∧ w2 = 0 then w4 + 1 else 0) ≤ 100 := by
      have : w4 ≤ c := h7
      split <;> omega
    -- from the number of good ones on
    have h199 : ∀ g, g ≤ 100 → (if w1 ≠ 1 ∧ vok = 1 ∧ w2 = 0 then w4 + 1 else 0) = g → ∃ y1 y2 y3 st' sk' ln' mr', fX6_goesThrough_b199 N (nI lv) (nI ql) (nI tw) (nI sd) (nI rt) (nI n) mk mo ms mf rec_24 x1 0 (nI c) (nI en) (nI g) (nI w1) (nI w2) (nI w6.length) (upd mv c (nI vok)) (upd mt c (nI w1)) (upd mi c (nI vit)) (upd mb c (nI vbd)) mr = rec_24 y1 y2 y3 (nI (c + 1)) st' sk' ln' (upd mv c (nI vok)) (upd mt c (nI w1)) (upd mi c (nI vit)) (upd mb c (nI vbd)) mr' ∧ GR (c + 1) (nx, if (if w2 = 1 then vok else if 0 < rt ∧ 8 ≤ g then 1 else 0) = 1 ∧ nx ≠ 1 then 1 else 0, if nx = 3 then o else w3, g, 0, if nx = w1 then (vok, vbd) :: w6 else []) y1 y2 y3 st' sk' ln' (upd mv c (nI vok)) (upd mb c (nI vbd)) mr' := by
      intro g hg _
      -- from the skipping on
      have h245 : ∀ s1, s1 ≤ 1 → (if w2 = 1 then vok else if 0 < rt ∧ 8 ≤ g then 1 else 0) = s1 → ∃ y1 y2 y3 st' sk' ln' mr', fX6_goesThrough_b245 N (nI lv) (nI ql) (nI tw) (nI sd) (nI rt) (nI n) mk mo ms mf rec_24 x1 (nI g) 0 (nI c) (nI en) (nI s1) (nI w1) (nI w2) (nI w6.length) (upd mv c (nI vok)) (upd mt c (nI w1)) (upd mi c (nI vit)) (upd mb c (nI vbd)) mr = rec_24 y1 y2 y3 (nI (c + 1)) st' sk' ln' (upd mv c (nI vok)) (upd mt c (nI w1)) (upd mi c (nI vit)) (upd mb c (nI vbd)) mr' ∧ GR (c + 1) (nx, if s1 = 1 ∧ nx ≠ 1 then 1 else 0, if nx = 3 then o else w3, g, 0, if nx = w1 then (vok, vbd) :: w6 else []) y1 y2 y3 st' sk' ln' (upd mv c (nI vok)) (upd mb c (nI vbd)) mr' := by
        intro s1 hs1 _
        -- from the second skipping on
        have h296 : ∀ s2, s2 ≤ 1 → ∃ y1 y2 y3 st' sk' ln' mr', fX6_goesThrough_b296 N (nI lv) (nI ql) (nI tw) (nI sd) (nI rt) (nI n) mk mo ms mf rec_24 x1 (nI g) 0 (nI c) (nI nx) (nI s2) (nI w1) (nI s1) (nI (w6.length + 1)) (upd mv c (nI vok)) (upd mt c (nI w1)) (upd mi c (nI vit)) (upd mb c (nI vbd)) (upd mr w6.length (nI c)) = rec_24 y1 y2 y3 (nI (c + 1)) st' sk' ln' (upd mv c (nI vok)) (upd mt c (nI w1)) (upd mi c (nI vit)) (upd mb c (nI vbd)) mr' ∧ GR (c + 1) (nx, s2, if nx = 3 then o else w3, g, 0, if nx = w1 then (vok, vbd) :: w6 else []) y1 y2 y3 st' sk' ln' (upd mv c (nI vok)) (upd mb c (nI vbd)) mr' := by
          intro s2 hs2'
          have h316 : ∀ y0, (nx = 3 → y0 = nI o) → ∃ y1 y2 y3 st' sk' ln' mr', fX6_goesThrough_b316 N (nI lv) (nI ql) (nI tw) (nI sd) (nI rt) (nI n) mk mo ms mf rec_24 (nI g) 0 (nI c) (nI nx) y0 (nI w1) (nI s2) (nI (w6.length + 1)) (upd mv c (nI vok)) (upd mt c (nI w1)) (upd mi c (nI vit)) (upd mb c (nI vbd)) (upd mr w6.length (nI c)) = rec_24 y1 y2 y3 (nI (c + 1)) st' sk' ln' (upd mv c (nI vok)) (upd mt c (nI w1)) (upd mi c (nI vit)) (upd mb c (nI vbd)) mr' ∧ GR (c + 1) (nx, s2, if nx = 3 then o else w3, g, 0, if nx = w1 then (vok, vbd) :: w6 else []) y1 y2 y3 st' sk' ln' (upd mv c (nI vok)) (upd mb c (nI vbd)) mr' := by
            intro y0 hy0
            unfold fX6_goesThrough_b316 fX6_goesThrough_b335 fX6_goesThrough_b344
            rw [nI_1]
            have heq : (nI nx = nI w1) ↔ nx = w1 := nI_eq (by omega) (by omega)
            simp only [heq]
            by_cases hn : nx = w1
            · rw [if_pos hn, if_pos hn]
              refine ⟨y0, nI g, 0, nI nx, nI s2, nI (w6.length + 1), upd mr w6.length (nI c), rfl, rfl, rfl, fun z => ?_, rfl, rfl, rfl, hP1⟩
              have z' : nx = 3 := z
              show y0 = nI (if nx = 3 then o else w3)
              rw [if_pos z']
              exact hy0 z'
            · rw [if_neg hn, if_neg hn]
              refine ⟨y0, nI g, 0, nI nx, nI s2, 0, upd mr w6.length (nI c), rfl, rfl, rfl, fun z => ?_, rfl, rfl, rfl, trivial⟩
              have z' : nx = 3 := z
              show y0 = nI (if nx = 3 then o else w3)
              rw [if_pos z']
              exact hy0 z'
          have e32 : (nI nx = 3) ↔ nx = 3 := nI_eq (b := 3) (by omega) (by omega)
          unfold fX6_goesThrough_b296
          rw [if_pos (show nI s2 = 0 ∨ nI s2 = 1 by rcases (show s2 = 0 ∨ s2 = 1 by omega) with rfl | rfl; exact Or.inl rfl; exact Or.inr rfl)]
          simp only [e32]
          by_cases hn3 : nx = 3
          · rw [if_pos hn3, if_pos ok, ecl, hmo]
            exact h316 (nI o) (fun _ => rfl)
          · rw [if_neg hn3]
            exact h316 x1 (fun z => absurd z hn3)
        unfold fX6_goesThrough_b245 fX6_goesThrough_b295
        rw [if_pos (show nI s1 = 0 ∨ nI s1 = 1 by rcases (show s1 = 0 ∨ s1 = 1 by omega) with rfl | rfl; exact Or.inl rfl; exact Or.inr rfl), if_pos (okI_nI (by omega) (by omega)), nI_clamp (by omega), nI_1]
        rw [show fX6_behind N (nI en) (nI sd) (nI w1) (nI (w6.length + 1)) (upd mv c (nI vok)) (upd mb c (nI vbd)) (upd mr w6.length (nI c)) = some (nI nx) from ebh, Option.bind_some]
        simp only [nI_zer s1 (by omega), nI_one nx (by omega)]
        by_cases k1 : s1 = 0
        · rw [if_pos k1, if_neg (show ¬ (s1 = 1 ∧ nx ≠ 1) by omega)]
          exact h296 0 (by omega)
        · rw [if_neg k1]
          by_cases k2 : nx = 1
          · rw [if_pos k2, if_neg (show ¬ (s1 = 1 ∧ nx ≠ 1) by omega)]
            exact h296 0 (by omega)
          · rw [if_neg k2, if_pos (show (s1 = 1 ∧ nx ≠ 1) by omega)]
            exact h296 1 (by omega)
      unfold fX6_goesThrough_b199 fX6_goesThrough_b244
      simp only [nI_zer w2 (by omega), show (nI rt ≤ 0) ↔ rt ≤ 0 from nI_leI (b := 0) (by omega) (by omega), show (nI g < 8) ↔ g < 8 from nI_ltI (b := 8) (by omega) (by omega), if_pos ok, ecl, ud_at, nI_one vok (by omega)]
      by_cases k1 : w2 = 0
      · rw [if_pos k1]
        by_cases k2 : rt ≤ 0
        · rw [if_pos k2]
          have e : (if w2 = 1 then vok else if 0 < rt ∧ 8 ≤ g then 1 else 0) = 0 := by
            rw [if_neg (by omega), if_neg (by omega)]
          rw [e]
          exact h245 0 (by omega) e
        · rw [if_neg k2]
          by_cases k3 : g < 8
          · rw [if_pos k3]
            have e : (if w2 = 1 then vok else if 0 < rt ∧ 8 ≤ g then 1 else 0) = 0 := by
              rw [if_neg (by omega), if_neg (by omega)]
            rw [e]
            exact h245 0 (by omega) e
          · rw [if_neg k3]
            have e : (if w2 = 1 then vok else if 0 < rt ∧ 8 ≤ g then 1 else 0) = 1 := by
              rw [if_neg (by omega), if_pos (by omega)]
            rw [e]
            exact h245 1 (by omega) e
      · rw [if_neg k1]
        by_cases k2 : vok = 1
        · rw [if_pos k2]
          have e : (if w2 = 1 then vok else if 0 < rt ∧ 8 ≤ g then 1 else 0) = 1 := by
            rw [if_pos (by omega), k2]
          rw [e]
          exact h245 1 (by omega) e
        · rw [if_neg k2]
          have e : (if w2 = 1 then vok else if 0 < rt ∧ 8 ≤ g then 1 else 0) = 0 := by
            rw [if_pos (by omega)]; omega
          rw [e]
          exact h245 0 (by omega) e
    unfold fX6_goesThrough_b198
    rw [nI_1]
    by_cases k1 : w1 = 1
    · have e : (if w1 ≠ 1 ∧ vok = 1 ∧ w2 = 0 then w4 + 1 else 0) = 0 := if_neg (by omega)
      rw [if_pos k1, e]
      exact h199 0 (by omega) e
    · rw [if_neg k1]
      by_cases k2 : vok = 1
      · rw [if_pos k2]
        by_cases k3 : w2 = 0
        · have e : (if w1 ≠ 1 ∧ vok = 1 ∧ w2 = 0 then w4 + 1 else 0) = w4 + 1 := if_pos (by omega)
          rw [if_pos k3, e]
          exact h199 (w4 + 1) (by omega) e
        · have e : (if w1 ≠ 1 ∧ vok = 1 ∧ w2 = 0 then w4 + 1 else 0) = 0 := if_neg (by omega)
          rw [if_neg k3, e]
          exact h199 0 (by omega) e
      · have e : (if w1 ≠ 1 ∧ vok = 1 ∧ w2 = 0 then w4 + 1 else 0) = 0 := if_neg (by omega)
        rw [if_neg k2, e]
        exact h199 0 (by omega) e
  by_cases k2 : w2 = 0
  · rw [if_pos k2, show spStepB lv ql tw sd rt o s f (w1, w2, w3, w4, w5, w6) = spInsp lv ql tw sd rt o s f (w1, w2, w3, w4, w5, w6) by
        unfold spStepB; rw [if_neg q3, if_neg (show ¬ (w2 = 1 ∧ w5 + 1 < rt) by omega)]]
    exact insp
  · rw [if_neg k2]
    by_cases k3 : rt ≤ w5 + w2
    · rw [if_pos k3, show spStepB lv ql tw sd rt o s f (w1, w2, w3, w4, w5, w6) = spInsp lv ql tw sd rt o s f (w1, w2, w3, w4, w5, w6) by
        unfold spStepB; rw [if_neg q3, if_neg (show ¬ (w2 = 1 ∧ w5 + 1 < rt) by omega)]]
      exact insp
    · rw [if_neg k3, show spStepB lv ql tw sd rt o s f (w1, w2, w3, w4, w5, w6) = (spTurn (w1, w2, w3, w4, w5, w6), (2, w1, 0, 0)) by
        unfold spStepB; rw [if_neg q3, if_pos (show (w2 = 1 ∧ w5 + 1 < rt) by omega)]]
      exact hno 2 (if_neg q3)
