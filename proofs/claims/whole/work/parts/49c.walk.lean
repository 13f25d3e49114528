/-- what the reference keeps of the lots gone through so far -/
def MG (lv ql tw sd rt c : Nat) (O S F M : Nat → Nat) (mv mt mi mb : Nat → Int32) : Prop :=
  ∀ i, i < c → mv i = nI (ov (spOut lv ql tw sd rt M O S F i)) ∧ mt i = nI (ot (spOut lv ql tw sd rt M O S F i)) ∧
    mi i = nI (oi (spOut lv ql tw sd rt M O S F i)) ∧ mb i = nI (ob (spOut lv ql tw sd rt M O S F i))
theorem goes_walk {N n lv ql tw sd rt : Nat} (hN : 1000 ≤ N) (hcf : CFG lv ql tw sd rt) {O S F M : Nat → Nat} (hl : LOTS n O S F) {mk mo ms : Nat → Int32} {mf : Nat → Int64} (hM : MARR n O S F M mk mo ms mf) (hM1 : ∀ k, k < 200 → M k ≤ 1) : ∀ (d k c : Nat) (x1 x2 x3 st sk ln : Int32) (mv mt mi mb mr : Nat → Int32), n = c + d → d < k → GR c (spW lv ql tw sd rt M O S F c) x1 x2 x3 st sk ln mv mb mr → MG lv ql tw sd rt c O S F M mv mt mi mb → ∃ r, fX6_goesThrough_b24 N (nI lv) (nI ql) (nI tw) (nI sd) (nI rt) (nI n) mk mo ms mf k x1 x2 x3 (nI c) st sk ln mv mt mi mb mr = some r ∧ r.1 = nI (wst (spW lv ql tw sd rt M O S F n)) ∧ r.2.1 = nI (wsk (spW lv ql tw sd rt M O S F n)) ∧ MG lv ql tw sd rt n O S F M r.2.2.2.1 r.2.2.2.2.1 r.2.2.2.2.2.1 r.2.2.2.2.2.2.1 := by
  have hn := hl.1
  intro d
  induction d with
  | zero =>
    intro k c x1 x2 x3 st sk ln mv mt mi mb mr hd hk hg hm
    obtain ⟨k, rfl⟩ : ∃ q, k = q + 1 := ⟨k - 1, by omega⟩
    have e : c = n := by omega
    subst e
    exact ⟨_, by rw [fX6_goesThrough_b24, if_pos (nI_le (Nat.le_refl _) (by omega))], hg.1, hg.2.1, hm⟩
  | succ d ih =>
    intro k c x1 x2 x3 st sk ln mv mt mi mb mr hd hk hg hm
    obtain ⟨k, rfl⟩ : ∃ q, k = q + 1 := ⟨k - 1, by omega⟩
    obtain ⟨hO, hS2, hS, hF⟩ := hl.2.1 c (by omega)
    obtain ⟨em1, em2, em3⟩ := hM.1 c (by omega)
    have hW := WI_W (M := M) hcf hl c (by omega)
    have hstp := spW_stp (lv := lv) (ql := ql) (tw := tw) (sd := sd) (rt := rt) (M := M) (S := S) (F := F) (fun i hi => (hl.2.1 i hi).1) c (by omega)
    have e3 : (st = 3) ↔ wst (spW lv ql tw sd rt M O S F c) = 3 := by
      rw [hg.1]
      have := hW.1
      exact nI_eq (b := 3) (by omega) (by omega)
    -- what is left behind one lot, whatever the state it is met with
    have fin : ∀ (w : SpW) (st ln : Int32), spWake M (O c) (spW lv ql tw sd rt M O S F c) = w → WI c w → GR c w x1 x2 x3 st sk ln mv mb mr → ∃ r, fX6_goesThrough_b68 N (nI lv) (nI ql) (nI tw) (nI sd) (nI rt) (nI n) mk mo ms mf (fun x1 x2 x3 x4 model_state model_skipping model_since mv_f mt_f mi_f mb_f mr_f => fX6_goesThrough_b24 N (nI lv) (nI ql) (nI tw) (nI sd) (nI rt) (nI n) mk mo ms mf k x1 x2 x3 x4 model_state model_skipping model_since mv_f mt_f mi_f mb_f mr_f) x1 x2 x3 (nI c) st sk ln mv mt mi mb mr = some r ∧ r.1 = nI (wst (spW lv ql tw sd rt M O S F n)) ∧ r.2.1 = nI (wsk (spW lv ql tw sd rt M O S F n)) ∧ MG lv ql tw sd rt n O S F M r.2.2.2.1 r.2.2.2.2.1 r.2.2.2.2.2.1 r.2.2.2.2.2.2.1 := by
      intro w st ln hw hWw hGw
      obtain ⟨y1, y2, y3, st', sk', ln', mr', z1, z2⟩ := r_passB (n := n) (o := O c) (s := S c) (f := F c) (show 100 ≤ N by omega) hcf hS2 hS hF (by omega) (mk := mk) em1 em2 em3 hWw mt mi hGw (fun x1 x2 x3 x4 model_state model_skipping model_since mv_f mt_f mi_f mb_f mr_f => fX6_goesThrough_b24 N (nI lv) (nI ql) (nI tw) (nI sd) (nI rt) (nI n) mk mo ms mf k x1 x2 x3 x4 model_state model_skipping model_since mv_f mt_f mi_f mb_f mr_f)
      have eW : spW lv ql tw sd rt M O S F (c + 1) = (spStepB lv ql tw sd rt (O c) (S c) (F c) w).1 := by rw [← hw]; rfl
      have eO : spOut lv ql tw sd rt M O S F c = (spStepB lv ql tw sd rt (O c) (S c) (F c) w).2 := by rw [← hw]; rfl
      rw [z1]
      rw [← eW] at z2
      refine ih k (c + 1) y1 y2 y3 st' sk' ln' _ _ _ _ mr' (by omega) (by omega) z2 ?_
      intro i hi
      by_cases hic : i = c
      · subst hic
        rw [ud_at, ud_at, ud_at, ud_at, eO]
        exact ⟨rfl, rfl, rfl, rfl⟩
      · rw [ud_ne _ _ hic, ud_ne _ _ hic, ud_ne _ _ hic, ud_ne _ _ hic]
        exact hm i (by omega)
    rw [fX6_goesThrough_b24, if_neg (nI_ge (by omega) (by omega))]
    by_cases q3 : wst (spW lv ql tw sd rt M O S F c) = 3
    · rw [if_pos (e3.mpr q3), if_pos (okI_nI (by omega) (by omega)), nI_clamp (by omega), em1, hg.2.2.1 q3]
      obtain ⟨rr, r1, r2, r3⟩ := r_marked (N := N) (by omega) hO hM1 hM.2 (wstp (spW lv ql tw sd rt M O S F c)) hstp
      rw [show fX6_isMarked N (nI (wstp (spW lv ql tw sd rt M O S F c)) + 1) (Int32.ofNat (O c)) mk = some (nI rr) from r2, Option.bind_some, ← hg.2.2.1 q3]
      simp only [nI_zer rr (by omega)]
      by_cases qr : rr = 0
      · have ew : spWake M (O c) (spW lv ql tw sd rt M O S F c) = spW lv ql tw sd rt M O S F c := by
          unfold spWake; rw [if_neg (fun z => by have := r3.mpr z.2; omega)]
        rw [if_pos qr]
        exact fin _ st ln ew hW hg
      · have ew : spWake M (O c) (spW lv ql tw sd rt M O S F c) = (1, wsk (spW lv ql tw sd rt M O S F c), wstp (spW lv ql tw sd rt M O S F c), wgood (spW lv ql tw sd rt M O S F c), wturn (spW lv ql tw sd rt M O S F c), []) := by
          unfold spWake; rw [if_pos ⟨q3, r3.mp (by omega)⟩]
        rw [if_neg qr]
        obtain ⟨h1, h2, h3, h4, h5, h6, h7, h8⟩ := hW
        obtain ⟨g1, g2, g3, g4, g5, g6, g7⟩ := hg
        have z := h6 q3
        exact fin _ 1 0 ew ⟨by show 1 ≤ 3; omega, h2, Nat.zero_le _, ⟨trivial, fun _ => by rw [spRef_nil]; omega, fun _ => by rw [spRef_nil]; omega⟩, fun _ => z, fun _ => z, h7, h8⟩ ⟨rfl, g2, fun q => absurd q (by show ¬ (1 : Nat) = 3; omega), g4, g5, rfl, trivial⟩
    · have ew : spWake M (O c) (spW lv ql tw sd rt M O S F c) = spW lv ql tw sd rt M O S F c := by
        unfold spWake; rw [if_neg (fun z => q3 z.1)]
      rw [if_neg (fun z => q3 (e3.mp z))]
      exact fin _ st ln ew hW hg
theorem r_goes {N n lv ql tw sd rt : Nat} (hN : 1000 ≤ N) (hcf : CFG lv ql tw sd rt) {O S F M : Nat → Nat} (hl : LOTS n O S F) {mk mo ms : Nat → Int32} {mf : Nat → Int64} (hM : MARR n O S F M mk mo ms mf) (hM1 : ∀ k, k < 200 → M k ≤ 1) (st sk ln : Int32) (mv mt mi mb mr : Nat → Int32) : ∃ r, fX6_goesThrough N (nI lv) (nI ql) (nI tw) (nI sd) (nI rt) (nI n) st sk ln mk mo ms mf mv mt mi mb mr = some r ∧ r.1 = nI (wst (spW lv ql tw sd rt M O S F n)) ∧ r.2.1 = nI (wsk (spW lv ql tw sd rt M O S F n)) ∧ MG lv ql tw sd rt n O S F M r.2.2.2.1 r.2.2.2.2.1 r.2.2.2.2.2.1 r.2.2.2.2.2.2.1 := by
  unfold fX6_goesThrough
  exact goes_walk hN hcf hl hM hM1 n N 0 (-1) 0 0 0 0 0 mv mt mi mb mr (by omega) (by have := hl.1; omega) ⟨rfl, rfl, fun z => absurd z (by show ¬ (0 : Nat) = 3; omega), rfl, rfl, rfl, trivial⟩ (fun i hi => absurd hi (Nat.not_lt_zero _))
