theorem HC_ex : ∀ (h : List (Nat × Nat)), ∃ hr hb : Nat → Int32, HC hr hb h
  | [] => ⟨fun _ => 0, fun _ => 0, trivial⟩
  | x :: t => by
    obtain ⟨hr, hb, h⟩ := HC_ex t
    exact ⟨upd hr t.length (nI (spFl x)), upd hb t.length (nI x.2), ud_at _ _ _, ud_at _ _ _, HC_upd _ _ t (Nat.le_refl _) h⟩
theorem WI_step {n lv ql tw sd rt o s f : Nat} (hcf : CFG lv ql tw sd rt) (hs : s ≤ 5000) (hf : f < 2 ^ 50) (hn : n < 60) {M : Nat → Nat} {w : SpW} (hw : WI n w) (hstp : wstp w < 200) : WI (n + 1) (spStep lv ql tw sd rt M o s f w).1 := by
  obtain ⟨hr, hb, hc⟩ := HC_ex (wh w)
  have hmk : wst w = 3 → (((if spMarked M (wstp w + 1) o = true then nI 200 else nI 0) ≤ nI (wstp w)) ↔ ¬ spMarked M (wstp w + 1) o = true) := by
    intro _
    by_cases h : spMarked M (wstp w + 1) o = true
    · rw [if_pos h]
      exact ⟨fun z => absurd z (nI_ge hstp (by omega)), fun z => absurd h z⟩
    · rw [if_neg h]
      exact ⟨fun _ => h, fun _ => nI_le (Nat.zero_le _) (by omega)⟩
  obtain ⟨r, -, -, h, -⟩ := c_pass (N := 100) (o := o) (Nat.le_refl _) hcf hs hf hn hw (st := nI (wst w)) (sk := nI (wsk w)) (ch := nI (wstp w)) (ac := nI (wgood w)) (pa := nI (wturn w)) (ln := nI (wh w).length) ⟨rfl, rfl, fun _ => rfl, fun _ => rfl, fun _ => rfl, rfl, hc⟩ hmk 0 0 0 0
  exact h
theorem WI_0 : WI 0 (0, 0, 0, 0, 0, []) :=
  ⟨Nat.zero_le _, Nat.zero_le _, Nat.zero_le _, ⟨trivial, fun _ => Nat.zero_le _, fun _ => Nat.zero_le _⟩, fun _ => rfl, fun _ => rfl, Nat.zero_le _, Nat.zero_le _⟩
theorem WI_W {n lv ql tw sd rt : Nat} (hcf : CFG lv ql tw sd rt) {O S F M : Nat → Nat} (hl : LOTS n O S F) : ∀ c, c ≤ n → WI c (spW lv ql tw sd rt M O S F c)
  | 0, _ => WI_0
  | c + 1, h => by
    have h60 := hl.1
    exact WI_step hcf (hl.2.1 c (by omega)).2.2.1 (hl.2.1 c (by omega)).2.2.2 (by omega) (WI_W hcf hl c (by omega)) (spW_stp (fun i hi => (hl.2.1 i hi).1) c (by omega))
/-- the reference's history: as HM, its places lie before c -/
def HP (c : Nat) (mr mv mb : Nat → Int32) : List (Nat × Nat) → Prop
  | [] => True
  | x :: t => (∃ p, p < c ∧ mr t.length = nI p ∧ mv p = nI x.1 ∧ mb p = nI x.2) ∧ HP c mr mv mb t
theorem HP_HM {c : Nat} (hc : c ≤ 60) {mr mv mb : Nat → Int32} : ∀ (t : List (Nat × Nat)), HP c mr mv mb t → HM mr mv mb t
  | [], _ => trivial
  | x :: t, h => by
    obtain ⟨⟨p, h1, h2, h3, h4⟩, h5⟩ := h
    exact ⟨⟨p, by omega, h2, h3, h4⟩, HP_HM hc t h5⟩
theorem HP_next {c : Nat} {mr mv mb : Nat → Int32} (a b : Int32) : ∀ (t : List (Nat × Nat)), HP c mr mv mb t → HP (c + 1) mr (upd mv c a) (upd mb c b) t
  | [], _ => trivial
  | x :: t, h => by
    obtain ⟨⟨p, h1, h2, h3, h4⟩, h5⟩ := h
    exact ⟨⟨p, by omega, h2, by rw [ud_ne _ _ (by omega)]; exact h3, by rw [ud_ne _ _ (by omega)]; exact h4⟩, HP_next a b t h5⟩
theorem HP_mr {c k : Nat} {mr mv mb : Nat → Int32} (a : Int32) : ∀ (t : List (Nat × Nat)), t.length ≤ k → HP c mr mv mb t → HP c (upd mr k a) mv mb t
  | [], _, _ => trivial
  | x :: t, hk, h => by
    have hk' : t.length + 1 ≤ k := hk
    obtain ⟨⟨p, h1, h2, h3, h4⟩, h5⟩ := h
    exact ⟨⟨p, h1, by rw [ud_ne _ _ (by omega)]; exact h2, h3, h4⟩, HP_mr a t (by omega) h5⟩
/-- the reference's numbers behind the first c lots -/
def GR (c : Nat) (w : SpW) (x1 x2 x3 st sk ln : Int32) (mv mb mr : Nat → Int32) : Prop :=
  st = nI (wst w) ∧ sk = nI (wsk w) ∧ (wst w = 3 → x1 = nI (wstp w)) ∧ x2 = nI (wgood w) ∧ x3 = nI (wturn w) ∧ ln = nI (wh w).length ∧ HP c mr mv mb (wh w)
