def spSize (l : Nat) : Nat :=
  if l = 0 then 2 else if l = 1 then 3 else if l = 2 then 5 else if l = 3 then 8
  else if l = 4 then 13 else if l = 5 then 20 else if l = 6 then 32 else 50
def spSort (s : Nat) : Nat :=
  if s ≤ 8 then 0 else if s ≤ 15 then 1 else if s ≤ 50 then 2 else if s ≤ 150 then 3 else if s ≤ 500 then 4 else 5
def spDown (s : Nat) : Nat → Nat
  | 0 => 0
  | l + 1 => if spSize (l + 1) ≤ s then l + 1 else spDown s l
def spLetter (lv s : Nat) : Nat := spDown s (spSort s + lv)
def spSample (lv s st : Nat) : Nat := spSize (if st = 2 then spLetter lv s - 2 else spLetter lv s)
def spAcc (lv ql s st : Nat) : Nat :=
  if st = 0 ∨ spSize (spLetter lv s) * (2 * ql + 1) / 40 = 0 then spSize (spLetter lv s) * (2 * ql + 1) / 40
  else spSize (spLetter lv s) * (2 * ql + 1) / 40 - 1
def spPop (f : Nat) : Nat → Nat
  | 0 => 0
  | k + 1 => spPop f k + (f >>> k) % 2
def spItems (lv ql tw s f st : Nat) : Nat :=
  if tw = 1 ∧ st ≠ 2 ∧ 5 ≤ spSample lv s st then
    if spPop f ((spSample lv s st * 2 + 2) / 3) ≤ spAcc lv ql s st ∧
        (spAcc lv ql s st < 2 ∨ spAcc lv ql s st - 2 < spPop f ((spSample lv s st * 2 + 2) / 3)) then
      min (min (2 * ((spSample lv s st * 2 + 2) / 3)) s) 50
    else (spSample lv s st * 2 + 2) / 3
  else spSample lv s st
def spBad (lv ql tw s f st : Nat) : Nat := spPop f (spItems lv ql tw s f st)
def spOk (lv ql tw s f st : Nat) : Nat :=
  if spBad lv ql tw s f st ≤ spAcc lv ql s st ∨ (st = 2 ∧ spBad lv ql tw s f st = spAcc lv ql s st + 1) then 1 else 0
def spEnds (lv ql tw s f st : Nat) : Nat :=
  if st = 2 ∧ spAcc lv ql s st < spBad lv ql tw s f st then 1 else 0
def spRef : Nat → List (Nat × Nat) → Nat
  | 0, _ => 0
  | _ + 1, [] => 0
  | n + 1, x :: t => (if x.1 = 0 then 1 else 0) + spRef n t
def spSum : Nat → List (Nat × Nat) → Nat
  | 0, _ => 0
  | _ + 1, [] => 0
  | n + 1, x :: t => x.2 + spSum n t
def spBehind (sd st : Nat) (h : List (Nat × Nat)) (ends : Nat) : Nat :=
  if st = 0 then
    if 2 ≤ spRef 5 h then 1
    else if sd = 1 ∧ 10 ≤ h.length ∧ spRef 10 h = 0 ∧ spSum 10 h ≤ 4 then 2 else 0
  else if st = 1 then
    if 5 ≤ spRef 60 h then 3 else if 5 ≤ h.length ∧ spRef 5 h = 0 then 0 else 1
  else if ends = 1 then 0 else 2
def spMarked (M : Nat → Nat) (lo hi : Nat) : Bool := (List.range (hi + 1)).any fun k => decide (lo ≤ k) && decide (M k = 1)
abbrev SpW := Nat × Nat × Nat × Nat × Nat × List (Nat × Nat)
abbrev SpO := Nat × Nat × Nat × Nat
abbrev wst (w : SpW) : Nat := w.1
abbrev wsk (w : SpW) : Nat := w.2.1
abbrev wstp (w : SpW) : Nat := w.2.2.1
abbrev wgood (w : SpW) : Nat := w.2.2.2.1
abbrev wturn (w : SpW) : Nat := w.2.2.2.2.1
abbrev wh (w : SpW) : List (Nat × Nat) := w.2.2.2.2.2
abbrev ov (o : SpO) : Nat := o.1
abbrev ot (o : SpO) : Nat := o.2.1
abbrev oi (o : SpO) : Nat := o.2.2.1
abbrev ob (o : SpO) : Nat := o.2.2.2
def spWake (M : Nat → Nat) (o : Nat) (w : SpW) : SpW :=
  if wst w = 3 ∧ spMarked M (wstp w + 1) o = true then (1, wsk w, wstp w, wgood w, wturn w, []) else w
def spInsp (lv ql tw sd rt : Nat) (o s f : Nat) (w : SpW) : SpW × SpO :=
  let ok := spOk lv ql tw s f (wst w)
  let bad := spBad lv ql tw s f (wst w)
  let good := if wst w ≠ 1 ∧ ok = 1 ∧ wsk w = 0 then wgood w + 1 else 0
  let sk1 := if wsk w = 1 then ok else if 0 < rt ∧ 8 ≤ good then 1 else 0
  let h := (ok, bad) :: wh w
  let next := spBehind sd (wst w) h (spEnds lv ql tw s f (wst w))
  ((next, if sk1 = 1 ∧ next ≠ 1 then 1 else 0, if next = 3 then o else wstp w, good, 0, if next = wst w then h else []),
    (ok, wst w, spItems lv ql tw s f (wst w), bad))
def spTurn (w : SpW) : SpW := (wst w, wsk w, wstp w, wgood w, wturn w + wsk w, wh w)
def spStepB (lv ql tw sd rt : Nat) (o s f : Nat) (w : SpW) : SpW × SpO :=
  if wst w = 3 then (spTurn w, (3, 3, 0, 0))
  else if wsk w = 1 ∧ wturn w + 1 < rt then (spTurn w, (2, wst w, 0, 0))
  else spInsp lv ql tw sd rt o s f w
def spStep (lv ql tw sd rt : Nat) (M : Nat → Nat) (o s f : Nat) (w : SpW) : SpW × SpO :=
  spStepB lv ql tw sd rt o s f (spWake M o w)
def spW (lv ql tw sd rt : Nat) (M O S F : Nat → Nat) : Nat → SpW
  | 0 => (0, 0, 0, 0, 0, [])
  | n + 1 => (spStep lv ql tw sd rt M (O n) (S n) (F n) (spW lv ql tw sd rt M O S F n)).1
def spOut (lv ql tw sd rt : Nat) (M O S F : Nat → Nat) (i : Nat) : SpO :=
  (spStep lv ql tw sd rt M (O i) (S i) (F i) (spW lv ql tw sd rt M O S F i)).2
def CFG (lv ql tw sd rt : Nat) : Prop := lv ≤ 2 ∧ ql ≤ 3 ∧ tw ≤ 1 ∧ sd ≤ 1 ∧ (rt = 0 ∨ (2 ≤ rt ∧ rt ≤ 5))
def LOTS (n : Nat) (O S F : Nat → Nat) : Prop :=
  n ≤ 60 ∧ (∀ i, i < n → O i < 200 ∧ 2 ≤ S i ∧ S i ≤ 5000 ∧ F i < 2 ^ 50) ∧ (∀ i j, i < j → j < n → O i < O j)
def MARR (n : Nat) (O S F M : Nat → Nat) (mk_f mo_f ms_f : Nat → Int32) (mf_f : Nat → Int64) : Prop :=
  (∀ i, i < n → mo_f i = Int32.ofNat (O i) ∧ ms_f i = Int32.ofNat (S i) ∧ mf_f i = Int64.ofNat (F i)) ∧
  (∀ k, k < 200 → mk_f k = Int32.ofNat (M k))
def CTAB (n : Nat) (O S F M : Nat → Nat) (la_f : Nat → Option Nat) (ma_f : Nat → Int32) (pL : List Nat) (pO pZ : Nat → Int32) (pF : Nat → Int64) : Prop :=
  (∀ k, k < 200 → M k ≤ 1 ∧ ma_f k = Int32.ofNat (M k)) ∧
  (∀ o, o < 200 → ∀ a, la_f o = some a → a ∈ pL ∧ pO a = Int32.ofNat o ∧ ∃ i, i < n ∧ O i = o ∧ pZ a = Int32.ofNat (S i) ∧ pF a = Int64.ofNat (F i)) ∧
  (∀ i, i < n → ∃ a, la_f (O i) = some a)
def DER (lv ql tw sd rt n : Nat) (O S F M : Nat → Nat) (la_f : Nat → Option Nat) (course_state course_skipping : Int32) (pV pT pI pB : Nat → Int32) : Prop :=
  course_state = Int32.ofNat (wst (spW lv ql tw sd rt M O S F n)) ∧ course_skipping = Int32.ofNat (wsk (spW lv ql tw sd rt M O S F n)) ∧
  ∀ i, i < n → ∀ a, la_f (O i) = some a → pV a = Int32.ofNat (ov (spOut lv ql tw sd rt M O S F i)) ∧ pT a = Int32.ofNat (ot (spOut lv ql tw sd rt M O S F i)) ∧
    pI a = Int32.ofNat (oi (spOut lv ql tw sd rt M O S F i)) ∧ pB a = Int32.ofNat (ob (spOut lv ql tw sd rt M O S F i))

