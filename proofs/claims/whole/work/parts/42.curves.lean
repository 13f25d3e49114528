def ch : Nat → Nat → Nat
  | _, 0 => 1
  | 0, _ + 1 => 0
  | n + 1, k + 1 => ch n k + ch n (k + 1)
theorem ch_0 (n : Nat) : ch n 0 = 1 := by cases n <;> rfl
theorem ch_pas (n k : Nat) : ch (n + 1) (k + 1) = ch n k + ch n (k + 1) := rfl
theorem ch_big : ∀ n k, n < k → ch n k = 0
  | 0, k + 1, _ => rfl
  | n + 1, k + 1, h => by rw [ch_pas, ch_big n k (by omega), ch_big n (k + 1) (by omega)]
theorem ch_self : ∀ n, ch n n = 1
  | 0 => rfl
  | n + 1 => by rw [ch_pas, ch_self n, ch_big n (n + 1) (by omega)]
/-- the absorption identity -/
theorem ch_abs : ∀ n k, ch (n + 1) (k + 1) * (k + 1) = ch n k * (n + 1)
  | 0, 0 => rfl
  | 0, k + 1 => by rw [ch_big (0 + 1) _ (by omega), ch_big 0 _ (by omega)]; simp
  | n + 1, 0 => by
    have h := ch_abs n 0
    simp only [ch_0, Nat.zero_add, Nat.mul_one, Nat.one_mul] at h ⊢
    rw [show ch (n + 1 + 1) 1 = ch (n + 1) 0 + ch (n + 1) 1 from rfl, ch_0, h]
    omega
  | n + 1, k + 1 => by
    have h1 := ch_abs n k
    have h2 := ch_abs n (k + 1)
    have e1 := ch_pas (n + 1) (k + 1)
    have e2 := ch_pas n k
    rw [e1, Nat.add_mul, h2, show k + 1 + 1 = (k + 1) + 1 from rfl, Nat.mul_add, h1, Nat.mul_one]
    rw [show n + 1 + 1 = (n + 1) + 1 from rfl, Nat.mul_add _ (n + 1) 1, Nat.mul_one, e2, Nat.add_mul]
    omega
theorem ch_abs2 (n k : Nat) (h : k ≤ n) : ch n (k + 1) * (k + 1) = ch n k * (n - k) := by
  have h1 := ch_abs n k
  rw [ch_pas, Nat.add_mul] at h1
  have h2 : ch n k * (n + 1) = ch n k * (n - k) + ch n k * (k + 1) := by rw [← Nat.mul_add]; congr 1; omega
  omega
theorem ch_sym : ∀ a b, ch (a + b) a = ch (a + b) b
  | 0, b => by rw [Nat.zero_add, ch_0, ch_self]
  | a + 1, 0 => by rw [Nat.add_zero, ch_0, ch_self]
  | a + 1, b + 1 => by
    have h1 := ch_sym a (b + 1)
    have h2 := ch_sym (a + 1) b
    rw [show a + (b + 1) = a + b + 1 by omega] at h1
    rw [show a + 1 + b = a + b + 1 by omega] at h2
    rw [show a + 1 + (b + 1) = (a + b + 1) + 1 by omega, ch_pas (a + b + 1) a, ch_pas (a + b + 1) b, h1, h2, Nat.add_comm]
theorem ch_mono (n k : Nat) : ch n k ≤ ch (n + 1) k := by
  cases k with
  | zero => rw [ch_0, ch_0]; exact Nat.le_refl _
  | succ k => rw [ch_pas]; omega
theorem ch_mono' {n m : Nat} (k : Nat) (h : n ≤ m) : ch n k ≤ ch m k := by
  induction h with
  | refl => exact Nat.le_refl _
  | step _ ih => exact Nat.le_trans ih (ch_mono _ k)
def chT : List Nat := [1, 60, 1770, 34220, 487635, 5461512, 50063860, 386206920, 2558620845, 14783142660, 75394027566, 342700125300, 1399358844975, 5166863427600, 17345898649800, 53194089192720, 149608375854525, 387221678682300, 925029565741050, 2044802197953900, 4191844505805495, 7984465725343800, 14154280149473100, 23385332420868600, 36052387482172425, 51915437974328292, 69886166503903470, 88004802264174740, 103719945525634515, 114449595062769120, 118264581564861424, 114449595062769120, 103719945525634515, 88004802264174740, 69886166503903470, 51915437974328292, 36052387482172425, 23385332420868600, 14154280149473100, 7984465725343800, 4191844505805495, 2044802197953900, 925029565741050, 387221678682300, 149608375854525, 53194089192720, 17345898649800, 5166863427600, 1399358844975, 342700125300, 75394027566, 14783142660, 2558620845, 386206920, 50063860, 5461512, 487635, 34220, 1770, 60, 1]
theorem ch60_T : ∀ k, k ≤ 60 → ch 60 k = chT.getD k 0
  | 0, _ => rfl
  | k + 1, h => by
    have ih := ch60_T k (by omega)
    have h2 := ch_abs2 60 k (by omega)
    have h3 : ∀ j, j < 60 → chT.getD (j + 1) 0 * (j + 1) = chT.getD j 0 * (60 - j) := by decide +kernel
    rw [ih, ← h3 k (by omega)] at h2
    exact Nat.eq_of_mul_eq_mul_right (Nat.succ_pos k) h2
theorem ch_le {n : Nat} (k : Nat) (h : n ≤ 60) : ch n k ≤ 118264581564861424 := by
  refine Nat.le_trans (ch_mono' k h) ?_
  rcases Nat.lt_or_ge 60 k with hk | hk
  · rw [ch_big 60 k hk]; exact Nat.zero_le _
  · rw [ch60_T k hk]
    have h3 : ∀ j, j < 61 → chT.getD j 0 ≤ 118264581564861424 := by decide +kernel
    exact h3 k (by omega)
/-- what the reference's step does: the divisor is cut by the common factor -/
theorem ch_step {m j g : Nat} (hg : g = Nat.gcd (m + j + 1) (j + 1)) : ch (m + j) j / ((j + 1) / g) * ((m + j + 1) / g) = ch (m + j + 1) (j + 1) := by
  have h := ch_abs (m + j) j
  have hg0 : 0 < g := by rw [hg]; exact Nat.gcd_pos_of_pos_right _ (Nat.succ_pos j)
  have hd1 : g ∣ m + j + 1 := by rw [hg]; exact Nat.gcd_dvd_left _ _
  have hd2 : g ∣ j + 1 := by rw [hg]; exact Nat.gcd_dvd_right _ _
  have hco : Nat.Coprime ((j + 1) / g) ((m + j + 1) / g) := by
    rw [hg]
    exact (Nat.coprime_div_gcd_div_gcd (by rw [← hg]; exact hg0)).symm
  obtain ⟨u, hu⟩ := hd1
  obtain ⟨k, hk⟩ := hd2
  rw [hu, Nat.mul_div_cancel_left u hg0, hk, Nat.mul_div_cancel_left k hg0] at hco ⊢
  have hk0 : 0 < k := by
    rcases Nat.eq_zero_or_pos k with z | z
    · rw [z] at hk; omega
    · exact z
  have h2 : ch (m + j + 1) (j + 1) * k = ch (m + j) j * u := by
    apply Nat.eq_of_mul_eq_mul_left hg0
    have e1 : g * (ch (m + j + 1) (j + 1) * k) = ch (m + j + 1) (j + 1) * (j + 1) := by rw [hk]; ac_rfl
    have e2 : g * (ch (m + j) j * u) = ch (m + j) j * (m + j + 1) := by rw [hu]; ac_rfl
    rw [e1, e2, h]
  rw [← hu, ← hk]
  have hdv : k ∣ ch (m + j) j := hco.dvd_of_dvd_mul_right ⟨_, h2.symm.trans (Nat.mul_comm _ _)⟩
  obtain ⟨q, hq⟩ := hdv
  rw [hq, Nat.mul_div_cancel_left q hk0]
  rw [hq, Nat.mul_comm _ k, Nat.mul_assoc] at h2
  exact (Nat.eq_of_mul_eq_mul_left hk0 h2).symm
theorem lN_toInt' {n : Nat} (h : n < 2 ^ 63) : (lN n).toInt = (n : Int) := lg_ofNat_toInt h
theorem lN_div {a b : Nat} (ha : a < 2 ^ 63) (hb : b < 2 ^ 63) : lN a / lN b = lN (a / b) := by
  have hd : a / b < 2 ^ 63 := Nat.lt_of_le_of_lt (Nat.div_le_self a b) ha
  apply Int64.toInt_inj.mp
  rw [Int64.toInt_div, lN_toInt' ha, lN_toInt' hb, lN_toInt' hd, ← Int.ofNat_tdiv]
  generalize a / b = c at *
  apply Int.bmod_eq_of_le <;> omega
theorem lN_ne {a : Nat} (ha : a < 2 ^ 63) (h : 0 < a) : ¬ lN a = 0 := by
  intro z
  have := congrArg Int64.toInt z
  rw [lN_toInt' ha] at this
  have h0 : (0 : Int64).toInt = 0 := rfl
  omega
theorem lN_le' {a b : Nat} (ha : a < 2 ^ 63) (hb : b < 2 ^ 63) : lN a ≤ lN b ↔ a ≤ b := by
  rw [Int64.le_iff_toInt_le, lN_toInt' ha, lN_toInt' hb]; omega
theorem ch_num {m j : Nat} (h : m + j + 1 ≤ 60) : ch (m + j) j * (m + j + 1) < 2 ^ 63 := by
  have h1 := ch_le j (show m + j ≤ 60 by omega)
  have h2 : ch (m + j) j * (m + j + 1) ≤ 118264581564861424 * 60 := Nat.mul_le_mul h1 h
  omega
theorem c_choices_b (N : Nat) {i t : Nat} (hi : i ≤ 60) (ht : t ≤ i) : ∀ (d j k : Nat), t = j + d → d < k → fX1_choices_b16 N k (nI i) (nI t) (lN (ch (i - t + j) j)) (nI (j + 1)) = some (lN (ch i t)) := by
  intro d
  induction d with
  | zero =>
    intro j k hd hk
    obtain ⟨k, rfl⟩ : ∃ q, k = q + 1 := ⟨k - 1, by omega⟩
    rw [fX1_choices_b16, if_pos (nI_lt (by omega) (by omega)), show i - t + j = i by omega, show j = t by omega]
  | succ d ih =>
    intro j k hd hk
    obtain ⟨k, rfl⟩ : ∃ q, k = q + 1 := ⟨k - 1, by omega⟩
    have hm : i - t + j + 1 ≤ 60 := by omega
    have hb := ch_num hm
    have hs : ch (i - t + j) j * (i - t + j + 1) / (j + 1) = ch (i - t + (j + 1)) (j + 1) := by
      rw [← ch_abs, Nat.mul_div_cancel _ (Nat.succ_pos j)]; rfl
    rw [fX1_choices_b16, if_neg (nI_nlt (by omega) (by omega)), nI_l (by omega), if_pos (lN_ne (by omega) (by omega)), Option.bind_some, nI_sub ht, nI_add, nI_l (by omega), lN_mul, lN_div (by rw [← Nat.add_assoc]; exact hb) (by omega), nI_1, ← Nat.add_assoc, hs]
    exact ih (j + 1) k (by omega) (by omega)
theorem c_choices {N i t : Nat} (hN : 100 ≤ N) (hi : i ≤ 60) (ht : t ≤ i) : fX1_choices N (nI i) (nI t) = some (lN (ch i t)) := by
  unfold fX1_choices
  rw [if_neg (nI_pos (by omega)), if_pos (nI_le ht (by omega))]
  have h := c_choices_b N hi ht t 0 N (by omega) (by omega)
  rw [Nat.add_zero, ch_0] at h
  exact h
theorem r_shared (N : Nat) : ∀ (k a b : Nat), a < 2 ^ 31 → b < k → b < 2 ^ 31 → fX6_shared_b6 N k (lN a) (lN b) = some (lN (Nat.gcd a b)) := by
  intro k
  induction k with
  | zero => intro a b _ h; exact absurd h (Nat.not_lt_zero _)
  | succ k ih =>
    intro a b ha hb hb2
    rw [fX6_shared_b6]
    rcases Nat.eq_zero_or_pos b with rfl | hp
    · rw [if_pos (show lg_cmp (lN 0) 0 ≤ 0 from (lg_cmp_le _ _).mpr (Int64.le_refl _)), Nat.gcd_zero_right]
    · rw [if_neg (fun z => by
        have := (lg_cmp_le _ _).mp z
        rw [show (0 : Int64) = lN 0 from rfl, lN_le' (by omega) (by omega)] at this
        omega), if_pos (lN_ne (by omega) hp), lN_div (by omega) (by omega), lN_mul, lN_sub (Nat.div_mul_le_self a b)]
      have hm : a - a / b * b = a % b := by
        have := Nat.div_add_mod a b
        rw [Nat.mul_comm] at this
        omega
      have hl : a % b < b := Nat.mod_lt _ hp
      have hgc : Nat.gcd b (a % b) = Nat.gcd a b := by rw [Nat.gcd_comm a b, Nat.gcd_rec b a, Nat.gcd_comm b]
      rw [hm, ih b (a % b) hb2 (by omega) (by omega), hgc]
theorem r_ways_b {N : Nat} (hN : 100 ≤ N) {i t : Nat} (hi : i ≤ 60) (ht : t ≤ i) : ∀ (d j k : Nat), t = j + d → d < k → fX6_ways_b31 N k (nI i) (nI t) (lN (ch (i - t + j) j)) (nI (j + 1)) = some (lN (ch i t)) := by
  intro d
  induction d with
  | zero =>
    intro j k hd hk
    obtain ⟨k, rfl⟩ : ∃ q, k = q + 1 := ⟨k - 1, by omega⟩
    rw [fX6_ways_b31, if_pos (nI_lt (by omega) (by omega)), show i - t + j = i by omega, show j = t by omega]
  | succ d ih =>
    intro j k hd hk
    obtain ⟨k, rfl⟩ : ∃ q, k = q + 1 := ⟨k - 1, by omega⟩
    have hm : i - t + j + 1 ≤ 60 := by omega
    have hs := ch_step (m := i - t) (j := j) rfl
    have hb := ch_le (n := i - t + j) j (by omega)
    have hgp : 0 < Nat.gcd (i - t + j + 1) (j + 1) := Nat.gcd_pos_of_pos_right _ (Nat.succ_pos j)
    have hgl : Nat.gcd (i - t + j + 1) (j + 1) ≤ j + 1 := Nat.le_of_dvd (Nat.succ_pos j) (Nat.gcd_dvd_right _ _)
    have hkp : 0 < (j + 1) / Nat.gcd (i - t + j + 1) (j + 1) := Nat.div_pos hgl hgp
    have hkl : (j + 1) / Nat.gcd (i - t + j + 1) (j + 1) ≤ j + 1 := Nat.div_le_self _ _
    rw [fX6_ways_b31, if_neg (nI_nlt (by omega) (by omega)), nI_sub ht, nI_add, nI_l (by omega), nI_l (by omega), fX6_shared, ← Nat.add_assoc, r_shared N N _ _ (by omega) (by omega) (by omega), Option.bind_some]
    generalize hg : Nat.gcd (i - t + j + 1) (j + 1) = g at *
    rw [if_pos (lN_ne (by omega) hgp), lN_div (by omega) (by omega), if_pos (lN_ne (by omega) hkp), if_pos (lN_ne (by omega) hgp), Option.bind_some, lN_div (by omega) (by omega), lN_div (by omega) (by omega), lN_mul, hs, nI_1]
    exact ih (j + 1) k (by omega) (by omega)
theorem r_ways {N i t : Nat} (hN : 100 ≤ N) (hi : i ≤ 60) (ht : t ≤ i) : fX6_ways N (nI i) (nI t) = some (lN (ch i t)) := by
  have hb : ∀ f, f ≤ i → fX6_ways_b25 N (nI i) (nI f) = some (lN (ch i f)) := by
    intro f hf
    have h := r_ways_b hN hi hf f 0 N (by omega) (by omega)
    rw [Nat.add_zero, ch_0] at h
    exact h
  unfold fX6_ways
  rw [if_neg (nI_pos (by omega)), if_pos (nI_le ht (by omega)), nI_sub ht]
  split
  · rw [hb (i - t) (by omega)]
    have h := ch_sym (i - t) t
    rw [show i - t + t = i by omega] at h
    rw [h]
  · exact hb t ht
theorem cw_eq {N : Nat} (hN : 100 ≤ N) {i : Nat} (hi : i ≤ 60) (t : Int32) : ∃ v, fX1_choices N (nI i) t = some v ∧ fX6_ways N (nI i) t = some v := by
  by_cases h : t < nI 0 ∨ nI i < t
  · refine ⟨0, ?_, ?_⟩
    · unfold fX1_choices
      rcases h with h | h
      · exact if_pos h
      · split
        · rfl
        · exact if_neg (fun z => absurd h (Int32.not_lt.mpr z))
    · unfold fX6_ways
      rcases h with h | h
      · exact if_pos h
      · split
        · rfl
        · exact if_neg (fun z => absurd h (Int32.not_lt.mpr z))
  · obtain ⟨s, -, h2, rfl⟩ := rng (by omega) (Nat.zero_le _) h
    exact ⟨_, c_choices hN hi h2, r_ways hN hi h2⟩
theorem Q_samples {N : Nat} (hN : 100 ≤ N) (y1 y2 th : Int32) : (fX5_samples N y1 y2 = some (.inl 1) ∧ fX6_samples N y1 y2 th = some (0, 1)) ∨ ∃ v, fX5_samples N y1 y2 = some (.inr v) ∧ fX6_samples N y1 y2 th = some (v, 0) := by
  unfold fX5_samples fX6_samples fX5_samples_b19 fX6_samples_b24 fX6_samples_b25
  rw [within_eq, within_eq, in_eq, in_eq, Option.bind_some, Option.bind_some, Option.bind_some, Option.bind_some]
  by_cases h : y1 < 2 ∨ 60 < y1
  · left
    rw [if01 h]
    exact ⟨rfl, rfl⟩
  by_cases h' : y2 < 1 ∨ y1 < y2
  · left
    rw [if10 h, if01 h']
    exact ⟨rfl, rfl⟩
  · right
    rw [if10 h, if10 h']
    obtain ⟨s, h1, h2, rfl⟩ := rng (lo := 2) (hi := 60) (by omega) (by omega) h
    obtain ⟨v, e1, e2⟩ := cw_eq hN h2 y2
    refine ⟨v, ?_, ?_⟩
    · rw [if_neg (by decide), if_neg (by decide), e1]; rfl
    · rw [if_neg (by decide), if_neg (by decide), if_pos rfl, e2]; rfl
theorem upto_b {N : Nat} (hN : 100 ≤ N) {size bad sa : Nat} (hs : size ≤ 60) (hb : bad ≤ size) (hsa : sa ≤ 90) (x3 : Int32) : ∀ (d j k : Nat) (acc : Int64), sa + 1 = j + d → d < k → ∃ v, fX1_withAtMost_b6 N k (nI size) (nI bad) (nI sa) x3 acc (nI j) = some v ∧ fX6_upTo_b6 N k (nI size) (nI bad) (nI sa) x3 acc (nI j) = some v := by
  intro d
  induction d with
  | zero =>
    intro j k acc hd hk
    obtain ⟨k, rfl⟩ : ∃ q, k = q + 1 := ⟨k - 1, by omega⟩
    refine ⟨acc, ?_, ?_⟩
    · rw [fX1_withAtMost_b6, if_pos (nI_lt (a := sa) (by omega) (by omega))]
      split <;> rfl
    · rw [fX6_upTo_b6, if_pos (nI_lt (a := sa) (by omega) (by omega))]
      split <;> rfl
  | succ d ih =>
    intro j k acc hd hk
    obtain ⟨k, rfl⟩ : ∃ q, k = q + 1 := ⟨k - 1, by omega⟩
    by_cases h3 : x3 < nI j
    · exact ⟨acc, by rw [fX1_withAtMost_b6, if_pos h3], by rw [fX6_upTo_b6, if_pos h3]⟩
    · obtain ⟨v1, a1, b1⟩ := cw_eq hN (show bad ≤ 60 by omega) (nI j)
      obtain ⟨v2, a2, b2⟩ := cw_eq hN (show size - bad ≤ 60 by omega) (nI sa - nI j)
      obtain ⟨v, h1, h2⟩ := ih (j + 1) k (acc + v1 * v2) (by omega) (by omega)
      refine ⟨v, ?_, ?_⟩
      · rw [fX1_withAtMost_b6, if_neg h3, if_neg (nI_nlt (by omega) (by omega)), fX1_withExactly, a1, Option.bind_some, nI_sub hb, a2, Option.bind_some, Option.bind_some, nI_1]
        exact h1
      · rw [fX6_upTo_b6, if_neg h3, if_neg (nI_nlt (by omega) (by omega)), b1, Option.bind_some, nI_sub hb, b2, Option.bind_some, nI_1]
        exact h2
theorem upto_eq {N : Nat} (hN : 100 ≤ N) {size bad sa : Nat} (hs : size ≤ 60) (hb : bad ≤ size) (hsa : sa ≤ 90) (x3 : Int32) : ∃ v, fX1_withAtMost N (nI size) (nI bad) (nI sa) x3 = some v ∧ fX6_upTo N (nI size) (nI bad) (nI sa) x3 = some v :=
  upto_b hN hs hb hsa x3 (sa + 1) 0 N 0 (by omega) (by omega)
theorem Q_accepted {N : Nat} (hN : 100 ≤ N) (y1 y2 y3 y4 th : Int32) : (fX5_accepted N y1 y2 y3 y4 = some (.inl 1) ∧ fX6_accepted N y1 y2 y3 y4 th = some (0, 1)) ∨ ∃ v, fX5_accepted N y1 y2 y3 y4 = some (.inr v) ∧ fX6_accepted N y1 y2 y3 y4 th = some (v, 0) := by
  unfold fX5_accepted fX6_accepted fX5_accepted_b39 fX6_accepted_b44 fX6_accepted_b45
  rw [within_eq, within_eq, within_eq, within_eq, in_eq, in_eq, in_eq, in_eq]
  simp only [Option.bind_some]
  by_cases h : y1 < 2 ∨ 60 < y1
  · left
    rw [if01 h]
    exact ⟨rfl, rfl⟩
  by_cases h2 : y2 < 0 ∨ y1 < y2
  · left
    rw [if10 h, if01 h2]
    exact ⟨rfl, rfl⟩
  by_cases h3 : y3 < 1 ∨ y1 < y3
  · left
    rw [if10 h, if10 h2, if01 h3]
    exact ⟨rfl, rfl⟩
  by_cases h4 : y4 < 0 ∨ 60 < y4
  · left
    rw [if10 h, if10 h2, if10 h3, if01 h4]
    exact ⟨rfl, rfl⟩
  · right
    rw [if10 h, if10 h2, if10 h3, if10 h4]
    obtain ⟨s, q1, q2, rfl⟩ := rng (lo := 2) (hi := 60) (by omega) (by omega) h
    obtain ⟨b, q3, q4, rfl⟩ := rng (lo := 0) (hi := s) (by omega) (by omega) h2
    obtain ⟨sa, q5, q6, rfl⟩ := rng (lo := 1) (hi := s) (by omega) (by omega) h3
    obtain ⟨v, e1, e2⟩ := upto_eq hN q2 q4 (show sa ≤ 90 by omega) y4
    refine ⟨v, ?_, ?_⟩
    · rw [e1]; rfl
    · rw [e2]; rfl
theorem c_total {N : Nat} (hN : 100 ≤ N) {a : Int32} (ha : a.toInt ≤ 60) (t : Int32) : ∃ v, fX1_choices N a t = some v := by
  by_cases h : a.toInt < 0
  · unfold fX1_choices
    by_cases h0 : t < 0
    · exact ⟨0, if_pos h0⟩
    · refine ⟨0, ?_⟩
      rw [if_neg h0, if_neg]
      rw [Int32.le_iff_toInt_le]
      rw [Int32.lt_iff_toInt_lt] at h0
      have : (0 : Int32).toInt = 0 := rfl
      omega
  · obtain ⟨i, hi⟩ : ∃ i : Nat, a.toInt = (i : Int) := ⟨a.toInt.toNat, by omega⟩
    have ea : a = nI i := Int32.toInt_inj.mp (by rw [hi, nI_toInt (by omega)])
    rw [ea]
    obtain ⟨v, h1, -⟩ := cw_eq hN (show i ≤ 60 by omega) t
    exact ⟨v, h1⟩
theorem we_total {N : Nat} (hN : 100 ≤ N) {a c : Int32} (ha : a.toInt ≤ 60) (hc : (c - a).toInt ≤ 60) (t u : Int32) : ∃ v, fX1_withExactly N c a t u = some v := by
  obtain ⟨v1, h1⟩ := c_total hN ha u
  obtain ⟨v2, h2⟩ := c_total hN hc (t - u)
  exact ⟨v1 * v2, by rw [fX1_withExactly, h1, Option.bind_some, h2, Option.bind_some]⟩
theorem wam_total {N : Nat} (hN : 100 ≤ N) {a c : Int32} (ha : a.toInt ≤ 60) (hc : (c - a).toInt ≤ 60) {sa : Nat} (hsa : sa ≤ 90) (x3 : Int32) : ∃ v, fX1_withAtMost N c a (nI sa) x3 = some v := by
  have key : ∀ (d j k : Nat) (acc : Int64), sa + 1 = j + d → d < k → ∃ v, fX1_withAtMost_b6 N k c a (nI sa) x3 acc (nI j) = some v := by
    intro d
    induction d with
    | zero =>
      intro j k acc hd hk
      obtain ⟨k, rfl⟩ : ∃ q, k = q + 1 := ⟨k - 1, by omega⟩
      refine ⟨acc, ?_⟩
      rw [fX1_withAtMost_b6, if_pos (nI_lt (a := sa) (by omega) (by omega))]
      split <;> rfl
    | succ d ih =>
      intro j k acc hd hk
      obtain ⟨k, rfl⟩ : ∃ q, k = q + 1 := ⟨k - 1, by omega⟩
      by_cases h3 : x3 < nI j
      · exact ⟨acc, by rw [fX1_withAtMost_b6, if_pos h3]⟩
      · obtain ⟨w, hw⟩ := we_total hN ha hc (nI sa) (nI j)
        obtain ⟨v, h1⟩ := ih (j + 1) k (acc + w) (by omega) (by omega)
        refine ⟨v, ?_⟩
        rw [fX1_withAtMost_b6, if_neg h3, if_neg (nI_nlt (by omega) (by omega)), hw, Option.bind_some, nI_1]
        exact h1
  exact key (sa + 1) 0 N 0 (by omega) (by omega)
theorem subI {a b : Nat} (ha : a ≤ 1000) (hb : b ≤ 1000) : (nI a - nI b).toInt = (a : Int) - b := by
  rw [Int32.toInt_sub, nI_toInt (by omega), nI_toInt (by omega)]
  apply Int.bmod_eq_of_le <;> omega
theorem sub3I {l a b : Nat} (hl : l ≤ 1000) (ha : a ≤ 1000) (hb : b ≤ 1000) : (nI l - (nI a - nI b)).toInt = (l : Int) - (a - b) := by
  rw [Int32.toInt_sub, subI ha hb, nI_toInt (by omega)]
  apply Int.bmod_eq_of_le <;> omega
/-- beyond 'most' the class adds nothing more -/
theorem pairs_tail {N : Nat} (hN : 100 ≤ N) {size bad sa mo : Nat} (hs : size ≤ 30) (hb : bad ≤ size) (hsa : sa ≤ size) (hmo : mo ≤ 60) : ∀ (d j k : Nat) (acc : Int64), sa + 1 = j + d → d < k → mo < j → fX1_pairsAccepted_b11 N k (nI size) (nI bad) (nI sa) (nI mo) (nI (size - sa)) acc (nI j) = some acc := by
  intro d
  induction d with
  | zero =>
    intro j k acc hd hk hj
    obtain ⟨k, rfl⟩ : ∃ q, k = q + 1 := ⟨k - 1, by omega⟩
    rw [fX1_pairsAccepted_b11, if_pos (nI_lt (by omega) (by omega))]
  | succ d ih =>
    intro j k acc hd hk hj
    obtain ⟨k, rfl⟩ : ∃ q, k = q + 1 := ⟨k - 1, by omega⟩
    have hlt : nI mo - 2 < nI j := by
      rw [Int32.lt_iff_toInt_lt, show (2 : Int32) = nI 2 from rfl, subI (by omega) (by omega), nI_toInt (by omega)]
      omega
    have hneg : nI mo - nI j < 0 := by
      rw [Int32.lt_iff_toInt_lt, subI (by omega) (by omega)]
      have : (0 : Int32).toInt = 0 := rfl
      omega
    obtain ⟨w, hw⟩ := we_total hN (a := nI bad) (c := nI size) (by rw [nI_toInt (by omega)]; omega) (by rw [subI (by omega) (by omega)]; omega) (nI sa) (nI j)
    obtain ⟨N', rfl⟩ : ∃ q, N = q + 1 := ⟨N - 1, by omega⟩
    rw [fX1_pairsAccepted_b11, if_neg (nI_nlt (by omega) (by omega)), if_pos hlt, fX1_withAtMost, fX1_withAtMost_b6, if_pos hneg, Option.bind_some, fX1_pairsAccepted_b48, hw, Option.bind_some, nI_1]
    have := ih (j + 1) k (acc + w * 0) (by omega) (by omega) (by omega)
    rw [show acc + w * 0 = acc by rw [Int64.mul_zero, Int64.add_zero]] at this ⊢
    exact this
theorem pairs_b {N : Nat} (hN : 100 ≤ N) {size bad sa mo : Nat} (hs : size ≤ 30) (hb : bad ≤ size) (hsa : sa ≤ size) (hmo : mo ≤ 60) : ∀ (d j k : Nat) (acc : Int64), sa + 1 = j + d → d < k → ∃ v, fX1_pairsAccepted_b11 N k (nI size) (nI bad) (nI sa) (nI mo) (nI (size - sa)) acc (nI j) = some v ∧ fX6_acceptedTwice_b56 N k (nI size) (nI bad) (nI sa) (nI mo) acc (nI j) 0 = some (v, 0) := by
  intro d
  induction d with
  | zero =>
    intro j k acc hd hk
    obtain ⟨k, rfl⟩ : ∃ q, k = q + 1 := ⟨k - 1, by omega⟩
    exact ⟨acc, by rw [fX1_pairsAccepted_b11, if_pos (nI_lt (by omega) (by omega))], by rw [fX6_acceptedTwice_b56, if_pos rfl, if_pos (nI_lt (by omega) (by omega))]⟩
  | succ d ih =>
    intro j k acc hd hk
    by_cases hjm : mo < j
    · refine ⟨acc, pairs_tail hN hs hb hsa hmo (d + 1) j k acc hd hk hjm, ?_⟩
      obtain ⟨k, rfl⟩ : ∃ q, k = q + 1 := ⟨k - 1, by omega⟩
      rw [fX6_acceptedTwice_b56, if_pos rfl, if_neg (nI_nlt (by omega) (by omega)), if_pos (nI_lt hjm (by omega))]
    obtain ⟨k, rfl⟩ : ∃ q, k = q + 1 := ⟨k - 1, by omega⟩
    obtain ⟨v1, a1, b1⟩ := cw_eq hN (show bad ≤ 60 by omega) (nI j)
    obtain ⟨v2, a2, b2⟩ := cw_eq hN (show size - bad ≤ 60 by omega) (nI sa - nI j)
    obtain ⟨v3, a3, b3⟩ := cw_eq hN (show size - sa ≤ 60 by omega) (nI sa)
    have hwe : fX1_withExactly N (nI size) (nI bad) (nI sa) (nI j) = some (v1 * v2) := by
      rw [fX1_withExactly, a1, Option.bind_some, nI_sub hb, a2, Option.bind_some]
    have hlt : (nI mo - 2 < nI j) ↔ mo < j + 2 := by
      rw [Int32.lt_iff_toInt_lt, show (2 : Int32) = nI 2 from rfl, subI (by omega) (by omega), nI_toInt (by omega)]
      omega
    -- what the second sample adds, on both sides
    by_cases hq : mo < j + 2
    · obtain ⟨w, hw⟩ := wam_total hN (a := nI bad - nI j) (c := nI (size - sa)) (by rw [subI (by omega) (by omega)]; omega) (by rw [sub3I (by omega) (by omega) (by omega)]; omega) (sa := sa) (by omega) (nI mo - nI j)
      have hcl : fX1_pairsAccepted_b11 N (k + 1) (nI size) (nI bad) (nI sa) (nI mo) (nI (size - sa)) acc (nI j) = fX1_pairsAccepted_b11 N k (nI size) (nI bad) (nI sa) (nI mo) (nI (size - sa)) (acc + v1 * v2 * w) (nI (j + 1)) := by
        rw [fX1_pairsAccepted_b11, if_neg (nI_nlt (by omega) (by omega)), if_pos (hlt.mpr hq), hw, Option.bind_some, fX1_pairsAccepted_b48, hwe, Option.bind_some, nI_1]
      have hmd : fX6_acceptedTwice_b56 N (k + 1) (nI size) (nI bad) (nI sa) (nI mo) acc (nI j) 0 = fX6_acceptedTwice_b124 N (fun x1 x2 x3 x4 x5 x7 th => fX6_acceptedTwice_b56 N k x1 x2 x3 x4 x5 x7 th) (nI size) (nI bad) (nI sa) (nI mo) acc (nI j) (v1 * v2) (nI (size - sa)) 0 := by
        rw [fX6_acceptedTwice_b56, if_pos rfl, if_neg (nI_nlt (by omega) (by omega)), if_neg (nI_nlt (by omega) (by omega)), b1, Option.bind_some, nI_sub hb, b2, Option.bind_some, nI_sub hsa]
        split
        · rfl
        · rw [if_pos (hlt.mpr hq)]
      by_cases h0 : v1 * v2 = 0
      · obtain ⟨v, h1, h2⟩ := ih (j + 1) k (acc + v1 * v2 * w) (by omega) (by omega)
        refine ⟨v, hcl.trans h1, hmd.trans ?_⟩
        rw [fX6_acceptedTwice_b124, if_pos ((lg_cmp_eq _ _).mpr h0), fX6_acceptedTwice_b150, nI_1, h0, show (0 : Int64) * 0 = 0 * w by rw [Int64.zero_mul, Int64.zero_mul]]
        rw [h0] at h2
        exact h2
      · have hjb : j ≤ bad := by
          rcases Nat.lt_or_ge bad j with z | z
          · exfalso
            apply h0
            have e : fX1_choices N (nI bad) (nI j) = some 0 := by
              unfold fX1_choices
              rw [if_neg (nI_pos (by omega)), if_neg (nI_ge z (by omega))]
            rw [e] at a1
            cases a1
            exact Int64.zero_mul
          · exact z
        have hbl : sa - j ≤ size - bad := by
          rcases Nat.lt_or_ge (size - bad) (sa - j) with z | z
          · exfalso
            apply h0
            have e : fX1_choices N (nI (size - bad)) (nI sa - nI j) = some 0 := by
              rw [nI_sub (show j ≤ sa by omega)]
              unfold fX1_choices
              rw [if_neg (nI_pos (by omega)), if_neg (nI_ge z (by omega))]
            rw [e] at a2
            cases a2
            exact Int64.mul_zero
          · exact z
        obtain ⟨u, u1, u2⟩ := upto_eq hN (size := size - sa) (bad := bad - j) (sa := sa) (by omega) (by omega) (by omega) (nI mo - nI j)
        rw [nI_sub hjb, u1] at hw
        cases hw
        obtain ⟨v, h1, h2⟩ := ih (j + 1) k (acc + v1 * v2 * w) (by omega) (by omega)
        refine ⟨v, hcl.trans h1, hmd.trans ?_⟩
        rw [fX6_acceptedTwice_b124, if_neg (fun z => h0 ((lg_cmp_eq _ _).mp z)), nI_sub hjb, u2, Option.bind_some, fX6_acceptedTwice_b150, nI_1]
        exact h2
    · obtain ⟨v, h1, h2⟩ := ih (j + 1) k (acc + v1 * v2 * v3) (by omega) (by omega)
      refine ⟨v, ?_, ?_⟩
      · rw [fX1_pairsAccepted_b11, if_neg (nI_nlt (by omega) (by omega)), if_neg (fun z => hq (hlt.mp z)), a3, Option.bind_some, fX1_pairsAccepted_b48, hwe, Option.bind_some, nI_1]
        exact h1
      · rw [fX6_acceptedTwice_b56, if_pos rfl, if_neg (nI_nlt (by omega) (by omega)), if_neg (nI_nlt (by omega) (by omega)), b1, Option.bind_some, nI_sub hb, b2, Option.bind_some, if_neg (show ¬ nI mo < (2 : Int32) from nI_nlt (a := mo) (b := 2) (by omega) (by omega)), if_neg (fun z => hq (hlt.mp z)), nI_sub hsa, b3, Option.bind_some, fX6_acceptedTwice_b150, nI_1]
        exact h2
theorem Q_acceptedTwice {N : Nat} (hN : 100 ≤ N) (y1 y2 y3 y4 th : Int32) : (fX5_acceptedTwice N y1 y2 y3 y4 = some (.inl 1) ∧ fX6_acceptedTwice N y1 y2 y3 y4 th = some (0, 1)) ∨ ∃ v, fX5_acceptedTwice N y1 y2 y3 y4 = some (.inr v) ∧ fX6_acceptedTwice N y1 y2 y3 y4 th = some (v, 0) := by
  have hbad : ∀ t : Int32, t = 1 → fX6_acceptedTwice_b47 N y1 y2 y3 y4 t th = some (0, 1) := by
    intro t ht
    rw [ht, fX6_acceptedTwice_b47]
    obtain ⟨k, rfl⟩ : ∃ q, N = q + 1 := ⟨N - 1, by omega⟩
    rw [fX6_acceptedTwice_b56, if_neg (by decide)]
  have hb1 := hbad 1 rfl
  unfold fX5_acceptedTwice fX6_acceptedTwice fX5_acceptedTwice_b41 fX6_acceptedTwice_b46
  rw [within_eq, within_eq, within_eq, within_eq, in_eq, in_eq, in_eq, in_eq]
  simp only [Option.bind_some]
  by_cases h : y1 < 2 ∨ 30 < y1
  · left
    rw [if01 h]
    exact ⟨rfl, hb1⟩
  by_cases h2 : y2 < 0 ∨ y1 < y2
  · left
    rw [if10 h, if01 h2]
    exact ⟨rfl, hb1⟩
  by_cases h3 : y3 < 1 ∨ y1 / 2 < y3
  · left
    rw [if10 h, if10 h2, if01 h3]
    exact ⟨rfl, hb1⟩
  by_cases h4 : y4 < 0 ∨ 60 < y4
  · left
    rw [if10 h, if10 h2, if10 h3, if01 h4]
    exact ⟨rfl, hb1⟩
  · right
    rw [if10 h, if10 h2, if10 h3, if10 h4]
    obtain ⟨s, q1, q2, rfl⟩ := rng (lo := 2) (hi := 30) (by omega) (by omega) h
    obtain ⟨b, q3, q4, rfl⟩ := rng (lo := 0) (hi := s) (by omega) (by omega) h2
    rw [show nI s / 2 = nI (s / 2) from nI_div (b := 2) (by omega) (by omega)] at h3
    obtain ⟨sa, q5, q6, rfl⟩ := rng (lo := 1) (hi := s / 2) (by omega) (by omega) h3
    obtain ⟨mo, q7, q8, rfl⟩ := rng (lo := 0) (hi := 60) (by omega) (by omega) h4
    obtain ⟨v, e1, e2⟩ := pairs_b hN q2 q4 (show sa ≤ s by omega) q8 (sa + 1) 0 N 0 (by omega) (by omega)
    refine ⟨v, ?_, ?_⟩
    · have e3 : fX1_pairsAccepted N (nI s) (nI b) (nI sa) (nI mo) = some v := by
        rw [fX1_pairsAccepted, nI_sub (show sa ≤ s by omega)]; exact e1
      rw [e3]; rfl
    · exact e2
