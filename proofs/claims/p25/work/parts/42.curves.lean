def ch : Nat → Nat → Nat
  | _, 0 => 1
  | 0, _ + 1 => 0
  | n + 1, k + 1 => ch n k + ch n (k + 1)
theorem ch_0 (n : Nat) : ch n 0 = 1 := by cases n <;> rfl
theorem ch_pas (n k : Nat) : ch (n + 1) (k + 1) = ch n k + ch n (k + 1) := rfl
theorem ch_big : ∀ n k, n < k → ch n k = 0
  | 0, k + 1, _ => rfl
  | n + 1, k + 1, h => by rw [ch_pas, ch_big n k (by omega), ch_big n (k + 1) (by omega)]
theorem ch_self : ∀ n, ch n n = 1
  | 0 => rfl
  | n + 1 => by rw [ch_pas, ch_self n, ch_big n (n + 1) (by omega)]
/-- the absorption identity -/
theorem ch_abs : ∀ n k, ch (n + 1) (k + 1) * (k + 1) = ch n k * (n + 1)
  | 0, 0 => rfl
  | 0, k + 1 => by rw [ch_big (0 + 1) _ (by omega), ch_big 0 _ (by omega)]; simp
  | n + 1, 0 => by
    have h := ch_abs n 0
    simp only [ch_0, Nat.zero_add, Nat.mul_one, Nat.one_mul] at h ⊢
    rw [show ch (n + 1 + 1) 1 = ch (n + 1) 0 + ch (n + 1) 1 from rfl, ch_0, h]
    omega
  | n + 1, k + 1 => by
    have h1 := ch_abs n k
    have h2 := ch_abs n (k + 1)
    have e1 := ch_pas (n + 1) (k + 1)
    have e2 := ch_pas n k
    rw [e1, Nat.add_mul, h2, show k + 1 + 1 = (k + 1) + 1 from rfl, Nat.mul_add, h1, Nat.mul_one]
    rw [show n + 1 + 1 = (n + 1) + 1 from rfl, Nat.mul_add _ (n + 1) 1, Nat.mul_one, e2, Nat.add_mul]
    omega
theorem ch_abs2 (n k : Nat) (h : k ≤ n) : ch n (k + 1) * (k + 1) = ch n k * (n - k) := by
  have h1 := ch_abs n k
  rw [ch_pas, Nat.add_mul] at h1
  have h2 : ch n k * (n + 1) = ch n k * (n - k) + ch n k * (k + 1) := by rw [← Nat.mul_add]; congr 1; omega
  omega
theorem ch_sym : ∀ a b, ch (a + b) a = ch (a + b) b
  | 0, b => by rw [Nat.zero_add, ch_0, ch_self]
  | a + 1, 0 => by rw [Nat.add_zero, ch_0, ch_self]
  | a + 1, b + 1 => by
    have h1 := ch_sym a (b + 1)
    have h2 := ch_sym (a + 1) b
    rw [show a + (b + 1) = a + b + 1 by omega] at h1
    rw [show a + 1 + b = a + b + 1 by omega] at h2
    rw [show a + 1 + (b + 1) = (a + b + 1) + 1 by omega, ch_pas (a + b + 1) a, ch_pas (a + b + 1) b, h1, h2, Nat.add_comm]
theorem ch_mono (n k : Nat) : ch n k ≤ ch (n + 1) k := by
  cases k with
  | zero => rw [ch_0, ch_0]; exact Nat.le_refl _
  | succ k => rw [ch_pas]; omega
theorem ch_mono' {n m : Nat} (k : Nat) (h : n ≤ m) : ch n k ≤ ch m k := by
  induction h with
  | refl => exact Nat.le_refl _
  | step _ ih => exact Nat.le_trans ih (ch_mono _ k)
def chT : List Nat := [1, 60, 1770, 34220, 487635, 5461512, 50063860, 386206920, 2558620845, 14783142660, 75394027566, 342700125300, 1399358844975, 5166863427600, 17345898649800, 53194089192720, 149608375854525, 387221678682300, 925029565741050, 2044802197953900, 4191844505805495, 7984465725343800, 14154280149473100, 23385332420868600, 36052387482172425, 51915437974328292, 69886166503903470, 88004802264174740, 103719945525634515, 114449595062769120, 118264581564861424, 114449595062769120, 103719945525634515, 88004802264174740, 69886166503903470, 51915437974328292, 36052387482172425, 23385332420868600, 14154280149473100, 7984465725343800, 4191844505805495, 2044802197953900, 925029565741050, 387221678682300, 149608375854525, 53194089192720, 17345898649800, 5166863427600, 1399358844975, 342700125300, 75394027566, 14783142660, 2558620845, 386206920, 50063860, 5461512, 487635, 34220, 1770, 60, 1]
theorem ch60_T : ∀ k, k ≤ 60 → ch 60 k = chT.getD k 0
  | 0, _ => rfl
  | k + 1, h => by
    have ih := ch60_T k (by omega)
    have h2 := ch_abs2 60 k (by omega)
    have h3 : ∀ j, j < 60 → chT.getD (j + 1) 0 * (j + 1) = chT.getD j 0 * (60 - j) := by decide +kernel
    rw [ih, ← h3 k (by omega)] at h2
    exact Nat.eq_of_mul_eq_mul_right (Nat.succ_pos k) h2
theorem ch_le {n : Nat} (k : Nat) (h : n ≤ 60) : ch n k ≤ 118264581564861424 := by
  refine Nat.le_trans (ch_mono' k h) ?_
  rcases Nat.lt_or_ge 60 k with hk | hk
  · rw [ch_big 60 k hk]; exact Nat.zero_le _
  · rw [ch60_T k hk]
    have h3 : ∀ j, j < 61 → chT.getD j 0 ≤ 118264581564861424 := by decide +kernel
    exact h3 k (by omega)
/-- what the reference's step does: the divisor is cut by the common factor -/
theorem ch_step {m j g : Nat} (hg : g = Nat.gcd (m + j + 1) (j + 1)) : ch (m + j) j / ((j + 1) / g) * ((m + j + 1) / g) = ch (m + j + 1) (j + 1) := by
  have h := ch_abs (m + j) j
  have hg0 : 0 < g := by rw [hg]; exact Nat.gcd_pos_of_pos_right _ (Nat.succ_pos j)
  have hd1 : g ∣ m + j + 1 := by rw [hg]; exact Nat.gcd_dvd_left _ _
  have hd2 : g ∣ j + 1 := by rw [hg]; exact Nat.gcd_dvd_right _ _
  have hco : Nat.Coprime ((j + 1) / g) ((m + j + 1) / g) := by
    rw [hg]
    exact (Nat.coprime_div_gcd_div_gcd (by rw [← hg]; exact hg0)).symm
  obtain ⟨u, hu⟩ := hd1
  obtain ⟨k, hk⟩ := hd2
  rw [hu, Nat.mul_div_cancel_left u hg0, hk, Nat.mul_div_cancel_left k hg0] at hco ⊢
  have hk0 : 0 < k := by
    rcases Nat.eq_zero_or_pos k with z | z
    · rw [z] at hk; omega
    · exact z
  have h2 : ch (m + j + 1) (j + 1) * k = ch (m + j) j * u := by
    apply Nat.eq_of_mul_eq_mul_left hg0
    have e1 : g * (ch (m + j + 1) (j + 1) * k) = ch (m + j + 1) (j + 1) * (j + 1) := by rw [hk]; ac_rfl
    have e2 : g * (ch (m + j) j * u) = ch (m + j) j * (m + j + 1) := by rw [hu]; ac_rfl
    rw [e1, e2, h]
  rw [← hu, ← hk]
  have hdv : k ∣ ch (m + j) j := hco.dvd_of_dvd_mul_right ⟨_, h2.symm.trans (Nat.mul_comm _ _)⟩
  obtain ⟨q, hq⟩ := hdv
  rw [hq, Nat.mul_div_cancel_left q hk0]
  rw [hq, Nat.mul_comm _ k, Nat.mul_assoc] at h2
  exact (Nat.eq_of_mul_eq_mul_left hk0 h2).symm
theorem lN_toInt' {n : Nat} (h : n < 2 ^ 63) : (lN n).toInt = (n : Int) := lg_ofNat_toInt h
theorem lN_div {a b : Nat} (ha : a < 2 ^ 63) (hb : b < 2 ^ 63) : lN a / lN b = lN (a / b) := by
  have hd : a / b < 2 ^ 63 := Nat.lt_of_le_of_lt (Nat.div_le_self a b) ha
  apply Int64.toInt_inj.mp
  rw [Int64.toInt_div, lN_toInt' ha, lN_toInt' hb, lN_toInt' hd, ← Int.ofNat_tdiv]
  generalize a / b = c at *
  apply Int.bmod_eq_of_le <;> omega
theorem lN_ne {a : Nat} (ha : a < 2 ^ 63) (h : 0 < a) : ¬ lN a = 0 := by
  intro z
  have := congrArg Int64.toInt z
  rw [lN_toInt' ha] at this
  have h0 : (0 : Int64).toInt = 0 := rfl
  omega
theorem lN_le' {a b : Nat} (ha : a < 2 ^ 63) (hb : b < 2 ^ 63) : lN a ≤ lN b ↔ a ≤ b := by
  rw [Int64.le_iff_toInt_le, lN_toInt' ha, lN_toInt' hb]; omega
theorem ch_num {m j : Nat} (h : m + j + 1 ≤ 60) : ch (m + j) j * (m + j + 1) < 2 ^ 63 := by
  have h1 := ch_le j (show m + j ≤ 60 by omega)
  have h2 : ch (m + j) j * (m + j + 1) ≤ 118264581564861424 * 60 := Nat.mul_le_mul h1 h
  omega
theorem c_choices_b (N : Nat) {i t : Nat} (hi : i ≤ 60) (ht : t ≤ i) : ∀ (d j k : Nat), t = j + d → d < k → fX1_choices_b16 N k (nI i) (nI t) (lN (ch (i - t + j) j)) (nI (j + 1)) = some (lN (ch i t)) := by
  intro d
  induction d with
  | zero =>
    intro j k hd hk
    obtain ⟨k, rfl⟩ : ∃ q, k = q + 1 := ⟨k - 1, by omega⟩
    rw [fX1_choices_b16, if_pos (nI_lt (by omega) (by omega)), show i - t + j = i by omega, show j = t by omega]
  | succ d ih =>
    intro j k hd hk
    obtain ⟨k, rfl⟩ : ∃ q, k = q + 1 := ⟨k - 1, by omega⟩
    have hm : i - t + j + 1 ≤ 60 := by omega
    have hb := ch_num hm
    have hs : ch (i - t + j) j * (i - t + j + 1) / (j + 1) = ch (i - t + (j + 1)) (j + 1) := by
      rw [← ch_abs, Nat.mul_div_cancel _ (Nat.succ_pos j)]; rfl
    rw [fX1_choices_b16, if_neg (nI_nlt (by omega) (by omega)), nI_l (by omega), if_pos (lN_ne (by omega) (by omega)), Option.bind_some, nI_sub ht, nI_add, nI_l (by omega), lN_mul, lN_div (by rw [← Nat.add_assoc]; exact hb) (by omega), nI_1, ← Nat.add_assoc, hs]
    exact ih (j + 1) k (by omega) (by omega)
theorem c_choices {N i t : Nat} (hN : 100 ≤ N) (hi : i ≤ 60) (ht : t ≤ i) : fX1_choices N (nI i) (nI t) = some (lN (ch i t)) := by
  unfold fX1_choices
  rw [if_neg (nI_pos (by omega)), if_pos (nI_le ht (by omega))]
  have h := c_choices_b N hi ht t 0 N (by omega) (by omega)
  rw [Nat.add_zero, ch_0] at h
  exact h
theorem subI {a b : Nat} (ha : a ≤ 1000) (hb : b ≤ 1000) : (nI a - nI b).toInt = (a : Int) - b := by
  rw [Int32.toInt_sub, nI_toInt (by omega), nI_toInt (by omega)]
  apply Int.bmod_eq_of_le <;> omega
theorem sub3I {l a b : Nat} (hl : l ≤ 1000) (ha : a ≤ 1000) (hb : b ≤ 1000) : (nI l - (nI a - nI b)).toInt = (l : Int) - (a - b) := by
  rw [Int32.toInt_sub, subI ha hb, nI_toInt (by omega)]
  apply Int.bmod_eq_of_le <;> omega
