-- the curve told by sums is the one told by listing; low, findings and curves of the law
theorem lg_self (x : Int64) : lg_cmp x x = 0 := by
  unfold lg_cmp
  rw [if_neg (Int64.lt_irrefl), if_pos rfl]
theorem k_ch {N i t : Nat} (hN : 100 ≤ N) (hi : i ≤ 60) (ht : t ≤ 90) : fX1_choices N (nI i) (nI t) = some (lN (ch i t)) := by
  by_cases h : t ≤ i
  · exact c_choices hN hi h
  · unfold fX1_choices
    rw [if_neg (nI_pos (by omega)), if_neg (nI_ge (by omega) (by omega)), ch_big i t (by omega)]
    rfl
def hyS (b g s : Nat) : Nat → Nat
  | 0 => 0
  | c + 1 => hyS b g s c + ch b c * ch g (s - c)
theorem k_upto {N : Nat} (hN : 100 ≤ N) {size bad sa mo : Nat} (hs : size ≤ 60) (hb : bad ≤ size) (hsa : sa ≤ 60) (hmo : mo ≤ 60) : ∀ (d j k : Nat), min mo sa + 1 = j + d → d < k → fX1_withAtMost_b6 N k (nI size) (nI bad) (nI sa) (nI mo) (lN (hyS bad (size - bad) sa j)) (nI j) = some (lN (hyS bad (size - bad) sa (min mo sa + 1))) := by
  intro d
  induction d with
  | zero =>
    intro j k hd hk
    obtain ⟨k, rfl⟩ : ∃ q, k = q + 1 := ⟨k - 1, by omega⟩
    rw [fX1_withAtMost_b6]
    have hj : j = min mo sa + 1 := by omega
    by_cases h : mo < j
    · rw [if_pos (nI_lt h (by omega)), hj]
    · rw [if_neg (nI_nlt (by omega) (by omega)), if_pos (nI_lt (by omega) (by omega)), hj]
  | succ d ih =>
    intro j k hd hk
    obtain ⟨k, rfl⟩ : ∃ q, k = q + 1 := ⟨k - 1, by omega⟩
    have h1 : j ≤ mo := by omega
    have h2 : j ≤ sa := by omega
    rw [fX1_withAtMost_b6, if_neg (nI_nlt h1 (by omega)), if_neg (nI_nlt h2 (by omega)), fX1_withExactly, k_ch hN (show bad ≤ 60 by omega) (show j ≤ 90 by omega), Option.bind_some, nI_sub hb, nI_sub h2, k_ch hN (show size - bad ≤ 60 by omega) (show sa - j ≤ 90 by omega), Option.bind_some, Option.bind_some, nI_1, lN_mul, lN_add]
    exact ih (j + 1) k (by omega) (by omega)
theorem inR {lo hi v : Nat} (h1 : lo ≤ v) (h2 : v ≤ hi) (hh : hi < 2 ^ 31) : ¬ (nI v < nI lo ∨ nI hi < nI v) := fun h => h.elim (nI_nlt h1 (by omega)) (nI_nlt h2 hh)
theorem K_samples {N a b : Nat} (hN : 100 ≤ N) (h1 : 2 ≤ a) (h2 : a ≤ 60) (h3 : 1 ≤ b) (h4 : b ≤ a) : fX5_samples N (nI a) (nI b) = some (.inr (lN (ch a b))) := by
  unfold fX5_samples fX5_samples_b19
  rw [within_eq, within_eq, Option.bind_some, Option.bind_some, if10 (show ¬ (nI a < 2 ∨ 60 < nI a) from inR (lo := 2) (hi := 60) h1 h2 (by omega)), if10 (show ¬ (nI b < 1 ∨ nI a < nI b) from inR (lo := 1) h3 h4 (by omega)), if_neg (by decide), if_neg (by decide), c_choices hN h2 h4]
  rfl
theorem K_accepted {N m b s t : Nat} (hN : 100 ≤ N) (h1 : 2 ≤ m) (h2 : m ≤ 60) (h3 : b ≤ m) (h4 : 1 ≤ s) (h5 : s ≤ m) (h6 : t ≤ 60) : fX5_accepted N (nI m) (nI b) (nI s) (nI t) = some (.inr (lN (hyS b (m - b) s (min t s + 1)))) := by
  have e1 := k_upto hN h2 h3 (show s ≤ 60 by omega) h6 (min t s + 1) 0 N (by omega) (by omega)
  unfold fX5_accepted fX5_accepted_b39
  rw [within_eq, within_eq, within_eq, within_eq]
  simp only [Option.bind_some]
  rw [if10 (show ¬ (nI m < 2 ∨ 60 < nI m) from inR (lo := 2) (hi := 60) h1 h2 (by omega)), if10 (show ¬ (nI b < 0 ∨ nI m < nI b) from inR (lo := 0) (Nat.zero_le _) h3 (by omega)), if10 (show ¬ (nI s < 1 ∨ nI m < nI s) from inR (lo := 1) h4 h5 (by omega)), if10 (show ¬ (nI t < 0 ∨ 60 < nI t) from inR (lo := 0) (hi := 60) (Nat.zero_le _) h6 (by omega))]
  rw [show fX1_withAtMost N (nI m) (nI b) (nI s) (nI t) = _ from e1]
  rfl
theorem K_listing {N m b s t : Nat} (hN : 20000 ≤ N) (q1 : 2 ≤ m) (q2 : m ≤ 14) (q4 : b ≤ m) (q5 : 1 ≤ s) (q6 : s ≤ m) (q8 : t ≤ 60) : fX5_acceptedByListing N (nI m) (nI b) (nI s) (nI t) = some (.inr (lN (lsC s b t (2 ^ m)))) := by
  have hp := pow_14 q2
  have e1 := cl_walk (N := N) (m := m) (s := s) (b := b) (t := t) q1 q2 q6 q5 q4 q8 (2 ^ m) 0 N 0 (by omega) (by omega) (Nat.le_refl _)
  unfold fX5_acceptedByListing fX5_acceptedByListing_b39
  rw [within_eq, within_eq, within_eq, within_eq]
  simp only [Option.bind_some]
  rw [if10 (show ¬ (nI m < 2 ∨ 14 < nI m) from inR (lo := 2) (hi := 14) q1 q2 (by omega)), if10 (show ¬ (nI b < 0 ∨ nI m < nI b) from inR (lo := 0) (Nat.zero_le _) q4 (by omega)), if10 (show ¬ (nI s < 1 ∨ nI m < nI s) from inR (lo := 1) q5 q6 (by omega)), if10 (show ¬ (nI t < 0 ∨ 60 < nI t) from inR (lo := 0) (hi := 60) (Nat.zero_le _) q8 (by omega))]
  rw [if_neg (by decide), if_neg (by decide), if_neg (by decide), if_neg (by decide)]
  unfold fX1_listedWithAtMost
  rw [(pow_i b (by omega)).2, (pow_i m (by omega)).1, (pow_i s (by omega)).2]
  rw [slot_0 s (by omega)] at e1
  rw [show fX1_listedWithAtMost_b25 N N (nI t) (nI (2 ^ b - 1)) (nI (2 ^ m)) (nI (2 ^ s - 1)) 0 0 = _ from e1]
  rfl
-- counting words
theorem pop1 : ∀ k, k < 15 → 1 ≤ k → spPop 1 k = 1 := by decide
theorem pop0 : ∀ k, k < 15 → spPop 0 k = 0 := by decide
theorem pop_lo2 {m z b : Nat} (hb : b ≤ m) : spPop (2 ^ m + z) b = spPop z b := by
  rw [← spPop_mod (2 ^ m + z) m b hb, ← spPop_mod z m b hb, Nat.add_mod_left]
theorem pop_up {m z : Nat} (hm : m < 14) (hz : z < 2 ^ m) : spPop (2 ^ m + z) 14 = spPop z 14 + 1 := by
  have e : 14 = m + (14 - m) := by omega
  have e1 := spPop_add (2 ^ m + z) m (14 - m)
  have e2 := spPop_add z m (14 - m)
  rw [← e] at e1 e2
  have s1 : (2 ^ m + z) >>> m = 1 := by
    rw [Nat.shiftRight_eq_div_pow, Nat.add_div_left _ (Nat.two_pow_pos m), Nat.div_eq_of_lt hz]
  have s2 : z >>> m = 0 := by
    rw [Nat.shiftRight_eq_div_pow, Nat.div_eq_of_lt hz]
  rw [e1, e2, s1, s2, pop1 _ (by omega) (by omega), pop0 _ (by omega), pop_lo2 (Nat.le_refl _)]
theorem lsC_s (s b t z : Nat) : lsC s b t (z + 1) = lsC s b t z + if spPop z 14 = s ∧ spPop z b ≤ t then 1 else 0 := rfl
theorem ls_up {m b t : Nat} (hm : m < 14) (hb : b ≤ m) (s : Nat) : ∀ c, c ≤ 2 ^ m → lsC (s + 1) b t (2 ^ m + c) = lsC (s + 1) b t (2 ^ m) + lsC s b t c
  | 0, _ => rfl
  | c + 1, h => by
    rw [← Nat.add_assoc, lsC_s, ls_up hm hb s c (by omega), lsC_s, pop_up hm (by omega), pop_lo2 hb]
    by_cases q : spPop c 14 = s ∧ spPop c b ≤ t
    · rw [if_pos ⟨by omega, q.2⟩, if_pos q]; omega
    · rw [if_neg (fun z => q ⟨by omega, z.2⟩), if_neg q]; omega
theorem ls_up0 {m b t : Nat} (hm : m < 14) : ∀ c, c ≤ 2 ^ m → lsC 0 b t (2 ^ m + c) = lsC 0 b t (2 ^ m)
  | 0, _ => rfl
  | c + 1, h => by
    rw [← Nat.add_assoc, lsC_s, ls_up0 hm c (by omega), pop_up hm (by omega), if_neg (fun z => by omega)]
    rfl
theorem ls_0 : ∀ m, m ≤ 14 → ∀ s, lsC s 0 0 (2 ^ m) = ch m s
  | 0, _, 0 => rfl
  | 0, _, s + 1 => by
    show lsC (s + 1) 0 0 (0 + 1) = 0
    rw [lsC_s, pop0 14 (by omega), if_neg (fun z => by omega)]
    rfl
  | m + 1, h, 0 => by
    rw [Nat.pow_succ, Nat.mul_two, ls_up0 (by omega) _ (Nat.le_refl _), ls_0 m (by omega) 0, ch_0, ch_0]
  | m + 1, h, s + 1 => by
    rw [Nat.pow_succ, Nat.mul_two, ls_up (by omega) (Nat.zero_le _) s _ (Nat.le_refl _), ls_0 m (by omega) (s + 1), ls_0 m (by omega) s, ch_pas, Nat.add_comm]
theorem ls_b {b t s : Nat} (hb : b ≤ 14) : ∀ c, c ≤ 2 ^ b → lsC s b t c = if s ≤ t then lsC s 0 0 c else 0
  | 0, _ => by split <;> rfl
  | c + 1, h => by
    rw [lsC_s, ls_b hb c (by omega), pop_14 (show c < 2 ^ b by omega) hb]
    by_cases q : s ≤ t
    · rw [if_pos q, if_pos q, lsC_s]
      by_cases z : spPop c 14 = s
      · rw [if_pos ⟨z, by omega⟩, if_pos ⟨z, Nat.le_refl 0⟩]
      · rw [if_neg (fun x => z x.1), if_neg (fun x => z x.1)]
    · rw [if_neg q, if_neg q, if_neg (fun x => by omega)]
theorem ch_0s (k : Nat) : ch 0 (k + 1) = 0 := ch_big 0 (k + 1) (by omega)
theorem hyS_s (b g s c : Nat) : hyS b g s (c + 1) = hyS b g s c + ch b c * ch g (s - c) := rfl
theorem hy_0 {b s : Nat} : ∀ c, c ≤ s → hyS b 0 s c = 0
  | 0, _ => rfl
  | c + 1, h => by
    obtain ⟨k, hk⟩ : ∃ k, s - c = k + 1 := ⟨s - c - 1, by omega⟩
    rw [hyS_s, hy_0 c (by omega), hk, ch_0s, Nat.mul_zero]
theorem hy_0s (b s : Nat) : hyS b 0 s (s + 1) = ch b s := by
  rw [hyS_s, hy_0 s (Nat.le_refl _), Nat.sub_self, ch_0, Nat.mul_one, Nat.zero_add]
theorem hy_p {b g s : Nat} : ∀ c, c ≤ s + 1 → hyS b (g + 1) (s + 1) c = hyS b g (s + 1) c + hyS b g s c
  | 0, _ => rfl
  | c + 1, h => by
    have e : s + 1 - c = (s - c) + 1 := by omega
    rw [hyS_s, hyS_s, hyS_s, hy_p c (by omega), e, ch_pas, Nat.mul_add]
    omega
theorem hy_t (b g s t : Nat) : hyS b (g + 1) (s + 1) (min t (s + 1) + 1) = hyS b g (s + 1) (min t (s + 1) + 1) + hyS b g s (min t s + 1) := by
  by_cases h : t ≤ s
  · rw [Nat.min_eq_left (show t ≤ s + 1 by omega), Nat.min_eq_left h]
    exact hy_p (t + 1) (by omega)
  · rw [Nat.min_eq_right (show s + 1 ≤ t by omega), Nat.min_eq_right (show s ≤ t by omega), hyS_s b (g + 1), hyS_s b g (s + 1) (s + 1), hy_p (s + 1) (Nat.le_refl _), Nat.sub_self, ch_0, ch_0]
    omega
theorem hy_s0 (b g t : Nat) : hyS b g 0 (min t 0 + 1) = 1 := by
  rw [Nat.min_eq_right (Nat.zero_le _)]
  show 0 + ch b 0 * ch g (0 - 0) = 1
  rw [ch_0, Nat.sub_self, ch_0]
theorem hy_v (b : Nat) : ∀ g s, hyS b g s (s + 1) = ch (b + g) s
  | 0, s => hy_0s b s
  | g + 1, 0 => by
    have := hy_s0 b (g + 1) 0
    rw [Nat.min_self] at this
    rw [this, ch_0]
  | g + 1, s + 1 => by
    have h := hy_t b g s (s + 1)
    rw [Nat.min_self, Nat.min_eq_right (show s ≤ s + 1 by omega)] at h
    rw [h, hy_v b g (s + 1), hy_v b g s, show b + (g + 1) = (b + g) + 1 from rfl, ch_pas, Nat.add_comm]
theorem ls_eq {b : Nat} (t : Nat) : ∀ g, b + g ≤ 14 → ∀ s, lsC s b t (2 ^ (b + g)) = hyS b g s (min t s + 1)
  | 0, h, s => by
    rw [Nat.add_zero, ls_b (by omega) _ (Nat.le_refl _)]
    by_cases q : s ≤ t
    · rw [if_pos q, ls_0 b (by omega), Nat.min_eq_right q, hy_0s]
    · rw [if_neg q, Nat.min_eq_left (show t ≤ s by omega), hy_0 (t + 1) (by omega)]
  | g + 1, h, 0 => by
    rw [← Nat.add_assoc, Nat.pow_succ, Nat.mul_two, ls_up0 (by omega) _ (Nat.le_refl _), ls_eq t g (by omega) 0, hy_s0, hy_s0]
  | g + 1, h, s + 1 => by
    rw [← Nat.add_assoc, Nat.pow_succ, Nat.mul_two, ls_up (by omega) (by omega) s _ (Nat.le_refl _), ls_eq t g (by omega) (s + 1), ls_eq t g (by omega) s, hy_t]
-- low and findings
theorem low_eq (N : Nat) (p0 : Int32) {n : Nat} (h1 : 1 ≤ n) (hn : n < 2 ^ 31) : ∃ k, k < n ∧ fL_low N p0 (nI n) = some (nI k) := by
  obtain ⟨x, hx, rfl⟩ := wb_of32 p0
  have e : nI x &&& 2147483647 = nI (x % 2 ^ 31) := by
    rw [show (2147483647 : Int32) = nI (2 ^ 31 - 1) from rfl, nx_and', Nat.and_two_pow_sub_one_eq_mod]
  have hr : x % 2 ^ 31 < 2 ^ 31 := Nat.mod_lt _ (by omega)
  unfold fL_low
  rw [if_pos (nI_ne0 h1 hn), e, nI_div hr hn, nI_mul, nI_sub (Nat.div_mul_le_self _ _)]
  refine ⟨x % 2 ^ 31 % n, Nat.mod_lt _ h1, ?_⟩
  have := Nat.div_add_mod' (x % 2 ^ 31) n
  rw [show x % 2 ^ 31 - x % 2 ^ 31 / n * n = x % 2 ^ 31 % n by omega]
theorem or50 {a b : Nat} (ha : a < 2 ^ 50) (hb : b < 2 ^ 50) : a ||| b < 2 ^ 50 := Nat.or_lt_two_pow ha hb
theorem find_eq (N : Nat) (v w : Int32) : ∃ f, f < 2 ^ 50 ∧ fL_findings N v w = some (lN f) := by
  unfold fL_findings
  obtain ⟨a, ha, e1⟩ := low_eq N v (n := 50) (by omega) (by omega)
  obtain ⟨b, hb, e2⟩ := low_eq N (v >>> (6 &&& 31)) (n := 30) (by omega) (by omega)
  obtain ⟨c, hc, e3⟩ := low_eq N w (n := 3) (by omega) (by omega)
  rw [show fL_low N v 50 = _ from e1, Option.bind_some, show fL_low N (v >>> (6 &&& 31)) 30 = _ from e2, Option.bind_some, show fL_low N w 3 = _ from e3, Option.bind_some]
  have pa : 2 ^ a < 2 ^ 50 := Nat.pow_lt_pow_right (by omega) ha
  have pb : 2 ^ b < 2 ^ 50 := Nat.pow_lt_pow_right (by omega) (by omega)
  have s1 : (1 : Int64) <<< ((nI a).toInt64 &&& 63) ||| (1 : Int64) <<< ((nI b).toInt64 &&& 63) = lN (2 ^ a ||| 2 ^ b) := by
    rw [show (1 : Int64) = lN 1 from rfl, wb_shl 1 (by omega), wb_shl 1 (by omega), Nat.one_mul, Nat.one_mul, wb_or (by omega) (by omega)]
  have p1 := or50 pa pb
  rw [s1]
  by_cases h : nI c = 0
  · rw [if_pos h]
    obtain ⟨d, hd, e4⟩ := low_eq N (w >>> (2 &&& 31)) (n := 64) (by omega) (by omega)
    obtain ⟨g, hg, e5⟩ := low_eq N (v >>> (12 &&& 31)) (n := 20) (by omega) (by omega)
    rw [show fL_low N (w >>> (2 &&& 31)) 64 = _ from e4, Option.bind_some, show fL_low N (v >>> (12 &&& 31)) 20 = _ from e5, Option.bind_some]
    have pg : 2 ^ g ≤ 2 ^ 19 := Nat.pow_le_pow_right (by omega) (by omega)
    have pd : d * 2 ^ g < 2 ^ 50 := Nat.lt_of_le_of_lt (Nat.mul_le_mul (show d ≤ 63 by omega) pg) (by decide)
    rw [nI_l (show d < 2 ^ 31 by omega), wb_shl d (by omega), wb_or (by omega) (by omega)]
    exact ⟨_, or50 p1 pd, rfl⟩
  · rw [if_neg h]
    refine ⟨2 ^ a ||| 2 ^ b, p1, ?_⟩
    rw [show (0 : Int64) = lN 0 from rfl, wb_or (by omega) (by omega), Nat.or_zero]
-- curves
theorem curves_101 {N : Nat} (hN : 20000 ≤ N) (v : Int32) : fL_curves_b101 N v 1 = some 1 := by
  unfold fL_curves_b101
  obtain ⟨a, ha, e1⟩ := low_eq N (v >>> (3 &&& 31)) (n := 46) (by omega) (by omega)
  rw [show fL_low N (v >>> (3 &&& 31)) 46 = _ from e1, Option.bind_some]
  have eL : (15 : Int32) + nI a = nI (14 + a + 1) := by
    rw [show (15 : Int32) = nI 15 from rfl, nI_add]
    congr 1
    omega
  rw [eL, nI_pred]
  obtain ⟨k, hk, e2⟩ := low_eq N (v >>> (9 &&& 31)) (n := 14 + a) (by omega) (by omega)
  rw [e2, Option.bind_some]
  have eS : (1 : Int32) + nI k = nI (k + 1) := by
    rw [show (1 : Int32) = nI 1 from rfl, nI_add]
    congr 1
    omega
  rw [eS, if_neg (by decide)]
  generalize hL : 14 + a = L
  have h1 : 14 ≤ L := by omega
  have h2 : L ≤ 59 := by omega
  have h3 : k < L := by omega
  rw [K_samples (by omega) (show 2 ≤ L + 1 by omega) (by omega) (show 1 ≤ k + 1 by omega) (by omega), Option.bind_some, Sum.elim_inr]
  rw [nI_sub (show k + 1 ≤ L + 1 by omega), if_neg (nI_ne0 (by omega) (by omega))]
  unfold fL_curves_b165
  rw [K_samples (by omega) (show 2 ≤ L + 1 by omega) (by omega) (show 1 ≤ L + 1 - (k + 1) by omega) (by omega), Option.bind_some, Sum.elim_inr]
  have hsym : ch (L + 1) (k + 1) = ch (L + 1) (L + 1 - (k + 1)) := by
    have := ch_sym (k + 1) (L + 1 - (k + 1))
    rw [show k + 1 + (L + 1 - (k + 1)) = L + 1 by omega] at this
    exact this
  rw [← hsym, lg_self, if_pos rfl]
  rw [show fX5_accepted N (nI (L + 1)) 0 (nI (k + 1)) 0 = _ from K_accepted (b := 0) (t := 0) (by omega) (show 2 ≤ L + 1 by omega) (by omega) (Nat.zero_le _) (show 1 ≤ k + 1 by omega) (by omega) (by omega), Option.bind_some, Sum.elim_inr]
  rw [K_samples (by omega) (show 2 ≤ L + 1 by omega) (by omega) (show 1 ≤ k + 1 by omega) (by omega), Option.bind_some, Sum.elim_inr]
  have e0 : hyS 0 (L + 1 - 0) (k + 1) (min 0 (k + 1) + 1) = ch (L + 1) (k + 1) := by
    rw [Nat.min_eq_left (Nat.zero_le _)]
    show 0 + ch 0 0 * ch (L + 1 - 0) (k + 1 - 0) = _
    rw [ch_0, Nat.one_mul, Nat.zero_add, Nat.sub_zero, Nat.sub_zero]
  rw [e0, lg_self, if_pos rfl]
  unfold fL_curves_b199
  rw [if_neg (by decide)]
  by_cases hs : nI (k + 1) < 2
  · rw [if_pos hs]; rfl
  · rw [if_neg hs]
    have hk1 : 1 ≤ k := by
      rcases Nat.lt_or_ge 0 k with q | q
      · exact q
      · exact absurd (nI_lt (a := k + 1) (b := 2) (by omega) (by omega)) hs
    rw [K_samples (by omega) (show 2 ≤ L + 1 by omega) (by omega) (show 1 ≤ k + 1 by omega) (by omega), Option.bind_some, Sum.elim_inr]
    rw [nI_pred, nI_pred, K_samples (by omega) (show 2 ≤ L by omega) (by omega) hk1 (by omega), Option.bind_some, Sum.elim_inr]
    rw [if_neg (nI_ge (by omega) (by omega)), K_samples (by omega) (show 2 ≤ L by omega) (by omega) (show 1 ≤ k + 1 by omega) (by omega), Option.bind_some, Sum.elim_inr]
    unfold fL_curves_b253
    rw [lN_add, ← ch_pas, lg_self, if_pos rfl]
    rfl
theorem P_curves {N : Nat} (hN : 20000 ≤ N) (v : Int32) : fL_curves N v = some 1 := by
  unfold fL_curves
  obtain ⟨a, ha, e1⟩ := low_eq N v (n := 13) (by omega) (by omega)
  rw [show fL_low N v 13 = _ from e1, Option.bind_some]
  have em : (2 : Int32) + nI a = nI (2 + a) := by rw [show (2 : Int32) = nI 2 from rfl, nI_add]
  rw [em]
  obtain ⟨k, hk, e2⟩ := low_eq N (v >>> (4 &&& 31)) (n := 2 + a) (by omega) (by omega)
  rw [e2, Option.bind_some]
  have eS : (1 : Int32) + nI k = nI (1 + k) := by rw [show (1 : Int32) = nI 1 from rfl, nI_add]
  rw [eS, nI_1]
  obtain ⟨b, hb, e3⟩ := low_eq N (v >>> (8 &&& 31)) (n := 2 + a + 1) (by omega) (by omega)
  rw [e3, Option.bind_some]
  obtain ⟨t, ht, e4⟩ := low_eq N (v >>> (12 &&& 31)) (n := 6) (by omega) (by omega)
  rw [show fL_low N (v >>> (12 &&& 31)) 6 = _ from e4, Option.bind_some]
  generalize hm : 2 + a = m
  generalize hs : 1 + k = s
  have h1 : 2 ≤ m := by omega
  have h2 : m ≤ 14 := by omega
  have h3 : b ≤ m := by omega
  have h4 : 1 ≤ s := by omega
  have h5 : s ≤ m := by omega
  rw [K_accepted (t := t) (by omega) h1 (by omega) h3 h4 h5 (by omega), Option.bind_some, Sum.elim_inr]
  rw [K_listing (t := t) hN h1 h2 h3 h4 h5 (by omega), Option.bind_some, Sum.elim_inr]
  have el : lsC s b t (2 ^ m) = hyS b (m - b) s (min t s + 1) := by
    have := ls_eq (b := b) t (m - b) (by omega) s
    rw [show b + (m - b) = m by omega] at this
    exact this
  rw [el, lg_self, if_pos rfl]
  rw [K_accepted (t := m) (by omega) h1 (by omega) h3 h4 h5 (by omega), Option.bind_some, Sum.elim_inr]
  rw [K_samples (by omega) h1 (by omega) h4 h5, Option.bind_some, Sum.elim_inr]
  rw [Nat.min_eq_right h5, hy_v, show b + (m - b) = m by omega, lg_self, if_pos rfl]
  rw [K_samples (by omega) h1 (by omega) (show 1 ≤ m by omega) (Nat.le_refl _), Option.bind_some, Sum.elim_inr, ch_self]
  rw [show lg_cmp (lN 1) 1 = 0 from lg_self _, if_pos rfl]
  exact curves_101 hN v
