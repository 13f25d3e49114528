/-! ===== lN n to 2^64: shifts, and, or, masks, one bit ===== -/
theorem wb_tb (n : Nat) : (lN n).toBitVec = BitVec.ofNat 64 n := rfl
theorem wb_inj {a b : Int64} (h : a.toBitVec = b.toBitVec) : a = b := Int64.toBitVec_inj.mp h
theorem wb_tn {n : Nat} (h : n < 2 ^ 64) : (lN n).toBitVec.toNat = n := by rw [wb_tb, BitVec.toNat_ofNat, Nat.mod_eq_of_lt h]
theorem wb_of (x : Int64) : ∃ n, n < 2 ^ 64 ∧ x = lN n := ⟨x.toBitVec.toNat, x.toBitVec.isLt, wb_inj (by rw [wb_tb]; simp)⟩
theorem wb_of32 (x : Int32) : ∃ n, n < 2 ^ 32 ∧ x = nI n := ⟨x.toBitVec.toNat, x.toBitVec.isLt, Int32.toBitVec_inj.mp (by show _ = BitVec.ofNat 32 _; simp)⟩
theorem wb_c : ∀ k, k < 64 → ((nI k).toInt64 &&& 63) = lN k := by decide +kernel
theorem wb_cu : ∀ k, k < 64 → ((nI k).toInt64.toUInt64 &&& Int64.toUInt64 63) = UInt64.ofNat k := by decide +kernel
theorem wb_sm : ∀ k, k < 64 → (BitVec.ofNat 64 k).smod 64 = BitVec.ofNat 64 k := by decide +kernel
theorem wb_pw {a b : Nat} (h : a ≤ b) : 2 ^ b = 2 ^ a * 2 ^ (b - a) := by rw [← Nat.pow_add]; congr 1; omega
theorem wb_lt2 {a b : Nat} (h : a < b) : 2 ^ a < 2 ^ b := Nat.pow_lt_pow_right (by decide) h
theorem wb_mod (n : Nat) : lN n = lN (n % 2 ^ 64) := wb_inj (by rw [wb_tb, wb_tb]; apply BitVec.eq_of_toNat_eq; rw [BitVec.toNat_ofNat, BitVec.toNat_ofNat, Nat.mod_mod])
theorem wb_shr {n k : Nat} (hn : n < 2 ^ 64) (hk : k < 64) : ((lN n).toUInt64 >>> ((nI k).toInt64.toUInt64 &&& Int64.toUInt64 63)).toInt64 = lN (n / 2 ^ k) := by
  rw [wb_cu k hk]
  apply wb_inj
  apply BitVec.eq_of_toNat_eq
  show ((lN n).toUInt64 >>> UInt64.ofNat k).toNat = (BitVec.ofNat 64 _).toNat
  have h1 : (UInt64.ofNat k).toNat = k := by
    show (BitVec.ofNat 64 k).toNat = k
    rw [BitVec.toNat_ofNat, Nat.mod_eq_of_lt (by omega)]
  have h2 : (lN n).toUInt64.toNat = n := wb_tn hn
  rw [UInt64.toNat_shiftRight, h1, h2, Nat.mod_eq_of_lt hk, Nat.shiftRight_eq_div_pow, BitVec.toNat_ofNat, Nat.mod_eq_of_lt (Nat.lt_of_le_of_lt (Nat.div_le_self _ _) hn)]
theorem wb_shl (n : Nat) {k : Nat} (hk : k < 64) : lN n <<< ((nI k).toInt64 &&& 63) = lN (n * 2 ^ k) := by
  rw [wb_c k hk]
  apply wb_inj
  rw [Int64.toBitVec_shiftLeft, wb_tb, wb_tb, wb_tb, wb_sm k hk]
  apply BitVec.eq_of_toNat_eq
  rw [BitVec.shiftLeft_eq', BitVec.toNat_shiftLeft, BitVec.toNat_ofNat, BitVec.toNat_ofNat, BitVec.toNat_ofNat, Nat.mod_eq_of_lt (show k < 2 ^ 64 by omega), Nat.shiftLeft_eq, Nat.mul_mod, Nat.mod_mod, ← Nat.mul_mod]
theorem wb_and {a b : Nat} (ha : a < 2 ^ 64) (hb : b < 2 ^ 64) : lN a &&& lN b = lN (a &&& b) := by
  apply wb_inj
  rw [Int64.toBitVec_and, wb_tb, wb_tb, wb_tb]
  apply BitVec.eq_of_toNat_eq
  rw [BitVec.toNat_and, BitVec.toNat_ofNat, BitVec.toNat_ofNat, BitVec.toNat_ofNat, Nat.mod_eq_of_lt ha, Nat.mod_eq_of_lt hb, Nat.mod_eq_of_lt (Nat.and_lt_two_pow _ hb)]
theorem wb_or {a b : Nat} (ha : a < 2 ^ 64) (hb : b < 2 ^ 64) : lN a ||| lN b = lN (a ||| b) := by
  apply wb_inj
  rw [Int64.toBitVec_or, wb_tb, wb_tb, wb_tb]
  apply BitVec.eq_of_toNat_eq
  rw [BitVec.toNat_or, BitVec.toNat_ofNat, BitVec.toNat_ofNat, BitVec.toNat_ofNat, Nat.mod_eq_of_lt ha, Nat.mod_eq_of_lt hb, Nat.mod_eq_of_lt (Nat.or_lt_two_pow ha hb)]
theorem wb_mask {n k : Nat} (hn : n < 2 ^ 64) (hk : k < 64) : lN n &&& lN (2 ^ k - 1) = lN (n % 2 ^ k) := by
  rw [wb_and hn (by have := wb_lt2 hk; omega), Nat.and_two_pow_sub_one_eq_mod]
theorem wb_a1 {n : Nat} (hn : n < 2 ^ 64) : lN n &&& 1 = lN (n % 2) := wb_mask (k := 1) hn (by decide)
theorem wb_bit {n k : Nat} (hn : n < 2 ^ 64) (hk : k < 64) : ((lN n).toUInt64 >>> ((nI k).toInt64.toUInt64 &&& Int64.toUInt64 63)).toInt64 &&& 1 = lN (n / 2 ^ k % 2) := by
  rw [wb_shr hn hk, wb_a1 (Nat.lt_of_le_of_lt (Nat.div_le_self _ _) hn)]
/-! ===== lN to 2^62 under >> and >>> ===== -/
theorem pf_lI {a : Nat} (h : a < 2 ^ 63) : (lN a).toInt = (a : Int) := lg_ofNat_toInt h
theorem pf_shr {a d : Nat} {D : Int64} (hD : (D.toBitVec.smod 64).toNat = d) (h : a < 2 ^ 62) : lN a >>> D = lN (a / 2 ^ d) := by
  have hd : a / 2 ^ d ≤ a := Nat.div_le_self _ _
  apply Int64.toInt_inj.mp
  have e : (lN a >>> D).toInt = (lN a).toInt >>> d := by
    rw [← hD]
    exact BitVec.toInt_sshiftRight ..
  rw [e, Int.shiftRight_eq_div_pow, pf_lI (by omega), pf_lI (by omega)]
  rfl
theorem nx_and' (a b : Nat) : nI a &&& nI b = nI (a &&& b) := by
  apply Int32.toBitVec_inj.1
  show BitVec.ofNat 32 a &&& BitVec.ofNat 32 b = BitVec.ofNat 32 (a &&& b)
  apply BitVec.eq_of_getLsbD_eq
  intro i hi
  simp [hi]
def vb : List Nat → Nat
  | [] => 0
  | b :: t => 2 ^ 8 * vb t + b
theorem land_step {a m c d : Nat} (hc : c < 256) (hd : d < 256) : (2 ^ 8 * a + c) &&& (2 ^ 8 * m + d) = 2 ^ 8 * (a &&& m) + (c &&& d) := by
  have hcd : c &&& d < 2 ^ 8 := Nat.lt_of_le_of_lt Nat.and_le_left hc
  apply Nat.eq_of_testBit_eq
  intro i
  rw [Nat.testBit_and, Nat.testBit_two_pow_mul_add _ hc, Nat.testBit_two_pow_mul_add _ hd, Nat.testBit_two_pow_mul_add _ hcd]
  split
  · rw [Nat.testBit_and]
  · rw [Nat.testBit_and]
theorem vb_and (d : Nat) (hd : d < 256) : ∀ L : List Nat, (∀ b ∈ L, b < 256) → vb L &&& vb (L.map fun _ => d) = vb (L.map fun b => b &&& d)
  | [], _ => Nat.zero_and _
  | b :: t, h => by
    show (2 ^ 8 * vb t + b) &&& (2 ^ 8 * vb (t.map fun _ => d) + d) = 2 ^ 8 * vb (t.map fun b => b &&& d) + (b &&& d)
    rw [land_step (h b List.mem_cons_self) hd, vb_and d hd t (fun x hx => h x (List.mem_cons_of_mem _ hx))]
theorem by_2 : ∀ e, e < 2 → ∀ b, b < 256 → (e * 128 + b / 2) &&& 85 = (b / 2) &&& 85 := by decide +kernel
theorem by_4 : ∀ e, e < 4 → ∀ b, b < 256 → (e * 64 + b / 4) &&& 51 = (b / 4) &&& 51 := by decide +kernel
theorem vb_2 : ∀ L : List Nat, (∀ b ∈ L, b < 256) → (vb L / 2) &&& vb (L.map fun _ => 85) = vb (L.map fun b => (b / 2) &&& 85)
  | [], _ => rfl
  | b :: t, h => by
    have hb := h b List.mem_cons_self
    show ((2 ^ 8 * vb t + b) / 2) &&& (2 ^ 8 * vb (t.map fun _ => 85) + 85) = 2 ^ 8 * vb (t.map fun b => (b / 2) &&& 85) + ((b / 2) &&& 85)
    rw [show (2 ^ 8 * vb t + b) / 2 = 2 ^ 8 * (vb t / 2) + ((vb t % 2) * 128 + b / 2) by omega, land_step (by omega) (by omega), vb_2 t (fun x hx => h x (List.mem_cons_of_mem _ hx)), by_2 _ (Nat.mod_lt _ (by omega)) _ hb]
theorem vb_4 : ∀ L : List Nat, (∀ b ∈ L, b < 256) → (vb L / 4) &&& vb (L.map fun _ => 51) = vb (L.map fun b => (b / 4) &&& 51)
  | [], _ => rfl
  | b :: t, h => by
    have hb := h b List.mem_cons_self
    show ((2 ^ 8 * vb t + b) / 4) &&& (2 ^ 8 * vb (t.map fun _ => 51) + 51) = 2 ^ 8 * vb (t.map fun b => (b / 4) &&& 51) + ((b / 4) &&& 51)
    rw [show (2 ^ 8 * vb t + b) / 4 = 2 ^ 8 * (vb t / 4) + ((vb t % 4) * 64 + b / 4) by omega, land_step (by omega) (by omega), vb_4 t (fun x hx => h x (List.mem_cons_of_mem _ hx)), by_4 _ (Nat.mod_lt _ (by omega)) _ hb]
theorem vb_le (f : Nat → Nat) (hf : ∀ b, f b ≤ b) : ∀ L : List Nat, vb (L.map f) ≤ vb L
  | [] => Nat.le_refl _
  | b :: t => by
    have h1 := vb_le f hf t
    have h2 := hf b
    show 2 ^ 8 * vb (t.map f) + f b ≤ 2 ^ 8 * vb t + b
    omega
theorem vb_sub (f : Nat → Nat) (hf : ∀ b, f b ≤ b) : ∀ L : List Nat, vb L - vb (L.map f) = vb (L.map fun b => b - f b)
  | [] => rfl
  | b :: t => by
    have h1 := vb_le f hf t
    have h2 := hf b
    have h3 := vb_sub f hf t
    show (2 ^ 8 * vb t + b) - (2 ^ 8 * vb (t.map f) + f b) = 2 ^ 8 * vb (t.map fun b => b - f b) + (b - f b)
    omega
theorem vb_add (f g : Nat → Nat) : ∀ L : List Nat, vb (L.map f) + vb (L.map g) = vb (L.map fun b => f b + g b)
  | [] => rfl
  | b :: t => by
    have h3 := vb_add f g t
    show (2 ^ 8 * vb (t.map f) + f b) + (2 ^ 8 * vb (t.map g) + g b) = 2 ^ 8 * vb (t.map fun b => f b + g b) + (f b + g b)
    omega
theorem vb_nib : ∀ L : List Nat, (∀ c ∈ L, c % 16 ≤ 4) → vb L % 16 ≤ 4
  | [], _ => Nat.zero_le _
  | c :: t, h => by
    have := h c List.mem_cons_self
    show (2 ^ 8 * vb t + c) % 16 ≤ 4
    omega
theorem vb_16 : ∀ L : List Nat, (∀ c ∈ L, c % 16 ≤ 4 ∧ c / 16 ≤ 4) → (vb L + vb L / 16) &&& vb (L.map fun _ => 15) = vb (L.map fun c => (c + c / 16) % 16)
  | [], _ => rfl
  | c :: t, h => by
    have hc := h c List.mem_cons_self
    have hn := vb_nib t (fun x hx => (h x (List.mem_cons_of_mem _ hx)).1)
    show ((2 ^ 8 * vb t + c) + (2 ^ 8 * vb t + c) / 16) &&& (2 ^ 8 * vb (t.map fun _ => 15) + 15) = 2 ^ 8 * vb (t.map fun c => (c + c / 16) % 16) + ((c + c / 16) % 16)
    rw [show (2 ^ 8 * vb t + c) + (2 ^ 8 * vb t + c) / 16 = 2 ^ 8 * (vb t + vb t / 16) + ((vb t % 16) * 16 + (c + c / 16)) by omega, land_step (by omega) (by omega), vb_16 t (fun x hx => h x (List.mem_cons_of_mem _ hx)), show (15 : Nat) = 2 ^ 4 - 1 from rfl, Nat.and_two_pow_sub_one_eq_mod]
    omega
def w1 (b : Nat) : Nat := b - ((b / 2) &&& 85)
def w2 (b : Nat) : Nat := (w1 b &&& 51) + ((w1 b / 4) &&& 51)
def w3 (b : Nat) : Nat := (w2 b + w2 b / 16) % 16
theorem w_ok : ∀ b, b < 256 → w1 b < 256 ∧ w2 b % 16 ≤ 4 ∧ w2 b / 16 ≤ 4 ∧ w3 b = spPop b 8 := by decide +kernel
theorem half_le (b : Nat) : (b / 2) &&& 85 ≤ b := Nat.le_trans Nat.and_le_left (Nat.div_le_self b 2)
/-- the first three steps of the counting in parallel, byte for byte -/
theorem swar3 (L : List Nat) (h : ∀ b ∈ L, b < 256) : ∃ s1 s2, s1 = vb L - ((vb L / 2) &&& vb (L.map fun _ => 85)) ∧ s2 = (s1 &&& vb (L.map fun _ => 51)) + ((s1 / 4) &&& vb (L.map fun _ => 51)) ∧ (s2 + s2 / 16) &&& vb (L.map fun _ => 15) = vb (L.map fun b => spPop b 8) ∧ s1 = vb (L.map w1) ∧ s2 = vb (L.map w2) := by
  have e1 : vb L - ((vb L / 2) &&& vb (L.map fun _ => 85)) = vb (L.map w1) := by
    rw [vb_2 L h, vb_sub _ half_le]; rfl
  have h1 : ∀ c ∈ L.map w1, c < 256 := by
    intro c hc
    obtain ⟨b, hb, rfl⟩ := List.mem_map.mp hc
    exact (w_ok b (h b hb)).1
  have m51 : ∀ d : Nat, (L.map fun _ => d) = ((L.map w1).map fun _ => d) := fun d => by rw [List.map_map]; rfl
  have e2 : (vb (L.map w1) &&& vb (L.map fun _ => 51)) + ((vb (L.map w1) / 4) &&& vb (L.map fun _ => 51)) = vb (L.map w2) := by
    rw [m51 51, vb_and 51 (by omega) _ h1, vb_4 _ h1, vb_add, List.map_map]; rfl
  have h2 : ∀ c ∈ L.map w2, c % 16 ≤ 4 ∧ c / 16 ≤ 4 := by
    intro c hc
    obtain ⟨b, hb, rfl⟩ := List.mem_map.mp hc
    exact ⟨(w_ok b (h b hb)).2.1, (w_ok b (h b hb)).2.2.1⟩
  have m15 : (L.map fun _ => 15) = ((L.map w2).map fun _ => 15) := by rw [List.map_map]; rfl
  refine ⟨_, _, rfl, rfl, ?_, e1, by rw [e1, e2]⟩
  rw [e1, e2, m15, vb_16 _ h2, List.map_map]
  congr 1
  apply List.map_congr_left
  intro b hb
  exact (w_ok b (h b hb)).2.2.2
theorem spPop_add (f j : Nat) : ∀ k, spPop f (j + k) = spPop f j + spPop (f >>> j) k
  | 0 => rfl
  | k + 1 => by
    show spPop f (j + k) + (f >>> (j + k)) % 2 = spPop f j + (spPop (f >>> j) k + ((f >>> j) >>> k) % 2)
    rw [spPop_add f j k, Nat.shiftRight_add, Nat.add_assoc]
theorem spPop_le (f : Nat) : ∀ k, spPop f k ≤ k
  | 0 => Nat.le_refl _
  | k + 1 => by
    have := spPop_le f k
    show spPop f k + (f >>> k) % 2 ≤ k + 1
    omega
theorem spPop_mod (f n : Nat) : ∀ k, k ≤ n → spPop (f % 2 ^ n) k = spPop f k
  | 0, _ => rfl
  | k + 1, h => by
    show spPop (f % 2 ^ n) k + ((f % 2 ^ n) >>> k) % 2 = spPop f k + (f >>> k) % 2
    rw [spPop_mod f n k (by omega), Nat.shiftRight_eq_div_pow, Nat.shiftRight_eq_div_pow, ← Nat.toNat_testBit, ← Nat.toNat_testBit, Nat.testBit_mod_two_pow, decide_eq_true (by omega), Bool.true_and]
theorem spPop_hi {f n : Nat} (hf : f < 2 ^ n) : ∀ k, spPop f (n + k) = spPop f n
  | 0 => rfl
  | k + 1 => by
    show spPop f (n + k) + (f >>> (n + k)) % 2 = spPop f n
    rw [spPop_hi hf k, Nat.shiftRight_eq_div_pow, Nat.div_eq_of_lt (Nat.lt_of_lt_of_le hf (Nat.pow_le_pow_right (by omega) (by omega))), Nat.zero_mod, Nat.add_zero]
def bys : Nat → Nat → List Nat
  | 0, _ => []
  | k + 1, f => f % 256 :: bys k (f / 256)
theorem bys_lt : ∀ (k f : Nat), ∀ b ∈ bys k f, b < 256
  | 0, _, _, h => absurd h List.not_mem_nil
  | k + 1, f, b, h => by
    rcases List.mem_cons.mp h with rfl | h
    · exact Nat.mod_lt _ (by omega)
    · exact bys_lt k (f / 256) b h
theorem vb_bys : ∀ (k f : Nat), f < 256 ^ k → vb (bys k f) = f
  | 0, f, h => by
    show 0 = f
    omega
  | k + 1, f, h => by
    show 2 ^ 8 * vb (bys k (f / 256)) + f % 256 = f
    rw [vb_bys k (f / 256) (Nat.div_lt_of_lt_mul (by rw [Nat.pow_succ] at h; omega))]
    omega
theorem spPop_byte (f k : Nat) : spPop f (k + 8) = spPop (f % 256) 8 + spPop (f / 256) k := by
  rw [Nat.add_comm k 8, spPop_add f 8 k, show f % 256 = f % 2 ^ 8 from rfl, spPop_mod f 8 8 (Nat.le_refl _), Nat.shiftRight_eq_div_pow]
theorem dvm {x q r m : Nat} (h : x = m * q + r) (hr : r < m) : x / m = q ∧ x % m = r := by
  subst h
  exact ⟨by rw [Nat.mul_add_div (by omega), Nat.div_eq_of_lt hr, Nat.add_zero], by rw [Nat.mul_add_mod, Nat.mod_eq_of_lt hr]⟩
theorem sum8 {a b c d e f g h : Nat} (ha : a ≤ 8) (hb : b ≤ 8) (hc : c ≤ 8) (hd : d ≤ 8) (he : e ≤ 8) (hf : f ≤ 8) (hg : g ≤ 8) (hh : h ≤ 8) {s : Nat} (hs : s = vb [a, b, c, d, e, f, g, h]) : s < 2 ^ 64 ∧ ∀ t, t = s + s / 256 → t < 2 ^ 64 ∧ ∀ u, u = t + t / 65536 → u < 2 ^ 64 ∧ ∀ v, v = u + u / 4294967296 → v < 2 ^ 64 ∧ v % 128 = a + b + c + d + e + f + g + h := by
  simp only [vb] at hs
  have h1 : s / 256 = 1 * (b) + 256 * (c) + 65536 * (d) + 16777216 * (e) + 4294967296 * (f) + 1099511627776 * (g) + 281474976710656 * (h) := (dvm (r := a) (by omega) (by omega)).1
  refine ⟨by omega, fun t ht => ?_⟩
  rw [h1] at ht
  clear h1
  replace ht : t = 1 * (a + b) + 256 * (b + c) + 65536 * (c + d) + 16777216 * (d + e) + 4294967296 * (e + f) + 1099511627776 * (f + g) + 281474976710656 * (g + h) + 72057594037927936 * (h) := by omega
  clear hs s
  have h2 : t / 65536 = 1 * (c + d) + 256 * (d + e) + 65536 * (e + f) + 16777216 * (f + g) + 4294967296 * (g + h) + 1099511627776 * (h) := (dvm (r := 1 * (a + b) + 256 * (b + c)) (by omega) (by omega)).1
  refine ⟨by omega, fun u hu => ?_⟩
  rw [h2] at hu
  clear h2
  replace hu : u = 1 * (a + b + c + d) + 256 * (b + c + d + e) + 65536 * (c + d + e + f) + 16777216 * (d + e + f + g) + 4294967296 * (e + f + g + h) + 1099511627776 * (f + g + h) + 281474976710656 * (g + h) + 72057594037927936 * (h) := by omega
  clear ht t
  have h3 : u / 4294967296 = 1 * (e + f + g + h) + 256 * (f + g + h) + 65536 * (g + h) + 16777216 * (h) := (dvm (r := 1 * (a + b + c + d) + 256 * (b + c + d + e) + 65536 * (c + d + e + f) + 16777216 * (d + e + f + g)) (by omega) (by omega)).1
  refine ⟨by omega, fun v hv => ?_⟩
  rw [h3] at hv
  clear h3
  replace hv : v = 1 * (a + b + c + d + e + f + g + h) + 256 * (b + c + d + e + f + g + h) + 65536 * (c + d + e + f + g + h) + 16777216 * (d + e + f + g + h) + 4294967296 * (e + f + g + h) + 1099511627776 * (f + g + h) + 281474976710656 * (g + h) + 72057594037927936 * (h) := by omega
  clear hu u
  exact ⟨by omega, (dvm (q := 2 * (1 * (b + c + d + e + f + g + h) + 256 * (c + d + e + f + g + h) + 65536 * (d + e + f + g + h) + 16777216 * (e + f + g + h) + 4294967296 * (f + g + h) + 1099511627776 * (g + h) + 281474976710656 * (h))) (by omega) (by omega)).2⟩
theorem sum4 {a b c d : Nat} (ha : a ≤ 8) (hb : b ≤ 8) (hc : c ≤ 8) (hd : d ≤ 8) {s : Nat} (hs : s = vb [a, b, c, d]) : s < 2 ^ 31 ∧ ∀ t, t = s + s / 256 → t < 2 ^ 31 ∧ ∀ u, u = t + t / 65536 → u < 2 ^ 31 ∧ u % 64 = a + b + c + d := by
  simp only [vb] at hs
  have h1 : s / 256 = 1 * (b) + 256 * (c) + 65536 * (d) := (dvm (r := a) (by omega) (by omega)).1
  refine ⟨by omega, fun t ht => ?_⟩
  rw [h1] at ht
  clear h1
  replace ht : t = 1 * (a + b) + 256 * (b + c) + 65536 * (c + d) + 16777216 * (d) := by omega
  clear hs s
  have h2 : t / 65536 = 1 * (c + d) + 256 * (d) := (dvm (r := 1 * (a + b) + 256 * (b + c)) (by omega) (by omega)).1
  refine ⟨by omega, fun u hu => ?_⟩
  rw [h2] at hu
  clear h2
  replace hu : u = 1 * (a + b + c + d) + 256 * (b + c + d) + 65536 * (c + d) + 16777216 * (d) := by omega
  clear ht t
  exact ⟨by omega, (dvm (q := 4 * (1 * (b + c + d) + 256 * (c + d) + 65536 * (d))) (by omega) (by omega)).2⟩
theorem j13 {N f : Nat} (hf : f < 2 ^ 64) : fJ13_bitCount_95d88 N (lN f) = some (nI (spPop f 64)) := by
  have hL := bys_lt 8 f
  have hv : vb (bys 8 f) = f := vb_bys 8 f hf
  obtain ⟨s1, s2, e1, e2, e3, e4, e5⟩ := swar3 (bys 8 f) hL
  rw [hv] at e1
  rw [show vb ((bys 8 f).map fun _ => 85) = 6148914691236517205 from (congrArg vb (show ((bys 8 f).map fun _ => 85) = [85, 85, 85, 85, 85, 85, 85, 85] from rfl)).trans (by decide +kernel)] at e1
  rw [show vb ((bys 8 f).map fun _ => 51) = 3689348814741910323 from (congrArg vb (show ((bys 8 f).map fun _ => 51) = [51, 51, 51, 51, 51, 51, 51, 51] from rfl)).trans (by decide +kernel)] at e2
  rw [show vb ((bys 8 f).map fun _ => 15) = 1085102592571150095 from (congrArg vb (show ((bys 8 f).map fun _ => 15) = [15, 15, 15, 15, 15, 15, 15, 15] from rfl)).trans (by decide +kernel)] at e3
  have hm1 : (f / 2) &&& 6148914691236517205 ≤ f := Nat.le_trans Nat.and_le_left (Nat.div_le_self _ _)
  have hs1 : s1 < 2 ^ 64 := by omega
  have hs2a : s1 &&& 3689348814741910323 ≤ 3689348814741910323 := Nat.and_le_right
  have hs2b : (s1 / 4) &&& 3689348814741910323 ≤ 3689348814741910323 := Nat.and_le_right
  have hs2 : s2 < 2 ^ 63 := by omega
  generalize hs : vb ((bys 8 f).map fun b => spPop b 8) = s at e3
  have hsum := sum8 (spPop_le (f % 256) 8) (spPop_le (f / 256 % 256) 8) (spPop_le (f / 256 / 256 % 256) 8) (spPop_le (f / 256 / 256 / 256 % 256) 8) (spPop_le (f / 256 / 256 / 256 / 256 % 256) 8) (spPop_le (f / 256 / 256 / 256 / 256 / 256 % 256) 8) (spPop_le (f / 256 / 256 / 256 / 256 / 256 / 256 % 256) 8) (spPop_le (f / 256 / 256 / 256 / 256 / 256 / 256 / 256 % 256) 8) (s := s) hs.symm
  obtain ⟨q4, hsum⟩ := hsum
  obtain ⟨q3, hsum⟩ := hsum _ rfl
  obtain ⟨q2, hsum⟩ := hsum _ rfl
  obtain ⟨q1, q5⟩ := hsum _ rfl
  have hp : spPop f 64 = _ := (spPop_byte f 56).trans (congrArg _ ((spPop_byte (f / 256) 48).trans (congrArg _ ((spPop_byte (f / 256 / 256) 40).trans (congrArg _ ((spPop_byte (f / 256 / 256 / 256) 32).trans (congrArg _ ((spPop_byte (f / 256 / 256 / 256 / 256) 24).trans (congrArg _ ((spPop_byte (f / 256 / 256 / 256 / 256 / 256) 16).trans (congrArg _ ((spPop_byte (f / 256 / 256 / 256 / 256 / 256 / 256) 8).trans (congrArg _ (spPop_byte (f / 256 / 256 / 256 / 256 / 256 / 256 / 256) 0))))))))))))))
  unfold fJ13_bitCount_95d88
  have sh : ∀ (n k : Nat), n < 2 ^ 64 → k < 64 → ((lN n).toUInt64 >>> ((nI k).toInt64.toUInt64 &&& Int64.toUInt64 63)).toInt64 = lN (n / 2 ^ k) := fun n k hn hk => wb_shr hn hk
  rw [show ((lN f).toUInt64 >>> ((1 : Int32).toInt64.toUInt64 &&& Int64.toUInt64 63)).toInt64 = lN (f / 2) from sh f 1 hf (by omega), show (6148914691236517205 : Int64) = lN 6148914691236517205 from rfl, wb_and (by omega) (by omega), lN_sub hm1, ← e1, Option.bind_some]
  rw [show ((lN s1).toUInt64 >>> ((2 : Int32).toInt64.toUInt64 &&& Int64.toUInt64 63)).toInt64 = lN (s1 / 4) from sh s1 2 hs1 (by omega), show (3689348814741910323 : Int64) = lN 3689348814741910323 from rfl, wb_and hs1 (by omega), wb_and (by omega) (by omega), lN_add, ← e2, Option.bind_some]
  rw [show ((lN s2).toUInt64 >>> ((4 : Int32).toInt64.toUInt64 &&& Int64.toUInt64 63)).toInt64 = lN (s2 / 16) from sh s2 4 (by omega) (by omega), show (1085102592571150095 : Int64) = lN 1085102592571150095 from rfl, lN_add, wb_and (by omega) (by omega), e3, Option.bind_some]
  rw [show ((lN s).toUInt64 >>> ((8 : Int32).toInt64.toUInt64 &&& Int64.toUInt64 63)).toInt64 = lN (s / 256) from sh s 8 q4 (by omega), lN_add, Option.bind_some]
  generalize s + s / 256 = t at *
  rw [show ((lN t).toUInt64 >>> ((16 : Int32).toInt64.toUInt64 &&& Int64.toUInt64 63)).toInt64 = lN (t / 65536) from sh t 16 q3 (by omega), lN_add, Option.bind_some]
  generalize t + t / 65536 = u at *
  rw [show ((lN u).toUInt64 >>> ((32 : Int32).toInt64.toUInt64 &&& Int64.toUInt64 63)).toInt64 = lN (u / 4294967296) from sh u 32 q2 (by omega), lN_add, Option.bind_some, lN_i]
  generalize u + u / 4294967296 = v at *
  rw [show (127 : Int32) = nI 127 from rfl, nx_and', show v &&& 127 = v % 128 from Nat.and_two_pow_sub_one_eq_mod v 7, q5, hp]
  congr 2
  simp only [spPop]
  omega
theorem nx_cnt' : ∀ j : Fin 32, (UInt32.ofNat j.val &&& Int32.toUInt32 31).toNat % 32 = j.val := by decide +kernel
theorem nx_ush' {k j : Nat} (hk : k < 65536) (hj : j < 32) : ((nI k).toUInt32 >>> ((nI j).toUInt32 &&& Int32.toUInt32 31)).toInt32 = nI (k >>> j) := by
  have hs : k >>> j ≤ k := by
    rw [Nat.shiftRight_eq_div_pow]
    exact Nat.div_le_self _ _
  have e2 : UInt32.ofNat k >>> (UInt32.ofNat j &&& Int32.toUInt32 31) = UInt32.ofNat (k >>> j) := by
    apply UInt32.toNat_inj.1
    have h1 : (UInt32.ofNat k).toNat = k := Nat.mod_eq_of_lt (by omega)
    have h2 : (UInt32.ofNat (k >>> j)).toNat = k >>> j := Nat.mod_eq_of_lt (by omega)
    rw [UInt32.toNat_shiftRight, nx_cnt' ⟨j, hj⟩, h1, h2]
  show (UInt32.ofNat k >>> (UInt32.ofNat j &&& Int32.toUInt32 31)).toInt32 = _
  rw [e2]
  rfl
theorem j6 {N f : Nat} (hf : f < 16384) : fJ6_bitCount_0f7a4 N (nI f) = some (nI (spPop f 14)) := by
  have hL := bys_lt 4 f
  have hv : vb (bys 4 f) = f := vb_bys 4 f (by omega)
  obtain ⟨s1, s2, e1, e2, e3, e4, e5⟩ := swar3 (bys 4 f) hL
  rw [hv] at e1
  rw [show vb ((bys 4 f).map fun _ => 85) = 1431655765 from (congrArg vb (show ((bys 4 f).map fun _ => 85) = [85, 85, 85, 85] from rfl)).trans (by decide +kernel)] at e1
  rw [show vb ((bys 4 f).map fun _ => 51) = 858993459 from (congrArg vb (show ((bys 4 f).map fun _ => 51) = [51, 51, 51, 51] from rfl)).trans (by decide +kernel)] at e2
  rw [show vb ((bys 4 f).map fun _ => 15) = 252645135 from (congrArg vb (show ((bys 4 f).map fun _ => 15) = [15, 15, 15, 15] from rfl)).trans (by decide +kernel)] at e3
  have hm1 : (f / 2) &&& 1431655765 ≤ f := Nat.le_trans Nat.and_le_left (Nat.div_le_self _ _)
  have hs1 : s1 < 16384 := by omega
  have hs2a : s1 &&& 858993459 ≤ s1 := Nat.and_le_left
  have hs2b : (s1 / 4) &&& 858993459 ≤ s1 / 4 := Nat.and_le_left
  have hs2 : s2 < 32768 := by omega
  have hs3 : (s2 + s2 / 16) &&& 252645135 ≤ s2 + s2 / 16 := Nat.and_le_left
  generalize hs : vb ((bys 4 f).map fun b => spPop b 8) = s at e3
  have hsl : s < 36000 := by omega
  have hsum := sum4 (spPop_le (f % 256) 8) (spPop_le (f / 256 % 256) 8) (spPop_le (f / 256 / 256 % 256) 8) (spPop_le (f / 256 / 256 / 256 % 256) 8) (s := s) hs.symm
  obtain ⟨q4, hsum⟩ := hsum
  obtain ⟨q3, hsum⟩ := hsum _ rfl
  obtain ⟨q2, q5⟩ := hsum _ rfl
  have hp : spPop f 32 = _ := (spPop_byte f 24).trans (congrArg _ ((spPop_byte (f / 256) 16).trans (congrArg _ ((spPop_byte (f / 256 / 256) 8).trans (congrArg _ (spPop_byte (f / 256 / 256 / 256) 0))))))
  have hp2 : spPop f 32 = spPop f 14 := spPop_hi (n := 14) hf 18
  unfold fJ6_bitCount_0f7a4
  have sh : ∀ (n k : Nat), n < 65536 → k < 32 → ((nI n).toUInt32 >>> ((nI k).toUInt32 &&& Int32.toUInt32 31)).toInt32 = nI (n / 2 ^ k) := fun n k hn hk => (nx_ush' hn hk).trans (by rw [Nat.shiftRight_eq_div_pow])
  rw [show ((nI f).toUInt32 >>> ((1 : Int32).toUInt32 &&& Int32.toUInt32 31)).toInt32 = nI (f / 2) from sh f 1 (by omega) (by omega), show (1431655765 : Int32) = nI 1431655765 from rfl, nx_and', nI_sub hm1, ← e1, Option.bind_some]
  rw [show ((nI s1).toUInt32 >>> ((2 : Int32).toUInt32 &&& Int32.toUInt32 31)).toInt32 = nI (s1 / 4) from sh s1 2 (by omega) (by omega), show (858993459 : Int32) = nI 858993459 from rfl, nx_and', nx_and', nI_add, ← e2, Option.bind_some]
  rw [show ((nI s2).toUInt32 >>> ((4 : Int32).toUInt32 &&& Int32.toUInt32 31)).toInt32 = nI (s2 / 16) from sh s2 4 (by omega) (by omega), show (252645135 : Int32) = nI 252645135 from rfl, nI_add, nx_and', e3, Option.bind_some]
  rw [show ((nI s).toUInt32 >>> ((8 : Int32).toUInt32 &&& Int32.toUInt32 31)).toInt32 = nI (s / 256) from sh s 8 (by omega) (by omega), nI_add, Option.bind_some]
  generalize ht : s + s / 256 = t at *
  rw [show ((nI t).toUInt32 >>> ((16 : Int32).toUInt32 &&& Int32.toUInt32 31)).toInt32 = nI (t / 65536) from sh t 16 (by omega) (by omega), nI_add, Option.bind_some]
  generalize t + t / 65536 = u at *
  rw [show (63 : Int32) = nI 63 from rfl, nx_and', show u &&& 63 = u % 64 from Nat.and_two_pow_sub_one_eq_mod u 6, q5, ← hp2, hp]
  congr 2
  simp only [spPop]
  omega
theorem shr1 {f j : Nat} (hf : f < 2 ^ 50) (hj : j < 60) : ((lN f >>> ((nI j).toInt64 &&& 63)) &&& 1) = lN ((f >>> j) % 2) := by
  rw [wb_c j (by omega), pf_shr (d := j) (by
    show ((BitVec.ofNat 64 j).smod 64).toNat = j
    rw [wb_sm j (by omega), BitVec.toNat_ofNat, Nat.mod_eq_of_lt (by omega)]) (by omega), wb_a1 (Nat.lt_of_le_of_lt (Nat.div_le_self _ _) (by omega)), Nat.shiftRight_eq_div_pow]
theorem c_first {N f n : Nat} (hf : f < 2 ^ 50) (hn : n ≤ 50) (i b : Int32) : fX3_inspectFirst N (nI n) (lN f) i b = some (nI n, nI (spPop f n)) := by
  unfold fX3_inspectFirst
  have h1 : (1 : Int64) <<< ((nI n).toInt64 &&& 63) - 1 = lN (2 ^ n - 1) := by
    have := wb_shl 1 (k := n) (by omega)
    rw [show (1 : Int64) = lN 1 from rfl, this, Nat.one_mul, lN_sub (Nat.one_le_two_pow)]
  have h2 : f % 2 ^ n < 2 ^ n := Nat.mod_lt _ (Nat.two_pow_pos n)
  rw [h1, wb_mask (by omega) (by omega), j13 (Nat.lt_of_le_of_lt (Nat.mod_le _ _) (by omega)), Option.bind_some]
  have h3 : spPop (f % 2 ^ n) (n + (64 - n)) = spPop (f % 2 ^ n) n := spPop_hi h2 _
  rw [show n + (64 - n) = 64 by omega, spPop_mod f n n (Nat.le_refl _)] at h3
  rw [h3]

