theorem nx_ok1 {z : Nat} (h : z < 16384) : slot (TT z) (spPop z 14) = z ∧ (0 < z → 0 < nxL z) ∧ z ≤ nxW z ∧ nxW z < 65536 := by
  have h1 := nx_all h
  unfold nxOk at h1
  rw [Bool.and_eq_true, Bool.and_eq_true, Bool.and_eq_true] at h1
  obtain ⟨a, b, c, d⟩ := h1
  have b' := Nat.le_of_ble_eq_true b
  have d' := Nat.le_of_ble_eq_true d
  refine ⟨Nat.eq_of_beq_eq_true a, fun hz => ?_, Nat.le_of_ble_eq_true c, d'⟩
  rcases Nat.eq_zero_or_pos (nxL z) with q | q
  · rw [q] at b'; omega
  · exact q
theorem slot_d (T w : Nat) : slot T w = T / 2 ^ (16 * w) % 65536 := by
  show T >>> (16 * w) % 65536 = _
  rw [Nat.shiftRight_eq_div_pow]
theorem nxT_d (z T : Nat) : nxT z T = T + (nxW z - z) * 2 ^ (16 * spPop z 14) := by
  show T + (nxW z - z) <<< (16 * spPop z 14) = _
  rw [Nat.shiftLeft_eq]
theorem up_slot (T d w : Nat) (h : slot T w + d < 65536) (v : Nat) : slot (T + d * 2 ^ (16 * w)) v = if v = w then slot T w + d else slot T v := by
  have hp : ∀ k, 0 < 2 ^ (16 * k) := fun k => Nat.pow_pos (by omega)
  have hw : (T + d * 2 ^ (16 * w)) / 2 ^ (16 * w) = T / 2 ^ (16 * w) + d := Nat.add_mul_div_right _ _ (hp w)
  rw [slot_d] at h ⊢
  by_cases hv : v = w
  · subst hv
    rw [if_pos rfl, hw, slot_d]
    generalize T / 2 ^ (16 * v) = a at *
    omega
  · rw [if_neg hv, slot_d]
    rcases Nat.lt_or_ge w v with q | q
    · obtain ⟨e, rfl⟩ : ∃ e, v = w + 1 + e := ⟨v - (w + 1), by omega⟩
      have key : ∀ X, X / 2 ^ (16 * (w + 1 + e)) = X / 2 ^ (16 * w) / 65536 / 2 ^ (16 * e) := by
        intro X
        rw [Nat.div_div_eq_div_mul, Nat.div_div_eq_div_mul, show (65536 : Nat) = 2 ^ 16 from rfl, ← Nat.pow_add, ← Nat.pow_add]
        congr 2
        omega
      rw [key, key, hw]
      generalize T / 2 ^ (16 * w) = a at *
      congr 2
      omega
    · obtain ⟨e, rfl⟩ : ∃ e, w = v + 1 + e := ⟨w - (v + 1), by omega⟩
      have e1 : d * 2 ^ (16 * (v + 1 + e)) = (d * 2 ^ (16 * e) * 65536) * 2 ^ (16 * v) := by
        rw [show (65536 : Nat) = 2 ^ 16 from rfl, Nat.mul_assoc, Nat.mul_assoc, ← Nat.pow_add, ← Nat.pow_add]
        congr 2
        omega
      rw [e1, Nat.add_mul_div_right _ _ (hp v), Nat.add_mul_mod_self_right]
theorem slot_next {z : Nat} (hz : z < 16384) (v : Nat) : slot (TT (z + 1)) v = if v = spPop z 14 then nxW z else slot (TT z) v := by
  obtain ⟨h1, -, h3, h4⟩ := nx_ok1 hz
  show slot (nxT z (TT z)) v = _
  rw [nxT_d, up_slot _ _ _ (by rw [h1]; omega), h1]
  split
  · omega
  · rfl
theorem slot_end {m s : Nat} (hm : 2 ≤ m) (hm2 : m ≤ 14) (hs : s ≤ m) (h1 : 1 ≤ s) : 2 ^ m ≤ slot (TT (2 ^ m)) s := by
  rcases (show m = 2 ∨ m = 3 ∨ m = 4 ∨ m = 5 ∨ m = 6 ∨ m = 7 ∨ m = 8 ∨ m = 9 ∨ m = 10 ∨ m = 11 ∨ m = 12 ∨ m = 13 ∨ m = 14 by omega) with rfl | rfl | rfl | rfl | rfl | rfl | rfl | rfl | rfl | rfl | rfl | rfl | rfl
  · show 4 ≤ slot (TT 4) s
    rw [tt_4]
    have key : ∀ s, s < 3 → 1 ≤ s → 4 ≤ slot 441688175855591113927254375837106647847214422150913814853744517414387712 s := by decide +kernel
    exact key s (by omega) h1
  · show 8 ≤ slot (TT 8) s
    rw [tt_8]
    have key : ∀ s, s < 4 → 1 ≤ s → 8 ≤ slot 441688175855591113927254375837106647847214422150913814854870434501361664 s := by decide +kernel
    exact key s (by omega) h1
  · show 16 ≤ slot (TT 16) s
    rw [tt_16]
    have key : ∀ s, s < 5 → 1 ≤ s → 16 ≤ slot 441688175855591113927254375837106647847214422150913962431074858351722496 s := by decide +kernel
    exact key s (by omega) h1
  · show 32 ≤ slot (TT 32) s
    rw [tt_32]
    have key : ∀ s, s < 6 → 1 ≤ s → 32 ≤ slot 441688175855591113927254375837106647847214422170257070697317772847742976 s := by decide +kernel
    exact key s (by omega) h1
  · show 64 ≤ slot (TT 64) s
    rw [tt_64]
    have key : ∀ s, s < 7 → 1 ≤ s → 64 ≤ slot 441688175855591113927254375837106647847216957510143743688606595246194688 s := by decide +kernel
    exact key s (by omega) h1
  · show 128 ≤ slot (TT 128) s
    rw [tt_128]
    have key : ∀ s, s < 8 → 1 ≤ s → 128 ≤ slot 441688175855591113927254375837106648179529027136146057897136005113184256 s := by decide +kernel
    exact key s (by omega) h1
  · show 256 ≤ slot (TT 256) s
    rw [tt_256]
    have key : ∀ s, s < 9 → 1 ≤ s → 256 ≤ slot 441688175855591113927254375837150204987119046511473998263946091178229760 s := by decide +kernel
    exact key s (by omega) h1
  · show 512 ≤ slot (TT 512) s
    rw [tt_512]
    have key : ∀ s, s < 10 → 1 ≤ s → 512 ≤ slot 441688175855591113927254381546228089426138609495273756795546808839307264 s := by decide +kernel
    exact key s (by omega) h1
  · show 1024 ≤ slot (TT 1024) s
    rw [tt_1024]
    have key : ∀ s, s < 11 → 1 ≤ s → 1024 ≤ slot 441688175855591113928002681802697280598298022097224010764812081623465984 s := by decide +kernel
    exact key s (by omega) h1
  · show 2048 ≤ slot (TT 2048) s
    rw [tt_2048]
    have key : ∀ s, s < 12 → 1 ≤ s → 2048 ≤ slot 441688175855591212009213897732522597876826584920912270302646446942322688 s := by decide +kernel
    exact key s (by omega) h1
  · show 4096 ≤ slot (TT 4096) s
    rw [tt_4096]
    have key : ∀ s, s < 13 → 1 ≤ s → 4096 ≤ slot 441688175868446912525708251796508929172613011388466413328577520262447104 s := by decide +kernel
    exact key s (by omega) h1
  · show 8192 ≤ slot (TT 8192) s
    rw [tt_8192]
    have key : ∀ s, s < 14 → 1 ≤ s → 8192 ≤ slot 441689860890825010473684126612924530491102966645101108166219735878336512 s := by decide +kernel
    exact key s (by omega) h1
  · show 16384 ≤ slot (TT 16384) s
    rw [tt_16384]
    have key : ∀ s, s < 15 → 1 ≤ s → 16384 ≤ slot 662549114032879247567548063838620547606518364267822867606704942271692800 s := by decide +kernel
    exact key s (by omega) h1
theorem slot_0 : ∀ s, s < 15 → slot (TT 0) s = 2 ^ s - 1 := by
  rw [tt_0]
  decide +kernel
theorem nx_xor' (a b : Nat) : nI a ^^^ nI b = nI (a ^^^ b) := by
  apply Int32.toBitVec_inj.1
  show BitVec.ofNat 32 a ^^^ BitVec.ofNat 32 b = BitVec.ofNat 32 (a ^^^ b)
  apply BitVec.eq_of_getLsbD_eq
  intro i hi
  simp [hi]
theorem nx_or' (a b : Nat) : nI a ||| nI b = nI (a ||| b) := by
  apply Int32.toBitVec_inj.1
  show BitVec.ofNat 32 a ||| BitVec.ofNat 32 b = BitVec.ofNat 32 (a ||| b)
  apply BitVec.eq_of_getLsbD_eq
  intro i hi
  simp [hi]
theorem nx_neg {a : Nat} (h : a < 4294967296) : - nI a = nI (4294967296 - a) := by
  apply Int32.toBitVec_inj.1
  rw [Int32.toBitVec_neg]
  show - BitVec.ofNat 32 a = BitVec.ofNat 32 (4294967296 - a)
  apply BitVec.eq_of_toNat_eq
  rw [BitVec.toNat_neg, BitVec.toNat_ofNat, BitVec.toNat_ofNat, Nat.mod_eq_of_lt (show a < 2 ^ 32 from h)]
theorem c_nx (N : Nat) {z : Nat} (h0 : 0 < z) (hz : z < 16384) : fX1_nextWithAsManyBits N (nI z) = some (nI (nxW z)) := by
  obtain ⟨-, h2, -, -⟩ := nx_ok1 hz
  have hl := h2 h0
  have hle : nxL z ≤ z := Nat.and_le_left
  have e1 : nI z &&& (- nI z) = nI (nxL z) := by rw [nx_neg (by omega), nx_and']; rfl
  have hx : (z + nxL z) ^^^ z < 2 ^ 15 := Nat.xor_lt_two_pow (by omega) (by omega)
  unfold fX1_nextWithAsManyBits
  rw [e1, if_pos (show (0 : Int32) < nI (nxL z) from nI_lt (a := 0) hl (by omega)), if_pos (nI_ne0 hl (by omega)), nI_add, nx_xor', show ((nI ((z + nxL z) ^^^ z)).toUInt32 >>> ((2 : Int32).toUInt32 &&& Int32.toUInt32 31)).toInt32 = nI (((z + nxL z) ^^^ z) >>> 2) from nx_ush' (j := 2) (by omega) (by omega), nI_div (Nat.lt_of_le_of_lt (by rw [Nat.shiftRight_eq_div_pow]; exact Nat.div_le_self _ _) (show (z + nxL z) ^^^ z < 2 ^ 31 by omega)) (by omega), nx_or']
  rfl
theorem bit_i (z j : Nat) (hz : z < 16384) (hj : j < 14) : ((nI z >>> (nI j &&& 31)) &&& 1) = nI ((z >>> j) % 2) := by
  have e : ((nI j &&& 31).toBitVec.smod 32).toNat = j := by
    have key : ∀ j, j < 14 → ((nI j &&& 31).toBitVec.smod 32).toNat = j := by decide +kernel
    exact key j hj
  have hd : z >>> j ≤ z := by rw [Nat.shiftRight_eq_div_pow]; exact Nat.div_le_self _ _
  have e1 : nI z >>> (nI j &&& 31) = nI (z >>> j) := by
    apply Int32.toInt_inj.mp
    rw [nI_toInt (by omega)]
    rw [← Int32.toInt_toBitVec, Int32.toBitVec_shiftRight, BitVec.toInt_sshiftRight', e, Int32.toInt_toBitVec, nI_toInt (by omega), Int.shiftRight_eq_div_pow, Nat.shiftRight_eq_div_pow]
    rfl
  rw [e1, show (1 : Int32) = nI 1 from rfl, nx_and', Nat.and_one_is_mod]
theorem pow_i : ∀ b, b < 15 → (1 : Int32) <<< (nI b &&& 31) = nI (2 ^ b) ∧ (1 : Int32) <<< (nI b &&& 31) - 1 = nI (2 ^ b - 1) := by decide +kernel
theorem pop_lo {z b : Nat} (hb : b ≤ 14) : spPop (z % 2 ^ b) 14 = spPop z b := by
  have h := spPop_hi (f := z % 2 ^ b) (n := b) (Nat.mod_lt _ (Nat.pow_pos (by omega))) (14 - b)
  rw [show b + (14 - b) = 14 by omega] at h
  rw [h, spPop_mod _ _ _ (Nat.le_refl _)]
theorem pop_14 {z m : Nat} (hz : z < 2 ^ m) (hm : m ≤ 14) : spPop z m = spPop z 14 := by
  have h := spPop_hi hz (14 - m)
  rw [show m + (14 - m) = 14 by omega] at h
  exact h.symm
theorem pow_14 {m : Nat} (hm : m ≤ 14) : 2 ^ m ≤ 16384 := Nat.pow_le_pow_right (by omega) hm
def lsC (s b t : Nat) : Nat → Nat
  | 0 => 0
  | z + 1 => lsC s b t z + if spPop z 14 = s ∧ spPop z b ≤ t then 1 else 0
theorem cl_walk {N m s b t : Nat} (hm : 2 ≤ m) (hm2 : m ≤ 14) (hs : s ≤ m) (h1 : 1 ≤ s) (hb : b ≤ m) (ht : t ≤ 60) : ∀ (d z k c : Nat), 2 ^ m = z + d → d < k → c ≤ z → fX1_listedWithAtMost_b25 N k (nI t) (nI (2 ^ b - 1)) (nI (2 ^ m)) (nI (slot (TT z) s)) (lN (lsC s b t z)) (nI c) = some (lN (lsC s b t (2 ^ m))) := by
  have hp := pow_14 hm2
  intro d
  induction d with
  | zero =>
    intro z k c hd hk hc
    obtain ⟨k, rfl⟩ : ∃ q, k = q + 1 := ⟨k - 1, by omega⟩
    have e : z = 2 ^ m := by omega
    have hsl := slot_end hm hm2 hs h1
    have h65 : slot (TT (2 ^ m)) s < 65536 := Nat.mod_lt _ (by omega)
    rw [e, fX1_listedWithAtMost_b25]
    by_cases q : nI (2 ^ m) ≤ nI c
    · rw [if_pos q]
    · rw [if_neg q, if_pos (nI_le hsl (by omega))]
  | succ d ih =>
    intro z k c hd hk hc
    have hz : z < 16384 := by omega
    by_cases q : spPop z 14 = s
    · obtain ⟨k, rfl⟩ : ∃ q, k = q + 1 := ⟨k - 1, by omega⟩
      have hz0 : 0 < z := by
        rcases Nat.eq_zero_or_pos z with r | r
        · rw [r] at q
          have : spPop 0 14 = 0 := by decide +kernel
          omega
        · exact r
      have hslz : slot (TT z) s = z := by rw [← q]; exact (nx_ok1 hz).1
      have hsln : slot (TT (z + 1)) s = nxW z := by rw [slot_next hz, if_pos q.symm]
      have hih := ih (z + 1) k (c + 1) (by omega) (by omega) (by omega)
      rw [hsln] at hih
      have hpb : spPop z b ≤ 14 := Nat.le_trans (spPop_le z b) (by omega)
      rw [hslz, fX1_listedWithAtMost_b25, if_neg (nI_ge (by omega) (by omega)), if_neg (nI_ge (by omega) (by omega)), nx_and', Nat.and_two_pow_sub_one_eq_mod, j6 (Nat.lt_of_le_of_lt (Nat.mod_le _ _) hz), Option.bind_some, pop_lo (by omega)]
      unfold fX1_listedWithAtMost_b57
      rw [c_nx N hz0 hz, Option.bind_some, nI_1]
      simp only [nI_ltI (show t < 2 ^ 31 by omega) (show spPop z b < 2 ^ 31 by omega)]
      rw [show lsC s b t (z + 1) = lsC s b t z + if spPop z 14 = s ∧ spPop z b ≤ t then 1 else 0 from rfl] at hih
      by_cases r : t < spPop z b
      · rw [if_pos r]
        rw [if_neg (by omega), Nat.add_zero] at hih
        exact hih
      · rw [if_neg r, lN_1]
        rw [if_pos ⟨q, by omega⟩] at hih
        exact hih
    · have hih := ih (z + 1) k c (by omega) (by omega) (by omega)
      have hsln : slot (TT (z + 1)) s = slot (TT z) s := by rw [slot_next hz, if_neg (fun e => q e.symm)]
      rw [hsln] at hih
      rw [show lsC s b t (z + 1) = lsC s b t z + if spPop z 14 = s ∧ spPop z b ≤ t then 1 else 0 from rfl] at hih
      rw [if_neg (fun e => q e.1), Nat.add_zero] at hih
      exact hih
