/-! ===== pure part: numbers of the reference beside the class's ===== -/
theorem sh_k : ∀ j, j < 16 → (((nI j) &&& 31 : Int32).toBitVec.smod 32).toNat = j := by decide +kernel
theorem sh_r {q j : Nat} (hq : q < 2 ^ 31) (hj : j < 16) : nI q >>> (nI j &&& 31) = nI (q / 2 ^ j) := pk_shrN hq _ j (sh_k j hj)
theorem sh_1 : ∀ j, j < 16 → (1 : Int32) <<< (nI j &&& 31) = nI (2 ^ j) := by decide +kernel
theorem an_1 (a : Nat) : nI a &&& 1 = nI (a % 2) := by
  apply Int32.toBitVec_inj.1
  show BitVec.ofNat 32 a &&& BitVec.ofNat 32 1 = BitVec.ofNat 32 (a % 2)
  apply BitVec.eq_of_toNat_eq
  rw [BitVec.toNat_and, BitVec.toNat_ofNat, BitVec.toNat_ofNat, BitVec.toNat_ofNat]
  have h1 : 1 % 2 ^ 32 = 2 ^ 1 - 1 := by decide
  rw [h1, Nat.and_two_pow_sub_one_eq_mod]
  omega
theorem an_15 (a : Nat) : nI a &&& 15 = nI (a % 16) := by
  apply Int32.toBitVec_inj.1
  show BitVec.ofNat 32 a &&& BitVec.ofNat 32 15 = BitVec.ofNat 32 (a % 16)
  apply BitVec.eq_of_toNat_eq
  rw [BitVec.toNat_and, BitVec.toNat_ofNat, BitVec.toNat_ofNat, BitVec.toNat_ofNat]
  have h1 : 15 % 2 ^ 32 = 2 ^ 4 - 1 := by decide
  rw [h1, Nat.and_two_pow_sub_one_eq_mod]
  omega
set_option maxRecDepth 100000 in
theorem bo_16 : ∀ q, q < 16 → 1 ≤ q → fn_X9_bitsOf (nI q) = fn_X8_bitsOf (nI q) := by decide +kernel
theorem bo_c {q k : Nat} (h1 : 2 ^ k ≤ q) (h2 : q < 2 ^ (k + 1)) (hk : k < 16) (kk : Int32 → Int32 → Option Int32) : ∀ (m j n : Nat), j = k + m → j < 16 → fl_X8_bitsOf_6 kk (n + j + 1) (nI q) (nI j) (nI j) = kk (nI q) (nI k) := by
  have hq : q < 2 ^ 31 := Nat.lt_of_lt_of_le h2 (Nat.pow_le_pow_right (by decide) (by omega))
  intro m
  induction m with
  | zero =>
    intro j n hj hj2
    obtain rfl : j = k := by omega
    rw [fl_X8_bitsOf_6]
    by_cases h0 : j = 0
    · subst h0
      rw [if_pos (by rw [nI_0]; exact Int32.le_refl _)]
    · have h3 : 0 < q / 2 ^ j := Nat.div_pos h1 (Nat.two_pow_pos j)
      have h4 : q / 2 ^ j ≤ q := Nat.div_le_self _ _
      rw [if_neg (nI_nle (by omega) (by omega)), sh_r hq hj2, if_neg (nI_ne0 h3 (by omega))]
  | succ m ih =>
    intro j n hj hj2
    obtain ⟨i, rfl⟩ : ∃ i, j = i + 1 := ⟨j - 1, by omega⟩
    have h3 : q / 2 ^ (i + 1) = 0 := Nat.div_eq_of_lt (Nat.lt_of_lt_of_le h2 (Nat.pow_le_pow_right (by decide) (by omega)))
    rw [show n + (i + 1) + 1 = n + i + 1 + 1 by omega, fl_X8_bitsOf_6, if_neg (nI_nle (by omega) (by omega)), sh_r hq hj2, h3, if_pos nI_0, lt_v, lt_v, na_m1, nI_pred]
    exact ih i n (by omega) (by omega)
theorem bo_m {q k : Nat} (h1 : 2 ^ k ≤ q) (h2 : q < 2 ^ (k + 1)) (hk : k < 16) (kk : Int32 → Int32 → Option Int32) : ∀ (m j n : Nat), j = k + m → j < 16 → fl_X9_bitsOf_3 kk (n + j + 1) (nI q) (nI j) = kk (nI q) (nI k) := by
  have hq : q < 2 ^ 31 := Nat.lt_of_lt_of_le h2 (Nat.pow_le_pow_right (by decide) (by omega))
  intro m
  induction m with
  | zero =>
    intro j n hj hj2
    obtain rfl : j = k := by omega
    have h3 : q / 2 ^ j = 1 := by
      apply Nat.div_eq_of_lt_le
      · omega
      · rw [Nat.pow_succ] at h2; omega
    rw [fl_X9_bitsOf_3, sh_r hq hj2, h3, an_1, if_neg (by decide +kernel)]
  | succ m ih =>
    intro j n hj hj2
    obtain ⟨i, rfl⟩ : ∃ i, j = i + 1 := ⟨j - 1, by omega⟩
    have h3 : q / 2 ^ (i + 1) = 0 := Nat.div_eq_of_lt (Nat.lt_of_lt_of_le h2 (Nat.pow_le_pow_right (by decide) (by omega)))
    rw [show n + (i + 1) + 1 = n + i + 1 + 1 by omega, fl_X9_bitsOf_3, sh_r hq hj2, h3, an_1, if_pos nI_0, lt_v, na_m1]
    exact ih i n (by omega) (by omega)
theorem bm_e {q : Nat} (h1 : 1 ≤ q) (h2 : q < 65536) : fn_X9_bitsOf (nI q) = some (bt_ (nI q)) := by
  rw [← bt_e]
  by_cases h16 : q < 16
  · exact bo_16 q h16 h1
  · obtain ⟨k, hk1, hk2⟩ : ∃ k, 2 ^ k ≤ q ∧ q < 2 ^ (k + 1) := ⟨q.log2, Nat.log2_self_le (by omega), Nat.lt_log2_self⟩
    have hk : k < 16 := by
      apply Nat.lt_of_not_le
      intro h
      have := Nat.pow_le_pow_right (n := 2) (by decide) h
      omega
    have hk4 : 4 ≤ k := by
      apply Nat.le_of_not_lt
      intro h
      have := Nat.pow_le_pow_right (n := 2) (by decide) (show k + 1 ≤ 4 by omega)
      omega
    have hq : q < 2 ^ 31 := by omega
    unfold fn_X9_bitsOf fn_X8_bitsOf
    rw [show fu_ = 4984 + 15 + 1 from rfl, show (15 : Int32) = nI 15 from rfl, bo_m hk1 hk2 hk _ (15 - k) 15 4984 (by omega) (by decide), bo_c hk1 hk2 hk _ (15 - k) 15 4984 (by omega) (by decide), lt_v]
    unfold fn_X8_bitsOf_26 fn_X8_bitsOf_44 fn_X9_bitsOf_41
    have e4 : ¬ nI k < (4 : Int32) := nI_nlt (b := 4) hk4 (by omega)
    have e5 : nI k - (4 : Int32) = nI (k - 4) := pk_sub (b := 4) hk4
    rw [if_neg e4, if_neg e4, sh_1 k hk, pk_sub hk1, e5, sh_r (by omega) (by omega), sh_r (by omega) (by omega), an_15]
    have e6 : q / 2 ^ (k - 4) % 16 = (q - 2 ^ k) / 2 ^ (k - 4) := by
      have p1 : 2 ^ k = 2 ^ (k - 4) * 16 := by
        rw [show (16 : Nat) = 2 ^ 4 from rfl, ← Nat.pow_add, Nat.sub_add_cancel hk4]
      have p2 : 0 < 2 ^ (k - 4) := Nat.two_pow_pos _
      have p3 : q = (q - 2 ^ k) + 2 ^ (k - 4) * 16 := by omega
      have p4 : (q - 2 ^ k) / 2 ^ (k - 4) < 16 := by
        rw [Nat.div_lt_iff_lt_mul p2]
        rw [Nat.pow_succ] at hk2
        rw [Nat.mul_comm 16]
        omega
      have p5 : q / 2 ^ (k - 4) = (q - 2 ^ k) / 2 ^ (k - 4) + 16 := by
        conv => lhs; rw [p3]
        rw [Nat.add_mul_div_left _ _ p2]
      rw [p5, Nat.add_mod_right, Nat.mod_eq_of_lt p4]
    rw [e6]
-- held, odds, nodeOf
theorem he_e (x : Int64) : fn_X9_held x = some (kp_ x 1 65535) := by
  have a1 : (1 : Int32).toInt64 = 1 := by decide +kernel
  have a2 : (65535 : Int32).toInt64 = 65535 := by decide +kernel
  unfold fn_X9_held kp_
  rw [a1, a2]
  split
  · split <;> rfl
  · rfl
theorem od_e (s q : Int32) : fn_X9_odds q s = some (of_ s q) := by
  unfold fn_X9_odds of_
  split <;> rfl
theorem sh_1m : ∀ j, j < 8 → (1 : Int32) <<< (nI j &&& 31) - 1 = nI (2 ^ j - 1) := by decide +kernel
theorem nme_ {l b : Nat} (hl : l < 8) : fn_X9_nodeOf (nI l) (nI b) = some (nI (2 ^ l - 1 + b)) := by
  unfold fn_X9_nodeOf
  rw [sh_1m l hl, nI_add]
-- counts' bounds
def cn_ (x : Int32) : Prop := ∃ a : Nat, a ≤ 60 ∧ x = nI a
def wn_ (x : Int32) : Prop := ∃ a : Nat, 64 ≤ a ∧ a ≤ 65472 ∧ x = nI a
def un_ (x : Int32) : Prop := ∃ a : Nat, 1 ≤ a ∧ a ≤ 65535 ∧ x = nI a
theorem nt_of {x : Int32} {lo hi : Nat} (hh : hi < 2 ^ 31) (hlo : lo ≤ hi) (h1 : nI lo ≤ x) (h2 : x ≤ nI hi) : ∃ a, lo ≤ a ∧ a ≤ hi ∧ x = nI a := by
  rw [Int32.le_iff_toInt_le, nI_toInt (by omega)] at h1
  rw [Int32.le_iff_toInt_le, nI_toInt hh] at h2
  refine ⟨x.toInt.toNat, by omega, by omega, ?_⟩
  apply Int32.toInt_inj.mp
  rw [nI_toInt (by omega)]
  omega
