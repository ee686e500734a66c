/-! ===== pure part: numbers, small functions ===== -/
theorem na_m1 (l : Nat) : nI (l + 1) + (-1 : Int32) = nI l := by
  have h : (-1 : Int32) = nI 4294967295 := by decide +kernel
  rw [h, nI_add, show l + 1 + 4294967295 = l + 4294967296 by omega]
  show Int32.ofNat (l + 4294967296) = Int32.ofNat l
  apply Int32.toBitVec_inj.1
  apply BitVec.eq_of_toNat_eq
  show (BitVec.ofNat 32 (l + 4294967296)).toNat = (BitVec.ofNat 32 l).toNat
  rw [BitVec.toNat_ofNat, BitVec.toNat_ofNat]
  omega
theorem na_0m : (nI 0 + (-1 : Int32)) < 0 := by decide +kernel
theorem na_ix {i n : Nat} (h : i < n) (hn : n < 2 ^ 31) : ix_ (nI i) n := nI_in h hn
theorem na_cl {i : Nat} (h : i < 1000) : (nI i).toNatClampNeg = i := nI_clamp (by omega)
-- kept, quotient, nodeOf
def kp_ (x : Int64) (a b : Int32) : Int32 := if a.toInt64 ≤ x then if x ≤ b.toInt64 then x.toInt32 else b else a
theorem kp_e (x : Int64) (a b : Int32) : fn_X8_kept x a b = some (kp_ x a b) := by
  unfold fn_X8_kept kp_
  split
  · split <;> rfl
  · rfl
def qt_ (x y : Int64) : Int64 := if (1 : Int64) ≤ y then x / y else 0
theorem qt_e (x y : Int64) : fn_X8_quotient x y = some (qt_ x y) := by
  unfold fn_X8_quotient qt_
  split
  · rename_i h
    have h0 : ¬ y = 0 := by
      intro e
      subst e
      exact absurd h (by decide)
    unfold gd_
    rw [if_pos h0]
  · rfl
def vN (l h : Nat) : Nat := 2 ^ l + h % 2 ^ l
theorem vN_lt {l h : Nat} : vN l h < 2 ^ (l + 1) := by
  unfold vN
  have := Nat.mod_lt h (Nat.two_pow_pos l)
  rw [Nat.pow_succ]
  omega
theorem vN_ge {l h : Nat} : 2 ^ l ≤ vN l h := Nat.le_add_right _ _
theorem vN_128 {l h : Nat} (hl : l ≤ 6) : vN l h < 128 := Nat.lt_of_lt_of_le vN_lt (Nat.pow_le_pow_right (by decide) (by omega : l + 1 ≤ 7))
set_option maxRecDepth 100000 in
theorem nd_e0 : ∀ l, l < 7 → ∀ h, h < 64 → fn_X8_nodeOf (nI l) (nI h) = some (nI (2 ^ l + h % 2 ^ l)) := by decide +kernel
theorem nd_e {l h : Nat} (hl : l ≤ 6) (hh : h < 64) : fn_X8_nodeOf (nI l) (nI h) = some (nI (vN l h)) := nd_e0 l (by omega) h hh
theorem kp_6 : ∀ d, d < 7 → kp_ (nI d).toInt64 0 6 = nI d := by decide +kernel
theorem kp_3 : ∀ d, d < 4 → kp_ (nI d).toInt64 0 3 = nI d := by decide +kernel
theorem kp_100 : ∀ d, d < 101 → kp_ (nI d).toInt64 0 100 = nI d := by decide +kernel
-- opinion
def op_ (g a b : Int32) : Int32 :=
  if g = 1 then kp_ (qt_ (65536 * (b + 1).toInt64) ((a + b) + 2).toInt64) 1 65535
  else if g = 2 then kp_ (qt_ (65536 * (4 * b + 1).toInt64) ((4 * a + 4 * b) + 2).toInt64) 1 65535
  else if g = 3 then kp_ (qt_ (65536 * (2 * (b / 2) + 1).toInt64) ((2 * (a / 2) + 2 * (b / 2)) + 2).toInt64) 1 65535
  else kp_ (qt_ (65536 * (2 * b + 1).toInt64) ((2 * a + 2 * b) + 2).toInt64) 1 65535
theorem op_e (g a b : Int32) : fn_X8_opinion g a b = some (op_ g a b) := by
  unfold fn_X8_opinion op_ lt_ fn_X8_opinion_97
  simp only [qt_e, kp_e, bd_, Option.bind_some]
  split
  · rfl
  · split
    · rfl
    · split <;> rfl
def of_ (s q : Int32) : Int32 := if s = 1 then q else 65536 - q
theorem of_e (s q : Int32) : fn_X8_ofSign s q = some (of_ s q) := by
  unfold fn_X8_ofSign of_
  split <;> rfl
theorem kp_r (x : Int64) {a b : Int32} (hab : a ≤ b) : a ≤ kp_ x a b ∧ kp_ x a b ≤ b := by
  unfold kp_
  split
  · rename_i h1
    split
    · rename_i h2
      rw [Int64.le_iff_toInt_le, Int32.toInt_toInt64] at h1 h2
      have e : x.toInt32.toInt = x.toInt := by
        have h3 := Int32.le_toInt a
        have h4 := Int32.toInt_lt b
        rw [Int64.toInt_toInt32]
        exact Int.bmod_eq_of_le (by omega) (by omega)
      rw [Int32.le_iff_toInt_le, Int32.le_iff_toInt_le, e]
      exact ⟨h1, h2⟩
    · exact ⟨hab, Int32.le_refl _⟩
  · exact ⟨Int32.le_refl _, hab⟩
