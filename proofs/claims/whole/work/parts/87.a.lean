/-! ===== pure part: the row written ===== -/
def vl_ (b : Nat → Nat) : Nat → Nat
  | 0 => 0
  | n + 1 => vl_ b n * 256 + b n
def ub_ (b : Nat → Nat) (k x : Nat) : Nat → Nat := fun i => if i = k then x else b i
theorem ub_s (b : Nat → Nat) (k x : Nat) : ub_ b k x k = x := if_pos rfl
theorem ub_n {b : Nat → Nat} {k x i : Nat} (h : i ≠ k) : ub_ b k x i = b i := if_neg h
theorem vl_c {b c : Nat → Nat} : ∀ n, (∀ i, i < n → b i = c i) → vl_ b n = vl_ c n := by
  intro n
  induction n with
  | zero => intro _; rfl
  | succ n ih => intro h; rw [vl_, vl_, ih (fun i hi => h i (by omega)), h n (by omega)]
theorem vl_u {b : Nat → Nat} {n x : Nat} : vl_ (ub_ b n x) n = vl_ b n := vl_c n (fun i hi => ub_n (by omega))
theorem n_m1 (n : Nat) : nI n - (1 : Int32) = nI n + (-1 : Int32) := by rw [Int32.sub_eq_add_neg]
theorem by_1 : ∀ x, x < 255 → (nI x + 1) &&& 255 = nI (x + 1) := by decide +kernel
theorem by_2 : (nI 255 + 1) &&& 255 = (0 : Int32) := by decide +kernel
theorem by_3 : ∀ x, x < 512 → (lN x &&& 255).toInt32 = nI (x % 256) := by decide +kernel
/-- the bytes of both -/
def BB (b : Nat → Nat) (N : Nat) (w o : Nat → Int32) : Prop := ∀ i, i < N → b i < 256 ∧ w i = nI (b i) ∧ o i = nI (b i)
theorem BB_u {b : Nat → Nat} {N k x : Nat} {w o : Nat → Int32} (h : BB b N w o) (hx : x < 256) : BB (ub_ b k x) N (upd w k (nI x)) (upd o k (nI x)) := by
  intro i hi
  by_cases hk : i = k
  · subst hk
    rw [ub_s, pk_us, pk_us]
    exact ⟨hx, rfl, rfl⟩
  · rw [ub_n hk, pk_un hk, pk_un hk]
    exact h i hi
/-- what the writing leaves of the reference -/
def fw_ (A B : tt_Model) : Prop := sameP A B ∧ gf_Model_guessAt A = gf_Model_guessAt B
theorem fw_rf (A : tt_Model) : fw_ A A := ⟨⟨rfl, rfl, rfl, rfl, rfl, rfl⟩, rfl⟩
theorem fw_tr {A B C : tt_Model} (h : fw_ A B) (k : fw_ B C) : fw_ A C := by
  obtain ⟨⟨a, b, c, d, e, f⟩, g⟩ := h
  obtain ⟨⟨a1, b1, c1, d1, e1, f1⟩, g1⟩ := k
  exact ⟨⟨a.trans a1, b.trans b1, c.trans c1, d.trans d1, e.trans e1, f.trans f1⟩, g.trans g1⟩
theorem wo_p (Y : tt_Model) (v : Nat → Int32) : fw_ (sf_Model_out Y v) Y ∧ gf_Model_out (sf_Model_out Y v) = v ∧ gf_Model_outLong (sf_Model_out Y v) = gf_Model_outLong Y ∧ gf_Model_low (sf_Model_out Y v) = gf_Model_low Y := ⟨⟨⟨rfl, rfl, rfl, rfl, rfl, rfl⟩, rfl⟩, rfl, rfl, rfl⟩
theorem wn_p (Y : tt_Model) (v : Int32) : fw_ (sf_Model_outLong Y v) Y ∧ gf_Model_out (sf_Model_outLong Y v) = gf_Model_out Y ∧ gf_Model_outLong (sf_Model_outLong Y v) = v ∧ gf_Model_low (sf_Model_outLong Y v) = gf_Model_low Y := ⟨⟨⟨rfl, rfl, rfl, rfl, rfl, rfl⟩, rfl⟩, rfl, rfl, rfl⟩
theorem wl_p (Y : tt_Model) (v : Int64) : fw_ (sf_Model_low Y v) Y ∧ gf_Model_out (sf_Model_low Y v) = gf_Model_out Y ∧ gf_Model_outLong (sf_Model_low Y v) = gf_Model_outLong Y ∧ gf_Model_low (sf_Model_low Y v) = v := ⟨⟨⟨rfl, rfl, rfl, rfl, rfl, rfl⟩, rfl⟩, rfl, rfl, rfl⟩
theorem cy_l {N : Nat} (k : tt_Writing → Option tt_Writing) (k' : tt_Model → Int64 → Int32 → Option tt_Model) (x1 : Int64) : ∀ (n f : Nat) (b : Nat → Nat) (W : tt_Writing) (Y : tt_Model), n ≤ 204 → n ≤ N → BB b N (gf_Writing_bytes W) (gf_Model_out Y) → vl_ b n + 1 < 256 ^ n → ∃ b' v Y1 j, fl_X7_carry_7 k (f + n + 1) W (nI n + (-1 : Int32)) = k (sf_Writing_bytes W v) ∧ fl_X9_goesOut_24 k' (f + n + 1) Y x1 (nI n + (-1 : Int32)) = k' Y1 x1 (nI j) ∧ j < n ∧ fw_ Y1 Y ∧ gf_Model_outLong Y1 = gf_Model_outLong Y ∧ gf_Model_low Y1 = gf_Model_low Y ∧ BB b' N v (upd (gf_Model_out Y1) j (gf_Model_out Y1 j + 1)) ∧ vl_ b' n = vl_ b n + 1 ∧ ∀ i, n ≤ i → b' i = b i := by
  intro n
  induction n with
  | zero =>
    intro f b W Y _ _ _ h
    exact absurd h (show ¬ 0 + 1 < 1 by decide)
  | succ n ih =>
    intro f b W Y h1 h2 hB hv
    have hx : ix_ (nI n) 204 := na_ix (by omega) (by decide)
    have hx' : ix_ (nI n) 256 := na_ix (by omega) (by decide)
    have cn : (nI n).toNatClampNeg = n := na_cl (by omega)
    obtain ⟨b1, b2, b3⟩ := hB n (by omega)
    rw [show f + (n + 1) + 1 = f + n + 1 + 1 by omega, fl_X7_carry_7, fl_X9_goesOut_24, na_m1, if_neg (nI_pos (by omega)), gd_p hx, lt_v, gd_p hx, lt_v, gd_p hx, gd_p hx', gd_p hx', lt_v]
    simp only [cn, b2, b3]
    have e0 : ∀ v : Int32, gf_Writing_bytes (sf_Writing_bytes W (upd (gf_Writing_bytes W) n v)) n = v := fun v => pk_us
    rw [e0]
    by_cases h5 : b n = 255
    · rw [h5, by_2, if_pos rfl, lt_v, if_pos (show nI 255 = (255 : Int32) from rfl), lt_v, ← nI_0]
      have hB1 : BB (ub_ b n 0) N (upd (gf_Writing_bytes W) n (nI 0)) (upd (gf_Model_out Y) n (nI 0)) := BB_u hB (by decide)
      have ev : vl_ (ub_ b n 0) n = vl_ b n := vl_c n (fun i hi => ub_n (by omega))
      rw [vl_, h5, Nat.pow_succ] at hv
      obtain ⟨u1, u2, u3, u4⟩ := wo_p Y (upd (gf_Model_out Y) n (nI 0))
      obtain ⟨b', v, Y1, j, a1, a2, a3, a4, a5, a6, a7, a8, a9⟩ := ih f (ub_ b n 0) (sf_Writing_bytes W (upd (gf_Writing_bytes W) n (nI 0))) (sf_Model_out Y (upd (gf_Model_out Y) n (nI 0))) (by omega) (by omega) (by rw [u2]; exact hB1) (by rw [ev]; omega)
      refine ⟨b', v, Y1, j, a1, a2, by omega, fw_tr a4 u1, a5.trans u3, a6.trans u4, a7, ?_, fun i hi => ?_⟩
      · rw [vl_, a8, ev, a9 n (Nat.le_refl n), ub_s, vl_, h5]
        omega
      · rw [a9 i (by omega), ub_n (by omega)]
    · have h6 : b n < 255 := by omega
      rw [by_1 (b n) h6, if_neg (nI_ne0 (by omega) (by omega)), if_neg (show ¬ nI (b n) = (255 : Int32) from fun e => h5 ((nI_eq (b := 255) (by omega) (by decide)).mp e))]
      refine ⟨ub_ b n (b n + 1), upd (gf_Writing_bytes W) n (nI (b n + 1)), Y, n, rfl, rfl, by omega, fw_rf Y, rfl, rfl, ?_, ?_, fun i hi => ub_n (by omega)⟩
      · rw [b3, show nI (b n) + (1 : Int32) = nI (b n + 1) from nI_1 _]
        exact BB_u hB (by omega)
      · rw [vl_, vl_, ub_s, vl_u]
        omega
/-- where the writing stands -/
def WS (b : Nat → Nat) (n L : Nat) (W : tt_Writing) (Y : tt_Model) : Prop := gf_Writing_length W = nI n ∧ gf_Model_outLong Y = nI n ∧ gf_Writing_low W = lN L ∧ gf_Model_low Y = lN L ∧ BB b n (gf_Writing_bytes W) (gf_Model_out Y)
theorem wi_203 : ∀ n, n ≤ 203 → fn_X8_within (nI n) 0 203 = some 1 := by decide +kernel
theorem s21_e {b : Nat → Nat} {n L : Nat} {W : tt_Writing} {Y : tt_Model} {x : Nat} (hn : n ≤ 203) (hL : L < 2 ^ 33) (hx : x < 512) (hW : WS b n L W Y) : ∃ W1 Y1, fn_X7_sendByte_21 W (lN x) = some W1 ∧ fn_X9_goesOut_59 Y (lN x) = some Y1 ∧ WS (ub_ b n (x % 256)) (n + 1) (L % 2 ^ 24 * 256) W1 Y1 ∧ gf_Writing_range W1 = gf_Writing_range W ∧ fw_ Y1 Y := by
  obtain ⟨w1, w2, w3, w4, w5⟩ := hW
  have e1 : (lN x - lN x / (256 : Int64) * (256 : Int64)).toInt32 = nI (x % 256) := by rw [show (256 : Int64) = lN 256 from rfl, pk_lRem (by omega) (by decide) (by decide), lN_i]
  have e2 : (lN L - lN L / (16777216 : Int64) * (16777216 : Int64)) * (256 : Int64) = lN (L % 2 ^ 24 * 256) := by rw [show (256 : Int64) = lN 256 from rfl, show (16777216 : Int64) = lN 16777216 from rfl, pk_lRem (by omega) (by decide) (by decide), lN_mul]
  have cl : ∃ W1, fn_X7_sendByte_21 W (lN x) = some W1 ∧ gf_Writing_length W1 = nI (n + 1) ∧ gf_Writing_low W1 = lN (L % 2 ^ 24 * 256) ∧ gf_Writing_range W1 = gf_Writing_range W ∧ gf_Writing_bytes W1 = upd (gf_Writing_bytes W) n (nI (x % 256)) := by
    unfold fn_X7_sendByte_21 fn_X7_sendByte_60
    rw [w1, wi_203 n hn, bd_s, if_neg n10_, lt_v, gd_p (na_ix (show n < 204 by omega) (by decide)), na_cl (by omega), by_3 x hx, lt_v]
    generalize hA : sf_Writing_bytes W _ = A
    have a1 : gf_Writing_length A = nI n ∧ gf_Writing_low A = lN L ∧ gf_Writing_range A = gf_Writing_range W ∧ gf_Writing_bytes A = upd (gf_Writing_bytes W) n (nI (x % 256)) := by subst hA; exact ⟨w1, w3, rfl, rfl⟩
    obtain ⟨a1, a2, a3, a4⟩ := a1
    rw [lt_v, lt_v, a1, show nI n + (1 : Int32) = nI (n + 1) from nI_1 n]
    have a5 : gf_Writing_low (sf_Writing_length A (nI (n + 1))) = lN L := a2
    rw [a5, e2, lt_v, lt_v]
    exact ⟨_, rfl, rfl, rfl, a3, a4⟩
  have rf : ∃ Y1, fn_X9_goesOut_59 Y (lN x) = some Y1 ∧ gf_Model_outLong Y1 = nI (n + 1) ∧ gf_Model_low Y1 = lN (L % 2 ^ 24 * 256) ∧ gf_Model_out Y1 = upd (gf_Model_out Y) n (nI (x % 256)) ∧ fw_ Y1 Y := by
    unfold fn_X9_goesOut_59
    rw [lt_v, w2, gd_p (na_ix (show n < 256 by omega) (by decide)), na_cl (by omega), e1, lt_v]
    obtain ⟨u1, u2, u3, u4⟩ := wo_p Y (upd (gf_Model_out Y) n (nI (x % 256)))
    generalize sf_Model_out Y _ = Y0 at u1 u2 u3 u4 ⊢
    rw [lt_v, lt_v, u3, w2, show nI n + (1 : Int32) = nI (n + 1) from nI_1 n]
    obtain ⟨v1, v2, v3, v4⟩ := wn_p Y0 (nI (n + 1))
    generalize sf_Model_outLong Y0 _ = Y2 at v1 v2 v3 v4 ⊢
    rw [v4, u4, w4, e2, lt_v, lt_v]
    obtain ⟨z1, z2, z3, z4⟩ := wl_p Y2 (lN (L % 2 ^ 24 * 256))
    exact ⟨_, rfl, z3.trans v3, z4, z2.trans (v2.trans u2), fw_tr z1 (fw_tr v1 u1)⟩
  obtain ⟨W1, c1, c2, c3, c4, c5⟩ := cl
  obtain ⟨Y1, r1, r2, r3, r4, r5⟩ := rf
  refine ⟨W1, Y1, c1, r1, ⟨c2, r2, c3, r3, ?_⟩, c4, r5⟩
  rw [c5, r4]
  intro i hi
  by_cases hin : i = n
  · subst hin
    rw [ub_s, pk_us, pk_us]
    exact ⟨Nat.mod_lt _ (by decide), rfl, rfl⟩
  · rw [ub_n hin, pk_un hin, pk_un hin]
    exact w5 i (by omega)
theorem sb_e {b : Nat → Nat} {n L : Nat} {W : tt_Writing} {Y : tt_Model} (hn : n ≤ 203) (hL : L < 2 ^ 33) (hv : vl_ b n * 2 ^ 32 + L < 2 ^ 32 * 256 ^ n) (hW : WS b n L W Y) : ∃ b' W1 Y1, fn_X7_sendByte W = some W1 ∧ fn_X9_goesOut Y = some Y1 ∧ WS b' (n + 1) (L % 2 ^ 24 * 256) W1 Y1 ∧ gf_Writing_range W1 = gf_Writing_range W ∧ fw_ Y1 Y ∧ vl_ b' (n + 1) * 2 ^ 32 + L % 2 ^ 24 * 256 = 256 * (vl_ b n * 2 ^ 32 + L) := by
  have hx : L / 2 ^ 24 < 512 := by omega
  have e1 : lN L / (16777216 : Int64) = lN (L / 2 ^ 24) := by rw [show (16777216 : Int64) = lN 16777216 from rfl, pk_lDiv (by omega) (by decide) (by decide)]
  unfold fn_X7_sendByte fn_X9_goesOut
  rw [lt_v, lt_v, hW.2.2.1, hW.2.2.2.1, e1]
  by_cases hc : L / 2 ^ 24 ≤ 255
  · have hc1 : lN (L / 2 ^ 24) ≤ (255 : Int64) := (pk_lLE (b := 255) (by omega) (by decide)).mpr hc
    rw [if_pos hc1, if_pos hc1]
    obtain ⟨W1, Y1, a1, a2, a3, a4, a5⟩ := s21_e hn hL hx hW
    refine ⟨_, W1, Y1, a1, a2, a3, a4, a5, ?_⟩
    rw [vl_, ub_s, vl_u]
    omega
  · have hc1 : ¬ lN (L / 2 ^ 24) ≤ (255 : Int64) := fun h => hc ((pk_lLE (b := 255) (by omega) (by decide)).mp h)
    rw [if_neg hc1, if_neg hc1, hW.2.1, n_m1, lt_v]
    have hv1 : vl_ b n + 1 < 256 ^ n := by omega
    obtain ⟨b', v, Y1, j, a1, a2, a3, a4, a5, a6, a7, a8, a9⟩ := cy_l (N := n) (fun (S : tt_Writing) => some S) (fun (S0_e49_16 : tt_Model) (x1_e49_16 : Int64) (x3_e49_16 : Int32) => gd_ (ix_ x3_e49_16 256) (lt_ (((gf_Model_out S0_e49_16) x3_e49_16.toNatClampNeg) + (1 : Int32)) fun y_18 => gd_ (ix_ x3_e49_16 256) (lt_ (sf_Model_out S0_e49_16 (upd (gf_Model_out S0_e49_16) x3_e49_16.toNatClampNeg y_18)) fun S_20 => fn_X9_goesOut_59 S_20 x1_e49_16))) (lN (L / 2 ^ 24)) n (4999 - n) b W Y (by omega) (Nat.le_refl n) hW.2.2.2.2 hv1
    rw [show 4999 - n + n + 1 = fu_ by unfold fu_; omega] at a1 a2
    unfold fn_X7_carry
    rw [lt_v, hW.1, n_m1, a1, bd_s, a2, gd_p (na_ix (show j < 256 by omega) (by decide)), lt_v, gd_p (na_ix (show j < 256 by omega) (by decide)), lt_v, na_cl (by omega)]
    obtain ⟨u1, u2, u3, u4⟩ := wo_p Y1 (upd (gf_Model_out Y1) j (gf_Model_out Y1 j + 1))
    generalize sf_Model_out Y1 _ = Y0 at u1 u2 u3 u4 ⊢
    obtain ⟨W1, Y2, c1, c2, c3, c4, c5⟩ := s21_e (b := b') (W := sf_Writing_bytes W v) (Y := Y0) hn hL hx ⟨hW.1, by rw [u3, a5]; exact hW.2.1, hW.2.2.1, by rw [u4, a6]; exact hW.2.2.2.1, by rw [u2]; exact a7⟩
    refine ⟨_, W1, Y2, c1, c2, c3, c4, fw_tr c5 (fw_tr u1 a4), ?_⟩
    rw [vl_, ub_s, vl_u, a8]
    omega
