/-! ===== pure part: reads ===== -/
def BQ (n : Nat) (W : tt_Writing) (Y : tt_Model) : Prop := gf_Writing_length W = nI n ∧ gf_Model_outLong Y = nI n ∧ ∀ i, i < n → gf_Writing_bytes W i = gf_Model_out Y i
theorem BQ_y {n : Nat} {W : tt_Writing} {Y Y1 : tt_Model} (h : BQ n W Y) (hr : rs_ Y1 = rs_ Y) : BQ n W Y1 := by
  obtain ⟨a, b, c⟩ := rs_w hr
  exact ⟨h.1, by rw [b]; exact h.2.1, fun i hi => by rw [a]; exact h.2.2 i hi⟩
theorem bq_e {W : tt_Writing} {n k : Nat} {Y : tt_Model} (hn : n ≤ 204) (hk : k < 1000) (hW : BQ n W Y) : ∃ v, fn_X7_byteAt W (nI k) = some v ∧ fn_X9_byteAt Y (nI k) = some v := by
  have ck : (nI k).toNatClampNeg = k := na_cl (by omega)
  unfold fn_X7_byteAt fn_X9_byteAt
  rw [hW.1, hW.2.1]
  by_cases h : k < n
  · rw [if_neg (nI_ge h (by omega)), gd_p (na_ix (show k < 256 by omega) (by decide))]
    simp only [ck]
    have hw : fn_X8_within (nI k) 0 (nI n - 1) = some 1 := by
      obtain ⟨m, rfl⟩ : ∃ m, n = m + 1 := ⟨n - 1, by omega⟩
      rw [nI_pred, wi_e, if_neg]
      rintro (h' | h')
      · exact nI_pos (by omega) h'
      · exact nI_nlt (by omega) (by omega) h'
    rw [hw, bd_s, if_neg n10_, gd_p (na_ix (show k < 204 by omega) (by decide)), hW.2.2 k h]
    exact ⟨_, rfl, rfl⟩
  · rw [if_pos (nI_le (by omega) (by omega))]
    have hw : fn_X8_within (nI k) 0 (nI n - 1) = some 0 := by
      rw [wi_e, if_pos]
      right
      by_cases h0 : n = 0
      · subst h0
        rw [nI_0, Int32.lt_iff_toInt_lt, nI_toInt (by omega), show ((0 : Int32) - 1).toInt = -1 by decide +kernel]
        omega
      · obtain ⟨m, rfl⟩ : ∃ m, n = m + 1 := ⟨n - 1, by omega⟩
        rw [nI_pred]
        exact nI_lt (by omega) (by omega)
    rw [hw, bd_s, if_pos rfl]
    exact ⟨_, rfl, rfl⟩
/-- a byte fetched -/
theorem fe_e {W : tt_Writing} {n k : Nat} {c : Int64} {Y : tt_Model} (hn : n ≤ 204) (hk : k < 1000) (hW : BQ n W Y) (h1 : gf_Writing_nextByte W = nI k) (h2 : gf_Writing_code W = c) : ∃ v W1, fn_X7_fetchByte W = some W1 ∧ fn_X9_byteAt Y (nI k) = some v ∧ BQ n W1 Y ∧ gf_Writing_nextByte W1 = nI (k + 1) ∧ gf_Writing_code W1 = (256 : Int64) * c + v.toInt64 ∧ gf_Writing_range W1 = gf_Writing_range W := by
  obtain ⟨v, a1, a2⟩ := bq_e hn hk hW
  unfold fn_X7_fetchByte
  rw [h1, a1, bd_s, h2, lt_v, lt_v]
  have h3 : gf_Writing_nextByte (sf_Writing_code W (c * (256 : Int64) + v.toInt64)) = nI k := h1
  rw [h3, show nI k + (1 : Int32) = nI (k + 1) from nI_1 k, lt_v, lt_v]
  exact ⟨v, _, rfl, a2, ⟨hW.1, hW.2.1, hW.2.2⟩, rfl, by rw [Int64.mul_comm 256]; rfl, rfl⟩
theorem f4_l {Q : tt_Row} {n : Nat} {Y : tt_Model} (k : tt_Writing → tt_Pasts → Option (Int32 × tt_Writing × tt_Pasts)) (k' : tt_Model → Int64 → Int64 → Int32 → Option (Int32 × tt_Model)) (P : tt_Pasts) (x5 : Int64) (hn : n ≤ 204) : ∀ (m c f : Nat) (W : tt_Writing) (x : Int64), c + m = 4 → BQ n W Y → gf_Writing_nextByte W = nI c → gf_Writing_code W = x → ∃ W1 x1, fl_X7_readAgain_37 k Q (f + m + 1) W P (nI c) = k W1 P ∧ fl_X9_reads_71 k' (f + m + 1) Y x x5 (nI c) = k' Y x1 x5 (nI 4) ∧ BQ n W1 Y ∧ gf_Writing_nextByte W1 = nI 4 ∧ gf_Writing_code W1 = x1 ∧ gf_Writing_range W1 = gf_Writing_range W := by
  intro m
  induction m with
  | zero =>
    intro c f W x h1 hW h2 h3
    obtain rfl : c = 4 := by omega
    refine ⟨W, x, ?_, ?_, hW, h2, h3, rfl⟩
    · rw [fl_X7_readAgain_37, if_pos (show (4 : Int32) ≤ nI 4 from Int32.le_refl _)]
    · rw [fl_X9_reads_71, if_pos (show (4 : Int32) ≤ nI 4 from Int32.le_refl _)]
  | succ m ih =>
    intro c f W x h1 hW h2 h3
    have hc : ¬ (4 : Int32) ≤ nI c := nI_ge (b := 4) (by omega) (by decide)
    obtain ⟨v, W1, a1, a2, a3, a4, a5, a6⟩ := fe_e hn (by omega) hW h2 h3
    obtain ⟨W2, x2, b1, b2, b3, b4, b5, b6⟩ := ih (c + 1) f W1 _ (by omega) a3 a4 a5
    refine ⟨W2, x2, ?_, ?_, b3, b4, b5, b6.trans a6⟩
    · rw [show f + (m + 1) + 1 = f + m + 1 + 1 by omega, fl_X7_readAgain_37, if_neg hc, a1, bd_s, lt_v, show nI c + (1 : Int32) = nI (c + 1) from nI_1 c, b1]
    · rw [show f + (m + 1) + 1 = f + m + 1 + 1 by omega, fl_X9_reads_71, if_neg hc, a2, bd_s, lt_v, lt_v, show nI c + (1 : Int32) = nI (c + 1) from nI_1 c, b2]
theorem rd_l {n : Nat} {Y : tt_Model} (k : tt_Writing → Int32 → Option (Int32 × tt_Writing)) (k' : tt_Model → Int64 → Int64 → Int32 → Int32 → Int32 → Int32 → Option (Int32 × tt_Model)) (s x8 x9 : Int32) (hn : n ≤ 204) : ∀ (m c f nb R : Nat) (W : tt_Writing) (x : Int64), c + m = 2 → nb + m < 1000 → BQ n W Y → gf_Writing_nextByte W = nI nb → gf_Writing_code W = x → gf_Writing_range W = lN R → R ≤ 2 ^ 32 → 2 ^ 24 ≤ R * 256 ^ m → ∃ W1 x1 R1 nb1, fl_X7_readSign_59 k (f + m + 1) W s (nI c) = k W1 s ∧ fl_X9_reads_185 k' (f + m + 1) Y x (lN R) (nI nb) x8 x9 s = k' Y x1 (lN R1) (nI nb1) x8 x9 s ∧ BQ n W1 Y ∧ gf_Writing_nextByte W1 = nI nb1 ∧ gf_Writing_code W1 = x1 ∧ gf_Writing_range W1 = lN R1 ∧ R1 ≤ 2 ^ 32 ∧ 2 ^ 24 ≤ R1 ∧ nb1 ≤ nb + m := by
  intro m
  induction m with
  | zero =>
    intro c f nb R W x h1 h2 hW h3 h4 h5 h6 hm
    obtain rfl : c = 2 := by omega
    rw [Nat.pow_zero, Nat.mul_one] at hm
    refine ⟨W, x, R, nb, ?_, ?_, hW, h3, h4, h5, h6, hm, by omega⟩
    · rw [fl_X7_readSign_59, if_pos (show (2 : Int32) ≤ nI 2 from Int32.le_refl _)]
    · rw [fl_X9_reads_185, if_pos (show (16777216 : Int64) ≤ lN R from (pk_lLE (a := 16777216) (by decide) (by omega)).mpr hm)]
  | succ m ih =>
    intro c f nb R W x h1 h2 hW h3 h4 h5 h6 hm
    have hc2 : ¬ (2 : Int32) ≤ nI c := nI_ge (b := 2) (by omega) (by decide)
    have hle : (16777216 : Int64) ≤ lN R ↔ 16777216 ≤ R := pk_lLE (a := 16777216) (by decide) (by omega)
    rw [show f + (m + 1) + 1 = f + m + 1 + 1 by omega, fl_X7_readSign_59, fl_X9_reads_185, if_neg hc2, h5]
    by_cases hb : 16777216 ≤ R
    · rw [if_pos (hle.mpr hb), if_pos (hle.mpr hb)]
      exact ⟨W, x, R, nb, rfl, rfl, hW, h3, h4, h5, h6, hb, by omega⟩
    · rw [if_neg (fun z => hb (hle.mp z)), if_neg (fun z => hb (hle.mp z))]
      obtain ⟨v, W1, a1, a2, a3, a4, a5, a6⟩ := fe_e hn (by omega) hW h3 h4
      have e1 : lN R * (256 : Int64) = lN (R * 256) := lN_mul R 256
      rw [a1, bd_s, a2, bd_s, lt_v, lt_v, lt_v, lt_v, lt_v, lt_v, a6, h5, e1, show nI c + (1 : Int32) = nI (c + 1) from nI_1 c, show nI nb + (1 : Int32) = nI (nb + 1) from nI_1 nb]
      obtain ⟨W2, x2, R2, nb2, c1, c2, c3, c4, c5, c6, c7, c8, c9⟩ := ih (c + 1) f (nb + 1) (R * 256) (sf_Writing_range W1 (lN (R * 256))) _ (by omega) (by omega) ⟨a3.1, a3.2.1, a3.2.2⟩ a4 a5 rfl (ar_1 (L := 0) hb).2 (by rw [show 256 ^ (m + 1) = 256 ^ m * 256 from Nat.pow_succ _ _] at hm; rw [Nat.mul_assoc, Nat.mul_comm 256]; exact hm)
      exact ⟨W2, x2, R2, nb2, c1, c2, c3, c4, c5, c6, c7, c8, by omega⟩
/-- the signs read again -/
theorem ra_l {g : Int32} {d N n : Nat} {Q : tt_Row} {nw : Nat → Int32} (hd6 : d ≤ 6) (hN : N ≤ 100) (hn : n ≤ 204) (hl : gf_Row_length Q = nI N) (hw : nw 100 = nI N) (hq : ∀ i, i < N → gf_Row_signs Q i = nw i) : ∀ (m i f nb R : Nat) (r : Nat → Int32) (W : tt_Writing) (P : tt_Pasts) (Y : tt_Model) (x : Int64) (a : Int32), i + m = N → nb ≤ 4 + 2 * i → PR r g d i P → MR r g d i Y → gf_Model_now Y = nw → BQ n W Y → gf_Writing_nextByte W = nI nb → gf_Writing_code W = x → gf_Writing_range W = lN R → R ≤ 2 ^ 32 → 2 ^ 24 ≤ R → ∃ v W1 P1 Y1, fl_X7_readAgain_57 (fun (S0_e103_23 : tt_Writing) (S2_e103_23 : tt_Pasts) (x3_e103_23 : Int32) => some (x3_e103_23, S0_e103_23, S2_e103_23)) Q (f + m + 1) W P a (nI i) = some (v, W1, P1) ∧ fl_X9_reads_115 (fun (S0_e256_47 : tt_Model) (x8_e256_47 : Int32) => some (x8_e256_47, S0_e256_47)) (f + m + 1) Y x (lN R) (nI nb) a (nI i) = some (v, Y1) ∧ rs_ Y1 = rs_ Y := by
  intro m
  induction m with
  | zero =>
    intro i f nb R r W P Y x a h1 h2 hP hM h3 hW h4 h5 h6 h7 h8
    obtain rfl : i = N := by omega
    refine ⟨a, W, P, Y, ?_, ?_, rfl⟩
    · rw [fl_X7_readAgain_57, hl, if_pos (Int32.le_refl _)]
    · rw [fl_X9_reads_115, many_e (by rw [h3]; exact hw), bd_s, if_pos (Int32.le_refl _)]
  | succ m ih =>
    intro i f nb R r W P Y x a h1 h2 hP hM h3 hW h4 h5 h6 h7 h8
    have hi : i < N := by omega
    obtain ⟨Y1, a1, a2, a3, a4, a5⟩ := MR_g hd6 (show i < 120 by omega) hM
    obtain ⟨q, q1, q2, q3⟩ := un_gs r g d i
    obtain ⟨p1, p2⟩ := pt_b h8 q1 q2
    have hx : ix_ (nI i) 103 := na_ix (show i < 103 by omega) (by decide)
    have hx' : ix_ (nI i) 100 := na_ix (show i < 100 by omega) (by decide)
    have cn : (nI i).toNatClampNeg = i := na_cl (by omega)
    have hnow : gf_Model_now Y1 = nw := (rs_now a2).trans h3
    have hW1 : BQ n W Y1 := BQ_y hW a2
    rw [show f + (m + 1) + 1 = f + m + 1 + 1 by omega, fl_X7_readAgain_57, fl_X9_reads_115, hl, many_e (by rw [h3]; exact hw), bd_s, if_neg (nI_ge hi (by omega)), if_neg (nI_ge hi (by omega)), nx_e hP, bd_s, a1, b2_s, lt_v, q3, pt_e h7 q2]
    unfold fn_X7_readSign fn_X7_partOfOne
    rw [bd_s, h6, pt_e h7 q2, h5]
    generalize R / 65536 * q = p at *
    -- what comes behind a sign
    have key : ∀ (s : Int32) (x0 : Int64) (R0 : Nat) (W0 : tt_Writing), (s = 0 ∨ s = 1) → BQ n W0 Y1 → gf_Writing_nextByte W0 = nI nb → gf_Writing_code W0 = x0 → gf_Writing_range W0 = lN R0 → R0 ≤ 2 ^ 32 → 256 ≤ R0 → ∃ v W1 P1 Y2, (b2_ (fn_X7_readSign_56 W0 s) fun r_14 P_15 => bd_ (fn_X2_take P r_14) fun P_17 => gd_ (ix_ (nI i) 100) (if r_14 = ((gf_Row_signs Q) (nI i).toNatClampNeg) then lt_ (a + (1 : Int32)) fun y_22 => fn_X7_readAgain_97 (fl_X7_readAgain_57 (fun (S0_e103_23 : tt_Writing) (S2_e103_23 : tt_Pasts) (x3_e103_23 : Int32) => some (x3_e103_23, S0_e103_23, S2_e103_23)) Q (f + m + 1)) Q P_15 P_17 y_22 (nI i) else fn_X7_readAgain_97 (fl_X7_readAgain_57 (fun (S0_e103_23 : tt_Writing) (S2_e103_23 : tt_Pasts) (x3_e103_23 : Int32) => some (x3_e103_23, S0_e103_23, S2_e103_23)) Q (f + m + 1)) Q P_15 P_17 a (nI i))) = some (v, W1, P1) ∧ fn_X9_reads_183 (fl_X9_reads_115 (fun (S0_e256_47 : tt_Model) (x8_e256_47 : Int32) => some (x8_e256_47, S0_e256_47)) (f + m + 1)) Y1 x0 (nI nb) a (nI i) s (lN R0) = some (v, Y2) ∧ rs_ Y2 = rs_ Y := by
      intro s x0 R0 W0 hs g1 g2 g3 g4 g5 g6
      have hc : ∀ k, k < i → r k = upd r i s k := fun k hk => (pk_un (by omega)).symm
      have hu : upd r i s i = s := pk_us
      obtain ⟨P1, t1, t2⟩ := PR_s (r := upd r i s) hd6 (by rw [hu]; exact hs) (PR_c hc hP)
      obtain ⟨e1, e2⟩ := hq_c hc g d i (Nat.le_refl _)
      obtain ⟨Y2, b1, b2, b3⟩ := MR_c (r := upd r i s) hd6 (show i < 120 by omega) (by rw [hu]; exact hs) (MR_cc hc a3) (fun j hj => by rw [← e1, ← e2]; exact a4 j hj) (fun j hj => by rw [← e1, ← e2]; exact a5 j hj)
      rw [hu] at t1 b1
      have hnow2 : gf_Model_now Y2 = nw := (rs_now b2).trans hnow
      unfold fn_X7_readSign_56 fn_X9_reads_183
      obtain ⟨W1, x1, R1, nb1, c1, c2, c3, c4, c5, c6, c7, c8, c9⟩ := rd_l (n := n) (Y := Y1) (fun (S0_e98_16 : tt_Writing) (x4_e98_16 : Int32) => some (x4_e98_16, S0_e98_16)) (fun (S0_e222_40 : tt_Model) (x3_e222_40 : Int64) (x5_e222_40 : Int64) (x7_e222_40 : Int32) (x8_e222_40 : Int32) (x9_e222_40 : Int32) (x12_e222_40 : Int32) => bd_ (fn_X9_comes S0_e222_40 x12_e222_40) fun P_41 => gd_ (ix_ x9_e222_40 103) (if x12_e222_40 = ((gf_Model_now P_41) x9_e222_40.toNatClampNeg) then fn_X9_reads_247 (fl_X9_reads_115 (fun (S0_e256_47 : tt_Model) (x8_e256_47 : Int32) => some (x8_e256_47, S0_e256_47)) (f + m + 1)) P_41 x3_e222_40 x5_e222_40 x7_e222_40 x9_e222_40 x8_e222_40 (1 : Int32) else fn_X9_reads_247 (fl_X9_reads_115 (fun (S0_e256_47 : tt_Model) (x8_e256_47 : Int32) => some (x8_e256_47, S0_e256_47)) (f + m + 1)) P_41 x3_e222_40 x5_e222_40 x7_e222_40 x9_e222_40 x8_e222_40 (0 : Int32))) s a (nI i) hn 2 0 4997 nb R0 W0 x0 (by omega) (by omega) g1 g2 g3 g4 g5 (by omega)
      rw [show 4997 + 2 + 1 = fu_ from rfl] at c1 c2
      rw [nI_0] at c1
      have hW2 : BQ n W1 Y2 := BQ_y c3 b2
      rw [c1, c2, b2_s, t1, bd_s, b1, bd_s, gd_p hx, gd_p hx']
      simp only [cn]
      rw [hnow2, hq i hi]
      unfold fn_X7_readAgain_97 fn_X9_reads_247
      by_cases he : s = nw i
      · rw [if_pos he, if_pos he, lt_v, lt_v, lt_v, lt_v, show nI i + (1 : Int32) = nI (i + 1) from nI_1 i]
        obtain ⟨v, W3, P3, Y3, d1, d2, d3⟩ := ih (i + 1) f nb1 R1 (upd r i s) W1 P1 Y2 x1 (a + 1) (by omega) (by omega) t2 b3 hnow2 hW2 c4 c5 c6 c7 c8
        exact ⟨v, W3, P3, Y3, d1, d2, d3.trans (b2.trans a2)⟩
      · rw [if_neg he, if_neg he, lt_v, lt_v, lt_v, show nI i + (1 : Int32) = nI (i + 1) from nI_1 i, Int32.add_zero]
        obtain ⟨v, W3, P3, Y3, d1, d2, d3⟩ := ih (i + 1) f nb1 R1 (upd r i s) W1 P1 Y2 x1 a (by omega) (by omega) t2 b3 hnow2 hW2 c4 c5 c6 c7 c8
        exact ⟨v, W3, P3, Y3, d1, d2, d3.trans (b2.trans a2)⟩
    unfold fn_X7_readSign_20 fn_X9_reads_150 fn_X9_reads_165
    by_cases hcode : lN p ≤ x
    · have e2 : lN R - lN p = lN (R - p) := lN_sub (by omega)
      have h6' : gf_Writing_range (sf_Writing_code W (x - lN p)) = lN R := h6
      rw [if_pos hcode, if_pos hcode, if_neg (show ¬ (0 : Int32) = 1 by decide), if_neg (show ¬ (0 : Int32) = 1 by decide), h5, lt_v, lt_v, h6', e2, lt_v, lt_v, lt_v, if_neg (show ¬ (0 : Int32) = 1 by decide)]
      exact key 0 (x - lN p) (R - p) _ (Or.inl rfl) ⟨hW1.1, hW1.2.1, hW1.2.2⟩ h4 rfl rfl (by omega) (by omega)
    · rw [if_neg hcode, if_neg hcode, if_pos rfl, if_pos rfl, lt_v, lt_v, if_pos rfl, Int64.sub_zero]
      exact key 1 x p _ (Or.inr rfl) ⟨hW1.1, hW1.2.1, hW1.2.2⟩ h4 h5 rfl (by omega) (by omega)
theorem gu_n {Y : tt_Model} {g : Nat} (h : gf_Model_now Y 102 = nI g) : fn_X9_guesser Y = some (nI g) := by
  unfold fn_X9_guesser
  rw [gd_p (by decide +kernel), show (102 : Int32).toNatClampNeg = 102 by decide +kernel, h]
theorem rg_e {Q : tt_Row} {W : tt_Writing} {Y : tt_Model} {n d g c : Nat} (P : tt_Pasts) (hR : RR Q (gf_Model_now Y) n d g) (hc : c ≤ 204) (hW : BQ c W Y) : ∃ v W1 P1 Y1, fn_X7_readAgain W Q P = some (v, W1, P1) ∧ fn_X9_reads_61 Y = some (v, Y1) ∧ rs_ Y1 = rs_ Y := by
  obtain ⟨r1, r2, r3, r4, r5, r6, r7, r8⟩ := hR
  obtain ⟨P1, p1, p2⟩ := PR_0 (gf_Model_now Y) P r2 r3
  obtain ⟨Y1, y1, y2, y3⟩ := bg_e (g := nI g) (gf_Model_now Y) Y r2
  unfold fn_X7_readAgain fn_X9_reads_61
  rw [r8.2.2.2.1.1, r8.2.2.2.1.2.1, p1, bd_s, lt_v, lt_v, lt_v]
  have hob := fun k k' => f4_l (Q := Q) (n := c) (Y := Y) k k' P1 4294967296 hc 4 0 4995 (sf_Writing_range (sf_Writing_code (sf_Writing_nextByte W 0) 0) 4294967296) 0 (by omega) ⟨hW.1, hW.2.1, hW.2.2⟩ nI_0.symm rfl
  obtain ⟨W1, x1, a1, a2, a3, a4, a5, a6⟩ := hob (fun (S0_e52_10 : tt_Writing) (S2_e52_10 : tt_Pasts) => fl_X7_readAgain_57 (fun (S0_e103_23 : tt_Writing) (S2_e103_23 : tt_Pasts) (x3_e103_23 : Int32) => some (x3_e103_23, S0_e103_23, S2_e103_23)) Q fu_ S0_e52_10 S2_e52_10 (0 : Int32) (0 : Int32)) (fun (S0_e97_16 : tt_Model) (x3_e97_16 : Int64) (x5_e97_16 : Int64) (x7_e97_16 : Int32) => bd_ (fn_X9_depth S0_e97_16) fun r_17 => bd_ (fn_X9_guesser S0_e97_16) fun r_19 => bd_ (fn_X9_begins S0_e97_16 r_17 r_19) fun P_21 => fl_X9_reads_115 (fun (S0_e256_47 : tt_Model) (x8_e256_47 : Int32) => some (x8_e256_47, S0_e256_47)) fu_ P_21 x3_e97_16 x5_e97_16 x7_e97_16 (0 : Int32) (0 : Int32))
  rw [nI_0, show 4995 + 4 + 1 = fu_ from rfl] at a1 a2
  obtain ⟨v, W2, P2, Y2, b1, b2, b3⟩ := ra_l (g := nI g) (d := d) (N := n) (n := c) (Q := Q) (nw := gf_Model_now Y) r2 r1 hc r8.1 r4 (fun i hi => (r8.2.1 i hi).1) n 0 (4999 - n) 4 4294967296 (gf_Model_now Y) W1 P1 Y1 x1 0 (by omega) (by omega) p2 y3 (rs_now y2) (BQ_y a3 y2) a4 a5 (a6.trans rfl) (by decide) (by decide)
  rw [nI_0, show 4999 - n + n + 1 = fu_ by unfold fu_; omega] at b1 b2
  refine ⟨v, W2, P2, Y2, a1.trans b1, ?_, b3.trans y2⟩
  rw [a2, de_e r5, bd_s, gu_n r6, bd_s, y1, bd_s]
  exact b2
theorem lt_n {x : Int32} {n : Nat} (hn : n < 2 ^ 31) : x ≤ nI n - 1 ↔ x < nI n := by
  rw [Int32.le_iff_toInt_le, Int32.lt_iff_toInt_lt, nI_toInt hn]
  have h : (nI n - (1 : Int32)).toInt = (n : Int) - 1 := by
    by_cases h0 : n = 0
    · subst h0; decide +kernel
    · obtain ⟨m, rfl⟩ : ∃ m, n = m + 1 := ⟨n - 1, by omega⟩
      rw [nI_pred, nI_toInt (by omega)]
      omega
  rw [h]
  omega
theorem m_reads {X : tt_TreeOdds} {Y : tt_Model} (x w : Int32) (hR : Rel X Y) : Bo (fn_X8_reads X x w) (fn_X9_reads Y x w) := by
  obtain ⟨⟨n, d, g, hr⟩, -⟩ := id hR
  obtain ⟨b, c, L, W1, Y1, a1, a2, a3, a4, a5⟩ := wr_e (gf_TreeOdds_writing X) hr
  have hrel : Rel (sf_TreeOdds_writing X W1) Y1 := (hR.writing W1).y a5
  have hBQ : BQ c W1 Y1 := ⟨a3.1, a3.2.1, fun i hi => by rw [(a3.2.2.2.2 i hi).2.1, (a3.2.2.2.2 i hi).2.2]⟩
  have m64 : (-1 : Int32).toInt64 = -1 := by decide +kernel
  have z255 : (255 : Int32).toInt64 = 255 := by decide +kernel
  -- what is read
  have fin : ∀ (W2 : tt_Writing) (Y2 : tt_Model), BQ c W2 Y2 → sameP Y2 Y → ∃ v X3 Y3, fn_X8_reads_78 (sf_TreeOdds_writing X W2) = some (v, X3) ∧ fn_X9_reads_61 Y2 = some (v, Y3) ∧ Rel X3 Y3 := by
    intro W2 Y2 h1 h2
    obtain ⟨v, W3, P3, Y3, b1, b2, b3⟩ := rg_e (W := W2) (gf_TreeOdds_spare X) (by rw [h2.1]; exact hr) a4 h1
    refine ⟨v, sf_TreeOdds_spare (sf_TreeOdds_writing (sf_TreeOdds_writing X W2) W3) P3, Y3, ?_, b2, ?_⟩
    · unfold fn_X8_reads_78
      have e1 : gf_TreeOdds_writing (sf_TreeOdds_writing X W2) = W2 := rfl
      have e2 : gf_TreeOdds_row (sf_TreeOdds_writing X W2) = gf_TreeOdds_row X := rfl
      have e3 : gf_TreeOdds_spare (sf_TreeOdds_writing X W2) = gf_TreeOdds_spare X := rfl
      rw [e1, e2, e3, b1, b3_s, lt_v, lt_v]
    · exact (((hR.writing W2).writing W3).spare P3).y (sP_tr (rs_p b3) h2)
  unfold fn_X8_reads fn_X9_reads
  rw [a2, bd_s, a3.2.1, in_e x (-1) (nI c - 1) m64 rfl]
  by_cases h : (-1 : Int32) ≤ x
  · have g1 : gf_TreeOdds_writing (sf_TreeOdds_writing X W1) = W1 := rfl
    rw [if_pos h, a1, bd_s, lt_v, g1, a3.1]
    by_cases h2 : x < nI c
    · have hin : fn_X8_within x (-1) (nI c - 1) = some 1 := by
        rw [wi_e, if_neg]
        rintro (h' | h')
        · exact Int32.not_lt.mpr h h'
        · exact Int32.not_lt.mpr ((lt_n (by omega)).mpr h2) h'
      rw [if_pos h2, hin, bd_s, if_neg n10_]
      unfold fn_X8_reads_64 fn_X9_reads_46
      by_cases h1 : x = -1
      · rw [if_pos h1, if_pos h1, if_pos h1, if_pos h1]
        exact fin W1 Y1 hBQ a5
      · rw [if_neg h1, if_neg h1, if_neg h1, if_neg h1, in_e w 1 255 z64.2.1 z255]
        rcases wi_c w 1 255 with ⟨h', -⟩ | ⟨h', -⟩
        · rw [h', bd_s, bd_s, if_pos rfl, if_pos rfl]
          exact Bo.bad hrel
        · obtain ⟨k, k1, rfl⟩ := ix_lt (n := c) (by omega) (neg1 x h h1) (Int32.not_le.mpr h2)
          have ck : (nI k).toNatClampNeg = k := na_cl (by omega)
          have hw : fn_X8_within (nI k) 0 (nI c - 1) = some 1 := by
            rw [wi_e, if_neg]
            rintro (h' | h')
            · exact nI_pos (by omega) h'
            · exact Int32.not_lt.mpr ((lt_n (by omega)).mpr h2) h'
          rw [h', bd_s, bd_s, if_neg n10_, if_neg n10_, g1, gd_p (na_ix (show k < 256 by omega) (by decide)), lt_v (gf_Model_out Y1 (nI k).toNatClampNeg ^^^ w), gd_p (na_ix (show k < 256 by omega) (by decide))]
          have esp : fn_X7_spoil W1 (nI k) w = some (sf_Writing_bytes W1 (upd (gf_Writing_bytes W1) k (gf_Writing_bytes W1 k ^^^ w))) := by
            unfold fn_X7_spoil
            rw [a3.1, hw, bd_s, if_neg n10_, gd_p (na_ix (show k < 204 by omega) (by decide)), lt_v, gd_p (na_ix (show k < 204 by omega) (by decide)), lt_v, ck]
          rw [esp, bd_s, lt_v, lt_v, ck]
          obtain ⟨u1, u2, u3, u4⟩ := wo_p Y1 (upd (gf_Model_out Y1) k (gf_Model_out Y1 k ^^^ w))
          obtain ⟨v, X3, Y3, d1, d2, d3⟩ := fin (sf_Writing_bytes W1 (upd (gf_Writing_bytes W1) k (gf_Writing_bytes W1 k ^^^ w))) (sf_Model_out Y1 (upd (gf_Model_out Y1) k (gf_Model_out Y1 k ^^^ w))) ⟨a3.1, u3.trans a3.2.1, fun i hi => by
            rw [u2]
            show upd (gf_Writing_bytes W1) k (gf_Writing_bytes W1 k ^^^ w) i = _
            by_cases hik : i = k
            · rw [hik, pk_us, pk_us, hBQ.2.2 k k1]
            · rw [pk_un hik, pk_un hik]; exact hBQ.2.2 i hi⟩ (sP_tr u1.1 a5)
          exact ⟨v, X3, Y3, d1, d2, d3⟩
    · have hin : fn_X8_within x (-1) (nI c - 1) = some 0 := by
        rw [wi_e, if_pos]
        right
        exact Int32.not_le.mp (fun e => h2 ((lt_n (by omega)).mp e))
      rw [if_neg h2, hin, bd_s, if_pos rfl]
      exact Bo.bad hrel
  · have hin : fn_X8_within x (-1) (nI c - 1) = some 0 := by
      rw [wi_e, if_pos]
      left
      exact Int32.not_le.mp h
    rw [if_neg h, hin, bd_s, if_pos rfl]
    exact Bo.bad (hR.y a5)
