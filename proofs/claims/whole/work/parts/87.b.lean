/-! ===== pure part: written ===== -/
def IN (b : Nat → Nat) (n L R : Nat) : Prop := vl_ b n * 2 ^ 32 + L + R ≤ 2 ^ 32 * 256 ^ n ∧ L + R ≤ 2 ^ 33 ∧ R ≤ 2 ^ 32 ∧ 1 ≤ R
theorem ar_1 {L R : Nat} (h : ¬ 16777216 ≤ R) : L % 2 ^ 24 * 256 + R * 256 ≤ 2 ^ 33 ∧ R * 256 ≤ 2 ^ 32 := by omega
theorem ar_20 {A R B : Nat} (h : A + R ≤ B) : 256 * A + R * 256 ≤ 256 * B := by omega
theorem ar_2 {V V' L R E : Nat} (a6 : V' * 2 ^ 32 + L % 2 ^ 24 * 256 = 256 * (V * 2 ^ 32 + L)) (i1 : V * 2 ^ 32 + L + R ≤ 2 ^ 32 * E) : V' * 2 ^ 32 + L % 2 ^ 24 * 256 + R * 256 ≤ 2 ^ 32 * (E * 256) := by
  rw [a6, show 2 ^ 32 * (E * 256) = 256 * (2 ^ 32 * E) by rw [Nat.mul_comm E, Nat.mul_left_comm]]
  exact ar_20 i1
theorem ar_3 {V V' L E : Nat} (a6 : V' * 2 ^ 32 + L % 2 ^ 24 * 256 = 256 * (V * 2 ^ 32 + L)) (i1 : V * 2 ^ 32 + L < 2 ^ 32 * E) : V' * 2 ^ 32 + L % 2 ^ 24 * 256 < 2 ^ 32 * (E * 256) := by
  rw [a6, show 2 ^ 32 * (E * 256) = 256 * (2 ^ 32 * E) by rw [Nat.mul_comm E, Nat.mul_left_comm]]
  exact Nat.mul_lt_mul_of_pos_left i1 (by decide)
theorem ar_4 (L : Nat) : L % 2 ^ 24 * 256 < 2 ^ 33 := by omega
theorem WS_r {b : Nat → Nat} {n L : Nat} {W : tt_Writing} {Y : tt_Model} (v : Int64) (h : WS b n L W Y) : WS b n L (sf_Writing_range W v) Y := ⟨h.1, h.2.1, h.2.2.1, h.2.2.2.1, h.2.2.2.2⟩
theorem ws_l (k : tt_Writing → Option tt_Writing) (k' : tt_Model → Int64 → Int32 → Option tt_Model) (x4 : Int32) : ∀ (m c f : Nat) (b : Nat → Nat) (n L R : Nat) (W : tt_Writing) (Y : tt_Model), c + m = 2 → n + m ≤ 204 → WS b n L W Y → gf_Writing_range W = lN R → IN b n L R → 2 ^ 24 ≤ R * 256 ^ m → ∃ b' n' L' R' W1 Y1, fl_X7_writeSign_42 k (f + m + 1) W (nI c) = k W1 ∧ fl_X9_writes_94 k' (f + m + 1) Y (lN R) x4 = k' Y1 (lN R') x4 ∧ WS b' n' L' W1 Y1 ∧ gf_Writing_range W1 = lN R' ∧ IN b' n' L' R' ∧ 2 ^ 24 ≤ R' ∧ n' ≤ n + m ∧ fw_ Y1 Y := by
  intro m
  induction m with
  | zero =>
    intro c f b n L R W Y h1 h2 hW hR hI hm
    obtain rfl : c = 2 := by omega
    rw [Nat.pow_zero, Nat.mul_one] at hm
    refine ⟨b, n, L, R, W, Y, ?_, ?_, hW, hR, hI, hm, by omega, fw_rf Y⟩
    · rw [fl_X7_writeSign_42, if_pos (show (2 : Int32) ≤ nI 2 from Int32.le_refl _)]
    · rw [fl_X9_writes_94, if_pos (show (16777216 : Int64) ≤ lN R from (pk_lLE (a := 16777216) (by decide) (by have := hI.2.2.1; omega)).mpr hm)]
  | succ m ih =>
    intro c f b n L R W Y h1 h2 hW hR hI hm
    have hc2 : ¬ (2 : Int32) ≤ nI c := nI_ge (b := 2) (by omega) (by decide)
    rw [show f + (m + 1) + 1 = f + m + 1 + 1 by omega, fl_X7_writeSign_42, fl_X9_writes_94, if_neg hc2, hR]
    obtain ⟨i1, i2, i3, i4⟩ := id hI
    have hle : (16777216 : Int64) ≤ lN R ↔ 16777216 ≤ R := pk_lLE (a := 16777216) (by decide) (by omega)
    by_cases hb : 16777216 ≤ R
    · rw [if_pos (hle.mpr hb), if_pos (hle.mpr hb)]
      exact ⟨b, n, L, R, W, Y, rfl, rfl, hW, hR, hI, hb, by omega, fw_rf Y⟩
    · rw [if_neg (fun x => hb (hle.mp x)), if_neg (fun x => hb (hle.mp x))]
      obtain ⟨b', W1, Y1, a1, a2, a3, a4, a5, a6⟩ := sb_e (show n ≤ 203 by omega) (by omega) (by omega) hW
      have e1 : lN R * (256 : Int64) = lN (R * 256) := lN_mul R 256
      rw [a1, bd_s, a2, bd_s, lt_v, lt_v, lt_v, lt_v, a4, hR, e1, show nI c + (1 : Int32) = nI (c + 1) from nI_1 c]
      obtain ⟨j2, j3⟩ := ar_1 (L := L) hb
      obtain ⟨b2, n2, L2, R2, W2, Y2, c1, c2, c3, c4, c5, c6, c7, c8⟩ := ih (c + 1) f b' (n + 1) (L % 2 ^ 24 * 256) (R * 256) (sf_Writing_range W1 (lN (R * 256))) Y1 (by omega) (by omega) (WS_r _ a3) rfl ⟨by rw [show 256 ^ (n + 1) = 256 ^ n * 256 from Nat.pow_succ _ _]; exact ar_2 a6 i1, j2, j3, Nat.le_trans i4 (Nat.le_mul_of_pos_right R (by decide))⟩ (by rw [show 256 ^ (m + 1) = 256 ^ m * 256 from Nat.pow_succ _ _] at hm; rw [Nat.mul_assoc, Nat.mul_comm 256]; exact hm)
      exact ⟨b2, n2, L2, R2, W2, Y2, c1, c2, c3, c4, c5, c6, by omega, fw_tr c8 a5⟩
theorem pt_b {R q : Nat} (hR : 2 ^ 24 ≤ R) (h1 : 1 ≤ q) (h2 : q ≤ 65535) : 256 ≤ R / 65536 * q ∧ R / 65536 * q + 256 ≤ R := by
  have a := Nat.mul_le_mul_left (R / 65536) h1
  have b := Nat.mul_le_mul_left (R / 65536) h2
  generalize R / 65536 * q = x at *
  omega
theorem pt_e {R q : Nat} (hR : R ≤ 2 ^ 32) (h2 : q ≤ 65535) : (lN R / (65536 : Int64)) * (nI q).toInt64 = lN (R / 65536 * q) := by
  rw [show (65536 : Int64) = lN 65536 from rfl, pk_lDiv (by omega) (by decide) (by decide), nI_l (by omega), lN_mul]
/-- one sign written -/
theorem wg_s {r : Nat → Int32} {N i q : Nat} {b : Nat → Nat} {n L R : Nat} {W : tt_Writing} {Y : tt_Model} (k : tt_Model → Option tt_Model) (f : Nat) (hN : N ≤ 100) (hi : i < N) (h1 : 1 ≤ q) (h2 : q ≤ 65535) (hs : r i = 0 ∨ r i = 1) (hn : n + 2 ≤ 204) (hW : WS b n L W Y) (hr : gf_Writing_range W = lN R) (hI : IN b n L R) (hR : 2 ^ 24 ≤ R) (y1 : gf_Model_now Y 100 = nI N) (y2 : gf_Model_now Y i = r i) (y3 : gf_Model_guessAt Y i = nI q) : ∃ b' n' L' R' W1 Y1, fn_X7_writeSign W (r i) (nI q) = some W1 ∧ fl_X9_writes_22 k (f + 1) Y (lN R) (nI i) = fl_X9_writes_22 k f Y1 (lN R') (nI (i + 1)) ∧ WS b' n' L' W1 Y1 ∧ gf_Writing_range W1 = lN R' ∧ IN b' n' L' R' ∧ 2 ^ 24 ≤ R' ∧ n' ≤ n + 2 ∧ fw_ Y1 Y := by
  obtain ⟨p1, p2⟩ := pt_b hR h1 h2
  obtain ⟨i1, i2, i3, i4⟩ := id hI
  have hx : ix_ (nI i) 103 := na_ix (show i < 103 by omega) (by decide)
  have cn : (nI i).toNatClampNeg = i := na_cl (by omega)
  unfold fn_X7_writeSign fn_X7_partOfOne
  rw [bd_s, hr, pt_e i3 h2, fl_X9_writes_22, many_e y1, bd_s, if_neg (nI_ge hi (by omega)), gd_p (na_ix (show i < 128 by omega) (by decide)), lt_v (lN R / (65536 : Int64) * (gf_Model_guessAt Y (nI i).toNatClampNeg).toInt64), gd_p hx]
  simp only [cn, y3, y2, pt_e i3 h2]
  generalize hp : R / 65536 * q = p at *
  have fin : ∀ (L1 R1 : Nat) (W0 : tt_Writing) (Y0 : tt_Model), WS b n L1 W0 Y0 → gf_Writing_range W0 = lN R1 → IN b n L1 R1 → 256 ≤ R1 → fw_ Y0 Y → ∃ b' n' L' R' W1 Y1, fn_X7_writeSign_39 W0 = some W1 ∧ fn_X9_writes_93 (fl_X9_writes_22 k f) Y0 (nI i) (lN R1) = fl_X9_writes_22 k f Y1 (lN R') (nI (i + 1)) ∧ WS b' n' L' W1 Y1 ∧ gf_Writing_range W1 = lN R' ∧ IN b' n' L' R' ∧ 2 ^ 24 ≤ R' ∧ n' ≤ n + 2 ∧ fw_ Y1 Y := by
    intro L1 R1 W0 Y0 g1 g2 g3 g4 g5
    obtain ⟨b', n', L', R', W1, Y1, c1, c2, c3, c4, c5, c6, c7, c8⟩ := ws_l (fun (S : tt_Writing) => some S) (fun (S0_e115_21 : tt_Model) (x1_e115_21 : Int64) (x4_e115_21 : Int32) => lt_ (x4_e115_21 + (1 : Int32)) fun y_22 => fl_X9_writes_22 k f S0_e115_21 x1_e115_21 y_22) (nI i) 2 0 4997 b n L1 R1 W0 Y0 (by omega) hn g1 g2 g3 (by omega)
    rw [show 4997 + 2 + 1 = fu_ from rfl] at c1 c2
    rw [nI_0] at c1
    refine ⟨b', n', L', R', W1, Y1, c1, ?_, c3, c4, c5, c6, c7, fw_tr c8 g5⟩
    unfold fn_X9_writes_93
    rw [c2, lt_v, show nI i + (1 : Int32) = nI (i + 1) from nI_1 i]
  unfold fn_X9_writes_69
  rcases hs with hs | hs
  · have e1 : lN L + lN p = lN (L + p) := lN_add L p
    have e2 : lN R - lN p = lN (R - p) := lN_sub (by omega)
    obtain ⟨z1, z2, z3, z4⟩ := wl_p Y (lN (L + p))
    have hnow : gf_Model_now (sf_Model_low Y (lN (L + p))) i = 0 := by rw [z1.1.1, y2, hs]
    have hlow : gf_Writing_range (sf_Writing_low W (lN (L + p))) = lN R := hr
    rw [hs, if_neg (by decide), if_neg (by decide), hW.2.2.1, hW.2.2.2.1, e1, lt_v, lt_v, lt_v, lt_v, hlow, e2, lt_v, lt_v, gd_p hx, cn, hnow, if_neg (by decide)]
    exact fin (L + p) (R - p) _ _ ⟨hW.1, by rw [z3]; exact hW.2.1, rfl, z4, by rw [z2]; exact hW.2.2.2.2⟩ rfl ⟨by omega, by omega, by omega, by omega⟩ (by omega) z1
  · have e1 : lN L + (0 : Int64) = lN L := Int64.add_zero _
    obtain ⟨z1, z2, z3, z4⟩ := wl_p Y (lN L)
    have hnow : gf_Model_now (sf_Model_low Y (lN L)) i = 1 := by rw [z1.1.1, y2, hs]
    rw [hs, if_pos rfl, if_pos rfl, hW.2.2.2.1, e1, lt_v, lt_v, lt_v, gd_p hx, cn, hnow, if_pos rfl]
    exact fin L p _ _ ⟨hW.1, by rw [z3]; exact hW.2.1, hW.2.2.1, z4, by rw [z2]; exact hW.2.2.2.2⟩ rfl ⟨by omega, by omega, by omega, by omega⟩ (by omega) z1
theorem wr_l {r : Nat → Int32} {g : Int32} {d N : Nat} {Q : tt_Row} (k : tt_Writing → Option tt_Writing) (k' : tt_Model → Option tt_Model) (hN : N ≤ 100) (hb : b01 r N) (hl : gf_Row_length Q = nI N) (hq : ∀ i, i < N → gf_Row_signs Q i = r i ∧ gf_Row_foretold Q i = gs_ r g d i) : ∀ (m i f : Nat) (b : Nat → Nat) (n L R : Nat) (W : tt_Writing) (Y : tt_Model), i + m = N → n ≤ 2 * i → WS b n L W Y → gf_Writing_range W = lN R → IN b n L R → 2 ^ 24 ≤ R → gf_Model_now Y 100 = nI N → (∀ i, i < N → gf_Model_now Y i = r i ∧ gf_Model_guessAt Y i = gs_ r g d i) → ∃ b' n' L' R' W1 Y1, fl_X7_write_19 k Q (f + m + 1) W (nI i) = k W1 ∧ fl_X9_writes_22 k' (f + m + 1) Y (lN R) (nI i) = k' Y1 ∧ WS b' n' L' W1 Y1 ∧ IN b' n' L' R' ∧ n' ≤ 2 * N ∧ fw_ Y1 Y := by
  intro m
  induction m with
  | zero =>
    intro i f b n L R W Y h1 h2 hW hr hI hR y1 y2
    obtain rfl : i = N := by omega
    refine ⟨b, n, L, R, W, Y, ?_, ?_, hW, hI, h2, fw_rf Y⟩
    · rw [fl_X7_write_19, hl, if_pos (Int32.le_refl _)]
    · rw [fl_X9_writes_22, many_e y1, bd_s, if_pos (Int32.le_refl _)]
  | succ m ih =>
    intro i f b n L R W Y h1 h2 hW hr hI hR y1 y2
    have hi : i < N := by omega
    have hx : ix_ (nI i) 100 := na_ix (show i < 100 by omega) (by decide)
    obtain ⟨q, q1, q2, q3⟩ := un_gs r g d i
    obtain ⟨b', n', L', R', W1, Y1, a1, a2, a3, a4, a5, a6, a7, a8⟩ := wg_s k' (f + m + 1) hN hi q1 q2 (hb i hi) (show n + 2 ≤ 204 by omega) hW hr hI hR y1 (y2 i hi).1 ((y2 i hi).2.trans q3)
    obtain ⟨b2, n2, L2, R2, W2, Y2, c1, c2, c3, c4, c5, c6⟩ := ih (i + 1) f b' n' L' R' W1 Y1 (by omega) (by omega) a3 a4 a5 a6 (by rw [a8.1.1]; exact y1) (fun j hj => by rw [a8.1.1, a8.2]; exact y2 j hj)
    refine ⟨b2, n2, L2, R2, W2, Y2, ?_, ?_, c3, c4, c5, fw_tr c6 a8⟩
    · rw [show f + (m + 1) + 1 = f + m + 1 + 1 by omega, fl_X7_write_19, hl, if_neg (nI_ge hi (by omega)), gd_p hx, gd_p hx, na_cl (by omega), (hq i hi).1, (hq i hi).2, q3, a1, bd_s, lt_v, show nI i + (1 : Int32) = nI (i + 1) from nI_1 i, c1]
    · rw [show f + (m + 1) + 1 = f + m + 1 + 1 by omega, a2, c2]
theorem we_l {Q : tt_Row} (k : tt_Writing → Option tt_Writing) (k' : tt_Model → Option tt_Model) : ∀ (m c f : Nat) (b : Nat → Nat) (n L : Nat) (W : tt_Writing) (Y : tt_Model), c + m = 4 → n + m ≤ 204 → WS b n L W Y → L < 2 ^ 33 → vl_ b n * 2 ^ 32 + L < 2 ^ 32 * 256 ^ n → ∃ b' n' L' W1 Y1, fl_X7_write_51 k Q (f + m + 1) W (nI c) = k W1 ∧ fl_X9_writes_124 k' (f + m + 1) Y (nI c) = k' Y1 ∧ WS b' n' L' W1 Y1 ∧ n' ≤ 204 ∧ fw_ Y1 Y := by
  intro m
  induction m with
  | zero =>
    intro c f b n L W Y h1 h2 hW hL hv
    obtain rfl : c = 4 := by omega
    refine ⟨b, n, L, W, Y, ?_, ?_, hW, by omega, fw_rf Y⟩
    · rw [fl_X7_write_51, if_pos (show (4 : Int32) ≤ nI 4 from Int32.le_refl _)]
    · rw [fl_X9_writes_124, if_pos (show (4 : Int32) ≤ nI 4 from Int32.le_refl _)]
  | succ m ih =>
    intro c f b n L W Y h1 h2 hW hL hv
    have hc : ¬ (4 : Int32) ≤ nI c := nI_ge (b := 4) (by omega) (by decide)
    obtain ⟨b', W1, Y1, a1, a2, a3, a4, a5, a6⟩ := sb_e (show n ≤ 203 by omega) hL hv hW
    obtain ⟨b2, n2, L2, W2, Y2, c1, c2, c3, c4, c5⟩ := ih (c + 1) f b' (n + 1) (L % 2 ^ 24 * 256) W1 Y1 (by omega) (by omega) a3 (ar_4 L) (by rw [show 256 ^ (n + 1) = 256 ^ n * 256 from Nat.pow_succ _ _]; exact ar_3 a6 hv)
    refine ⟨b2, n2, L2, W2, Y2, ?_, ?_, c3, c4, fw_tr c5 a5⟩
    · rw [show f + (m + 1) + 1 = f + m + 1 + 1 by omega, fl_X7_write_51, if_neg hc, a1, bd_s, lt_v, show nI c + (1 : Int32) = nI (c + 1) from nI_1 c, c1]
    · rw [show f + (m + 1) + 1 = f + m + 1 + 1 by omega, fl_X9_writes_124, if_neg hc, a2, bd_s, lt_v, show nI c + (1 : Int32) = nI (c + 1) from nI_1 c, c2]
theorem rs_w {A B : tt_Model} (h : rs_ A = rs_ B) : gf_Model_out A = gf_Model_out B ∧ gf_Model_outLong A = gf_Model_outLong B ∧ gf_Model_low A = gf_Model_low B := ⟨congrArg (fun x => x.2.2.2.2.2.2.2.1) h, congrArg (fun x => x.2.2.2.2.2.2.2.2.1) h, congrArg (fun x => x.2.2.2.2.2.2.2.2.2.1) h⟩
theorem sP_tr {A B C : tt_Model} (h : sameP A B) (k : sameP B C) : sameP A C := by
  obtain ⟨a, b, c, d, e, f⟩ := h
  obtain ⟨a1, b1, c1, d1, e1, f1⟩ := k
  exact ⟨a.trans a1, b.trans b1, c.trans c1, d.trans d1, e.trans e1, f.trans f1⟩
/-- write -/
theorem wr_e {Q : tt_Row} {Y : tt_Model} {n d g : Nat} (W : tt_Writing) (hR : RR Q (gf_Model_now Y) n d g) : ∃ b c L W1 Y1, fn_X7_write W Q = some W1 ∧ fn_X9_writes Y = some Y1 ∧ WS b c L W1 Y1 ∧ c ≤ 204 ∧ sameP Y1 Y := by
  obtain ⟨r1, r2, r3, r4, r5, r6, r7, r8⟩ := hR
  obtain ⟨z1, z2, z3, z4⟩ := wl_p Y 0
  obtain ⟨v1, v2, v3, v4⟩ := wn_p (sf_Model_low Y 0) 0
  have hs0 : sameP (sf_Model_outLong (sf_Model_low Y 0) 0) Y := sP_tr v1.1 z1.1
  unfold fn_X7_write fn_X9_writes
  rw [lt_v, lt_v, lt_v, lt_v, lt_v]
  rw [z4] at v4
  generalize sf_Model_outLong (sf_Model_low Y 0) 0 = Y0 at hs0 v1 v2 v3 v4 ⊢
  obtain ⟨Y1, a1, a2, a3⟩ := gn_e (Y := Y0) (r := gf_Model_now Y) r2 r1 r7 (by rw [hs0.1]; exact r4) (by rw [hs0.1]; exact r5) (by rw [hs0.1]; exact r6) (fun i hi => by rw [hs0.1])
  obtain ⟨o1, o2, o3⟩ := rs_w a2
  have hs1 : sameP Y1 Y := sP_tr (rs_p a2) hs0
  rw [a1, b2_s]
  obtain ⟨b, c, L, R, W1, Y2, b1, b2, b3, b4, b5, b6⟩ := wr_l (r := gf_Model_now Y) (g := nI g) (d := d) (Q := Q) (fun (S0_e49_10 : tt_Writing) => fl_X7_write_51 (fun (S0_e66_15 : tt_Writing) => some S0_e66_15) Q fu_ S0_e49_10 (0 : Int32)) (fun (S0_e121_23 : tt_Model) => fl_X9_writes_124 (fun (S0_e140_28 : tt_Model) => some S0_e140_28) fu_ S0_e121_23 (0 : Int32)) r1 r7 r8.1 (fun i hi => ⟨(r8.2.1 i hi).1, (r8.2.1 i hi).2.1⟩) n 0 (4999 - n) (fun _ => 0) 0 0 4294967296 (sf_Writing_range (sf_Writing_low (sf_Writing_length W 0) 0) 4294967296) Y1 (by omega) (by omega) ⟨nI_0.symm, by rw [o2, v3, nI_0], rfl, by rw [o3, v4]; rfl, fun i hi => absurd hi (by omega)⟩ rfl ⟨by decide, by decide, by decide, by decide⟩ (by decide) (by rw [hs1.1]; exact r4) (fun i hi => ⟨by rw [hs1.1], a3.2 i hi⟩)
  rw [nI_0, show 4999 - n + n + 1 = fu_ by unfold fu_; omega] at b1 b2
  obtain ⟨b', c', L', W2, Y3, c1, c2, c3, c4, c5⟩ := we_l (Q := Q) (fun (S0_e66_15 : tt_Writing) => some S0_e66_15) (fun (S0_e140_28 : tt_Model) => some S0_e140_28) 4 0 4995 b c L W1 Y2 (by omega) (by omega) b3 (by have := b4.2; omega) (by have := b4; unfold IN at this; omega)
  rw [nI_0, show 4995 + 4 + 1 = fu_ from rfl] at c1 c2
  refine ⟨b', c', L', W2, Y3, b1.trans c1, ?_, c3, c4, sP_tr c5.1 (sP_tr b6.1 hs1)⟩
  exact b2.trans c2
theorem neg1 (x : Int32) (h : (-1 : Int32) ≤ x) (h1 : ¬ x = -1) : 0 ≤ x := by
  rw [Int32.le_iff_toInt_le] at *
  have h2 : (-1 : Int32).toInt = -1 := by decide +kernel
  have h3 : (0 : Int32).toInt = 0 := by decide +kernel
  have h4 : x.toInt ≠ -1 := fun e => h1 (Int32.toInt_inj.mp (by rw [e, h2]))
  omega
theorem ix_lt {x : Int32} {n : Nat} (hn : n < 2 ^ 31) (h1 : 0 ≤ x) (h2 : ¬ nI n ≤ x) : ∃ k, k < n ∧ x = nI k := by
  rcases pk_ix x hn with h | h | ⟨j, j1, j2⟩
  · rw [Int32.lt_iff_toInt_lt] at h
    rw [Int32.le_iff_toInt_le] at h1
    omega
  · exact absurd h h2
  · exact ⟨j, j1, j2⟩
theorem ba_e {W : tt_Writing} {b : Nat → Nat} {n L k : Nat} {Y : tt_Model} (hn : n ≤ 204) (hk : k < 1000) (hW : WS b n L W Y) : fn_X7_byteAt W (nI k) = fn_X9_byteAt Y (nI k) ∧ ∃ v, fn_X9_byteAt Y (nI k) = some v := by
  unfold fn_X7_byteAt fn_X9_byteAt
  rw [hW.1, hW.2.1]
  by_cases h : k < n
  · rw [if_neg (nI_ge h (by omega)), gd_p (na_ix (show k < 256 by omega) (by decide))]
    have ck : (nI k).toNatClampNeg = k := na_cl (by omega)
    simp only [ck]
    rw [(hW.2.2.2.2 k h).2.2]
    have hw : fn_X8_within (nI k) 0 (nI n - 1) = some 1 := by
      obtain ⟨m, rfl⟩ : ∃ m, n = m + 1 := ⟨n - 1, by omega⟩
      rw [nI_pred, wi_e, if_neg]
      rintro (h' | h')
      · exact nI_pos (by omega) h'
      · exact nI_nlt (by omega) (by omega) h'
    rw [hw, bd_s, if_neg n10_, gd_p (na_ix (show k < 204 by omega) (by decide)), (hW.2.2.2.2 k h).2.1]
    exact ⟨rfl, _, rfl⟩
  · rw [if_pos (nI_le (by omega) (by omega))]
    have hw : fn_X8_within (nI k) 0 (nI n - 1) = some 0 := by
      rw [wi_e, if_pos]
      right
      by_cases h0 : n = 0
      · subst h0
        rw [nI_0, Int32.lt_iff_toInt_lt, nI_toInt (by omega), show ((0 : Int32) - 1).toInt = -1 by decide +kernel]
        omega
      · obtain ⟨m, rfl⟩ : ∃ m, n = m + 1 := ⟨n - 1, by omega⟩
        rw [nI_pred]
        exact nI_lt (by omega) (by omega)
    rw [hw, bd_s, if_pos rfl]
    exact ⟨rfl, _, rfl⟩
theorem m_written {X : tt_TreeOdds} {Y : tt_Model} (x : Int32) (hR : Rel X Y) : Bo (fn_X8_written X x) (fn_X9_written Y x) := by
  obtain ⟨⟨n, d, g, hr⟩, -⟩ := id hR
  unfold fn_X8_written fn_X9_written
  by_cases h : (-1 : Int32) ≤ x
  · obtain ⟨b, c, L, W1, Y1, a1, a2, a3, a4, a5⟩ := wr_e (gf_TreeOdds_writing X) hr
    have hrel : Rel (sf_TreeOdds_writing X W1) Y1 := (hR.writing W1).y a5
    have g1 : gf_TreeOdds_writing (sf_TreeOdds_writing X W1) = W1 := rfl
    rw [if_pos h, if_pos h, a1, bd_s, lt_v, a2, bd_s, g1, a3.1, a3.2.1]
    by_cases h1 : x = -1
    · rw [if_pos h1, if_pos h1]; exact ⟨_, _, Y1, rfl, rfl, hrel⟩
    · rw [if_neg h1, if_neg h1]
      by_cases h2 : nI c ≤ x
      · rw [if_pos h2, if_pos h2]; exact ⟨_, _, Y1, rfl, rfl, hrel⟩
      · obtain ⟨k, k1, rfl⟩ := ix_lt (by omega) (neg1 x h h1) h2
        obtain ⟨e1, -⟩ := ba_e (k := k) a4 (by omega) a3
        rw [if_neg h2, if_neg h2, e1]
        unfold fn_X9_byteAt
        rw [a3.2.1, if_neg h2, gd_p (na_ix (show k < 256 by omega) (by decide)), gd_p (na_ix (show k < 256 by omega) (by decide)), bd_s]
        exact ⟨_, _, Y1, rfl, rfl, hrel⟩
  · obtain ⟨X1, Y1, a, b, c⟩ := hR.bad (-10)
    rw [if_neg h, if_neg h, a, b, b2_s, b2_s]
    exact ⟨_, X1, Y1, rfl, rfl, c⟩
