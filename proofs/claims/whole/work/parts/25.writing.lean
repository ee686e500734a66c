def fn_X7_byteAt (S0 : tt_Writing) (x1 : Int32) : Option Int32 :=
  bd_ (fn_X8_within x1 (0 : Int32) ((gf_Writing_length S0) - (1 : Int32))) fun r_1 => if r_1 = 0 then some (0 : Int32) else gd_ (ix_ x1 204) (some ((gf_Writing_bytes S0) x1.toNatClampNeg))
def fn_X7_spoil (S0 : tt_Writing) (x1 : Int32) (x2 : Int32) : Option tt_Writing :=
  bd_ (fn_X8_within x1 (0 : Int32) ((gf_Writing_length S0) - (1 : Int32))) fun r_1 => if r_1 = 0 then some S0 else gd_ (ix_ x1 204) (lt_ (((gf_Writing_bytes S0) x1.toNatClampNeg) ^^^ x2) fun y_5 => gd_ (ix_ x1 204) (lt_ (sf_Writing_bytes S0 (upd (gf_Writing_bytes S0) x1.toNatClampNeg y_5)) fun S_7 => some S_7))
def fn_X7_partOfOne (S0 : tt_Writing) (x1 : Int32) : Option Int64 :=
  some (((gf_Writing_range S0) / (65536 : Int64)) * x1.toInt64)
def fl_X7_carry_7 (k47 : tt_Writing → Option tt_Writing) : Nat → tt_Writing → Int32 → Option tt_Writing
  | 0, _, _ => none
  | n + 1, S0, x1 =>
  if x1 < 0 then k47 S0 else gd_ (ix_ x1 204) (lt_ ((((gf_Writing_bytes S0) x1.toNatClampNeg) + (1 : Int32)) &&& (255 : Int32)) fun y_4 => gd_ (ix_ x1 204) (lt_ (sf_Writing_bytes S0 (upd (gf_Writing_bytes S0) x1.toNatClampNeg y_4)) fun S_6 => gd_ (ix_ x1 204) (if ((gf_Writing_bytes S_6) x1.toNatClampNeg) = 0 then lt_ (x1 + (-1 : Int32)) fun y_9 => fl_X7_carry_7 k47 n S_6 y_9 else k47 S_6)))
def fn_X7_carry (S0 : tt_Writing) : Option tt_Writing :=
  lt_ ((gf_Writing_length S0) - (1 : Int32)) fun y_1 => fl_X7_carry_7 (fun (S0_e47_10 : tt_Writing) => some S0_e47_10) fu_ S0 y_1
def fn_X7_sendByte_60 (S0 : tt_Writing) : Option tt_Writing :=
  lt_ (((gf_Writing_low S0) - (gf_Writing_low S0) / (16777216 : Int64) * (16777216 : Int64)) * (256 : Int64)) fun y_6 => lt_ (sf_Writing_low S0 y_6) fun S_7 => some S_7
def fn_X7_sendByte_21 (S0 : tt_Writing) (x1 : Int64) : Option tt_Writing :=
  bd_ (fn_X8_within (gf_Writing_length S0) (0 : Int32) (203 : Int32)) fun r_3 => if r_3 = 0 then fn_X7_sendByte_60 S0 else lt_ ((x1 &&& (255 : Int64)).toInt32) fun y_8 => gd_ (ix_ (gf_Writing_length S0) 204) (lt_ (sf_Writing_bytes S0 (upd (gf_Writing_bytes S0) (gf_Writing_length S0).toNatClampNeg y_8)) fun S_10 => lt_ ((gf_Writing_length S_10) + (1 : Int32)) fun y_11 => lt_ (sf_Writing_length S_10 y_11) fun S_12 => fn_X7_sendByte_60 S_12)
def fn_X7_sendByte (S0 : tt_Writing) : Option tt_Writing :=
  lt_ ((gf_Writing_low S0) / (16777216 : Int64)) fun y_1 => if y_1 ≤ (255 : Int64) then fn_X7_sendByte_21 S0 y_1 else bd_ (fn_X7_carry S0) fun P_13 => fn_X7_sendByte_21 P_13 y_1
def fn_X7_fetchByte (S0 : tt_Writing) : Option tt_Writing :=
  bd_ (fn_X7_byteAt S0 (gf_Writing_nextByte S0)) fun r_1 => lt_ (((gf_Writing_code S0) * (256 : Int64)) + r_1.toInt64) fun y_3 => lt_ (sf_Writing_code S0 y_3) fun S_4 => lt_ ((gf_Writing_nextByte S_4) + (1 : Int32)) fun y_5 => lt_ (sf_Writing_nextByte S_4 y_5) fun S_6 => some S_6
def fl_X7_writeSign_42 (k81 : tt_Writing → Option tt_Writing) : Nat → tt_Writing → Int32 → Option tt_Writing
  | 0, _, _ => none
  | n + 1, S0, x5 =>
  if (2 : Int32) ≤ x5 then k81 S0 else if (16777216 : Int64) ≤ (gf_Writing_range S0) then k81 S0 else bd_ (fn_X7_sendByte S0) fun P_10 => lt_ ((gf_Writing_range P_10) * (256 : Int64)) fun y_12 => lt_ (sf_Writing_range P_10 y_12) fun S_13 => lt_ (x5 + (1 : Int32)) fun y_14 => fl_X7_writeSign_42 k81 n S_13 y_14
def fn_X7_writeSign_39 (S0 : tt_Writing) : Option tt_Writing :=
  fl_X7_writeSign_42 (fun (S0_e81_15 : tt_Writing) => some S0_e81_15) fu_ S0 (0 : Int32)
def fn_X7_writeSign (S0 : tt_Writing) (x1 : Int32) (x2 : Int32) : Option tt_Writing :=
  bd_ (fn_X7_partOfOne S0 x2) fun r_1 => if x1 = (1 : Int32) then lt_ (sf_Writing_range S0 r_1) fun S_16 => fn_X7_writeSign_39 S_16 else lt_ ((gf_Writing_low S0) + r_1) fun y_4 => lt_ (sf_Writing_low S0 y_4) fun S_5 => lt_ ((gf_Writing_range S_5) - r_1) fun y_6 => lt_ (sf_Writing_range S_5 y_6) fun S_7 => fn_X7_writeSign_39 S_7
def fl_X7_readSign_59 (k98 : tt_Writing → Int32 → Option (Int32 × tt_Writing)) : Nat → tt_Writing → Int32 → Int32 → Option (Int32 × tt_Writing)
  | 0, _, _, _ => none
  | n + 1, S0, x4, x5 =>
  if (2 : Int32) ≤ x5 then k98 S0 x4 else if (16777216 : Int64) ≤ (gf_Writing_range S0) then k98 S0 x4 else bd_ (fn_X7_fetchByte S0) fun P_11 => lt_ ((gf_Writing_range P_11) * (256 : Int64)) fun y_13 => lt_ (sf_Writing_range P_11 y_13) fun S_14 => lt_ (x5 + (1 : Int32)) fun y_15 => fl_X7_readSign_59 k98 n S_14 x4 y_15
def fn_X7_readSign_56 (S0 : tt_Writing) (x4 : Int32) : Option (Int32 × tt_Writing) :=
  fl_X7_readSign_59 (fun (S0_e98_16 : tt_Writing) (x4_e98_16 : Int32) => some (x4_e98_16, S0_e98_16)) fu_ S0 x4 (0 : Int32)
def fn_X7_readSign_20 (S0 : tt_Writing) (x2 : Int64) (t0 : Int32) : Option (Int32 × tt_Writing) :=
  if t0 = (1 : Int32) then lt_ (sf_Writing_range S0 x2) fun S_17 => fn_X7_readSign_56 S_17 t0 else lt_ ((gf_Writing_code S0) - x2) fun y_5 => lt_ (sf_Writing_code S0 y_5) fun S_6 => lt_ ((gf_Writing_range S_6) - x2) fun y_7 => lt_ (sf_Writing_range S_6 y_7) fun S_8 => fn_X7_readSign_56 S_8 t0
def fn_X7_readSign (S0 : tt_Writing) (x1 : Int32) : Option (Int32 × tt_Writing) :=
  bd_ (fn_X7_partOfOne S0 x1) fun r_1 => if r_1 ≤ (gf_Writing_code S0) then fn_X7_readSign_20 S0 r_1 (0 : Int32) else fn_X7_readSign_20 S0 r_1 (1 : Int32)
def fl_X7_write_19 (k49 : tt_Writing → Option tt_Writing) (S1 : tt_Row) : Nat → tt_Writing → Int32 → Option tt_Writing
  | 0, _, _ => none
  | n + 1, S0, x2 =>
  if (gf_Row_length S1) ≤ x2 then k49 S0 else gd_ (ix_ x2 100) (gd_ (ix_ x2 100) (bd_ (fn_X7_writeSign S0 ((gf_Row_signs S1) x2.toNatClampNeg) ((gf_Row_foretold S1) x2.toNatClampNeg)) fun P_7 => lt_ (x2 + (1 : Int32)) fun y_9 => fl_X7_write_19 k49 S1 n P_7 y_9))
def fl_X7_write_51 (k66 : tt_Writing → Option tt_Writing) (S1 : tt_Row) : Nat → tt_Writing → Int32 → Option tt_Writing
  | 0, _, _ => none
  | n + 1, S0, x2 =>
  if (4 : Int32) ≤ x2 then k66 S0 else bd_ (fn_X7_sendByte S0) fun P_12 => lt_ (x2 + (1 : Int32)) fun y_14 => fl_X7_write_51 k66 S1 n P_12 y_14
def fn_X7_write (S0 : tt_Writing) (S1 : tt_Row) : Option tt_Writing :=
  lt_ (sf_Writing_length S0 (0 : Int32)) fun S_1 => lt_ (sf_Writing_low S_1 (0 : Int64)) fun S_2 => lt_ (sf_Writing_range S_2 (4294967296 : Int64)) fun S_3 => fl_X7_write_19 (fun (S0_e49_10 : tt_Writing) => fl_X7_write_51 (fun (S0_e66_15 : tt_Writing) => some S0_e66_15) S1 fu_ S0_e49_10 (0 : Int32)) S1 fu_ S_3 (0 : Int32)
def fl_X7_readAgain_37 (k52 : tt_Writing → tt_Pasts → Option (Int32 × tt_Writing × tt_Pasts)) (S1 : tt_Row) : Nat → tt_Writing → tt_Pasts → Int32 → Option (Int32 × tt_Writing × tt_Pasts)
  | 0, _, _, _ => none
  | n + 1, S0, S2, x3 =>
  if (4 : Int32) ≤ x3 then k52 S0 S2 else bd_ (fn_X7_fetchByte S0) fun P_7 => lt_ (x3 + (1 : Int32)) fun y_9 => fl_X7_readAgain_37 k52 S1 n P_7 S2 y_9
def fn_X7_readAgain_97 (k57 : tt_Writing → tt_Pasts → Int32 → Int32 → Option (Int32 × tt_Writing × tt_Pasts)) (S1 : tt_Row) (S0 : tt_Writing) (S2 : tt_Pasts) (x3 : Int32) (x4 : Int32) : Option (Int32 × tt_Writing × tt_Pasts) :=
  lt_ (x4 + (1 : Int32)) fun y_21 => k57 S0 S2 x3 y_21
def fl_X7_readAgain_57 (k103 : tt_Writing → tt_Pasts → Int32 → Option (Int32 × tt_Writing × tt_Pasts)) (S1 : tt_Row) : Nat → tt_Writing → tt_Pasts → Int32 → Int32 → Option (Int32 × tt_Writing × tt_Pasts)
  | 0, _, _, _, _ => none
  | n + 1, S0, S2, x3, x4 =>
  if (gf_Row_length S1) ≤ x4 then k103 S0 S2 x3 else bd_ (fn_X2_next S2) fun r_12 => b2_ (fn_X7_readSign S0 r_12) fun r_14 P_15 => bd_ (fn_X2_take S2 r_14) fun P_17 => gd_ (ix_ x4 100) (if r_14 = ((gf_Row_signs S1) x4.toNatClampNeg) then lt_ (x3 + (1 : Int32)) fun y_22 => fn_X7_readAgain_97 (fl_X7_readAgain_57 k103 S1 n) S1 P_15 P_17 y_22 x4 else fn_X7_readAgain_97 (fl_X7_readAgain_57 k103 S1 n) S1 P_15 P_17 x3 x4)
def fn_X7_readAgain (S0 : tt_Writing) (S1 : tt_Row) (S2 : tt_Pasts) : Option (Int32 × tt_Writing × tt_Pasts) :=
  bd_ (fn_X2_begin S2 (gf_Pasts_depth (gf_Row_pasts S1)) (gf_Pasts_guesser (gf_Row_pasts S1))) fun P_1 => lt_ (sf_Writing_nextByte S0 (0 : Int32)) fun S_3 => lt_ (sf_Writing_code S_3 (0 : Int64)) fun S_4 => lt_ (sf_Writing_range S_4 (4294967296 : Int64)) fun S_5 => fl_X7_readAgain_37 (fun (S0_e52_10 : tt_Writing) (S2_e52_10 : tt_Pasts) => fl_X7_readAgain_57 (fun (S0_e103_23 : tt_Writing) (S2_e103_23 : tt_Pasts) (x3_e103_23 : Int32) => some (x3_e103_23, S0_e103_23, S2_e103_23)) S1 fu_ S0_e52_10 S2_e52_10 (0 : Int32) (0 : Int32)) S1 fu_ S_5 P_1 (0 : Int32)
theorem cu_C11 {G : xG} {a : Nat → Nat} {S0 : tt_Writing} : [0, 1].map (fun i => (wd_Writing G a S0)[i]?) = (wd_Writing G a S0 : va_W).map some := rfl
theorem cu_R11 {G : xG} {a : Nat → Nat} {S0 : tt_Writing} : ([] : List Nat).map (fun i => (wd_Writing G a S0)[i]?) = ([] : va_W).map some := rfl
theorem cu_J11 {G : xG} {a : Nat → Nat} {S0 : tt_Writing} {P0 : tt_Writing} : [0, 1].map (fun i => (([] : va_W) ++ (wd_Writing G a P0))[i]?) = (wd_Writing G a P0 : va_W).map some := rfl
theorem cu_C12 {G : xG} {a : Nat → Nat} {S0 : tt_Writing} : [0, 1].map (fun i => (wd_Writing G a S0)[i]?) = (wd_Writing G a S0 : va_W).map some := rfl
theorem cu_R12 {G : xG} {a : Nat → Nat} {S0 : tt_Writing} : ([] : List Nat).map (fun i => (wd_Writing G a S0)[i]?) = ([] : va_W).map some := rfl
theorem cu_J12 {G : xG} {a : Nat → Nat} {S0 : tt_Writing}  : [0, 1].map (fun i => (([] : va_W) ++ (wd_Writing G a S0))[i]?) = (wd_Writing G a S0 : va_W).map some := rfl
theorem cu_C13 {G : xG} {a b : Nat → Nat} {S0 : tt_Writing} {S1 : tt_Row} : [0, 1].map (fun i => (wd_Writing G a S0 ++ wd_Row G b S1)[i]?) = (wd_Writing G a S0 : va_W).map some := rfl
theorem cu_R13 {G : xG} {a b : Nat → Nat} {S0 : tt_Writing} {S1 : tt_Row} : ([2, 3, 4, 5, 6, 7, 8, 9, 10, 11, 12] : List Nat).map (fun i => (wd_Writing G a S0 ++ wd_Row G b S1)[i]?) = ([(b 0, .inr (3, [.ref (b 1), .ref (b 2), .ref (b 3), .ref (b 4), .int (gf_Row_length S1), .int (gf_Row_paidInAll S1)])), (b 1, .inl (G.2.1, 100, .inl (gf_Row_signs S1))), (b 2, .inl (G.2.1, 100, .inl (gf_Row_foretold S1))), (b 3, .inl (G.2.1, 100, .inl (gf_Row_paid S1))), (b 4, .inr (2, [.ref (b 5), .ref (b 6), .ref (b 7), .ref (b 8), .ref (b 9), .ref (b 10), .int (gf_Pasts_depth (gf_Row_pasts S1)), .int (gf_Pasts_guesser (gf_Row_pasts S1)), .int (gf_Pasts_past (gf_Row_pasts S1))])), (b 5, .inl (G.2.1, 128, .inl (gf_Pasts_zeros (gf_Row_pasts S1)))), (b 6, .inl (G.2.1, 128, .inl (gf_Pasts_ones (gf_Row_pasts S1)))), (b 7, .inl (G.2.1, 128, .inl (gf_Pasts_weights (gf_Row_pasts S1)))), (b 8, .inl (G.2.1, 128, .inl (gf_Pasts_paidAlone (gf_Row_pasts S1)))), (b 9, .inl (G.2.1, 7, .inl (gf_Pasts_owns (gf_Row_pasts S1)))), (b 10, .inl (G.2.1, 7, .inl (gf_Pasts_guesses (gf_Row_pasts S1))))] : va_W).map some := rfl
theorem cu_J13 {G : xG} {a b : Nat → Nat} {S0 : tt_Writing} {S1 : tt_Row} {P0 : tt_Writing} : [11, 12, 0, 1, 2, 3, 4, 5, 6, 7, 8, 9, 10].map (fun i => (([(b 0, .inr (3, [.ref (b 1), .ref (b 2), .ref (b 3), .ref (b 4), .int (gf_Row_length S1), .int (gf_Row_paidInAll S1)])), (b 1, .inl (G.2.1, 100, .inl (gf_Row_signs S1))), (b 2, .inl (G.2.1, 100, .inl (gf_Row_foretold S1))), (b 3, .inl (G.2.1, 100, .inl (gf_Row_paid S1))), (b 4, .inr (2, [.ref (b 5), .ref (b 6), .ref (b 7), .ref (b 8), .ref (b 9), .ref (b 10), .int (gf_Pasts_depth (gf_Row_pasts S1)), .int (gf_Pasts_guesser (gf_Row_pasts S1)), .int (gf_Pasts_past (gf_Row_pasts S1))])), (b 5, .inl (G.2.1, 128, .inl (gf_Pasts_zeros (gf_Row_pasts S1)))), (b 6, .inl (G.2.1, 128, .inl (gf_Pasts_ones (gf_Row_pasts S1)))), (b 7, .inl (G.2.1, 128, .inl (gf_Pasts_weights (gf_Row_pasts S1)))), (b 8, .inl (G.2.1, 128, .inl (gf_Pasts_paidAlone (gf_Row_pasts S1)))), (b 9, .inl (G.2.1, 7, .inl (gf_Pasts_owns (gf_Row_pasts S1)))), (b 10, .inl (G.2.1, 7, .inl (gf_Pasts_guesses (gf_Row_pasts S1))))] : va_W) ++ (wd_Writing G a P0))[i]?) = (wd_Writing G a P0 ++ wd_Row G b S1 : va_W).map some := rfl
theorem cu_C14 {G : xG} {a b d : Nat → Nat} {S0 : tt_Writing} {S1 : tt_Row} {S2 : tt_Pasts} : [13, 14, 15, 16, 17, 18, 19].map (fun i => (wd_Writing G a S0 ++ wd_Row G b S1 ++ wd_Pasts G d S2)[i]?) = (wd_Pasts G d S2 : va_W).map some := rfl
theorem cu_R14 {G : xG} {a b d : Nat → Nat} {S0 : tt_Writing} {S1 : tt_Row} {S2 : tt_Pasts} : ([0, 1, 2, 3, 4, 5, 6, 7, 8, 9, 10, 11, 12] : List Nat).map (fun i => (wd_Writing G a S0 ++ wd_Row G b S1 ++ wd_Pasts G d S2)[i]?) = ([(a 0, .inr (7, [.ref (a 1), .int (gf_Writing_length S0), .long (gf_Writing_low S0), .long (gf_Writing_range S0), .long (gf_Writing_code S0), .int (gf_Writing_nextByte S0)])), (a 1, .inl (G.2.1, 204, .inl (gf_Writing_bytes S0))), (b 0, .inr (3, [.ref (b 1), .ref (b 2), .ref (b 3), .ref (b 4), .int (gf_Row_length S1), .int (gf_Row_paidInAll S1)])), (b 1, .inl (G.2.1, 100, .inl (gf_Row_signs S1))), (b 2, .inl (G.2.1, 100, .inl (gf_Row_foretold S1))), (b 3, .inl (G.2.1, 100, .inl (gf_Row_paid S1))), (b 4, .inr (2, [.ref (b 5), .ref (b 6), .ref (b 7), .ref (b 8), .ref (b 9), .ref (b 10), .int (gf_Pasts_depth (gf_Row_pasts S1)), .int (gf_Pasts_guesser (gf_Row_pasts S1)), .int (gf_Pasts_past (gf_Row_pasts S1))])), (b 5, .inl (G.2.1, 128, .inl (gf_Pasts_zeros (gf_Row_pasts S1)))), (b 6, .inl (G.2.1, 128, .inl (gf_Pasts_ones (gf_Row_pasts S1)))), (b 7, .inl (G.2.1, 128, .inl (gf_Pasts_weights (gf_Row_pasts S1)))), (b 8, .inl (G.2.1, 128, .inl (gf_Pasts_paidAlone (gf_Row_pasts S1)))), (b 9, .inl (G.2.1, 7, .inl (gf_Pasts_owns (gf_Row_pasts S1)))), (b 10, .inl (G.2.1, 7, .inl (gf_Pasts_guesses (gf_Row_pasts S1))))] : va_W).map some := rfl
theorem cu_J14 {G : xG} {a b d : Nat → Nat} {S0 : tt_Writing} {S1 : tt_Row} {S2 : tt_Pasts} {P0 : tt_Pasts} : [0, 1, 2, 3, 4, 5, 6, 7, 8, 9, 10, 11, 12, 13, 14, 15, 16, 17, 18, 19].map (fun i => (([(a 0, .inr (7, [.ref (a 1), .int (gf_Writing_length S0), .long (gf_Writing_low S0), .long (gf_Writing_range S0), .long (gf_Writing_code S0), .int (gf_Writing_nextByte S0)])), (a 1, .inl (G.2.1, 204, .inl (gf_Writing_bytes S0))), (b 0, .inr (3, [.ref (b 1), .ref (b 2), .ref (b 3), .ref (b 4), .int (gf_Row_length S1), .int (gf_Row_paidInAll S1)])), (b 1, .inl (G.2.1, 100, .inl (gf_Row_signs S1))), (b 2, .inl (G.2.1, 100, .inl (gf_Row_foretold S1))), (b 3, .inl (G.2.1, 100, .inl (gf_Row_paid S1))), (b 4, .inr (2, [.ref (b 5), .ref (b 6), .ref (b 7), .ref (b 8), .ref (b 9), .ref (b 10), .int (gf_Pasts_depth (gf_Row_pasts S1)), .int (gf_Pasts_guesser (gf_Row_pasts S1)), .int (gf_Pasts_past (gf_Row_pasts S1))])), (b 5, .inl (G.2.1, 128, .inl (gf_Pasts_zeros (gf_Row_pasts S1)))), (b 6, .inl (G.2.1, 128, .inl (gf_Pasts_ones (gf_Row_pasts S1)))), (b 7, .inl (G.2.1, 128, .inl (gf_Pasts_weights (gf_Row_pasts S1)))), (b 8, .inl (G.2.1, 128, .inl (gf_Pasts_paidAlone (gf_Row_pasts S1)))), (b 9, .inl (G.2.1, 7, .inl (gf_Pasts_owns (gf_Row_pasts S1)))), (b 10, .inl (G.2.1, 7, .inl (gf_Pasts_guesses (gf_Row_pasts S1))))] : va_W) ++ (wd_Pasts G d P0))[i]?) = (wd_Writing G a S0 ++ wd_Row G b S1 ++ wd_Pasts G d P0 : va_W).map some := rfl
theorem cu_C15 {G : xG} {a b d : Nat → Nat} {S0 : tt_Writing} {S1 : tt_Row} {S2 : tt_Pasts} : [0, 1].map (fun i => (wd_Writing G a S0 ++ wd_Row G b S1 ++ wd_Pasts G d S2)[i]?) = (wd_Writing G a S0 : va_W).map some := rfl
theorem cu_R15 {G : xG} {a b d : Nat → Nat} {S0 : tt_Writing} {S1 : tt_Row} {S2 : tt_Pasts} : ([2, 3, 4, 5, 6, 7, 8, 9, 10, 11, 12, 13, 14, 15, 16, 17, 18, 19] : List Nat).map (fun i => (wd_Writing G a S0 ++ wd_Row G b S1 ++ wd_Pasts G d S2)[i]?) = ([(b 0, .inr (3, [.ref (b 1), .ref (b 2), .ref (b 3), .ref (b 4), .int (gf_Row_length S1), .int (gf_Row_paidInAll S1)])), (b 1, .inl (G.2.1, 100, .inl (gf_Row_signs S1))), (b 2, .inl (G.2.1, 100, .inl (gf_Row_foretold S1))), (b 3, .inl (G.2.1, 100, .inl (gf_Row_paid S1))), (b 4, .inr (2, [.ref (b 5), .ref (b 6), .ref (b 7), .ref (b 8), .ref (b 9), .ref (b 10), .int (gf_Pasts_depth (gf_Row_pasts S1)), .int (gf_Pasts_guesser (gf_Row_pasts S1)), .int (gf_Pasts_past (gf_Row_pasts S1))])), (b 5, .inl (G.2.1, 128, .inl (gf_Pasts_zeros (gf_Row_pasts S1)))), (b 6, .inl (G.2.1, 128, .inl (gf_Pasts_ones (gf_Row_pasts S1)))), (b 7, .inl (G.2.1, 128, .inl (gf_Pasts_weights (gf_Row_pasts S1)))), (b 8, .inl (G.2.1, 128, .inl (gf_Pasts_paidAlone (gf_Row_pasts S1)))), (b 9, .inl (G.2.1, 7, .inl (gf_Pasts_owns (gf_Row_pasts S1)))), (b 10, .inl (G.2.1, 7, .inl (gf_Pasts_guesses (gf_Row_pasts S1)))), (d 0, .inr (2, [.ref (d 1), .ref (d 2), .ref (d 3), .ref (d 4), .ref (d 5), .ref (d 6), .int (gf_Pasts_depth S2), .int (gf_Pasts_guesser S2), .int (gf_Pasts_past S2)])), (d 1, .inl (G.2.1, 128, .inl (gf_Pasts_zeros S2))), (d 2, .inl (G.2.1, 128, .inl (gf_Pasts_ones S2))), (d 3, .inl (G.2.1, 128, .inl (gf_Pasts_weights S2))), (d 4, .inl (G.2.1, 128, .inl (gf_Pasts_paidAlone S2))), (d 5, .inl (G.2.1, 7, .inl (gf_Pasts_owns S2))), (d 6, .inl (G.2.1, 7, .inl (gf_Pasts_guesses S2)))] : va_W).map some := rfl
theorem cu_J15 {G : xG} {a b d : Nat → Nat} {S0 : tt_Writing} {S1 : tt_Row} {S2 : tt_Pasts} {P0 : tt_Writing} : [18, 19, 0, 1, 2, 3, 4, 5, 6, 7, 8, 9, 10, 11, 12, 13, 14, 15, 16, 17].map (fun i => (([(b 0, .inr (3, [.ref (b 1), .ref (b 2), .ref (b 3), .ref (b 4), .int (gf_Row_length S1), .int (gf_Row_paidInAll S1)])), (b 1, .inl (G.2.1, 100, .inl (gf_Row_signs S1))), (b 2, .inl (G.2.1, 100, .inl (gf_Row_foretold S1))), (b 3, .inl (G.2.1, 100, .inl (gf_Row_paid S1))), (b 4, .inr (2, [.ref (b 5), .ref (b 6), .ref (b 7), .ref (b 8), .ref (b 9), .ref (b 10), .int (gf_Pasts_depth (gf_Row_pasts S1)), .int (gf_Pasts_guesser (gf_Row_pasts S1)), .int (gf_Pasts_past (gf_Row_pasts S1))])), (b 5, .inl (G.2.1, 128, .inl (gf_Pasts_zeros (gf_Row_pasts S1)))), (b 6, .inl (G.2.1, 128, .inl (gf_Pasts_ones (gf_Row_pasts S1)))), (b 7, .inl (G.2.1, 128, .inl (gf_Pasts_weights (gf_Row_pasts S1)))), (b 8, .inl (G.2.1, 128, .inl (gf_Pasts_paidAlone (gf_Row_pasts S1)))), (b 9, .inl (G.2.1, 7, .inl (gf_Pasts_owns (gf_Row_pasts S1)))), (b 10, .inl (G.2.1, 7, .inl (gf_Pasts_guesses (gf_Row_pasts S1)))), (d 0, .inr (2, [.ref (d 1), .ref (d 2), .ref (d 3), .ref (d 4), .ref (d 5), .ref (d 6), .int (gf_Pasts_depth S2), .int (gf_Pasts_guesser S2), .int (gf_Pasts_past S2)])), (d 1, .inl (G.2.1, 128, .inl (gf_Pasts_zeros S2))), (d 2, .inl (G.2.1, 128, .inl (gf_Pasts_ones S2))), (d 3, .inl (G.2.1, 128, .inl (gf_Pasts_weights S2))), (d 4, .inl (G.2.1, 128, .inl (gf_Pasts_paidAlone S2))), (d 5, .inl (G.2.1, 7, .inl (gf_Pasts_owns S2))), (d 6, .inl (G.2.1, 7, .inl (gf_Pasts_guesses S2)))] : va_W) ++ (wd_Writing G a P0))[i]?) = (wd_Writing G a P0 ++ wd_Row G b S1 ++ wd_Pasts G d S2 : va_W).map some := rfl
theorem cu_C16 {G : xG} {a b d : Nat → Nat} {S0 : tt_Writing} {S1 : tt_Row} {S2 : tt_Pasts} : [13, 14, 15, 16, 17, 18, 19].map (fun i => (wd_Writing G a S0 ++ wd_Row G b S1 ++ wd_Pasts G d S2)[i]?) = (wd_Pasts G d S2 : va_W).map some := rfl
theorem cu_R16 {G : xG} {a b d : Nat → Nat} {S0 : tt_Writing} {S1 : tt_Row} {S2 : tt_Pasts} : ([0, 1, 2, 3, 4, 5, 6, 7, 8, 9, 10, 11, 12] : List Nat).map (fun i => (wd_Writing G a S0 ++ wd_Row G b S1 ++ wd_Pasts G d S2)[i]?) = ([(a 0, .inr (7, [.ref (a 1), .int (gf_Writing_length S0), .long (gf_Writing_low S0), .long (gf_Writing_range S0), .long (gf_Writing_code S0), .int (gf_Writing_nextByte S0)])), (a 1, .inl (G.2.1, 204, .inl (gf_Writing_bytes S0))), (b 0, .inr (3, [.ref (b 1), .ref (b 2), .ref (b 3), .ref (b 4), .int (gf_Row_length S1), .int (gf_Row_paidInAll S1)])), (b 1, .inl (G.2.1, 100, .inl (gf_Row_signs S1))), (b 2, .inl (G.2.1, 100, .inl (gf_Row_foretold S1))), (b 3, .inl (G.2.1, 100, .inl (gf_Row_paid S1))), (b 4, .inr (2, [.ref (b 5), .ref (b 6), .ref (b 7), .ref (b 8), .ref (b 9), .ref (b 10), .int (gf_Pasts_depth (gf_Row_pasts S1)), .int (gf_Pasts_guesser (gf_Row_pasts S1)), .int (gf_Pasts_past (gf_Row_pasts S1))])), (b 5, .inl (G.2.1, 128, .inl (gf_Pasts_zeros (gf_Row_pasts S1)))), (b 6, .inl (G.2.1, 128, .inl (gf_Pasts_ones (gf_Row_pasts S1)))), (b 7, .inl (G.2.1, 128, .inl (gf_Pasts_weights (gf_Row_pasts S1)))), (b 8, .inl (G.2.1, 128, .inl (gf_Pasts_paidAlone (gf_Row_pasts S1)))), (b 9, .inl (G.2.1, 7, .inl (gf_Pasts_owns (gf_Row_pasts S1)))), (b 10, .inl (G.2.1, 7, .inl (gf_Pasts_guesses (gf_Row_pasts S1))))] : va_W).map some := rfl
theorem cu_J16 {G : xG} {a b d : Nat → Nat} {S0 : tt_Writing} {S1 : tt_Row} {S2 : tt_Pasts}  : [0, 1, 2, 3, 4, 5, 6, 7, 8, 9, 10, 11, 12, 13, 14, 15, 16, 17, 18, 19].map (fun i => (([(a 0, .inr (7, [.ref (a 1), .int (gf_Writing_length S0), .long (gf_Writing_low S0), .long (gf_Writing_range S0), .long (gf_Writing_code S0), .int (gf_Writing_nextByte S0)])), (a 1, .inl (G.2.1, 204, .inl (gf_Writing_bytes S0))), (b 0, .inr (3, [.ref (b 1), .ref (b 2), .ref (b 3), .ref (b 4), .int (gf_Row_length S1), .int (gf_Row_paidInAll S1)])), (b 1, .inl (G.2.1, 100, .inl (gf_Row_signs S1))), (b 2, .inl (G.2.1, 100, .inl (gf_Row_foretold S1))), (b 3, .inl (G.2.1, 100, .inl (gf_Row_paid S1))), (b 4, .inr (2, [.ref (b 5), .ref (b 6), .ref (b 7), .ref (b 8), .ref (b 9), .ref (b 10), .int (gf_Pasts_depth (gf_Row_pasts S1)), .int (gf_Pasts_guesser (gf_Row_pasts S1)), .int (gf_Pasts_past (gf_Row_pasts S1))])), (b 5, .inl (G.2.1, 128, .inl (gf_Pasts_zeros (gf_Row_pasts S1)))), (b 6, .inl (G.2.1, 128, .inl (gf_Pasts_ones (gf_Row_pasts S1)))), (b 7, .inl (G.2.1, 128, .inl (gf_Pasts_weights (gf_Row_pasts S1)))), (b 8, .inl (G.2.1, 128, .inl (gf_Pasts_paidAlone (gf_Row_pasts S1)))), (b 9, .inl (G.2.1, 7, .inl (gf_Pasts_owns (gf_Row_pasts S1)))), (b 10, .inl (G.2.1, 7, .inl (gf_Pasts_guesses (gf_Row_pasts S1))))] : va_W) ++ (wd_Pasts G d S2))[i]?) = (wd_Writing G a S0 ++ wd_Row G b S1 ++ wd_Pasts G d S2 : va_W).map some := rfl
theorem hd_X7_byteAt : yX7_byteAt.cls ≠ "java/lang/invoke/MethodHandle" ∧ yX7_byteAt.cls ≠ "java/lang/invoke/VarHandle" ∧ (parseMethodDescriptor yX7_byteAt.desc).map (fun d => d.parameters.length) = some 1 := by decide +kernel
set_option maxHeartbeats 4000000 in
set_option maxRecDepth 100000 in
theorem ct_X7_byteAt (l : Launch) (G : xG) (a : Nat → Nat) (S0 : tt_Writing) (x1 : Int32) (ro : Int32) (hf : fn_X7_byteAt S0 x1 = some ro) : xM l yX7_byteAt cX7_byteAt 2 (some .int) 1 22 G [.ref (a 0), .int x1] (wd_Writing G a S0) (wd_Writing G a S0) (some (.int ro)) := by
  refine xMi (by decide) (Nat.le_of_ble_eq_true rfl) ?_
  intro p e s m below meth c A C0 KN hA X ls hl
  have hx := C0.1
  have hb := C0.2.1
  have C0 : xC p s m meth c cX7_byteAt 2 (some .int) RX7 _ := C0
  have hl : lv_has ls 2 [(0, .ref (a 0)), (1, .int x1)] := hl
  unfold fn_X7_byteAt at hf
  refine lv_iload_n (pc := 0) hx hb dX7_byteAt_0 rfl (lv_at hl 1 rfl) ?_
  refine lv_iconst (pc := 1) (v := 0) hx hb dX7_byteAt_1 (by decide) ?_
  refine lv_aload_n (pc := 2) hx hb dX7_byteAt_2 rfl (lv_at hl 0 rfl) ?_
  refine x_get (pc := 3) (ci := 7) C0 KN X 0 rfl rfl inlX7 1 (by decide) kw_5_19 rfl dX7_byteAt_3 ?_
  refine W.eq (g2 := F0 m 6 ls [.int (gf_Writing_length S0), .int (0 : Int32), .int x1]) rfl ?_
  refine lv_iconst (pc := 6) (v := 1) hx hb dX7_byteAt_6 (by decide) ?_
  refine lv_isub (pc := 7) hx hb dX7_byteAt_7 ?_
  obtain ⟨r_1, h_2, hf⟩ := bd_e hf
  refine x_csN (pc := 8) (As := [.int x1, .int (0 : Int32), .int ((gf_Writing_length S0) - (1 : Int32))]) (rest := []) C0 KN (ct_X8_within l x1 (0 : Int32) ((gf_Writing_length S0) - (1 : Int32)) r_1 h_2) kw_8_10 (List.mem_of_getElem? (i := 18) rfl) kw_8_9 kw_1_2 hd_X8_within ⟨by decide, by decide⟩ hl.1 rfl (Nat.le_of_ble_eq_true rfl) ⟨Nat.zero_le _, Nat.zero_le _⟩ dX7_byteAt_8 ?_
  refine W.eq (g2 := F0 m 11 ls [.int r_1]) rfl ?_
  refine lv_if_eq (pc := 11) (tgt := 23) hx hb dX7_byteAt_11 (by decide) (fun c_3 => ?_) (fun c_3 => ?_)
  · have hf := it_p hf c_3
    refine lv_iconst (pc := 23) (v := 0) hx hb dX7_byteAt_23 (by decide) ?_
    obtain rfl := so_1 hf
    exact x_iret (pc := 24) C0 X dX7_byteAt_24
  · have hf := it_n hf c_3
    refine lv_aload_n (pc := 14) hx hb dX7_byteAt_14 rfl (lv_at hl 0 rfl) ?_
    refine x_get (pc := 15) (ci := 7) C0 KN X 0 rfl rfl inlX7 0 (by decide) kw_5_18 rfl dX7_byteAt_15 ?_
    refine lv_iload_n (pc := 18) hx hb dX7_byteAt_18 rfl (lv_at hl 1 rfl) ?_
    obtain ⟨g_4, hf⟩ := gd_e hf
    refine x_ald (pc := 19) C0 KN X 1 rfl g_4 dX7_byteAt_19 ?_
    refine W.eq (g2 := F0 m 20 ls [.int ((gf_Writing_bytes S0) x1.toNatClampNeg)]) rfl ?_
    refine lv_goto (pc := 20) (tgt := 24) hx hb dX7_byteAt_20 (by decide) ?_
    obtain rfl := so_1 hf
    exact x_iret (pc := 24) C0 X dX7_byteAt_24
theorem hd_X7_spoil : yX7_spoil.cls ≠ "java/lang/invoke/MethodHandle" ∧ yX7_spoil.cls ≠ "java/lang/invoke/VarHandle" ∧ (parseMethodDescriptor yX7_spoil.desc).map (fun d => d.parameters.length) = some 2 := by decide +kernel
set_option maxHeartbeats 4000000 in
set_option maxRecDepth 100000 in
theorem ct_X7_spoil (l : Launch) (G : xG) (a : Nat → Nat) (S0 : tt_Writing) (x1 : Int32) (x2 : Int32) (So0 : tt_Writing) (hf : fn_X7_spoil S0 x1 x2 = some So0) : xM l yX7_spoil cX7_spoil 3 (none) 1 22 G [.ref (a 0), .int x1, .int x2] (wd_Writing G a S0) (wd_Writing G a So0) none := by
  refine xMi (by decide) (Nat.le_of_ble_eq_true rfl) ?_
  intro p e s m below meth c A C0 KN hA X ls hl
  have hx := C0.1
  have hb := C0.2.1
  have C0 : xC p s m meth c cX7_spoil 3 (none) RX7 _ := C0
  have hl : lv_has ls 3 [(0, .ref (a 0)), (1, .int x1), (2, .int x2)] := hl
  unfold fn_X7_spoil at hf
  refine lv_iload_n (pc := 0) hx hb dX7_spoil_0 rfl (lv_at hl 1 rfl) ?_
  refine lv_iconst (pc := 1) (v := 0) hx hb dX7_spoil_1 (by decide) ?_
  refine lv_aload_n (pc := 2) hx hb dX7_spoil_2 rfl (lv_at hl 0 rfl) ?_
  refine x_get (pc := 3) (ci := 7) C0 KN X 0 rfl rfl inlX7 1 (by decide) kw_5_19 rfl dX7_spoil_3 ?_
  refine W.eq (g2 := F0 m 6 ls [.int (gf_Writing_length S0), .int (0 : Int32), .int x1]) rfl ?_
  refine lv_iconst (pc := 6) (v := 1) hx hb dX7_spoil_6 (by decide) ?_
  refine lv_isub (pc := 7) hx hb dX7_spoil_7 ?_
  obtain ⟨r_1, h_2, hf⟩ := bd_e hf
  refine x_csN (pc := 8) (As := [.int x1, .int (0 : Int32), .int ((gf_Writing_length S0) - (1 : Int32))]) (rest := []) C0 KN (ct_X8_within l x1 (0 : Int32) ((gf_Writing_length S0) - (1 : Int32)) r_1 h_2) kw_8_10 (List.mem_of_getElem? (i := 18) rfl) kw_8_9 kw_1_2 hd_X8_within ⟨by decide, by decide⟩ hl.1 rfl (Nat.le_of_ble_eq_true rfl) ⟨Nat.zero_le _, Nat.zero_le _⟩ dX7_spoil_8 ?_
  refine W.eq (g2 := F0 m 11 ls [.int r_1]) rfl ?_
  refine lv_if_eq (pc := 11) (tgt := 24) hx hb dX7_spoil_11 (by decide) (fun c_3 => ?_) (fun c_3 => ?_)
  · have hf := it_p hf c_3
    obtain rfl := so_1 hf
    exact x_vret (pc := 24) C0 X dX7_spoil_24
  · have hf := it_n hf c_3
    refine lv_aload_n (pc := 14) hx hb dX7_spoil_14 rfl (lv_at hl 0 rfl) ?_
    refine x_get (pc := 15) (ci := 7) C0 KN X 0 rfl rfl inlX7 0 (by decide) kw_5_18 rfl dX7_spoil_15 ?_
    refine lv_iload_n (pc := 18) hx hb dX7_spoil_18 rfl (lv_at hl 1 rfl) ?_
    refine lv_dup2_11 (pc := 19) hx hb dX7_spoil_19 rfl rfl ?_
    obtain ⟨g_4, hf⟩ := gd_e hf
    refine x_ald (pc := 20) C0 KN X 1 rfl g_4 dX7_spoil_20 ?_
    refine W.eq (g2 := F0 m 21 ls [.int ((gf_Writing_bytes S0) x1.toNatClampNeg), .int x1, .ref (a 1)]) rfl ?_
    refine lv_iload_n (pc := 21) hx hb dX7_spoil_21 rfl (lv_at hl 2 rfl) ?_
    refine lv_ixor (pc := 22) hx hb dX7_spoil_22 ?_
    refine lv_topi (fun y_5 ey_5 => ?_)
    have hf := lt_sb hf ey_5
    obtain ⟨g_6, hf⟩ := gd_e hf
    obtain ⟨S_7, eS_7, hf⟩ := lt_e hf
    refine x_ast (pc := 23) (ws' := wd_Writing G a S_7) C0 KN X 1 rfl g_6 (by subst eS_7; rfl) dX7_spoil_23 (fun H locs X => ?_)
    obtain rfl := so_1 hf
    exact x_vret (pc := 24) C0 X dX7_spoil_24
theorem hd_X7_partOfOne : yX7_partOfOne.cls ≠ "java/lang/invoke/MethodHandle" ∧ yX7_partOfOne.cls ≠ "java/lang/invoke/VarHandle" ∧ (parseMethodDescriptor yX7_partOfOne.desc).map (fun d => d.parameters.length) = some 1 := by decide +kernel
set_option maxHeartbeats 4000000 in
set_option maxRecDepth 100000 in
theorem ct_X7_partOfOne (l : Launch) (G : xG) (a : Nat → Nat) (S0 : tt_Writing) (x1 : Int32) (ro : Int64) (hf : fn_X7_partOfOne S0 x1 = some ro) : xM l yX7_partOfOne cX7_partOfOne 2 (some .long) 0 0 G [.ref (a 0), .int x1] (wd_Writing G a S0) (wd_Writing G a S0) (some (.long ro)) := by
  refine xMi (by decide) (Nat.le_of_ble_eq_true rfl) ?_
  intro p e s m below meth c A C0 KN hA X ls hl
  have hx := C0.1
  have hb := C0.2.1
  have C0 : xC p s m meth c cX7_partOfOne 2 (some .long) RX7 _ := C0
  have hl : lv_has ls 2 [(0, .ref (a 0)), (1, .int x1)] := hl
  unfold fn_X7_partOfOne at hf
  refine lv_aload_n (pc := 0) hx hb dX7_partOfOne_0 rfl (lv_at hl 0 rfl) ?_
  refine x_get (pc := 1) (ci := 7) C0 KN X 0 rfl rfl inlX7 3 (by decide) kw_5_22 rfl dX7_partOfOne_1 ?_
  refine W.eq (g2 := F0 m 4 ls [.long (gf_Writing_range S0)]) rfl ?_
  refine x_ldc2 (pc := 4) C0 kw_24_18 dX7_partOfOne_4 ?_
  refine lv_ldiv (pc := 7) hx hb dX7_partOfOne_7 (by decide) ?_
  refine lv_iload_n (pc := 8) hx hb dX7_partOfOne_8 rfl (lv_at hl 1 rfl) ?_
  refine lv_i2l (pc := 9) (v := x1.toInt64) hx hb dX7_partOfOne_9 rfl ?_
  refine lv_lmul (pc := 10) hx hb dX7_partOfOne_10 ?_
  obtain rfl := so_1 hf
  exact x_lret (pc := 11) C0 X dX7_partOfOne_11
set_option maxHeartbeats 4000000 in
set_option maxRecDepth 100000 in
theorem lb_X7_carry_7 {l : Launch} {p : Program} {e : Env} {s : State} {m : MethodId} {args : Array Value} {below : List Frame} {meth : Method} {c : Code} {G : xG} {A : Nat → Prop} {a : Nat → Nat} (C0 : xC p s m meth c cX7_carry 2 (none) RX7 args) (KN : xKN G s) (hA : ∀ q, s.heap.size ≤ q → A q) (So0 : tt_Writing) (k47 : tt_Writing → Option tt_Writing) (hk47 : ∀ (S0 : tt_Writing), k47 S0 = some So0 → ∀ (H : Heap) (locs : List Loc) (ls : Array Slot), xS G A s.heap (wd_Writing G a S0) H locs → lv_has ls 2 [(0, .ref (a 0))] → W p l e ({ frames := 0, cells := 0, slots := 0, locals := 0 }) s m args below meth c H locs 0 0 (MQ below (xQo G none A (wd_Writing G a So0)) args s 0 0 A) (F0 m 47 ls [])) : ∀ (n : Nat) (S0 : tt_Writing) (x1 : Int32), fl_X7_carry_7 k47 n S0 x1 = some So0 → ∀ (H : Heap) (locs : List Loc) (ls : Array Slot), xS G A s.heap (wd_Writing G a S0) H locs → lv_has ls 2 [(0, .ref (a 0)), (1, .int x1)] → W p l e ({ frames := 0, cells := 0, slots := 0, locals := 0 }) s m args below meth c H locs 0 0 (MQ below (xQo G none A (wd_Writing G a So0)) args s 0 0 A) (F0 m 7 ls []) := by
  have hx := C0.1
  have hb := C0.2.1
  intro n
  induction n with
  | zero =>
    intro S0 x1 hf
    have hf : none = some So0 := hf
    cases hf
  | succ n ih =>
    intro S0 x1 hf H locs ls X hl
    rw [fl_X7_carry_7] at hf
    refine lv_iload_n (pc := 7) hx hb dX7_carry_7 rfl (lv_at hl 1 rfl) ?_
    refine lv_if_lt (pc := 8) (tgt := 47) hx hb dX7_carry_8 (by decide) (fun c_2 => ?_) (fun c_2 => ?_)
    · have hf := it_p hf c_2
      exact hk47 _ hf _ _ _ X (lv_sub hl [0] rfl)
    · have hf := it_n hf c_2
      refine lv_aload_n (pc := 11) hx hb dX7_carry_11 rfl (lv_at hl 0 rfl) ?_
      refine x_get (pc := 12) (ci := 7) C0 KN X 0 rfl rfl inlX7 0 (by decide) kw_5_18 rfl dX7_carry_12 ?_
      refine lv_iload_n (pc := 15) hx hb dX7_carry_15 rfl (lv_at hl 1 rfl) ?_
      refine lv_aload_n (pc := 16) hx hb dX7_carry_16 rfl (lv_at hl 0 rfl) ?_
      refine x_get (pc := 17) (ci := 7) C0 KN X 0 rfl rfl inlX7 0 (by decide) kw_5_18 rfl dX7_carry_17 ?_
      refine lv_iload_n (pc := 20) hx hb dX7_carry_20 rfl (lv_at hl 1 rfl) ?_
      obtain ⟨g_3, hf⟩ := gd_e hf
      refine x_ald (pc := 21) C0 KN X 1 rfl g_3 dX7_carry_21 ?_
      refine W.eq (g2 := F0 m 22 ls [.int ((gf_Writing_bytes S0) x1.toNatClampNeg), .int x1, .ref (a 1)]) rfl ?_
      refine lv_iconst (pc := 22) (v := 1) hx hb dX7_carry_22 (by decide) ?_
      refine lv_iadd (pc := 23) hx hb dX7_carry_23 ?_
      refine lv_sipush (pc := 24) (v := 255) hx hb dX7_carry_24 (by decide) ?_
      refine lv_iand (pc := 27) hx hb dX7_carry_27 ?_
      refine lv_topi (fun y_4 ey_4 => ?_)
      have hf := lt_sb hf ey_4
      obtain ⟨g_5, hf⟩ := gd_e hf
      obtain ⟨S_6, eS_6, hf⟩ := lt_e hf
      refine x_ast (pc := 28) (ws' := wd_Writing G a S_6) C0 KN X 1 rfl g_5 (by subst eS_6; rfl) dX7_carry_28 (fun H locs X => ?_)
      refine lv_aload_n (pc := 29) hx hb dX7_carry_29 rfl (lv_at hl 0 rfl) ?_
      refine x_get (pc := 30) (ci := 7) C0 KN X 0 rfl rfl inlX7 0 (by decide) kw_5_18 rfl dX7_carry_30 ?_
      refine lv_iload_n (pc := 33) hx hb dX7_carry_33 rfl (lv_at hl 1 rfl) ?_
      obtain ⟨g_7, hf⟩ := gd_e hf
      refine x_ald (pc := 34) C0 KN X 1 rfl g_7 dX7_carry_34 ?_
      refine W.eq (g2 := F0 m 35 ls [.int ((gf_Writing_bytes S_6) x1.toNatClampNeg)]) rfl ?_
      refine lv_if_eq (pc := 35) (tgt := 41) hx hb dX7_carry_35 (by decide) (fun c_8 => ?_) (fun c_8 => ?_)
      · have hf := it_p hf c_8
        obtain ⟨y_9, ey_9⟩ : ∃ y : Int32, y = x1 + (-1 : Int32) := ⟨_, rfl⟩
        have hf := lt_sb hf ey_9
        refine lv_iinc (pc := 41) (v := y_9) (lv' := [(1, .int y_9), (0, .ref (a 0))]) hx hb dX7_carry_41 hl (k := 1) rfl (by rw [ey_9]; rfl) (by decide) rfl (fun ls hl => ?_)
        refine lv_goto (pc := 44) (tgt := 7) hx hb dX7_carry_44 (by decide) ?_
        exact ih _ _ hf _ _ _ X (lv_sub hl [1, 0] rfl)
      · have hf := it_n hf c_8
        refine lv_goto (pc := 38) (tgt := 47) hx hb dX7_carry_38 (by decide) ?_
        exact hk47 _ hf _ _ _ X (lv_sub hl [0] rfl)
theorem hd_X7_carry : yX7_carry.cls ≠ "java/lang/invoke/MethodHandle" ∧ yX7_carry.cls ≠ "java/lang/invoke/VarHandle" ∧ (parseMethodDescriptor yX7_carry.desc).map (fun d => d.parameters.length) = some 0 := by decide +kernel
set_option maxHeartbeats 4000000 in
set_option maxRecDepth 100000 in
theorem ct_X7_carry (l : Launch) (G : xG) (a : Nat → Nat) (S0 : tt_Writing) (So0 : tt_Writing) (hf : fn_X7_carry S0 = some So0) : xM l yX7_carry cX7_carry 2 (none) 0 0 G [.ref (a 0)] (wd_Writing G a S0) (wd_Writing G a So0) none := by
  refine xMi (by decide) (Nat.le_of_ble_eq_true rfl) ?_
  intro p e s m below meth c A C0 KN hA X ls hl
  have hx := C0.1
  have hb := C0.2.1
  have C0 : xC p s m meth c cX7_carry 2 (none) RX7 _ := C0
  have hl : lv_has ls 2 [(0, .ref (a 0))] := hl
  unfold fn_X7_carry at hf
  refine lv_aload_n (pc := 0) hx hb dX7_carry_0 rfl (lv_at hl 0 rfl) ?_
  refine x_get (pc := 1) (ci := 7) C0 KN X 0 rfl rfl inlX7 1 (by decide) kw_5_19 rfl dX7_carry_1 ?_
  refine W.eq (g2 := F0 m 4 ls [.int (gf_Writing_length S0)]) rfl ?_
  refine lv_iconst (pc := 4) (v := 1) hx hb dX7_carry_4 (by decide) ?_
  refine lv_isub (pc := 5) hx hb dX7_carry_5 ?_
  refine lv_topi (fun y_1 ey_1 => ?_)
  have hf := lt_sb hf ey_1
  refine lv_istore_n (pc := 6) (lv' := [(1, .int y_1), (0, .ref (a 0))]) hx hb dX7_carry_6 rfl hl (by decide) rfl (fun ls hl => ?_)
  refine lb_X7_carry_7 C0 KN hA _ _ ?_ _ _ _ hf _ _ _ X (lv_sub hl [1, 0] rfl)
  · intro S0_e47_10 hf H locs ls X hl
    obtain rfl := so_1 hf
    exact x_vret (pc := 47) C0 X dX7_carry_47
set_option maxHeartbeats 4000000 in
set_option maxRecDepth 100000 in
theorem lb_X7_sendByte_60 {l : Launch} {p : Program} {e : Env} {s : State} {m : MethodId} {args : Array Value} {below : List Frame} {meth : Method} {c : Code} {G : xG} {A : Nat → Prop} {a : Nat → Nat} (C0 : xC p s m meth c cX7_sendByte 3 (none) RX7 args) (KN : xKN G s) (hA : ∀ q, s.heap.size ≤ q → A q) (So0 : tt_Writing) : ∀ (S0 : tt_Writing), fn_X7_sendByte_60 S0 = some So0 → ∀ (H : Heap) (locs : List Loc) (ls : Array Slot), xS G A s.heap (wd_Writing G a S0) H locs → lv_has ls 3 [(0, .ref (a 0))] → W p l e ({ frames := 1, cells := 0, slots := 0, locals := 22 }) s m args below meth c H locs 0 0 (MQ below (xQo G none A (wd_Writing G a So0)) args s 0 0 A) (F0 m 60 ls []) := by
  have hx := C0.1
  have hb := C0.2.1
  intro S0 hf H locs ls X hl
  unfold fn_X7_sendByte_60 at hf
  refine lv_aload_n (pc := 60) hx hb dX7_sendByte_60 rfl (lv_at hl 0 rfl) ?_
  refine lv_aload_n (pc := 61) hx hb dX7_sendByte_61 rfl (lv_at hl 0 rfl) ?_
  refine x_get (pc := 62) (ci := 7) C0 KN X 0 rfl rfl inlX7 2 (by decide) kw_5_20 rfl dX7_sendByte_62 ?_
  refine W.eq (g2 := F0 m 65 ls [.long (gf_Writing_low S0), .ref (a 0)]) rfl ?_
  refine x_ldc2 (pc := 65) C0 kw_24_12 dX7_sendByte_65 ?_
  refine lv_lrem (pc := 68) hx hb dX7_sendByte_68 (by decide) ?_
  refine x_ldc2 (pc := 69) C0 kw_24_13 dX7_sendByte_69 ?_
  refine lv_lmul (pc := 72) hx hb dX7_sendByte_72 ?_
  refine lv_topl (fun y_6 ey_6 => ?_)
  have hf := lt_sb hf ey_6
  obtain ⟨S_7, eS_7, hf⟩ := lt_e hf
  refine x_put (pc := 73) (ci := 7) (ws' := wd_Writing G a S_7) C0 KN X 0 rfl rfl inlX7 tyX7_ok nmX7 2 (by decide) kw_5_20 rfl rfl rfl (Nat.le_of_ble_eq_true rfl) (by subst eS_7; rfl) dX7_sendByte_73 (fun H locs X => ?_)
  obtain rfl := so_1 hf
  exact x_vret (pc := 76) C0 X dX7_sendByte_76
set_option maxHeartbeats 4000000 in
set_option maxRecDepth 100000 in
theorem lb_X7_sendByte_21 {l : Launch} {p : Program} {e : Env} {s : State} {m : MethodId} {args : Array Value} {below : List Frame} {meth : Method} {c : Code} {G : xG} {A : Nat → Prop} {a : Nat → Nat} (C0 : xC p s m meth c cX7_sendByte 3 (none) RX7 args) (KN : xKN G s) (hA : ∀ q, s.heap.size ≤ q → A q) (So0 : tt_Writing) : ∀ (S0 : tt_Writing) (x1 : Int64), fn_X7_sendByte_21 S0 x1 = some So0 → ∀ (H : Heap) (locs : List Loc) (ls : Array Slot), xS G A s.heap (wd_Writing G a S0) H locs → lv_has ls 3 [(0, .ref (a 0)), (1, .long x1)] → W p l e ({ frames := 1, cells := 0, slots := 0, locals := 22 }) s m args below meth c H locs 0 0 (MQ below (xQo G none A (wd_Writing G a So0)) args s 0 0 A) (F0 m 21 ls []) := by
  have hx := C0.1
  have hb := C0.2.1
  intro S0 x1 hf H locs ls X hl
  unfold fn_X7_sendByte_21 at hf
  refine lv_aload_n (pc := 21) hx hb dX7_sendByte_21 rfl (lv_at hl 0 rfl) ?_
  refine x_get (pc := 22) (ci := 7) C0 KN X 0 rfl rfl inlX7 1 (by decide) kw_5_19 rfl dX7_sendByte_22 ?_
  refine W.eq (g2 := F0 m 25 ls [.int (gf_Writing_length S0)]) rfl ?_
  refine lv_iconst (pc := 25) (v := 0) hx hb dX7_sendByte_25 (by decide) ?_
  refine lv_sipush (pc := 26) (v := 203) hx hb dX7_sendByte_26 (by decide) ?_
  obtain ⟨r_3, h_4, hf⟩ := bd_e hf
  refine x_csN (pc := 29) (As := [.int (gf_Writing_length S0), .int (0 : Int32), .int (203 : Int32)]) (rest := []) C0 KN (ct_X8_within l (gf_Writing_length S0) (0 : Int32) (203 : Int32) r_3 h_4) kw_8_10 (List.mem_of_getElem? (i := 18) rfl) kw_8_9 kw_1_2 hd_X8_within ⟨by decide, by decide⟩ hl.1 rfl (Nat.le_of_ble_eq_true rfl) ⟨Nat.zero_le _, Nat.zero_le _⟩ dX7_sendByte_29 ?_
  refine W.eq (g2 := F0 m 32 ls [.int r_3]) rfl ?_
  refine lv_if_eq (pc := 32) (tgt := 60) hx hb dX7_sendByte_32 (by decide) (fun c_5 => ?_) (fun c_5 => ?_)
  · have hf := it_p hf c_5
    exact lb_X7_sendByte_60 C0 KN hA _  _ hf _ _ _ X (lv_sub hl [0] rfl)
  · have hf := it_n hf c_5
    refine lv_aload_n (pc := 35) hx hb dX7_sendByte_35 rfl (lv_at hl 0 rfl) ?_
    refine x_get (pc := 36) (ci := 7) C0 KN X 0 rfl rfl inlX7 0 (by decide) kw_5_18 rfl dX7_sendByte_36 ?_
    refine lv_aload_n (pc := 39) hx hb dX7_sendByte_39 rfl (lv_at hl 0 rfl) ?_
    refine x_get (pc := 40) (ci := 7) C0 KN X 0 rfl rfl inlX7 1 (by decide) kw_5_19 rfl dX7_sendByte_40 ?_
    refine W.eq (g2 := F0 m 43 ls [.int (gf_Writing_length S0), .ref (a 1)]) rfl ?_
    refine lv_lload_n (pc := 43) hx hb dX7_sendByte_43 rfl (lv_at hl 1 rfl) ?_
    refine x_ldc2 (pc := 44) C0 kw_24_23 dX7_sendByte_44 ?_
    refine lv_land (pc := 47) hx hb dX7_sendByte_47 ?_
    refine lv_l2i (pc := 48) (v := (x1 &&& (255 : Int64)).toInt32) hx hb dX7_sendByte_48 rfl ?_
    refine lv_topi (fun y_8 ey_8 => ?_)
    have hf := lt_sb hf ey_8
    obtain ⟨g_9, hf⟩ := gd_e hf
    obtain ⟨S_10, eS_10, hf⟩ := lt_e hf
    refine x_ast (pc := 49) (ws' := wd_Writing G a S_10) C0 KN X 1 rfl g_9 (by subst eS_10; rfl) dX7_sendByte_49 (fun H locs X => ?_)
    refine lv_aload_n (pc := 50) hx hb dX7_sendByte_50 rfl (lv_at hl 0 rfl) ?_
    refine lv_dup (pc := 51) hx hb dX7_sendByte_51 rfl ?_
    refine x_get (pc := 52) (ci := 7) C0 KN X 0 rfl rfl inlX7 1 (by decide) kw_5_19 rfl dX7_sendByte_52 ?_
    refine W.eq (g2 := F0 m 55 ls [.int (gf_Writing_length S_10), .ref (a 0)]) rfl ?_
    refine lv_iconst (pc := 55) (v := 1) hx hb dX7_sendByte_55 (by decide) ?_
    refine lv_iadd (pc := 56) hx hb dX7_sendByte_56 ?_
    refine lv_topi (fun y_11 ey_11 => ?_)
    have hf := lt_sb hf ey_11
    obtain ⟨S_12, eS_12, hf⟩ := lt_e hf
    refine x_put (pc := 57) (ci := 7) (ws' := wd_Writing G a S_12) C0 KN X 0 rfl rfl inlX7 tyX7_ok nmX7 1 (by decide) kw_5_19 rfl rfl rfl (Nat.le_of_ble_eq_true rfl) (by subst eS_12; rfl) dX7_sendByte_57 (fun H locs X => ?_)
    exact lb_X7_sendByte_60 C0 KN hA _  _ hf _ _ _ X (lv_sub hl [0] rfl)
theorem hd_X7_sendByte : yX7_sendByte.cls ≠ "java/lang/invoke/MethodHandle" ∧ yX7_sendByte.cls ≠ "java/lang/invoke/VarHandle" ∧ (parseMethodDescriptor yX7_sendByte.desc).map (fun d => d.parameters.length) = some 0 := by decide +kernel
set_option maxHeartbeats 4000000 in
set_option maxRecDepth 100000 in
theorem ct_X7_sendByte (l : Launch) (G : xG) (a : Nat → Nat) (S0 : tt_Writing) (So0 : tt_Writing) (hf : fn_X7_sendByte S0 = some So0) : xM l yX7_sendByte cX7_sendByte 3 (none) 1 22 G [.ref (a 0)] (wd_Writing G a S0) (wd_Writing G a So0) none := by
  refine xMi (by decide) (Nat.le_of_ble_eq_true rfl) ?_
  intro p e s m below meth c A C0 KN hA X ls hl
  have hx := C0.1
  have hb := C0.2.1
  have C0 : xC p s m meth c cX7_sendByte 3 (none) RX7 _ := C0
  have hl : lv_has ls 3 [(0, .ref (a 0))] := hl
  unfold fn_X7_sendByte at hf
  refine lv_aload_n (pc := 0) hx hb dX7_sendByte_0 rfl (lv_at hl 0 rfl) ?_
  refine x_get (pc := 1) (ci := 7) C0 KN X 0 rfl rfl inlX7 2 (by decide) kw_5_20 rfl dX7_sendByte_1 ?_
  refine W.eq (g2 := F0 m 4 ls [.long (gf_Writing_low S0)]) rfl ?_
  refine x_ldc2 (pc := 4) C0 kw_24_12 dX7_sendByte_4 ?_
  refine lv_ldiv (pc := 7) hx hb dX7_sendByte_7 (by decide) ?_
  refine lv_topl (fun y_1 ey_1 => ?_)
  have hf := lt_sb hf ey_1
  refine lv_lstore_n (pc := 8) (lv' := [(1, .long y_1), (0, .ref (a 0))]) hx hb dX7_sendByte_8 rfl hl (by decide) rfl (fun ls hl => ?_)
  refine lv_lload_n (pc := 9) hx hb dX7_sendByte_9 rfl (lv_at hl 0 rfl) ?_
  refine x_ldc2 (pc := 10) C0 kw_24_23 dX7_sendByte_10 ?_
  refine W.lcmp (pc := 13) hx hb dX7_sendByte_13 ?_
  refine lv_if_le (pc := 14) (tgt := 21) hx hb dX7_sendByte_14 (by decide) (fun c_2 => ?_) (fun c_2 => ?_)
  · have hf := it_p hf ((lg_cmp_le y_1 (255 : Int64)).mp c_2)
    exact lb_X7_sendByte_21 C0 KN hA _  _ _ hf _ _ _ X (lv_sub hl [1, 0] rfl)
  · have hf := it_n hf (fun z => c_2 ((lg_cmp_le y_1 (255 : Int64)).mpr z))
    refine lv_aload_n (pc := 17) hx hb dX7_sendByte_17 rfl (lv_at hl 1 rfl) ?_
    obtain ⟨P_13, h_14, hf⟩ := bd_e hf
    refine x_cv (pc := 18) (ws' := wd_Writing G a P_13) (As := []) (rest := []) (ci := 7) (qr := 0) C0 KN X hA [0, 1] [] [0, 1] cu_C11 rfl cu_R11 rfl (by decide) (cu_J11 (S0 := S0)) rfl (ct_X7_carry l G a S0 P_13 h_14) rfl rfl rfl kw_25_3 kw_25_0 kw_25_1 kw_25_2 kw_2_7 hd_X7_carry ⟨by decide, by decide⟩ hl.1 rfl (Nat.le_of_ble_eq_true rfl) ⟨Nat.zero_le _, Nat.zero_le _⟩ dX7_sendByte_18 (fun H locs X => ?_)
    refine W.eq (g2 := F0 m 21 ls []) rfl ?_
    exact lb_X7_sendByte_21 C0 KN hA _  _ _ hf _ _ _ X (lv_sub hl [1, 0] rfl)
theorem hd_X7_fetchByte : yX7_fetchByte.cls ≠ "java/lang/invoke/MethodHandle" ∧ yX7_fetchByte.cls ≠ "java/lang/invoke/VarHandle" ∧ (parseMethodDescriptor yX7_fetchByte.desc).map (fun d => d.parameters.length) = some 0 := by decide +kernel
set_option maxHeartbeats 4000000 in
set_option maxRecDepth 100000 in
theorem ct_X7_fetchByte (l : Launch) (G : xG) (a : Nat → Nat) (S0 : tt_Writing) (So0 : tt_Writing) (hf : fn_X7_fetchByte S0 = some So0) : xM l yX7_fetchByte cX7_fetchByte 1 (none) 2 43 G [.ref (a 0)] (wd_Writing G a S0) (wd_Writing G a So0) none := by
  refine xMi (by decide) (Nat.le_of_ble_eq_true rfl) ?_
  intro p e s m below meth c A C0 KN hA X ls hl
  have hx := C0.1
  have hb := C0.2.1
  have C0 : xC p s m meth c cX7_fetchByte 1 (none) RX7 _ := C0
  have hl : lv_has ls 1 [(0, .ref (a 0))] := hl
  unfold fn_X7_fetchByte at hf
  refine lv_aload_n (pc := 0) hx hb dX7_fetchByte_0 rfl (lv_at hl 0 rfl) ?_
  refine lv_aload_n (pc := 1) hx hb dX7_fetchByte_1 rfl (lv_at hl 0 rfl) ?_
  refine x_get (pc := 2) (ci := 7) C0 KN X 0 rfl rfl inlX7 4 (by decide) kw_5_23 rfl dX7_fetchByte_2 ?_
  refine W.eq (g2 := F0 m 5 ls [.long (gf_Writing_code S0), .ref (a 0)]) rfl ?_
  refine x_ldc2 (pc := 5) C0 kw_24_13 dX7_fetchByte_5 ?_
  refine lv_lmul (pc := 8) hx hb dX7_fetchByte_8 ?_
  refine lv_aload_n (pc := 9) hx hb dX7_fetchByte_9 rfl (lv_at hl 0 rfl) ?_
  refine lv_aload_n (pc := 10) hx hb dX7_fetchByte_10 rfl (lv_at hl 0 rfl) ?_
  refine x_get (pc := 11) (ci := 7) C0 KN X 0 rfl rfl inlX7 5 (by decide) kw_6_0 rfl dX7_fetchByte_11 ?_
  refine W.eq (g2 := F0 m 14 ls [.int (gf_Writing_nextByte S0), .ref (a 0), .long ((gf_Writing_code S0) * (256 : Int64)), .ref (a 0)]) rfl ?_
  obtain ⟨r_1, h_2, hf⟩ := bd_e hf
  refine x_cv (pc := 14) (ws' := wd_Writing G a S0) (As := [.int (gf_Writing_nextByte S0)]) (rest := [.long ((gf_Writing_code S0) * (256 : Int64)), .ref (a 0)]) (ci := 7) (qr := 0) C0 KN X hA [0, 1] [] [0, 1] cu_C12 rfl cu_R12 rfl (by decide) (cu_J12 (S0 := S0)) rfl (ct_X7_byteAt l G a S0 (gf_Writing_nextByte S0) r_1 h_2) rfl rfl rfl kw_25_7 kw_26_22 kw_25_5 kw_25_6 kw_2_7 hd_X7_byteAt ⟨by decide, by decide⟩ hl.1 rfl (Nat.le_of_ble_eq_true rfl) ⟨Nat.zero_le _, Nat.zero_le _⟩ dX7_fetchByte_14 (fun H locs X => ?_)
  refine W.eq (g2 := F0 m 17 ls [.int r_1, .long ((gf_Writing_code S0) * (256 : Int64)), .ref (a 0)]) rfl ?_
  refine lv_i2l (pc := 17) (v := r_1.toInt64) hx hb dX7_fetchByte_17 rfl ?_
  refine lv_ladd (pc := 18) hx hb dX7_fetchByte_18 ?_
  refine lv_topl (fun y_3 ey_3 => ?_)
  have hf := lt_sb hf ey_3
  obtain ⟨S_4, eS_4, hf⟩ := lt_e hf
  refine x_put (pc := 19) (ci := 7) (ws' := wd_Writing G a S_4) C0 KN X 0 rfl rfl inlX7 tyX7_ok nmX7 4 (by decide) kw_5_23 rfl rfl rfl (Nat.le_of_ble_eq_true rfl) (by subst eS_4; rfl) dX7_fetchByte_19 (fun H locs X => ?_)
  refine lv_aload_n (pc := 22) hx hb dX7_fetchByte_22 rfl (lv_at hl 0 rfl) ?_
  refine lv_dup (pc := 23) hx hb dX7_fetchByte_23 rfl ?_
  refine x_get (pc := 24) (ci := 7) C0 KN X 0 rfl rfl inlX7 5 (by decide) kw_6_0 rfl dX7_fetchByte_24 ?_
  refine W.eq (g2 := F0 m 27 ls [.int (gf_Writing_nextByte S_4), .ref (a 0)]) rfl ?_
  refine lv_iconst (pc := 27) (v := 1) hx hb dX7_fetchByte_27 (by decide) ?_
  refine lv_iadd (pc := 28) hx hb dX7_fetchByte_28 ?_
  refine lv_topi (fun y_5 ey_5 => ?_)
  have hf := lt_sb hf ey_5
  obtain ⟨S_6, eS_6, hf⟩ := lt_e hf
  refine x_put (pc := 29) (ci := 7) (ws' := wd_Writing G a S_6) C0 KN X 0 rfl rfl inlX7 tyX7_ok nmX7 5 (by decide) kw_6_0 rfl rfl rfl (Nat.le_of_ble_eq_true rfl) (by subst eS_6; rfl) dX7_fetchByte_29 (fun H locs X => ?_)
  obtain rfl := so_1 hf
  exact x_vret (pc := 32) C0 X dX7_fetchByte_32
set_option maxHeartbeats 4000000 in
set_option maxRecDepth 100000 in
theorem lb_X7_writeSign_42 {l : Launch} {p : Program} {e : Env} {s : State} {m : MethodId} {args : Array Value} {below : List Frame} {meth : Method} {c : Code} {G : xG} {A : Nat → Prop} {a : Nat → Nat} (C0 : xC p s m meth c cX7_writeSign 6 (none) RX7 args) (KN : xKN G s) (hA : ∀ q, s.heap.size ≤ q → A q) (So0 : tt_Writing) (k81 : tt_Writing → Option tt_Writing) (hk81 : ∀ (S0 : tt_Writing), k81 S0 = some So0 → ∀ (H : Heap) (locs : List Loc) (ls : Array Slot), xS G A s.heap (wd_Writing G a S0) H locs → lv_has ls 6 [(0, .ref (a 0))] → W p l e ({ frames := 2, cells := 0, slots := 0, locals := 44 }) s m args below meth c H locs 0 0 (MQ below (xQo G none A (wd_Writing G a So0)) args s 0 0 A) (F0 m 81 ls [])) : ∀ (n : Nat) (S0 : tt_Writing) (x5 : Int32), fl_X7_writeSign_42 k81 n S0 x5 = some So0 → ∀ (H : Heap) (locs : List Loc) (ls : Array Slot), xS G A s.heap (wd_Writing G a S0) H locs → lv_has ls 6 [(0, .ref (a 0)), (5, .int x5)] → W p l e ({ frames := 2, cells := 0, slots := 0, locals := 44 }) s m args below meth c H locs 0 0 (MQ below (xQo G none A (wd_Writing G a So0)) args s 0 0 A) (F0 m 42 ls []) := by
  have hx := C0.1
  have hb := C0.2.1
  intro n
  induction n with
  | zero =>
    intro S0 x5 hf
    have hf : none = some So0 := hf
    cases hf
  | succ n ih =>
    intro S0 x5 hf H locs ls X hl
    rw [fl_X7_writeSign_42] at hf
    refine lv_iload (pc := 42) hx hb dX7_writeSign_42 (lv_at hl 1 rfl) ?_
    refine lv_iconst (pc := 44) (v := 2) hx hb dX7_writeSign_44 (by decide) ?_
    refine lv_icmp_ge (pc := 45) (tgt := 81) hx hb dX7_writeSign_45 (by decide) (fun c_8 => ?_) (fun c_8 => ?_)
    · have hf := it_p hf c_8
      exact hk81 _ hf _ _ _ X (lv_sub hl [0] rfl)
    · have hf := it_n hf c_8
      refine lv_aload_n (pc := 48) hx hb dX7_writeSign_48 rfl (lv_at hl 0 rfl) ?_
      refine x_get (pc := 49) (ci := 7) C0 KN X 0 rfl rfl inlX7 3 (by decide) kw_5_22 rfl dX7_writeSign_49 ?_
      refine W.eq (g2 := F0 m 52 ls [.long (gf_Writing_range S0)]) rfl ?_
      refine x_ldc2 (pc := 52) C0 kw_24_12 dX7_writeSign_52 ?_
      refine W.lcmp (pc := 55) hx hb dX7_writeSign_55 ?_
      refine lv_if_ge (pc := 56) (tgt := 81) hx hb dX7_writeSign_56 (by decide) (fun c_9 => ?_) (fun c_9 => ?_)
      · have hf := it_p hf ((lg_cmp_ge (gf_Writing_range S0) (16777216 : Int64)).mp c_9)
        exact hk81 _ hf _ _ _ X (lv_sub hl [0] rfl)
      · have hf := it_n hf (fun z => c_9 ((lg_cmp_ge (gf_Writing_range S0) (16777216 : Int64)).mpr z))
        refine lv_aload_n (pc := 59) hx hb dX7_writeSign_59 rfl (lv_at hl 0 rfl) ?_
        obtain ⟨P_10, h_11, hf⟩ := bd_e hf
        refine x_cv (pc := 60) (ws' := wd_Writing G a P_10) (As := []) (rest := []) (ci := 7) (qr := 0) C0 KN X hA [0, 1] [] [0, 1] cu_C11 rfl cu_R11 rfl (by decide) (cu_J11 (S0 := S0)) rfl (ct_X7_sendByte l G a S0 P_10 h_11) rfl rfl rfl kw_24_22 kw_24_19 kw_24_20 kw_24_21 kw_2_7 hd_X7_sendByte ⟨by decide, by decide⟩ hl.1 rfl (Nat.le_of_ble_eq_true rfl) ⟨Nat.zero_le _, Nat.zero_le _⟩ dX7_writeSign_60 (fun H locs X => ?_)
        refine W.eq (g2 := F0 m 63 ls []) rfl ?_
        refine lv_aload_n (pc := 63) hx hb dX7_writeSign_63 rfl (lv_at hl 0 rfl) ?_
        refine lv_dup (pc := 64) hx hb dX7_writeSign_64 rfl ?_
        refine x_get (pc := 65) (ci := 7) C0 KN X 0 rfl rfl inlX7 3 (by decide) kw_5_22 rfl dX7_writeSign_65 ?_
        refine W.eq (g2 := F0 m 68 ls [.long (gf_Writing_range P_10), .ref (a 0)]) rfl ?_
        refine x_ldc2 (pc := 68) C0 kw_24_13 dX7_writeSign_68 ?_
        refine lv_lmul (pc := 71) hx hb dX7_writeSign_71 ?_
        refine lv_topl (fun y_12 ey_12 => ?_)
        have hf := lt_sb hf ey_12
        obtain ⟨S_13, eS_13, hf⟩ := lt_e hf
        refine x_put (pc := 72) (ci := 7) (ws' := wd_Writing G a S_13) C0 KN X 0 rfl rfl inlX7 tyX7_ok nmX7 3 (by decide) kw_5_22 rfl rfl rfl (Nat.le_of_ble_eq_true rfl) (by subst eS_13; rfl) dX7_writeSign_72 (fun H locs X => ?_)
        obtain ⟨y_14, ey_14⟩ : ∃ y : Int32, y = x5 + (1 : Int32) := ⟨_, rfl⟩
        have hf := lt_sb hf ey_14
        refine lv_iinc (pc := 75) (v := y_14) (lv' := [(5, .int y_14), (0, .ref (a 0))]) hx hb dX7_writeSign_75 hl (k := 1) rfl (by rw [ey_14]; rfl) (by decide) rfl (fun ls hl => ?_)
        refine lv_goto (pc := 78) (tgt := 42) hx hb dX7_writeSign_78 (by decide) ?_
        exact ih _ _ hf _ _ _ X (lv_sub hl [1, 0] rfl)
set_option maxHeartbeats 4000000 in
set_option maxRecDepth 100000 in
theorem lb_X7_writeSign_39 {l : Launch} {p : Program} {e : Env} {s : State} {m : MethodId} {args : Array Value} {below : List Frame} {meth : Method} {c : Code} {G : xG} {A : Nat → Prop} {a : Nat → Nat} (C0 : xC p s m meth c cX7_writeSign 6 (none) RX7 args) (KN : xKN G s) (hA : ∀ q, s.heap.size ≤ q → A q) (So0 : tt_Writing) : ∀ (S0 : tt_Writing), fn_X7_writeSign_39 S0 = some So0 → ∀ (H : Heap) (locs : List Loc) (ls : Array Slot), xS G A s.heap (wd_Writing G a S0) H locs → lv_has ls 6 [(0, .ref (a 0))] → W p l e ({ frames := 2, cells := 0, slots := 0, locals := 44 }) s m args below meth c H locs 0 0 (MQ below (xQo G none A (wd_Writing G a So0)) args s 0 0 A) (F0 m 39 ls []) := by
  have hx := C0.1
  have hb := C0.2.1
  intro S0 hf H locs ls X hl
  unfold fn_X7_writeSign_39 at hf
  refine lv_iconst (pc := 39) (v := 0) hx hb dX7_writeSign_39 (by decide) ?_
  refine lv_istore (pc := 40) (lv' := [(5, .int (0 : Int32)), (0, .ref (a 0))]) hx hb dX7_writeSign_40 hl (by decide) rfl (fun ls hl => ?_)
  refine lb_X7_writeSign_42 C0 KN hA _ _ ?_ _ _ _ hf _ _ _ X (lv_sub hl [1, 0] rfl)
  · intro S0_e81_15 hf H locs ls X hl
    obtain rfl := so_1 hf
    exact x_vret (pc := 81) C0 X dX7_writeSign_81
theorem hd_X7_writeSign : yX7_writeSign.cls ≠ "java/lang/invoke/MethodHandle" ∧ yX7_writeSign.cls ≠ "java/lang/invoke/VarHandle" ∧ (parseMethodDescriptor yX7_writeSign.desc).map (fun d => d.parameters.length) = some 2 := by decide +kernel
set_option maxHeartbeats 4000000 in
set_option maxRecDepth 100000 in
theorem ct_X7_writeSign (l : Launch) (G : xG) (a : Nat → Nat) (S0 : tt_Writing) (x1 : Int32) (x2 : Int32) (So0 : tt_Writing) (hf : fn_X7_writeSign S0 x1 x2 = some So0) : xM l yX7_writeSign cX7_writeSign 6 (none) 2 44 G [.ref (a 0), .int x1, .int x2] (wd_Writing G a S0) (wd_Writing G a So0) none := by
  refine xMi (by decide) (Nat.le_of_ble_eq_true rfl) ?_
  intro p e s m below meth c A C0 KN hA X ls hl
  have hx := C0.1
  have hb := C0.2.1
  have C0 : xC p s m meth c cX7_writeSign 6 (none) RX7 _ := C0
  have hl : lv_has ls 6 [(0, .ref (a 0)), (1, .int x1), (2, .int x2)] := hl
  unfold fn_X7_writeSign at hf
  refine lv_aload_n (pc := 0) hx hb dX7_writeSign_0 rfl (lv_at hl 0 rfl) ?_
  refine lv_iload_n (pc := 1) hx hb dX7_writeSign_1 rfl (lv_at hl 2 rfl) ?_
  obtain ⟨r_1, h_2, hf⟩ := bd_e hf
  refine x_cv (pc := 2) (ws' := wd_Writing G a S0) (As := [.int x2]) (rest := []) (ci := 7) (qr := 0) C0 KN X hA [0, 1] [] [0, 1] cu_C12 rfl cu_R12 rfl (by decide) (cu_J12 (S0 := S0)) rfl (ct_X7_partOfOne l G a S0 x2 r_1 h_2) rfl rfl rfl kw_24_17 kw_24_14 kw_24_15 kw_24_16 kw_2_7 hd_X7_partOfOne ⟨by decide, by decide⟩ hl.1 rfl (Nat.le_of_ble_eq_true rfl) ⟨Nat.zero_le _, Nat.zero_le _⟩ dX7_writeSign_2 (fun H locs X => ?_)
  refine W.eq (g2 := F0 m 5 ls [.long r_1]) rfl ?_
  refine lv_lstore_n (pc := 5) (lv' := [(3, .long r_1), (0, .ref (a 0)), (1, .int x1), (2, .int x2)]) hx hb dX7_writeSign_5 rfl hl (by decide) rfl (fun ls hl => ?_)
  refine lv_iload_n (pc := 6) hx hb dX7_writeSign_6 rfl (lv_at hl 2 rfl) ?_
  refine lv_iconst (pc := 7) (v := 1) hx hb dX7_writeSign_7 (by decide) ?_
  refine lv_icmp_ne (pc := 8) (tgt := 19) hx hb dX7_writeSign_8 (by decide) (fun c_3 => ?_) (fun c_3 => ?_)
  · have hf := it_n hf c_3
    refine lv_aload_n (pc := 19) hx hb dX7_writeSign_19 rfl (lv_at hl 1 rfl) ?_
    refine lv_dup (pc := 20) hx hb dX7_writeSign_20 rfl ?_
    refine x_get (pc := 21) (ci := 7) C0 KN X 0 rfl rfl inlX7 2 (by decide) kw_5_20 rfl dX7_writeSign_21 ?_
    refine W.eq (g2 := F0 m 24 ls [.long (gf_Writing_low S0), .ref (a 0)]) rfl ?_
    refine lv_lload_n (pc := 24) hx hb dX7_writeSign_24 rfl (lv_at hl 0 rfl) ?_
    refine lv_ladd (pc := 25) hx hb dX7_writeSign_25 ?_
    refine lv_topl (fun y_4 ey_4 => ?_)
    have hf := lt_sb hf ey_4
    obtain ⟨S_5, eS_5, hf⟩ := lt_e hf
    refine x_put (pc := 26) (ci := 7) (ws' := wd_Writing G a S_5) C0 KN X 0 rfl rfl inlX7 tyX7_ok nmX7 2 (by decide) kw_5_20 rfl rfl rfl (Nat.le_of_ble_eq_true rfl) (by subst eS_5; rfl) dX7_writeSign_26 (fun H locs X => ?_)
    refine lv_aload_n (pc := 29) hx hb dX7_writeSign_29 rfl (lv_at hl 1 rfl) ?_
    refine lv_dup (pc := 30) hx hb dX7_writeSign_30 rfl ?_
    refine x_get (pc := 31) (ci := 7) C0 KN X 0 rfl rfl inlX7 3 (by decide) kw_5_22 rfl dX7_writeSign_31 ?_
    refine W.eq (g2 := F0 m 34 ls [.long (gf_Writing_range S_5), .ref (a 0)]) rfl ?_
    refine lv_lload_n (pc := 34) hx hb dX7_writeSign_34 rfl (lv_at hl 0 rfl) ?_
    refine lv_lsub (pc := 35) hx hb dX7_writeSign_35 ?_
    refine lv_topl (fun y_6 ey_6 => ?_)
    have hf := lt_sb hf ey_6
    obtain ⟨S_7, eS_7, hf⟩ := lt_e hf
    refine x_put (pc := 36) (ci := 7) (ws' := wd_Writing G a S_7) C0 KN X 0 rfl rfl inlX7 tyX7_ok nmX7 3 (by decide) kw_5_22 rfl rfl rfl (Nat.le_of_ble_eq_true rfl) (by subst eS_7; rfl) dX7_writeSign_36 (fun H locs X => ?_)
    exact lb_X7_writeSign_39 C0 KN hA _  _ hf _ _ _ X (lv_sub hl [1] rfl)
  · have hf := it_p hf c_3
    refine lv_aload_n (pc := 11) hx hb dX7_writeSign_11 rfl (lv_at hl 1 rfl) ?_
    refine lv_lload_n (pc := 12) hx hb dX7_writeSign_12 rfl (lv_at hl 0 rfl) ?_
    obtain ⟨S_16, eS_16, hf⟩ := lt_e hf
    refine x_put (pc := 13) (ci := 7) (ws' := wd_Writing G a S_16) C0 KN X 0 rfl rfl inlX7 tyX7_ok nmX7 3 (by decide) kw_5_22 rfl rfl rfl (Nat.le_of_ble_eq_true rfl) (by subst eS_16; rfl) dX7_writeSign_13 (fun H locs X => ?_)
    refine lv_goto (pc := 16) (tgt := 39) hx hb dX7_writeSign_16 (by decide) ?_
    exact lb_X7_writeSign_39 C0 KN hA _  _ hf _ _ _ X (lv_sub hl [1] rfl)
set_option maxHeartbeats 4000000 in
set_option maxRecDepth 100000 in
theorem lb_X7_readSign_59 {l : Launch} {p : Program} {e : Env} {s : State} {m : MethodId} {args : Array Value} {below : List Frame} {meth : Method} {c : Code} {G : xG} {A : Nat → Prop} {a : Nat → Nat} (C0 : xC p s m meth c cX7_readSign 6 (some .int) RX7 args) (KN : xKN G s) (hA : ∀ q, s.heap.size ≤ q → A q) (ro : Int32) (So0 : tt_Writing) (k98 : tt_Writing → Int32 → Option (Int32 × tt_Writing)) (hk98 : ∀ (S0 : tt_Writing) (x4 : Int32), k98 S0 x4 = some (ro, So0) → ∀ (H : Heap) (locs : List Loc) (ls : Array Slot), xS G A s.heap (wd_Writing G a S0) H locs → lv_has ls 6 [(0, .ref (a 0)), (4, .int x4)] → W p l e ({ frames := 3, cells := 0, slots := 0, locals := 63 }) s m args below meth c H locs 0 0 (MQ below (xQo G (some (.int ro)) A (wd_Writing G a So0)) args s 0 0 A) (F0 m 98 ls [])) : ∀ (n : Nat) (S0 : tt_Writing) (x4 : Int32) (x5 : Int32), fl_X7_readSign_59 k98 n S0 x4 x5 = some (ro, So0) → ∀ (H : Heap) (locs : List Loc) (ls : Array Slot), xS G A s.heap (wd_Writing G a S0) H locs → lv_has ls 6 [(0, .ref (a 0)), (4, .int x4), (5, .int x5)] → W p l e ({ frames := 3, cells := 0, slots := 0, locals := 63 }) s m args below meth c H locs 0 0 (MQ below (xQo G (some (.int ro)) A (wd_Writing G a So0)) args s 0 0 A) (F0 m 59 ls []) := by
  have hx := C0.1
  have hb := C0.2.1
  intro n
  induction n with
  | zero =>
    intro S0 x4 x5 hf
    have hf : none = some (ro, So0) := hf
    cases hf
  | succ n ih =>
    intro S0 x4 x5 hf H locs ls X hl
    rw [fl_X7_readSign_59] at hf
    refine lv_iload (pc := 59) hx hb dX7_readSign_59 (lv_at hl 2 rfl) ?_
    refine lv_iconst (pc := 61) (v := 2) hx hb dX7_readSign_61 (by decide) ?_
    refine lv_icmp_ge (pc := 62) (tgt := 98) hx hb dX7_readSign_62 (by decide) (fun c_9 => ?_) (fun c_9 => ?_)
    · have hf := it_p hf c_9
      exact hk98 _ _ hf _ _ _ X (lv_sub hl [0, 1] rfl)
    · have hf := it_n hf c_9
      refine lv_aload_n (pc := 65) hx hb dX7_readSign_65 rfl (lv_at hl 0 rfl) ?_
      refine x_get (pc := 66) (ci := 7) C0 KN X 0 rfl rfl inlX7 3 (by decide) kw_5_22 rfl dX7_readSign_66 ?_
      refine W.eq (g2 := F0 m 69 ls [.long (gf_Writing_range S0)]) rfl ?_
      refine x_ldc2 (pc := 69) C0 kw_24_12 dX7_readSign_69 ?_
      refine W.lcmp (pc := 72) hx hb dX7_readSign_72 ?_
      refine lv_if_ge (pc := 73) (tgt := 98) hx hb dX7_readSign_73 (by decide) (fun c_10 => ?_) (fun c_10 => ?_)
      · have hf := it_p hf ((lg_cmp_ge (gf_Writing_range S0) (16777216 : Int64)).mp c_10)
        exact hk98 _ _ hf _ _ _ X (lv_sub hl [0, 1] rfl)
      · have hf := it_n hf (fun z => c_10 ((lg_cmp_ge (gf_Writing_range S0) (16777216 : Int64)).mpr z))
        refine lv_aload_n (pc := 76) hx hb dX7_readSign_76 rfl (lv_at hl 0 rfl) ?_
        obtain ⟨P_11, h_12, hf⟩ := bd_e hf
        refine x_cv (pc := 77) (ws' := wd_Writing G a P_11) (As := []) (rest := []) (ci := 7) (qr := 0) C0 KN X hA [0, 1] [] [0, 1] cu_C11 rfl cu_R11 rfl (by decide) (cu_J11 (S0 := S0)) rfl (ct_X7_fetchByte l G a S0 P_11 h_12) rfl rfl rfl kw_26_21 kw_26_18 kw_26_19 kw_26_20 kw_2_7 hd_X7_fetchByte ⟨by decide, by decide⟩ hl.1 rfl (Nat.le_of_ble_eq_true rfl) ⟨Nat.zero_le _, Nat.zero_le _⟩ dX7_readSign_77 (fun H locs X => ?_)
        refine W.eq (g2 := F0 m 80 ls []) rfl ?_
        refine lv_aload_n (pc := 80) hx hb dX7_readSign_80 rfl (lv_at hl 0 rfl) ?_
        refine lv_dup (pc := 81) hx hb dX7_readSign_81 rfl ?_
        refine x_get (pc := 82) (ci := 7) C0 KN X 0 rfl rfl inlX7 3 (by decide) kw_5_22 rfl dX7_readSign_82 ?_
        refine W.eq (g2 := F0 m 85 ls [.long (gf_Writing_range P_11), .ref (a 0)]) rfl ?_
        refine x_ldc2 (pc := 85) C0 kw_24_13 dX7_readSign_85 ?_
        refine lv_lmul (pc := 88) hx hb dX7_readSign_88 ?_
        refine lv_topl (fun y_13 ey_13 => ?_)
        have hf := lt_sb hf ey_13
        obtain ⟨S_14, eS_14, hf⟩ := lt_e hf
        refine x_put (pc := 89) (ci := 7) (ws' := wd_Writing G a S_14) C0 KN X 0 rfl rfl inlX7 tyX7_ok nmX7 3 (by decide) kw_5_22 rfl rfl rfl (Nat.le_of_ble_eq_true rfl) (by subst eS_14; rfl) dX7_readSign_89 (fun H locs X => ?_)
        obtain ⟨y_15, ey_15⟩ : ∃ y : Int32, y = x5 + (1 : Int32) := ⟨_, rfl⟩
        have hf := lt_sb hf ey_15
        refine lv_iinc (pc := 92) (v := y_15) (lv' := [(5, .int y_15), (0, .ref (a 0)), (4, .int x4)]) hx hb dX7_readSign_92 hl (k := 2) rfl (by rw [ey_15]; rfl) (by decide) rfl (fun ls hl => ?_)
        refine lv_goto (pc := 95) (tgt := 59) hx hb dX7_readSign_95 (by decide) ?_
        exact ih _ _ _ hf _ _ _ X (lv_sub hl [1, 2, 0] rfl)
set_option maxHeartbeats 4000000 in
set_option maxRecDepth 100000 in
theorem lb_X7_readSign_56 {l : Launch} {p : Program} {e : Env} {s : State} {m : MethodId} {args : Array Value} {below : List Frame} {meth : Method} {c : Code} {G : xG} {A : Nat → Prop} {a : Nat → Nat} (C0 : xC p s m meth c cX7_readSign 6 (some .int) RX7 args) (KN : xKN G s) (hA : ∀ q, s.heap.size ≤ q → A q) (ro : Int32) (So0 : tt_Writing) : ∀ (S0 : tt_Writing) (x4 : Int32), fn_X7_readSign_56 S0 x4 = some (ro, So0) → ∀ (H : Heap) (locs : List Loc) (ls : Array Slot), xS G A s.heap (wd_Writing G a S0) H locs → lv_has ls 6 [(0, .ref (a 0)), (4, .int x4)] → W p l e ({ frames := 3, cells := 0, slots := 0, locals := 63 }) s m args below meth c H locs 0 0 (MQ below (xQo G (some (.int ro)) A (wd_Writing G a So0)) args s 0 0 A) (F0 m 56 ls []) := by
  have hx := C0.1
  have hb := C0.2.1
  intro S0 x4 hf H locs ls X hl
  unfold fn_X7_readSign_56 at hf
  refine lv_iconst (pc := 56) (v := 0) hx hb dX7_readSign_56 (by decide) ?_
  refine lv_istore (pc := 57) (lv' := [(5, .int (0 : Int32)), (0, .ref (a 0)), (4, .int x4)]) hx hb dX7_readSign_57 hl (by decide) rfl (fun ls hl => ?_)
  refine lb_X7_readSign_59 C0 KN hA _ _ _ ?_ _ _ _ _ hf _ _ _ X (lv_sub hl [1, 2, 0] rfl)
  · intro S0_e98_16 x4_e98_16 hf H locs ls X hl
    refine lv_iload (pc := 98) hx hb dX7_readSign_98 (lv_at hl 1 rfl) ?_
    obtain ⟨rfl, rfl⟩ := so_2 hf
    exact x_iret (pc := 100) C0 X dX7_readSign_100
set_option maxHeartbeats 4000000 in
set_option maxRecDepth 100000 in
theorem lb_X7_readSign_20 {l : Launch} {p : Program} {e : Env} {s : State} {m : MethodId} {args : Array Value} {below : List Frame} {meth : Method} {c : Code} {G : xG} {A : Nat → Prop} {a : Nat → Nat} (C0 : xC p s m meth c cX7_readSign 6 (some .int) RX7 args) (KN : xKN G s) (hA : ∀ q, s.heap.size ≤ q → A q) (ro : Int32) (So0 : tt_Writing) : ∀ (S0 : tt_Writing) (x2 : Int64) (t0 : Int32), fn_X7_readSign_20 S0 x2 t0 = some (ro, So0) → ∀ (H : Heap) (locs : List Loc) (ls : Array Slot), xS G A s.heap (wd_Writing G a S0) H locs → lv_has ls 6 [(0, .ref (a 0)), (2, .long x2)] → W p l e ({ frames := 3, cells := 0, slots := 0, locals := 63 }) s m args below meth c H locs 0 0 (MQ below (xQo G (some (.int ro)) A (wd_Writing G a So0)) args s 0 0 A) (F0 m 20 ls [.int t0]) := by
  have hx := C0.1
  have hb := C0.2.1
  intro S0 x2 t0 hf H locs ls X hl
  unfold fn_X7_readSign_20 at hf
  refine lv_istore (pc := 20) (lv' := [(4, .int t0), (0, .ref (a 0)), (2, .long x2)]) hx hb dX7_readSign_20 hl (by decide) rfl (fun ls hl => ?_)
  refine lv_iload (pc := 22) hx hb dX7_readSign_22 (lv_at hl 0 rfl) ?_
  refine lv_iconst (pc := 24) (v := 1) hx hb dX7_readSign_24 (by decide) ?_
  refine lv_icmp_ne (pc := 25) (tgt := 36) hx hb dX7_readSign_25 (by decide) (fun c_4 => ?_) (fun c_4 => ?_)
  · have hf := it_n hf c_4
    refine lv_aload_n (pc := 36) hx hb dX7_readSign_36 rfl (lv_at hl 1 rfl) ?_
    refine lv_dup (pc := 37) hx hb dX7_readSign_37 rfl ?_
    refine x_get (pc := 38) (ci := 7) C0 KN X 0 rfl rfl inlX7 4 (by decide) kw_5_23 rfl dX7_readSign_38 ?_
    refine W.eq (g2 := F0 m 41 ls [.long (gf_Writing_code S0), .ref (a 0)]) rfl ?_
    refine lv_lload_n (pc := 41) hx hb dX7_readSign_41 rfl (lv_at hl 2 rfl) ?_
    refine lv_lsub (pc := 42) hx hb dX7_readSign_42 ?_
    refine lv_topl (fun y_5 ey_5 => ?_)
    have hf := lt_sb hf ey_5
    obtain ⟨S_6, eS_6, hf⟩ := lt_e hf
    refine x_put (pc := 43) (ci := 7) (ws' := wd_Writing G a S_6) C0 KN X 0 rfl rfl inlX7 tyX7_ok nmX7 4 (by decide) kw_5_23 rfl rfl rfl (Nat.le_of_ble_eq_true rfl) (by subst eS_6; rfl) dX7_readSign_43 (fun H locs X => ?_)
    refine lv_aload_n (pc := 46) hx hb dX7_readSign_46 rfl (lv_at hl 1 rfl) ?_
    refine lv_dup (pc := 47) hx hb dX7_readSign_47 rfl ?_
    refine x_get (pc := 48) (ci := 7) C0 KN X 0 rfl rfl inlX7 3 (by decide) kw_5_22 rfl dX7_readSign_48 ?_
    refine W.eq (g2 := F0 m 51 ls [.long (gf_Writing_range S_6), .ref (a 0)]) rfl ?_
    refine lv_lload_n (pc := 51) hx hb dX7_readSign_51 rfl (lv_at hl 2 rfl) ?_
    refine lv_lsub (pc := 52) hx hb dX7_readSign_52 ?_
    refine lv_topl (fun y_7 ey_7 => ?_)
    have hf := lt_sb hf ey_7
    obtain ⟨S_8, eS_8, hf⟩ := lt_e hf
    refine x_put (pc := 53) (ci := 7) (ws' := wd_Writing G a S_8) C0 KN X 0 rfl rfl inlX7 tyX7_ok nmX7 3 (by decide) kw_5_22 rfl rfl rfl (Nat.le_of_ble_eq_true rfl) (by subst eS_8; rfl) dX7_readSign_53 (fun H locs X => ?_)
    exact lb_X7_readSign_56 C0 KN hA _ _  _ _ hf _ _ _ X (lv_sub hl [1, 0] rfl)
  · have hf := it_p hf c_4
    refine lv_aload_n (pc := 28) hx hb dX7_readSign_28 rfl (lv_at hl 1 rfl) ?_
    refine lv_lload_n (pc := 29) hx hb dX7_readSign_29 rfl (lv_at hl 2 rfl) ?_
    obtain ⟨S_17, eS_17, hf⟩ := lt_e hf
    refine x_put (pc := 30) (ci := 7) (ws' := wd_Writing G a S_17) C0 KN X 0 rfl rfl inlX7 tyX7_ok nmX7 3 (by decide) kw_5_22 rfl rfl rfl (Nat.le_of_ble_eq_true rfl) (by subst eS_17; rfl) dX7_readSign_30 (fun H locs X => ?_)
    refine lv_goto (pc := 33) (tgt := 56) hx hb dX7_readSign_33 (by decide) ?_
    exact lb_X7_readSign_56 C0 KN hA _ _  _ _ hf _ _ _ X (lv_sub hl [1, 0] rfl)
theorem hd_X7_readSign : yX7_readSign.cls ≠ "java/lang/invoke/MethodHandle" ∧ yX7_readSign.cls ≠ "java/lang/invoke/VarHandle" ∧ (parseMethodDescriptor yX7_readSign.desc).map (fun d => d.parameters.length) = some 1 := by decide +kernel
set_option maxHeartbeats 4000000 in
set_option maxRecDepth 100000 in
theorem ct_X7_readSign (l : Launch) (G : xG) (a : Nat → Nat) (S0 : tt_Writing) (x1 : Int32) (ro : Int32) (So0 : tt_Writing) (hf : fn_X7_readSign S0 x1 = some (ro, So0)) : xM l yX7_readSign cX7_readSign 6 (some .int) 3 63 G [.ref (a 0), .int x1] (wd_Writing G a S0) (wd_Writing G a So0) (some (.int ro)) := by
  refine xMi (by decide) (Nat.le_of_ble_eq_true rfl) ?_
  intro p e s m below meth c A C0 KN hA X ls hl
  have hx := C0.1
  have hb := C0.2.1
  have C0 : xC p s m meth c cX7_readSign 6 (some .int) RX7 _ := C0
  have hl : lv_has ls 6 [(0, .ref (a 0)), (1, .int x1)] := hl
  unfold fn_X7_readSign at hf
  refine lv_aload_n (pc := 0) hx hb dX7_readSign_0 rfl (lv_at hl 0 rfl) ?_
  refine lv_iload_n (pc := 1) hx hb dX7_readSign_1 rfl (lv_at hl 1 rfl) ?_
  obtain ⟨r_1, h_2, hf⟩ := bd_e hf
  refine x_cv (pc := 2) (ws' := wd_Writing G a S0) (As := [.int x1]) (rest := []) (ci := 7) (qr := 0) C0 KN X hA [0, 1] [] [0, 1] cu_C12 rfl cu_R12 rfl (by decide) (cu_J12 (S0 := S0)) rfl (ct_X7_partOfOne l G a S0 x1 r_1 h_2) rfl rfl rfl kw_24_17 kw_24_14 kw_24_15 kw_24_16 kw_2_7 hd_X7_partOfOne ⟨by decide, by decide⟩ hl.1 rfl (Nat.le_of_ble_eq_true rfl) ⟨Nat.zero_le _, Nat.zero_le _⟩ dX7_readSign_2 (fun H locs X => ?_)
  refine W.eq (g2 := F0 m 5 ls [.long r_1]) rfl ?_
  refine lv_lstore_n (pc := 5) (lv' := [(2, .long r_1), (0, .ref (a 0)), (1, .int x1)]) hx hb dX7_readSign_5 rfl hl (by decide) rfl (fun ls hl => ?_)
  refine lv_aload_n (pc := 6) hx hb dX7_readSign_6 rfl (lv_at hl 1 rfl) ?_
  refine x_get (pc := 7) (ci := 7) C0 KN X 0 rfl rfl inlX7 4 (by decide) kw_5_23 rfl dX7_readSign_7 ?_
  refine W.eq (g2 := F0 m 10 ls [.long (gf_Writing_code S0)]) rfl ?_
  refine lv_lload_n (pc := 10) hx hb dX7_readSign_10 rfl (lv_at hl 0 rfl) ?_
  refine W.lcmp (pc := 11) hx hb dX7_readSign_11 ?_
  refine lv_if_ge (pc := 12) (tgt := 19) hx hb dX7_readSign_12 (by decide) (fun c_3 => ?_) (fun c_3 => ?_)
  · have hf := it_p hf ((lg_cmp_ge (gf_Writing_code S0) r_1).mp c_3)
    refine lv_iconst (pc := 19) (v := 0) hx hb dX7_readSign_19 (by decide) ?_
    exact lb_X7_readSign_20 C0 KN hA _ _  _ _ _ hf _ _ _ X (lv_sub hl [1, 0] rfl)
  · have hf := it_n hf (fun z => c_3 ((lg_cmp_ge (gf_Writing_code S0) r_1).mpr z))
    refine lv_iconst (pc := 15) (v := 1) hx hb dX7_readSign_15 (by decide) ?_
    refine lv_goto (pc := 16) (tgt := 20) hx hb dX7_readSign_16 (by decide) ?_
    exact lb_X7_readSign_20 C0 KN hA _ _  _ _ _ hf _ _ _ X (lv_sub hl [1, 0] rfl)
set_option maxHeartbeats 4000000 in
set_option maxRecDepth 100000 in
theorem lb_X7_write_19 {l : Launch} {p : Program} {e : Env} {s : State} {m : MethodId} {args : Array Value} {below : List Frame} {meth : Method} {c : Code} {G : xG} {A : Nat → Prop} {a b : Nat → Nat} (C0 : xC p s m meth c cX7_write 3 (none) RX7 args) (KN : xKN G s) (hA : ∀ q, s.heap.size ≤ q → A q) (S1 : tt_Row) (So0 : tt_Writing) (k49 : tt_Writing → Option tt_Writing) (hk49 : ∀ (S0 : tt_Writing), k49 S0 = some So0 → ∀ (H : Heap) (locs : List Loc) (ls : Array Slot), xS G A s.heap (wd_Writing G a S0 ++ wd_Row G b S1) H locs → lv_has ls 3 [(0, .ref (a 0)), (1, .ref (b 0))] → W p l e ({ frames := 3, cells := 0, slots := 0, locals := 69 }) s m args below meth c H locs 0 0 (MQ below (xQo G none A (wd_Writing G a So0 ++ wd_Row G b S1)) args s 0 0 A) (F0 m 49 ls [])) : ∀ (n : Nat) (S0 : tt_Writing) (x2 : Int32), fl_X7_write_19 k49 S1 n S0 x2 = some So0 → ∀ (H : Heap) (locs : List Loc) (ls : Array Slot), xS G A s.heap (wd_Writing G a S0 ++ wd_Row G b S1) H locs → lv_has ls 3 [(0, .ref (a 0)), (1, .ref (b 0)), (2, .int x2)] → W p l e ({ frames := 3, cells := 0, slots := 0, locals := 69 }) s m args below meth c H locs 0 0 (MQ below (xQo G none A (wd_Writing G a So0 ++ wd_Row G b S1)) args s 0 0 A) (F0 m 19 ls []) := by
  have hx := C0.1
  have hb := C0.2.1
  intro n
  induction n with
  | zero =>
    intro S0 x2 hf
    have hf : none = some So0 := hf
    cases hf
  | succ n ih =>
    intro S0 x2 hf H locs ls X hl
    rw [fl_X7_write_19] at hf
    refine lv_iload_n (pc := 19) hx hb dX7_write_19 rfl (lv_at hl 2 rfl) ?_
    refine lv_aload_n (pc := 20) hx hb dX7_write_20 rfl (lv_at hl 1 rfl) ?_
    refine x_get (pc := 21) (ci := 3) C0 KN X 2 rfl rfl inlX3 4 (by decide) kw_24_5 rfl dX7_write_21 ?_
    refine W.eq (g2 := F0 m 24 ls [.int (gf_Row_length S1), .int x2]) rfl ?_
    refine lv_icmp_ge (pc := 24) (tgt := 49) hx hb dX7_write_24 (by decide) (fun c_4 => ?_) (fun c_4 => ?_)
    · have hf := it_p hf c_4
      exact hk49 _ hf _ _ _ X (lv_sub hl [0, 1] rfl)
    · have hf := it_n hf c_4
      refine lv_aload_n (pc := 27) hx hb dX7_write_27 rfl (lv_at hl 0 rfl) ?_
      refine lv_aload_n (pc := 28) hx hb dX7_write_28 rfl (lv_at hl 1 rfl) ?_
      refine x_get (pc := 29) (ci := 3) C0 KN X 2 rfl rfl inlX3 0 (by decide) kw_24_6 rfl dX7_write_29 ?_
      refine lv_iload_n (pc := 32) hx hb dX7_write_32 rfl (lv_at hl 2 rfl) ?_
      obtain ⟨g_5, hf⟩ := gd_e hf
      refine x_ald (pc := 33) C0 KN X 3 rfl g_5 dX7_write_33 ?_
      refine W.eq (g2 := F0 m 34 ls [.int ((gf_Row_signs S1) x2.toNatClampNeg), .ref (a 0)]) rfl ?_
      refine lv_aload_n (pc := 34) hx hb dX7_write_34 rfl (lv_at hl 1 rfl) ?_
      refine x_get (pc := 35) (ci := 3) C0 KN X 2 rfl rfl inlX3 1 (by decide) kw_24_7 rfl dX7_write_35 ?_
      refine lv_iload_n (pc := 38) hx hb dX7_write_38 rfl (lv_at hl 2 rfl) ?_
      obtain ⟨g_6, hf⟩ := gd_e hf
      refine x_ald (pc := 39) C0 KN X 4 rfl g_6 dX7_write_39 ?_
      refine W.eq (g2 := F0 m 40 ls [.int ((gf_Row_foretold S1) x2.toNatClampNeg), .int ((gf_Row_signs S1) x2.toNatClampNeg), .ref (a 0)]) rfl ?_
      obtain ⟨P_7, h_8, hf⟩ := bd_e hf
      refine x_cv (pc := 40) (ws' := wd_Writing G a P_7 ++ wd_Row G b S1) (As := [.int ((gf_Row_signs S1) x2.toNatClampNeg), .int ((gf_Row_foretold S1) x2.toNatClampNeg)]) (rest := []) (ci := 7) (qr := 0) C0 KN X hA [0, 1] [2, 3, 4, 5, 6, 7, 8, 9, 10, 11, 12] [11, 12, 0, 1, 2, 3, 4, 5, 6, 7, 8, 9, 10] cu_C13 rfl cu_R13 rfl (by decide) (cu_J13 (S0 := S0) (S1 := S1)) rfl (ct_X7_writeSign l G a S0 ((gf_Row_signs S1) x2.toNatClampNeg) ((gf_Row_foretold S1) x2.toNatClampNeg) P_7 h_8) rfl rfl rfl kw_24_11 kw_24_8 kw_24_9 kw_24_10 kw_2_7 hd_X7_writeSign ⟨by decide, by decide⟩ hl.1 rfl (Nat.le_of_ble_eq_true rfl) ⟨Nat.zero_le _, Nat.zero_le _⟩ dX7_write_40 (fun H locs X => ?_)
      refine W.eq (g2 := F0 m 43 ls []) rfl ?_
      obtain ⟨y_9, ey_9⟩ : ∃ y : Int32, y = x2 + (1 : Int32) := ⟨_, rfl⟩
      have hf := lt_sb hf ey_9
      refine lv_iinc (pc := 43) (v := y_9) (lv' := [(2, .int y_9), (0, .ref (a 0)), (1, .ref (b 0))]) hx hb dX7_write_43 hl (k := 2) rfl (by rw [ey_9]; rfl) (by decide) rfl (fun ls hl => ?_)
      refine lv_goto (pc := 46) (tgt := 19) hx hb dX7_write_46 (by decide) ?_
      exact ih _ _ hf _ _ _ X (lv_sub hl [1, 2, 0] rfl)
set_option maxHeartbeats 4000000 in
set_option maxRecDepth 100000 in
theorem lb_X7_write_51 {l : Launch} {p : Program} {e : Env} {s : State} {m : MethodId} {args : Array Value} {below : List Frame} {meth : Method} {c : Code} {G : xG} {A : Nat → Prop} {a b : Nat → Nat} (C0 : xC p s m meth c cX7_write 3 (none) RX7 args) (KN : xKN G s) (hA : ∀ q, s.heap.size ≤ q → A q) (S1 : tt_Row) (So0 : tt_Writing) (k66 : tt_Writing → Option tt_Writing) (hk66 : ∀ (S0 : tt_Writing), k66 S0 = some So0 → ∀ (H : Heap) (locs : List Loc) (ls : Array Slot), xS G A s.heap (wd_Writing G a S0 ++ wd_Row G b S1) H locs → lv_has ls 3 [(0, .ref (a 0)), (1, .ref (b 0))] → W p l e ({ frames := 3, cells := 0, slots := 0, locals := 69 }) s m args below meth c H locs 0 0 (MQ below (xQo G none A (wd_Writing G a So0 ++ wd_Row G b S1)) args s 0 0 A) (F0 m 66 ls [])) : ∀ (n : Nat) (S0 : tt_Writing) (x2 : Int32), fl_X7_write_51 k66 S1 n S0 x2 = some So0 → ∀ (H : Heap) (locs : List Loc) (ls : Array Slot), xS G A s.heap (wd_Writing G a S0 ++ wd_Row G b S1) H locs → lv_has ls 3 [(0, .ref (a 0)), (1, .ref (b 0)), (2, .int x2)] → W p l e ({ frames := 3, cells := 0, slots := 0, locals := 69 }) s m args below meth c H locs 0 0 (MQ below (xQo G none A (wd_Writing G a So0 ++ wd_Row G b S1)) args s 0 0 A) (F0 m 51 ls []) := by
  have hx := C0.1
  have hb := C0.2.1
  intro n
  induction n with
  | zero =>
    intro S0 x2 hf
    have hf : none = some So0 := hf
    cases hf
  | succ n ih =>
    intro S0 x2 hf H locs ls X hl
    rw [fl_X7_write_51] at hf
    refine lv_iload_n (pc := 51) hx hb dX7_write_51 rfl (lv_at hl 2 rfl) ?_
    refine lv_iconst (pc := 52) (v := 4) hx hb dX7_write_52 (by decide) ?_
    refine lv_icmp_ge (pc := 53) (tgt := 66) hx hb dX7_write_53 (by decide) (fun c_11 => ?_) (fun c_11 => ?_)
    · have hf := it_p hf c_11
      exact hk66 _ hf _ _ _ X (lv_sub hl [0, 1] rfl)
    · have hf := it_n hf c_11
      refine lv_aload_n (pc := 56) hx hb dX7_write_56 rfl (lv_at hl 0 rfl) ?_
      obtain ⟨P_12, h_13, hf⟩ := bd_e hf
      refine x_cv (pc := 57) (ws' := wd_Writing G a P_12 ++ wd_Row G b S1) (As := []) (rest := []) (ci := 7) (qr := 0) C0 KN X hA [0, 1] [2, 3, 4, 5, 6, 7, 8, 9, 10, 11, 12] [11, 12, 0, 1, 2, 3, 4, 5, 6, 7, 8, 9, 10] cu_C13 rfl cu_R13 rfl (by decide) (cu_J13 (S0 := S0) (S1 := S1)) rfl (ct_X7_sendByte l G a S0 P_12 h_13) rfl rfl rfl kw_24_22 kw_24_19 kw_24_20 kw_24_21 kw_2_7 hd_X7_sendByte ⟨by decide, by decide⟩ hl.1 rfl (Nat.le_of_ble_eq_true rfl) ⟨Nat.zero_le _, Nat.zero_le _⟩ dX7_write_57 (fun H locs X => ?_)
      refine W.eq (g2 := F0 m 60 ls []) rfl ?_
      obtain ⟨y_14, ey_14⟩ : ∃ y : Int32, y = x2 + (1 : Int32) := ⟨_, rfl⟩
      have hf := lt_sb hf ey_14
      refine lv_iinc (pc := 60) (v := y_14) (lv' := [(2, .int y_14), (0, .ref (a 0)), (1, .ref (b 0))]) hx hb dX7_write_60 hl (k := 2) rfl (by rw [ey_14]; rfl) (by decide) rfl (fun ls hl => ?_)
      refine lv_goto (pc := 63) (tgt := 51) hx hb dX7_write_63 (by decide) ?_
      exact ih _ _ hf _ _ _ X (lv_sub hl [1, 2, 0] rfl)
theorem hd_X7_write : yX7_write.cls ≠ "java/lang/invoke/MethodHandle" ∧ yX7_write.cls ≠ "java/lang/invoke/VarHandle" ∧ (parseMethodDescriptor yX7_write.desc).map (fun d => d.parameters.length) = some 1 := by decide +kernel
set_option maxHeartbeats 4000000 in
set_option maxRecDepth 100000 in
theorem ct_X7_write (l : Launch) (G : xG) (a b : Nat → Nat) (S0 : tt_Writing) (S1 : tt_Row) (So0 : tt_Writing) (hf : fn_X7_write S0 S1 = some So0) : xM l yX7_write cX7_write 3 (none) 3 69 G [.ref (a 0), .ref (b 0)] (wd_Writing G a S0 ++ wd_Row G b S1) (wd_Writing G a So0 ++ wd_Row G b S1) none := by
  refine xMi (by decide) (Nat.le_of_ble_eq_true rfl) ?_
  intro p e s m below meth c A C0 KN hA X ls hl
  have hx := C0.1
  have hb := C0.2.1
  have C0 : xC p s m meth c cX7_write 3 (none) RX7 _ := C0
  have hl : lv_has ls 3 [(0, .ref (a 0)), (1, .ref (b 0))] := hl
  unfold fn_X7_write at hf
  refine lv_aload_n (pc := 0) hx hb dX7_write_0 rfl (lv_at hl 0 rfl) ?_
  refine lv_iconst (pc := 1) (v := 0) hx hb dX7_write_1 (by decide) ?_
  obtain ⟨S_1, eS_1, hf⟩ := lt_e hf
  refine x_put (pc := 2) (ci := 7) (ws' := wd_Writing G a S_1 ++ wd_Row G b S1) C0 KN X 0 rfl rfl inlX7 tyX7_ok nmX7 1 (by decide) kw_5_19 rfl rfl rfl (Nat.le_of_ble_eq_true rfl) (by subst eS_1; rfl) dX7_write_2 (fun H locs X => ?_)
  refine lv_aload_n (pc := 5) hx hb dX7_write_5 rfl (lv_at hl 0 rfl) ?_
  refine lv_lconst (pc := 6) (v := 0) hx hb dX7_write_6 (by decide) ?_
  obtain ⟨S_2, eS_2, hf⟩ := lt_e hf
  refine x_put (pc := 7) (ci := 7) (ws' := wd_Writing G a S_2 ++ wd_Row G b S1) C0 KN X 0 rfl rfl inlX7 tyX7_ok nmX7 2 (by decide) kw_5_20 rfl rfl rfl (Nat.le_of_ble_eq_true rfl) (by subst eS_2; rfl) dX7_write_7 (fun H locs X => ?_)
  refine lv_aload_n (pc := 10) hx hb dX7_write_10 rfl (lv_at hl 0 rfl) ?_
  refine x_ldc2 (pc := 11) C0 kw_5_21 dX7_write_11 ?_
  obtain ⟨S_3, eS_3, hf⟩ := lt_e hf
  refine x_put (pc := 14) (ci := 7) (ws' := wd_Writing G a S_3 ++ wd_Row G b S1) C0 KN X 0 rfl rfl inlX7 tyX7_ok nmX7 3 (by decide) kw_5_22 rfl rfl rfl (Nat.le_of_ble_eq_true rfl) (by subst eS_3; rfl) dX7_write_14 (fun H locs X => ?_)
  refine lv_iconst (pc := 17) (v := 0) hx hb dX7_write_17 (by decide) ?_
  refine lv_istore_n (pc := 18) (lv' := [(2, .int (0 : Int32)), (0, .ref (a 0)), (1, .ref (b 0))]) hx hb dX7_write_18 rfl hl (by decide) rfl (fun ls hl => ?_)
  refine lb_X7_write_19 C0 KN hA S1 _ _ ?_ _ _ _ hf _ _ _ X (lv_sub hl [1, 2, 0] rfl)
  · intro S0_e49_10 hf H locs ls X hl
    refine lv_iconst (pc := 49) (v := 0) hx hb dX7_write_49 (by decide) ?_
    refine lv_istore_n (pc := 50) (lv' := [(2, .int (0 : Int32)), (0, .ref (a 0)), (1, .ref (b 0))]) hx hb dX7_write_50 rfl hl (by decide) rfl (fun ls hl => ?_)
    refine lb_X7_write_51 C0 KN hA S1 _ _ ?_ _ _ _ hf _ _ _ X (lv_sub hl [1, 2, 0] rfl)
    · intro S0_e66_15 hf H locs ls X hl
      obtain rfl := so_1 hf
      exact x_vret (pc := 66) C0 X dX7_write_66
set_option maxHeartbeats 4000000 in
set_option maxRecDepth 100000 in
theorem lb_X7_readAgain_37 {l : Launch} {p : Program} {e : Env} {s : State} {m : MethodId} {args : Array Value} {below : List Frame} {meth : Method} {c : Code} {G : xG} {A : Nat → Prop} {a b d : Nat → Nat} (C0 : xC p s m meth c cX7_readAgain 6 (some .int) RX7 args) (KN : xKN G s) (hA : ∀ q, s.heap.size ≤ q → A q) (S1 : tt_Row) (ro : Int32) (So0 : tt_Writing) (So2 : tt_Pasts) (k52 : tt_Writing → tt_Pasts → Option (Int32 × tt_Writing × tt_Pasts)) (hk52 : ∀ (S0 : tt_Writing) (S2 : tt_Pasts), k52 S0 S2 = some (ro, So0, So2) → ∀ (H : Heap) (locs : List Loc) (ls : Array Slot), xS G A s.heap (wd_Writing G a S0 ++ wd_Row G b S1 ++ wd_Pasts G d S2) H locs → lv_has ls 6 [(0, .ref (a 0)), (1, .ref (b 0)), (2, .ref (d 0))] → W p l e ({ frames := 4, cells := 0, slots := 0, locals := 94 }) s m args below meth c H locs 0 0 (MQ below (xQo G (some (.int ro)) A (wd_Writing G a So0 ++ wd_Row G b S1 ++ wd_Pasts G d So2)) args s 0 0 A) (F0 m 52 ls [])) : ∀ (n : Nat) (S0 : tt_Writing) (S2 : tt_Pasts) (x3 : Int32), fl_X7_readAgain_37 k52 S1 n S0 S2 x3 = some (ro, So0, So2) → ∀ (H : Heap) (locs : List Loc) (ls : Array Slot), xS G A s.heap (wd_Writing G a S0 ++ wd_Row G b S1 ++ wd_Pasts G d S2) H locs → lv_has ls 6 [(0, .ref (a 0)), (1, .ref (b 0)), (2, .ref (d 0)), (3, .int x3)] → W p l e ({ frames := 4, cells := 0, slots := 0, locals := 94 }) s m args below meth c H locs 0 0 (MQ below (xQo G (some (.int ro)) A (wd_Writing G a So0 ++ wd_Row G b S1 ++ wd_Pasts G d So2)) args s 0 0 A) (F0 m 37 ls []) := by
  have hx := C0.1
  have hb := C0.2.1
  intro n
  induction n with
  | zero =>
    intro S0 S2 x3 hf
    have hf : none = some (ro, So0, So2) := hf
    cases hf
  | succ n ih =>
    intro S0 S2 x3 hf H locs ls X hl
    rw [fl_X7_readAgain_37] at hf
    refine lv_iload_n (pc := 37) hx hb dX7_readAgain_37 rfl (lv_at hl 3 rfl) ?_
    refine lv_iconst (pc := 38) (v := 4) hx hb dX7_readAgain_38 (by decide) ?_
    refine lv_icmp_ge (pc := 39) (tgt := 52) hx hb dX7_readAgain_39 (by decide) (fun c_6 => ?_) (fun c_6 => ?_)
    · have hf := it_p hf c_6
      exact hk52 _ _ hf _ _ _ X (lv_sub hl [0, 1, 2] rfl)
    · have hf := it_n hf c_6
      refine lv_aload_n (pc := 42) hx hb dX7_readAgain_42 rfl (lv_at hl 0 rfl) ?_
      obtain ⟨P_7, h_8, hf⟩ := bd_e hf
      refine x_cv (pc := 43) (ws' := wd_Writing G a P_7 ++ wd_Row G b S1 ++ wd_Pasts G d S2) (As := []) (rest := []) (ci := 7) (qr := 0) C0 KN X hA [0, 1] [2, 3, 4, 5, 6, 7, 8, 9, 10, 11, 12, 13, 14, 15, 16, 17, 18, 19] [18, 19, 0, 1, 2, 3, 4, 5, 6, 7, 8, 9, 10, 11, 12, 13, 14, 15, 16, 17] cu_C15 rfl cu_R15 rfl (by decide) (cu_J15 (S0 := S0) (S1 := S1) (S2 := S2)) rfl (ct_X7_fetchByte l G a S0 P_7 h_8) rfl rfl rfl kw_26_21 kw_26_18 kw_26_19 kw_26_20 kw_2_7 hd_X7_fetchByte ⟨by decide, by decide⟩ hl.1 rfl (Nat.le_of_ble_eq_true rfl) ⟨Nat.zero_le _, Nat.zero_le _⟩ dX7_readAgain_43 (fun H locs X => ?_)
      refine W.eq (g2 := F0 m 46 ls []) rfl ?_
      obtain ⟨y_9, ey_9⟩ : ∃ y : Int32, y = x3 + (1 : Int32) := ⟨_, rfl⟩
      have hf := lt_sb hf ey_9
      refine lv_iinc (pc := 46) (v := y_9) (lv' := [(3, .int y_9), (0, .ref (a 0)), (1, .ref (b 0)), (2, .ref (d 0))]) hx hb dX7_readAgain_46 hl (k := 3) rfl (by rw [ey_9]; rfl) (by decide) rfl (fun ls hl => ?_)
      refine lv_goto (pc := 49) (tgt := 37) hx hb dX7_readAgain_49 (by decide) ?_
      exact ih _ _ _ hf _ _ _ X (lv_sub hl [1, 2, 3, 0] rfl)
set_option maxHeartbeats 4000000 in
set_option maxRecDepth 100000 in
theorem lb_X7_readAgain_97 {l : Launch} {p : Program} {e : Env} {s : State} {m : MethodId} {args : Array Value} {below : List Frame} {meth : Method} {c : Code} {G : xG} {A : Nat → Prop} {a b d : Nat → Nat} (C0 : xC p s m meth c cX7_readAgain 6 (some .int) RX7 args) (KN : xKN G s) (hA : ∀ q, s.heap.size ≤ q → A q) (S1 : tt_Row) (ro : Int32) (So0 : tt_Writing) (So2 : tt_Pasts) (k57 : tt_Writing → tt_Pasts → Int32 → Int32 → Option (Int32 × tt_Writing × tt_Pasts)) (hk57 : ∀ (S0 : tt_Writing) (S2 : tt_Pasts) (x3 : Int32) (x4 : Int32), k57 S0 S2 x3 x4 = some (ro, So0, So2) → ∀ (H : Heap) (locs : List Loc) (ls : Array Slot), xS G A s.heap (wd_Writing G a S0 ++ wd_Row G b S1 ++ wd_Pasts G d S2) H locs → lv_has ls 6 [(0, .ref (a 0)), (1, .ref (b 0)), (2, .ref (d 0)), (3, .int x3), (4, .int x4)] → W p l e ({ frames := 4, cells := 0, slots := 0, locals := 94 }) s m args below meth c H locs 0 0 (MQ below (xQo G (some (.int ro)) A (wd_Writing G a So0 ++ wd_Row G b S1 ++ wd_Pasts G d So2)) args s 0 0 A) (F0 m 57 ls [])) : ∀ (S0 : tt_Writing) (S2 : tt_Pasts) (x3 : Int32) (x4 : Int32), fn_X7_readAgain_97 k57 S1 S0 S2 x3 x4 = some (ro, So0, So2) → ∀ (H : Heap) (locs : List Loc) (ls : Array Slot), xS G A s.heap (wd_Writing G a S0 ++ wd_Row G b S1 ++ wd_Pasts G d S2) H locs → lv_has ls 6 [(0, .ref (a 0)), (1, .ref (b 0)), (2, .ref (d 0)), (3, .int x3), (4, .int x4)] → W p l e ({ frames := 4, cells := 0, slots := 0, locals := 94 }) s m args below meth c H locs 0 0 (MQ below (xQo G (some (.int ro)) A (wd_Writing G a So0 ++ wd_Row G b S1 ++ wd_Pasts G d So2)) args s 0 0 A) (F0 m 97 ls []) := by
  have hx := C0.1
  have hb := C0.2.1
  intro S0 S2 x3 x4 hf H locs ls X hl
  unfold fn_X7_readAgain_97 at hf
  obtain ⟨y_21, ey_21⟩ : ∃ y : Int32, y = x4 + (1 : Int32) := ⟨_, rfl⟩
  have hf := lt_sb hf ey_21
  refine lv_iinc (pc := 97) (v := y_21) (lv' := [(4, .int y_21), (0, .ref (a 0)), (1, .ref (b 0)), (2, .ref (d 0)), (3, .int x3)]) hx hb dX7_readAgain_97 hl (k := 4) rfl (by rw [ey_21]; rfl) (by decide) rfl (fun ls hl => ?_)
  refine lv_goto (pc := 100) (tgt := 57) hx hb dX7_readAgain_100 (by decide) ?_
  exact hk57 _ _ _ _ hf _ _ _ X (lv_sub hl [1, 2, 3, 4, 0] rfl)
set_option maxHeartbeats 4000000 in
set_option maxRecDepth 100000 in
theorem lb_X7_readAgain_57 {l : Launch} {p : Program} {e : Env} {s : State} {m : MethodId} {args : Array Value} {below : List Frame} {meth : Method} {c : Code} {G : xG} {A : Nat → Prop} {a b d : Nat → Nat} (C0 : xC p s m meth c cX7_readAgain 6 (some .int) RX7 args) (KN : xKN G s) (hA : ∀ q, s.heap.size ≤ q → A q) (S1 : tt_Row) (ro : Int32) (So0 : tt_Writing) (So2 : tt_Pasts) (k103 : tt_Writing → tt_Pasts → Int32 → Option (Int32 × tt_Writing × tt_Pasts)) (hk103 : ∀ (S0 : tt_Writing) (S2 : tt_Pasts) (x3 : Int32), k103 S0 S2 x3 = some (ro, So0, So2) → ∀ (H : Heap) (locs : List Loc) (ls : Array Slot), xS G A s.heap (wd_Writing G a S0 ++ wd_Row G b S1 ++ wd_Pasts G d S2) H locs → lv_has ls 6 [(0, .ref (a 0)), (1, .ref (b 0)), (2, .ref (d 0)), (3, .int x3)] → W p l e ({ frames := 4, cells := 0, slots := 0, locals := 94 }) s m args below meth c H locs 0 0 (MQ below (xQo G (some (.int ro)) A (wd_Writing G a So0 ++ wd_Row G b S1 ++ wd_Pasts G d So2)) args s 0 0 A) (F0 m 103 ls [])) : ∀ (n : Nat) (S0 : tt_Writing) (S2 : tt_Pasts) (x3 : Int32) (x4 : Int32), fl_X7_readAgain_57 k103 S1 n S0 S2 x3 x4 = some (ro, So0, So2) → ∀ (H : Heap) (locs : List Loc) (ls : Array Slot), xS G A s.heap (wd_Writing G a S0 ++ wd_Row G b S1 ++ wd_Pasts G d S2) H locs → lv_has ls 6 [(0, .ref (a 0)), (1, .ref (b 0)), (2, .ref (d 0)), (3, .int x3), (4, .int x4)] → W p l e ({ frames := 4, cells := 0, slots := 0, locals := 94 }) s m args below meth c H locs 0 0 (MQ below (xQo G (some (.int ro)) A (wd_Writing G a So0 ++ wd_Row G b S1 ++ wd_Pasts G d So2)) args s 0 0 A) (F0 m 57 ls []) := by
  have hx := C0.1
  have hb := C0.2.1
  intro n
  induction n with
  | zero =>
    intro S0 S2 x3 x4 hf
    have hf : none = some (ro, So0, So2) := hf
    cases hf
  | succ n ih =>
    intro S0 S2 x3 x4 hf H locs ls X hl
    rw [fl_X7_readAgain_57] at hf
    refine lv_iload (pc := 57) hx hb dX7_readAgain_57 (lv_at hl 4 rfl) ?_
    refine lv_aload_n (pc := 59) hx hb dX7_readAgain_59 rfl (lv_at hl 1 rfl) ?_
    refine x_get (pc := 60) (ci := 3) C0 KN X 2 rfl rfl inlX3 4 (by decide) kw_24_5 rfl dX7_readAgain_60 ?_
    refine W.eq (g2 := F0 m 63 ls [.int (gf_Row_length S1), .int x4]) rfl ?_
    refine lv_icmp_ge (pc := 63) (tgt := 103) hx hb dX7_readAgain_63 (by decide) (fun c_11 => ?_) (fun c_11 => ?_)
    · have hf := it_p hf c_11
      exact hk103 _ _ _ hf _ _ _ X (lv_sub hl [0, 1, 2, 3] rfl)
    · have hf := it_n hf c_11
      refine lv_aload_n (pc := 66) hx hb dX7_readAgain_66 rfl (lv_at hl 0 rfl) ?_
      refine lv_aload_n (pc := 67) hx hb dX7_readAgain_67 rfl (lv_at hl 2 rfl) ?_
      obtain ⟨r_12, h_13, hf⟩ := bd_e hf
      refine x_cv (pc := 68) (ws' := wd_Writing G a S0 ++ wd_Row G b S1 ++ wd_Pasts G d S2) (As := []) (rest := [.ref (a 0)]) (ci := 2) (qr := 13) C0 KN X hA [13, 14, 15, 16, 17, 18, 19] [0, 1, 2, 3, 4, 5, 6, 7, 8, 9, 10, 11, 12] [0, 1, 2, 3, 4, 5, 6, 7, 8, 9, 10, 11, 12, 13, 14, 15, 16, 17, 18, 19] cu_C16 rfl cu_R16 rfl (by decide) (cu_J16 (S0 := S0) (S1 := S1) (S2 := S2)) rfl (ct_X2_next l G d S2 r_12 h_13) rfl rfl rfl kw_9_20 kw_26_23 kw_9_18 kw_9_19 kw_1_19 hd_X2_next ⟨by decide, by decide⟩ hl.1 rfl (Nat.le_of_ble_eq_true rfl) ⟨Nat.zero_le _, Nat.zero_le _⟩ dX7_readAgain_68 (fun H locs X => ?_)
      refine W.eq (g2 := F0 m 71 ls [.int r_12, .ref (a 0)]) rfl ?_
      obtain ⟨r_14, P_15, h_16, hf⟩ := b2_e hf
      refine x_cv (pc := 71) (ws' := wd_Writing G a P_15 ++ wd_Row G b S1 ++ wd_Pasts G d S2) (As := [.int r_12]) (rest := []) (ci := 7) (qr := 0) C0 KN X hA [0, 1] [2, 3, 4, 5, 6, 7, 8, 9, 10, 11, 12, 13, 14, 15, 16, 17, 18, 19] [18, 19, 0, 1, 2, 3, 4, 5, 6, 7, 8, 9, 10, 11, 12, 13, 14, 15, 16, 17] cu_C15 rfl cu_R15 rfl (by decide) (cu_J15 (S0 := S0) (S1 := S1) (S2 := S2)) rfl (ct_X7_readSign l G a S0 r_12 r_14 P_15 h_16) rfl rfl rfl kw_27_3 kw_27_0 kw_27_1 kw_27_2 kw_2_7 hd_X7_readSign ⟨by decide, by decide⟩ hl.1 rfl (Nat.le_of_ble_eq_true rfl) ⟨Nat.zero_le _, Nat.zero_le _⟩ dX7_readAgain_71 (fun H locs X => ?_)
      refine W.eq (g2 := F0 m 74 ls [.int r_14]) rfl ?_
      refine lv_istore (pc := 74) (lv' := [(5, .int r_14), (0, .ref (a 0)), (1, .ref (b 0)), (2, .ref (d 0)), (3, .int x3), (4, .int x4)]) hx hb dX7_readAgain_74 hl (by decide) rfl (fun ls hl => ?_)
      refine lv_aload_n (pc := 76) hx hb dX7_readAgain_76 rfl (lv_at hl 3 rfl) ?_
      refine lv_iload (pc := 77) hx hb dX7_readAgain_77 (lv_at hl 0 rfl) ?_
      obtain ⟨P_17, h_18, hf⟩ := bd_e hf
      refine x_cv (pc := 79) (ws' := wd_Writing G a P_15 ++ wd_Row G b S1 ++ wd_Pasts G d P_17) (As := [.int r_14]) (rest := []) (ci := 2) (qr := 13) C0 KN X hA [13, 14, 15, 16, 17, 18, 19] [0, 1, 2, 3, 4, 5, 6, 7, 8, 9, 10, 11, 12] [0, 1, 2, 3, 4, 5, 6, 7, 8, 9, 10, 11, 12, 13, 14, 15, 16, 17, 18, 19] cu_C14 rfl cu_R14 rfl (by decide) (cu_J14 (S0 := P_15) (S1 := S1) (S2 := S2)) rfl (ct_X2_take l G d S2 r_14 P_17 h_18) rfl rfl rfl kw_10_5 kw_27_4 kw_10_3 kw_10_4 kw_1_19 hd_X2_take ⟨by decide, by decide⟩ hl.1 rfl (Nat.le_of_ble_eq_true rfl) ⟨Nat.zero_le _, Nat.zero_le _⟩ dX7_readAgain_79 (fun H locs X => ?_)
      refine W.eq (g2 := F0 m 82 ls []) rfl ?_
      refine lv_iload (pc := 82) hx hb dX7_readAgain_82 (lv_at hl 0 rfl) ?_
      refine lv_aload_n (pc := 84) hx hb dX7_readAgain_84 rfl (lv_at hl 2 rfl) ?_
      refine x_get (pc := 85) (ci := 3) C0 KN X 2 rfl rfl inlX3 0 (by decide) kw_24_6 rfl dX7_readAgain_85 ?_
      refine lv_iload (pc := 88) hx hb dX7_readAgain_88 (lv_at hl 5 rfl) ?_
      obtain ⟨g_19, hf⟩ := gd_e hf
      refine x_ald (pc := 90) C0 KN X 3 rfl g_19 dX7_readAgain_90 ?_
      refine W.eq (g2 := F0 m 91 ls [.int ((gf_Row_signs S1) x4.toNatClampNeg), .int r_14]) rfl ?_
      refine lv_icmp_ne (pc := 91) (tgt := 97) hx hb dX7_readAgain_91 (by decide) (fun c_20 => ?_) (fun c_20 => ?_)
      · have hf := it_n hf c_20
        exact lb_X7_readAgain_97 C0 KN hA S1 _ _ _ (fl_X7_readAgain_57 k103 S1 n) ih _ _ _ _ hf _ _ _ X (lv_sub hl [1, 2, 3, 4, 5] rfl)
      · have hf := it_p hf c_20
        obtain ⟨y_22, ey_22⟩ : ∃ y : Int32, y = x3 + (1 : Int32) := ⟨_, rfl⟩
        have hf := lt_sb hf ey_22
        refine lv_iinc (pc := 94) (v := y_22) (lv' := [(3, .int y_22), (5, .int r_14), (0, .ref (a 0)), (1, .ref (b 0)), (2, .ref (d 0)), (4, .int x4)]) hx hb dX7_readAgain_94 hl (k := 4) rfl (by rw [ey_22]; rfl) (by decide) rfl (fun ls hl => ?_)
        exact lb_X7_readAgain_97 C0 KN hA S1 _ _ _ (fl_X7_readAgain_57 k103 S1 n) ih _ _ _ _ hf _ _ _ X (lv_sub hl [2, 3, 4, 0, 5] rfl)
theorem hd_X7_readAgain : yX7_readAgain.cls ≠ "java/lang/invoke/MethodHandle" ∧ yX7_readAgain.cls ≠ "java/lang/invoke/VarHandle" ∧ (parseMethodDescriptor yX7_readAgain.desc).map (fun d => d.parameters.length) = some 2 := by decide +kernel
set_option maxHeartbeats 4000000 in
set_option maxRecDepth 100000 in
theorem ct_X7_readAgain (l : Launch) (G : xG) (a b d : Nat → Nat) (S0 : tt_Writing) (S1 : tt_Row) (S2 : tt_Pasts) (ro : Int32) (So0 : tt_Writing) (So2 : tt_Pasts) (hf : fn_X7_readAgain S0 S1 S2 = some (ro, So0, So2)) : xM l yX7_readAgain cX7_readAgain 6 (some .int) 4 94 G [.ref (a 0), .ref (b 0), .ref (d 0)] (wd_Writing G a S0 ++ wd_Row G b S1 ++ wd_Pasts G d S2) (wd_Writing G a So0 ++ wd_Row G b S1 ++ wd_Pasts G d So2) (some (.int ro)) := by
  refine xMi (by decide) (Nat.le_of_ble_eq_true rfl) ?_
  intro p e s m below meth c A C0 KN hA X ls hl
  have hx := C0.1
  have hb := C0.2.1
  have C0 : xC p s m meth c cX7_readAgain 6 (some .int) RX7 _ := C0
  have hl : lv_has ls 6 [(0, .ref (a 0)), (1, .ref (b 0)), (2, .ref (d 0))] := hl
  unfold fn_X7_readAgain at hf
  refine lv_aload_n (pc := 0) hx hb dX7_readAgain_0 rfl (lv_at hl 2 rfl) ?_
  refine lv_aload_n (pc := 1) hx hb dX7_readAgain_1 rfl (lv_at hl 1 rfl) ?_
  refine x_get (pc := 2) (ci := 3) C0 KN X 2 rfl rfl inlX3 3 (by decide) kw_26_14 rfl dX7_readAgain_2 ?_
  refine x_get (pc := 5) (ci := 2) C0 KN X 6 rfl rfl inlX2 6 (by decide) kw_26_15 rfl dX7_readAgain_5 ?_
  refine W.eq (g2 := F0 m 8 ls [.int (gf_Pasts_depth (gf_Row_pasts S1)), .ref (d 0)]) rfl ?_
  refine lv_aload_n (pc := 8) hx hb dX7_readAgain_8 rfl (lv_at hl 1 rfl) ?_
  refine x_get (pc := 9) (ci := 3) C0 KN X 2 rfl rfl inlX3 3 (by decide) kw_26_14 rfl dX7_readAgain_9 ?_
  refine x_get (pc := 12) (ci := 2) C0 KN X 6 rfl rfl inlX2 7 (by decide) kw_26_16 rfl dX7_readAgain_12 ?_
  refine W.eq (g2 := F0 m 15 ls [.int (gf_Pasts_guesser (gf_Row_pasts S1)), .int (gf_Pasts_depth (gf_Row_pasts S1)), .ref (d 0)]) rfl ?_
  obtain ⟨P_1, h_2, hf⟩ := bd_e hf
  refine x_cv (pc := 15) (ws' := wd_Writing G a S0 ++ wd_Row G b S1 ++ wd_Pasts G d P_1) (As := [.int (gf_Pasts_depth (gf_Row_pasts S1)), .int (gf_Pasts_guesser (gf_Row_pasts S1))]) (rest := []) (ci := 2) (qr := 13) C0 KN X hA [13, 14, 15, 16, 17, 18, 19] [0, 1, 2, 3, 4, 5, 6, 7, 8, 9, 10, 11, 12] [0, 1, 2, 3, 4, 5, 6, 7, 8, 9, 10, 11, 12, 13, 14, 15, 16, 17, 18, 19] cu_C14 rfl cu_R14 rfl (by decide) (cu_J14 (S0 := S0) (S1 := S1) (S2 := S2)) rfl (ct_X2_begin l G d S2 (gf_Pasts_depth (gf_Row_pasts S1)) (gf_Pasts_guesser (gf_Row_pasts S1)) P_1 h_2) rfl rfl rfl kw_3_23 kw_26_17 kw_3_21 kw_3_22 kw_1_19 hd_X2_begin ⟨by decide, by decide⟩ hl.1 rfl (Nat.le_of_ble_eq_true rfl) ⟨Nat.zero_le _, Nat.zero_le _⟩ dX7_readAgain_15 (fun H locs X => ?_)
  refine W.eq (g2 := F0 m 18 ls []) rfl ?_
  refine lv_aload_n (pc := 18) hx hb dX7_readAgain_18 rfl (lv_at hl 0 rfl) ?_
  refine lv_iconst (pc := 19) (v := 0) hx hb dX7_readAgain_19 (by decide) ?_
  obtain ⟨S_3, eS_3, hf⟩ := lt_e hf
  refine x_put (pc := 20) (ci := 7) (ws' := wd_Writing G a S_3 ++ wd_Row G b S1 ++ wd_Pasts G d P_1) C0 KN X 0 rfl rfl inlX7 tyX7_ok nmX7 5 (by decide) kw_6_0 rfl rfl rfl (Nat.le_of_ble_eq_true rfl) (by subst eS_3; rfl) dX7_readAgain_20 (fun H locs X => ?_)
  refine lv_aload_n (pc := 23) hx hb dX7_readAgain_23 rfl (lv_at hl 0 rfl) ?_
  refine lv_lconst (pc := 24) (v := 0) hx hb dX7_readAgain_24 (by decide) ?_
  obtain ⟨S_4, eS_4, hf⟩ := lt_e hf
  refine x_put (pc := 25) (ci := 7) (ws' := wd_Writing G a S_4 ++ wd_Row G b S1 ++ wd_Pasts G d P_1) C0 KN X 0 rfl rfl inlX7 tyX7_ok nmX7 4 (by decide) kw_5_23 rfl rfl rfl (Nat.le_of_ble_eq_true rfl) (by subst eS_4; rfl) dX7_readAgain_25 (fun H locs X => ?_)
  refine lv_aload_n (pc := 28) hx hb dX7_readAgain_28 rfl (lv_at hl 0 rfl) ?_
  refine x_ldc2 (pc := 29) C0 kw_5_21 dX7_readAgain_29 ?_
  obtain ⟨S_5, eS_5, hf⟩ := lt_e hf
  refine x_put (pc := 32) (ci := 7) (ws' := wd_Writing G a S_5 ++ wd_Row G b S1 ++ wd_Pasts G d P_1) C0 KN X 0 rfl rfl inlX7 tyX7_ok nmX7 3 (by decide) kw_5_22 rfl rfl rfl (Nat.le_of_ble_eq_true rfl) (by subst eS_5; rfl) dX7_readAgain_32 (fun H locs X => ?_)
  refine lv_iconst (pc := 35) (v := 0) hx hb dX7_readAgain_35 (by decide) ?_
  refine lv_istore_n (pc := 36) (lv' := [(3, .int (0 : Int32)), (0, .ref (a 0)), (1, .ref (b 0)), (2, .ref (d 0))]) hx hb dX7_readAgain_36 rfl hl (by decide) rfl (fun ls hl => ?_)
  refine lb_X7_readAgain_37 C0 KN hA S1 _ _ _ _ ?_ _ _ _ _ hf _ _ _ X (lv_sub hl [1, 2, 3, 0] rfl)
  · intro S0_e52_10 S2_e52_10 hf H locs ls X hl
    refine lv_iconst (pc := 52) (v := 0) hx hb dX7_readAgain_52 (by decide) ?_
    refine lv_istore_n (pc := 53) (lv' := [(3, .int (0 : Int32)), (0, .ref (a 0)), (1, .ref (b 0)), (2, .ref (d 0))]) hx hb dX7_readAgain_53 rfl hl (by decide) rfl (fun ls hl => ?_)
    refine lv_iconst (pc := 54) (v := 0) hx hb dX7_readAgain_54 (by decide) ?_
    refine lv_istore (pc := 55) (lv' := [(4, .int (0 : Int32)), (3, .int (0 : Int32)), (0, .ref (a 0)), (1, .ref (b 0)), (2, .ref (d 0))]) hx hb dX7_readAgain_55 hl (by decide) rfl (fun ls hl => ?_)
    refine lb_X7_readAgain_57 C0 KN hA S1 _ _ _ _ ?_ _ _ _ _ _ hf _ _ _ X (lv_sub hl [2, 3, 4, 1, 0] rfl)
    · intro S0_e103_23 S2_e103_23 x3_e103_23 hf H locs ls X hl
      refine lv_iload_n (pc := 103) hx hb dX7_readAgain_103 rfl (lv_at hl 3 rfl) ?_
      obtain ⟨rfl, rfl, rfl⟩ := so_3 hf
      exact x_iret (pc := 104) C0 X dX7_readAgain_104
