def fn_X3_has (S0 : tt_Row) (x1 : Int32) : Option Int32 :=
  bd_ (fn_X8_within x1 (0 : Int32) ((gf_Row_length S0) - (1 : Int32))) fun r_1 => gd_ (r_1 = 0 ∨ r_1 = 1) (some r_1)
def fn_X3_put (S0 : tt_Row) (x1 : Int32) : Option (Int32 × tt_Row) :=
  bd_ (fn_X8_within (gf_Row_length S0) (0 : Int32) (99 : Int32)) fun r_1 => if r_1 = 0 then some ((0 : Int32), S0) else gd_ (ix_ (gf_Row_length S0) 100) (lt_ (sf_Row_signs S0 (upd (gf_Row_signs S0) (gf_Row_length S0).toNatClampNeg x1)) fun S_5 => bd_ (fn_X2_next (gf_Row_pasts S_5)) fun r_6 => gd_ (ix_ (gf_Row_length S_5) 100) (lt_ (sf_Row_foretold S_5 (upd (gf_Row_foretold S_5) (gf_Row_length S_5).toNatClampNeg r_6)) fun S_9 => bd_ (fn_X2_next (gf_Row_pasts S_9)) fun r_10 => bd_ (fn_X8_ofSign x1 r_10) fun r_12 => bd_ (fn_X8_bitsOf r_12) fun r_14 => gd_ (ix_ (gf_Row_length S_9) 100) (lt_ (sf_Row_paid S_9 (upd (gf_Row_paid S_9) (gf_Row_length S_9).toNatClampNeg r_14)) fun S_17 => gd_ (ix_ (gf_Row_length S_17) 100) (lt_ ((gf_Row_paidInAll S_17) + ((gf_Row_paid S_17) (gf_Row_length S_17).toNatClampNeg)) fun y_19 => lt_ (sf_Row_paidInAll S_17 y_19) fun S_20 => bd_ (fn_X2_take (gf_Row_pasts S_20) x1) fun P_21 => lt_ (sf_Row_pasts S_20 P_21) fun S_23 => lt_ ((gf_Row_length S_23) + (1 : Int32)) fun y_24 => lt_ (sf_Row_length S_23 y_24) fun S_25 => gd_ (ix_ ((gf_Row_length S_25) - (1 : Int32)) 100) (some ((gf_Row_paid S_25) ((gf_Row_length S_25) - (1 : Int32)).toNatClampNeg, S_25))))))
def fl_X3_comeAnew_32 (k57 : tt_Row → Option tt_Row) : Nat → tt_Row → Int32 → Int32 → Option tt_Row
  | 0, _, _, _ => none
  | n + 1, S0, x4, x5 =>
  if x4 ≤ x5 then k57 S0 else gd_ (ix_ x5 100) (b2_ (fn_X3_put S0 ((gf_Row_signs S0) x5.toNatClampNeg)) fun r_10 P_11 => lt_ (x5 + (1 : Int32)) fun y_13 => fl_X3_comeAnew_32 k57 n P_11 x4 y_13)
def fn_X3_comeAnew (S0 : tt_Row) (x1 : Int32) (x2 : Int32) (x3 : Int32) : Option tt_Row :=
  bd_ (fn_X8_kept x1.toInt64 (0 : Int32) (100 : Int32)) fun r_1 => lt_ (sf_Row_length S0 (0 : Int32)) fun S_3 => lt_ (sf_Row_paidInAll S_3 (0 : Int32)) fun S_4 => bd_ (fn_X2_begin (gf_Row_pasts S_4) x2 x3) fun P_5 => lt_ (sf_Row_pasts S_4 P_5) fun S_7 => fl_X3_comeAnew_32 (fun (S0_e57_14 : tt_Row) => some S0_e57_14) fu_ S_7 r_1 (0 : Int32)
def fl_X3_priceBy_12 (k60 : tt_Pasts → Int32 → Option (Int32 × tt_Pasts)) (S0 : tt_Row) : Nat → tt_Pasts → Int32 → Int32 → Option (Int32 × tt_Pasts)
  | 0, _, _, _ => none
  | n + 1, S1, x4, x5 =>
  if (gf_Row_length S0) ≤ x5 then k60 S1 x4 else gd_ (ix_ x5 100) (bd_ (fn_X2_next S1) fun r_5 => bd_ (fn_X8_ofSign ((gf_Row_signs S0) x5.toNatClampNeg) r_5) fun r_7 => bd_ (fn_X8_bitsOf r_7) fun r_9 => lt_ (x4 + r_9) fun y_11 => gd_ (ix_ x5 100) (bd_ (fn_X2_take S1 ((gf_Row_signs S0) x5.toNatClampNeg)) fun P_13 => lt_ (x5 + (1 : Int32)) fun y_15 => fl_X3_priceBy_12 k60 S0 n P_13 y_11 y_15))
def fn_X3_priceBy (S0 : tt_Row) (S1 : tt_Pasts) (x2 : Int32) (x3 : Int32) : Option (Int32 × tt_Pasts) :=
  bd_ (fn_X2_begin S1 x2 x3) fun P_1 => fl_X3_priceBy_12 (fun (S1_e60_16 : tt_Pasts) (x4_e60_16 : Int32) => some (x4_e60_16, S1_e60_16)) S0 fu_ P_1 (0 : Int32) (0 : Int32)
theorem cu_C2 {G : xG} {a : Nat → Nat} {S0 : tt_Row} : [4, 5, 6, 7, 8, 9, 10].map (fun i => (wd_Row G a S0)[i]?) = (wd_Pasts G (fun i => a (4 + i)) (gf_Row_pasts S0) : va_W).map some := rfl
theorem cu_R2 {G : xG} {a : Nat → Nat} {S0 : tt_Row} : ([0, 1, 2, 3] : List Nat).map (fun i => (wd_Row G a S0)[i]?) = ([(a 0, .inr (3, [.ref (a 1), .ref (a 2), .ref (a 3), .ref (a 4), .int (gf_Row_length S0), .int (gf_Row_paidInAll S0)])), (a 1, .inl (G.2.1, 100, .inl (gf_Row_signs S0))), (a 2, .inl (G.2.1, 100, .inl (gf_Row_foretold S0))), (a 3, .inl (G.2.1, 100, .inl (gf_Row_paid S0)))] : va_W).map some := rfl
theorem cu_J2 {G : xG} {a : Nat → Nat} {S0 : tt_Row}  : [0, 1, 2, 3, 4, 5, 6, 7, 8, 9, 10].map (fun i => (([(a 0, .inr (3, [.ref (a 1), .ref (a 2), .ref (a 3), .ref (a 4), .int (gf_Row_length S0), .int (gf_Row_paidInAll S0)])), (a 1, .inl (G.2.1, 100, .inl (gf_Row_signs S0))), (a 2, .inl (G.2.1, 100, .inl (gf_Row_foretold S0))), (a 3, .inl (G.2.1, 100, .inl (gf_Row_paid S0)))] : va_W) ++ (wd_Pasts G (fun i => a (4 + i)) (gf_Row_pasts S0)))[i]?) = (wd_Row G a S0 : va_W).map some := rfl
theorem cu_C3 {G : xG} {a : Nat → Nat} {S0 : tt_Row} : [4, 5, 6, 7, 8, 9, 10].map (fun i => (wd_Row G a S0)[i]?) = (wd_Pasts G (fun i => a (4 + i)) (gf_Row_pasts S0) : va_W).map some := rfl
theorem cu_R3 {G : xG} {a : Nat → Nat} {S0 : tt_Row} : ([0, 1, 2, 3] : List Nat).map (fun i => (wd_Row G a S0)[i]?) = ([(a 0, .inr (3, [.ref (a 1), .ref (a 2), .ref (a 3), .ref (a 4), .int (gf_Row_length S0), .int (gf_Row_paidInAll S0)])), (a 1, .inl (G.2.1, 100, .inl (gf_Row_signs S0))), (a 2, .inl (G.2.1, 100, .inl (gf_Row_foretold S0))), (a 3, .inl (G.2.1, 100, .inl (gf_Row_paid S0)))] : va_W).map some := rfl
theorem cu_J3 {G : xG} {a : Nat → Nat} {S0 : tt_Row} {P0 : tt_Pasts} : [0, 1, 2, 3, 4, 5, 6, 7, 8, 9, 10].map (fun i => (([(a 0, .inr (3, [.ref (a 1), .ref (a 2), .ref (a 3), .ref (a 4), .int (gf_Row_length S0), .int (gf_Row_paidInAll S0)])), (a 1, .inl (G.2.1, 100, .inl (gf_Row_signs S0))), (a 2, .inl (G.2.1, 100, .inl (gf_Row_foretold S0))), (a 3, .inl (G.2.1, 100, .inl (gf_Row_paid S0)))] : va_W) ++ (wd_Pasts G (fun i => a (4 + i)) P0))[i]?) = (wd_Row G a (sf_Row_pasts S0 P0) : va_W).map some := rfl
theorem cu_C4 {G : xG} {a : Nat → Nat} {S0 : tt_Row} : [0, 1, 2, 3, 4, 5, 6, 7, 8, 9, 10].map (fun i => (wd_Row G a S0)[i]?) = (wd_Row G a S0 : va_W).map some := rfl
theorem cu_R4 {G : xG} {a : Nat → Nat} {S0 : tt_Row} : ([] : List Nat).map (fun i => (wd_Row G a S0)[i]?) = ([] : va_W).map some := rfl
theorem cu_J4 {G : xG} {a : Nat → Nat} {S0 : tt_Row} {P0 : tt_Row} : [0, 1, 2, 3, 4, 5, 6, 7, 8, 9, 10].map (fun i => (([] : va_W) ++ (wd_Row G a P0))[i]?) = (wd_Row G a P0 : va_W).map some := rfl
theorem cu_C5 {G : xG} {a b : Nat → Nat} {S0 : tt_Row} {S1 : tt_Pasts} : [11, 12, 13, 14, 15, 16, 17].map (fun i => (wd_Row G a S0 ++ wd_Pasts G b S1)[i]?) = (wd_Pasts G b S1 : va_W).map some := rfl
theorem cu_R5 {G : xG} {a b : Nat → Nat} {S0 : tt_Row} {S1 : tt_Pasts} : ([0, 1, 2, 3, 4, 5, 6, 7, 8, 9, 10] : List Nat).map (fun i => (wd_Row G a S0 ++ wd_Pasts G b S1)[i]?) = ([(a 0, .inr (3, [.ref (a 1), .ref (a 2), .ref (a 3), .ref (a 4), .int (gf_Row_length S0), .int (gf_Row_paidInAll S0)])), (a 1, .inl (G.2.1, 100, .inl (gf_Row_signs S0))), (a 2, .inl (G.2.1, 100, .inl (gf_Row_foretold S0))), (a 3, .inl (G.2.1, 100, .inl (gf_Row_paid S0))), (a 4, .inr (2, [.ref (a 5), .ref (a 6), .ref (a 7), .ref (a 8), .ref (a 9), .ref (a 10), .int (gf_Pasts_depth (gf_Row_pasts S0)), .int (gf_Pasts_guesser (gf_Row_pasts S0)), .int (gf_Pasts_past (gf_Row_pasts S0))])), (a 5, .inl (G.2.1, 128, .inl (gf_Pasts_zeros (gf_Row_pasts S0)))), (a 6, .inl (G.2.1, 128, .inl (gf_Pasts_ones (gf_Row_pasts S0)))), (a 7, .inl (G.2.1, 128, .inl (gf_Pasts_weights (gf_Row_pasts S0)))), (a 8, .inl (G.2.1, 128, .inl (gf_Pasts_paidAlone (gf_Row_pasts S0)))), (a 9, .inl (G.2.1, 7, .inl (gf_Pasts_owns (gf_Row_pasts S0)))), (a 10, .inl (G.2.1, 7, .inl (gf_Pasts_guesses (gf_Row_pasts S0))))] : va_W).map some := rfl
theorem cu_J5 {G : xG} {a b : Nat → Nat} {S0 : tt_Row} {S1 : tt_Pasts} {P0 : tt_Pasts} : [0, 1, 2, 3, 4, 5, 6, 7, 8, 9, 10, 11, 12, 13, 14, 15, 16, 17].map (fun i => (([(a 0, .inr (3, [.ref (a 1), .ref (a 2), .ref (a 3), .ref (a 4), .int (gf_Row_length S0), .int (gf_Row_paidInAll S0)])), (a 1, .inl (G.2.1, 100, .inl (gf_Row_signs S0))), (a 2, .inl (G.2.1, 100, .inl (gf_Row_foretold S0))), (a 3, .inl (G.2.1, 100, .inl (gf_Row_paid S0))), (a 4, .inr (2, [.ref (a 5), .ref (a 6), .ref (a 7), .ref (a 8), .ref (a 9), .ref (a 10), .int (gf_Pasts_depth (gf_Row_pasts S0)), .int (gf_Pasts_guesser (gf_Row_pasts S0)), .int (gf_Pasts_past (gf_Row_pasts S0))])), (a 5, .inl (G.2.1, 128, .inl (gf_Pasts_zeros (gf_Row_pasts S0)))), (a 6, .inl (G.2.1, 128, .inl (gf_Pasts_ones (gf_Row_pasts S0)))), (a 7, .inl (G.2.1, 128, .inl (gf_Pasts_weights (gf_Row_pasts S0)))), (a 8, .inl (G.2.1, 128, .inl (gf_Pasts_paidAlone (gf_Row_pasts S0)))), (a 9, .inl (G.2.1, 7, .inl (gf_Pasts_owns (gf_Row_pasts S0)))), (a 10, .inl (G.2.1, 7, .inl (gf_Pasts_guesses (gf_Row_pasts S0))))] : va_W) ++ (wd_Pasts G b P0))[i]?) = (wd_Row G a S0 ++ wd_Pasts G b P0 : va_W).map some := rfl
theorem cu_C6 {G : xG} {a b : Nat → Nat} {S0 : tt_Row} {S1 : tt_Pasts} : [11, 12, 13, 14, 15, 16, 17].map (fun i => (wd_Row G a S0 ++ wd_Pasts G b S1)[i]?) = (wd_Pasts G b S1 : va_W).map some := rfl
theorem cu_R6 {G : xG} {a b : Nat → Nat} {S0 : tt_Row} {S1 : tt_Pasts} : ([0, 1, 2, 3, 4, 5, 6, 7, 8, 9, 10] : List Nat).map (fun i => (wd_Row G a S0 ++ wd_Pasts G b S1)[i]?) = ([(a 0, .inr (3, [.ref (a 1), .ref (a 2), .ref (a 3), .ref (a 4), .int (gf_Row_length S0), .int (gf_Row_paidInAll S0)])), (a 1, .inl (G.2.1, 100, .inl (gf_Row_signs S0))), (a 2, .inl (G.2.1, 100, .inl (gf_Row_foretold S0))), (a 3, .inl (G.2.1, 100, .inl (gf_Row_paid S0))), (a 4, .inr (2, [.ref (a 5), .ref (a 6), .ref (a 7), .ref (a 8), .ref (a 9), .ref (a 10), .int (gf_Pasts_depth (gf_Row_pasts S0)), .int (gf_Pasts_guesser (gf_Row_pasts S0)), .int (gf_Pasts_past (gf_Row_pasts S0))])), (a 5, .inl (G.2.1, 128, .inl (gf_Pasts_zeros (gf_Row_pasts S0)))), (a 6, .inl (G.2.1, 128, .inl (gf_Pasts_ones (gf_Row_pasts S0)))), (a 7, .inl (G.2.1, 128, .inl (gf_Pasts_weights (gf_Row_pasts S0)))), (a 8, .inl (G.2.1, 128, .inl (gf_Pasts_paidAlone (gf_Row_pasts S0)))), (a 9, .inl (G.2.1, 7, .inl (gf_Pasts_owns (gf_Row_pasts S0)))), (a 10, .inl (G.2.1, 7, .inl (gf_Pasts_guesses (gf_Row_pasts S0))))] : va_W).map some := rfl
theorem cu_J6 {G : xG} {a b : Nat → Nat} {S0 : tt_Row} {S1 : tt_Pasts}  : [0, 1, 2, 3, 4, 5, 6, 7, 8, 9, 10, 11, 12, 13, 14, 15, 16, 17].map (fun i => (([(a 0, .inr (3, [.ref (a 1), .ref (a 2), .ref (a 3), .ref (a 4), .int (gf_Row_length S0), .int (gf_Row_paidInAll S0)])), (a 1, .inl (G.2.1, 100, .inl (gf_Row_signs S0))), (a 2, .inl (G.2.1, 100, .inl (gf_Row_foretold S0))), (a 3, .inl (G.2.1, 100, .inl (gf_Row_paid S0))), (a 4, .inr (2, [.ref (a 5), .ref (a 6), .ref (a 7), .ref (a 8), .ref (a 9), .ref (a 10), .int (gf_Pasts_depth (gf_Row_pasts S0)), .int (gf_Pasts_guesser (gf_Row_pasts S0)), .int (gf_Pasts_past (gf_Row_pasts S0))])), (a 5, .inl (G.2.1, 128, .inl (gf_Pasts_zeros (gf_Row_pasts S0)))), (a 6, .inl (G.2.1, 128, .inl (gf_Pasts_ones (gf_Row_pasts S0)))), (a 7, .inl (G.2.1, 128, .inl (gf_Pasts_weights (gf_Row_pasts S0)))), (a 8, .inl (G.2.1, 128, .inl (gf_Pasts_paidAlone (gf_Row_pasts S0)))), (a 9, .inl (G.2.1, 7, .inl (gf_Pasts_owns (gf_Row_pasts S0)))), (a 10, .inl (G.2.1, 7, .inl (gf_Pasts_guesses (gf_Row_pasts S0))))] : va_W) ++ (wd_Pasts G b S1))[i]?) = (wd_Row G a S0 ++ wd_Pasts G b S1 : va_W).map some := rfl
theorem hd_X3_has : yX3_has.cls ≠ "java/lang/invoke/MethodHandle" ∧ yX3_has.cls ≠ "java/lang/invoke/VarHandle" ∧ (parseMethodDescriptor yX3_has.desc).map (fun d => d.parameters.length) = some 1 := by decide +kernel
set_option maxHeartbeats 4000000 in
set_option maxRecDepth 100000 in
theorem ct_X3_has (l : Launch) (G : xG) (a : Nat → Nat) (S0 : tt_Row) (x1 : Int32) (ro : Int32) (hf : fn_X3_has S0 x1 = some ro) : xM l yX3_has cX3_has 2 (some .boolean) 1 22 G [.ref (a 0), .int x1] (wd_Row G a S0) (wd_Row G a S0) (some (.int ro)) := by
  refine xMi (by decide) (Nat.le_of_ble_eq_true rfl) ?_
  intro p e s m below meth c A C0 KN hA X ls hl
  have hx := C0.1
  have hb := C0.2.1
  have C0 : xC p s m meth c cX3_has 2 (some .boolean) RX3 _ := C0
  have hl : lv_has ls 2 [(0, .ref (a 0)), (1, .int x1)] := hl
  unfold fn_X3_has at hf
  refine lv_iload_n (pc := 0) hx hb dX3_has_0 rfl (lv_at hl 1 rfl) ?_
  refine lv_iconst (pc := 1) (v := 0) hx hb dX3_has_1 (by decide) ?_
  refine lv_aload_n (pc := 2) hx hb dX3_has_2 rfl (lv_at hl 0 rfl) ?_
  refine x_get (pc := 3) (ci := 3) C0 KN X 0 rfl rfl inlX3 4 (by decide) kw_3_5 rfl dX3_has_3 ?_
  refine W.eq (g2 := F0 m 6 ls [.int (gf_Row_length S0), .int (0 : Int32), .int x1]) rfl ?_
  refine lv_iconst (pc := 6) (v := 1) hx hb dX3_has_6 (by decide) ?_
  refine lv_isub (pc := 7) hx hb dX3_has_7 ?_
  obtain ⟨r_1, h_2, hf⟩ := bd_e hf
  refine x_csN (pc := 8) (As := [.int x1, .int (0 : Int32), .int ((gf_Row_length S0) - (1 : Int32))]) (rest := []) C0 KN (ct_X8_within l x1 (0 : Int32) ((gf_Row_length S0) - (1 : Int32)) r_1 h_2) kw_8_10 (List.mem_of_getElem? (i := 9) rfl) kw_8_9 kw_1_2 hd_X8_within ⟨by decide, by decide⟩ hl.1 rfl (Nat.le_of_ble_eq_true rfl) ⟨Nat.zero_le _, Nat.zero_le _⟩ dX3_has_8 ?_
  refine W.eq (g2 := F0 m 11 ls [.int r_1]) rfl ?_
  obtain ⟨g_3, hf⟩ := gd_e hf
  obtain rfl := so_1 hf
  exact x_zret (pc := 11) C0 X g_3 dX3_has_11
theorem hd_X3_put : yX3_put.cls ≠ "java/lang/invoke/MethodHandle" ∧ yX3_put.cls ≠ "java/lang/invoke/VarHandle" ∧ (parseMethodDescriptor yX3_put.desc).map (fun d => d.parameters.length) = some 1 := by decide +kernel
set_option maxHeartbeats 4000000 in
set_option maxRecDepth 100000 in
theorem ct_X3_put (l : Launch) (G : xG) (a : Nat → Nat) (S0 : tt_Row) (x1 : Int32) (ro : Int32) (So0 : tt_Row) (hf : fn_X3_put S0 x1 = some (ro, So0)) : xM l yX3_put cX3_put 2 (some .int) 4 94 G [.ref (a 0), .int x1] (wd_Row G a S0) (wd_Row G a So0) (some (.int ro)) := by
  refine xMi (by decide) (Nat.le_of_ble_eq_true rfl) ?_
  intro p e s m below meth c A C0 KN hA X ls hl
  have hx := C0.1
  have hb := C0.2.1
  have C0 : xC p s m meth c cX3_put 2 (some .int) RX3 _ := C0
  have hl : lv_has ls 2 [(0, .ref (a 0)), (1, .int x1)] := hl
  unfold fn_X3_put at hf
  refine lv_aload_n (pc := 0) hx hb dX3_put_0 rfl (lv_at hl 0 rfl) ?_
  refine x_get (pc := 1) (ci := 3) C0 KN X 0 rfl rfl inlX3 4 (by decide) kw_3_5 rfl dX3_put_1 ?_
  refine W.eq (g2 := F0 m 4 ls [.int (gf_Row_length S0)]) rfl ?_
  refine lv_iconst (pc := 4) (v := 0) hx hb dX3_put_4 (by decide) ?_
  refine lv_bipush (pc := 5) (v := 99) hx hb dX3_put_5 (by decide) ?_
  obtain ⟨r_1, h_2, hf⟩ := bd_e hf
  refine x_csN (pc := 7) (As := [.int (gf_Row_length S0), .int (0 : Int32), .int (99 : Int32)]) (rest := []) C0 KN (ct_X8_within l (gf_Row_length S0) (0 : Int32) (99 : Int32) r_1 h_2) kw_8_10 (List.mem_of_getElem? (i := 9) rfl) kw_8_9 kw_1_2 hd_X8_within ⟨by decide, by decide⟩ hl.1 rfl (Nat.le_of_ble_eq_true rfl) ⟨Nat.zero_le _, Nat.zero_le _⟩ dX3_put_7 ?_
  refine W.eq (g2 := F0 m 10 ls [.int r_1]) rfl ?_
  refine lv_if_ne (pc := 10) (tgt := 15) hx hb dX3_put_10 (by decide) (fun c_3 => ?_) (fun c_3 => ?_)
  · have hf := it_n hf c_3
    refine lv_aload_n (pc := 15) hx hb dX3_put_15 rfl (lv_at hl 0 rfl) ?_
    refine x_get (pc := 16) (ci := 3) C0 KN X 0 rfl rfl inlX3 0 (by decide) kw_3_0 rfl dX3_put_16 ?_
    refine lv_aload_n (pc := 19) hx hb dX3_put_19 rfl (lv_at hl 0 rfl) ?_
    refine x_get (pc := 20) (ci := 3) C0 KN X 0 rfl rfl inlX3 4 (by decide) kw_3_5 rfl dX3_put_20 ?_
    refine W.eq (g2 := F0 m 23 ls [.int (gf_Row_length S0), .ref (a 1)]) rfl ?_
    refine lv_iload_n (pc := 23) hx hb dX3_put_23 rfl (lv_at hl 1 rfl) ?_
    obtain ⟨g_4, hf⟩ := gd_e hf
    obtain ⟨S_5, eS_5, hf⟩ := lt_e hf
    refine x_ast (pc := 24) (ws' := wd_Row G a S_5) C0 KN X 1 rfl g_4 (by subst eS_5; rfl) dX3_put_24 (fun H locs X => ?_)
    refine lv_aload_n (pc := 25) hx hb dX3_put_25 rfl (lv_at hl 0 rfl) ?_
    refine x_get (pc := 26) (ci := 3) C0 KN X 0 rfl rfl inlX3 1 (by decide) kw_3_1 rfl dX3_put_26 ?_
    refine lv_aload_n (pc := 29) hx hb dX3_put_29 rfl (lv_at hl 0 rfl) ?_
    refine x_get (pc := 30) (ci := 3) C0 KN X 0 rfl rfl inlX3 4 (by decide) kw_3_5 rfl dX3_put_30 ?_
    refine W.eq (g2 := F0 m 33 ls [.int (gf_Row_length S_5), .ref (a 2)]) rfl ?_
    refine lv_aload_n (pc := 33) hx hb dX3_put_33 rfl (lv_at hl 0 rfl) ?_
    refine x_get (pc := 34) (ci := 3) C0 KN X 0 rfl rfl inlX3 3 (by decide) kw_3_4 rfl dX3_put_34 ?_
    obtain ⟨r_6, h_7, hf⟩ := bd_e hf
    refine x_cv (pc := 37) (ws' := wd_Row G a S_5) (As := []) (rest := [.int (gf_Row_length S_5), .ref (a 2)]) (ci := 2) (qr := 4) C0 KN X hA [4, 5, 6, 7, 8, 9, 10] [0, 1, 2, 3] [0, 1, 2, 3, 4, 5, 6, 7, 8, 9, 10] cu_C2 rfl cu_R2 rfl (by decide) (cu_J2 (S0 := S_5)) rfl (ct_X2_next l G (fun i => a (4 + i)) (gf_Row_pasts S_5) r_6 h_7) rfl rfl rfl kw_9_20 kw_9_17 kw_9_18 kw_9_19 kw_1_19 hd_X2_next ⟨by decide, by decide⟩ hl.1 rfl (Nat.le_of_ble_eq_true rfl) ⟨Nat.zero_le _, Nat.zero_le _⟩ dX3_put_37 (fun H locs X => ?_)
    refine W.eq (g2 := F0 m 40 ls [.int r_6, .int (gf_Row_length S_5), .ref (a 2)]) rfl ?_
    obtain ⟨g_8, hf⟩ := gd_e hf
    obtain ⟨S_9, eS_9, hf⟩ := lt_e hf
    refine x_ast (pc := 40) (ws' := wd_Row G a S_9) C0 KN X 2 rfl g_8 (by subst eS_9; rfl) dX3_put_40 (fun H locs X => ?_)
    refine lv_aload_n (pc := 41) hx hb dX3_put_41 rfl (lv_at hl 0 rfl) ?_
    refine x_get (pc := 42) (ci := 3) C0 KN X 0 rfl rfl inlX3 2 (by decide) kw_3_2 rfl dX3_put_42 ?_
    refine lv_aload_n (pc := 45) hx hb dX3_put_45 rfl (lv_at hl 0 rfl) ?_
    refine x_get (pc := 46) (ci := 3) C0 KN X 0 rfl rfl inlX3 4 (by decide) kw_3_5 rfl dX3_put_46 ?_
    refine W.eq (g2 := F0 m 49 ls [.int (gf_Row_length S_9), .ref (a 3)]) rfl ?_
    refine lv_iload_n (pc := 49) hx hb dX3_put_49 rfl (lv_at hl 1 rfl) ?_
    refine lv_aload_n (pc := 50) hx hb dX3_put_50 rfl (lv_at hl 0 rfl) ?_
    refine x_get (pc := 51) (ci := 3) C0 KN X 0 rfl rfl inlX3 3 (by decide) kw_3_4 rfl dX3_put_51 ?_
    obtain ⟨r_10, h_11, hf⟩ := bd_e hf
    refine x_cv (pc := 54) (ws' := wd_Row G a S_9) (As := []) (rest := [.int x1, .int (gf_Row_length S_9), .ref (a 3)]) (ci := 2) (qr := 4) C0 KN X hA [4, 5, 6, 7, 8, 9, 10] [0, 1, 2, 3] [0, 1, 2, 3, 4, 5, 6, 7, 8, 9, 10] cu_C2 rfl cu_R2 rfl (by decide) (cu_J2 (S0 := S_9)) rfl (ct_X2_next l G (fun i => a (4 + i)) (gf_Row_pasts S_9) r_10 h_11) rfl rfl rfl kw_9_20 kw_9_17 kw_9_18 kw_9_19 kw_1_19 hd_X2_next ⟨by decide, by decide⟩ hl.1 rfl (Nat.le_of_ble_eq_true rfl) ⟨Nat.zero_le _, Nat.zero_le _⟩ dX3_put_54 (fun H locs X => ?_)
    refine W.eq (g2 := F0 m 57 ls [.int r_10, .int x1, .int (gf_Row_length S_9), .ref (a 3)]) rfl ?_
    obtain ⟨r_12, h_13, hf⟩ := bd_e hf
    refine x_csN (pc := 57) (As := [.int x1, .int r_10]) (rest := [.int (gf_Row_length S_9), .ref (a 3)]) C0 KN (ct_X8_ofSign l x1 r_10 r_12 h_13) kw_9_22 (List.mem_of_getElem? (i := 10) rfl) kw_9_21 kw_1_2 hd_X8_ofSign ⟨by decide, by decide⟩ hl.1 rfl (Nat.le_of_ble_eq_true rfl) ⟨Nat.zero_le _, Nat.zero_le _⟩ dX3_put_57 ?_
    refine W.eq (g2 := F0 m 60 ls [.int r_12, .int (gf_Row_length S_9), .ref (a 3)]) rfl ?_
    obtain ⟨r_14, h_15, hf⟩ := bd_e hf
    refine x_csN (pc := 60) (As := [.int r_12]) (rest := [.int (gf_Row_length S_9), .ref (a 3)]) C0 KN (ct_X8_bitsOf l r_12 r_14 h_15) kw_10_1 (List.mem_of_getElem? (i := 11) rfl) kw_10_0 kw_1_2 hd_X8_bitsOf ⟨by decide, by decide⟩ hl.1 rfl (Nat.le_of_ble_eq_true rfl) ⟨Nat.zero_le _, Nat.zero_le _⟩ dX3_put_60 ?_
    refine W.eq (g2 := F0 m 63 ls [.int r_14, .int (gf_Row_length S_9), .ref (a 3)]) rfl ?_
    obtain ⟨g_16, hf⟩ := gd_e hf
    obtain ⟨S_17, eS_17, hf⟩ := lt_e hf
    refine x_ast (pc := 63) (ws' := wd_Row G a S_17) C0 KN X 3 rfl g_16 (by subst eS_17; rfl) dX3_put_63 (fun H locs X => ?_)
    refine lv_aload_n (pc := 64) hx hb dX3_put_64 rfl (lv_at hl 0 rfl) ?_
    refine lv_dup (pc := 65) hx hb dX3_put_65 rfl ?_
    refine x_get (pc := 66) (ci := 3) C0 KN X 0 rfl rfl inlX3 5 (by decide) kw_3_6 rfl dX3_put_66 ?_
    refine W.eq (g2 := F0 m 69 ls [.int (gf_Row_paidInAll S_17), .ref (a 0)]) rfl ?_
    refine lv_aload_n (pc := 69) hx hb dX3_put_69 rfl (lv_at hl 0 rfl) ?_
    refine x_get (pc := 70) (ci := 3) C0 KN X 0 rfl rfl inlX3 2 (by decide) kw_3_2 rfl dX3_put_70 ?_
    refine lv_aload_n (pc := 73) hx hb dX3_put_73 rfl (lv_at hl 0 rfl) ?_
    refine x_get (pc := 74) (ci := 3) C0 KN X 0 rfl rfl inlX3 4 (by decide) kw_3_5 rfl dX3_put_74 ?_
    refine W.eq (g2 := F0 m 77 ls [.int (gf_Row_length S_17), .ref (a 3), .int (gf_Row_paidInAll S_17), .ref (a 0)]) rfl ?_
    obtain ⟨g_18, hf⟩ := gd_e hf
    refine x_ald (pc := 77) C0 KN X 3 rfl g_18 dX3_put_77 ?_
    refine W.eq (g2 := F0 m 78 ls [.int ((gf_Row_paid S_17) (gf_Row_length S_17).toNatClampNeg), .int (gf_Row_paidInAll S_17), .ref (a 0)]) rfl ?_
    refine lv_iadd (pc := 78) hx hb dX3_put_78 ?_
    refine lv_topi (fun y_19 ey_19 => ?_)
    have hf := lt_sb hf ey_19
    obtain ⟨S_20, eS_20, hf⟩ := lt_e hf
    refine x_put (pc := 79) (ci := 3) (ws' := wd_Row G a S_20) C0 KN X 0 rfl rfl inlX3 tyX3_ok nmX3 5 (by decide) kw_3_6 rfl rfl rfl (Nat.le_of_ble_eq_true rfl) (by subst eS_20; rfl) dX3_put_79 (fun H locs X => ?_)
    refine lv_aload_n (pc := 82) hx hb dX3_put_82 rfl (lv_at hl 0 rfl) ?_
    refine x_get (pc := 83) (ci := 3) C0 KN X 0 rfl rfl inlX3 3 (by decide) kw_3_4 rfl dX3_put_83 ?_
    refine lv_iload_n (pc := 86) hx hb dX3_put_86 rfl (lv_at hl 1 rfl) ?_
    obtain ⟨P_21, h_22, hf⟩ := bd_e hf
    obtain ⟨S_23, eS_23, hf⟩ := lt_e hf
    refine x_cv (pc := 87) (ws' := wd_Row G a S_23) (As := [.int x1]) (rest := []) (ci := 2) (qr := 4) C0 KN X hA [4, 5, 6, 7, 8, 9, 10] [0, 1, 2, 3] [0, 1, 2, 3, 4, 5, 6, 7, 8, 9, 10] cu_C3 rfl cu_R3 rfl (by decide) (by subst eS_23; exact (cu_J3 (S0 := S_20))) rfl (ct_X2_take l G (fun i => a (4 + i)) (gf_Row_pasts S_20) x1 P_21 h_22) rfl rfl rfl kw_10_5 kw_10_2 kw_10_3 kw_10_4 kw_1_19 hd_X2_take ⟨by decide, by decide⟩ hl.1 rfl (Nat.le_of_ble_eq_true rfl) ⟨Nat.zero_le _, Nat.zero_le _⟩ dX3_put_87 (fun H locs X => ?_)
    refine W.eq (g2 := F0 m 90 ls []) rfl ?_
    refine lv_aload_n (pc := 90) hx hb dX3_put_90 rfl (lv_at hl 0 rfl) ?_
    refine lv_dup (pc := 91) hx hb dX3_put_91 rfl ?_
    refine x_get (pc := 92) (ci := 3) C0 KN X 0 rfl rfl inlX3 4 (by decide) kw_3_5 rfl dX3_put_92 ?_
    refine W.eq (g2 := F0 m 95 ls [.int (gf_Row_length S_23), .ref (a 0)]) rfl ?_
    refine lv_iconst (pc := 95) (v := 1) hx hb dX3_put_95 (by decide) ?_
    refine lv_iadd (pc := 96) hx hb dX3_put_96 ?_
    refine lv_topi (fun y_24 ey_24 => ?_)
    have hf := lt_sb hf ey_24
    obtain ⟨S_25, eS_25, hf⟩ := lt_e hf
    refine x_put (pc := 97) (ci := 3) (ws' := wd_Row G a S_25) C0 KN X 0 rfl rfl inlX3 tyX3_ok nmX3 4 (by decide) kw_3_5 rfl rfl rfl (Nat.le_of_ble_eq_true rfl) (by subst eS_25; rfl) dX3_put_97 (fun H locs X => ?_)
    refine lv_aload_n (pc := 100) hx hb dX3_put_100 rfl (lv_at hl 0 rfl) ?_
    refine x_get (pc := 101) (ci := 3) C0 KN X 0 rfl rfl inlX3 2 (by decide) kw_3_2 rfl dX3_put_101 ?_
    refine lv_aload_n (pc := 104) hx hb dX3_put_104 rfl (lv_at hl 0 rfl) ?_
    refine x_get (pc := 105) (ci := 3) C0 KN X 0 rfl rfl inlX3 4 (by decide) kw_3_5 rfl dX3_put_105 ?_
    refine W.eq (g2 := F0 m 108 ls [.int (gf_Row_length S_25), .ref (a 3)]) rfl ?_
    refine lv_iconst (pc := 108) (v := 1) hx hb dX3_put_108 (by decide) ?_
    refine lv_isub (pc := 109) hx hb dX3_put_109 ?_
    obtain ⟨g_26, hf⟩ := gd_e hf
    refine x_ald (pc := 110) C0 KN X 3 rfl g_26 dX3_put_110 ?_
    refine W.eq (g2 := F0 m 111 ls [.int ((gf_Row_paid S_25) ((gf_Row_length S_25) - (1 : Int32)).toNatClampNeg)]) rfl ?_
    obtain ⟨rfl, rfl⟩ := so_2 hf
    exact x_iret (pc := 111) C0 X dX3_put_111
  · have hf := it_p hf c_3
    refine lv_iconst (pc := 13) (v := 0) hx hb dX3_put_13 (by decide) ?_
    obtain ⟨rfl, rfl⟩ := so_2 hf
    exact x_iret (pc := 14) C0 X dX3_put_14
set_option maxHeartbeats 4000000 in
set_option maxRecDepth 100000 in
theorem lb_X3_comeAnew_32 {l : Launch} {p : Program} {e : Env} {s : State} {m : MethodId} {args : Array Value} {below : List Frame} {meth : Method} {c : Code} {G : xG} {A : Nat → Prop} {a : Nat → Nat} (C0 : xC p s m meth c cX3_comeAnew 6 (none) RX3 args) (KN : xKN G s) (hA : ∀ q, s.heap.size ≤ q → A q) (So0 : tt_Row) (k57 : tt_Row → Option tt_Row) (hk57 : ∀ (S0 : tt_Row), k57 S0 = some So0 → ∀ (H : Heap) (locs : List Loc) (ls : Array Slot), xS G A s.heap (wd_Row G a S0) H locs → lv_has ls 6 [(0, .ref (a 0))] → W p l e ({ frames := 5, cells := 0, slots := 0, locals := 115 }) s m args below meth c H locs 0 0 (MQ below (xQo G none A (wd_Row G a So0)) args s 0 0 A) (F0 m 57 ls [])) : ∀ (n : Nat) (S0 : tt_Row) (x4 : Int32) (x5 : Int32), fl_X3_comeAnew_32 k57 n S0 x4 x5 = some So0 → ∀ (H : Heap) (locs : List Loc) (ls : Array Slot), xS G A s.heap (wd_Row G a S0) H locs → lv_has ls 6 [(0, .ref (a 0)), (4, .int x4), (5, .int x5)] → W p l e ({ frames := 5, cells := 0, slots := 0, locals := 115 }) s m args below meth c H locs 0 0 (MQ below (xQo G none A (wd_Row G a So0)) args s 0 0 A) (F0 m 32 ls []) := by
  have hx := C0.1
  have hb := C0.2.1
  intro n
  induction n with
  | zero =>
    intro S0 x4 x5 hf
    have hf : none = some So0 := hf
    cases hf
  | succ n ih =>
    intro S0 x4 x5 hf H locs ls X hl
    rw [fl_X3_comeAnew_32] at hf
    refine lv_iload (pc := 32) hx hb dX3_comeAnew_32 (lv_at hl 2 rfl) ?_
    refine lv_iload (pc := 34) hx hb dX3_comeAnew_34 (lv_at hl 1 rfl) ?_
    refine lv_icmp_ge (pc := 36) (tgt := 57) hx hb dX3_comeAnew_36 (by decide) (fun c_8 => ?_) (fun c_8 => ?_)
    · have hf := it_p hf c_8
      exact hk57 _ hf _ _ _ X (lv_sub hl [0] rfl)
    · have hf := it_n hf c_8
      refine lv_aload_n (pc := 39) hx hb dX3_comeAnew_39 rfl (lv_at hl 0 rfl) ?_
      refine lv_aload_n (pc := 40) hx hb dX3_comeAnew_40 rfl (lv_at hl 0 rfl) ?_
      refine x_get (pc := 41) (ci := 3) C0 KN X 0 rfl rfl inlX3 0 (by decide) kw_3_0 rfl dX3_comeAnew_41 ?_
      refine lv_iload (pc := 44) hx hb dX3_comeAnew_44 (lv_at hl 2 rfl) ?_
      obtain ⟨g_9, hf⟩ := gd_e hf
      refine x_ald (pc := 46) C0 KN X 1 rfl g_9 dX3_comeAnew_46 ?_
      refine W.eq (g2 := F0 m 47 ls [.int ((gf_Row_signs S0) x5.toNatClampNeg), .ref (a 0)]) rfl ?_
      obtain ⟨r_10, P_11, h_12, hf⟩ := b2_e hf
      refine x_cv (pc := 47) (ws' := wd_Row G a P_11) (As := [.int ((gf_Row_signs S0) x5.toNatClampNeg)]) (rest := []) (ci := 3) (qr := 0) C0 KN X hA [0, 1, 2, 3, 4, 5, 6, 7, 8, 9, 10] [] [0, 1, 2, 3, 4, 5, 6, 7, 8, 9, 10] cu_C4 rfl cu_R4 rfl (by decide) (cu_J4 (S0 := S0)) rfl (ct_X3_put l G a S0 ((gf_Row_signs S0) x5.toNatClampNeg) r_10 P_11 h_12) rfl rfl rfl kw_9_16 kw_16_0 kw_9_14 kw_9_15 kw_1_15 hd_X3_put ⟨by decide, by decide⟩ hl.1 rfl (Nat.le_of_ble_eq_true rfl) ⟨Nat.zero_le _, Nat.zero_le _⟩ dX3_comeAnew_47 (fun H locs X => ?_)
      refine W.eq (g2 := F0 m 50 ls [.int r_10]) rfl ?_
      refine lv_pop (pc := 50) hx hb dX3_comeAnew_50 rfl ?_
      obtain ⟨y_13, ey_13⟩ : ∃ y : Int32, y = x5 + (1 : Int32) := ⟨_, rfl⟩
      have hf := lt_sb hf ey_13
      refine lv_iinc (pc := 51) (v := y_13) (lv' := [(5, .int y_13), (0, .ref (a 0)), (4, .int x4)]) hx hb dX3_comeAnew_51 hl (k := 2) rfl (by rw [ey_13]; rfl) (by decide) rfl (fun ls hl => ?_)
      refine lv_goto (pc := 54) (tgt := 32) hx hb dX3_comeAnew_54 (by decide) ?_
      exact ih _ _ _ hf _ _ _ X (lv_sub hl [1, 2, 0] rfl)
theorem hd_X3_comeAnew : yX3_comeAnew.cls ≠ "java/lang/invoke/MethodHandle" ∧ yX3_comeAnew.cls ≠ "java/lang/invoke/VarHandle" ∧ (parseMethodDescriptor yX3_comeAnew.desc).map (fun d => d.parameters.length) = some 3 := by decide +kernel
set_option maxHeartbeats 4000000 in
set_option maxRecDepth 100000 in
theorem ct_X3_comeAnew (l : Launch) (G : xG) (a : Nat → Nat) (S0 : tt_Row) (x1 : Int32) (x2 : Int32) (x3 : Int32) (So0 : tt_Row) (hf : fn_X3_comeAnew S0 x1 x2 x3 = some So0) : xM l yX3_comeAnew cX3_comeAnew 6 (none) 5 115 G [.ref (a 0), .int x1, .int x2, .int x3] (wd_Row G a S0) (wd_Row G a So0) none := by
  refine xMi (by decide) (Nat.le_of_ble_eq_true rfl) ?_
  intro p e s m below meth c A C0 KN hA X ls hl
  have hx := C0.1
  have hb := C0.2.1
  have C0 : xC p s m meth c cX3_comeAnew 6 (none) RX3 _ := C0
  have hl : lv_has ls 6 [(0, .ref (a 0)), (1, .int x1), (2, .int x2), (3, .int x3)] := hl
  unfold fn_X3_comeAnew at hf
  refine lv_iload_n (pc := 0) hx hb dX3_comeAnew_0 rfl (lv_at hl 1 rfl) ?_
  refine lv_i2l (pc := 1) (v := x1.toInt64) hx hb dX3_comeAnew_1 rfl ?_
  refine lv_iconst (pc := 2) (v := 0) hx hb dX3_comeAnew_2 (by decide) ?_
  refine lv_bipush (pc := 3) (v := 100) hx hb dX3_comeAnew_3 (by decide) ?_
  obtain ⟨r_1, h_2, hf⟩ := bd_e hf
  refine x_csN (pc := 5) (As := [.long x1.toInt64, .int (0 : Int32), .int (100 : Int32)]) (rest := []) C0 KN (ct_X8_kept l x1.toInt64 (0 : Int32) (100 : Int32) r_1 h_2) kw_4_2 (List.mem_of_getElem? (i := 15) rfl) kw_4_1 kw_1_2 hd_X8_kept ⟨by decide, by decide⟩ hl.1 rfl (Nat.le_of_ble_eq_true rfl) ⟨Nat.zero_le _, Nat.zero_le _⟩ dX3_comeAnew_5 ?_
  refine W.eq (g2 := F0 m 8 ls [.int r_1]) rfl ?_
  refine lv_istore (pc := 8) (lv' := [(4, .int r_1), (0, .ref (a 0)), (1, .int x1), (2, .int x2), (3, .int x3)]) hx hb dX3_comeAnew_8 hl (by decide) rfl (fun ls hl => ?_)
  refine lv_aload_n (pc := 10) hx hb dX3_comeAnew_10 rfl (lv_at hl 1 rfl) ?_
  refine lv_iconst (pc := 11) (v := 0) hx hb dX3_comeAnew_11 (by decide) ?_
  obtain ⟨S_3, eS_3, hf⟩ := lt_e hf
  refine x_put (pc := 12) (ci := 3) (ws' := wd_Row G a S_3) C0 KN X 0 rfl rfl inlX3 tyX3_ok nmX3 4 (by decide) kw_3_5 rfl rfl rfl (Nat.le_of_ble_eq_true rfl) (by subst eS_3; rfl) dX3_comeAnew_12 (fun H locs X => ?_)
  refine lv_aload_n (pc := 15) hx hb dX3_comeAnew_15 rfl (lv_at hl 1 rfl) ?_
  refine lv_iconst (pc := 16) (v := 0) hx hb dX3_comeAnew_16 (by decide) ?_
  obtain ⟨S_4, eS_4, hf⟩ := lt_e hf
  refine x_put (pc := 17) (ci := 3) (ws' := wd_Row G a S_4) C0 KN X 0 rfl rfl inlX3 tyX3_ok nmX3 5 (by decide) kw_3_6 rfl rfl rfl (Nat.le_of_ble_eq_true rfl) (by subst eS_4; rfl) dX3_comeAnew_17 (fun H locs X => ?_)
  refine lv_aload_n (pc := 20) hx hb dX3_comeAnew_20 rfl (lv_at hl 1 rfl) ?_
  refine x_get (pc := 21) (ci := 3) C0 KN X 0 rfl rfl inlX3 3 (by decide) kw_3_4 rfl dX3_comeAnew_21 ?_
  refine lv_iload_n (pc := 24) hx hb dX3_comeAnew_24 rfl (lv_at hl 3 rfl) ?_
  refine lv_iload_n (pc := 25) hx hb dX3_comeAnew_25 rfl (lv_at hl 4 rfl) ?_
  obtain ⟨P_5, h_6, hf⟩ := bd_e hf
  obtain ⟨S_7, eS_7, hf⟩ := lt_e hf
  refine x_cv (pc := 26) (ws' := wd_Row G a S_7) (As := [.int x2, .int x3]) (rest := []) (ci := 2) (qr := 4) C0 KN X hA [4, 5, 6, 7, 8, 9, 10] [0, 1, 2, 3] [0, 1, 2, 3, 4, 5, 6, 7, 8, 9, 10] cu_C3 rfl cu_R3 rfl (by decide) (by subst eS_7; exact (cu_J3 (S0 := S_4))) rfl (ct_X2_begin l G (fun i => a (4 + i)) (gf_Row_pasts S_4) x2 x3 P_5 h_6) rfl rfl rfl kw_3_23 kw_15_23 kw_3_21 kw_3_22 kw_1_19 hd_X2_begin ⟨by decide, by decide⟩ hl.1 rfl (Nat.le_of_ble_eq_true rfl) ⟨Nat.zero_le _, Nat.zero_le _⟩ dX3_comeAnew_26 (fun H locs X => ?_)
  refine W.eq (g2 := F0 m 29 ls []) rfl ?_
  refine lv_iconst (pc := 29) (v := 0) hx hb dX3_comeAnew_29 (by decide) ?_
  refine lv_istore (pc := 30) (lv' := [(5, .int (0 : Int32)), (4, .int r_1), (0, .ref (a 0)), (1, .int x1), (2, .int x2), (3, .int x3)]) hx hb dX3_comeAnew_30 hl (by decide) rfl (fun ls hl => ?_)
  refine lb_X3_comeAnew_32 C0 KN hA _ _ ?_ _ _ _ _ hf _ _ _ X (lv_sub hl [2, 1, 0] rfl)
  · intro S0_e57_14 hf H locs ls X hl
    obtain rfl := so_1 hf
    exact x_vret (pc := 57) C0 X dX3_comeAnew_57
set_option maxHeartbeats 4000000 in
set_option maxRecDepth 100000 in
theorem lb_X3_priceBy_12 {l : Launch} {p : Program} {e : Env} {s : State} {m : MethodId} {args : Array Value} {below : List Frame} {meth : Method} {c : Code} {G : xG} {A : Nat → Prop} {a b : Nat → Nat} (C0 : xC p s m meth c cX3_priceBy 6 (some .int) RX3 args) (KN : xKN G s) (hA : ∀ q, s.heap.size ≤ q → A q) (S0 : tt_Row) (ro : Int32) (So1 : tt_Pasts) (k60 : tt_Pasts → Int32 → Option (Int32 × tt_Pasts)) (hk60 : ∀ (S1 : tt_Pasts) (x4 : Int32), k60 S1 x4 = some (ro, So1) → ∀ (H : Heap) (locs : List Loc) (ls : Array Slot), xS G A s.heap (wd_Row G a S0 ++ wd_Pasts G b S1) H locs → lv_has ls 6 [(0, .ref (a 0)), (1, .ref (b 0)), (4, .int x4)] → W p l e ({ frames := 4, cells := 0, slots := 0, locals := 94 }) s m args below meth c H locs 0 0 (MQ below (xQo G (some (.int ro)) A (wd_Row G a S0 ++ wd_Pasts G b So1)) args s 0 0 A) (F0 m 60 ls [])) : ∀ (n : Nat) (S1 : tt_Pasts) (x4 : Int32) (x5 : Int32), fl_X3_priceBy_12 k60 S0 n S1 x4 x5 = some (ro, So1) → ∀ (H : Heap) (locs : List Loc) (ls : Array Slot), xS G A s.heap (wd_Row G a S0 ++ wd_Pasts G b S1) H locs → lv_has ls 6 [(0, .ref (a 0)), (1, .ref (b 0)), (4, .int x4), (5, .int x5)] → W p l e ({ frames := 4, cells := 0, slots := 0, locals := 94 }) s m args below meth c H locs 0 0 (MQ below (xQo G (some (.int ro)) A (wd_Row G a S0 ++ wd_Pasts G b So1)) args s 0 0 A) (F0 m 12 ls []) := by
  have hx := C0.1
  have hb := C0.2.1
  intro n
  induction n with
  | zero =>
    intro S1 x4 x5 hf
    have hf : none = some (ro, So1) := hf
    cases hf
  | succ n ih =>
    intro S1 x4 x5 hf H locs ls X hl
    rw [fl_X3_priceBy_12] at hf
    refine lv_iload (pc := 12) hx hb dX3_priceBy_12 (lv_at hl 3 rfl) ?_
    refine lv_aload_n (pc := 14) hx hb dX3_priceBy_14 rfl (lv_at hl 0 rfl) ?_
    refine x_get (pc := 15) (ci := 3) C0 KN X 0 rfl rfl inlX3 4 (by decide) kw_3_5 rfl dX3_priceBy_15 ?_
    refine W.eq (g2 := F0 m 18 ls [.int (gf_Row_length S0), .int x5]) rfl ?_
    refine lv_icmp_ge (pc := 18) (tgt := 60) hx hb dX3_priceBy_18 (by decide) (fun c_3 => ?_) (fun c_3 => ?_)
    · have hf := it_p hf c_3
      exact hk60 _ _ hf _ _ _ X (lv_sub hl [0, 1, 2] rfl)
    · have hf := it_n hf c_3
      refine lv_iload (pc := 21) hx hb dX3_priceBy_21 (lv_at hl 2 rfl) ?_
      refine lv_aload_n (pc := 23) hx hb dX3_priceBy_23 rfl (lv_at hl 0 rfl) ?_
      refine x_get (pc := 24) (ci := 3) C0 KN X 0 rfl rfl inlX3 0 (by decide) kw_3_0 rfl dX3_priceBy_24 ?_
      refine lv_iload (pc := 27) hx hb dX3_priceBy_27 (lv_at hl 3 rfl) ?_
      obtain ⟨g_4, hf⟩ := gd_e hf
      refine x_ald (pc := 29) C0 KN X 1 rfl g_4 dX3_priceBy_29 ?_
      refine W.eq (g2 := F0 m 30 ls [.int ((gf_Row_signs S0) x5.toNatClampNeg), .int x4]) rfl ?_
      refine lv_aload_n (pc := 30) hx hb dX3_priceBy_30 rfl (lv_at hl 1 rfl) ?_
      obtain ⟨r_5, h_6, hf⟩ := bd_e hf
      refine x_cv (pc := 31) (ws' := wd_Row G a S0 ++ wd_Pasts G b S1) (As := []) (rest := [.int ((gf_Row_signs S0) x5.toNatClampNeg), .int x4]) (ci := 2) (qr := 11) C0 KN X hA [11, 12, 13, 14, 15, 16, 17] [0, 1, 2, 3, 4, 5, 6, 7, 8, 9, 10] [0, 1, 2, 3, 4, 5, 6, 7, 8, 9, 10, 11, 12, 13, 14, 15, 16, 17] cu_C6 rfl cu_R6 rfl (by decide) (cu_J6 (S0 := S0) (S1 := S1)) rfl (ct_X2_next l G b S1 r_5 h_6) rfl rfl rfl kw_9_20 kw_9_17 kw_9_18 kw_9_19 kw_1_19 hd_X2_next ⟨by decide, by decide⟩ hl.1 rfl (Nat.le_of_ble_eq_true rfl) ⟨Nat.zero_le _, Nat.zero_le _⟩ dX3_priceBy_31 (fun H locs X => ?_)
      refine W.eq (g2 := F0 m 34 ls [.int r_5, .int ((gf_Row_signs S0) x5.toNatClampNeg), .int x4]) rfl ?_
      obtain ⟨r_7, h_8, hf⟩ := bd_e hf
      refine x_csN (pc := 34) (As := [.int ((gf_Row_signs S0) x5.toNatClampNeg), .int r_5]) (rest := [.int x4]) C0 KN (ct_X8_ofSign l ((gf_Row_signs S0) x5.toNatClampNeg) r_5 r_7 h_8) kw_9_22 (List.mem_of_getElem? (i := 10) rfl) kw_9_21 kw_1_2 hd_X8_ofSign ⟨by decide, by decide⟩ hl.1 rfl (Nat.le_of_ble_eq_true rfl) ⟨Nat.zero_le _, Nat.zero_le _⟩ dX3_priceBy_34 ?_
      refine W.eq (g2 := F0 m 37 ls [.int r_7, .int x4]) rfl ?_
      obtain ⟨r_9, h_10, hf⟩ := bd_e hf
      refine x_csN (pc := 37) (As := [.int r_7]) (rest := [.int x4]) C0 KN (ct_X8_bitsOf l r_7 r_9 h_10) kw_10_1 (List.mem_of_getElem? (i := 11) rfl) kw_10_0 kw_1_2 hd_X8_bitsOf ⟨by decide, by decide⟩ hl.1 rfl (Nat.le_of_ble_eq_true rfl) ⟨Nat.zero_le _, Nat.zero_le _⟩ dX3_priceBy_37 ?_
      refine W.eq (g2 := F0 m 40 ls [.int r_9, .int x4]) rfl ?_
      refine lv_iadd (pc := 40) hx hb dX3_priceBy_40 ?_
      refine lv_topi (fun y_11 ey_11 => ?_)
      have hf := lt_sb hf ey_11
      refine lv_istore (pc := 41) (lv' := [(4, .int y_11), (0, .ref (a 0)), (1, .ref (b 0)), (5, .int x5)]) hx hb dX3_priceBy_41 hl (by decide) rfl (fun ls hl => ?_)
      refine lv_aload_n (pc := 43) hx hb dX3_priceBy_43 rfl (lv_at hl 2 rfl) ?_
      refine lv_aload_n (pc := 44) hx hb dX3_priceBy_44 rfl (lv_at hl 1 rfl) ?_
      refine x_get (pc := 45) (ci := 3) C0 KN X 0 rfl rfl inlX3 0 (by decide) kw_3_0 rfl dX3_priceBy_45 ?_
      refine lv_iload (pc := 48) hx hb dX3_priceBy_48 (lv_at hl 3 rfl) ?_
      obtain ⟨g_12, hf⟩ := gd_e hf
      refine x_ald (pc := 50) C0 KN X 1 rfl g_12 dX3_priceBy_50 ?_
      refine W.eq (g2 := F0 m 51 ls [.int ((gf_Row_signs S0) x5.toNatClampNeg), .ref (b 0)]) rfl ?_
      obtain ⟨P_13, h_14, hf⟩ := bd_e hf
      refine x_cv (pc := 51) (ws' := wd_Row G a S0 ++ wd_Pasts G b P_13) (As := [.int ((gf_Row_signs S0) x5.toNatClampNeg)]) (rest := []) (ci := 2) (qr := 11) C0 KN X hA [11, 12, 13, 14, 15, 16, 17] [0, 1, 2, 3, 4, 5, 6, 7, 8, 9, 10] [0, 1, 2, 3, 4, 5, 6, 7, 8, 9, 10, 11, 12, 13, 14, 15, 16, 17] cu_C5 rfl cu_R5 rfl (by decide) (cu_J5 (S0 := S0) (S1 := S1)) rfl (ct_X2_take l G b S1 ((gf_Row_signs S0) x5.toNatClampNeg) P_13 h_14) rfl rfl rfl kw_10_5 kw_10_2 kw_10_3 kw_10_4 kw_1_19 hd_X2_take ⟨by decide, by decide⟩ hl.1 rfl (Nat.le_of_ble_eq_true rfl) ⟨Nat.zero_le _, Nat.zero_le _⟩ dX3_priceBy_51 (fun H locs X => ?_)
      refine W.eq (g2 := F0 m 54 ls []) rfl ?_
      obtain ⟨y_15, ey_15⟩ : ∃ y : Int32, y = x5 + (1 : Int32) := ⟨_, rfl⟩
      have hf := lt_sb hf ey_15
      refine lv_iinc (pc := 54) (v := y_15) (lv' := [(5, .int y_15), (4, .int y_11), (0, .ref (a 0)), (1, .ref (b 0))]) hx hb dX3_priceBy_54 hl (k := 3) rfl (by rw [ey_15]; rfl) (by decide) rfl (fun ls hl => ?_)
      refine lv_goto (pc := 57) (tgt := 12) hx hb dX3_priceBy_57 (by decide) ?_
      exact ih _ _ _ hf _ _ _ X (lv_sub hl [2, 3, 1, 0] rfl)
theorem hd_X3_priceBy : yX3_priceBy.cls ≠ "java/lang/invoke/MethodHandle" ∧ yX3_priceBy.cls ≠ "java/lang/invoke/VarHandle" ∧ (parseMethodDescriptor yX3_priceBy.desc).map (fun d => d.parameters.length) = some 3 := by decide +kernel
set_option maxHeartbeats 4000000 in
set_option maxRecDepth 100000 in
theorem ct_X3_priceBy (l : Launch) (G : xG) (a b : Nat → Nat) (S0 : tt_Row) (S1 : tt_Pasts) (x2 : Int32) (x3 : Int32) (ro : Int32) (So1 : tt_Pasts) (hf : fn_X3_priceBy S0 S1 x2 x3 = some (ro, So1)) : xM l yX3_priceBy cX3_priceBy 6 (some .int) 4 94 G [.ref (a 0), .ref (b 0), .int x2, .int x3] (wd_Row G a S0 ++ wd_Pasts G b S1) (wd_Row G a S0 ++ wd_Pasts G b So1) (some (.int ro)) := by
  refine xMi (by decide) (Nat.le_of_ble_eq_true rfl) ?_
  intro p e s m below meth c A C0 KN hA X ls hl
  have hx := C0.1
  have hb := C0.2.1
  have C0 : xC p s m meth c cX3_priceBy 6 (some .int) RX3 _ := C0
  have hl : lv_has ls 6 [(0, .ref (a 0)), (1, .ref (b 0)), (2, .int x2), (3, .int x3)] := hl
  unfold fn_X3_priceBy at hf
  refine lv_aload_n (pc := 0) hx hb dX3_priceBy_0 rfl (lv_at hl 1 rfl) ?_
  refine lv_iload_n (pc := 1) hx hb dX3_priceBy_1 rfl (lv_at hl 2 rfl) ?_
  refine lv_iload_n (pc := 2) hx hb dX3_priceBy_2 rfl (lv_at hl 3 rfl) ?_
  obtain ⟨P_1, h_2, hf⟩ := bd_e hf
  refine x_cv (pc := 3) (ws' := wd_Row G a S0 ++ wd_Pasts G b P_1) (As := [.int x2, .int x3]) (rest := []) (ci := 2) (qr := 11) C0 KN X hA [11, 12, 13, 14, 15, 16, 17] [0, 1, 2, 3, 4, 5, 6, 7, 8, 9, 10] [0, 1, 2, 3, 4, 5, 6, 7, 8, 9, 10, 11, 12, 13, 14, 15, 16, 17] cu_C5 rfl cu_R5 rfl (by decide) (cu_J5 (S0 := S0) (S1 := S1)) rfl (ct_X2_begin l G b S1 x2 x3 P_1 h_2) rfl rfl rfl kw_3_23 kw_15_23 kw_3_21 kw_3_22 kw_1_19 hd_X2_begin ⟨by decide, by decide⟩ hl.1 rfl (Nat.le_of_ble_eq_true rfl) ⟨Nat.zero_le _, Nat.zero_le _⟩ dX3_priceBy_3 (fun H locs X => ?_)
  refine W.eq (g2 := F0 m 6 ls []) rfl ?_
  refine lv_iconst (pc := 6) (v := 0) hx hb dX3_priceBy_6 (by decide) ?_
  refine lv_istore (pc := 7) (lv' := [(4, .int (0 : Int32)), (0, .ref (a 0)), (1, .ref (b 0)), (2, .int x2), (3, .int x3)]) hx hb dX3_priceBy_7 hl (by decide) rfl (fun ls hl => ?_)
  refine lv_iconst (pc := 9) (v := 0) hx hb dX3_priceBy_9 (by decide) ?_
  refine lv_istore (pc := 10) (lv' := [(5, .int (0 : Int32)), (4, .int (0 : Int32)), (0, .ref (a 0)), (1, .ref (b 0)), (2, .int x2), (3, .int x3)]) hx hb dX3_priceBy_10 hl (by decide) rfl (fun ls hl => ?_)
  refine lb_X3_priceBy_12 C0 KN hA S0 _ _ _ ?_ _ _ _ _ hf _ _ _ X (lv_sub hl [2, 3, 1, 0] rfl)
  · intro S1_e60_16 x4_e60_16 hf H locs ls X hl
    refine lv_iload (pc := 60) hx hb dX3_priceBy_60 (lv_at hl 2 rfl) ?_
    obtain ⟨rfl, rfl⟩ := so_2 hf
    exact x_iret (pc := 62) C0 X dX3_priceBy_62
